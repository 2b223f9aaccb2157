/-- a REPLY or a CHECKPOINT -/
theorem pg_ph_own {b r : Nat} {S : pg_S} {k : Nat} {x : Int32} {y : Int64} {z : Int32} (hk : k = 4 ∨ k = 7) (hz : S.1.1 ≤ 252) (hh : pg_h S.2 < 1000) (hb : b < 900) (h7 : k = 7 → ∃ n, n ≤ b + 4 ∧ x = nI n) : pg_ph b r (pg_own r S k x y z) ≤ pg_ph b r S := by
  have eV : (pg_vcs (pg_own r S k x y z)).length ≤ (pg_vcs S).length := pg_vcs_own (R' := (pg_own r S k x y z).2) (by omega) (fun _ => rfl) rfl
  have eG : pg_fG b (pg_own r S k x y z) ≤ pg_fG b S := pg_fG_own (R' := (pg_own r S k x y z).2) hz (fun _ => rfl) (Nat.le_refl _) hh h7 (by omega)
  have eP : pg_fP b r (pg_own r S k x y z) ≤ pg_fP b r S := pg_fP_own (R' := (pg_own r S k x y z).2) rfl rfl
  have eQ : pg_fQ b r (pg_own r S k x y z) ≤ pg_fQ b r S := pg_fQ_own (R' := (pg_own r S k x y z).2) (fun _ => rfl) rfl
  have eC : pg_fC b r (pg_own r S k x y z) = pg_fC b r S := rfl
  have eE : pg_e (pg_own r S k x y z).2 = pg_e S.2 := rfl
  unfold pg_ph
  rw [eC, eE]
  omega
theorem pg_le.r4 {F b r : Nat} {S S' : pg_S} (h : pg_in F r S) (hi : pg_ri b r S) (hz : S.1.1 ≤ 251) (e : pg_r4 r S = some S') : pg_le b r S S' := by
  have hs := h.sm (by omega)
  have hb := hi.1
  unfold pg_r4 at e
  simp only at e
  split at e
  · cases e
  · rename_i hd
    have he1 : pg_e S.2 + 1 ≤ b + 4 := Classical.byContradiction (fun g => hd (hi.2.1 _ (by omega)))
    have hi1 : pg_ri b r (S.1, pg_u S.2 3 0 (pg_e S.2 + 1)) := hi
    have p1 : pg_ph b r (S.1, pg_u S.2 3 0 (pg_e S.2 + 1)) + 2 ≤ pg_ph b r S := by
      show 10 * ((pg_vcs S).length - 1) + pg_fC b r S + pg_fG b S + pg_fP b r S + pg_fQ b r S + 2 * (b + 4 - (pg_e S.2 + 1)) + 2 ≤ 10 * ((pg_vcs S).length - 1) + pg_fC b r S + pg_fG b S + pg_fP b r S + pg_fQ b r S + 2 * (b + 4 - pg_e S.2)
      omega
    have hS2 : ∃ S2 : pg_S, S2 = (if 2 ≤ pg_de S.2 (pg_e S.2 + 1) ∧ pg_wt (S.1, pg_u S.2 3 0 (pg_e S.2 + 1)) (pg_de S.2 (pg_e S.2 + 1) - 2) = true then pg_srv r (S.1, pg_u S.2 3 0 (pg_e S.2 + 1)) (pg_de S.2 (pg_e S.2 + 1) - 2) else (S.1, pg_u S.2 3 0 (pg_e S.2 + 1))) := ⟨_, rfl⟩
    obtain ⟨S2, hS2⟩ := hS2
    rw [← hS2] at e
    have q : pg_ri b r S2 ∧ pg_ph b r S2 + 2 ≤ pg_ph b r S ∧ S2.1.1 ≤ S.1.1 + 1 ∧ pg_fD b S2 = pg_fD b S ∧ pg_h S2.2 = pg_h S.2 ∧ pg_e S2.2 = pg_e S.2 + 1 := by
      by_cases g : 2 ≤ pg_de S.2 (pg_e S.2 + 1) ∧ pg_wt (S.1, pg_u S.2 3 0 (pg_e S.2 + 1)) (pg_de S.2 (pg_e S.2 + 1) - 2) = true
      · rw [if_pos g] at hS2
        rw [hS2]
        refine ⟨?_, ?_, Nat.le_refl _, rfl, rfl, rfl⟩
        · exact pg_ri.own (S := (S.1, pg_u (pg_u (pg_ss (pg_u S.2 3 0 (pg_e S.2 + 1)) (pg_nst S.1 (pg_de S.2 (pg_e S.2 + 1) - 2) S.2.2)) 4 0 4) 11 0 1)) hi1 (fun g => by omega)
        · exact Nat.le_trans (Nat.add_le_add_right (pg_ph_own (b := b) (r := r) (S := (S.1, pg_u (pg_u (pg_ss (pg_u S.2 3 0 (pg_e S.2 + 1)) (pg_nst S.1 (pg_de S.2 (pg_e S.2 + 1) - 2) S.2.2)) 4 0 4) 11 0 1)) (k := 4) (Or.inl rfl) (show S.1.1 ≤ 252 by omega) (show pg_h S.2 < 1000 by omega) (by omega) (fun g => by omega)) 2) p1
      · rw [if_neg g] at hS2
        rw [hS2]
        exact ⟨hi1, p1, Nat.le_succ _, rfl, rfl, rfl⟩
    obtain ⟨q1, q2, q3, q4, q5, q6⟩ := q
    cases e
    split
    · have p2 := pg_ph_own (b := b) (r := r) (S := S2) (k := 7) (x := nI (pg_e S2.2)) (y := S2.2.2) (z := 0) (Or.inr rfl) (by omega) (by omega) (by omega) (fun _ => ⟨pg_e S2.2, by omega, rfl⟩)
      refine ⟨q1.own (fun _ => ⟨pg_e S2.2, by omega, rfl⟩), ?_, ?_⟩
      · rw [pg_own_z]; omega
      · unfold pg_ps
        have d1 : pg_fD b (pg_own r S2 7 (nI (pg_e S2.2)) S2.2.2 0) = pg_fD b S2 := rfl
        have d2 : pg_h (pg_own r S2 7 (nI (pg_e S2.2)) S2.2.2 0).2 = pg_h S2.2 := rfl
        rw [d1, d2, q4, q5]
        omega
    · refine ⟨q1, by omega, ?_⟩
      unfold pg_ps
      rw [q4, q5]
      omega
/-! rule 5 -/
theorem pg_nxt_ge {R : pg_R} {k : Nat} (h1 : pg_h R < k) (h2 : k ≤ pg_h R + 4) (h : pg_ac R k ≠ 0) : k + 1 ≤ pg_nxt R := by
  unfold pg_nxt
  by_cases h4 : pg_ac R (pg_h R + 4) ≠ 0
  · rw [if_pos h4]; omega
  rw [if_neg h4]
  by_cases h3 : pg_ac R (pg_h R + 3) ≠ 0
  · rw [if_pos h3]
    have : k ≠ pg_h R + 4 := by rintro rfl; exact h4 h
    omega
  rw [if_neg h3]
  by_cases h2' : pg_ac R (pg_h R + 2) ≠ 0
  · rw [if_pos h2']
    have : k ≠ pg_h R + 4 := by rintro rfl; exact h4 h
    have : k ≠ pg_h R + 3 := by rintro rfl; exact h3 h
    omega
  rw [if_neg h2']
  by_cases h1' : pg_ac R (pg_h R + 1) ≠ 0
  · rw [if_pos h1']
    have : k ≠ pg_h R + 4 := by rintro rfl; exact h4 h
    have : k ≠ pg_h R + 3 := by rintro rfl; exact h3 h
    have : k ≠ pg_h R + 2 := by rintro rfl; exact h2' h
    omega
  · have : k ≠ pg_h R + 4 := by rintro rfl; exact h4 h
    have : k ≠ pg_h R + 3 := by rintro rfl; exact h3 h
    have : k ≠ pg_h R + 2 := by rintro rfl; exact h2' h
    have : k ≠ pg_h R + 1 := by rintro rfl; exact h1' h
    omega
theorem pg_nxt_le {R : pg_R} (h : pg_h R + 1 < pg_nxt R) : pg_ac R (pg_nxt R - 1) ≠ 0 ∧ pg_nxt R ≤ pg_h R + 5 := by
  unfold pg_nxt at h ⊢
  by_cases h4 : pg_ac R (pg_h R + 4) ≠ 0
  · rw [if_pos h4]; exact ⟨h4, by omega⟩
  rw [if_neg h4] at h ⊢
  by_cases h3 : pg_ac R (pg_h R + 3) ≠ 0
  · rw [if_pos h3]; exact ⟨h3, by omega⟩
  rw [if_neg h3] at h ⊢
  by_cases h2' : pg_ac R (pg_h R + 2) ≠ 0
  · rw [if_pos h2']; exact ⟨h2', by omega⟩
  rw [if_neg h2'] at h ⊢
  by_cases h1' : pg_ac R (pg_h R + 1) ≠ 0
  · rw [if_pos h1']; exact ⟨h1', by omega⟩
  rw [if_neg h1'] at h
  omega
/-- rule 5 takes the greatest -/
theorem pg_bst_max {S : pg_S} : ∀ {z i : Nat}, pg_bst S z = some i → ∀ j, j < z → pg_no S.2 j = 1 → pg_k S.1 j = 7 → nI (pg_h S.2) < pg_a S.1 j → 3 ≤ pg_hr S 7 (pg_a S.1 j) (pg_b S.1 j) 0 → pg_a S.1 j ≤ pg_a S.1 i := by
  intro z i h j j1 j2 j3 j4 j5
  have hb := pg_bst_bs S z
  rw [h] at hb
  exact hb.2.2.2 j ⟨j1, j2, j3⟩ j5 j4
theorem pg_le.r5 {F b r : Nat} {S S' : pg_S} (h : pg_in F r S) (hi : pg_ri b r S) (hz : S.1.1 ≤ 252) (e : pg_r5 S = some S') : pg_le b r S S' := by
  have hs := h.sm hz
  have hb := hi.1
  unfold pg_r5 at e
  cases e2 : pg_bst S S.1.1 with
  | none => rw [e2] at e; cases e
  | some i =>
    rw [e2] at e
    cases e
    obtain ⟨i1, i2, i3, i4, i5⟩ := pg_bst_some e2
    obtain ⟨n, n1, n2, n3, n4, n5⟩ := pg_hr_cert h (by omega) i1 i3 i5
    have hh : pg_h S.2 < n := by
      rw [n1, nI_ltI (by omega) (by omega)] at i4
      exact i4
    rw [n2]
    generalize hx : pg_b S.1 i = x
    have Fo := fun t k h2 h3 h6 h7 h8 => pg_set_oth S.2 n x t k h2 h3 h6 h7 h8
    have Fv : pg_vw (pg_set S.2 n x) = pg_vw S.2 := Fo 0 0 (by decide) (by decide) (by decide) (by decide) (by decide)
    have Fc : pg_ch (pg_set S.2 n x) = pg_ch S.2 := Fo 1 0 (by decide) (by decide) (by decide) (by decide) (by decide)
    have Fn : ∀ k, pg_no (pg_set S.2 n x) k = pg_no S.2 k := fun k => Fo 9 k (by decide) (by decide) (by decide) (by decide) (by decide)
    have Fh : pg_h (pg_set S.2 n x) = n := pg_set_h S.2 n x
    have Fac : ∀ k, pg_ac (pg_set S.2 n x) k = if k ≤ n then 0 else pg_ac S.2 k := pg_set_ac S.2 n x
    have Fde : ∀ k, pg_de (pg_set S.2 n x) k = if k ≤ n then 0 else pg_de S.2 k := by
      intro k
      rw [show pg_de (pg_set S.2 n x) k = (pg_set S.2 n x).1 7 k from rfl, pg_set_at, if_neg (by omega), if_neg (by omega)]
      by_cases g : k ≤ n
      · rw [if_pos ⟨Or.inr (Or.inl rfl), g⟩, if_pos g]
      · rw [if_neg (by omega), if_neg g]
    have Fe : pg_e S.2 ≤ pg_e (pg_set S.2 n x) := by
      rw [show pg_e (pg_set S.2 n x) = (pg_set S.2 n x).1 3 0 from rfl, pg_set_at, if_neg (by omega)]
      by_cases g : n ≤ pg_e S.2
      · rw [if_neg (by omega), if_neg (by omega)]; exact Nat.le_refl _
      · rw [if_pos (by omega)]; omega
    have eV : pg_vcs (S.1, pg_set S.2 n x) = pg_vcs S := by
      unfold pg_vcs
      show (List.range S.1.1).filter (fun i => pg_no (pg_set S.2 n x) i == 1 && (pg_k S.1 i == 5 && decide (nI (pg_vw (pg_set S.2 n x)) < pg_a S.1 i))) = _
      simp only [Fn, Fv]
    have eP : pg_fP b r (S.1, pg_set S.2 n x) = pg_fP b r S := by
      unfold pg_fP
      show (if pg_ch (pg_set S.2 n x) = 0 ∧ ¬ pg_vw (pg_set S.2 n x) % 4 = r then xp_c (fun j => !pg_sent S.1 r 2 (pg_vw (pg_set S.2 n x)) (b + 1 + j)) 4 else 0) = _
      simp only [Fc, Fv]
    have eQ : pg_fQ b r (S.1, pg_set S.2 n x) = pg_fQ b r S := by
      unfold pg_fQ
      simp only [Fn, Fv]
    have ehr : ∀ a' b' c', pg_hr (S.1, pg_set S.2 n x) 7 a' b' c' = pg_hr S 7 a' b' c' := by
      intro a' b' c'
      unfold pg_hr
      simp only [Fn]
    have ebig : ∀ q, pg_big b (S.1, pg_set S.2 n x) q = true → pg_big b S q = true ∧ nI n < pg_a S.1 q := by
      intro q hq
      unfold pg_big at hq ⊢
      simp only [Bool.and_eq_true, beq_iff_eq, decide_eq_true_eq, Fn, Fh, ehr] at hq ⊢
      refine ⟨⟨hq.1, hq.2.1, ?_, hq.2.2.2.1, hq.2.2.2.2⟩, hq.2.2.1⟩
      have := hq.2.2.1
      rw [Int32.lt_iff_toInt_lt, nI_toInt (by omega)] at this ⊢
      omega
    have eG : pg_fG b (S.1, pg_set S.2 n x) ≤ pg_fG b S := by
      unfold pg_fG
      by_cases g : (List.range S.1.1).any (pg_big b (S.1, pg_set S.2 n x)) = true
      · rw [if_pos g]
        rw [List.any_eq_true] at g
        obtain ⟨q, q1, q2⟩ := g
        rw [if_pos (by rw [List.any_eq_true]; exact ⟨q, q1, (ebig q q2).1⟩)]
        exact Nat.le_refl 4
      · rw [if_neg g]
        exact Nat.zero_le _
    have eC : pg_fC b r (S.1, pg_set S.2 n x) + pg_fG b (S.1, pg_set S.2 n x) ≤ pg_fC b r S + pg_fG b S := by
      unfold pg_fC
      show (if pg_ch (pg_set S.2 n x) = 1 then 9 else if pg_vw (pg_set S.2 n x) % 4 = r then max (pg_h (pg_set S.2 n x)) (b + 4) + 5 - pg_nxt (pg_set S.2 n x) else 0) + _ ≤ _
      rw [Fc, Fv, Fh]
      by_cases g1 : pg_ch S.2 = 1
      · rw [if_pos g1, if_pos g1]; omega
      rw [if_neg g1, if_neg g1]
      by_cases g2 : pg_vw S.2 % 4 = r
      · rw [if_pos g2, if_pos g2]
        have hx1 := (pg_nxt_is (pg_set S.2 n x)).1
        rw [Fh] at hx1
        by_cases g3 : n ≤ b + 4
        · have : pg_nxt S.2 ≤ pg_nxt (pg_set S.2 n x) := by
            by_cases g4 : pg_nxt S.2 ≤ n + 1
            · omega
            · obtain ⟨k1, k2⟩ := pg_nxt_le (R := S.2) (by omega)
              have := pg_nxt_ge (R := pg_set S.2 n x) (k := pg_nxt S.2 - 1) (by rw [Fh]; omega) (by rw [Fh]; omega) (by rw [Fac, if_neg (by omega)]; exact k1)
              omega
          omega
        · have G1 : pg_fG b S = 4 := by
            unfold pg_fG
            rw [if_pos]
            rw [List.any_eq_true]
            refine ⟨i, List.mem_range.mpr i1, ?_⟩
            unfold pg_big
            simp only [Bool.and_eq_true, beq_iff_eq, decide_eq_true_eq]
            refine ⟨i2, i3, i4, ?_, i5⟩
            rw [n1, nI_ltI (by omega) (by omega)]
            omega
          have G2 : pg_fG b (S.1, pg_set S.2 n x) = 0 := by
            unfold pg_fG
            rw [if_neg]
            intro g
            rw [List.any_eq_true] at g
            obtain ⟨q, q1, q2⟩ := g
            obtain ⟨q3, q4⟩ := ebig q q2
            unfold pg_big at q3
            simp only [Bool.and_eq_true, beq_iff_eq, decide_eq_true_eq] at q3
            have := pg_bst_max e2 q (List.mem_range.mp q1) q3.1 q3.2.1 q3.2.2.1 q3.2.2.2.2
            rw [n1, Int32.le_iff_toInt_le] at this
            rw [Int32.lt_iff_toInt_lt] at q4
            omega
          omega
      · rw [if_neg g2, if_neg g2]; omega
    have eD : pg_fD b (S.1, pg_set S.2 n x) ≤ pg_fD b S := by
      unfold pg_fD
      refine xp_len_mono (Nat.le_refl 4) (fun j hj g => ?_)
      simp only [Bool.and_eq_true, beq_iff_eq, decide_eq_true_eq, Fh, Fde] at g ⊢
      rw [if_neg (by omega)] at g
      exact ⟨by omega, g.2⟩
    refine pg_le.of (d := 0) ⟨by show b ≤ pg_h (pg_set S.2 n x); omega, fun k hk => ?_, fun k1 k2 k hk => ?_, fun q k q1 q2 q3 q4 q5 q6 => ?_, fun q q1 q2 q3 => ?_⟩ (Nat.le_refl _) ?_ ?_ (Or.inr ?_)
    · show pg_de (pg_set S.2 n x) k = 0
      rw [Fde]
      split
      · rfl
      · exact hi.2.1 k hk
    · show pg_ac (pg_set S.2 n x) k = 0
      rw [Fac]
      split
      · rfl
      · exact hi.2.2.1 (by rw [← Fc]; exact k1) (by rw [← Fv]; exact k2) k hk
    · exact hi.2.2.2.1 q k (by rw [← Fn]; exact q1) q2 q3 (by rw [← Fv]; exact q4) q5 q6
    · exact hi.2.2.2.2 q (by rw [← Fn]; exact q1) q2 q3
    · rw [eV, eP, eQ]
      show 0 + (_ + (_ + _ + 2 * (b + 4 - pg_e (pg_set S.2 n x)))) ≤ _
      omega
    · show _ + (400 - pg_h (pg_set S.2 n x)) ≤ _
      omega
    · show _ + (400 - pg_h (pg_set S.2 n x)) < _
      omega
/-! rules 6, 7, 8 -/
theorem pg_le.r6 {F b r : Nat} {S S' : pg_S} (h : pg_in F r S) (hi : pg_ri b r S) (hz : S.1.1 ≤ 252) (e : pg_r6 r S = some S') : pg_le b r S S' := by
  have hs := h.sm hz
  have hb := hi.1
  obtain ⟨a1, a2, a3, a4, a5, a6, a7, a8, a9, b1, b2, b3, c1, c2, c3, d1, d2, d3, e1, e2, e3⟩ := h.1.1
  unfold pg_r6 at e
  split at e
  · cases e
  · rename_i hl
    obtain ⟨i0, i1, h1, h2, h3⟩ := pg_vcs_fold h hl
    cases e
    generalize (pg_vcs S).foldl (fun l i => min l (pg_a S.1 i).toInt.toNat) 99 = v at *
    obtain ⟨i2, i3, i4, i5⟩ := (pg_vcs_mem S i0).mp i1
    have hT : ∃ T, T = pg_beg r S v := ⟨_, rfl⟩
    obtain ⟨T, hT⟩ := hT
    rw [← hT]
    have hbeg : pg_beg r S v = pg_own r (S.1, pg_u (pg_u (pg_mv S.2 v) 1 0 1) 4 0 (min (2 * pg_sp S.2) 32)) 5 (nI v) (lN (pg_h S.2)) (xp_cls S.2 4) := pg_beg_cls r S v
    rw [hbeg] at hT
    have hfre : ∀ i, pg_no S.2 i = 1 → (pg_k S.1 i = 2 ∨ pg_k S.1 i = 3) → ¬ pg_a S.1 i = nI v := by
      intro i i1 i2 i3
      obtain ⟨w, w1, w2⟩ := b2 i i1 i2
      rw [w2, nI_eq (by omega) (by omega)] at i3
      omega
    have hi1 : pg_ri b r (S.1, pg_u (pg_u (pg_mv S.2 v) 1 0 1) 4 0 (min (2 * pg_sp S.2) 32)) :=
      ⟨hi.1, hi.2.1, fun g => absurd g (show ¬ 1 = 0 by decide), fun i n q1 q2 q3 q4 => absurd q4 (hfre i q1 q3), hi.2.2.2.2⟩
    have eG : pg_fG b T ≤ pg_fG b S := by
      rw [hT]
      exact pg_fG_own (b := b) (r := r) (S := (S.1, pg_u (pg_u (pg_mv S.2 v) 1 0 1) 4 0 (min (2 * pg_sp S.2) 32))) (R' := (pg_own r (S.1, pg_u (pg_u (pg_mv S.2 v) 1 0 1) 4 0 (min (2 * pg_sp S.2) 32)) 5 (nI v) (lN (pg_h S.2)) (xp_cls S.2 4)).2) hz (fun _ => rfl) (Nat.le_refl _) (show pg_h S.2 < 1000 by omega) (fun g => by omega) (by omega)
    have eQ : pg_fQ b r T = 0 := by
      unfold pg_fQ xp_c
      have : (List.range 4).filter (fun j => !pg_sent T.1 r 3 (pg_vw T.2) (b + 1 + j) && (List.range T.1.1).any (fun i => pg_no T.2 i == 1 && (pg_k T.1 i == 2 && (pg_f T.1 i != r && (pg_a T.1 i == nI (pg_vw T.2) && pg_b T.1 i == lN (b + 1 + j)))))) = [] := by
        rw [List.filter_eq_nil_iff]
        intro j _ g
        simp only [Bool.and_eq_true, Bool.not_eq_true', List.any_eq_true, beq_iff_eq, bne_iff_ne, List.mem_range] at g
        obtain ⟨-, q, q1, q2, q3, q4, q5, q6⟩ := g
        have hv : pg_vw T.2 = v := by rw [hT]; rfl
        rw [hv] at q5
        have hq : ¬ q = S.1.1 := by
          intro e
          rw [hT, pg_own_f, if_pos e] at q4
          exact q4 rfl
        rw [hT, pg_own_no, if_neg hq] at q2
        rw [hT, pg_own_k, if_neg hq] at q3
        rw [hT, pg_own_a, if_neg hq] at q5
        exact hfre q q2 (Or.inl q3) q5
      rw [this]
      rfl
    have eP : pg_fP b r T = 0 := by
      unfold pg_fP
      rw [if_neg]
      rintro ⟨g, -⟩
      rw [hT] at g
      exact absurd g (show ¬ 1 = 0 by decide)
    have eC : pg_fC b r T = 9 := by
      unfold pg_fC
      rw [if_pos]
      rw [hT]; rfl
    have eD : pg_fD b T = pg_fD b S := by rw [hT]; rfl
    have eE : pg_e T.2 = pg_e S.2 := by rw [hT]; rfl
    have eH : pg_h T.2 = pg_h S.2 := by rw [hT]; rfl
    have eZ : T.1.1 = S.1.1 + 1 := by rw [hT]; rfl
    have eV : (pg_vcs T).length < (pg_vcs S).length := by
      unfold pg_vcs
      rw [eZ, List.range_succ, List.filter_append, List.length_append]
      have hv : pg_vw T.2 = v := by rw [hT]; rfl
      have z0 : (pg_no T.2 S.1.1 == 1 && (pg_k T.1 S.1.1 == 5 && decide (nI (pg_vw T.2) < pg_a T.1 S.1.1))) = false := by
        have : pg_a T.1 S.1.1 = nI v := by rw [hT, pg_own_a, if_pos rfl]
        rw [this, hv, decide_eq_false (by rw [nI_ltI (by omega) (by omega)]; omega), Bool.and_false, Bool.and_false]
      have e0 : ([S.1.1].filter (fun i => pg_no T.2 i == 1 && (pg_k T.1 i == 5 && decide (nI (pg_vw T.2) < pg_a T.1 i)))).length = 0 := by
        rw [List.filter_cons_of_neg (by rw [z0]; decide)]
        rfl
      rw [e0, Nat.add_zero]
      have hold : ∀ i, i < S.1.1 → pg_no T.2 i = pg_no S.2 i ∧ pg_k T.1 i = pg_k S.1 i ∧ pg_a T.1 i = pg_a S.1 i := by
        intro i hi
        have hi2 : ¬ i = S.1.1 := by omega
        refine ⟨?_, ?_, ?_⟩
        · rw [hT, pg_own_no, if_neg hi2]; rfl
        · rw [hT, pg_own_k, if_neg hi2]
        · rw [hT, pg_own_a, if_neg hi2]
      refine xp_len_lt (i0 := i0) (fun i hi g => ?_) i2 ?_ ?_
      · obtain ⟨g1, g2, g3⟩ := hold i hi
        rw [g1, g2, g3, hv] at g
        simp only [Bool.and_eq_true, beq_iff_eq, decide_eq_true_eq] at g ⊢
        refine ⟨g.1, g.2.1, ?_⟩
        have g4 := g.2.2
        rw [Int32.lt_iff_toInt_lt, nI_toInt (by omega)] at g4 ⊢
        omega
      · simp only [Bool.and_eq_true, beq_iff_eq, decide_eq_true_eq]
        exact ⟨i3, i4, i5⟩
      · obtain ⟨g1, g2, g3⟩ := hold i0 i2
        rw [g3, hv, h3, decide_eq_false (by rw [nI_ltI (by omega) (by omega)]; omega), Bool.and_false, Bool.and_false]
    refine pg_le.of (d := 1) (by rw [hT]; exact hi1.own (fun g => by omega)) (by omega) ?_ (by rw [eD, eH]; exact Nat.le_refl _) (Or.inl (by decide))
    rw [eC, eE, eP, eQ]
    omega
