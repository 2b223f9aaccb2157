/-- numbers of a replica are small -/
theorem pg_in.sm {F r : Nat} {S : pg_S} (h : pg_in F r S) (hz : S.1.1 ≤ 252) : pg_h S.2 ≤ pg_e S.2 ∧ pg_e S.2 ≤ pg_h S.2 + 4 ∧ 3 * pg_e S.2 ≤ S.1.1 := by
  obtain ⟨a1, a2, a3, a4, a5, a6, a7, a8, a9, b1, b2, b3, c1, c2, c3, d1, d2, d3, e1, e2, e3⟩ := h.1.1
  exact ⟨e1.1, e1.2.1, pg_dd_le e1.2.2 (by omega)⟩
theorem pg_le.r1 {F b r : Nat} {S S' : pg_S} (h : pg_in F r S) (hi : pg_ri b r S) (hz : S.1.1 ≤ 252) (e : pg_r1 r S = some S') : pg_le b r S S' := by
  have hs := h.sm hz
  obtain ⟨a1, a2, a3, a4, a5, a6, a7, a8, a9, b1, b2, b3, c1, c2, c3, d1, d2, d3, e1, e2, e3⟩ := h.1.1
  unfold pg_r1 at e
  split at e
  · cases e
  · rename_i hn
    rw [not_or] at hn
    cases e2 : pg_fst (pg_h S.2) (fun n => pg_ac S.2 n != 0 && !pg_sent S.1 r 2 (pg_vw S.2) n) with
    | none => rw [e2] at e; cases e
    | some n =>
      rw [e2] at e
      cases e
      obtain ⟨n1, n2, n3⟩ := xp_fst_is e2
      simp only [Bool.and_eq_true, bne_iff_ne, Bool.not_eq_true'] at n3
      have hch : pg_ch S.2 = 0 := by have := c1.2.1; omega
      have hb := hi.1
      have hn4 : n ≤ b + 4 := Classical.byContradiction (fun g => n3.1 (hi.2.2.1 hch hn.2 n (by omega)))
      have eV := pg_vcs_own (r := r) (S := S) (k := 2) (x := nI (pg_vw S.2)) (y := lN n) (z := nI (pg_ac S.2 n) - 2) (R' := (pg_own r S 2 (nI (pg_vw S.2)) (lN n) (nI (pg_ac S.2 n) - 2)).2) (by decide) (fun _ => rfl) rfl
      have eG := pg_fG_own (b := b) (r := r) (S := S) (k := 2) (x := nI (pg_vw S.2)) (y := lN n) (z := nI (pg_ac S.2 n) - 2) (R' := (pg_own r S 2 (nI (pg_vw S.2)) (lN n) (nI (pg_ac S.2 n) - 2)).2) hz (fun _ => rfl) (Nat.le_refl _) (show pg_h S.2 < 1000 by omega) (fun g => by omega) (by omega)
      have eQ := pg_fQ_own (b := b) (r := r) (S := S) (k := 2) (x := nI (pg_vw S.2)) (y := lN n) (z := nI (pg_ac S.2 n) - 2) (R' := (pg_own r S 2 (nI (pg_vw S.2)) (lN n) (nI (pg_ac S.2 n) - 2)).2) (fun _ => rfl) rfl
      have eP : pg_fP b r (pg_own r S 2 (nI (pg_vw S.2)) (lN n) (nI (pg_ac S.2 n) - 2)) < pg_fP b r S := by
        unfold pg_fP
        rw [if_pos ⟨hch, hn.2⟩, if_pos ⟨hch, hn.2⟩]
        refine xp_len_lt (i0 := n - (b + 1)) (fun j hj g => ?_) (by omega) ?_ ?_
        · simp only [Bool.not_eq_true'] at g ⊢
          cases e : pg_sent S.1 r 2 (pg_vw S.2) (b + 1 + j)
          · rfl
          · rw [show pg_vw (pg_own r S 2 (nI (pg_vw S.2)) (lN n) (nI (pg_ac S.2 n) - 2)).2 = pg_vw S.2 from rfl, pg_sent_own e] at g
            cases g
        · rw [show b + 1 + (n - (b + 1)) = n by omega, n3.2]; rfl
        · rw [show b + 1 + (n - (b + 1)) = n by omega, show pg_vw (pg_own r S 2 (nI (pg_vw S.2)) (lN n) (nI (pg_ac S.2 n) - 2)).2 = pg_vw S.2 from rfl, pg_sent_new]; rfl
      have eC : pg_fC b r (pg_own r S 2 (nI (pg_vw S.2)) (lN n) (nI (pg_ac S.2 n) - 2)) = pg_fC b r S := rfl
      have eD : pg_fD b (pg_own r S 2 (nI (pg_vw S.2)) (lN n) (nI (pg_ac S.2 n) - 2)) = pg_fD b S := rfl
      have eE : pg_e (pg_own r S 2 (nI (pg_vw S.2)) (lN n) (nI (pg_ac S.2 n) - 2)).2 = pg_e S.2 := rfl
      have eH : pg_h (pg_own r S 2 (nI (pg_vw S.2)) (lN n) (nI (pg_ac S.2 n) - 2)).2 = pg_h S.2 := rfl
      refine ⟨hi.own (fun g => by omega), ?_, ?_⟩
      · rw [pg_own_z]
        unfold pg_ph
        rw [eC, eE]
        have eV' : (pg_vcs (pg_own r S 2 (nI (pg_vw S.2)) (lN n) (nI (pg_ac S.2 n) - 2))).length ≤ (pg_vcs S).length := eV
        have eG' : pg_fG b (pg_own r S 2 (nI (pg_vw S.2)) (lN n) (nI (pg_ac S.2 n) - 2)) ≤ pg_fG b S := eG
        have eQ' : pg_fQ b r (pg_own r S 2 (nI (pg_vw S.2)) (lN n) (nI (pg_ac S.2 n) - 2)) ≤ pg_fQ b r S := eQ
        omega
      · unfold pg_ps pg_ph
        rw [eC, eD, eE, eH]
        have eV' : (pg_vcs (pg_own r S 2 (nI (pg_vw S.2)) (lN n) (nI (pg_ac S.2 n) - 2))).length ≤ (pg_vcs S).length := eV
        have eG' : pg_fG b (pg_own r S 2 (nI (pg_vw S.2)) (lN n) (nI (pg_ac S.2 n) - 2)) ≤ pg_fG b S := eG
        have eQ' : pg_fQ b r (pg_own r S 2 (nI (pg_vw S.2)) (lN n) (nI (pg_ac S.2 n) - 2)) ≤ pg_fQ b r S := eQ
        omega
/-- the sums -/
theorem pg_le.of {b r : Nat} {S S' : pg_S} (hi : pg_ri b r S') {d : Nat} (hz : S'.1.1 ≤ S.1.1 + d) (hd : d + ((10 * ((pg_vcs S').length - 1) + pg_fC b r S' + pg_fG b S') + (pg_fP b r S' + pg_fQ b r S' + 2 * (b + 4 - pg_e S'.2))) ≤ (10 * ((pg_vcs S).length - 1) + pg_fC b r S + pg_fG b S) + (pg_fP b r S + pg_fQ b r S + 2 * (b + 4 - pg_e S.2))) (hD : pg_fD b S' + (400 - pg_h S'.2) ≤ pg_fD b S + (400 - pg_h S.2)) (hlt : 0 < d ∨ pg_fD b S' + (400 - pg_h S'.2) < pg_fD b S + (400 - pg_h S.2)) : pg_le b r S S' := by
  unfold pg_le pg_ps pg_ph
  exact ⟨hi, by omega, by omega⟩
/-- one of two senders is another -/
theorem pg_hr_oth {r : Nat} {S : pg_S} {k : Nat} {x : Int32} {y : Int64} {z : Int32} (h : 2 ≤ pg_hr S k x y z) : ∃ i, i < S.1.1 ∧ pg_no S.2 i = 1 ∧ pg_k S.1 i = k ∧ pg_f S.1 i ≠ r ∧ pg_a S.1 i = x ∧ pg_b S.1 i = y := by
  unfold pg_hr at h
  obtain ⟨i, j, i1, j1, p1, p2, f1, -⟩ := pg_cnt_two h
  simp only [Bool.and_eq_true, beq_iff_eq] at p1 p2
  by_cases e : pg_f S.1 i = r
  · exact ⟨j, j1, p2.1, p2.2.1, by rw [← e]; exact fun g => f1 g.symm, p2.2.2.1, p2.2.2.2.1⟩
  · exact ⟨i, i1, p1.1, p1.2.1, e, p1.2.2.1, p1.2.2.2.1⟩
theorem pg_le.r2 {F b r : Nat} {S S' : pg_S} (h : pg_in F r S) (hi : pg_ri b r S) (hz : S.1.1 ≤ 252) (e : pg_r2 r S = some S') : pg_le b r S S' := by
  have hs := h.sm hz
  unfold pg_r2 at e
  cases e2 : pg_fst (pg_h S.2) (fun n => pg_ac S.2 n != 0 && (!pg_sent S.1 r 3 (pg_vw S.2) n && decide (2 ≤ pg_hr S 2 (nI (pg_vw S.2)) (lN n) (nI (pg_ac S.2 n) - 2)))) with
  | none => rw [e2] at e; cases e
  | some n =>
    rw [e2] at e
    cases e
    obtain ⟨n1, n2, n3⟩ := xp_fst_is e2
    simp only [Bool.and_eq_true, bne_iff_ne, Bool.not_eq_true', decide_eq_true_eq] at n3
    obtain ⟨i, i1, i2, i3, i4, i5, i6⟩ := pg_hr_oth (r := r) n3.2.2
    have hb := hi.1
    have hn4 := hi.2.2.2.1 i n i2 i4 (Or.inl i3) i5 i6 (by omega)
    have hi1 : pg_ri b r (S.1, pg_u S.2 8 n (1 + pg_vw S.2)) := hi
    have eV := pg_vcs_own (r := r) (S := (S.1, pg_u S.2 8 n (1 + pg_vw S.2))) (k := 3) (x := nI (pg_vw S.2)) (y := lN n) (z := nI (pg_ac S.2 n) - 2) (R' := (pg_own r (S.1, pg_u S.2 8 n (1 + pg_vw S.2)) 3 (nI (pg_vw S.2)) (lN n) (nI (pg_ac S.2 n) - 2)).2) (by decide) (fun _ => rfl) rfl
    have eG := pg_fG_own (b := b) (r := r) (S := (S.1, pg_u S.2 8 n (1 + pg_vw S.2))) (k := 3) (x := nI (pg_vw S.2)) (y := lN n) (z := nI (pg_ac S.2 n) - 2) (R' := (pg_own r (S.1, pg_u S.2 8 n (1 + pg_vw S.2)) 3 (nI (pg_vw S.2)) (lN n) (nI (pg_ac S.2 n) - 2)).2) hz (fun _ => rfl) (Nat.le_refl _) (show pg_h S.2 < 1000 by omega) (fun g => by omega) (by omega)
    have eP := pg_fP_own (b := b) (r := r) (S := (S.1, pg_u S.2 8 n (1 + pg_vw S.2))) (k := 3) (x := nI (pg_vw S.2)) (y := lN n) (z := nI (pg_ac S.2 n) - 2) (R' := (pg_own r (S.1, pg_u S.2 8 n (1 + pg_vw S.2)) 3 (nI (pg_vw S.2)) (lN n) (nI (pg_ac S.2 n) - 2)).2) rfl rfl
    generalize hT : pg_own r (S.1, pg_u S.2 8 n (1 + pg_vw S.2)) 3 (nI (pg_vw S.2)) (lN n) (nI (pg_ac S.2 n) - 2) = T at *
    have hv : pg_vw T.2 = pg_vw S.2 := by rw [← hT]; rfl
    have hsn : pg_sent T.1 r 3 (pg_vw S.2) n = true := by rw [← hT]; exact pg_sent_new
    have hso : ∀ m, pg_sent S.1 r 3 (pg_vw S.2) m = true → pg_sent T.1 r 3 (pg_vw S.2) m = true := by
      intro m hm
      rw [← hT]
      exact pg_sent_own (S := (S.1, pg_u S.2 8 n (1 + pg_vw S.2))) hm
    have eQ : pg_fQ b r T < pg_fQ b r S := by
      unfold pg_fQ
      refine xp_len_lt (i0 := n - (b + 1)) (fun j hj g => ?_) (by omega) ?_ ?_
      · simp only [Bool.and_eq_true, Bool.not_eq_true', List.any_eq_true, beq_iff_eq, bne_iff_ne, List.mem_range] at g ⊢
        obtain ⟨g1, q, q1, q2, q3, q4, q5, q6⟩ := g
        rw [hv] at g1 q5
        have hq : ¬ q = S.1.1 := by
          intro e
          rw [← hT, pg_own_f, if_pos e] at q4
          exact q4 rfl
        rw [← hT, pg_own_z] at q1
        rw [← hT, pg_own_no, if_neg hq] at q2
        rw [← hT, pg_own_k, if_neg hq] at q3
        rw [← hT, pg_own_f, if_neg hq] at q4
        rw [← hT, pg_own_a, if_neg hq] at q5
        rw [← hT, pg_own_b, if_neg hq] at q6
        refine ⟨?_, q, (by have q1 : q < S.1.1 + 1 := q1; omega), q2, q3, q4, q5, q6⟩
        cases e : pg_sent S.1 r 3 (pg_vw S.2) (b + 1 + j)
        · rfl
        · rw [hso _ e] at g1
          cases g1
      · rw [show b + 1 + (n - (b + 1)) = n by omega, n3.2.1]
        simp only [Bool.and_eq_true, Bool.not_false, List.any_eq_true, beq_iff_eq, bne_iff_ne, List.mem_range, true_and]
        exact ⟨i, i1, i2, i3, i4, i5, i6⟩
      · rw [show b + 1 + (n - (b + 1)) = n by omega, hv, hsn]; rfl
    have eC : pg_fC b r T = pg_fC b r S := by rw [← hT]; rfl
    have eD : pg_fD b T = pg_fD b S := by rw [← hT]; rfl
    have eE : pg_e T.2 = pg_e S.2 := by rw [← hT]; rfl
    have eH : pg_h T.2 = pg_h S.2 := by rw [← hT]; rfl
    have eZ : T.1.1 = S.1.1 + 1 := by rw [← hT]; rfl
    have eV' : (pg_vcs T).length ≤ (pg_vcs S).length := eV
    have eG' : pg_fG b T ≤ pg_fG b S := eG
    have eP' : pg_fP b r T ≤ pg_fP b r S := eP
    refine pg_le.of (d := 1) (by rw [← hT]; exact hi1.own (fun g => by omega)) (by omega) ?_ (by rw [eD, eH]; exact Nat.le_refl _) (Or.inl (by decide))
    rw [eC, eE]
    omega
theorem pg_le.r3 {F b r : Nat} {S S' : pg_S} (h : pg_in F r S) (hi : pg_ri b r S) (hz : S.1.1 ≤ 252) (e : pg_r3 r S = some S') : pg_le b r S S' := by
  have hs := h.sm hz
  unfold pg_r3 at e
  cases e2 : pg_fst (pg_h S.2) (fun n => pg_ac S.2 n != 0 && (pg_de S.2 n == 0 && (pg_sent S.1 r 3 (pg_vw S.2) n && decide (3 ≤ pg_hr S 3 (nI (pg_vw S.2)) (lN n) (nI (pg_ac S.2 n) - 2))))) with
  | none => rw [e2] at e; cases e
  | some n =>
    rw [e2] at e
    cases e
    obtain ⟨n1, n2, n3⟩ := xp_fst_is e2
    simp only [Bool.and_eq_true, bne_iff_ne, beq_iff_eq, decide_eq_true_eq] at n3
    obtain ⟨i, i1, i2, i3, i4, i5, i6⟩ := pg_hr_oth (r := r) (Nat.le_trans (by decide) n3.2.2.2)
    have hb := hi.1
    have hn4 := hi.2.2.2.1 i n i2 i4 (Or.inr i3) i5 i6 (by omega)
    have hde : ∀ k, pg_de (pg_u S.2 7 n (pg_ac S.2 n)) k = if k = n then pg_ac S.2 n else pg_de S.2 k := by
      intro k
      show (if 7 = 7 ∧ k = n then _ else pg_de S.2 k) = _
      simp
    have lt : pg_fD b (S.1, pg_u S.2 7 n (pg_ac S.2 n)) < pg_fD b S := by
      unfold pg_fD
      refine xp_len_lt (i0 := n - (b + 1)) (fun j hj g => ?_) (by omega) ?_ ?_
      · simp only [Bool.and_eq_true, beq_iff_eq, decide_eq_true_eq] at g ⊢
        refine ⟨g.1, ?_⟩
        have g2 := g.2
        rw [hde] at g2
        split at g2
        · exact absurd g2 n3.1
        · exact g2
      · simp only [Bool.and_eq_true, beq_iff_eq, decide_eq_true_eq]
        rw [show b + 1 + (n - (b + 1)) = n by omega]
        exact ⟨n1, n3.2.1⟩
      · rw [show b + 1 + (n - (b + 1)) = n by omega, hde, if_pos rfl, Bool.and_eq_false_iff]
        refine Or.inr ?_
        simpa using n3.1
    refine pg_le.of (d := 0) ⟨hi.1, fun k hk => ?_, hi.2.2⟩ (Nat.le_refl _) (by rw [Nat.zero_add]; exact Nat.le_refl _) ?_ (Or.inr ?_)
    · show pg_de (pg_u S.2 7 n (pg_ac S.2 n)) k = 0
      rw [hde, if_neg (by omega)]
      exact hi.2.1 k hk
    · exact Nat.le_of_lt (Nat.add_lt_add_right (lt) (400 - pg_h S.2))
    · exact Nat.add_lt_add_right lt (400 - pg_h S.2)
