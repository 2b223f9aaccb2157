/-! what it takes -/
theorem pg_nts_no {S : pg_S} {k s : Nat} {x : Int32} {y : Int64} (h : pg_nts S k s x y = false) (i : Nat) (h1 : i < S.1.1) (h2 : pg_no S.2 i = 1) (h3 : pg_k S.1 i = k) (h4 : pg_f S.1 i = s) (h5 : pg_a S.1 i = x) (h6 : k = 7 ∨ pg_b S.1 i = y) : False := by
  unfold pg_nts at h
  rw [List.any_eq_false] at h
  refine h i (List.mem_range.mpr h1) ?_
  simp only [Bool.and_eq_true, beq_iff_eq, Bool.or_eq_true]
  exact ⟨h2, h3, h4, h5, h6⟩
theorem pg_jc.note {r : Nat} {S : pg_S} (h : pg_jc r S) {m k : Nat} (hm : m < S.1.1) (hk : pg_k S.1 m = k) (hk5 : k = 2 ∨ k = 3 ∨ k = 7) (hf : pg_f S.1 m ≠ r) (h23 : k = 2 ∨ k = 3 → pg_ch S.2 = 0 ∧ pg_a S.1 m = nI (pg_vw S.2) ∧ ∃ n, n ≤ pg_h S.2 + 4 ∧ n < 1000 ∧ pg_b S.1 m = lN n) (hn : pg_nts S k (pg_f S.1 m) (pg_a S.1 m) (if k = 7 then 0 else pg_b S.1 m) = false) : pg_jc r (S.1, pg_u S.2 9 m 1) := by
  obtain ⟨a1, a2, a3, a4, a5, a6, a7, a8, a9, b1, b2, b3, c1, c2, c3, d1, d2, d3, e1, e2, e3⟩ := h
  have N := fun i => pg_no_u S.2 m i
  have old : ∀ {i}, i ≠ m → pg_no (pg_u S.2 9 m 1) i = 1 → pg_no S.2 i = 1 := by
    intro i hi h
    rw [N, if_neg hi] at h
    exact h
  refine ⟨⟨a1.1, fun q hq => ?_⟩, fun q => ⟨?_, (a2 q).2⟩, ?_, ?_, ?_, ?_, ?_, ?_, ?_, ?_, ?_, ?_, c1, c2, ⟨c3.1, ?_⟩, d1, d2, d3, e1, e2, e3⟩
  · by_cases e : q = m
    · rw [e]; exact hm
    · exact a1.2 q (old e hq)
  · show pg_no (pg_u S.2 9 m 1) q ≤ 1
    rw [N]
    split
    · exact Nat.le_refl 1
    · exact (a2 q).1
  · intro i i1 i2
    show pg_no (pg_u S.2 9 m 1) i = 1 ↔ _
    rw [N, if_neg (by rintro rfl; exact hf i2)]
    exact a3 i i1 i2
  · intro i j i1 i2 i3 i4 i5 i6 i7 i8 i9
    have i5 : pg_k S.1 i = 2 ∨ pg_k S.1 i = 3 := i5
    have i6 : pg_k S.1 i = pg_k S.1 j := i6
    by_cases ei : i = m
    · by_cases ej : j = m
      · rw [ei, ej]
      · have h7 : ¬ k = 7 := by rw [← hk, ← ei]; omega
        subst ei
        exact (pg_nts_no hn j i2 (old ej i4) (i6.symm.trans hk) i7.symm i8.symm (Or.inr (by rw [if_neg h7]; exact i9.symm))).elim
    · by_cases ej : j = m
      · have h7 : ¬ k = 7 := by rw [← hk, ← ej]; omega
        subst ej
        exact (pg_nts_no hn i i1 (old ei i3) (i6.trans hk) i7 i8 (Or.inr (by rw [if_neg h7]; exact i9))).elim
      · exact a4 i j i1 i2 (old ei i3) (old ej i4) i5 i6 i7 i8 i9
  · intro i j i1 i2 i3 i4 i5 i6 i7 i8
    by_cases ei : i = m
    · by_cases ej : j = m
      · rw [ei, ej]
      · subst ei
        have : k = 7 := hk.symm.trans i5
        exact (pg_nts_no hn j i2 (old ej i4) (by rw [this]; exact i6) i7.symm i8.symm (Or.inl this)).elim
    · by_cases ej : j = m
      · subst ej
        have : k = 7 := hk.symm.trans i6
        exact (pg_nts_no hn i i1 (old ei i3) (by rw [this]; exact i5) i7 i8 (Or.inl this)).elim
      · exact a5 i j i1 i2 (old ei i3) (old ej i4) i5 i6 i7 i8
  · intro i j i3 i4 i5 i6
    have i5 : pg_k S.1 i = 5 := i5
    have i6 : pg_k S.1 j = 5 := i6
    exact a6 i j (old (by rintro rfl; omega) i3) (old (by rintro rfl; omega) i4) i5 i6
  · intro i i1 i3 i5
    have i5 : pg_k S.1 i = 5 := i5
    exact a7 i i1 (old (by rintro rfl; omega) i3) i5
  · intro i i1 i3 i5
    have i5 : pg_k S.1 i = 5 := i5
    exact a8 i i1 (old (by rintro rfl; omega) i3) i5
  · intro i j i1 i2 i3 i4 i5 i6
    have i5 : pg_k S.1 i = 5 := i5
    have i6 : pg_k S.1 j = 5 := i6
    exact a9 i j i1 i2 (old (by rintro rfl; omega) i3) (old (by rintro rfl; omega) i4) i5 i6
  · intro i i1 i3 i5
    have i5 : pg_k S.1 i = 5 := i5
    exact b1 i i1 (old (by rintro rfl; omega) i3) i5
  · intro i i3 i5
    by_cases e : i = m
    · subst e
      exact ⟨_, Nat.le_refl _, (h23 (by rw [← hk]; exact i5)).2.1⟩
    · exact b2 i (old e i3) i5
  · intro hc i i3 i5
    have hc : pg_ch S.2 = 1 := hc
    by_cases e : i = m
    · subst e
      have := (h23 (by rw [← hk]; exact i5)).1
      omega
    · exact b3 hc i (old e i3) i5
  · intro i n i3 i5 i6 i7 i8 i9
    by_cases e : i = m
    · subst e
      obtain ⟨-, -, n', n1, n2, n3⟩ := h23 (by rw [← hk]; exact i5)
      have i7 : pg_b S.1 i = lN n := i7
      have i8 : pg_h S.2 + 4 < n := i8
      rw [n3, lN_eq (by omega) (by omega)] at i7
      omega
    · exact c3.2 i n (old e i3) i5 i6 i7 i8 i9
theorem pg_jc.chg {r : Nat} {S S' : pg_S} (h : pg_jc r S) {m : Nat} (hm : m < S.1.1) (hf : pg_f S.1 m ≠ r) (hg : pg_gc S.1 m = true) (e : pg_tChg S m = some S') : pg_jc r S' ∧ S'.1 = S.1 ∧ ∀ t i, ¬ t = 9 → S'.2.1 t i = S.2.1 t i := by
  obtain ⟨a1, a2, a3, a4, a5, a6, a7, a8, a9, b1, b2, b3, c1, c2, c3, d1, d2, d3, e1, e2, e3⟩ := h
  have hk := pg_gc5 hg
  unfold pg_tChg at e
  split at e
  · cases e
  · rename_i hn
    cases e
    refine ⟨?_, rfl, fun t i ht => by rw [pg_u_at, if_neg (by omega), pg_w_at, if_neg ht]⟩
    have N := pg_tChg_no S m
    generalize hR : pg_u (pg_w S.2 9 (fun i => if i < S.1.1 ∧ pg_no S.2 i = 1 ∧ pg_k S.1 i = 5 ∧ pg_f S.1 i = pg_f S.1 m then 0 else pg_no S.2 i)) 9 m 1 = R at N ⊢
    have T : ∀ t i, ¬ t = 9 → R.1 t i = S.2.1 t i := fun t i ht => by rw [← hR, pg_u_at, if_neg (by omega), pg_w_at, if_neg ht]
    have Fv : pg_vw R = pg_vw S.2 := T 0 0 (by decide)
    have Fc : pg_ch R = pg_ch S.2 := T 1 0 (by decide)
    have Fh : pg_h R = pg_h S.2 := T 2 0 (by decide)
    have Fe : pg_e R = pg_e S.2 := T 3 0 (by decide)
    have Fs : pg_sp R = pg_sp S.2 := T 4 0 (by decide)
    have Ft : pg_tm R = pg_tm S.2 := T 5 0 (by decide)
    have Fa : pg_af R = pg_af S.2 := T 11 0 (by decide)
    have Fac : ∀ i, pg_ac R i = pg_ac S.2 i := fun i => T 6 i (by decide)
    have Fde : ∀ i, pg_de R i = pg_de S.2 i := fun i => T 7 i (by decide)
    have Fct : ∀ i, pg_ct R i = pg_ct S.2 i := fun i => T 8 i (by decide)
    have Fk : ∀ i, pg_kn R i = pg_kn S.2 i := fun i => T 10 i (by decide)
    have old : ∀ {i}, i ≠ m → pg_no R i = 1 → pg_no S.2 i = 1 := by
      intro i hi h
      rw [N, if_neg hi] at h
      split at h
      · cases h
      · exact h
    have old2 : ∀ {i}, i ≠ m → pg_no R i = 1 → pg_k S.1 i = 5 → pg_f S.1 i ≠ pg_f S.1 m := by
      intro i hi h h5 hf
      have h1 := old hi h
      rw [N, if_neg hi, if_pos ⟨a1.2 i h1, h1, h5, hf⟩] at h
      cases h
    refine ⟨⟨fun q hq => a1.1 q (by rw [← Fk]; exact hq), fun q hq => ?_⟩, fun q => ⟨?_, by rw [Fk]; exact (a2 q).2⟩, ?_, ?_, ?_, ?_, ?_, ?_, ?_, ?_, ?_, ?_, ?_, ?_, ?_, ?_, ?_, ?_, ?_, ?_, ?_⟩
    · by_cases e : q = m
      · rw [e]; exact hm
      · exact a1.2 q (old e hq)
    · show pg_no R q ≤ 1
      rw [N]
      split
      · exact Nat.le_refl 1
      · split
        · exact Nat.zero_le 1
        · exact (a2 q).1
    · intro i i1 i2
      show pg_no R i = 1 ↔ _
      have i2 : pg_f S.1 i = r := i2
      rw [N, if_neg (by rintro rfl; exact hf i2), if_neg (by rintro ⟨-, -, -, h⟩; exact hf (h.symm.trans i2))]
      exact a3 i i1 i2
    · intro i j i1 i2 i3 i4 i5 i6
      have i5 : pg_k S.1 i = 2 ∨ pg_k S.1 i = 3 := i5
      have i6 : pg_k S.1 i = pg_k S.1 j := i6
      exact a4 i j i1 i2 (old (by rintro rfl; omega) i3) (old (by rintro rfl; omega) i4) i5 i6
    · intro i j i1 i2 i3 i4 i5 i6
      have i5 : pg_k S.1 i = 7 := i5
      have i6 : pg_k S.1 j = 7 := i6
      exact a5 i j i1 i2 (old (by rintro rfl; omega) i3) (old (by rintro rfl; omega) i4) i5 i6
    · intro i j i3 i4 i5 i6 i7 i8
      by_cases ei : i = m
      · by_cases ej : j = m
        · rw [ei, ej]
        · subst ei
          exact absurd i7.symm (old2 ej i4 i6)
      · by_cases ej : j = m
        · subst ej
          exact absurd i7 (old2 ei i3 i5)
        · exact a6 i j (old ei i3) (old ej i4) i5 i6 i7 i8
    · intro i i1 i3 i5
      by_cases ei : i = m
      · subst ei
        exact pg_gc_a hg
      · exact a7 i i1 (old ei i3) i5
    · intro i i1 i3 i5
      by_cases ei : i = m
      · subst ei
        exact pg_gc_b hg
      · exact a8 i i1 (old ei i3) i5
    · intro i j i1 i2 i3 i4 i5 i6 i7 i8
      have i7 : pg_f S.1 i = r := i7
      have i8 : pg_f S.1 j = r := i8
      exact a9 i j i1 i2 (old (by rintro rfl; exact hf i7) i3) (old (by rintro rfl; exact hf i8) i4) i5 i6 i7 i8
    · intro i i1 i3 i5 i7
      have i7 : pg_f S.1 i = r := i7
      show ¬ nI (pg_vw R) < _
      rw [Fv]
      exact b1 i i1 (old (by rintro rfl; exact hf i7) i3) i5 i7
    · intro i i3 i5
      have i5 : pg_k S.1 i = 2 ∨ pg_k S.1 i = 3 := i5
      show ∃ w, w ≤ pg_vw R ∧ _
      rw [Fv]
      exact b2 i (old (by rintro rfl; omega) i3) i5
    · intro hc i i3 i5
      have i5 : pg_k S.1 i = 2 ∨ pg_k S.1 i = 3 := i5
      show ¬ _ = nI (pg_vw R)
      rw [Fv]
      exact b3 (by rw [← Fc]; exact hc) i (old (by rintro rfl; omega) i3) i5
    · refine ⟨by rw [Fv]; exact c1.1, by rw [Fc]; exact c1.2.1, by rw [Ft]; exact c1.2.2.1, by rw [Fs]; exact c1.2.2.2.1, by rw [Fs]; exact c1.2.2.2.2.1, by rw [Fa]; exact c1.2.2.2.2.2.1, fun k => by rw [Fac, Fde, Fct]; exact c1.2.2.2.2.2.2 k⟩
    · intro k hk2
      have hk2 : k ≤ pg_h R := hk2
      show pg_ac R k = 0 ∧ pg_de R k = 0 ∧ pg_ct R k = 0
      rw [Fac, Fde, Fct]
      exact c2 k (by omega)
    · refine ⟨fun k hk2 => ?_, fun i n i3 i5 i6 i7 i8 i9 => ?_⟩
      · have hk2 : pg_h R + 4 < k := hk2
        show pg_ac R k = 0 ∧ pg_de R k = 0 ∧ pg_ct R k = 0
        rw [Fac, Fde, Fct]
        exact c3.1 k (by omega)
      · have i5 : pg_k S.1 i = 2 ∨ pg_k S.1 i = 3 := i5
        have i8 : pg_h R + 4 < n := i8
        exact c3.2 i n (old (by rintro rfl; omega) i3) i5 (by rw [← Fv]; exact i6) i7 (by omega) i9
    · intro n hn
      have hn : pg_ac R n ≠ 0 := hn
      show (2 ≤ pg_ac R n → pg_ac R n - 2 < S.1.1 ∧ pg_k S.1 (pg_ac R n - 2) = 0) ∧ ∃ i, i < S.1.1 ∧ pg_f S.1 i = pg_vw R % 4 ∧ pg_a S.1 i = nI (pg_vw R) ∧ pg_src S.1 i n (pg_ac R n)
      rw [Fac] at hn ⊢
      rw [Fv]
      exact d1 n hn
    · intro hc n
      show pg_ac R n = 0
      rw [Fac]
      exact d2 (by rw [← Fc]; exact hc) n
    · intro n hn
      have hn : pg_de R n ≠ 0 := hn
      show 3 ≤ pg_dn S.1 n ∧ (2 ≤ pg_de R n → pg_de R n - 2 < S.1.1)
      rw [Fde] at hn ⊢
      exact d3 n hn
    · show pg_h R ≤ pg_e R ∧ pg_e R ≤ pg_h R + 4 ∧ pg_dd S.1 (pg_e R)
      rw [Fh, Fe]; exact e1
    · show pg_h R = 0 ∨ (pg_proof S.1 (lN (pg_h R)) S.1.1).isSome = true
      rw [Fh]; exact e2
    · intro i i1 i2 i3 i4
      show ∃ n, n ≤ pg_e R ∧ _
      rw [Fe]; exact e3 i i1 i2 i3 i4
theorem pg_in.takes {F r : Nat} {S S' : pg_S} {m : Nat} (h : pg_in F r S) (hz : S.1.1 ≤ 252) (hm : m < S.1.1) (e : pg_takes r S m = some S') : pg_in F r S' := by
  have hJ := h.1
  obtain ⟨⟨hc, j8⟩, hk⟩ := h
  have hc0 := hc
  obtain ⟨a1, a2, a3, a4, a5, a6, a7, a8, a9, b1, b2, b3, c1, c2, c3, d1, d2, d3, e1, e2, e3⟩ := hc0
  have hN := hJ.num (by omega)
  have hd := pg_dd_le e1.2.2 (by omega)
  have he0 := e1.1
  have same : pg_same S m = true → pg_ch S.2 = 0 ∧ pg_a S.1 m = nI (pg_vw S.2) ∧ ∃ n, pg_h S.2 < n ∧ n ≤ pg_h S.2 + 4 ∧ n < 1000 ∧ pg_b S.1 m = lN n := by
    intro g
    unfold pg_same at g
    simp only [Bool.and_eq_true, beq_iff_eq] at g
    obtain ⟨n, n1, n2, n3⟩ := pg_win_n hN g.2.2
    exact ⟨g.1, g.2.1, n, n2, n3, by omega, n1⟩
  unfold pg_takes at e
  split at e
  · cases e
  rename_i hf
  split at e
  · rename_i hk0
    unfold pg_tReq at e
    split at e
    · cases e
    · split at e
      · cases e
        exact ⟨⟨hc.kn hm hk0, j8.same rfl rfl (Nat.le_refl _) (fun _ _ _ => rfl)⟩, hk⟩
      · cases e
  · rename_i hk1
    split at e
    · rename_i hs
      simp only [Bool.and_eq_true, beq_iff_eq] at hs
      obtain ⟨s1, s2, n, n1, n2, n3, n4⟩ := same hs.1
      unfold pg_tOrd at e
      have hnb : pg_nb S.1 m = n := pg_nb_n n4 (by omega)
      rw [hnb] at e
      split at e
      · cases e
      · rename_i ho
        rw [not_or, not_or, not_or] at ho
        obtain ⟨o1, o2, o3, o4⟩ := ho
        have o1 : pg_ac S.2 n = 0 := Classical.byContradiction o1
        have o2' : -1 ≤ pg_c S.1 m := by
          rw [Int32.lt_iff_toInt_lt] at o2
          rw [Int32.le_iff_toInt_le]
          omega
        have o3' : pg_c S.1 m < 1000 := by
          rw [Int32.le_iff_toInt_le, nI_toInt (by omega)] at o3
          rw [Int32.lt_iff_toInt_lt]
          have : (1000 : Int32).toInt = 1000 := by decide
          omega
        obtain ⟨q1, q2, q3⟩ := xp_cq o2' o3'
        have hsrc : pg_src S.1 m n (pg_cq (pg_c S.1 m)) := Or.inl ⟨hk1, n4, n3, o2', o3', rfl⟩
        have hlt : (pg_c S.1 m).toInt < m := by
          rw [Int32.le_iff_toInt_le, nI_toInt (by omega)] at o3
          omega
        have hm1 : -1 ≤ (pg_c S.1 m).toInt := by
          rw [Int32.le_iff_toInt_le] at o2'
          have : (-1 : Int32).toInt = -1 := by decide
          omega
        have hcq : pg_cq (pg_c S.1 m) = ((pg_c S.1 m).toInt + 2).toNat := by
          have h2 : (2 : Int32).toInt = 2 := by decide
          unfold pg_cq
          rw [Int32.toInt_add, h2, Int.bmod_eq_of_le (by omega) (by omega)]
        have hreq : 2 ≤ pg_cq (pg_c S.1 m) → pg_cq (pg_c S.1 m) - 2 < S.1.1 ∧ pg_k S.1 (pg_cq (pg_c S.1 m) - 2) = 0 := by
          intro g
          have h0 : 0 ≤ pg_c S.1 m := by
            rw [Int32.le_iff_toInt_le, Int32.toInt_zero]
            omega
          have e : pg_cq (pg_c S.1 m) - 2 = (pg_c S.1 m).toInt.toNat := by omega
          rw [e]
          refine ⟨by omega, Classical.byContradiction (fun g2 => o4 ⟨h0, g2⟩)⟩
        have hA := hc.ac (n := n) (x := pg_cq (pg_c S.1 m)) n1 n2 (by omega) s1 hreq ⟨m, hm, hs.2, s2, hsrc⟩
        have hj : pg_j8 r (S.1, pg_u S.2 6 n (pg_cq (pg_c S.1 m))) := by
          refine j8.same rfl rfl (Nat.le_refl _) (fun k g1 _ => ?_)
          show (if 6 = 6 ∧ k = n then _ else pg_ac S.2 k) = _
          rw [if_neg (by rintro ⟨-, rfl⟩; exact g1 o1)]
        split at e
        · rename_i h0
          cases e
          have h0' : 0 ≤ (pg_c S.1 m).toInt := by
            rw [Int32.le_iff_toInt_le, Int32.toInt_zero] at h0
            exact h0
          refine ⟨⟨hA.kn (m := (pg_c S.1 m).toInt.toNat) (show _ < S.1.1 by omega) ?_, hj.same rfl rfl (Nat.le_refl _) (fun _ _ _ => rfl)⟩, hk⟩
          exact Classical.byContradiction (fun g2 => o4 ⟨h0, g2⟩)
        · cases e
          exact ⟨⟨hA, hj⟩, hk⟩
    · cases e
  · rename_i hk1
    split at e
    · rename_i hs
      simp only [Bool.and_eq_true, bne_iff_ne, Bool.not_eq_true'] at hs
      obtain ⟨s1, s2, n, n1, n2, n3, n4⟩ := same hs.1
      cases e
      exact ⟨⟨hc.note hm hk1 (Or.inl rfl) hf (fun _ => ⟨s1, s2, n, n2, n3, n4⟩) hs.2.2, j8.same rfl rfl (Nat.le_refl _) (fun _ _ _ => rfl)⟩, hk⟩
    · cases e
  · rename_i hk1
    split at e
    · rename_i hs
      simp only [Bool.and_eq_true, Bool.not_eq_true'] at hs
      obtain ⟨s1, s2, n, n1, n2, n3, n4⟩ := same hs.1
      cases e
      exact ⟨⟨hc.note hm hk1 (Or.inr (Or.inl rfl)) hf (fun _ => ⟨s1, s2, n, n2, n3, n4⟩) hs.2, j8.same rfl rfl (Nat.le_refl _) (fun _ _ _ => rfl)⟩, hk⟩
    · cases e
  · rename_i hk1
    split at e
    · rename_i hs
      simp only [Bool.and_eq_true] at hs
      obtain ⟨q1, q2, q3⟩ := hc.chg hm hf hs.2 e
      refine ⟨⟨q1, ?_⟩, by rw [q2]; exact hk⟩
      have := j8.same (R' := S'.2) (q3 0 0 (by decide)) (q3 1 0 (by decide)) (Nat.le_of_eq (q3 2 0 (by decide)).symm) (fun k _ _ => q3 6 k (by decide))
      rw [← q2] at this
      exact this
    · cases e
  · rename_i hk1
    split at e
    · rename_i hs
      simp only [Bool.and_eq_true, decide_eq_true_eq] at hs
      have heok := hJ.eok hk (by omega) hm hs.2.2 hs.1
      obtain ⟨w, w1, w2, w3⟩ := pg_gn_a hs.2.2
      obtain ⟨v1, v2⟩ := pg_gn_v hs.2.2
      have hvw : pg_vw S.2 < w ∨ (pg_vw S.2 = w ∧ pg_ch S.2 = 1) := by
        have hl := hs.1
        unfold pg_later at hl
        have := c1.1
        rw [w3] at hl
        simp only [Bool.or_eq_true, Bool.and_eq_true, decide_eq_true_eq, beq_iff_eq] at hl
        rcases hl with hl | ⟨hl, hl2⟩
        · rw [nI_ltI (by omega) (by omega)] at hl
          exact Or.inl hl
        · rw [nI_eq (by omega) (by omega)] at hl
          exact Or.inr ⟨hl.symm, hl2⟩
      have hfm : pg_f S.1 m = w % 4 := by
        have := hs.2.1
        rw [w3, xp_nat (by omega)] at this
        exact this.symm
      obtain ⟨q1, q2, q3, q4, q5⟩ := hc.ent hk (by omega) hm hk1 (fun k hk => (v1 k hk).1) w2 (by omega) w3 hfm heok
      cases e
      refine ⟨⟨q1, ?_⟩, hk⟩
      intro i i1 i2 i3 i4
      show ∃ w, w ≤ pg_vw (pg_ent S m) ∧ _ ∧ (w = pg_vw (pg_ent S m) → pg_ch (pg_ent S m) = 0 ∧ ∀ n x, _ → n ≤ pg_h (pg_ent S m) ∨ pg_ac (pg_ent S m) n = x)
      rw [q2]
      obtain ⟨w', w4, w5, w6⟩ := j8 i i1 i2 i3 i4
      refine ⟨w', by omega, w5, fun ew => ?_⟩
      rcases hvw with g | ⟨g1, g2⟩
      · omega
      · have := (w6 (by omega)).1
        omega
    · cases e
  · rename_i hk1
    split at e
    · rename_i hs
      simp only [Bool.and_eq_true, Bool.not_eq_true'] at hs
      cases e
      exact ⟨⟨hc.note hm hk1 (Or.inr (Or.inr rfl)) hf (fun h => by omega) (by rw [if_pos rfl]; exact hs.2.2), j8.same rfl rfl (Nat.le_refl _) (fun _ _ _ => rfl)⟩, hk⟩
    · cases e
  · cases e
