/-! the rules 7 and 8 -/
theorem pg_in.r7 {F r : Nat} (hr : r < 4) {S S' : pg_S} (h : pg_in F r S) (hz : S.1.1 ≤ 252) (e : pg_r7 r S = some S') : pg_in F r S' := by
  have ho7 := h.1.o7 h.2 hz
  obtain ⟨⟨hc, j8⟩, hk⟩ := h
  have hc0 := hc
  obtain ⟨a1, a2, a3, a4, a5, a6, a7, a8, a9, b1, b2, b3, c1, c2, c3, d1, d2, d3, e1, e2, e3⟩ := hc0
  unfold pg_r7 at e
  simp only at e
  split at e
  · cases e
  · rename_i hn
    rw [not_or] at hn
    split at e
    · cases e
    · rename_i ht
      rw [not_or] at ht
      have hch : pg_ch S.2 = 1 := by have := c1.2.1; omega
      have hp : pg_vw S.2 % 4 = r := by omega
      have ht1 : (pg_vts r S 4).2.2 = true := by simpa using ht.1
      have ht2 : (pg_vts r S 4).2.1 = 2 := by have := (pg_vts_le r S 4).1; omega
      obtain ⟨hv, heok⟩ := ho7 hch hp ht1 ht2
      have hx : ∀ i w, i < S.1.1 → pg_f S.1 i = r → pg_g S.1 i = false → (pg_k S.1 i = 1 ∨ pg_k S.1 i = 6) → pg_a S.1 i = nI w → w ≤ 15 → w < pg_vw S.2 := by
        intro i w i1 i2 i3 i4 i5 i6
        obtain ⟨w', w1, w2, w3⟩ := j8 i i1 i2 i3 i4
        have := c1.1
        rw [i5, nI_eq (by omega) (by omega)] at w2
        subst w2
        by_cases ew : w = pg_vw S.2
        · have := (w3 ew).1
          omega
        · omega
      generalize hy : (pg_vts r S 4).1.toInt64 = y at *
      have hS2 := hc.own (k := 6) (x := nI (pg_vw S.2)) (y := y) (z := pg_od S.1 y) (by omega) ⟨fun h => by omega, fun h => by omega, fun h => by omega⟩
      have hK2 : pg_ki F (pg_own r S 6 (nI (pg_vw S.2)) y (pg_od S.1 y)).1 := by
        refine hk.send ⟨by omega, by omega, by omega, fun h => by omega, fun h => (by cases h), fun _ => ⟨_, hy.symm⟩, fun h => by omega, fun _ h => by omega, fun _ h => by omega, fun _ i n q q' i1 i2 i3 i4 i5 _ => ?_⟩
        have := hx i (pg_vw S.2) i1 i3 i2 (pg_src_no i5) i4 c1.1
        omega
      cases e
      obtain ⟨q1, q2, q3, q4, q5⟩ := hS2.ent hK2 (by rw [pg_own_z]; omega) (m := S.1.1) (w := pg_vw S.2) (by rw [pg_own_z]; omega) (by rw [pg_own_k, if_pos rfl]) (fun k hk => by rw [pg_own_b, if_pos rfl]; exact (hv k hk).1) c1.1 (Nat.le_refl _) (by rw [pg_own_a, if_pos rfl]) (by rw [pg_own_f, if_pos rfl, hp]) heok
      refine ⟨⟨q1, ?_⟩, hK2⟩
      intro i i1 i2 i3 i4
      show ∃ w, w ≤ pg_vw (pg_ent (pg_own r S 6 (nI (pg_vw S.2)) y (pg_od S.1 y)) S.1.1) ∧ _ ∧ (w = pg_vw (pg_ent (pg_own r S 6 (nI (pg_vw S.2)) y (pg_od S.1 y)) S.1.1) → pg_ch (pg_ent (pg_own r S 6 (nI (pg_vw S.2)) y (pg_od S.1 y)) S.1.1) = 0 ∧ ∀ n x, _ → n ≤ pg_h (pg_ent (pg_own r S 6 (nI (pg_vw S.2)) y (pg_od S.1 y)) S.1.1) ∨ pg_ac (pg_ent (pg_own r S 6 (nI (pg_vw S.2)) y (pg_od S.1 y)) S.1.1) n = x)
      rw [q2]
      by_cases hi : i = S.1.1
      · subst hi
        exact ⟨pg_vw S.2, Nat.le_refl _, by rw [pg_own_a, if_pos rfl], fun _ => ⟨q3, q4⟩⟩
      · have i1 : i < (pg_own r S 6 (nI (pg_vw S.2)) y (pg_od S.1 y)).1.1 := i1
        rw [pg_own_z] at i1
        have hi2 : i < S.1.1 := by omega
        have xi := (pg_ext.own r S 6 (nI (pg_vw S.2)) y (pg_od S.1 y)).2 i hi2
        obtain ⟨w, w1, w2, w3⟩ := j8 i hi2 (by rw [← xi.2.1]; exact i2) (by rw [← xi.2.2.2.2.2]; exact i3) (by rw [← xi.1]; exact i4)
        refine ⟨w, w1, xi.2.2.1.trans w2, fun ew => ?_⟩
        have := (w3 ew).1
        omega
theorem pg_jc.ac {r : Nat} {S : pg_S} (h : pg_jc r S) {n x : Nat} (h1 : pg_h S.2 < n) (h2 : n ≤ pg_h S.2 + 4) (hx : x < 300) (hc : pg_ch S.2 = 0) (hq : 2 ≤ x → x - 2 < S.1.1 ∧ pg_k S.1 (x - 2) = 0) (hs : ∃ i, i < S.1.1 ∧ pg_f S.1 i = pg_vw S.2 % 4 ∧ pg_a S.1 i = nI (pg_vw S.2) ∧ pg_src S.1 i n x) : pg_jc r (S.1, pg_u S.2 6 n x) := by
  obtain ⟨a1, a2, a3, a4, a5, a6, a7, a8, a9, b1, b2, b3, c1, c2, c3, d1, d2, d3, e1, e2, e3⟩ := h
  have hct : ∀ k, pg_ac (pg_u S.2 6 n x) k = if k = n then x else pg_ac S.2 k := by
    intro k
    show (if 6 = 6 ∧ k = n then x else pg_ac S.2 k) = _
    simp
  refine ⟨a1, a2, a3, a4, a5, a6, a7, a8, a9, b1, b2, b3, ⟨c1.1, c1.2.1, c1.2.2.1, c1.2.2.2.1, c1.2.2.2.2.1, c1.2.2.2.2.2.1, fun k => ⟨?_, (c1.2.2.2.2.2.2 k).2⟩⟩, fun k hk => ⟨?_, (c2 k hk).2⟩, ⟨fun k hk => ⟨?_, (c3.1 k hk).2⟩, c3.2⟩, fun k hk => ?_, fun h => ?_, d3, e1, e2, e3⟩
  · rw [hct]
    split
    · exact hx
    · exact (c1.2.2.2.2.2.2 k).1
  · have hk : k ≤ pg_h S.2 := hk
    show pg_ac (pg_u S.2 6 n x) k = 0
    rw [hct, if_neg (by omega)]; exact (c2 k hk).1
  · have hk : pg_h S.2 + 4 < k := hk
    show pg_ac (pg_u S.2 6 n x) k = 0
    rw [hct, if_neg (by omega)]; exact (c3.1 k hk).1
  · show (2 ≤ pg_ac (pg_u S.2 6 n x) k → pg_ac (pg_u S.2 6 n x) k - 2 < S.1.1 ∧ pg_k S.1 (pg_ac (pg_u S.2 6 n x) k - 2) = 0) ∧ ∃ i, i < S.1.1 ∧ pg_f S.1 i = pg_vw S.2 % 4 ∧ pg_a S.1 i = nI (pg_vw S.2) ∧ pg_src S.1 i k (pg_ac (pg_u S.2 6 n x) k)
    have hk : pg_ac (pg_u S.2 6 n x) k ≠ 0 := hk
    rw [hct] at hk ⊢
    by_cases e : k = n
    · rw [if_pos e, e]
      exact ⟨hq, hs⟩
    · rw [if_neg e] at hk ⊢
      exact d1 k hk
  · have h : pg_ch S.2 = 1 := h
    omega
theorem pg_jc.kn {r : Nat} {S : pg_S} (h : pg_jc r S) {m : Nat} (hm : m < S.1.1) (hk : pg_k S.1 m = 0) : pg_jc r (S.1, pg_u S.2 10 m 1) := by
  obtain ⟨a1, a2, a3, a4, a5, a6, a7, a8, a9, b1, b2, b3, c1, c2, c3, d1, d2, d3, e1, e2, e3⟩ := h
  have hkn : ∀ k, pg_kn (pg_u S.2 10 m 1) k = if k = m then 1 else pg_kn S.2 k := by
    intro k
    show (if 10 = 10 ∧ k = m then 1 else pg_kn S.2 k) = _
    simp
  refine ⟨⟨fun q hq => ?_, a1.2⟩, fun q => ⟨(a2 q).1, ?_⟩, a3, a4, a5, a6, a7, a8, a9, b1, b2, b3, c1, c2, c3, d1, d2, d3, e1, e2, e3⟩
  · have hq : pg_kn (pg_u S.2 10 m 1) q = 1 := hq
    rw [hkn] at hq
    by_cases e : q = m
    · rw [e]; exact ⟨hm, hk⟩
    · rw [if_neg e] at hq
      exact a1.1 q hq
  · show pg_kn (pg_u S.2 10 m 1) q ≤ 1
    rw [hkn]
    split
    · exact Nat.le_refl 1
    · exact (a2 q).2
theorem pg_nxt_is (R : pg_R) : pg_h R < pg_nxt R ∧ (pg_nxt R ≤ pg_h R + 4 → pg_ac R (pg_nxt R) = 0) ∧ pg_nxt R ≤ pg_h R + 5 := by
  unfold pg_nxt
  by_cases h4 : pg_ac R (pg_h R + 4) ≠ 0
  · rw [if_pos h4]; exact ⟨by omega, fun h => by omega, by omega⟩
  rw [if_neg h4]
  by_cases h3 : pg_ac R (pg_h R + 3) ≠ 0
  · rw [if_pos h3]; exact ⟨by omega, fun _ => by omega, by omega⟩
  rw [if_neg h3]
  by_cases h2 : pg_ac R (pg_h R + 2) ≠ 0
  · rw [if_pos h2]; exact ⟨by omega, fun _ => by omega, by omega⟩
  rw [if_neg h2]
  by_cases h1 : pg_ac R (pg_h R + 1) ≠ 0
  · rw [if_pos h1]; exact ⟨by omega, fun _ => by omega, by omega⟩
  rw [if_neg h1]
  exact ⟨by omega, fun _ => by omega, by omega⟩
theorem xp_cqn {m : Nat} (h : m < 1000) : pg_cq (nI m) = m + 2 := by
  unfold pg_cq
  rw [show (nI m + 2 : Int32) = nI (m + 2) from nI_add m 2, xp_nat (by omega)]
theorem pg_in.r8 {F r : Nat} (hr : r < 4) {S S' : pg_S} (h : pg_in F r S) (hz : S.1.1 ≤ 252) (e : pg_r8 r S = some S') : pg_in F r S' := by
  obtain ⟨⟨hc, j8⟩, hk⟩ := h
  have hc0 := hc
  obtain ⟨a1, a2, a3, a4, a5, a6, a7, a8, a9, b1, b2, b3, c1, c2, c3, d1, d2, d3, e1, e2, e3⟩ := hc0
  unfold pg_r8 at e
  split at e
  · cases e
  · rename_i hn
    rw [not_or, not_or] at hn
    cases e2 : (List.range S.1.1).find? (fun m => !pg_acd S.2 m && pg_wt S m) with
    | none => rw [e2] at e; cases e
    | some m =>
      rw [e2] at e
      cases e
      have hm := List.mem_range.mp (List.mem_of_find?_eq_some e2)
      have hw := List.find?_some e2
      unfold pg_wt at hw
      simp only [Bool.and_eq_true, beq_iff_eq] at hw
      obtain ⟨n1, n2, n3⟩ := pg_nxt_is S.2
      have n2 := n2 (by omega)
      have hd := pg_dd_le e1.2.2 (by omega)
      have he0 := e1.1
      have hch : pg_ch S.2 = 0 := by have := c1.2.1; omega
      have hp : pg_vw S.2 % 4 = r := by omega
      generalize hN : pg_nxt S.2 = N at *
      have he := pg_ext.own r S 1 (nI (pg_vw S.2)) (lN N) (nI m)
      have hx : ∀ i q, i < S.1.1 → pg_f S.1 i = r → pg_g S.1 i = false → pg_a S.1 i = nI (pg_vw S.2) → pg_src S.1 i N q → False := by
        intro i q i1 i2 i3 i4 i5
        obtain ⟨w', w1, w2, w3⟩ := j8 i i1 i2 i3 (pg_src_no i5)
        have := c1.1
        rw [i4, nI_eq (by omega) (by omega)] at w2
        have := pg_src_pos i5
        rcases (w3 w2.symm).2 N q i5 with g | g
        · omega
        · omega
      have hsrc : pg_src (pg_own r S 1 (nI (pg_vw S.2)) (lN N) (nI m)).1 S.1.1 N (m + 2) := by
        refine Or.inl ⟨by rw [pg_own_k, if_pos rfl], by rw [pg_own_b, if_pos rfl], by omega, ?_, ?_, ?_⟩
        · rw [pg_own_c, if_pos rfl]
          have h1 : (-1 : Int32).toInt = -1 := by decide
          rw [Int32.le_iff_toInt_le, nI_toInt (by omega), h1]
          omega
        · rw [pg_own_c, if_pos rfl]
          exact (nI_ltI (a := m) (b := 1000) (by omega) (by omega)).mpr (by omega)
        · rw [pg_own_c, if_pos rfl, xp_cqn (by omega)]
      have hsrc2 : ∀ n q, pg_src (pg_own r S 1 (nI (pg_vw S.2)) (lN N) (nI m)).1 S.1.1 n q → n = N ∧ q = m + 2 := by
        intro n q hq
        rcases hq with ⟨-, k2, k3, -, -, k6⟩ | ⟨k1, -⟩
        · rw [pg_own_b, if_pos rfl, lN_eq (by omega) (by omega)] at k2
          rw [pg_own_c, if_pos rfl, xp_cqn (by omega)] at k6
          exact ⟨k2.symm, k6⟩
        · rw [pg_own_k, if_pos rfl] at k1
          omega
      have hS1 := hc.own (k := 1) (x := nI (pg_vw S.2)) (y := lN N) (z := nI m) (by omega) ⟨fun h => by omega, fun h => by omega, fun h => by omega⟩
      refine ⟨⟨hS1.ac (n := N) (x := m + 2) n1 (show N ≤ pg_h S.2 + 4 by omega) (by omega) hch (fun _ => ?_) ⟨S.1.1, by rw [pg_own_z]; omega, by rw [pg_own_f, if_pos rfl]; exact hp.symm, by rw [pg_own_a, if_pos rfl]; rfl, hsrc⟩, ?_⟩, hk.send ?_⟩
      · rw [pg_own_z, pg_own_k, show m + 2 - 2 = m by omega, if_neg (by omega)]
        exact ⟨by omega, hw.2.1⟩
      · refine j8.own (R' := pg_u (pg_own r S 1 (nI (pg_vw S.2)) (lN N) (nI m)).2 6 N (m + 2)) rfl rfl (Nat.le_refl _) (fun n g1 g2 => ?_) (fun _ => ⟨pg_vw S.2, Nat.le_refl _, rfl, fun _ => ⟨hch, fun n q hq => ?_⟩⟩)
        · show (if 6 = 6 ∧ n = N then m + 2 else pg_ac S.2 n) = _
          rw [if_neg (by rintro ⟨-, rfl⟩; exact g1 n2)]
        · obtain ⟨q1, q2⟩ := hsrc2 n q hq
          refine Or.inr ?_
          show (if 6 = 6 ∧ n = N then m + 2 else pg_ac S.2 n) = _
          rw [if_pos ⟨rfl, q1⟩, q2]
      · refine ⟨by omega, by omega, by omega, fun h => by omega, fun h => (by cases h), fun h => by omega, fun h => by omega, fun _ h => by omega, fun _ h => by omega, fun _ i n q q' i1 i2 i3 i4 i5 i6 => ?_⟩
        obtain ⟨q1, q2⟩ := hsrc2 n q' i6
        rw [q1] at i5
        exact (hx i q i1 i3 i2 i4 i5).elim
/-- one rule -/
theorem pg_in.rl {F r : Nat} (hr : r < 4) {S S' : pg_S} (h : pg_in F r S) (hz : S.1.1 ≤ 252) (e : pg_rl r S = some S') : pg_in F r S' := by
  unfold pg_rl at e
  rw [Option.or_eq_some_iff] at e
  rcases e with e | ⟨-, e⟩
  · exact h.r1 hr hz e
  rw [Option.or_eq_some_iff] at e
  rcases e with e | ⟨-, e⟩
  · exact h.r2 hr hz e
  rw [Option.or_eq_some_iff] at e
  rcases e with e | ⟨-, e⟩
  · exact h.r3 e
  rw [Option.or_eq_some_iff] at e
  rcases e with e | ⟨-, e⟩
  · exact h.r4 hr hz e
  rw [Option.or_eq_some_iff] at e
  rcases e with e | ⟨-, e⟩
  · exact h.r5 hz e
  rw [Option.or_eq_some_iff] at e
  rcases e with e | ⟨-, e⟩
  · exact h.r6 hr hz e
  rw [Option.or_eq_some_iff] at e
  rcases e with e | ⟨-, e⟩
  · exact h.r7 hr hz e
  · exact h.r8 hr hz e
