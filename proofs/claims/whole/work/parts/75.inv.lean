/-! the rules keep it -/
theorem xp_fst_is {h n : Nat} {P : Nat → Bool} (e : pg_fst h P = some n) : h < n ∧ n ≤ h + 4 ∧ P n = true := by
  unfold pg_fst at e
  have h1 := List.find?_some e
  have h2 := List.mem_of_find?_eq_some e
  simp only [List.mem_cons, List.not_mem_nil, or_false] at h2
  exact ⟨by omega, by omega, h1⟩
/-- r, the faulty one, the board's size -/
def pg_in (F r : Nat) (S : pg_S) : Prop := pg_ji r S ∧ pg_ki F S.1
theorem pg_nosent {r : Nat} {S : pg_S} (h : pg_ow r S) {k w n : Nat} (hs : pg_sent S.1 r k w n = false) (i : Nat) (h1 : i < S.1.1) (h2 : pg_no S.2 i = 1) (h3 : pg_k S.1 i = k) (h4 : pg_f S.1 i = r) (h5 : pg_a S.1 i = nI w) (h6 : pg_b S.1 i = lN n) : False := by
  have hg := (h i h1 h4).mp h2
  unfold pg_sent at hs
  rw [List.any_eq_false] at hs
  refine hs i (List.mem_range.mpr h1) ?_
  simp [h3, h4, h5, h6, hg]
theorem pg_nosent' {r : Nat} {B : pg_B} {k w n : Nat} (hs : pg_sent B r k w n = false) (i : Nat) (h1 : i < B.1) (h2 : pg_g B i = false) (h3 : pg_k B i = k) (h4 : pg_f B i = r) (h5 : pg_a B i = nI w) (h6 : pg_b B i = lN n) : False := by
  unfold pg_sent at hs
  rw [List.any_eq_false] at hs
  refine hs i (List.mem_range.mpr h1) ?_
  simp [h3, h4, h5, h6, h2]
theorem pg_src_no {B : pg_B} {i n x : Nat} (h : pg_src B i n x) : pg_k B i = 1 ∨ pg_k B i = 6 := by
  rcases h with h | h
  · exact Or.inl h.1
  · exact Or.inr h.1
/-- a message of another kind than 1, 2, 6, 7 -/
theorem pg_ok2_oth {F : Nat} {B : pg_B} {k p : Nat} {x : Int32} {y : Int64} {z : Int32} (hp : p < 4) (hk : k = 3 ∨ k = 4 ∨ k = 5) : pg_ok2 F B k p x y z false (pg_send B k p x y z false) := by
  refine ⟨by omega, by omega, by omega, fun h => by omega, fun h => (by cases h), fun h => by omega, fun h => by omega, fun _ h => by omega, fun _ h => by omega, fun _ i n q q' _ _ _ _ _ h => ?_⟩
  have := pg_src_no h
  rw [pg_send_k, if_pos rfl] at this
  omega
theorem pg_in.r1 {F r : Nat} (hr : r < 4) {S S' : pg_S} (h : pg_in F r S) (hz : S.1.1 ≤ 252) (e : pg_r1 r S = some S') : pg_in F r S' := by
  obtain ⟨⟨hc, j8⟩, hk⟩ := h
  unfold pg_r1 at e
  split at e
  · cases e
  · rename_i hn
    rw [not_or] at hn
    cases e2 : pg_fst (pg_h S.2) (fun n => pg_ac S.2 n != 0 && !pg_sent S.1 r 2 (pg_vw S.2) n) with
    | none => rw [e2] at e; cases e
    | some n =>
      rw [e2] at e
      cases e
      obtain ⟨n1, n2, n3⟩ := xp_fst_is e2
      simp only [Bool.and_eq_true, bne_iff_ne, Bool.not_eq_true'] at n3
      have hc' := hc
      obtain ⟨a1, a2, a3, a4, a5, a6, a7, a8, a9, b1, b2, b3, c1, c2, c3, d1, d2, d3, e1, e2, e3⟩ := hc
      have hch : pg_ch S.2 = 0 := by have := c1.2.1; omega
      have hd := pg_dd_le e1.2.2 (by omega)
      have := e1.1
      obtain ⟨g1, i, i1, i2, i3, i4⟩ := d1 n n3.1
      refine ⟨⟨hc'.own (by omega) ⟨fun _ => ⟨hch, rfl, fun i h1 h2 h3 h4 h5 h6 => pg_nosent a3 n3.2 i h1 h2 h3 h4 h5 h6, n, n2, rfl⟩, fun h => by omega, fun h => by omega⟩, j8.own (R' := (pg_own r S 2 (nI (pg_vw S.2)) (lN n) (nI (pg_ac S.2 n) - 2)).2) rfl rfl (Nat.le_refl _) (fun _ _ _ => rfl) (fun h => by omega)⟩, hk.send ?_⟩
      refine ⟨by omega, by omega, by omega, fun h => by omega, fun h => (by cases h), fun h => by omega, fun h => by omega, fun _ h => by omega, fun _ _ => ⟨?_, fun i h1 h2 h3 h4 h5 h6 => pg_nosent' n3.2 i h1 h2 h3 h4 h5 h6⟩, fun _ i n q q' _ _ _ _ _ h => ?_⟩
      · have he := pg_ext.own r S 2 (nI (pg_vw S.2)) (lN n) (nI (pg_ac S.2 n) - 2)
        have xi := he.2 i i1
        refine ⟨pg_vw S.2, n, pg_ac S.2 n, c1.1, by omega, by rw [pg_send_a, if_pos rfl], by rw [pg_send_b, if_pos rfl], by rw [pg_send_f, if_pos rfl]; exact fun h => hn.2 h.symm, by rw [pg_send_c, if_pos rfl], by omega, (c1.2.2.2.2.2.2 n).1, fun h => ?_, i, Nat.lt_of_lt_of_le i1 he.1, xi.2.1.trans i2, xi.2.2.1.trans i3, (pg_src_ext he i1).mpr i4⟩
        obtain ⟨k1, k2⟩ := g1 h
        exact ⟨Nat.lt_of_lt_of_le k1 he.1, (he.2 _ k1).1.trans k2⟩
      · have := pg_src_no h
        rw [pg_send_k, if_pos rfl] at this
        omega
theorem pg_jc.ct {r : Nat} {S : pg_S} (h : pg_jc r S) {n x : Nat} (h1 : pg_h S.2 < n) (h2 : n ≤ pg_h S.2 + 4) (hx : x ≤ 16) : pg_jc r (S.1, pg_u S.2 8 n x) := by
  obtain ⟨a1, a2, a3, a4, a5, a6, a7, a8, a9, b1, b2, b3, c1, c2, c3, d1, d2, d3, e1, e2, e3⟩ := h
  have hct : ∀ k, pg_ct (pg_u S.2 8 n x) k = if k = n then x else pg_ct S.2 k := by
    intro k
    show (if 8 = 8 ∧ k = n then x else pg_ct S.2 k) = _
    simp
  refine ⟨a1, a2, a3, a4, a5, a6, a7, a8, a9, b1, b2, b3, ⟨c1.1, c1.2.1, c1.2.2.1, c1.2.2.2.1, c1.2.2.2.2.1, c1.2.2.2.2.2.1, fun k => ⟨(c1.2.2.2.2.2.2 k).1, (c1.2.2.2.2.2.2 k).2.1, ?_⟩⟩, fun k hk => ⟨(c2 k hk).1, (c2 k hk).2.1, ?_⟩, ⟨fun k hk => ⟨(c3.1 k hk).1, (c3.1 k hk).2.1, ?_⟩, c3.2⟩, d1, d2, d3, e1, e2, e3⟩
  · rw [hct]
    split
    · exact hx
    · exact (c1.2.2.2.2.2.2 k).2.2
  · have hk : k ≤ pg_h S.2 := hk
    show pg_ct (pg_u S.2 8 n x) k = 0
    rw [hct, if_neg (by omega)]; exact (c2 k hk).2.2
  · have hk : pg_h S.2 + 4 < k := hk
    show pg_ct (pg_u S.2 8 n x) k = 0
    rw [hct, if_neg (by omega)]; exact (c3.1 k hk).2.2
theorem pg_in.r2 {F r : Nat} (hr : r < 4) {S S' : pg_S} (h : pg_in F r S) (hz : S.1.1 ≤ 252) (e : pg_r2 r S = some S') : pg_in F r S' := by
  obtain ⟨⟨hc, j8⟩, hk⟩ := h
  unfold pg_r2 at e
  cases e2 : pg_fst (pg_h S.2) (fun n => pg_ac S.2 n != 0 && (!pg_sent S.1 r 3 (pg_vw S.2) n && decide (2 ≤ pg_hr S 2 (nI (pg_vw S.2)) (lN n) (nI (pg_ac S.2 n) - 2)))) with
  | none => rw [e2] at e; cases e
  | some n =>
    rw [e2] at e
    cases e
    obtain ⟨n1, n2, n3⟩ := xp_fst_is e2
    simp only [Bool.and_eq_true, bne_iff_ne, Bool.not_eq_true'] at n3
    have hc1 := hc.ct (x := 1 + pg_vw S.2) n1 n2 (by have := hc.2.2.2.2.2.2.2.2.2.2.2.2.1.1; omega)
    have hcc := hc1
    obtain ⟨a1, a2, a3, a4, a5, a6, a7, a8, a9, b1, b2, b3, c1, c2, c3, d1, d2, d3, e1, e2, e3⟩ := hc
    have hch : pg_ch S.2 = 0 := by
      have := c1.2.1
      by_cases h : pg_ch S.2 = 1
      · exact absurd (d2 h n) n3.1
      · omega
    refine ⟨⟨hcc.own (show S.1.1 ≤ 256 by omega) ⟨fun _ => ⟨hch, rfl, fun i h1 h2 h3 h4 h5 h6 => pg_nosent a3 n3.2.1 i h1 h2 h3 h4 h5 h6, n, n2, rfl⟩, fun h => by omega, fun h => by omega⟩, pg_j8.own (S := (S.1, pg_u S.2 8 n (1 + pg_vw S.2))) (R' := (pg_own r (S.1, pg_u S.2 8 n (1 + pg_vw S.2)) 3 (nI (pg_vw S.2)) (lN n) (nI (pg_ac S.2 n) - 2)).2) j8 rfl rfl (Nat.le_refl _) (fun _ _ _ => rfl) (fun h => by omega)⟩, hk.send (pg_ok2_oth hr (Or.inl rfl))⟩
/-! counting the COMMITs -/
theorem xp_len_or_le (P Q : Nat → Bool) : ∀ l : List Nat, (l.filter (fun s => P s || Q s)).length ≤ (l.filter P).length + (l.filter Q).length
  | [] => Nat.le_refl _
  | a :: l => by
    have ih := xp_len_or_le P Q l
    cases hp : P a <;> cases hq : Q a <;> simp [hp, hq] <;> omega
theorem xp_eq4 (x : Nat) : ((List.range 4).filter (fun s => x == s)).length ≤ 1 := by
  have e : List.range 4 = [0, 1, 2, 3] := by decide
  rw [e]
  by_cases h0 : x = 0
  · subst h0; decide
  by_cases h1 : x = 1
  · subst h1; decide
  by_cases h2 : x = 2
  · subst h2; decide
  by_cases h3 : x = 3
  · subst h3; decide
  simp [h0, h1, h2, h3]
theorem pg_cnt_len (f : Nat → Nat) (P : Nat → Bool) (b : Nat) : ∀ m, pg_cnt m f P b ≤ ((List.range m).filter P).length
  | 0 => by simp [pg_cnt]
  | m + 1 => by
    have ih := pg_cnt_len f P b m
    rw [List.range_succ, List.filter_append, List.length_append]
    have e : pg_cnt (m + 1) f P b = ((List.range 4).filter (fun s => (s != b && (List.range m).any (fun i => f i == s && P i)) || (s != b && (f m == s && P m)))).length := by
      unfold pg_cnt
      congr 1
      apply List.filter_congr
      intro s _
      rw [xp_any_s, Bool.and_or_distrib_left]
    rw [e]
    refine Nat.le_trans (xp_len_or_le _ _ _) (Nat.add_le_add ih ?_)
    cases hp : P m
    · have : (List.range 4).filter (fun s => s != b && (f m == s && false)) = [] := by
        rw [List.filter_eq_nil_iff]
        intro s _
        simp
      rw [this]
      exact Nat.zero_le _
    · refine Nat.le_trans (xp_len_mono (z' := 4) (P' := fun s => f m == s) (Nat.le_refl 4) (fun s _ h => ?_)) ?_
      · simp only [Bool.and_eq_true] at h
        exact h.2.1
      · simpa [hp] using xp_eq4 (f m)
theorem pg_jc.de {r : Nat} {S : pg_S} (h : pg_jc r S) {n x : Nat} (h1 : pg_h S.2 < n) (h2 : n ≤ pg_h S.2 + 4) (hx : x < 300) (hd : 3 ≤ pg_dn S.1 n) (hq : 2 ≤ x → x - 2 < S.1.1) : pg_jc r (S.1, pg_u S.2 7 n x) := by
  obtain ⟨a1, a2, a3, a4, a5, a6, a7, a8, a9, b1, b2, b3, c1, c2, c3, d1, d2, d3, e1, e2, e3⟩ := h
  have hct : ∀ k, pg_de (pg_u S.2 7 n x) k = if k = n then x else pg_de S.2 k := by
    intro k
    show (if 7 = 7 ∧ k = n then x else pg_de S.2 k) = _
    simp
  refine ⟨a1, a2, a3, a4, a5, a6, a7, a8, a9, b1, b2, b3, ⟨c1.1, c1.2.1, c1.2.2.1, c1.2.2.2.1, c1.2.2.2.2.1, c1.2.2.2.2.2.1, fun k => ⟨(c1.2.2.2.2.2.2 k).1, ?_, (c1.2.2.2.2.2.2 k).2.2⟩⟩, fun k hk => ⟨(c2 k hk).1, ?_, (c2 k hk).2.2⟩, ⟨fun k hk => ⟨(c3.1 k hk).1, ?_, (c3.1 k hk).2.2⟩, c3.2⟩, d1, d2, fun k hk => ?_, e1, e2, e3⟩
  · rw [hct]
    split
    · exact hx
    · exact (c1.2.2.2.2.2.2 k).2.1
  · have hk : k ≤ pg_h S.2 := hk
    show pg_de (pg_u S.2 7 n x) k = 0
    rw [hct, if_neg (by omega)]; exact (c2 k hk).2.1
  · have hk : pg_h S.2 + 4 < k := hk
    show pg_de (pg_u S.2 7 n x) k = 0
    rw [hct, if_neg (by omega)]; exact (c3.1 k hk).2.1
  · show 3 ≤ pg_dn S.1 k ∧ (2 ≤ pg_de (pg_u S.2 7 n x) k → pg_de (pg_u S.2 7 n x) k - 2 < S.1.1)
    by_cases hkn : k = n
    · rw [hct, if_pos hkn, hkn]; exact ⟨hd, hq⟩
    · have hk : pg_de (pg_u S.2 7 n x) k ≠ 0 := hk
      rw [hct, if_neg hkn] at hk ⊢
      exact d3 k hk
theorem pg_in.r3 {F r : Nat} {S S' : pg_S} (h : pg_in F r S) (e : pg_r3 r S = some S') : pg_in F r S' := by
  obtain ⟨⟨hc, j8⟩, hk⟩ := h
  unfold pg_r3 at e
  cases e2 : pg_fst (pg_h S.2) (fun n => pg_ac S.2 n != 0 && (pg_de S.2 n == 0 && (pg_sent S.1 r 3 (pg_vw S.2) n && decide (3 ≤ pg_hr S 3 (nI (pg_vw S.2)) (lN n) (nI (pg_ac S.2 n) - 2))))) with
  | none => rw [e2] at e; cases e
  | some n =>
    rw [e2] at e
    cases e
    obtain ⟨n1, n2, n3⟩ := xp_fst_is e2
    simp only [Bool.and_eq_true, bne_iff_ne, decide_eq_true_eq] at n3
    refine ⟨⟨hc.de n1 n2 ((hc.2.2.2.2.2.2.2.2.2.2.2.2.1.2.2.2.2.2.2 n).1) ?_ (fun g => ((hc.2.2.2.2.2.2.2.2.2.2.2.2.2.2.2.1 n n3.1).1 g).1), pg_j8.same j8 rfl rfl (Nat.le_refl _) (fun _ _ _ => rfl)⟩, hk⟩
    refine Nat.le_trans n3.2.2.2 (Nat.le_trans (pg_cnt_len _ _ _ _) (xp_len_mono (Nat.le_refl _) (fun i hi g => ?_)))
    simp only [Bool.and_eq_true, beq_iff_eq] at g ⊢
    exact ⟨g.2.1, g.2.2.2.1⟩
