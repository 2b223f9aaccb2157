/-! it sends -/
theorem pg_own_k (r : Nat) (S : pg_S) (k : Nat) (x : Int32) (y : Int64) (z : Int32) (i : Nat) : pg_k (pg_own r S k x y z).1 i = if i = S.1.1 then k else pg_k S.1 i := rfl
theorem pg_own_f (r : Nat) (S : pg_S) (k : Nat) (x : Int32) (y : Int64) (z : Int32) (i : Nat) : pg_f (pg_own r S k x y z).1 i = if i = S.1.1 then r else pg_f S.1 i := rfl
theorem pg_own_a (r : Nat) (S : pg_S) (k : Nat) (x : Int32) (y : Int64) (z : Int32) (i : Nat) : pg_a (pg_own r S k x y z).1 i = if i = S.1.1 then x else pg_a S.1 i := rfl
theorem pg_own_b (r : Nat) (S : pg_S) (k : Nat) (x : Int32) (y : Int64) (z : Int32) (i : Nat) : pg_b (pg_own r S k x y z).1 i = if i = S.1.1 then y else pg_b S.1 i := rfl
theorem pg_own_c (r : Nat) (S : pg_S) (k : Nat) (x : Int32) (y : Int64) (z : Int32) (i : Nat) : pg_c (pg_own r S k x y z).1 i = if i = S.1.1 then z else pg_c S.1 i := rfl
theorem pg_own_g (r : Nat) (S : pg_S) (k : Nat) (x : Int32) (y : Int64) (z : Int32) (i : Nat) : pg_g (pg_own r S k x y z).1 i = if i = S.1.1 then false else pg_g S.1 i := rfl
/-- what the replica owes for a message that it sends -/
def pg_oj (r : Nat) (S : pg_S) (k : Nat) (x : Int32) (y : Int64) : Prop :=
  (k = 2 ∨ k = 3 → pg_ch S.2 = 0 ∧ x = nI (pg_vw S.2) ∧ (∀ i, i < S.1.1 → pg_no S.2 i = 1 → pg_k S.1 i = k → pg_f S.1 i = r → pg_a S.1 i = x → pg_b S.1 i = y → False) ∧ ∃ n, n ≤ pg_h S.2 + 4 ∧ y = lN n) ∧
  (k = 7 → (∃ n, n ≤ pg_e S.2 ∧ x = nI n) ∧ ∀ i, i < S.1.1 → pg_no S.2 i = 1 → pg_k S.1 i = 7 → pg_f S.1 i = r → pg_a S.1 i ≠ x) ∧
  (k = 5 → (∃ w, 1 ≤ w ∧ w ≤ 15 ∧ x = nI w ∧ w ≤ pg_vw S.2) ∧ (y = 0 ∨ (pg_proof S.1 y S.1.1).isSome = true) ∧ ∀ i, i < S.1.1 → pg_no S.2 i = 1 → pg_k S.1 i = 5 → pg_f S.1 i = r → pg_a S.1 i < x)
theorem pg_jc.own {r : Nat} {S : pg_S} (h : pg_jc r S) {k : Nat} {x : Int32} {y : Int64} {z : Int32} (hz : S.1.1 ≤ 256) (ho : pg_oj r S k x y) : pg_jc r (pg_own r S k x y z) := by
  obtain ⟨a1, a2, a3, a4, a5, a6, a7, a8, a9, b1, b2, b3, c1, c2, c3, d1, d2, d3, e1, e2, e3⟩ := h
  obtain ⟨o1, o2, o3⟩ := ho
  have he : pg_ext S.1 (pg_own r S k x y z).1 := pg_ext.own r S k x y z
  have hno : ∀ i, pg_no S.2 i = 1 → i < S.1.1 := a1.2
  have hdd := pg_dd_le e1.2.2 hz
  have hnI : ∀ {i}, i ≠ S.1.1 → pg_no (pg_own r S k x y z).2 i = 1 → pg_no S.2 i = 1 := by
    intro i hi h
    rw [pg_own_no, if_neg hi] at h
    exact h
  have hlt : ∀ {i}, i < (pg_own r S k x y z).1.1 → i ≠ S.1.1 → i < S.1.1 := by
    intro i h1 h2
    rw [pg_own_z] at h1
    omega
  have hvw : pg_vw (pg_own r S k x y z).2 = pg_vw S.2 := rfl
  have hh : pg_h (pg_own r S k x y z).2 = pg_h S.2 := rfl
  have hch : pg_ch (pg_own r S k x y z).2 = pg_ch S.2 := rfl
  have hee : pg_e (pg_own r S k x y z).2 = pg_e S.2 := rfl
  have hac : ∀ n, pg_ac (pg_own r S k x y z).2 n = pg_ac S.2 n := fun _ => rfl
  have hkn : ∀ n, pg_kn (pg_own r S k x y z).2 n = pg_kn S.2 n := fun _ => rfl
  refine ⟨pg_own_kno a1 k x y z, fun q => ⟨?_, ?_⟩, ?_, ?_, ?_, ?_, ?_, ?_, ?_, ?_, ?_, ?_, c1, c2, ⟨c3.1, ?_⟩, ?_, d2, fun n hn => ⟨Nat.le_trans (d3 n hn).1 (pg_dn_ext he n), fun g => Nat.lt_of_lt_of_le ((d3 n hn).2 g) he.1⟩, ⟨e1.1, e1.2.1, pg_dd_ext he e1.2.2⟩, ?_, ?_⟩
  · rw [pg_own_no]
    split
    · exact Nat.le_refl 1
    · exact (a2 q).1
  · rw [hkn]; exact (a2 q).2
  · -- pg_ow
    intro i h1 h2
    rw [pg_own_no, pg_own_g]
    rw [pg_own_f] at h2
    by_cases hi : i = S.1.1
    · simp [hi]
    · rw [if_neg hi] at h2 ⊢
      rw [if_neg hi]
      exact a3 i (hlt h1 hi) h2
  · -- pg_nu
    intro i j h1 h2 h3 h4 h5 h6 h7 h8 h9
    rw [pg_own_k] at h5
    rw [pg_own_k, pg_own_k] at h6
    rw [pg_own_f, pg_own_f] at h7
    rw [pg_own_a, pg_own_a] at h8
    rw [pg_own_b, pg_own_b] at h9
    by_cases hi : i = S.1.1
    · by_cases hj : j = S.1.1
      · rw [hi, hj]
      · rw [if_pos hi] at h5
        rw [if_pos hi, if_neg hj] at h6 h7 h8 h9
        exact absurd h9.symm (fun h9 => (o1 h5).2.2.1 j (hlt h2 hj) (hnI hj h4) h6.symm h7.symm h8.symm h9)
    · by_cases hj : j = S.1.1
      · rw [if_neg hi] at h5
        rw [if_neg hi, if_pos hj] at h6 h7 h8 h9
        exact absurd h9 (fun h9 => (o1 (by rw [← h6]; exact h5)).2.2.1 i (hlt h1 hi) (hnI hi h3) h6 h7 h8 h9)
      · rw [if_neg hi] at h5
        rw [if_neg hi, if_neg hj] at h6 h7 h8 h9
        exact a4 i j (hlt h1 hi) (hlt h2 hj) (hnI hi h3) (hnI hj h4) h5 h6 h7 h8 h9
  · -- pg_j2
    intro i j h1 h2 h3 h4 h5 h6 h7 h8
    rw [pg_own_k] at h5 h6
    rw [pg_own_f, pg_own_f] at h7
    rw [pg_own_a, pg_own_a] at h8
    by_cases hi : i = S.1.1
    · by_cases hj : j = S.1.1
      · rw [hi, hj]
      · rw [if_pos hi] at h5
        rw [if_neg hj] at h6
        rw [if_pos hi, if_neg hj] at h7 h8
        exact absurd h8.symm ((o2 h5).2 j (hlt h2 hj) (hnI hj h4) h6 h7.symm)
    · by_cases hj : j = S.1.1
      · rw [if_neg hi] at h5
        rw [if_pos hj] at h6
        rw [if_neg hi, if_pos hj] at h7 h8
        exact absurd h8 ((o2 h6).2 i (hlt h1 hi) (hnI hi h3) h5 h7)
      · rw [if_neg hi] at h5
        rw [if_neg hj] at h6
        rw [if_neg hi, if_neg hj] at h7 h8
        exact a5 i j (hlt h1 hi) (hlt h2 hj) (hnI hi h3) (hnI hj h4) h5 h6 h7 h8
  · -- pg_vcu
    intro i j h3 h4 h5 h6 h7 h8
    rw [pg_own_f] at h8
    by_cases hi : i = S.1.1
    · rw [if_pos hi] at h8
      exact absurd rfl h8
    · rw [if_neg hi] at h8
      rw [pg_own_f, pg_own_f, if_neg hi] at h7
      rw [pg_own_k] at h5 h6
      by_cases hj : j = S.1.1
      · rw [if_pos hj] at h7
        exact absurd h7 h8
      · rw [if_neg hj] at h7 h6
        rw [if_neg hi] at h5
        exact a6 i j (hnI hi h3) (hnI hj h4) h5 h6 h7 h8
  · -- pg_vb
    intro i h1 h3 h5
    rw [pg_own_k] at h5
    rw [pg_own_a]
    by_cases hi : i = S.1.1
    · rw [if_pos hi] at h5 ⊢
      obtain ⟨⟨w, w1, w2, w3, -⟩, -, -⟩ := o3 h5
      exact ⟨w, w1, w2, w3⟩
    · rw [if_neg hi] at h5 ⊢
      exact a7 i (hlt h1 hi) (hnI hi h3) h5
  · -- pg_j3
    intro i h1 h3 h5
    rw [pg_own_k] at h5
    rw [pg_own_b]
    by_cases hi : i = S.1.1
    · rw [if_pos hi] at h5 ⊢
      rw [hi, pg_proof_ext he (Nat.le_refl _)]
      exact (o3 h5).2.1
    · rw [if_neg hi] at h5 ⊢
      rw [pg_proof_ext he (Nat.le_of_lt (hlt h1 hi))]
      exact a8 i (hlt h1 hi) (hnI hi h3) h5
  · -- pg_vi
    intro i j h0 h2 h3 h4 h5 h6 h7 h8
    have hi : i ≠ S.1.1 := by rw [pg_own_z] at h2; omega
    have h1 : i < S.1.1 := by rw [pg_own_z] at h2; omega
    rw [pg_own_k] at h5 h6
    rw [pg_own_f] at h7 h8
    rw [pg_own_a, pg_own_a, if_neg hi]
    rw [if_neg hi] at h5 h7
    by_cases hj : j = S.1.1
    · rw [if_pos hj] at h6 ⊢
      exact (o3 h6).2.2 i h1 (hnI hi h3) h5 h7
    · rw [if_neg hj] at h6 h8 ⊢
      exact a9 i j h0 (hlt h2 hj) (hnI hi h3) (hnI hj h4) h5 h6 h7 h8
  · -- pg_vo
    intro i h1 h3 h5 h7
    rw [hvw]
    rw [pg_own_k] at h5
    rw [pg_own_f] at h7
    rw [pg_own_a]
    by_cases hi : i = S.1.1
    · rw [if_pos hi] at h5 ⊢
      obtain ⟨⟨w, w1, w2, w3, w4⟩, -, -⟩ := o3 h5
      have := c1.1
      rw [w3, nI_ltI (by omega) (by omega)]
      omega
    · rw [if_neg hi] at h5 h7 ⊢
      exact b1 i (hlt h1 hi) (hnI hi h3) h5 h7
  · -- pg_nw
    intro i h3 h5
    rw [hvw]
    rw [pg_own_k] at h5
    rw [pg_own_a]
    by_cases hi : i = S.1.1
    · rw [if_pos hi] at h5 ⊢
      exact ⟨_, Nat.le_refl _, (o1 h5).2.1⟩
    · rw [if_neg hi] at h5 ⊢
      exact b2 i (hnI hi h3) h5
  · -- pg_j4
    intro hc i h3 h5
    rw [hvw]
    rw [pg_own_k] at h5
    rw [pg_own_a]
    by_cases hi : i = S.1.1
    · rw [if_pos hi] at h5
      have := (o1 h5).1
      rw [hch] at hc
      omega
    · rw [if_neg hi] at h5 ⊢
      exact b3 hc i (hnI hi h3) h5
  · -- pg_top
    intro i n h3 h5 h6 h7 h8 h9
    rw [hvw] at h6
    rw [hh] at h8
    rw [pg_own_k] at h5
    rw [pg_own_a] at h6
    rw [pg_own_b] at h7
    by_cases hi : i = S.1.1
    · rw [if_pos hi] at h5 h6 h7
      obtain ⟨-, -, -, n', n1, n2⟩ := o1 h5
      have := e1.1
      rw [n2, lN_eq (by omega) (by omega)] at h7
      omega
    · rw [if_neg hi] at h5 h6 h7
      exact c3.2 i n (hnI hi h3) h5 h6 h7 h8 h9
  · -- pg_j6
    intro n hn
    obtain ⟨h1, i, i1, i2, i3, i4⟩ := d1 n hn
    have xi := he.2 i i1
    refine ⟨fun g => ?_, i, Nat.lt_of_lt_of_le i1 he.1, xi.2.1.trans i2, xi.2.2.1.trans i3, (pg_src_ext he i1).mpr i4⟩
    obtain ⟨g1, g2⟩ := h1 g
    exact ⟨Nat.lt_of_lt_of_le g1 he.1, (he.2 _ g1).1.trans g2⟩
  · rcases e2 with h | h
    · exact Or.inl h
    · exact Or.inr (pg_proof_up he h)
  · -- pg_jB
    intro i h1 h2 h3 h4
    by_cases hi : i = S.1.1
    · rw [pg_own_k, if_pos hi] at h4
      rw [pg_own_a, if_pos hi]
      exact (o2 h4).1
    · have hi2 := hlt h1 hi
      have xi := he.2 i hi2
      obtain ⟨n, n1, n2⟩ := e3 i hi2 (by rw [← xi.2.1]; exact h2) (by rw [← xi.2.2.2.2.2]; exact h3) (by rw [← xi.1]; exact h4)
      exact ⟨n, n1, xi.2.2.1.trans n2⟩
/-- the orders that it has sent; q: what holds of a new one -/
theorem pg_j8.own {r : Nat} {S : pg_S} (h : pg_j8 r S) {k : Nat} {x : Int32} {y : Int64} {z : Int32} {R' : pg_R} (hv : pg_vw R' = pg_vw S.2) (hc : pg_ch R' = pg_ch S.2) (hh : pg_h S.2 ≤ pg_h R') (ha : ∀ n, pg_ac S.2 n ≠ 0 → pg_h R' < n → pg_ac R' n = pg_ac S.2 n) (hn : k = 1 ∨ k = 6 → ∃ w, w ≤ pg_vw S.2 ∧ x = nI w ∧ (w = pg_vw S.2 → pg_ch S.2 = 0 ∧ ∀ n q, pg_src (pg_own r S k x y z).1 S.1.1 n q → n ≤ pg_h R' ∨ pg_ac R' n = q)) : pg_j8 r ((pg_own r S k x y z).1, R') := by
  intro i h1 h2 h3 h4
  have he : pg_ext S.1 (pg_own r S k x y z).1 := pg_ext.own r S k x y z
  show ∃ w, w ≤ pg_vw R' ∧ _ ∧ (w = pg_vw R' → pg_ch R' = 0 ∧ ∀ n q, _ → n ≤ pg_h R' ∨ pg_ac R' n = q)
  rw [hv, hc]
  by_cases hi : i = S.1.1
  · subst hi
    have h4 : k = 1 ∨ k = 6 := by
      replace h4 : pg_k (pg_own r S k x y z).1 S.1.1 = 1 ∨ pg_k (pg_own r S k x y z).1 S.1.1 = 6 := h4
      rwa [pg_own_k, if_pos rfl] at h4
    obtain ⟨w, w1, w2, w3⟩ := hn h4
    exact ⟨w, w1, by rw [pg_own_a, if_pos rfl]; exact w2, w3⟩
  · have hi2 : i < S.1.1 := by
      replace h1 : i < (pg_own r S k x y z).1.1 := h1
      rw [pg_own_z] at h1
      omega
    have xi := he.2 i hi2
    obtain ⟨w, w1, w2, w3⟩ := h i hi2 (by rw [← xi.2.1]; exact h2) (by rw [← xi.2.2.2.2.2]; exact h3) (by rw [← xi.1]; exact h4)
    refine ⟨w, w1, xi.2.2.1.trans w2, fun hw => ⟨(w3 hw).1, fun n q hq => ?_⟩⟩
    have hq := (pg_src_ext he hi2).mp hq
    rcases (w3 hw).2 n q hq with g | g
    · exact Or.inl (by omega)
    · by_cases hn2 : n ≤ pg_h R'
      · exact Or.inl hn2
      · exact Or.inr (by rw [ha n (by have := pg_src_pos hq; omega) (by omega)]; exact g)
/-- .. and nothing is sent -/
theorem pg_j8.same {r : Nat} {S : pg_S} (h : pg_j8 r S) {R' : pg_R} (hv : pg_vw R' = pg_vw S.2) (hc : pg_ch R' = pg_ch S.2) (hh : pg_h S.2 ≤ pg_h R') (ha : ∀ n, pg_ac S.2 n ≠ 0 → pg_h R' < n → pg_ac R' n = pg_ac S.2 n) : pg_j8 r (S.1, R') := by
  intro i h1 h2 h3 h4
  show ∃ w, w ≤ pg_vw R' ∧ _ ∧ (w = pg_vw R' → pg_ch R' = 0 ∧ ∀ n q, _ → n ≤ pg_h R' ∨ pg_ac R' n = q)
  rw [hv, hc]
  obtain ⟨w, w1, w2, w3⟩ := h i h1 h2 h3 h4
  refine ⟨w, w1, w2, fun hw => ⟨(w3 hw).1, fun n q hq => ?_⟩⟩
  rcases (w3 hw).2 n q hq with g | g
  · exact Or.inl (by omega)
  · by_cases hn2 : n ≤ pg_h R'
    · exact Or.inl hn2
    · exact Or.inr (by rw [ha n (by have := pg_src_pos hq; omega) (by omega)]; exact g)
/-- .. and the view is another -/
theorem pg_j8.later {r : Nat} {S : pg_S} (h : pg_j8 r S) {R' : pg_R} (hv : pg_vw S.2 < pg_vw R') : pg_j8 r (S.1, R') := by
  intro i h1 h2 h3 h4
  obtain ⟨w, w1, w2, w3⟩ := h i h1 h2 h3 h4
  have hv : pg_vw S.2 < pg_vw R' := hv
  exact ⟨w, Nat.le_of_lt (Nat.lt_of_le_of_lt w1 hv), w2, fun hw => absurd hw (by show ¬ w = pg_vw R'; omega)⟩
/-- what the board asks of a message that is sent -/
def pg_ok2 (F : Nat) (B : pg_B) (k p : Nat) (x : Int32) (y : Int64) (z : Int32) (g : Bool) (B' : pg_B) : Prop :=
  k < 8 ∧ p < 6 ∧ (k = 0 ↔ 4 ≤ p) ∧ (k = 0 → (∃ t, t < 256 ∧ x = nI t) ∧ (∃ o, o < 3 ∧ y = lN o) ∧ ∃ c, c < 64 ∧ z = nI c) ∧ (g = true → p + 1 = F) ∧
  (k = 6 → ∃ t : Int32, y = t.toInt64) ∧ (k = 7 → z = 0) ∧ (g = false → k = 7 → ∃ n, x = nI n ∧ pg_dd B n) ∧ (g = false → k = 2 → pg_pok B' B.1 ∧ ∀ i, i < B.1 → pg_g B i = false → pg_k B i = 2 → pg_f B i = p → pg_a B i = x → pg_b B i = y → False) ∧
  (g = false → ∀ i n q q', i < B.1 → pg_g B i = false → pg_f B i = p → pg_a B i = x → pg_src B i n q → pg_src B' B.1 n q' → q = q')
theorem pg_pok_ext {B B' : pg_B} (h : pg_ext B B') {i : Nat} (hi : i < B.1) (hp : pg_pok B i) : pg_pok B' i := by
  obtain ⟨e1, e2, e3, e4, e5, e6⟩ := h.2 i hi
  obtain ⟨w, n, x, h1, h2, h3, h4, h5, h6, h7, h8, h9, j, j1, j2, j3, j4⟩ := hp
  have xj := h.2 j j1
  refine ⟨w, n, x, h1, h2, e3.trans h3, e4.trans h4, by rw [e2]; exact h5, e5.trans h6, h7, h8, fun g => ?_, j, Nat.lt_of_lt_of_le j1 h.1, xj.2.1.trans j2, xj.2.2.1.trans j3, (pg_src_ext h j1).mpr j4⟩
  obtain ⟨g1, g2⟩ := h9 g
  exact ⟨Nat.lt_of_lt_of_le g1 h.1, (h.2 _ g1).1.trans g2⟩
theorem pg_ki.send {F : Nat} {B : pg_B} (h : pg_ki F B) {k p : Nat} {x : Int32} {y : Int64} {z : Int32} {g : Bool} (ho : pg_ok2 F B k p x y z g (pg_send B k p x y z g)) : pg_ki F (pg_send B k p x y z g) := by
  obtain ⟨h1, h2, h3, h4, h5, h6, h7, h8, h9, hA⟩ := h
  obtain ⟨o1, o2, o3, o4, o5, o6, o7, o8, o9, oA⟩ := ho
  have he := pg_ext.send B k p x y z g
  have hlt : ∀ {i}, i < (pg_send B k p x y z g).1 → i ≠ B.1 → i < B.1 := by
    intro i h1 h2
    rw [pg_send_z] at h1
    omega
  refine ⟨?_, ?_, h3, ?_, ?_, ?_, ?_, ?_, ?_, ?_⟩
  · intro i hi
    rw [pg_send_k, pg_send_f]
    by_cases e : i = B.1
    · rw [if_pos e, if_pos e]; exact ⟨o1, o2, o3⟩
    · rw [if_neg e, if_neg e]; exact h1 i (hlt hi e)
  · intro i hi
    rw [pg_send_k, pg_send_a, pg_send_b, pg_send_c]
    by_cases e : i = B.1
    · rw [if_pos e, if_pos e, if_pos e, if_pos e]; exact o4
    · rw [if_neg e, if_neg e, if_neg e, if_neg e]; exact h2 i (hlt hi e)
  · intro i hi
    rw [pg_send_f, pg_send_g]
    by_cases e : i = B.1
    · rw [if_pos e, if_pos e]; exact o5
    · rw [if_neg e, if_neg e]; exact h4 i (hlt hi e)
  · intro i hi
    rw [pg_send_k, pg_send_b]
    by_cases e : i = B.1
    · rw [if_pos e, if_pos e]; exact o6
    · rw [if_neg e, if_neg e]; exact h5 i (hlt hi e)
  · intro i hi
    rw [pg_send_k, pg_send_c]
    by_cases e : i = B.1
    · rw [if_pos e, if_pos e]; exact o7
    · rw [if_neg e, if_neg e]; exact h6 i (hlt hi e)
  · intro i hi
    rw [pg_send_k, pg_send_g, pg_send_a]
    by_cases e : i = B.1
    · rw [if_pos e, if_pos e, if_pos e]
      intro g1 g2
      obtain ⟨n, n1, n2⟩ := o8 g1 g2
      exact ⟨n, n1, pg_dd_ext he n2⟩
    · rw [if_neg e, if_neg e, if_neg e]
      intro g1 g2
      obtain ⟨n, n1, n2⟩ := h7 i (hlt hi e) g1 g2
      exact ⟨n, n1, pg_dd_ext he n2⟩
  · intro i hi
    rw [pg_send_k, pg_send_g]
    by_cases e : i = B.1
    · rw [if_pos e, if_pos e]
      intro g1 g2
      rw [e]
      exact (o9 g1 g2).1
    · rw [if_neg e, if_neg e]
      intro g1 g2
      exact pg_pok_ext he (hlt hi e) (h8 i (hlt hi e) g1 g2)
  · intro i j hi hj
    rw [pg_send_k, pg_send_k, pg_send_g, pg_send_g, pg_send_f, pg_send_f, pg_send_a, pg_send_a, pg_send_b, pg_send_b]
    by_cases e : i = B.1
    · by_cases e2 : j = B.1
      · intros; rw [e, e2]
      · rw [if_pos e, if_pos e, if_pos e, if_pos e, if_pos e, if_neg e2, if_neg e2, if_neg e2, if_neg e2, if_neg e2]
        intro g1 g2 g3 g4 g5 g6 g7
        exact ((o9 g1 g3).2 j (hlt hj e2) g2 g4 g5.symm g6.symm g7.symm).elim
    · by_cases e2 : j = B.1
      · rw [if_neg e, if_neg e, if_neg e, if_neg e, if_neg e, if_pos e2, if_pos e2, if_pos e2, if_pos e2, if_pos e2]
        intro g1 g2 g3 g4 g5 g6 g7
        exact ((o9 g2 g4).2 i (hlt hi e) g1 g3 g5 g6 g7).elim
      · rw [if_neg e, if_neg e, if_neg e, if_neg e, if_neg e, if_neg e2, if_neg e2, if_neg e2, if_neg e2, if_neg e2]
        exact h9 i j (hlt hi e) (hlt hj e2)
  · intro i j n q q' hi hj
    rw [pg_send_g, pg_send_g, pg_send_f, pg_send_f, pg_send_a, pg_send_a]
    have uniq : ∀ q q', g = false → pg_src (pg_send B k p x y z g) B.1 n q → pg_src (pg_send B k p x y z g) B.1 n q' → q = q' := by
      intro q q' hg s1 s2
      rcases s1 with ⟨k1, -, -, -, -, s1⟩ | ⟨k1, -, j1, j2, j3, j4, j5⟩
      · rcases s2 with ⟨k2, -, -, -, -, s2⟩ | ⟨k2, -⟩
        · rw [s1, s2]
        · omega
      · rcases s2 with ⟨k2, -⟩ | ⟨k2, -, l1, l2, l3, l4, l5⟩
        · omega
        · have : j1 = l1 := by omega
          rw [j4, l4, this]
    by_cases e : i = B.1
    · by_cases e2 : j = B.1
      · rw [if_pos e]
        intro g1 _ _ _ s1 s2
        rw [e] at s1
        rw [e2] at s2
        exact uniq q q' g1 s1 s2
      · rw [if_pos e, if_pos e, if_pos e, if_neg e2, if_neg e2, if_neg e2]
        intro g1 g2 g3 g4 s1 s2
        rw [e] at s1
        exact (oA g1 j n q' q (hlt hj e2) g2 g3.symm g4.symm ((pg_src_ext he (hlt hj e2)).mp s2) s1).symm
    · by_cases e2 : j = B.1
      · rw [if_neg e, if_neg e, if_neg e, if_pos e2, if_pos e2, if_pos e2]
        intro g1 g2 g3 g4 s1 s2
        rw [e2] at s2
        exact oA g2 i n q q' (hlt hi e) g1 g3 g4 ((pg_src_ext he (hlt hi e)).mp s1) s2
      · rw [if_neg e, if_neg e, if_neg e, if_neg e2, if_neg e2, if_neg e2]
        intro g1 g2 g3 g4 s1 s2
        exact hA i j n q q' (hlt hi e) (hlt hj e2) g1 g2 g3 g4 ((pg_src_ext he (hlt hi e)).mp s1) ((pg_src_ext he (hlt hj e2)).mp s2)
