/-! the rules 4, 5, 6, 8 -/
theorem pg_jc.e1 {r : Nat} {S : pg_S} (h : pg_jc r S) (hd : pg_de S.2 (pg_e S.2 + 1) ≠ 0) : pg_jc r (S.1, pg_u S.2 3 0 (pg_e S.2 + 1)) := by
  obtain ⟨a1, a2, a3, a4, a5, a6, a7, a8, a9, b1, b2, b3, c1, c2, c3, d1, d2, d3, e1, e2, e3⟩ := h
  have htop : ¬ pg_h S.2 + 4 < pg_e S.2 + 1 := fun h => hd (c3.1 _ h).2.1
  refine ⟨a1, a2, a3, a4, a5, a6, a7, a8, a9, b1, b2, b3, c1, c2, c3, d1, d2, d3, ⟨?_, ?_, ?_⟩, e2, ?_⟩
  · show pg_h S.2 ≤ pg_e S.2 + 1
    have := e1.1
    omega
  · show pg_e S.2 + 1 ≤ pg_h S.2 + 4
    omega
  · intro n n1 n2
    have n2 : n ≤ pg_e S.2 + 1 := n2
    by_cases hn : n = pg_e S.2 + 1
    · rw [hn]; exact (d3 _ hd).1
    · exact e1.2.2 n n1 (by omega)
  · intro i h1 h2 h3 h4
    obtain ⟨n, n1, n2⟩ := e3 i h1 h2 h3 h4
    exact ⟨n, Nat.le_succ_of_le n1, n2⟩
/-- fields that nothing speaks of but by their size -/
theorem pg_jc.aux {r : Nat} {S : pg_S} (h : pg_jc r S) {sp tm af : Nat} (st : Int64) (h1 : 1 ≤ sp) (h2 : sp ≤ 32) (h3 : tm ≤ 32) (h4 : af ≤ 1) : pg_jc r (S.1, pg_u (pg_u (pg_u (pg_ss S.2 st) 4 0 sp) 5 0 tm) 11 0 af) := by
  obtain ⟨a1, a2, a3, a4, a5, a6, a7, a8, a9, b1, b2, b3, c1, c2, c3, d1, d2, d3, e1, e2, e3⟩ := h
  exact ⟨a1, a2, a3, a4, a5, a6, a7, a8, a9, b1, b2, b3, ⟨c1.1, c1.2.1, h3, h1, h2, h4, c1.2.2.2.2.2.2⟩, c2, c3, d1, d2, d3, e1, e2, e3⟩
theorem pg_jc.sp {r : Nat} {S : pg_S} (h : pg_jc r S) {sp : Nat} (h1 : 1 ≤ sp) (h2 : sp ≤ 32) : pg_jc r (S.1, pg_u S.2 4 0 sp) := by
  obtain ⟨a1, a2, a3, a4, a5, a6, a7, a8, a9, b1, b2, b3, c1, c2, c3, d1, d2, d3, e1, e2, e3⟩ := h
  exact ⟨a1, a2, a3, a4, a5, a6, a7, a8, a9, b1, b2, b3, ⟨c1.1, c1.2.1, c1.2.2.1, h1, h2, c1.2.2.2.2.2⟩, c2, c3, d1, d2, d3, e1, e2, e3⟩
theorem pg_jc.tm {r : Nat} {S : pg_S} (h : pg_jc r S) {tm : Nat} (h1 : tm ≤ 32) : pg_jc r (S.1, pg_u S.2 5 0 tm) := by
  obtain ⟨a1, a2, a3, a4, a5, a6, a7, a8, a9, b1, b2, b3, c1, c2, c3, d1, d2, d3, e1, e2, e3⟩ := h
  exact ⟨a1, a2, a3, a4, a5, a6, a7, a8, a9, b1, b2, b3, ⟨c1.1, c1.2.1, h1, c1.2.2.2⟩, c2, c3, d1, d2, d3, e1, e2, e3⟩
theorem pg_jc.af {r : Nat} {S : pg_S} (h : pg_jc r S) {af : Nat} (h1 : af ≤ 1) : pg_jc r (S.1, pg_u S.2 11 0 af) := by
  obtain ⟨a1, a2, a3, a4, a5, a6, a7, a8, a9, b1, b2, b3, c1, c2, c3, d1, d2, d3, e1, e2, e3⟩ := h
  exact ⟨a1, a2, a3, a4, a5, a6, a7, a8, a9, b1, b2, b3, ⟨c1.1, c1.2.1, c1.2.2.1, c1.2.2.2.1, c1.2.2.2.2.1, h1, c1.2.2.2.2.2.2⟩, c2, c3, d1, d2, d3, e1, e2, e3⟩
theorem pg_jc.ss {r : Nat} {S : pg_S} (h : pg_jc r S) (st : Int64) : pg_jc r (S.1, pg_ss S.2 st) := h
theorem pg_in.srv {F r : Nat} (hr : r < 4) {S : pg_S} (h : pg_in F r S) (hz : S.1.1 ≤ 252) (q : Nat) : pg_in F r (pg_srv r S q) := by
  obtain ⟨⟨hc, j8⟩, hk⟩ := h
  have h1 := (((hc.ss (pg_nst S.1 q S.2.2)).sp (sp := 4) (by decide) (by decide)).af (af := 1) (by decide)).own (k := 4) (x := nI (pg_f S.1 q - 4)) (y := (pg_a S.1 q).toInt64) (z := nI (pg_res S.1 q S.2.2)) (show S.1.1 ≤ 256 by omega) ⟨fun h => by omega, fun h => by omega, fun h => by omega⟩
  exact ⟨⟨h1, pg_j8.own (S := (S.1, pg_u (pg_u (pg_ss S.2 (pg_nst S.1 q S.2.2)) 4 0 4) 11 0 1)) (R' := (pg_srv r S q).2) j8 rfl rfl (Nat.le_refl _) (fun _ _ _ => rfl) (fun h => by omega)⟩, hk.send (pg_ok2_oth hr (Or.inr (Or.inl rfl)))⟩
theorem pg_in.chk {F r : Nat} (hr : r < 4) {S : pg_S} (h : pg_in F r S) (hz : S.1.1 ≤ 253) (hn : ∀ i, i < S.1.1 → pg_no S.2 i = 1 → pg_k S.1 i = 7 → pg_f S.1 i = r → pg_a S.1 i ≠ nI (pg_e S.2)) : pg_in F r (pg_own r S 7 (nI (pg_e S.2)) S.2.2 0) := by
  obtain ⟨⟨hc, j8⟩, hk⟩ := h
  refine ⟨⟨hc.own (by omega) ⟨fun h => by omega, fun _ => ⟨⟨_, Nat.le_refl _, rfl⟩, hn⟩, fun h => by omega⟩, pg_j8.own (R' := (pg_own r S 7 (nI (pg_e S.2)) S.2.2 0).2) j8 rfl rfl (Nat.le_refl _) (fun _ _ _ => rfl) (fun h => by omega)⟩, hk.send ?_⟩
  refine ⟨by omega, by omega, by omega, fun h => by omega, fun h => (by cases h), fun h => by omega, fun _ => rfl, fun _ _ => ⟨_, rfl, hc.2.2.2.2.2.2.2.2.2.2.2.2.2.2.2.2.2.2.1.2.2⟩, fun _ h => by omega, fun _ i n q q' _ _ _ _ _ h => ?_⟩
  have := pg_src_no h
  rw [pg_send_k, if_pos rfl] at this
  omega
theorem pg_in.r4 {F r : Nat} (hr : r < 4) {S S' : pg_S} (h : pg_in F r S) (hz : S.1.1 ≤ 252) (e : pg_r4 r S = some S') : pg_in F r S' := by
  obtain ⟨⟨hc, j8⟩, hk⟩ := h
  unfold pg_r4 at e
  simp only at e
  split at e
  · cases e
  · rename_i hd
    have h1 : pg_in F r (S.1, pg_u S.2 3 0 (pg_e S.2 + 1)) := ⟨⟨hc.e1 hd, pg_j8.same j8 rfl rfl (Nat.le_refl _) (fun _ _ _ => rfl)⟩, hk⟩
    have hown : ∀ i, i < S.1.1 → pg_no S.2 i = 1 → pg_k S.1 i = 7 → pg_f S.1 i = r → pg_a S.1 i ≠ nI (pg_e S.2 + 1) := by
      intro i i1 i2 i3 i4 i5
      obtain ⟨a1, a2, a3, a4, a5, a6, a7, a8, a9, b1, b2, b3, c1, c2, c3, d1, d2, d3, e1, e2, e3⟩ := hc
      obtain ⟨n, n1, n2⟩ := e3 i i1 i4 ((a3 i i1 i4).mp i2) i3
      have := pg_dd_le e1.2.2 (by omega)
      rw [n2, nI_eq (by omega) (by omega)] at i5
      omega
    cases e
    by_cases hs : 2 ≤ pg_de S.2 (pg_e S.2 + 1) ∧ pg_wt (S.1, pg_u S.2 3 0 (pg_e S.2 + 1)) (pg_de S.2 (pg_e S.2 + 1) - 2) = true
    · rw [if_pos hs]
      have h2 := h1.srv hr hz (pg_de S.2 (pg_e S.2 + 1) - 2)
      split
      · refine h2.chk hr (by rw [pg_srv_z]; show S.1.1 + 1 ≤ 253; omega) (fun i i1 i2 i3 i4 => ?_)
        have hi : ¬ i = S.1.1 := by
          intro e
          have : pg_k (pg_srv r (S.1, pg_u S.2 3 0 (pg_e S.2 + 1)) (pg_de S.2 (pg_e S.2 + 1) - 2)).1 i = 4 := by
            unfold pg_srv
            rw [pg_own_k, if_pos e]
          omega
        unfold pg_srv at i2 i3 i4 ⊢
        rw [pg_own_no, if_neg hi] at i2
        rw [pg_own_k, if_neg hi] at i3
        rw [pg_own_f, if_neg hi] at i4
        rw [pg_own_a, if_neg hi]
        have i1 : i < S.1.1 + 1 := i1
        exact hown i (by omega) i2 i3 i4
      · exact h2
    · rw [if_neg hs]
      split
      · exact h1.chk hr (show S.1.1 ≤ 253 by omega) hown
      · exact h1
/-- it settles -/
theorem pg_jc.set {r : Nat} {S : pg_S} (h : pg_jc r S) {n : Nat} (x : Int64) (hn : pg_h S.2 < n) (hd : pg_dd S.1 n) (hp : (pg_proof S.1 (lN n) S.1.1).isSome = true) : pg_jc r (S.1, pg_set S.2 n x) := by
  obtain ⟨a1, a2, a3, a4, a5, a6, a7, a8, a9, b1, b2, b3, c1, c2, c3, d1, d2, d3, e1, e2, e3⟩ := h
  have F0 : ∀ t i, ¬ t = 2 → ¬ t = 3 → ¬ t = 6 → ¬ t = 7 → ¬ t = 8 → (pg_set S.2 n x).1 t i = S.2.1 t i := by
    intro t i h2 h3 h6 h7 h8
    rw [pg_set_at, if_neg (by omega), if_neg (by omega), if_neg (by omega)]
  have Fv : pg_vw (pg_set S.2 n x) = pg_vw S.2 := F0 0 0 (by decide) (by decide) (by decide) (by decide) (by decide)
  have Fc : pg_ch (pg_set S.2 n x) = pg_ch S.2 := F0 1 0 (by decide) (by decide) (by decide) (by decide) (by decide)
  have Fs : pg_sp (pg_set S.2 n x) = pg_sp S.2 := F0 4 0 (by decide) (by decide) (by decide) (by decide) (by decide)
  have Ft : pg_tm (pg_set S.2 n x) = pg_tm S.2 := F0 5 0 (by decide) (by decide) (by decide) (by decide) (by decide)
  have Fa : pg_af (pg_set S.2 n x) = pg_af S.2 := F0 11 0 (by decide) (by decide) (by decide) (by decide) (by decide)
  have Fn : ∀ i, pg_no (pg_set S.2 n x) i = pg_no S.2 i := fun i => F0 9 i (by decide) (by decide) (by decide) (by decide) (by decide)
  have Fk : ∀ i, pg_kn (pg_set S.2 n x) i = pg_kn S.2 i := fun i => F0 10 i (by decide) (by decide) (by decide) (by decide) (by decide)
  have Fh : pg_h (pg_set S.2 n x) = n := by rw [show pg_h (pg_set S.2 n x) = (pg_set S.2 n x).1 2 0 from rfl, pg_set_at, if_pos ⟨rfl, rfl⟩]
  have Fe : pg_e (pg_set S.2 n x) = max (pg_e S.2) n := by
    rw [show pg_e (pg_set S.2 n x) = (pg_set S.2 n x).1 3 0 from rfl, pg_set_at, if_neg (by omega)]
    by_cases h : n ≤ pg_e S.2
    · rw [if_neg (by omega), if_neg (by omega)]; show pg_e S.2 = _; omega
    · rw [if_pos (by omega)]; omega
  have Fx : ∀ t i, t = 6 ∨ t = 7 ∨ t = 8 → (pg_set S.2 n x).1 t i = if i ≤ n then 0 else S.2.1 t i := by
    intro t i ht
    rw [pg_set_at, if_neg (by omega), if_neg (by omega)]
    by_cases h : i ≤ n
    · rw [if_pos ⟨ht, h⟩, if_pos h]
    · rw [if_neg (by omega), if_neg h]
  have Fac : ∀ i, pg_ac (pg_set S.2 n x) i = if i ≤ n then 0 else pg_ac S.2 i := fun i => Fx 6 i (by decide)
  have Fde : ∀ i, pg_de (pg_set S.2 n x) i = if i ≤ n then 0 else pg_de S.2 i := fun i => Fx 7 i (by decide)
  have Fct : ∀ i, pg_ct (pg_set S.2 n x) i = if i ≤ n then 0 else pg_ct S.2 i := fun i => Fx 8 i (by decide)
  refine ⟨⟨fun q hq => a1.1 q (by rw [← Fk]; exact hq), fun q hq => a1.2 q (by rw [← Fn]; exact hq)⟩, fun q => ⟨by rw [Fn]; exact (a2 q).1, by rw [Fk]; exact (a2 q).2⟩, ?_, ?_, ?_, ?_, ?_, ?_, ?_, ?_, ?_, ?_, ?_, ?_, ?_, ?_, ?_, ?_, ?_, ?_, ?_⟩
  · intro i h1 h2
    show pg_no (pg_set S.2 n x) i = 1 ↔ _
    rw [Fn]; exact a3 i h1 h2
  · intro i j h1 h2 h3 h4
    exact a4 i j h1 h2 (by rw [← Fn]; exact h3) (by rw [← Fn]; exact h4)
  · intro i j h1 h2 h3 h4
    exact a5 i j h1 h2 (by rw [← Fn]; exact h3) (by rw [← Fn]; exact h4)
  · intro i j h3 h4
    exact a6 i j (by rw [← Fn]; exact h3) (by rw [← Fn]; exact h4)
  · intro i h1 h3
    exact a7 i h1 (by rw [← Fn]; exact h3)
  · intro i h1 h3
    exact a8 i h1 (by rw [← Fn]; exact h3)
  · intro i j h1 h2 h3 h4
    exact a9 i j h1 h2 (by rw [← Fn]; exact h3) (by rw [← Fn]; exact h4)
  · intro i h1 h3
    show _ → _ → ¬ nI (pg_vw (pg_set S.2 n x)) < _
    rw [Fv]
    exact b1 i h1 (by rw [← Fn]; exact h3)
  · intro i h3
    show _ → ∃ w, w ≤ pg_vw (pg_set S.2 n x) ∧ _
    rw [Fv]
    exact b2 i (by rw [← Fn]; exact h3)
  · intro hc i h3
    show _ → ¬ _ = nI (pg_vw (pg_set S.2 n x))
    rw [Fv]
    exact b3 (by rw [← Fc]; exact hc) i (by rw [← Fn]; exact h3)
  · refine ⟨by rw [Fv]; exact c1.1, by rw [Fc]; exact c1.2.1, by rw [Ft]; exact c1.2.2.1, by rw [Fs]; exact c1.2.2.2.1, by rw [Fs]; exact c1.2.2.2.2.1, by rw [Fa]; exact c1.2.2.2.2.2.1, fun k => ?_⟩
    obtain ⟨k1, k2, k3⟩ := c1.2.2.2.2.2.2 k
    rw [Fac, Fde, Fct]
    refine ⟨?_, ?_, ?_⟩ <;> split <;> first | omega | assumption
  · intro k hk
    have hk : k ≤ pg_h (pg_set S.2 n x) := hk
    rw [Fh] at hk
    show pg_ac (pg_set S.2 n x) k = 0 ∧ pg_de (pg_set S.2 n x) k = 0 ∧ pg_ct (pg_set S.2 n x) k = 0
    rw [Fac, Fde, Fct, if_pos hk, if_pos hk, if_pos hk]
    exact ⟨rfl, rfl, rfl⟩
  · refine ⟨fun k hk => ?_, fun i k h3 h5 h6 h7 h8 h9 => ?_⟩
    · have hk : pg_h (pg_set S.2 n x) + 4 < k := hk
      rw [Fh] at hk
      show pg_ac (pg_set S.2 n x) k = 0 ∧ pg_de (pg_set S.2 n x) k = 0 ∧ pg_ct (pg_set S.2 n x) k = 0
      rw [Fac, Fde, Fct, if_neg (by omega), if_neg (by omega), if_neg (by omega)]
      exact c3.1 k (by omega)
    · have h8 : pg_h (pg_set S.2 n x) + 4 < k := h8
      rw [Fh] at h8
      exact c3.2 i k (by rw [← Fn]; exact h3) h5 (by rw [← Fv]; exact h6) h7 (by omega) h9
  · intro k hk
    have hk : pg_ac (pg_set S.2 n x) k ≠ 0 := hk
    show (2 ≤ pg_ac (pg_set S.2 n x) k → pg_ac (pg_set S.2 n x) k - 2 < S.1.1 ∧ pg_k S.1 (pg_ac (pg_set S.2 n x) k - 2) = 0) ∧ ∃ i, i < S.1.1 ∧ pg_f S.1 i = pg_vw (pg_set S.2 n x) % 4 ∧ pg_a S.1 i = nI (pg_vw (pg_set S.2 n x)) ∧ pg_src S.1 i k (pg_ac (pg_set S.2 n x) k)
    rw [Fac] at hk ⊢
    rw [Fv]
    by_cases h : k ≤ n
    · rw [if_pos h] at hk; exact absurd rfl hk
    · rw [if_neg h] at hk ⊢
      exact d1 k hk
  · intro hc k
    show pg_ac (pg_set S.2 n x) k = 0
    rw [Fac]
    split
    · rfl
    · exact d2 (by rw [← Fc]; exact hc) k
  · intro k hk
    have hk : pg_de (pg_set S.2 n x) k ≠ 0 := hk
    show 3 ≤ pg_dn S.1 k ∧ (2 ≤ pg_de (pg_set S.2 n x) k → pg_de (pg_set S.2 n x) k - 2 < S.1.1)
    rw [Fde] at hk ⊢
    by_cases h : k ≤ n
    · rw [if_pos h] at hk; exact absurd rfl hk
    · rw [if_neg h] at hk ⊢
      exact d3 k hk
  · refine ⟨?_, ?_, ?_⟩
    · show pg_h (pg_set S.2 n x) ≤ pg_e (pg_set S.2 n x)
      rw [Fh, Fe]; omega
    · show pg_e (pg_set S.2 n x) ≤ pg_h (pg_set S.2 n x) + 4
      have := e1.2.1
      rw [Fh, Fe]; omega
    · show pg_dd S.1 (pg_e (pg_set S.2 n x))
      rw [Fe]
      intro k k1 k2
      by_cases h : k ≤ n
      · exact hd k k1 h
      · exact e1.2.2 k k1 (by omega)
  · refine Or.inr ?_
    show (pg_proof S.1 (lN (pg_h (pg_set S.2 n x))) S.1.1).isSome = true
    rw [Fh]; exact hp
  · intro i h1 h2 h3 h4
    obtain ⟨k, k1, k2⟩ := e3 i h1 h2 h3 h4
    refine ⟨k, ?_, k2⟩
    show k ≤ pg_e (pg_set S.2 n x)
    rw [Fe]; omega
theorem pg_set_h (R : pg_R) (n : Nat) (x : Int64) : pg_h (pg_set R n x) = n := by rw [show pg_h (pg_set R n x) = (pg_set R n x).1 2 0 from rfl, pg_set_at, if_pos ⟨rfl, rfl⟩]
theorem pg_set_ac (R : pg_R) (n : Nat) (x : Int64) (i : Nat) : pg_ac (pg_set R n x) i = if i ≤ n then 0 else pg_ac R i := by
  rw [show pg_ac (pg_set R n x) i = (pg_set R n x).1 6 i from rfl, pg_set_at, if_neg (by omega), if_neg (by omega)]
  by_cases h : i ≤ n
  · rw [if_pos ⟨Or.inl rfl, h⟩, if_pos h]
  · rw [if_neg (by omega), if_neg h]
theorem pg_set_oth (R : pg_R) (n : Nat) (x : Int64) (t i : Nat) (h2 : ¬ t = 2) (h3 : ¬ t = 3) (h6 : ¬ t = 6) (h7 : ¬ t = 7) (h8 : ¬ t = 8) : (pg_set R n x).1 t i = R.1 t i := by
  rw [pg_set_at, if_neg (by omega), if_neg (by omega), if_neg (by omega)]
theorem pg_j8.set {r : Nat} {S : pg_S} (h : pg_j8 r S) {n : Nat} (x : Int64) (hn : pg_h S.2 < n) : pg_j8 r (S.1, pg_set S.2 n x) := by
  refine h.same (pg_set_oth S.2 n x 0 0 (by decide) (by decide) (by decide) (by decide) (by decide)) (pg_set_oth S.2 n x 1 0 (by decide) (by decide) (by decide) (by decide) (by decide)) (by rw [pg_set_h]; omega) (fun k _ hk => ?_)
  rw [pg_set_h] at hk
  rw [pg_set_ac, if_neg (by omega)]
/-- the noted checkpoint of rule 5 -/
theorem pg_bst_some {S : pg_S} : ∀ {z i : Nat}, pg_bst S z = some i → i < z ∧ pg_no S.2 i = 1 ∧ pg_k S.1 i = 7 ∧ nI (pg_h S.2) < pg_a S.1 i ∧ 3 ≤ pg_hr S 7 (pg_a S.1 i) (pg_b S.1 i) 0
  | 0, i, h => by cases h
  | z + 1, i, h => by
    have e : ∃ q : Bool, pg_bst S (z + 1) = if pg_no S.2 z == 1 && (pg_k S.1 z == 7 && (decide (nI (pg_h S.2) < pg_a S.1 z) && (q && decide (3 ≤ pg_hr S 7 (pg_a S.1 z) (pg_b S.1 z) 0)))) then some z else pg_bst S z := ⟨_, rfl⟩
    obtain ⟨q, e⟩ := e
    rw [e] at h
    split at h
    · rename_i hc
      cases h
      simp only [Bool.and_eq_true, beq_iff_eq, decide_eq_true_eq] at hc
      exact ⟨by omega, hc.1, hc.2.1, hc.2.2.1, hc.2.2.2.2⟩
    · have := pg_bst_some h
      exact ⟨by omega, this.2⟩
/-- a number that three vouch for is certified -/
theorem pg_hr_cert {F r : Nat} {S : pg_S} (h : pg_in F r S) (hz : S.1.1 ≤ 256) {i : Nat} (hi : i < S.1.1) (hk : pg_k S.1 i = 7) (hr : 3 ≤ pg_hr S 7 (pg_a S.1 i) (pg_b S.1 i) 0) : ∃ n, pg_a S.1 i = nI n ∧ (pg_a S.1 i).toInt.toNat = n ∧ 3 * n ≤ S.1.1 ∧ pg_dd S.1 n ∧ (pg_proof S.1 (lN n) S.1.1).isSome = true := by
  have hr' := hr
  unfold pg_hr at hr'
  obtain ⟨j, j1, j2, j3, -⟩ := h.2.cnt (Nat.le_refl _) (Nat.le_trans (by decide) hr')
  simp only [Bool.and_eq_true, beq_iff_eq] at j2
  obtain ⟨n, n1, n2⟩ := h.2.2.2.2.2.2.2.1 j j1 j3 j2.2.1
  have hd := pg_dd_le n2 hz
  have e : pg_a S.1 i = nI n := by rw [← j2.2.2.1, n1]
  refine ⟨n, e, by rw [e, xp_nat (by omega)], hd, n2, ?_⟩
  unfold pg_proof
  rw [List.find?_isSome]
  refine ⟨i, List.mem_range.mpr hi, ?_⟩
  rw [Bool.and_eq_true, Bool.and_eq_true, decide_eq_true_eq, beq_iff_eq, beq_iff_eq]
  refine ⟨hk, by rw [e]; exact nI_l (by omega), Nat.le_trans hr' (pg_cnt_mono (Nat.le_refl _) (fun _ _ => rfl) (fun q _ g => ?_))⟩
  simp only [Bool.and_eq_true, beq_iff_eq] at g
  unfold pg_cp
  simp only [Bool.and_eq_true, beq_iff_eq]
  exact ⟨g.2.1, g.2.2.1, g.2.2.2.1⟩
theorem pg_in.r5 {F r : Nat} {S S' : pg_S} (h : pg_in F r S) (hz : S.1.1 ≤ 252) (e : pg_r5 S = some S') : pg_in F r S' := by
  unfold pg_r5 at e
  cases e2 : pg_bst S S.1.1 with
  | none => rw [e2] at e; cases e
  | some i =>
    rw [e2] at e
    cases e
    obtain ⟨i1, i2, i3, i4, i5⟩ := pg_bst_some e2
    obtain ⟨n, n1, n2, n3, n4, n5⟩ := pg_hr_cert h (by omega) i1 i3 i5
    have hh : pg_h S.2 < n := by
      have := h.1.1.2.2.2.2.2.2.2.2.2.2.2.2.2.2.2.2.2.2.1
      have h2 := pg_dd_le this.2.2 (by omega)
      have := this.1
      rw [n1, nI_ltI (by omega) (by omega)] at i4
      exact i4
    rw [n2]
    exact ⟨⟨h.1.1.set _ hh n4 n5, h.1.2.set _ hh⟩, h.2⟩
