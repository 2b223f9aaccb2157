/-! the votes of rule 7 -/
theorem xp_sh3 : ∀ n, n < 3 → ∀ x, x < 256 → nI x <<< nI (8 * n) = nI (2 ^ (8 * n) * x) := by decide +kernel
def pg_vtI (S : pg_S) (t : Int32 × Nat × Bool) : Prop := ∃ V, t.1 = nI V ∧ V < 2 ^ (8 * (t.2.1 + (if t.2.2 then 1 else 0))) ∧ ∀ k, k < t.2.1 + (if t.2.2 then 1 else 0) → ∃ x s', pg_vc S s' = some x ∧ V / 2 ^ (8 * k) % 256 = x
theorem pg_vts_is (r : Nat) (S : pg_S) (hz : S.1.1 ≤ 256) : ∀ s, pg_vtI S (pg_vts r S s)
  | 0 => ⟨0, rfl, show 0 < 2 ^ (8 * (0 + 0)) by decide, fun k hk => absurd hk (Nat.not_lt_zero k)⟩
  | s + 1 => by
    obtain ⟨V, v1, v2, v3⟩ := pg_vts_is r S hz s
    obtain ⟨l1, l2⟩ := pg_vts_le r S s
    have step : ∀ x n, pg_vc S s = some x → n < 3 → V < 2 ^ (8 * n) → (∀ k, k < n → ∃ x s', pg_vc S s' = some x ∧ V / 2 ^ (8 * k) % 256 = x) → nI V ||| nI x <<< nI (8 * n) = nI (V ||| 2 ^ (8 * n) * x) ∧ (V ||| 2 ^ (8 * n) * x) < 2 ^ (8 * (n + 1)) ∧ ∀ k, k < n + 1 → ∃ x' s', pg_vc S s' = some x' ∧ (V ||| 2 ^ (8 * n) * x) / 2 ^ (8 * k) % 256 = x' := by
      intro x n hx hn hV hk
      have hx2 := (pg_vc_some hx).1
      have e : V ||| 2 ^ (8 * n) * x = 2 ^ (8 * n) * x + V := by rw [Nat.or_comm, Nat.two_pow_add_eq_or_of_lt hV]
      rw [xp_sh3 n hn x (by omega), xp_or]
      refine ⟨rfl, ?_, fun k hk2 => ?_⟩
      · rw [e]
        rcases (show n = 0 ∨ n = 1 ∨ n = 2 by omega) with rfl | rfl | rfl
        · simp at hV ⊢; omega
        · simp at hV ⊢; omega
        · simp at hV ⊢; omega
      · by_cases h : k = n
        · refine ⟨x, s, hx, ?_⟩
          rw [e, h]
          rcases (show n = 0 ∨ n = 1 ∨ n = 2 by omega) with rfl | rfl | rfl
          · simp at hV ⊢ <;> omega
          · simp at hV ⊢ <;> omega
          · simp at hV ⊢ <;> omega
        · obtain ⟨x', s', h1, h2⟩ := hk k (by omega)
          refine ⟨x', s', h1, ?_⟩
          rw [← h2, e]
          rcases (show (n = 1 ∧ k = 0) ∨ (n = 2 ∧ k = 0) ∨ (n = 2 ∧ k = 1) by omega) with ⟨rfl, rfl⟩ | ⟨rfl, rfl⟩ | ⟨rfl, rfl⟩
          · simp <;> omega
          · simp <;> omega
          · simp <;> omega
    cases hx : pg_vc S s with
    | none =>
      have e : pg_vts r S (s + 1) = pg_vts r S s := by
        show (match pg_vc S s with | none => _ | some x => _) = _
        rw [hx]
      rw [e]
      exact ⟨V, v1, v2, v3⟩
    | some x =>
      have e : pg_vts r S (s + 1) = (if s = r then ((pg_vts r S s).1 ||| nI x <<< nI (8 * ((pg_vts r S s).2.1 + (if (pg_vts r S s).2.2 then 1 else 0))), (pg_vts r S s).2.1, true) else if (pg_vts r S s).2.1 < 2 then ((pg_vts r S s).1 ||| nI x <<< nI (8 * ((pg_vts r S s).2.1 + (if (pg_vts r S s).2.2 then 1 else 0))), (pg_vts r S s).2.1 + 1, (pg_vts r S s).2.2) else pg_vts r S s) := by
        show (match pg_vc S s with | none => _ | some x => _) = _
        rw [hx]
      rw [e]
      by_cases hs : s = r
      · rw [if_pos hs]
        have hown := l2 (by omega)
        rw [hown] at v2 v3 ⊢
        simp only [Bool.false_eq_true, if_false, Nat.add_zero] at v2 v3 ⊢
        obtain ⟨g1, g2, g3⟩ := step x (pg_vts r S s).2.1 hx (by omega) v2 v3
        refine ⟨V ||| 2 ^ (8 * (pg_vts r S s).2.1) * x, ?_, ?_, ?_⟩
        · show (pg_vts r S s).1 ||| _ = _
          rw [v1]; exact g1
        · simpa using g2
        · simpa using g3
      · rw [if_neg hs]
        by_cases ho : (pg_vts r S s).2.1 < 2
        · rw [if_pos ho]
          obtain ⟨g1, g2, g3⟩ := step x ((pg_vts r S s).2.1 + (if (pg_vts r S s).2.2 then 1 else 0)) hx (by split <;> omega) v2 v3
          have e : (pg_vts r S s).2.1 + 1 + (if (pg_vts r S s).2.2 then 1 else 0) = (pg_vts r S s).2.1 + (if (pg_vts r S s).2.2 then 1 else 0) + 1 := by omega
          refine ⟨V ||| 2 ^ (8 * ((pg_vts r S s).2.1 + (if (pg_vts r S s).2.2 then 1 else 0))) * x, ?_, ?_, ?_⟩
          · show (pg_vts r S s).1 ||| _ = _
            rw [v1]; exact g1
          · show _ < 2 ^ (8 * ((pg_vts r S s).2.1 + 1 + (if (pg_vts r S s).2.2 then 1 else 0)))
            rw [e]; exact g2
          · show ∀ k, k < (pg_vts r S s).2.1 + 1 + (if (pg_vts r S s).2.2 then 1 else 0) → _
            rw [e]; exact g3
        · rw [if_neg ho]
          exact ⟨V, v1, v2, v3⟩
theorem pg_vts_vt {r : Nat} {S : pg_S} (hz : S.1.1 ≤ 256) (h1 : (pg_vts r S 4).2.2 = true) (h2 : (pg_vts r S 4).2.1 = 2) {k : Nat} (hk : k < 3) : ∃ s, pg_vc S s = some (pg_vt (pg_vts r S 4).1.toInt64 k) := by
  obtain ⟨V, v1, v2, v3⟩ := pg_vts_is r S hz 4
  rw [h1, h2] at v2 v3
  simp only [if_true] at v2 v3
  obtain ⟨x, s, x1, x2⟩ := v3 k (by omega)
  refine ⟨s, ?_⟩
  rw [x1, v1, nI_l (by have : (2 : Nat) ^ (8 * (2 + 1)) = 16777216 := by decide
                       omega)]
  unfold pg_vt
  rw [wb_tn (by have : (2 : Nat) ^ (8 * (2 + 1)) = 16777216 := by decide
                omega), x2]
theorem pg_ji.num {r : Nat} {S : pg_S} (h : pg_ji r S) (hz : S.1.1 ≤ 256) : pg_num S.2 := by
  obtain ⟨a1, a2, a3, a4, a5, a6, a7, a8, a9, b1, b2, b3, c1, c2, c3, d1, d2, d3, e1, e2, e3⟩ := h.1
  obtain ⟨n1, n2, n3, n4, n5, n6, n7⟩ := c1
  have := pg_dd_le e1.2.2 hz
  have := e1.1
  exact ⟨n1, n2, by omega, by omega, by omega, n5, n6, n7⟩
theorem pg_ji.o7 {F r : Nat} {S : pg_S} (hj : pg_ji r S) (h : pg_ki F S.1) (hz : S.1.1 ≤ 252) : pg_o7 r S := by
  intro hc hr ho ht
  obtain ⟨a1, a2, a3, a4, a5, a6, a7, a8, a9, b1, b2, b3, c1, c2, c3, d1, d2, d3, e1, e2, e3⟩ := hj.1
  have hv : ∀ k, k < 3 → pg_vt (pg_vts r S 4).1.toInt64 k < S.1.1 ∧ (pg_b S.1 (pg_vt (pg_vts r S 4).1.toInt64 k) = 0 ∨ (pg_proof S.1 (pg_b S.1 (pg_vt (pg_vts r S 4).1.toInt64 k)) (pg_vt (pg_vts r S 4).1.toInt64 k)).isSome = true) := by
    intro k hk
    obtain ⟨s, hs⟩ := pg_vts_vt (by omega) ho ht hk
    obtain ⟨s1, s2, s3, s4, s5⟩ := pg_vc_some hs
    exact ⟨s1, a8 _ s1 s2 s3⟩
  have he := pg_ext.own r S 6 (nI (pg_vw S.2)) (pg_vts r S 4).1.toInt64 (pg_od S.1 (pg_vts r S 4).1.toInt64)
  have eb : pg_b (pg_own r S 6 (nI (pg_vw S.2)) (pg_vts r S 4).1.toInt64 (pg_od S.1 (pg_vts r S 4).1.toInt64)).1 S.1.1 = (pg_vts r S 4).1.toInt64 := by rw [pg_own_b, if_pos rfl]
  constructor
  · intro k hk
    obtain ⟨h1, h2⟩ := hv k hk
    refine ⟨h1, ?_⟩
    rcases h2 with e | e
    · exact ⟨0, by decide, e⟩
    · obtain ⟨p, p1, p2, p3⟩ := h.cert (by omega) (by omega) e
      exact ⟨p, by omega, p1⟩
  · refine pg_ki.eok (F := F) (w := pg_vw S.2) (B0 := S.1) ?_ ?_ ?_ h he (Nat.le_refl _) ?_ c1.1 ?_ ?_
    · rw [pg_own_z]; omega
    · rw [pg_own_z]; omega
    · intro k hk
      rw [eb]
      obtain ⟨h1, h2⟩ := hv k hk
      refine ⟨h1, ?_⟩
      rw [(he.2 _ h1).2.2.2.1, pg_proof_ext he (Nat.le_of_lt h1)]
      exact h2
    · rw [eb, pg_own_c, if_pos rfl]
    · rw [pg_own_a, if_pos rfl]
    · intro i i1 i2 i3
      have hi : ¬ i = S.1.1 := by
        intro e
        rw [pg_own_k, if_pos e] at i2
        omega
      rw [pg_own_no, if_neg hi] at i1
      rw [pg_own_k, if_neg hi] at i2
      rw [pg_own_a, if_neg hi] at i3
      exact b3 hc i i1 i2 i3
theorem pg_ji.cu {F r : Nat} {S : pg_S} (hj : pg_ji r S) (h : pg_ki F S.1) (hz : S.1.1 ≤ 256) : pg_cu S := by
  obtain ⟨a1, a2, a3, a4, a5, a6, a7, a8, a9, b1, b2, b3, c1, c2, c3, d1, d2, d3, e1, e2, e3⟩ := hj.1
  refine ⟨h.2.2.2.2.2.1, a5, fun i i1 i2 i3 i4 => ?_⟩
  unfold pg_hr at i4
  obtain ⟨j, j1, j2, j3, -⟩ := h.cnt (Nat.le_refl _) (Nat.le_trans (by decide) i4)
  simp only [Bool.and_eq_true, beq_iff_eq] at j2
  obtain ⟨n, n1, n2⟩ := h.2.2.2.2.2.2.1 j j1 j3 j2.2.1
  have := pg_dd_le n2 hz
  rw [← j2.2.2.1, n1, nI_toInt (by omega)]
  omega
/-- what the rules ask -/
theorem pg_ji.ok {F r : Nat} {S : pg_S} (hj : pg_ji r S) (h : pg_ki F S.1) (hz : S.1.1 ≤ 252) : pg_ok r S := by
  have h1 := hj.num (by omega)
  have h2 := hj.o7 h hz
  have h3 := hj.cu h (by omega)
  obtain ⟨a1, a2, a3, a4, a5, a6, a7, a8, a9, b1, b2, b3, c1, c2, c3, d1, d2, d3, e1, e2, e3⟩ := hj.1
  exact ⟨h1, a1, c3, c2, a3, a4, h3, a6, b1, a7, b2, a9, h.bke, h2, h.2.1, by omega⟩
theorem pg_ji.tok {F r : Nat} {S : pg_S} (hj : pg_ji r S) (h : pg_ki F S.1) (hz : S.1.1 ≤ 252) {m : Nat} (hm : m < S.1.1) : pg_tok r S m := by
  have h1 := hj.num (by omega)
  have h2 := fun (_ : pg_k S.1 m = 6) => hj.eok h (show S.1.1 ≤ 253 by omega) hm
  obtain ⟨a1, a2, a3, a4, a5, a6, a7, a8, a9, b1, b2, b3, c1, c2, c3, d1, d2, d3, e1, e2, e3⟩ := hj.1
  exact ⟨h1, a1, c3, a6, h2⟩
