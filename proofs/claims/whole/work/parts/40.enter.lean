/-! settling, and entering by a NEW-VIEW -/
/-- above the window nothing is there, and nothing is noted for VIEW -/
def pg_top (S : pg_S) : Prop := (∀ n, pg_h S.2 + 4 < n → pg_ac S.2 n = 0 ∧ pg_de S.2 n = 0 ∧ pg_ct S.2 n = 0) ∧ ∀ i n, pg_no S.2 i = 1 → (pg_k S.1 i = 2 ∨ pg_k S.1 i = 3) → pg_a S.1 i = nI (pg_vw S.2) → pg_b S.1 i = lN n → pg_h S.2 + 4 < n → n < 2000 → False
theorem pg_set_at (R : pg_R) (n : Nat) (x : Int64) (t i : Nat) : (pg_set R n x).1 t i = if t = 2 ∧ i = 0 then n else if t = 3 ∧ i = 0 ∧ ¬ n ≤ pg_e R then n else if (t = 6 ∨ t = 7 ∨ t = 8) ∧ i ≤ n then 0 else R.1 t i := by
  unfold pg_set
  dsimp only
  by_cases he : n ≤ pg_e R
  · rw [if_pos he]
    show (if t = 2 ∧ i = 0 then n else if t = 8 then (if i ≤ n then 0 else R.1 8 i) else if t = 7 then (if i ≤ n then 0 else R.1 7 i) else if t = 6 then (if i ≤ n then 0 else R.1 6 i) else R.1 t i) = _
    rcases (show t = 2 ∨ t = 3 ∨ t = 6 ∨ t = 7 ∨ t = 8 ∨ (t ≠ 2 ∧ t ≠ 3 ∧ t ≠ 6 ∧ t ≠ 7 ∧ t ≠ 8) by omega) with rfl | rfl | rfl | rfl | rfl | ⟨h2, h3, h6, h7, h8⟩
    · simp
    · simp [he]
    · simp
    · simp
    · simp
    · simp [h2, h3, h6, h7, h8]
  · rw [if_neg he]
    show (if t = 3 ∧ i = 0 then n else if t = 2 ∧ i = 0 then n else if t = 8 then (if i ≤ n then 0 else R.1 8 i) else if t = 7 then (if i ≤ n then 0 else R.1 7 i) else if t = 6 then (if i ≤ n then 0 else R.1 6 i) else R.1 t i) = _
    rcases (show t = 2 ∨ t = 3 ∨ t = 6 ∨ t = 7 ∨ t = 8 ∨ (t ≠ 2 ∧ t ≠ 3 ∧ t ≠ 6 ∧ t ≠ 7 ∧ t ≠ 8) by omega) with rfl | rfl | rfl | rfl | rfl | ⟨h2, h3, h6, h7, h8⟩
    · simp
    · simp [he]
    · simp
    · simp
    · simp
    · simp [h2, h3, h6, h7, h8]
theorem pg_set_st (R : pg_R) (n : Nat) (x : Int64) : (pg_set R n x).2 = if n ≤ pg_e R then R.2 else x := by
  unfold pg_set
  dsimp only
  split <;> rfl
theorem pg_nv_same {S : pg_S} {R' : pg_R} (hn : ∀ i, pg_no R' i = pg_no S.2 i) (hw : pg_vw R' = pg_vw S.2) (k n s : Nat) : pg_nv (S.1, R') k n s = pg_nv S k n s := by
  unfold pg_nv
  rw [xp_find_congr (P := fun i => pg_no S.2 i == 1 && (pg_k S.1 i == k && (pg_f S.1 i == s && (pg_a S.1 i == nI (pg_vw S.2) && pg_b S.1 i == lN n))))]
  intro i _
  show (pg_no R' i == 1 && (pg_k S.1 i == k && (pg_f S.1 i == s && (pg_a S.1 i == nI (pg_vw R') && pg_b S.1 i == lN n)))) = _
  rw [hn, hw]
theorem pg_lvc_same {S : pg_S} {R' : pg_R} (hn : ∀ i, pg_no R' i = pg_no S.2 i) (s : Nat) : pg_lvc (S.1, R') s = pg_lvc S s := by
  unfold pg_lvc
  congr 1
  apply List.filter_congr
  intro i _
  show (pg_no R' i == 1 && _) = _
  rw [hn]
theorem pg_nv_top {S : pg_S} (h : pg_top S) {k n s : Nat} (hk : k = 2 ∨ k = 3) (hn : pg_h S.2 + 4 < n) (hn2 : n < 2000) : pg_nv S k n s = 1099511627776 := by
  unfold pg_nv
  rw [xp_find_none]
  intro i _
  rw [Bool.eq_false_iff]
  intro h2
  simp only [Bool.and_eq_true, beq_iff_eq] at h2
  exact h.2 i n h2.1 (by omega) h2.2.2.2.1 h2.2.2.2.2 hn hn2
theorem xc_R.settle {r : Nat} {S : pg_S} {v : xn_V} (hR : xc_R r S v) (hT : pg_top S) {n : Nat} (hn : pg_h S.2 < n) (hn2 : n < 1000) (x : Int64) : xc_R r (S.1, pg_set S.2 n x) (xn_sl v r (pg_h S.2) (pg_e S.2) n x) := by
  obtain ⟨hF, ⟨kl, hL, hkl⟩, ⟨cl, hC, hc⟩, hV, hS⟩ := hR
  obtain ⟨c, hcc⟩ : ∃ c, c = min 4 (n - pg_h S.2) := ⟨_, rfl⟩
  have hno : ∀ i, pg_no (pg_set S.2 n x) i = pg_no S.2 i := by
    intro i
    show (pg_set S.2 n x).1 9 i = _
    rw [pg_set_at, if_neg (by omega), if_neg (by omega), if_neg (by omega)]
  have hvw : pg_vw (pg_set S.2 n x) = pg_vw S.2 := by
    show (pg_set S.2 n x).1 0 0 = _
    rw [pg_set_at, if_neg (by omega), if_neg (by omega), if_neg (by omega)]
  have e1 : ∀ k r' i y, ¬ (k = 11 ∧ (y = 8 ∨ y = 9)) → ¬ (k = 13 ∧ r' = r) → (xn_sl v r (pg_h S.2) (pg_e S.2) n x).1 k r' i y = v.1 k r' i y := by
    intro k r' i y h1 h2
    unfold xn_sl
    dsimp only
    split
    · show (if k = 11 ∧ r' = r ∧ i = 0 ∧ y = 8 then _ else if k = 13 ∧ r' = r ∧ i < 4 ∧ _ ∧ (y = 2 ∨ y = 3 ∨ y = 4) then _ else v.1 k r' i y) = _
      rw [if_neg (by omega), if_neg (by omega)]
    · show (if k = 11 ∧ r' = r ∧ i = 0 ∧ y = 9 then _ else if k = 11 ∧ r' = r ∧ i = 0 ∧ y = 8 then _ else if k = 13 ∧ r' = r ∧ i < 4 ∧ _ ∧ (y = 2 ∨ y = 3 ∨ y = 4) then _ else v.1 k r' i y) = _
      rw [if_neg (by omega), if_neg (by omega), if_neg (by omega)]
  have e13 : ∀ i y, (xn_sl v r (pg_h S.2) (pg_e S.2) n x).1 13 r i y = if i < 4 ∧ (i + 3 * (pg_h S.2 + 1)) % 4 < c ∧ (y = 2 ∨ y = 3 ∨ y = 4) then (if y = 4 then nI 0 else -2) else v.1 13 r i y := by
    intro i y
    unfold xn_sl
    dsimp only
    rw [← hcc]
    split
    · simp [xn_uI, xn_sc]
    · simp [xn_uI, xn_uJ, xn_sc]
  have eJ : ∀ g i y, (g = 14 ∨ g = 15) → (xn_sl v r (pg_h S.2) (pg_e S.2) n x).2 g r i y = if i < 4 ∧ (i + 3 * (pg_h S.2 + 1)) % 4 < c ∧ y < 4 then 1099511627776 else v.2 g r i y := by
    intro g i y hg
    unfold xn_sl
    dsimp only
    rw [← hcc]
    split
    · show (if (g = 14 ∨ g = 15) ∧ r = r ∧ i < 4 ∧ (i + 3 * (pg_h S.2 + 1)) % 4 < c ∧ y < 4 then (1099511627776 : Int64) else v.2 g r i y) = _
      simp only [hg, true_and]
    · show (if g = 11 ∧ _ then _ else if (g = 14 ∨ g = 15) ∧ r = r ∧ i < 4 ∧ (i + 3 * (pg_h S.2 + 1)) % 4 < c ∧ y < 4 then (1099511627776 : Int64) else v.2 g r i y) = _
      rw [if_neg (by omega)]
      simp only [hg, true_and]
  refine ⟨?_, ⟨kl, hL.keep (e1 _ _ _ _ (by omega) (by omega)) (fun j _ => e1 _ _ _ _ (by omega) (by omega)), fun q => ?_⟩, ⟨cl, hC.keep (e1 _ _ _ _ (by omega) (by omega)) (fun j _ => e1 _ _ _ _ (by omega) (by omega)), fun q => ?_⟩, fun s hs => ?_, fun n' h1 h2 => ?_⟩
  · obtain ⟨f1, f2, f3, f4, f5, f6, f7, f8, f9⟩ := hF
    have g : ∀ t, ¬ t = 2 → ¬ t = 3 → ¬ (t = 6 ∨ t = 7 ∨ t = 8) → (pg_set S.2 n x).1 t 0 = S.2.1 t 0 := by
      intro t h2 h3 h6
      rw [pg_set_at, if_neg (by omega), if_neg (by omega), if_neg (by omega)]
    refine ⟨?_, ?_, ?_, ?_, ?_, ?_, ?_, ?_, ?_⟩
    · rw [e1 _ _ _ _ (by omega) (by omega)]; exact f1
    · rw [e1 _ _ _ _ (by omega) (by omega)]
      show _ = nI ((pg_set S.2 n x).1 0 0)
      rw [g 0 (by omega) (by omega) (by omega)]; exact f2
    · rw [e1 _ _ _ _ (by omega) (by omega)]
      show _ = nI ((pg_set S.2 n x).1 1 0)
      rw [g 1 (by omega) (by omega) (by omega)]; exact f3
    · show _ = nI ((pg_set S.2 n x).1 2 0)
      rw [pg_set_at, if_pos ⟨rfl, rfl⟩]
      unfold xn_sl
      dsimp only
      split <;> simp [xn_uI, xn_uJ]
    · show _ = nI ((pg_set S.2 n x).1 3 0)
      rw [pg_set_at, if_neg (by omega)]
      unfold xn_sl
      dsimp only
      by_cases he : n ≤ pg_e S.2
      · rw [if_pos he, if_neg (by simp [he]), if_neg (by omega)]
        simp [xn_uI, xn_sc]
        exact f5
      · rw [if_neg he, if_pos ⟨rfl, rfl, he⟩]
        simp [xn_uI, xn_uJ]
    · show _ = (pg_set S.2 n x).2
      rw [pg_set_st]
      unfold xn_sl
      dsimp only
      by_cases he : n ≤ pg_e S.2
      · rw [if_pos he, if_pos he]
        simp [xn_uI, xn_sc]
        exact f6
      · rw [if_neg he, if_neg he]
        simp [xn_uJ]
    · rw [e1 _ _ _ _ (by omega) (by omega)]
      show _ = nI ((pg_set S.2 n x).1 5 0)
      rw [g 5 (by omega) (by omega) (by omega)]; exact f7
    · rw [e1 _ _ _ _ (by omega) (by omega)]
      show _ = nI ((pg_set S.2 n x).1 4 0)
      rw [g 4 (by omega) (by omega) (by omega)]; exact f8
    · rw [e1 _ _ _ _ (by omega) (by omega)]
      show _ = nI ((pg_set S.2 n x).1 11 0)
      rw [g 11 (by omega) (by omega) (by omega)]; exact f9
  · rw [hkl q]
    show S.2.1 10 q = 1 ↔ (pg_set S.2 n x).1 10 q = 1
    rw [pg_set_at, if_neg (by omega), if_neg (by omega), if_neg (by omega)]
  · rw [hc q]
    show _ ↔ (q < S.1.1 ∧ pg_no (pg_set S.2 n x) q = 1 ∧ pg_k S.1 q = 7)
    rw [hno]
  · rw [e1 _ _ _ _ (by omega) (by omega), pg_lvc_same hno]
    exact hV s hs
  · have hh : pg_h (pg_set S.2 n x) = n := by
      show (pg_set S.2 n x).1 2 0 = n
      rw [pg_set_at, if_pos ⟨rfl, rfl⟩]
    have h1 : n < n' := by rw [← hh]; exact h1
    have h2 : n' ≤ n + 4 := by rw [← hh]; exact h2
    have g : ∀ t, (t = 6 ∨ t = 7 ∨ t = 8) → (pg_set S.2 n x).1 t n' = S.2.1 t n' := by
      intro t ht
      rw [pg_set_at, if_neg (by omega), if_neg (by omega), if_neg (by omega)]
    have h4 : n' % 4 < 4 := Nat.mod_lt _ (by decide)
    unfold xc_S
    rw [e13, e13, e13]
    simp only [eJ 14 _ _ (Or.inl rfl), eJ 15 _ _ (Or.inr rfl), pg_nv_same hno hvw]
    show _ = nI ((pg_set S.2 n x).1 6 n') - 2 ∧ _ = nI ((pg_set S.2 n x).1 7 n') - 2 ∧ _ = nI ((pg_set S.2 n x).1 8 n') ∧ _
    rw [g 6 (by omega), g 7 (by omega), g 8 (by omega)]
    by_cases hw : n' ≤ pg_h S.2 + 4
    · obtain ⟨a1, a2, a3, a4⟩ := hS n' (by omega) hw
      have hcl : ¬ (n' % 4 + 3 * (pg_h S.2 + 1)) % 4 < c := by omega
      rw [if_neg (by omega), if_neg (by omega), if_neg (by omega)]
      refine ⟨a1, a2, a3, fun s hs => ?_⟩
      rw [if_neg (by omega), if_neg (by omega)]
      exact a4 s hs
    · have hcl : (n' % 4 + 3 * (pg_h S.2 + 1)) % 4 < c := by omega
      obtain ⟨t1, t2, t3⟩ := hT.1 n' (by omega)
      rw [show S.2.1 6 n' = 0 from t1, show S.2.1 7 n' = 0 from t2, show S.2.1 8 n' = 0 from t3]
      refine ⟨?_, ?_, ?_, fun s hs => ?_⟩
      · rw [if_pos ⟨h4, hcl, by simp⟩, if_neg (by decide)]
        decide
      · rw [if_pos ⟨h4, hcl, by simp⟩, if_neg (by decide)]
        decide
      · rw [if_pos ⟨h4, hcl, by simp⟩]
        simp
      rw [if_pos ⟨h4, hcl, hs⟩, if_pos ⟨h4, hcl, hs⟩, pg_nv_top hT (Or.inl rfl) (by omega) (by omega), pg_nv_top hT (Or.inr rfl) (by omega) (by omega)]
      exact ⟨rfl, rfl⟩
theorem xf_R.sl {r : Nat} {v v1 : xn_V} (h : xf_R r v v1) {h0 e n : Nat} {x : Int64} : xf_R r v (xn_sl v1 r h0 e n x) := by
  have h1 : xf_R r v (xn_sc v1 r h0 (min 4 (n - h0))) := by
    intro k' r' i' x' hn
    have h2 := h k' r' i' x' hn
    constructor
    · show (if k' = 13 ∧ r' = r ∧ i' < 4 ∧ _ ∧ (x' = 2 ∨ x' = 3 ∨ x' = 4) then _ else v1.1 k' r' i' x') = _
      rw [if_neg (by omega)]
      exact h2.1
    · show (if (k' = 14 ∨ k' = 15) ∧ r' = r ∧ i' < 4 ∧ _ ∧ x' < 4 then _ else v1.2 k' r' i' x') = _
      rw [if_neg (by omega)]
      exact h2.2
  unfold xn_sl
  dsimp only
  split
  · exact h1.uI (by omega)
  · exact ((h1.uI (by omega)).uI (by omega)).uJ (by omega)
