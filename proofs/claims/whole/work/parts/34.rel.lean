/-! more on how the cells move -/
theorem xp_mod4 {h n n' : Nat} (h1 : h < n) (h2 : n ≤ h + 4) (h3 : h < n') (h4 : n' ≤ h + 4) (e : n % 4 = n' % 4) : n = n' := by omega
/-- ACCEPTED(n) is set -/
theorem xc_R.accept {r : Nat} {S : pg_S} {v : xn_V} (hR : xc_R r S v) {n q : Nat} (h1 : pg_h S.2 < n) (h2 : n ≤ pg_h S.2 + 4) {y : Int32} (hy : y = nI q - 2) : xc_R r (S.1, pg_u S.2 6 n q) (xn_uI v 13 r (n % 4) 2 y) := by
  subst hy
  obtain ⟨hF, ⟨kl, hL, hk⟩, ⟨cl, hC, hc⟩, hV, hS⟩ := hR
  refine ⟨hF, ⟨kl, hL, hk⟩, ⟨cl, hC, hc⟩, hV, fun n' h3 h4 => ?_⟩
  obtain ⟨a1, a2, a3, a4⟩ := hS n' h3 h4
  by_cases e : n' = n
  · subst e
    refine ⟨?_, ?_, ?_, a4⟩
    · simp [xn_uI, xn_uJ, pg_u, pg_w, pg_ss, pg_ac, pg_de, pg_ct, pg_no, pg_kn, pg_vw, pg_ch, pg_h, pg_e, pg_sp, pg_tm, pg_af]
    · simpa [xn_uI, xn_uJ, pg_u, pg_w, pg_ss, pg_ac, pg_de, pg_ct, pg_no, pg_kn, pg_vw, pg_ch, pg_h, pg_e, pg_sp, pg_tm, pg_af] using a2
    · simpa [xn_uI, xn_uJ, pg_u, pg_w, pg_ss, pg_ac, pg_de, pg_ct, pg_no, pg_kn, pg_vw, pg_ch, pg_h, pg_e, pg_sp, pg_tm, pg_af] using a3
  · have e4 : ¬ n' % 4 = n % 4 := fun e2 => e (xp_mod4 h3 h4 h1 h2 e2)
    refine ⟨?_, ?_, ?_, a4⟩
    · simpa [xn_uI, xn_uJ, pg_u, pg_w, pg_ss, pg_ac, pg_de, pg_ct, pg_no, pg_kn, pg_vw, pg_ch, pg_h, pg_e, pg_sp, pg_tm, pg_af, e, e4] using a1
    · simpa [xn_uI, xn_uJ, pg_u, pg_w, pg_ss, pg_ac, pg_de, pg_ct, pg_no, pg_kn, pg_vw, pg_ch, pg_h, pg_e, pg_sp, pg_tm, pg_af, e, e4] using a2
    · simpa [xn_uI, xn_uJ, pg_u, pg_w, pg_ss, pg_ac, pg_de, pg_ct, pg_no, pg_kn, pg_vw, pg_ch, pg_h, pg_e, pg_sp, pg_tm, pg_af, e, e4] using a3
theorem xp_findl {P P' : Nat → Bool} : ∀ {l : List Nat}, (∀ x, x ∈ l → P' x = P x) → l.find? P' = l.find? P
  | [], _ => rfl
  | a :: l, h => by
    rw [List.find?_cons, List.find?_cons, h a List.mem_cons_self, xp_findl (fun x hx => h x (List.mem_cons_of_mem _ hx))]
theorem xp_find_congr {P P' : Nat → Bool} {z : Nat} (h : ∀ i, i < z → P' i = P i) : (List.range z).find? P' = (List.range z).find? P := xp_findl (fun x hx => h x (List.mem_range.mp hx))
/-- a message more is noted: what is noted of others stays -/
theorem pg_nv_oth {S : pg_S} {m k n s : Nat} (h : ¬ (pg_k S.1 m = k ∧ pg_f S.1 m = s ∧ pg_a S.1 m = nI (pg_vw S.2) ∧ pg_b S.1 m = lN n)) : pg_nv (S.1, pg_u S.2 9 m 1) k n s = pg_nv S k n s := by
  unfold pg_nv
  rw [xp_find_congr (P := fun i => pg_no S.2 i == 1 && (pg_k S.1 i == k && (pg_f S.1 i == s && (pg_a S.1 i == nI (pg_vw S.2) && pg_b S.1 i == lN n))))]
  intro i _
  by_cases e : i = m
  · subst e
    have : (pg_k S.1 i == k && (pg_f S.1 i == s && (pg_a S.1 i == nI (pg_vw S.2) && pg_b S.1 i == lN n))) = false := by
      rw [Bool.eq_false_iff]
      intro h2
      simp only [Bool.and_eq_true, beq_iff_eq] at h2
      exact h h2
    show (_ && (pg_k S.1 i == k && (pg_f S.1 i == s && (pg_a S.1 i == nI (pg_vw S.2) && pg_b S.1 i == lN n)))) = _
    rw [this, Bool.and_false, Bool.and_false]
  · have : pg_no (pg_u S.2 9 m 1) i = pg_no S.2 i := by
      show (if 9 = 9 ∧ i = m then 1 else pg_no S.2 i) = _
      rw [if_neg (by omega)]
    show (pg_no (pg_u S.2 9 m 1) i == 1 && _) = _
    rw [this]
    rfl
/-- .. and that one is there -/
theorem pg_nv_new {S : pg_S} {m k n s : Nat} (hm : m < S.1.1) (hk : pg_k S.1 m = k) (hs : pg_f S.1 m = s) (ha : pg_a S.1 m = nI (pg_vw S.2)) (hb : pg_b S.1 m = lN n) (hn : pg_nts S k s (pg_a S.1 m) (pg_b S.1 m) = false) : pg_nv (S.1, pg_u S.2 9 m 1) k n s = (pg_c S.1 m).toInt64 := by
  unfold pg_nv
  have h7 : ∀ i, i < S.1.1 → (pg_no S.2 i == 1 && (pg_k S.1 i == k && (pg_f S.1 i == s && (pg_a S.1 i == nI (pg_vw S.2) && pg_b S.1 i == lN n)))) = false := by
    intro i hi
    unfold pg_nts at hn
    rw [List.any_eq_false] at hn
    have h2 := hn i (List.mem_range.mpr hi)
    rw [Bool.eq_false_iff]
    intro h3
    apply h2
    simp only [Bool.and_eq_true, beq_iff_eq, Bool.or_eq_true] at h3 ⊢
    rw [ha, hb]
    exact ⟨h3.1, h3.2.1, h3.2.2.1, h3.2.2.2.1, Or.inr h3.2.2.2.2⟩
  rw [xp_find_some (m := m) hm]
  · show ((if 9 = 9 ∧ m = m then 1 else pg_no S.2 m) == 1 && _) = true
    rw [if_pos ⟨rfl, rfl⟩]
    show (pg_k S.1 m == k && (pg_f S.1 m == s && (pg_a S.1 m == nI (pg_vw S.2) && pg_b S.1 m == lN n))) = true
    rw [hk, hs, ha, hb]
    simp
  · intro i hi
    have e : ¬ i = m := by omega
    have h2 := h7 i (by omega)
    show ((if 9 = 9 ∧ i = m then 1 else pg_no S.2 i) == 1 && _) = false
    rw [if_neg (by omega)]
    exact h2
theorem xp_unn (x : Int32) : ¬ x.toInt64 = 1099511627776 := by
  intro e
  have h := congrArg Int64.toInt e
  rw [Int32.toInt_toInt64] at h
  have h1 := Int32.toInt_lt x
  have h2 : (1099511627776 : Int64).toInt = 1099511627776 := by decide
  rw [h2] at h
  omega
/-- unnoted: nothing of s is noted for VIEW and n -/
theorem pg_nv_un {S : pg_S} {k n s : Nat} (hk : ¬ k = 7) : pg_nv S k n s = 1099511627776 ↔ pg_nts S k s (nI (pg_vw S.2)) (lN n) = false := by
  unfold pg_nv pg_nts
  cases e : (List.range S.1.1).find? (fun i => pg_no S.2 i == 1 && (pg_k S.1 i == k && (pg_f S.1 i == s && (pg_a S.1 i == nI (pg_vw S.2) && pg_b S.1 i == lN n)))) with
  | some i =>
    have h1 := List.find?_some e
    have h2 := List.mem_of_find?_eq_some e
    constructor
    · intro h
      exact absurd h (xp_unn _)
    · intro h
      rw [List.any_eq_false] at h
      have h3 := h i h2
      exfalso
      apply h3
      simp only [Bool.and_eq_true, beq_iff_eq, Bool.or_eq_true] at h1 ⊢
      exact ⟨h1.1, h1.2.1, h1.2.2.1, h1.2.2.2.1, Or.inr h1.2.2.2.2⟩
  | none =>
    constructor
    · intro _
      rw [List.any_eq_false]
      intro i hi h3
      have h4 := List.find?_eq_none.mp e i hi
      apply h4
      have hk7 : (k == 7) = false := by simpa using hk
      simp only [hk7, Bool.false_or] at h3
      exact h3
    · intro _; rfl
theorem pg_lvc_oth {S : pg_S} {m s : Nat} (h : ¬ (pg_k S.1 m = 5 ∧ pg_f S.1 m = s)) : pg_lvc (S.1, pg_u S.2 9 m 1) s = pg_lvc S s := by
  unfold pg_lvc
  congr 1
  apply List.filter_congr
  intro i _
  by_cases e : i = m
  · subst e
    have : (pg_k S.1 i == 5 && pg_f S.1 i == s) = false := by
      rw [Bool.eq_false_iff]
      intro h2
      simp only [Bool.and_eq_true, beq_iff_eq] at h2
      exact h h2
    show (_ && (pg_k S.1 i == 5 && pg_f S.1 i == s)) = _
    rw [this, Bool.and_false, Bool.and_false]
  · have : pg_no (pg_u S.2 9 m 1) i = pg_no S.2 i := by
      show (if 9 = 9 ∧ i = m then 1 else pg_no S.2 i) = _
      rw [if_neg (by omega)]
    show (pg_no (pg_u S.2 9 m 1) i == 1 && _) = _
    rw [this]
theorem pg_no_u (R : pg_R) (m i : Nat) : pg_no (pg_u R 9 m 1) i = if i = m then 1 else pg_no R i := by
  show (if 9 = 9 ∧ i = m then 1 else pg_no R i) = _
  by_cases e : i = m
  · rw [if_pos ⟨rfl, e⟩, if_pos e]
  · rw [if_neg (by omega), if_neg e]
/-- a PREPARE or COMMIT for VIEW and n is noted: g is its row -/
theorem xc_R.note {r : Nat} {S : pg_S} {v : xn_V} (hR : xc_R r S v) (hN : pg_num S.2) {m n k g : Nat} (hm : m < S.1.1) (h1 : pg_h S.2 < n) (h2 : n ≤ pg_h S.2 + 4) (hkg : (k = 2 ∧ g = 14) ∨ (k = 3 ∧ g = 15)) (hk : pg_k S.1 m = k) (ha : pg_a S.1 m = nI (pg_vw S.2)) (hb : pg_b S.1 m = lN n) (hn : pg_nts S k (pg_f S.1 m) (pg_a S.1 m) (pg_b S.1 m) = false) : xc_R r (S.1, pg_u S.2 9 m 1) (xn_uJ v g r (n % 4) (pg_f S.1 m) (pg_c S.1 m).toInt64) := by
  obtain ⟨hF, ⟨kl, hL, hkl⟩, ⟨cl, hC, hc⟩, hV, hS⟩ := hR
  have hg : g = 14 ∨ g = 15 := by omega
  have hh := hN.2.2.1
  refine ⟨?_, ⟨kl, hL, hkl⟩, ⟨cl, hC, fun q => ?_⟩, fun s hs => ?_, fun n' h3 h4 => ?_⟩
  · unfold xc_F
    have e1 : (xn_uJ v g r (n % 4) (pg_f S.1 m) (pg_c S.1 m).toInt64).2 11 r 0 10 = v.2 11 r 0 10 := by
      show (if 11 = g ∧ r = r ∧ 0 = n % 4 ∧ 10 = pg_f S.1 m then _ else v.2 11 r 0 10) = _
      rw [if_neg (by omega)]
    rw [e1]
    exact hF
  · rw [hc q, pg_no_u]
    by_cases e : q = m
    · subst e
      simp
      omega
    · rw [if_neg e]
  · rw [pg_lvc_oth (by omega)]
    exact hV s hs
  · replace h3 : pg_h S.2 < n' := h3
    replace h4 : n' ≤ pg_h S.2 + 4 := h4
    obtain ⟨a1, a2, a3, a4⟩ := hS n' h3 h4
    refine ⟨a1, a2, a3, fun s hs => ?_⟩
    obtain ⟨b1, b2⟩ := a4 s hs
    have key : ∀ k' g', ((k' = 2 ∧ g' = 14) ∨ (k' = 3 ∧ g' = 15)) → v.2 g' r (n' % 4) s = pg_nv S k' n' s → (xn_uJ v g r (n % 4) (pg_f S.1 m) (pg_c S.1 m).toInt64).2 g' r (n' % 4) s = pg_nv (S.1, pg_u S.2 9 m 1) k' n' s := by
      intro k' g' hkg' hb0
      show (if g' = g ∧ r = r ∧ n' % 4 = n % 4 ∧ s = pg_f S.1 m then (pg_c S.1 m).toInt64 else v.2 g' r (n' % 4) s) = _
      by_cases e : g' = g ∧ r = r ∧ n' % 4 = n % 4 ∧ s = pg_f S.1 m
      · rw [if_pos e]
        obtain ⟨e1, -, e2, e3⟩ := e
        have en := xp_mod4 h3 h4 h1 h2 e2
        have ek : k' = k := by omega
        subst en; subst ek; subst e3
        exact (pg_nv_new hm hk rfl ha hb hn).symm
      · rw [if_neg e, hb0]
        symm
        apply pg_nv_oth
        rintro ⟨c1, c2, -, c4⟩
        apply e
        have : n' = n := by
          rw [hb] at c4
          exact ((pk_lEQ (by omega) (by omega)).mp c4).symm
        subst this
        exact ⟨by omega, rfl, rfl, c2.symm⟩
    exact ⟨key 2 14 (Or.inl ⟨rfl, rfl⟩) b1, key 3 15 (Or.inr ⟨rfl, rfl⟩) b2⟩
