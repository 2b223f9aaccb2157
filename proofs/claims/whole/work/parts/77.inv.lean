/-! changes of view -/
theorem pg_jc.mv {r : Nat} {S : pg_S} (h : pg_jc r S) {v sp : Nat} (hv : pg_vw S.2 < v) (hv2 : v ≤ 15) (h1 : 1 ≤ sp) (h2 : sp ≤ 32) : pg_jc r (S.1, pg_u (pg_u (pg_mv S.2 v) 1 0 1) 4 0 sp) := by
  obtain ⟨a1, a2, a3, a4, a5, a6, a7, a8, a9, b1, b2, b3, c1, c2, c3, d1, d2, d3, e1, e2, e3⟩ := h
  have hac : ∀ n, pg_ac (pg_u (pg_u (pg_mv S.2 v) 1 0 1) 4 0 sp) n = 0 := fun n => rfl
  have hfre : pg_fre S v := by
    intro i i1 i2 i3
    obtain ⟨w, w1, w2⟩ := b2 i i1 i2
    rw [w2, nI_eq (by omega) (by omega)] at i3
    omega
  refine ⟨a1, a2, a3, a4, a5, a6, a7, a8, a9, ?_, ?_, fun _ => hfre, ⟨hv2, Nat.le_refl 1, c1.2.2.1, h1, h2, Nat.le_refl 1, fun n => ⟨show 0 < 300 by decide, (c1.2.2.2.2.2.2 n).2.1, (c1.2.2.2.2.2.2 n).2.2⟩⟩, fun n hn => ⟨rfl, (c2 n hn).2⟩, ⟨fun n hn => ⟨rfl, (c3.1 n hn).2⟩, fun i n h3 h5 h6 => absurd h6 (hfre i h3 h5)⟩, fun n hn => absurd (hac n) hn, fun _ n => hac n, d3, e1, e2, e3⟩
  · intro i i1 i2 i3 i4
    have := b1 i i1 i2 i3 i4
    obtain ⟨w, w1, w2, w3⟩ := a7 i i1 i2 i3
    show ¬ nI v < pg_a S.1 i
    rw [w3, nI_ltI (by omega) (by omega)] at this ⊢
    omega
  · intro i i1 i2
    obtain ⟨w, w1, w2⟩ := b2 i i1 i2
    exact ⟨w, Nat.le_of_lt (Nat.lt_of_le_of_lt w1 hv), w2⟩
theorem pg_in.beg {F r : Nat} (hr : r < 4) {S : pg_S} (h : pg_in F r S) (hz : S.1.1 ≤ 252) {v : Nat} (hv : pg_vw S.2 < v) (hv2 : v ≤ 15) : pg_in F r (pg_beg r S v) := by
  obtain ⟨⟨hc, j8⟩, hk⟩ := h
  have hc0 := hc
  obtain ⟨a1, a2, a3, a4, a5, a6, a7, a8, a9, b1, b2, b3, c1, c2, c3, d1, d2, d3, e1, e2, e3⟩ := hc0
  have hm := hc.mv (sp := min (2 * pg_sp S.2) 32) hv hv2 (by have := c1.2.2.2.1; omega) (by omega)
  have hj : pg_j8 r (S.1, pg_u (pg_u (pg_mv S.2 v) 1 0 1) 4 0 (min (2 * pg_sp S.2) 32)) := j8.later hv
  refine ⟨⟨hm.own (show S.1.1 ≤ 256 by omega) ⟨fun h => by omega, fun h => by omega, fun _ => ⟨⟨v, by omega, hv2, rfl, Nat.le_refl _⟩, ?_, ?_⟩⟩, pg_j8.own (S := (S.1, pg_u (pg_u (pg_mv S.2 v) 1 0 1) 4 0 (min (2 * pg_sp S.2) 32))) (R' := (pg_beg r S v).2) hj rfl rfl (Nat.le_refl _) (fun _ _ _ => rfl) (fun h => by omega)⟩, hk.send (pg_ok2_oth hr (Or.inr (Or.inr rfl)))⟩
  · rcases e2 with e | e
    · exact Or.inl (by rw [e]; rfl)
    · exact Or.inr e
  · intro i i1 i2 i3 i4
    have := b1 i i1 i2 i3 i4
    obtain ⟨w, w1, w2, w3⟩ := a7 i i1 i2 i3
    show pg_a S.1 i < nI v
    rw [w3, nI_ltI (by omega) (by omega)] at this ⊢
    omega
theorem pg_vcs_fold {F r : Nat} {S : pg_S} (h : pg_in F r S) (hl : ¬ (pg_vcs S).length < 2) : ∃ i, i ∈ pg_vcs S ∧ pg_vw S.2 < (pg_vcs S).foldl (fun l i => min l (pg_a S.1 i).toInt.toNat) 99 ∧ (pg_vcs S).foldl (fun l i => min l (pg_a S.1 i).toInt.toNat) 99 ≤ 15 ∧ pg_a S.1 i = nI ((pg_vcs S).foldl (fun l i => min l (pg_a S.1 i).toInt.toNat) 99) := by
  obtain ⟨f1, f2, f3⟩ := xp_fmin (fun i => (pg_a S.1 i).toInt.toNat) (pg_vcs S) 99
  have hb := h.1.1.2.2.2.2.2.2.1
  have hw : ∀ i, i ∈ pg_vcs S → ∃ w, w ≤ 15 ∧ pg_vw S.2 < w ∧ pg_a S.1 i = nI w ∧ (pg_a S.1 i).toInt.toNat = w := by
    intro i hi
    obtain ⟨i1, i2, i3, i4⟩ := (pg_vcs_mem S i).mp hi
    obtain ⟨w, w1, w2, w3⟩ := hb i i1 i2 i3
    have hv := h.1.1.2.2.2.2.2.2.2.2.2.2.2.2.1.1
    rw [w3, nI_ltI (by omega) (by omega)] at i4
    exact ⟨w, w2, i4, w3, by rw [w3, xp_nat (by omega)]⟩
  have hne : ∃ i, i ∈ pg_vcs S := by
    cases e : pg_vcs S with
    | nil => rw [e] at hl; simp at hl
    | cons a l => exact ⟨a, List.mem_cons_self⟩
  rcases f3 with e | ⟨i, i1, i2⟩
  · obtain ⟨i, hi⟩ := hne
    obtain ⟨w, w1, w2, w3, w4⟩ := hw i hi
    have := f2 i hi
    rw [e, w4] at this
    omega
  · obtain ⟨w, w1, w2, w3, w4⟩ := hw i i1
    have e : (pg_vcs S).foldl (fun l i => min l (pg_a S.1 i).toInt.toNat) 99 = w := by rw [← w4]; exact i2
    rw [e]
    exact ⟨i, i1, w2, w1, w3⟩
theorem pg_in.r6 {F r : Nat} (hr : r < 4) {S S' : pg_S} (h : pg_in F r S) (hz : S.1.1 ≤ 252) (e : pg_r6 r S = some S') : pg_in F r S' := by
  unfold pg_r6 at e
  split at e
  · cases e
  · rename_i hl
    obtain ⟨i, -, h1, h2, -⟩ := pg_vcs_fold h hl
    cases e
    exact h.beg hr hz h1 h2
/-! entering -/
/-- the orders of c accepted, those before J -/
def pg_eI (c : Int32) (st : Nat) (R0 : pg_R) (J : Nat) (R : pg_R) : Prop :=
  (∀ t i, ¬ t = 6 → ¬ t = 10 → R.1 t i = R0.1 t i) ∧ R.2 = R0.2 ∧ (∀ n, pg_ac R n ≠ 0 → ∃ j, j < J ∧ n = st + 1 + j ∧ pg_ac R n = pg_od1 c j ∧ 0 < pg_od1 c j ∧ pg_h R0 < n) ∧ (∀ j, j < J → 0 < pg_od1 c j → pg_h R0 < st + 1 + j → pg_ac R (st + 1 + j) = pg_od1 c j) ∧ ∀ q, (pg_kn R q = 1 → pg_kn R0 q = 1 ∨ ∃ j, j < J ∧ 1 < pg_od1 c j ∧ q = pg_od1 c j - 2) ∧ pg_kn R q ≤ 1
theorem pg_eI.s {c : Int32} {st : Nat} {R0 R : pg_R} {J : Nat} (h : pg_eI c st R0 J R) : pg_eI c st R0 (J + 1) (pg_en1 c st R J) := by
  obtain ⟨h1, h2, h3, h4, h5⟩ := h
  have hh : pg_h R = pg_h R0 := h1 2 0 (by decide) (by decide)
  have A : ∀ R' : pg_R, (∀ n, pg_ac R' n = if n = st + 1 + J then pg_od1 c J else pg_ac R n) → 0 < pg_od1 c J → pg_h R < st + 1 + J → (∀ n, pg_ac R' n ≠ 0 → ∃ j, j < J + 1 ∧ n = st + 1 + j ∧ pg_ac R' n = pg_od1 c j ∧ 0 < pg_od1 c j ∧ pg_h R0 < n) ∧ (∀ j, j < J + 1 → 0 < pg_od1 c j → pg_h R0 < st + 1 + j → pg_ac R' (st + 1 + j) = pg_od1 c j) := by
    intro R' hR' hp hlt
    refine ⟨fun n hn => ?_, fun j hj hj2 hj3 => ?_⟩
    · rw [hR'] at hn ⊢
      by_cases e : n = st + 1 + J
      · rw [if_pos e]
        exact ⟨J, by omega, e, rfl, hp, by omega⟩
      · rw [if_neg e] at hn ⊢
        obtain ⟨j, j1, j2, j3, j4, j5⟩ := h3 n hn
        exact ⟨j, by omega, j2, j3, j4, j5⟩
    · rw [hR']
      by_cases e : j = J
      · rw [if_pos (by omega), e]
      · rw [if_neg (by omega)]
        exact h4 j (by omega) hj2 hj3
  unfold pg_en1
  by_cases hc : 0 < pg_od1 c J ∧ pg_h R < st + 1 + J
  · rw [if_pos hc]
    by_cases hq : 1 < pg_od1 c J
    · rw [if_pos hq]
      have hac : ∀ n, pg_ac (pg_u (pg_u R 6 (st + 1 + J) (pg_od1 c J)) 10 (pg_od1 c J - 2) 1) n = if n = st + 1 + J then pg_od1 c J else pg_ac R n := by
        intro n
        show (if 6 = 6 ∧ n = st + 1 + J then _ else _) = _
        simp
      have hkn : ∀ n, pg_kn (pg_u (pg_u R 6 (st + 1 + J) (pg_od1 c J)) 10 (pg_od1 c J - 2) 1) n = if n = pg_od1 c J - 2 then 1 else pg_kn R n := by
        intro n
        show (if 10 = 10 ∧ n = pg_od1 c J - 2 then _ else _) = _
        simp
        rfl
      obtain ⟨A1, A2⟩ := A _ hac hc.1 hc.2
      refine ⟨fun t i t1 t2 => ?_, h2, A1, A2, fun q => ?_⟩
      · rw [pg_u_at, if_neg (by omega), pg_u_at, if_neg (by omega)]
        exact h1 t i t1 t2
      · rw [hkn]
        by_cases e : q = pg_od1 c J - 2
        · rw [if_pos e]
          exact ⟨fun _ => Or.inr ⟨J, by omega, hq, e⟩, Nat.le_refl 1⟩
        · rw [if_neg e]
          refine ⟨fun h => ?_, (h5 q).2⟩
          rcases (h5 q).1 h with g | ⟨j, j1, j2, j3⟩
          · exact Or.inl g
          · exact Or.inr ⟨j, by omega, j2, j3⟩
    · rw [if_neg hq]
      have hac : ∀ n, pg_ac (pg_u R 6 (st + 1 + J) (pg_od1 c J)) n = if n = st + 1 + J then pg_od1 c J else pg_ac R n := by
        intro n
        show (if 6 = 6 ∧ n = st + 1 + J then _ else _) = _
        simp
      obtain ⟨A1, A2⟩ := A _ hac hc.1 hc.2
      refine ⟨fun t i t1 t2 => ?_, h2, A1, A2, fun q => ?_⟩
      · rw [pg_u_at, if_neg (by omega)]
        exact h1 t i t1 t2
      · show (pg_kn R q = 1 → _) ∧ pg_kn R q ≤ 1
        refine ⟨fun h => ?_, (h5 q).2⟩
        rcases (h5 q).1 h with g | ⟨j, j1, j2, j3⟩
        · exact Or.inl g
        · exact Or.inr ⟨j, by omega, j2, j3⟩
  · rw [if_neg hc]
    refine ⟨h1, h2, fun n hn => ?_, fun j hj hj2 hj3 => ?_, fun q => ⟨fun h => ?_, (h5 q).2⟩⟩
    · obtain ⟨j, j1, j2, j3, j4, j5⟩ := h3 n hn
      exact ⟨j, by omega, j2, j3, j4, j5⟩
    · by_cases e : j = J
      · subst e
        rw [hh] at hc
        exact absurd ⟨hj2, hj3⟩ hc
      · exact h4 j (by omega) hj2 hj3
    · rcases (h5 q).1 h with g | ⟨j, j1, j2, j3⟩
      · exact Or.inl g
      · exact Or.inr ⟨j, by omega, j2, j3⟩
/-- behind the move, ahead of the orders -/
def pg_ent0 (S : pg_S) (m : Nat) : pg_R := if pg_h S.2 < pg_st S.1 (pg_b S.1 m) then pg_set (pg_u (pg_mv S.2 (pg_a S.1 m).toInt.toNat) 1 0 0) (pg_st S.1 (pg_b S.1 m)) (pg_bp S.1 (pg_proof S.1 (lN (pg_st S.1 (pg_b S.1 m))) m)) else pg_u (pg_mv S.2 (pg_a S.1 m).toInt.toNat) 1 0 0
theorem pg_ent_eI (S : pg_S) (m : Nat) (hk : ∀ q, pg_kn S.2 q ≤ 1) : pg_eI (pg_c S.1 m) (pg_st S.1 (pg_b S.1 m)) (pg_ent0 S m) 4 (pg_ent S m) := by
  have h0 : pg_eI (pg_c S.1 m) (pg_st S.1 (pg_b S.1 m)) (pg_ent0 S m) 0 (pg_ent0 S m) := by
    have hac : ∀ n, pg_ac (pg_ent0 S m) n = 0 := by
      intro n
      unfold pg_ent0
      split
      · rw [pg_set_ac]
        split
        · rfl
        · rfl
      · rfl
    have hkn : ∀ n, pg_kn (pg_ent0 S m) n = pg_kn S.2 n := by
      intro n
      unfold pg_ent0
      split
      · rw [show pg_kn (pg_set (pg_u (pg_mv S.2 (pg_a S.1 m).toInt.toNat) 1 0 0) (pg_st S.1 (pg_b S.1 m)) (pg_bp S.1 (pg_proof S.1 (lN (pg_st S.1 (pg_b S.1 m))) m))) n = _ from pg_set_oth _ _ _ 10 n (by decide) (by decide) (by decide) (by decide) (by decide)]
        rfl
      · rfl
    exact ⟨fun _ _ _ _ => rfl, rfl, fun n hn => absurd (hac n) hn, fun j hj => absurd hj (Nat.not_lt_zero j), fun q => ⟨fun h => Or.inl h, by rw [hkn]; exact hk q⟩⟩
  exact h0.s.s.s.s
theorem pg_jc.mv0 {r : Nat} {S : pg_S} (h : pg_jc r S) {v : Nat} (hv : pg_vw S.2 ≤ v) (hv2 : v ≤ 15) (hfre : pg_fre S v) : pg_jc r (S.1, pg_u (pg_mv S.2 v) 1 0 0) := by
  obtain ⟨a1, a2, a3, a4, a5, a6, a7, a8, a9, b1, b2, b3, c1, c2, c3, d1, d2, d3, e1, e2, e3⟩ := h
  have hac : ∀ n, pg_ac (pg_u (pg_mv S.2 v) 1 0 0) n = 0 := fun n => rfl
  refine ⟨a1, a2, a3, a4, a5, a6, a7, a8, a9, ?_, ?_, fun h => absurd h (show ¬ 0 = 1 by decide), ⟨hv2, Nat.zero_le 1, c1.2.2.1, c1.2.2.2.1, c1.2.2.2.2.1, Nat.le_refl 1, fun n => ⟨show 0 < 300 by decide, (c1.2.2.2.2.2.2 n).2.1, (c1.2.2.2.2.2.2 n).2.2⟩⟩, fun n hn => ⟨rfl, (c2 n hn).2⟩, ⟨fun n hn => ⟨rfl, (c3.1 n hn).2⟩, fun i n h3 h5 h6 => absurd h6 (hfre i h3 h5)⟩, fun n hn => absurd (hac n) hn, fun _ n => hac n, d3, e1, e2, e3⟩
  · intro i i1 i2 i3 i4
    have := b1 i i1 i2 i3 i4
    obtain ⟨w, w1, w2, w3⟩ := a7 i i1 i2 i3
    have hv0 := c1.1
    show ¬ nI v < pg_a S.1 i
    rw [w3, nI_ltI (by omega) (by omega)] at this ⊢
    omega
  · intro i i1 i2
    obtain ⟨w, w1, w2⟩ := b2 i i1 i2
    exact ⟨w, Nat.le_trans w1 hv, w2⟩
/-- .. with the orders of the NEW-VIEW m -/
theorem pg_jc.eI {r : Nat} {S : pg_S} {R : pg_R} (h : pg_jc r S) {m : Nat} (hm : m < S.1.1) (hk : pg_k S.1 m = 6) (hv : ∀ k, k < 3 → pg_vt (pg_b S.1 m) k < m) (hf : pg_f S.1 m = pg_vw S.2 % 4) (ha : pg_a S.1 m = nI (pg_vw S.2)) (hc : pg_ch S.2 = 0) (hst : pg_st S.1 (pg_b S.1 m) ≤ pg_h S.2) (hq : ∀ j, j < 4 → 1 < pg_od1 (pg_c S.1 m) j → pg_od1 (pg_c S.1 m) j - 2 < S.1.1 ∧ pg_k S.1 (pg_od1 (pg_c S.1 m) j - 2) = 0) (he : pg_eI (pg_c S.1 m) (pg_st S.1 (pg_b S.1 m)) S.2 4 R) : pg_jc r (S.1, R) := by
  obtain ⟨a1, a2, a3, a4, a5, a6, a7, a8, a9, b1, b2, b3, c1, c2, c3, d1, d2, d3, e1, e2, e3⟩ := h
  obtain ⟨h1, h2, h3, h4, h5⟩ := he
  have Fv : pg_vw R = pg_vw S.2 := h1 0 0 (by decide) (by decide)
  have Fc : pg_ch R = pg_ch S.2 := h1 1 0 (by decide) (by decide)
  have Fh : pg_h R = pg_h S.2 := h1 2 0 (by decide) (by decide)
  have Fe : pg_e R = pg_e S.2 := h1 3 0 (by decide) (by decide)
  have Fs : pg_sp R = pg_sp S.2 := h1 4 0 (by decide) (by decide)
  have Ft : pg_tm R = pg_tm S.2 := h1 5 0 (by decide) (by decide)
  have Fa : pg_af R = pg_af S.2 := h1 11 0 (by decide) (by decide)
  have Fn : ∀ i, pg_no R i = pg_no S.2 i := fun i => h1 9 i (by decide) (by decide)
  have Fde : ∀ i, pg_de R i = pg_de S.2 i := fun i => h1 7 i (by decide) (by decide)
  have Fct : ∀ i, pg_ct R i = pg_ct S.2 i := fun i => h1 8 i (by decide) (by decide)
  refine ⟨⟨fun q hq2 => ?_, fun q hq => a1.2 q (by rw [← Fn]; exact hq)⟩, fun q => ⟨by rw [Fn]; exact (a2 q).1, (h5 q).2⟩, ?_, ?_, ?_, ?_, ?_, ?_, ?_, ?_, ?_, ?_, ?_, ?_, ?_, ?_, ?_, ?_, ?_, ?_, ?_⟩
  · rcases (h5 q).1 hq2 with g | ⟨j, j1, j2, j3⟩
    · exact a1.1 q g
    · rw [j3]; exact hq j j1 j2
  · intro i h1 h2
    show pg_no R i = 1 ↔ _
    rw [Fn]; exact a3 i h1 h2
  · intro i j h1 h2 h3 h4
    exact a4 i j h1 h2 (by rw [← Fn]; exact h3) (by rw [← Fn]; exact h4)
  · intro i j h1 h2 h3 h4
    exact a5 i j h1 h2 (by rw [← Fn]; exact h3) (by rw [← Fn]; exact h4)
  · intro i j h3 h4
    exact a6 i j (by rw [← Fn]; exact h3) (by rw [← Fn]; exact h4)
  · intro i h1 h3
    exact a7 i h1 (by rw [← Fn]; exact h3)
  · intro i h1 h3
    exact a8 i h1 (by rw [← Fn]; exact h3)
  · intro i j h1 h2 h3 h4
    exact a9 i j h1 h2 (by rw [← Fn]; exact h3) (by rw [← Fn]; exact h4)
  · intro i h1 h3
    show _ → _ → ¬ nI (pg_vw R) < _
    rw [Fv]
    exact b1 i h1 (by rw [← Fn]; exact h3)
  · intro i h3
    show _ → ∃ w, w ≤ pg_vw R ∧ _
    rw [Fv]
    exact b2 i (by rw [← Fn]; exact h3)
  · intro hc i h3
    show _ → ¬ _ = nI (pg_vw R)
    rw [Fv]
    exact b3 (by rw [← Fc]; exact hc) i (by rw [← Fn]; exact h3)
  · refine ⟨by rw [Fv]; exact c1.1, by rw [Fc]; exact c1.2.1, by rw [Ft]; exact c1.2.2.1, by rw [Fs]; exact c1.2.2.2.1, by rw [Fs]; exact c1.2.2.2.2.1, by rw [Fa]; exact c1.2.2.2.2.2.1, fun k => ?_⟩
    obtain ⟨k1, k2, k3⟩ := c1.2.2.2.2.2.2 k
    rw [Fde, Fct]
    refine ⟨?_, k2, k3⟩
    show pg_ac R k < 300
    by_cases h0 : pg_ac R k = 0
    · omega
    · obtain ⟨j, j1, j2, j3, j4, j5⟩ := h3 k h0
      have := pg_od1_lt (pg_c S.1 m) j
      omega
  · intro k hk
    have hk : k ≤ pg_h R := hk
    rw [Fh] at hk
    show pg_ac R k = 0 ∧ pg_de R k = 0 ∧ pg_ct R k = 0
    rw [Fde, Fct]
    refine ⟨?_, (c2 k hk).2⟩
    apply Classical.byContradiction
    intro h0
    obtain ⟨j, j1, j2, j3, j4, j5⟩ := h3 k h0
    omega
  · refine ⟨fun k hk => ?_, fun i k h3 h5 h6 h7 h8 h9 => ?_⟩
    · have hk : pg_h R + 4 < k := hk
      rw [Fh] at hk
      show pg_ac R k = 0 ∧ pg_de R k = 0 ∧ pg_ct R k = 0
      rw [Fde, Fct]
      refine ⟨?_, (c3.1 k hk).2⟩
      apply Classical.byContradiction
      intro h0
      obtain ⟨j, j1, j2, j3, j4, j5⟩ := h3 k h0
      omega
    · have h8 : pg_h R + 4 < k := h8
      rw [Fh] at h8
      exact c3.2 i k (by rw [← Fn]; exact h3) h5 (by rw [← Fv]; exact h6) h7 (by omega) h9
  · intro k hk2
    have hk2 : pg_ac R k ≠ 0 := hk2
    show (2 ≤ pg_ac R k → pg_ac R k - 2 < S.1.1 ∧ pg_k S.1 (pg_ac R k - 2) = 0) ∧ ∃ i, i < S.1.1 ∧ pg_f S.1 i = pg_vw R % 4 ∧ pg_a S.1 i = nI (pg_vw R) ∧ pg_src S.1 i k (pg_ac R k)
    obtain ⟨j, j1, j2, j3, j4, j5⟩ := h3 k hk2
    rw [Fv, j3]
    exact ⟨fun g => hq j j1 g, m, hm, hf, ha, Or.inr ⟨hk, hv, j, j1, j2, rfl, j4⟩⟩
  · intro hc2
    have hc2 : pg_ch R = 1 := hc2
    omega
  · intro k hk
    have hk : pg_de R k ≠ 0 := hk
    show 3 ≤ pg_dn S.1 k ∧ (2 ≤ pg_de R k → pg_de R k - 2 < S.1.1)
    rw [Fde] at hk ⊢
    exact d3 k hk
  · show pg_h R ≤ pg_e R ∧ pg_e R ≤ pg_h R + 4 ∧ pg_dd S.1 (pg_e R)
    rw [Fh, Fe]
    exact e1
  · show pg_h R = 0 ∨ (pg_proof S.1 (lN (pg_h R)) S.1.1).isSome = true
    rw [Fh]
    exact e2
  · intro i h1 h2 h3 h4
    obtain ⟨k, k1, k2⟩ := e3 i h1 h2 h3 h4
    refine ⟨k, ?_, k2⟩
    show k ≤ pg_e R
    rw [Fe]; exact k1
/-- what entering does -/
theorem pg_jc.ent {F r : Nat} {S : pg_S} (h : pg_jc r S) (hK : pg_ki F S.1) (hz : S.1.1 ≤ 256) {m w : Nat} (hm : m < S.1.1) (hk : pg_k S.1 m = 6) (hv : ∀ k, k < 3 → pg_vt (pg_b S.1 m) k < m) (hw : w ≤ 15) (hvw : pg_vw S.2 ≤ w) (ha : pg_a S.1 m = nI w) (hf : pg_f S.1 m = w % 4) (he : pg_eok S m) : pg_jc r (S.1, pg_ent S m) ∧ pg_vw (pg_ent S m) = w ∧ pg_ch (pg_ent S m) = 0 ∧ (∀ n x, pg_src S.1 m n x → n ≤ pg_h (pg_ent S m) ∨ pg_ac (pg_ent S m) n = x) ∧ pg_h S.2 ≤ pg_h (pg_ent S m) := by
  obtain ⟨⟨w', w1, w2, w3⟩, g2, g3, g4⟩ := he
  have ew : w' = w := by
    rw [ha, nI_eq (by omega) (by omega)] at w2
    exact w2.symm
  subst ew
  have ea : (pg_a S.1 m).toInt.toNat = w' := by rw [ha, xp_nat (by omega)]
  have hmv := h.mv0 hvw hw w3
  have hst : pg_st S.1 (pg_b S.1 m) < 390 := pg_st_lt (by omega) (fun k hk => (g2 k hk).2)
  have H0 : pg_jc r (S.1, pg_ent0 S m) ∧ pg_vw (pg_ent0 S m) = w' ∧ pg_ch (pg_ent0 S m) = 0 ∧ pg_st S.1 (pg_b S.1 m) ≤ pg_h (pg_ent0 S m) ∧ pg_h S.2 ≤ pg_h (pg_ent0 S m) := by
    unfold pg_ent0
    rw [ea]
    by_cases hlt : pg_h S.2 < pg_st S.1 (pg_b S.1 m)
    · rw [if_pos hlt]
      have hp := g3 hlt
      obtain ⟨p, p1, p2, p3⟩ := hK.cert hz (Nat.le_of_lt hm) hp
      have ep : pg_st S.1 (pg_b S.1 m) = p := by rwa [lN_eq (by omega) (by omega)] at p1
      refine ⟨hmv.set _ hlt (by rw [ep]; exact p2) (pg_proof_mono (Nat.le_of_lt hm) hp), ?_, ?_, ?_, ?_⟩
      · exact pg_set_oth _ _ _ 0 0 (by decide) (by decide) (by decide) (by decide) (by decide)
      · exact pg_set_oth _ _ _ 1 0 (by decide) (by decide) (by decide) (by decide) (by decide)
      · rw [pg_set_h]; exact Nat.le_refl _
      · rw [pg_set_h]; exact Nat.le_of_lt hlt
    · rw [if_neg hlt]
      exact ⟨hmv, rfl, rfl, Nat.le_of_not_lt hlt, Nat.le_refl _⟩
  obtain ⟨q1, q2, q3, q4, q5⟩ := H0
  have hI := pg_ent_eI S m (fun q => (h.2.1 q).2)
  have hR := q1.eI (R := pg_ent S m) hm hk hv (by show _ = pg_vw (pg_ent0 S m) % 4; rw [q2]; exact hf) (by show _ = nI (pg_vw (pg_ent0 S m)); rw [q2]; exact ha) q3 q4 g4 hI
  have Fv : pg_vw (pg_ent S m) = pg_vw (pg_ent0 S m) := hI.1 0 0 (by decide) (by decide)
  have Fc : pg_ch (pg_ent S m) = pg_ch (pg_ent0 S m) := hI.1 1 0 (by decide) (by decide)
  have Fh : pg_h (pg_ent S m) = pg_h (pg_ent0 S m) := hI.1 2 0 (by decide) (by decide)
  refine ⟨hR, by rw [Fv, q2], by rw [Fc, q3], fun n x hx => ?_, by rw [Fh]; exact q5⟩
  rw [Fh]
  rcases hx with ⟨k1, -⟩ | ⟨-, -, j, j1, j2, j3, j4⟩
  · omega
  · by_cases hn : n ≤ pg_h (pg_ent0 S m)
    · exact Or.inl hn
    · refine Or.inr ?_
      rw [j3, j2]
      exact hI.2.2.2.1 j j1 (by omega) (by omega)
