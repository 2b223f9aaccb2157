/-! the board grows -/
def pg_ext (B B' : pg_B) : Prop := B.1 ≤ B'.1 ∧ ∀ i, i < B.1 → pg_k B' i = pg_k B i ∧ pg_f B' i = pg_f B i ∧ pg_a B' i = pg_a B i ∧ pg_b B' i = pg_b B i ∧ pg_c B' i = pg_c B i ∧ pg_g B' i = pg_g B i
theorem pg_ext.rf (B : pg_B) : pg_ext B B := ⟨Nat.le_refl _, fun _ _ => ⟨rfl, rfl, rfl, rfl, rfl, rfl⟩⟩
theorem pg_ext.tr {B B1 B2 : pg_B} (h : pg_ext B B1) (g : pg_ext B1 B2) : pg_ext B B2 := by
  refine ⟨Nat.le_trans h.1 g.1, fun i hi => ?_⟩
  have h1 := h.2 i hi
  have h2 := g.2 i (Nat.lt_of_lt_of_le hi h.1)
  exact ⟨h2.1.trans h1.1, h2.2.1.trans h1.2.1, h2.2.2.1.trans h1.2.2.1, h2.2.2.2.1.trans h1.2.2.2.1, h2.2.2.2.2.1.trans h1.2.2.2.2.1, h2.2.2.2.2.2.trans h1.2.2.2.2.2⟩
theorem pg_ext.send (B : pg_B) (k p : Nat) (x : Int32) (y : Int64) (z : Int32) (g : Bool) : pg_ext B (pg_send B k p x y z g) := by
  refine ⟨by rw [pg_send_z]; omega, fun i hi => ?_⟩
  rw [pg_send_k, pg_send_f, pg_send_a, pg_send_b, pg_send_c, pg_send_g, if_neg (by omega), if_neg (by omega), if_neg (by omega), if_neg (by omega), if_neg (by omega), if_neg (by omega)]
  exact ⟨rfl, rfl, rfl, rfl, rfl, rfl⟩
theorem pg_ext.own (r : Nat) (S : pg_S) (k : Nat) (x : Int32) (y : Int64) (z : Int32) : pg_ext S.1 (pg_own r S k x y z).1 := pg_ext.send S.1 k r x y z false
theorem xp_any_congr {P P' : Nat → Bool} {z : Nat} (h : ∀ i, i < z → P' i = P i) : (List.range z).any P' = (List.range z).any P := by
  rw [Bool.eq_iff_iff, List.any_eq_true, List.any_eq_true]
  constructor
  · rintro ⟨i, h1, h2⟩
    exact ⟨i, h1, by rw [← h i (List.mem_range.mp h1)]; exact h2⟩
  · rintro ⟨i, h1, h2⟩
    exact ⟨i, h1, by rw [h i (List.mem_range.mp h1)]; exact h2⟩
theorem xp_filter_ext {P P' : Nat → Bool} {z : Nat} (h : ∀ i, i < z → P' i = P i) : ∀ d, (∀ i, z ≤ i → i < z + d → P' i = false) → (List.range (z + d)).filter P' = (List.range z).filter P
  | 0, _ => List.filter_congr (fun i hi => h i (List.mem_range.mp hi))
  | d + 1, h2 => by
    rw [← Nat.add_assoc, List.range_succ, List.filter_append, xp_filter_ext h d (fun i h3 h4 => h2 i h3 (by omega)), List.filter_cons_of_neg (by rw [h2 (z + d) (by omega) (by omega)]; decide)]
    simp
theorem xp_filter_ext2 {P P' : Nat → Bool} {z z' : Nat} (hz : z ≤ z') (h : ∀ i, i < z → P' i = P i) (h2 : ∀ i, z ≤ i → i < z' → P' i = false) : (List.range z').filter P' = (List.range z).filter P := by
  obtain ⟨d, rfl⟩ := Nat.exists_eq_add_of_le hz
  exact xp_filter_ext h d h2
theorem xp_find_ext {P P' : Nat → Bool} {z z' : Nat} (hz : z ≤ z') (h : ∀ i, i < z → P' i = P i) (h2 : ∀ i, z ≤ i → i < z' → P' i = false) : (List.range z').find? P' = (List.range z).find? P := by
  rw [← List.head?_filter, ← List.head?_filter, xp_filter_ext2 hz h h2]
theorem pg_cnt_ext {m : Nat} {f f' : Nat → Nat} {P P' : Nat → Bool} {b : Nat} (hf : ∀ i, i < m → f' i = f i) (hP : ∀ i, i < m → P' i = P i) : pg_cnt m f' P' b = pg_cnt m f P b := by
  unfold pg_cnt
  congr 1
  apply List.filter_congr
  intro s _
  congr 1
  apply xp_any_congr
  intro i hi
  rw [hf i hi, hP i hi]
theorem pg_cp_ext {B B' : pg_B} (h : pg_ext B B') {x : Int32} {y : Int64} {i : Nat} (hi : i < B.1) : pg_cp B' x y i = pg_cp B x y i := by
  obtain ⟨h1, h2, h3, h4, h5, h6⟩ := h.2 i hi
  unfold pg_cp
  rw [h1, h3, h4]
theorem pg_pr_ext {B B' : pg_B} (h : pg_ext B B') {x : Int32} {y : Int64} {i : Nat} (hi : i < B.1) : pg_pr B' x y i = pg_pr B x y i := by
  obtain ⟨h1, h2, h3, h4, h5, h6⟩ := h.2 i hi
  unfold pg_pr
  rw [h1, h3, h4]
theorem pg_proof_ext {B B' : pg_B} (h : pg_ext B B') {n : Int64} {m : Nat} (hm : m ≤ B.1) : pg_proof B' n m = pg_proof B n m := by
  unfold pg_proof
  apply xp_find_congr
  intro i hi
  obtain ⟨h1, h2, h3, h4, h5, h6⟩ := h.2 i (by omega)
  rw [h1, h3, h4, pg_cnt_ext (f := pg_f B) (P := pg_cp B (pg_a B i) (pg_b B i)) (fun j hj => (h.2 j (by omega)).2.1) (fun j hj => pg_cp_ext h (by omega))]
theorem pg_back_ext {B B' : pg_B} (h : pg_ext B B') {w : Nat} {n : Int64} {m : Nat} (hm : m ≤ B.1) : pg_back B' w n m = pg_back B w n m := by
  have e : (List.range m).find? (fun i => pg_pr B' (nI w) n i && decide (2 ≤ pg_cnt m (pg_f B') (fun j => pg_pr B' (nI w) n j && pg_c B' j == pg_c B' i) (w % 4))) = (List.range m).find? (fun i => pg_pr B (nI w) n i && decide (2 ≤ pg_cnt m (pg_f B) (fun j => pg_pr B (nI w) n j && pg_c B j == pg_c B i) (w % 4))) := by
    apply xp_find_congr
    intro i hi
    rw [pg_pr_ext h (by omega), pg_cnt_ext (f := pg_f B) (P := fun j => pg_pr B (nI w) n j && pg_c B j == pg_c B i) (fun j hj => (h.2 j (by omega)).2.1) (fun j hj => by
      rw [pg_pr_ext h (by omega), (h.2 j (by omega)).2.2.2.2.1, (h.2 i (by omega)).2.2.2.2.1])]
  unfold pg_back
  rw [e]
  cases e2 : (List.range m).find? (fun i => pg_pr B (nI w) n i && decide (2 ≤ pg_cnt m (pg_f B) (fun j => pg_pr B (nI w) n j && pg_c B j == pg_c B i) (w % 4))) with
  | none => rfl
  | some i =>
    have := List.mem_range.mp (List.mem_of_find?_eq_some e2)
    exact (h.2 i (by omega)).2.2.2.2.1
theorem xp_all_congr {P P' : Nat → Bool} {z : Nat} (h : ∀ i, i < z → P' i = P i) : (List.range z).all P' = (List.range z).all P := by
  rw [Bool.eq_iff_iff, List.all_eq_true, List.all_eq_true]
  constructor
  · intro g i hi
    rw [← h i (List.mem_range.mp hi)]; exact g i hi
  · intro g i hi
    rw [h i (List.mem_range.mp hi)]; exact g i hi
theorem pg_gc_ext {B B' : pg_B} (h : pg_ext B B') {m : Nat} (hm : m < B.1) : pg_gc B' m = pg_gc B m := by
  obtain ⟨h1, h2, h3, h4, h5, h6⟩ := h.2 m hm
  unfold pg_gc
  rw [h1, h3, h4, h5, pg_proof_ext h (by omega)]
  congr 5
  apply xp_all_congr
  intro j _
  rw [pg_back_ext h (by omega)]
theorem pg_st_ext {B B' : pg_B} (h : pg_ext B B') {y : Int64} (hv : ∀ k, k < 3 → pg_vt y k < B.1) : pg_st B' y = pg_st B y := by
  unfold pg_st pg_nb
  rw [(h.2 _ (hv 0 (by omega))).2.2.2.1, (h.2 _ (hv 1 (by omega))).2.2.2.1, (h.2 _ (hv 2 (by omega))).2.2.2.1]
theorem pg_tp_ext {B B' : pg_B} (h : pg_ext B B') {y : Int64} {n : Nat} : ∀ j, (∀ k, k < j → pg_vt y k < B.1) → pg_tp B' y n j = pg_tp B y n j
  | 0, _ => rfl
  | j + 1, hv => by
    have ih := pg_tp_ext h (n := n) j (fun k hk => hv k (by omega))
    have e : pg_cm B' (pg_vt y j) n = pg_cm B (pg_vt y j) n := by
      unfold pg_cm pg_nb
      rw [(h.2 _ (hv j (by omega))).2.2.2.1, (h.2 _ (hv j (by omega))).2.2.2.2.1]
    show (if (pg_tp B' y n j).1 < pg_cm B' (pg_vt y j) n then _ else _) = (if (pg_tp B y n j).1 < pg_cm B (pg_vt y j) n then _ else _)
    rw [ih, e]
theorem pg_tp_by {B : pg_B} {y : Int64} {n z : Nat} : ∀ j, (∀ k, k < j → pg_vt y k < z) → 0 < (pg_tp B y n j).1 → (pg_tp B y n j).2 < z
  | 0, _, h => absurd h (Nat.lt_irrefl 0)
  | j + 1, hv, h => by
    have e : pg_tp B y n (j + 1) = if (pg_tp B y n j).1 < pg_cm B (pg_vt y j) n then (pg_cm B (pg_vt y j) n, pg_vt y j) else pg_tp B y n j := rfl
    rw [e] at h ⊢
    by_cases hc : (pg_tp B y n j).1 < pg_cm B (pg_vt y j) n
    · rw [if_pos hc]
      exact hv j (by omega)
    · rw [if_neg hc] at h ⊢
      exact pg_tp_by j (fun k hk => hv k (by omega)) h
theorem pg_cd_ext {B B' : pg_B} (h : pg_ext B B') {y : Int64} (hv : ∀ k, k < 3 → pg_vt y k < B.1) (j : Nat) : pg_cd B' y j = pg_cd B y j := by
  unfold pg_cd
  rw [pg_st_ext h hv]
  simp only [pg_tp_ext h 3 hv]
  by_cases hc : 0 < (pg_tp B y (pg_st B y + 1 + j) 3).1
  · rw [if_pos hc, if_pos hc, pg_back_ext h (Nat.le_of_lt (pg_tp_by 3 hv hc))]
  · rw [if_neg hc, if_neg hc]
theorem pg_od_ext {B B' : pg_B} (h : pg_ext B B') {y : Int64} (hv : ∀ k, k < 3 → pg_vt y k < B.1) : pg_od B' y = pg_od B y := by
  unfold pg_od
  rw [pg_cd_ext h hv, pg_cd_ext h hv, pg_cd_ext h hv, pg_cd_ext h hv]
theorem pg_gn_ext {B B' : pg_B} (h : pg_ext B B') {m : Nat} (hm : m < B.1) : pg_gn B' m = pg_gn B m := by
  obtain ⟨h1, h2, h3, h4, h5, h6⟩ := h.2 m hm
  unfold pg_gn
  rw [h1, h3, h4, h5]
  congr 4
  have e : (List.range 3).all (fun k => decide (pg_vt (pg_b B m) k < m) && (pg_a B' (pg_vt (pg_b B m) k) == pg_a B m && (pg_gc B' (pg_vt (pg_b B m) k) && (List.range k).all (fun i => pg_f B' (pg_vt (pg_b B m) i) != pg_f B' (pg_vt (pg_b B m) k))))) = (List.range 3).all (fun k => decide (pg_vt (pg_b B m) k < m) && (pg_a B (pg_vt (pg_b B m) k) == pg_a B m && (pg_gc B (pg_vt (pg_b B m) k) && (List.range k).all (fun i => pg_f B (pg_vt (pg_b B m) i) != pg_f B (pg_vt (pg_b B m) k))))) := by
    by_cases hv : ∀ k, k < 3 → pg_vt (pg_b B m) k < m
    · apply xp_all_congr
      intro k hk
      have hk2 := hv k hk
      rw [(h.2 _ (by omega)).2.2.1, pg_gc_ext h (by omega), (h.2 _ (by omega)).2.1]
      congr 3
      apply xp_all_congr
      intro i hi
      rw [(h.2 _ (show pg_vt (pg_b B m) i < B.1 by have := hv i (by omega); omega)).2.1]
    · have : ∃ k, k < 3 ∧ ¬ pg_vt (pg_b B m) k < m := by
        apply Classical.byContradiction
        intro hn
        exact hv (fun k hk => Classical.byContradiction (fun h3 => hn ⟨k, hk, h3⟩))
      obtain ⟨k, k1, k2⟩ := this
      rw [Bool.eq_iff_iff, List.all_eq_true, List.all_eq_true]
      constructor
      · intro g
        have := g k (List.mem_range.mpr k1)
        rw [decide_eq_false k2, Bool.false_and] at this
        exact absurd this (by decide)
      · intro g
        have := g k (List.mem_range.mpr k1)
        rw [decide_eq_false k2, Bool.false_and] at this
        exact absurd this (by decide)
  rw [e]
  by_cases hv : ∀ k, k < 3 → pg_vt (pg_b B m) k < m
  · rw [pg_od_ext h (fun k hk => by have := hv k hk; omega)]
  · have hf : (List.range 3).all (fun k => decide (pg_vt (pg_b B m) k < m) && (pg_a B (pg_vt (pg_b B m) k) == pg_a B m && (pg_gc B (pg_vt (pg_b B m) k) && (List.range k).all (fun i => pg_f B (pg_vt (pg_b B m) i) != pg_f B (pg_vt (pg_b B m) k))))) = false := by
      rw [Bool.eq_false_iff]
      intro g
      rw [List.all_eq_true] at g
      apply hv
      intro k hk
      have := g k (List.mem_range.mpr hk)
      rw [Bool.and_eq_true] at this
      exact of_decide_eq_true this.1
    rw [hf, Bool.false_and, Bool.false_and]
/-! the rules let the board grow -/
theorem pg_beg_ext (r : Nat) (S : pg_S) (v : Nat) : pg_ext S.1 (pg_beg r S v).1 := pg_ext.send S.1 5 r _ _ _ false
theorem pg_srv_ext (r : Nat) (S : pg_S) (q : Nat) : pg_ext S.1 (pg_srv r S q).1 := pg_ext.send S.1 4 r _ _ _ false
theorem pg_rl_ext {r : Nat} {S S' : pg_S} (h : pg_rl r S = some S') : pg_ext S.1 S'.1 := by
  unfold pg_rl at h
  rw [Option.or_eq_some_iff, Option.or_eq_some_iff, Option.or_eq_some_iff, Option.or_eq_some_iff, Option.or_eq_some_iff, Option.or_eq_some_iff, Option.or_eq_some_iff] at h
  rcases h with h | ⟨-, h | ⟨-, h | ⟨-, h | ⟨-, h | ⟨-, h | ⟨-, h | ⟨-, h⟩⟩⟩⟩⟩⟩⟩
  · unfold pg_r1 at h
    split at h
    · cases h
    · split at h
      · injection h with h; subst h; exact pg_ext.own ..
      · cases h
  · unfold pg_r2 at h
    split at h
    · injection h with h; subst h; exact pg_ext.own r (S.1, _) ..
    · cases h
  · unfold pg_r3 at h
    split at h
    · injection h with h; subst h; exact pg_ext.rf _
    · cases h
  · unfold pg_r4 at h
    dsimp only at h
    split at h
    · cases h
    · injection h with h
      subst h
      have key : pg_ext S.1 (if 2 ≤ pg_de S.2 (pg_e S.2 + 1) ∧ pg_wt (S.1, pg_u S.2 3 0 (pg_e S.2 + 1)) (pg_de S.2 (pg_e S.2 + 1) - 2) = true then pg_srv r (S.1, pg_u S.2 3 0 (pg_e S.2 + 1)) (pg_de S.2 (pg_e S.2 + 1) - 2) else (S.1, pg_u S.2 3 0 (pg_e S.2 + 1))).1 := by
        split
        · exact pg_srv_ext r (S.1, _) _
        · exact pg_ext.rf _
      generalize (if 2 ≤ pg_de S.2 (pg_e S.2 + 1) ∧ pg_wt (S.1, pg_u S.2 3 0 (pg_e S.2 + 1)) (pg_de S.2 (pg_e S.2 + 1) - 2) = true then pg_srv r (S.1, pg_u S.2 3 0 (pg_e S.2 + 1)) (pg_de S.2 (pg_e S.2 + 1) - 2) else (S.1, pg_u S.2 3 0 (pg_e S.2 + 1))) = S2 at key
      split
      · exact key.tr (pg_ext.own ..)
      · exact key
  · unfold pg_r5 at h
    split at h
    · injection h with h; subst h; exact pg_ext.rf _
    · cases h
  · unfold pg_r6 at h
    split at h
    · cases h
    · injection h with h; subst h; exact pg_beg_ext ..
  · unfold pg_r7 at h
    split at h
    · cases h
    · dsimp only at h
      split at h
      · cases h
      · injection h with h; subst h; exact pg_ext.own ..
  · unfold pg_r8 at h
    split at h
    · cases h
    · split at h
      · injection h with h; subst h; exact pg_ext.own ..
      · cases h
theorem pg_rls_ext {r : Nat} : ∀ (n : Nat) (S : pg_S), pg_ext S.1 (pg_rls r n S).1
  | 0, S => pg_ext.rf _
  | n + 1, S => by
    show pg_ext S.1 (match pg_rl r S with | some S2 => pg_rls r n S2 | none => S).1
    cases e : pg_rl r S with
    | none => exact pg_ext.rf _
    | some S2 => exact (pg_rl_ext e).tr (pg_rls_ext n S2)
theorem pg_run_ext (r : Nat) (S : pg_S) : pg_ext S.1 (pg_run r S).1 := pg_rls_ext 1000 S
/-- what is taken leaves the board -/
theorem pg_takes_B {r : Nat} {S S' : pg_S} {m : Nat} (h : pg_takes r S m = some S') : S'.1 = S.1 := by
  unfold pg_takes at h
  split at h
  · cases h
  · split at h
    · unfold pg_tReq at h
      split at h
      · cases h
      · split at h
        · injection h with h; subst h; rfl
        · cases h
    · split at h
      · unfold pg_tOrd at h
        split at h
        · cases h
        · split at h <;> (injection h with h; subst h; rfl)
      · cases h
    · split at h
      · injection h with h; subst h; rfl
      · cases h
    · split at h
      · injection h with h; subst h; rfl
      · cases h
    · split at h
      · unfold pg_tChg at h
        split at h
        · cases h
        · injection h with h; subst h; rfl
      · cases h
    · split at h
      · injection h with h; subst h; rfl
      · cases h
    · split at h
      · injection h with h; subst h; rfl
      · cases h
    · cases h
/-! another's cells stand on the board that has grown -/
theorem xc_R.grow {r : Nat} {B B' : pg_B} {R : pg_R} {v v' : xn_V} (hR : xc_R r (B, R) v) (he : pg_ext B B') (hno : ∀ q, pg_no R q = 1 → q < B.1) (hf : ∀ k i x, 11 ≤ k → k ≤ 18 → v'.1 k r i x = v.1 k r i x ∧ v'.2 k r i x = v.2 k r i x) : xc_R r (B', R) v' := by
  obtain ⟨hF, ⟨kl, hL, hkl⟩, ⟨cl, hC, hc⟩, hV, hS⟩ := hR
  have e11 : ∀ x, v'.1 11 r 0 x = v.1 11 r 0 x := fun x => (hf 11 0 x (by omega) (by omega)).1
  refine ⟨?_, ⟨kl, hL.keep (hf _ _ _ (by omega) (by omega)).1 (fun j _ => (hf _ _ _ (by omega) (by omega)).1), hkl⟩, ⟨cl, hC.keep (hf _ _ _ (by omega) (by omega)).1 (fun j _ => (hf _ _ _ (by omega) (by omega)).1), fun q => ?_⟩, fun s hs => ?_, fun n h1 h2 => ?_⟩
  · unfold xc_F
    simp only [e11, (hf 11 0 10 (by omega) (by omega)).2]
    exact hF
  · rw [hc q]
    constructor
    · rintro ⟨h1, h2, h3⟩
      exact ⟨Nat.lt_of_lt_of_le h1 he.1, h2, by rw [← h3]; exact (he.2 q h1).1⟩
    · rintro ⟨h1, h2, h3⟩
      have h4 := hno q h2
      exact ⟨h4, h2, by rw [← h3]; exact (he.2 q h4).1.symm⟩
  · rw [(hf 18 0 s (by omega) (by omega)).1, hV s hs]
    congr 1
    unfold pg_lvc
    rw [xp_filter_ext2 (P := fun i => pg_no R i == 1 && (pg_k B i == 5 && pg_f B i == s)) (z := B.1) he.1]
    · intro i hi
      obtain ⟨g1, g2, -⟩ := he.2 i hi
      show (pg_no R i == 1 && (pg_k B' i == 5 && pg_f B' i == s)) = _
      rw [g1, g2]
    · intro i h1 h2
      have : ¬ pg_no R i = 1 := fun h => by have := hno i h; omega
      show (pg_no R i == 1 && _) = false
      simp [this]
  · obtain ⟨a1, a2, a3, a4⟩ := hS n h1 h2
    have hnv : ∀ k s, pg_nv (B', R) k n s = pg_nv (B, R) k n s := by
      intro k s
      have e : (List.range B'.1).find? (fun i => pg_no R i == 1 && (pg_k B' i == k && (pg_f B' i == s && (pg_a B' i == nI (pg_vw R) && pg_b B' i == lN n)))) = (List.range B.1).find? (fun i => pg_no R i == 1 && (pg_k B i == k && (pg_f B i == s && (pg_a B i == nI (pg_vw R) && pg_b B i == lN n)))) := by
        apply xp_find_ext he.1
        · intro i hi
          obtain ⟨g1, g2, g3, g4, -⟩ := he.2 i hi
          rw [g1, g2, g3, g4]
        · intro i h1 h2
          have : ¬ pg_no R i = 1 := fun h => by have := hno i h; omega
          simp [this]
      unfold pg_nv
      show (match (List.range B'.1).find? (fun i => pg_no R i == 1 && (pg_k B' i == k && (pg_f B' i == s && (pg_a B' i == nI (pg_vw R) && pg_b B' i == lN n)))) with | some i => (pg_c B' i).toInt64 | none => 1099511627776) = _
      rw [e]
      cases e2 : (List.range B.1).find? (fun i => pg_no R i == 1 && (pg_k B i == k && (pg_f B i == s && (pg_a B i == nI (pg_vw R) && pg_b B i == lN n)))) with
      | none =>
        rfl
      | some i =>
        have := List.mem_range.mp (List.mem_of_find?_eq_some e2)
        show (pg_c B' i).toInt64 = (pg_c B i).toInt64
        rw [(he.2 i this).2.2.2.2.1]
    refine ⟨?_, ?_, ?_, fun s hs => ?_⟩
    · rw [(hf 13 _ _ (by omega) (by omega)).1]; exact a1
    · rw [(hf 13 _ _ (by omega) (by omega)).1]; exact a2
    · rw [(hf 13 _ _ (by omega) (by omega)).1]; exact a3
    · rw [(hf 14 _ _ (by omega) (by omega)).2, (hf 15 _ _ (by omega) (by omega)).2, hnv, hnv]
      exact a4 s hs
theorem xc_C.grow {k : Nat} {B B' : pg_B} {C : pg_C} {v v' : xn_V} (hC : xc_C k B C v) (he : pg_ext B B') (hno : ∀ q, pg_tk C q = 1 → q < B.1) (hf : ∀ x, v'.1 19 k 0 x = v.1 19 k 0 x ∧ v'.2 20 k 0 x = v.2 20 k 0 x) : xc_C k B' C v' := by
  obtain ⟨c1, c2, c3, c4, c5⟩ := hC
  refine ⟨by rw [(hf 0).1]; exact c1, by rw [(hf 3).1]; exact c2, by rw [(hf 4).1]; exact c3, by rw [(hf 5).1]; exact c4, fun h s hs => ?_⟩
  rw [(hf s).2, c5 h s hs]
  have e : (List.range B'.1).find? (fun i => pg_tk C i == 1 && (pg_b B' i == lN (pg_op C) && pg_f B' i == s)) = (List.range B.1).find? (fun i => pg_tk C i == 1 && (pg_b B i == lN (pg_op C) && pg_f B i == s)) := by
    apply xp_find_ext he.1
    · intro i hi
      obtain ⟨g1, g2, g3, g4, -⟩ := he.2 i hi
      rw [g2, g4]
    · intro i h1 h2
      have : ¬ pg_tk C i = 1 := fun h => by have := hno i h; omega
      simp [this]
  unfold pg_rp
  rw [e]
  cases e2 : (List.range B.1).find? (fun i => pg_tk C i == 1 && (pg_b B i == lN (pg_op C) && pg_f B i == s)) with
  | none => rfl
  | some i =>
    have := List.mem_range.mp (List.mem_of_find?_eq_some e2)
    show (pg_c B i).toInt64 = (pg_c B' i).toInt64
    rw [(he.2 i this).2.2.2.2.1]
