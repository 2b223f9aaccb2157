/-! how much the rules can send, and how often they fire -/
theorem xp_len_lt {P P' : Nat → Bool} {n i0 : Nat} (h : ∀ i, i < n → P' i = true → P i = true) (h0 : i0 < n) (h1 : P i0 = true) (h2 : P' i0 = false) : ((List.range n).filter P').length < ((List.range n).filter P).length := by
  induction n with
  | zero => omega
  | succ n ih =>
    rw [List.range_succ, List.filter_append, List.length_append, List.filter_append, List.length_append]
    by_cases e : i0 = n
    · subst e
      have := xp_len_mono (P := P') (P' := P) (Nat.le_refl i0) (fun i hi => h i (by omega))
      simp only [List.filter_cons, h1, h2, List.filter_nil, if_true, Bool.false_eq_true, if_false, List.length_cons, List.length_nil]
      omega
    · have := ih (fun i hi => h i (by omega)) (by omega)
      have h3 : ([n].filter P').length ≤ ([n].filter P).length := by
        cases hp : P' n
        · simp [hp]
        · simp [hp, h n (by omega) hp]
      omega
/-- against the start of a run, at which h was b -/
def pg_ri (b r : Nat) (S : pg_S) : Prop :=
  b ≤ pg_h S.2 ∧ (∀ n, b + 4 < n → pg_de S.2 n = 0) ∧ (pg_ch S.2 = 0 → ¬ pg_vw S.2 % 4 = r → ∀ n, b + 4 < n → pg_ac S.2 n = 0) ∧
  (∀ i n, pg_no S.2 i = 1 → pg_f S.1 i ≠ r → (pg_k S.1 i = 2 ∨ pg_k S.1 i = 3) → pg_a S.1 i = nI (pg_vw S.2) → pg_b S.1 i = lN n → n < 2000 → n ≤ b + 4) ∧
  (∀ i, pg_no S.2 i = 1 → pg_k S.1 i = 7 → pg_f S.1 i = r → ∃ n, n ≤ b + 4 ∧ pg_a S.1 i = nI n)
def pg_big (b : Nat) (S : pg_S) (i : Nat) : Bool := pg_no S.2 i == 1 && (pg_k S.1 i == 7 && (decide (nI (pg_h S.2) < pg_a S.1 i) && (decide (nI (b + 4) < pg_a S.1 i) && decide (3 ≤ pg_hr S 7 (pg_a S.1 i) (pg_b S.1 i) 0))))
def pg_fC (b r : Nat) (S : pg_S) : Nat := if pg_ch S.2 = 1 then 9 else if pg_vw S.2 % 4 = r then max (pg_h S.2) (b + 4) + 5 - pg_nxt S.2 else 0
def pg_fG (b : Nat) (S : pg_S) : Nat := if (List.range S.1.1).any (pg_big b S) then 4 else 0
def pg_fP (b r : Nat) (S : pg_S) : Nat := if pg_ch S.2 = 0 ∧ ¬ pg_vw S.2 % 4 = r then xp_c (fun j => !pg_sent S.1 r 2 (pg_vw S.2) (b + 1 + j)) 4 else 0
def pg_fQ (b r : Nat) (S : pg_S) : Nat := xp_c (fun j => !pg_sent S.1 r 3 (pg_vw S.2) (b + 1 + j) && (List.range S.1.1).any (fun i => pg_no S.2 i == 1 && (pg_k S.1 i == 2 && (pg_f S.1 i != r && (pg_a S.1 i == nI (pg_vw S.2) && pg_b S.1 i == lN (b + 1 + j)))))) 4
def pg_fD (b : Nat) (S : pg_S) : Nat := xp_c (fun j => decide (pg_h S.2 < b + 1 + j) && pg_de S.2 (b + 1 + j) == 0) 4
/-- what may still be sent -/
def pg_ph (b r : Nat) (S : pg_S) : Nat := 10 * ((pg_vcs S).length - 1) + pg_fC b r S + pg_fG b S + pg_fP b r S + pg_fQ b r S + 2 * (b + 4 - pg_e S.2)
/-- how often rules may still fire -/
def pg_ps (b r : Nat) (S : pg_S) : Nat := pg_ph b r S + pg_fD b S + (400 - pg_h S.2)
def pg_le (b r : Nat) (S S' : pg_S) : Prop := pg_ri b r S' ∧ S'.1.1 + pg_ph b r S' ≤ S.1.1 + pg_ph b r S ∧ pg_ps b r S' < pg_ps b r S
/-- a message of its own that isn't counted -/
theorem pg_hr_own (r : Nat) (S : pg_S) (k : Nat) (x : Int32) (y : Int64) (z : Int32) (k' : Nat) (x' : Int32) (y' : Int64) (z' : Int32) (h : ¬ (k = k' ∧ x = x')) : pg_hr (pg_own r S k x y z) k' x' y' z' = pg_hr S k' x' y' z' := by
  unfold pg_hr
  have e : ∀ m, m ≤ S.1.1 → pg_cnt m (pg_f (pg_own r S k x y z).1) (fun i => pg_no (pg_own r S k x y z).2 i == 1 && (pg_k (pg_own r S k x y z).1 i == k' && (pg_a (pg_own r S k x y z).1 i == x' && (pg_b (pg_own r S k x y z).1 i == y' && pg_c (pg_own r S k x y z).1 i == z')))) 9 = pg_cnt m (pg_f S.1) (fun i => pg_no S.2 i == 1 && (pg_k S.1 i == k' && (pg_a S.1 i == x' && (pg_b S.1 i == y' && pg_c S.1 i == z')))) 9 := by
    intro m hm
    refine pg_cnt_ext (fun i hi => ?_) (fun i hi => ?_)
    · rw [pg_own_f, if_neg (by omega)]
    · rw [pg_own_no, pg_own_k, pg_own_a, pg_own_b, pg_own_c, if_neg (by omega), if_neg (by omega), if_neg (by omega), if_neg (by omega), if_neg (by omega)]
  rw [← e S.1.1 (Nat.le_refl _), pg_own_z]
  unfold pg_cnt
  congr 1
  apply List.filter_congr
  intro s _
  congr 1
  rw [xp_any_s]
  have : (pg_f (pg_own r S k x y z).1 S.1.1 == s && (pg_no (pg_own r S k x y z).2 S.1.1 == 1 && (pg_k (pg_own r S k x y z).1 S.1.1 == k' && (pg_a (pg_own r S k x y z).1 S.1.1 == x' && (pg_b (pg_own r S k x y z).1 S.1.1 == y' && pg_c (pg_own r S k x y z).1 S.1.1 == z'))))) = false := by
    rw [Bool.eq_false_iff]
    intro g
    rw [pg_own_k, pg_own_a, if_pos rfl, if_pos rfl] at g
    simp only [Bool.and_eq_true, beq_iff_eq] at g
    exact h ⟨g.2.2.1, g.2.2.2.1⟩
  rw [this, Bool.or_false]
/-- .. of which h and the views are the same or later -/
theorem pg_fG_own {b r : Nat} {S : pg_S} {k : Nat} {x : Int32} {y : Int64} {z : Int32} {R' : pg_R} (hz : S.1.1 ≤ 252) (hn : ∀ i, pg_no R' i = pg_no (pg_own r S k x y z).2 i) (hh : pg_h S.2 ≤ pg_h R') (h2 : pg_h R' < 1000) (hk : k = 7 → ∃ n, n ≤ b + 4 ∧ x = nI n) (hb : b < 1000) : pg_fG b ((pg_own r S k x y z).1, R') ≤ pg_fG b S := by
  unfold pg_fG
  by_cases g : (List.range ((pg_own r S k x y z).1, R').1.1).any (pg_big b ((pg_own r S k x y z).1, R')) = true
  · rw [if_pos g]
    rw [List.any_eq_true] at g
    obtain ⟨i, i1, i2⟩ := g
    have i1 : i < (pg_own r S k x y z).1.1 := List.mem_range.mp i1
    rw [pg_own_z] at i1
    unfold pg_big at i2
    simp only [Bool.and_eq_true, beq_iff_eq, decide_eq_true_eq] at i2
    obtain ⟨g1, g2, g3, g4, g5⟩ := i2
    have ehr : ∀ a' b' c', pg_hr ((pg_own r S k x y z).1, R') 7 a' b' c' = pg_hr (pg_own r S k x y z) 7 a' b' c' := by
      intro a' b' c'
      unfold pg_hr
      simp only [hn]
    rw [hn] at g1
    have hi : ¬ i = S.1.1 := by
      intro e
      rw [pg_own_k, if_pos e] at g2
      rw [pg_own_a, if_pos e] at g4
      obtain ⟨n, n1, n2⟩ := hk g2
      rw [n2, nI_ltI (by omega) (by omega)] at g4
      omega
    rw [pg_own_no, if_neg hi] at g1
    rw [pg_own_k, if_neg hi] at g2
    rw [pg_own_a, if_neg hi] at g3 g4
    rw [ehr, pg_own_a, pg_own_b, if_neg hi, if_neg hi, pg_hr_own] at g5
    · rw [if_pos]
      · exact Nat.le_refl 4
      · rw [List.any_eq_true]
        refine ⟨i, List.mem_range.mpr (by omega), ?_⟩
        unfold pg_big
        simp only [Bool.and_eq_true, beq_iff_eq, decide_eq_true_eq]
        refine ⟨g1, g2, ?_, g4, g5⟩
        rw [Int32.lt_iff_toInt_lt, nI_toInt (by omega)] at g3 ⊢
        omega
    · rintro ⟨e1, e2⟩
      obtain ⟨n, n1, n2⟩ := hk e1
      rw [← e2, n2, nI_ltI (by omega) (by omega)] at g4
      omega
  · rw [if_neg g]
    exact Nat.zero_le _
theorem pg_sent_own {r : Nat} {S : pg_S} {k : Nat} {x : Int32} {y : Int64} {z : Int32} {k' w n : Nat} (h : pg_sent S.1 r k' w n = true) : pg_sent (pg_own r S k x y z).1 r k' w n = true := by
  unfold pg_sent at h ⊢
  rw [List.any_eq_true] at h ⊢
  obtain ⟨i, i1, i2⟩ := h
  have i1 := List.mem_range.mp i1
  refine ⟨i, List.mem_range.mpr (by rw [pg_own_z]; omega), ?_⟩
  rw [pg_own_f, pg_own_g, pg_own_k, pg_own_a, pg_own_b, if_neg (by omega), if_neg (by omega), if_neg (by omega), if_neg (by omega), if_neg (by omega)]
  exact i2
theorem pg_sent_new {r : Nat} {S : pg_S} {k : Nat} {z : Int32} {w n : Nat} : pg_sent (pg_own r S k (nI w) (lN n) z).1 r k w n = true := by
  unfold pg_sent
  rw [List.any_eq_true]
  refine ⟨S.1.1, List.mem_range.mpr (by rw [pg_own_z]; omega), ?_⟩
  rw [pg_own_f, pg_own_g, pg_own_k, pg_own_a, pg_own_b, if_pos rfl, if_pos rfl, if_pos rfl, if_pos rfl, if_pos rfl]
  simp
/-- P and Q: own messages take away, never add -/
theorem pg_fQ_own {b r : Nat} {S : pg_S} {k : Nat} {x : Int32} {y : Int64} {z : Int32} {R' : pg_R} (hn : ∀ i, pg_no R' i = pg_no (pg_own r S k x y z).2 i) (hv : pg_vw R' = pg_vw S.2) : pg_fQ b r ((pg_own r S k x y z).1, R') ≤ pg_fQ b r S := by
  unfold pg_fQ xp_c
  refine xp_len_mono (Nat.le_refl 4) (fun j hj g => ?_)
  simp only [Bool.and_eq_true, Bool.not_eq_true', List.any_eq_true, beq_iff_eq, bne_iff_ne, List.mem_range] at g ⊢
  obtain ⟨g1, i, i1, i2, i3, i4, i5, i6⟩ := g
  rw [pg_own_z] at i1
  rw [hn] at i2
  have hi : ¬ i = S.1.1 := by
    intro e
    rw [pg_own_f, if_pos e] at i4
    exact i4 rfl
  rw [pg_own_no, if_neg hi] at i2
  rw [pg_own_k, if_neg hi] at i3
  rw [pg_own_f, if_neg hi] at i4
  rw [pg_own_a, if_neg hi] at i5
  rw [pg_own_b, if_neg hi] at i6
  have hv' : pg_vw R' = pg_vw S.2 := hv
  rw [hv'] at g1 i5
  refine ⟨?_, i, by omega, i2, i3, i4, i5, i6⟩
  cases e : pg_sent S.1 r 3 (pg_vw S.2) (b + 1 + j)
  · rfl
  · rw [pg_sent_own e] at g1
    cases g1
theorem pg_fP_own {b r : Nat} {S : pg_S} {k : Nat} {x : Int32} {y : Int64} {z : Int32} {R' : pg_R} (hv : pg_vw R' = pg_vw S.2) (hc : pg_ch R' = pg_ch S.2) : pg_fP b r ((pg_own r S k x y z).1, R') ≤ pg_fP b r S := by
  unfold pg_fP
  have hv' : pg_vw R' = pg_vw S.2 := hv
  have hc' : pg_ch R' = pg_ch S.2 := hc
  show (if pg_ch R' = 0 ∧ ¬ pg_vw R' % 4 = r then xp_c (fun j => !pg_sent (pg_own r S k x y z).1 r 2 (pg_vw R') (b + 1 + j)) 4 else 0) ≤ _
  rw [hv', hc']
  split
  · unfold xp_c
    refine xp_len_mono (Nat.le_refl 4) (fun j hj g => ?_)
    simp only [Bool.not_eq_true'] at g ⊢
    cases e : pg_sent S.1 r 2 (pg_vw S.2) (b + 1 + j)
    · rfl
    · rw [pg_sent_own e] at g
      cases g
  · exact Nat.le_refl 0
theorem pg_vcs_own {r : Nat} {S : pg_S} {k : Nat} {x : Int32} {y : Int64} {z : Int32} {R' : pg_R} (hk : ¬ k = 5) (hn : ∀ i, pg_no R' i = pg_no (pg_own r S k x y z).2 i) (hv : pg_vw R' = pg_vw S.2) : (pg_vcs ((pg_own r S k x y z).1, R')).length ≤ (pg_vcs S).length := by
  unfold pg_vcs
  show ((List.range (pg_own r S k x y z).1.1).filter _).length ≤ _
  rw [pg_own_z, List.range_succ, List.filter_append, List.length_append]
  have h1 : ([S.1.1].filter (fun i => pg_no R' i == 1 && (pg_k (pg_own r S k x y z).1 i == 5 && decide (nI (pg_vw R') < pg_a (pg_own r S k x y z).1 i)))).length = 0 := by
    have : (pg_no R' S.1.1 == 1 && (pg_k (pg_own r S k x y z).1 S.1.1 == 5 && decide (nI (pg_vw R') < pg_a (pg_own r S k x y z).1 S.1.1))) = false := by
      rw [Bool.eq_false_iff]
      intro g
      simp only [Bool.and_eq_true, beq_iff_eq] at g
      have := g.2.1
      rw [pg_own_k, if_pos rfl] at this
      exact hk this
    rw [List.filter_cons_of_neg (by rw [this]; decide)]
    rfl
  show ((List.range S.1.1).filter (fun i => pg_no R' i == 1 && (pg_k (pg_own r S k x y z).1 i == 5 && decide (nI (pg_vw R') < pg_a (pg_own r S k x y z).1 i)))).length + ([S.1.1].filter (fun i => pg_no R' i == 1 && (pg_k (pg_own r S k x y z).1 i == 5 && decide (nI (pg_vw R') < pg_a (pg_own r S k x y z).1 i)))).length ≤ _
  rw [h1, Nat.add_zero]
  refine xp_len_mono (Nat.le_refl _) (fun i hi g => ?_)
  have hi2 : ¬ i = S.1.1 := by omega
  rw [hn, pg_own_no, pg_own_k, pg_own_a, if_neg hi2, if_neg hi2, if_neg hi2, hv] at g
  exact g
/-- the run's frame behind an own message -/
theorem pg_ri.own {b r : Nat} {S : pg_S} (h : pg_ri b r S) {k : Nat} {x : Int32} {y : Int64} {z : Int32} (hk : k = 7 → ∃ n, n ≤ b + 4 ∧ x = nI n) : pg_ri b r (pg_own r S k x y z) := by
  obtain ⟨h1, h2, h3, h4, h5⟩ := h
  refine ⟨h1, h2, h3, fun i n i1 i2 i3 i4 i5 i6 => ?_, fun i i1 i2 i3 => ?_⟩
  · by_cases hi : i = S.1.1
    · rw [pg_own_f, if_pos hi] at i2
      exact absurd rfl i2
    · rw [pg_own_no, if_neg hi] at i1
      rw [pg_own_f, if_neg hi] at i2
      rw [pg_own_k, if_neg hi] at i3
      rw [pg_own_a, if_neg hi] at i4
      rw [pg_own_b, if_neg hi] at i5
      exact h4 i n i1 i2 i3 i4 i5 i6
  · rw [pg_own_a]
    by_cases hi : i = S.1.1
    · rw [pg_own_k, if_pos hi] at i2
      rw [if_pos hi]
      exact hk i2
    · rw [pg_own_no, if_neg hi] at i1
      rw [pg_own_k, if_neg hi] at i2
      rw [pg_own_f, if_neg hi] at i3
      rw [if_neg hi]
      exact h5 i i1 i2 i3
