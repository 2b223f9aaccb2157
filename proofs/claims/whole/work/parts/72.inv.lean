/-! at most one replica forges -/
theorem xp_two {Q : Nat → Bool} (h : 2 ≤ ((List.range 4).filter Q).length) : ∃ s t, s ≠ t ∧ s < 4 ∧ t < 4 ∧ Q s = true ∧ Q t = true := by
  have e : List.range 4 = [0, 1, 2, 3] := by decide
  rw [e] at h
  cases h0 : Q 0 <;> cases h1 : Q 1 <;> cases h2 : Q 2 <;> cases h3 : Q 3 <;> simp [h0, h1, h2, h3] at h <;>
    first
    | exact ⟨0, 1, by decide, by decide, by decide, h0, h1⟩
    | exact ⟨0, 2, by decide, by decide, by decide, h0, h2⟩
    | exact ⟨0, 3, by decide, by decide, by decide, h0, h3⟩
    | exact ⟨1, 2, by decide, by decide, by decide, h1, h2⟩
    | exact ⟨1, 3, by decide, by decide, by decide, h1, h3⟩
    | exact ⟨2, 3, by decide, by decide, by decide, h2, h3⟩
theorem xp_two' {Q : Nat → Bool} {s t : Nat} (hst : s ≠ t) (hs : s < 4) (ht : t < 4) (h1 : Q s = true) (h2 : Q t = true) : 2 ≤ ((List.range 4).filter Q).length := by
  have e : List.range 4 = [0, 1, 2, 3] := by decide
  rw [e]
  rcases (show s = 0 ∨ s = 1 ∨ s = 2 ∨ s = 3 by omega) with rfl | rfl | rfl | rfl <;> rcases (show t = 0 ∨ t = 1 ∨ t = 2 ∨ t = 3 by omega) with rfl | rfl | rfl | rfl <;> first
    | exact absurd rfl hst
    | (cases h0 : Q 0 <;> cases h1' : Q 1 <;> cases h2' : Q 2 <;> cases h3 : Q 3 <;> simp_all)
theorem pg_cnt_two {m : Nat} {f : Nat → Nat} {P : Nat → Bool} {b : Nat} (h : 2 ≤ pg_cnt m f P b) : ∃ i j, i < m ∧ j < m ∧ P i = true ∧ P j = true ∧ f i ≠ f j ∧ f i ≠ b ∧ f j ≠ b ∧ f i < 4 ∧ f j < 4 := by
  obtain ⟨s, t, h1, h2, h3, h4, h5⟩ := xp_two h
  simp only [Bool.and_eq_true, bne_iff_ne, List.any_eq_true, List.mem_range, beq_iff_eq] at h4 h5
  obtain ⟨g1, i, i1, i2, i3⟩ := h4
  obtain ⟨g2, j, j1, j2, j3⟩ := h5
  exact ⟨i, j, i1, j1, i3, j3, by omega, by omega, by omega, by omega, by omega⟩
theorem pg_cnt_two' {m : Nat} {f : Nat → Nat} {P : Nat → Bool} {b i j : Nat} (hi : i < m) (hj : j < m) (h1 : P i = true) (h2 : P j = true) (h3 : f i ≠ f j) (h4 : f i ≠ b) (h5 : f j ≠ b) (h6 : f i < 4) (h7 : f j < 4) : 2 ≤ pg_cnt m f P b := by
  refine xp_two' h3 h6 h7 ?_ ?_
  · simp only [Bool.and_eq_true, bne_iff_ne, List.any_eq_true, List.mem_range, beq_iff_eq]
    exact ⟨h4, i, hi, rfl, h1⟩
  · simp only [Bool.and_eq_true, bne_iff_ne, List.any_eq_true, List.mem_range, beq_iff_eq]
    exact ⟨h5, j, hj, rfl, h2⟩
/-- of two senders one doesn't forge -/
theorem pg_ki.one {F : Nat} {B : pg_B} (h : pg_ki F B) {i j : Nat} (hi : i < B.1) (hj : j < B.1) (hf : pg_f B i ≠ pg_f B j) : pg_g B i = false ∨ pg_g B j = false := by
  cases gi : pg_g B i
  · exact Or.inl rfl
  · cases gj : pg_g B j
    · exact Or.inr rfl
    · have h1 := h.2.2.2.1 i hi gi
      have h2 := h.2.2.2.1 j hj gj
      omega
theorem pg_ki.cnt {F : Nat} {B : pg_B} (h : pg_ki F B) {m : Nat} (hm : m ≤ B.1) {P : Nat → Bool} {b : Nat} (hc : 2 ≤ pg_cnt m (pg_f B) P b) : ∃ i, i < m ∧ P i = true ∧ pg_g B i = false ∧ pg_f B i < 4 ∧ pg_f B i ≠ b := by
  obtain ⟨i, j, h1, h2, h3, h4, h5, h6, h7, h8, h9⟩ := pg_cnt_two hc
  rcases h.one (i := i) (j := j) (by omega) (by omega) h5 with g | g
  · exact ⟨i, h1, h3, g, h8, h6⟩
  · exact ⟨j, h2, h4, g, h9, h7⟩
/-- a certified number is an executed one -/
theorem pg_ki.cert {F : Nat} {B : pg_B} (h : pg_ki F B) (hz : B.1 ≤ 256) {x : Int64} {m : Nat} (hm : m ≤ B.1) (hp : (pg_proof B x m).isSome = true) : ∃ p, x = lN p ∧ pg_dd B p ∧ 3 * p ≤ B.1 := by
  unfold pg_proof at hp
  rw [List.find?_isSome] at hp
  obtain ⟨i, h1, h2⟩ := hp
  rw [Bool.and_eq_true, Bool.and_eq_true, decide_eq_true_eq, beq_iff_eq, beq_iff_eq] at h2
  obtain ⟨j, j1, j2, j3, -⟩ := h.cnt (b := 9) hm (Nat.le_trans (by decide) h2.2.2)
  unfold pg_cp at j2
  rw [Bool.and_eq_true, Bool.and_eq_true, beq_iff_eq, beq_iff_eq, beq_iff_eq] at j2
  obtain ⟨n, n1, n2⟩ := h.2.2.2.2.2.2.1 j (by omega) j3 j2.1
  have hn := pg_dd_le n2 hz
  refine ⟨n, ?_, n2, hn⟩
  rw [← h2.2.1, ← j2.2.1, n1]
  exact nI_l (by omega)
theorem pg_ki.cps {F : Nat} {B : pg_B} (h : pg_ki F B) (hz : B.1 ≤ 256) : pg_cps B := by
  intro x m hm hp
  obtain ⟨p, p1, p2, p3⟩ := h.cert hz hm hp
  exact ⟨p, by omega, p1⟩
/-! the two ways to the backing request -/
theorem xp_nI4 {w w' : Nat} (h : nI w = nI w') : w % 4 = w' % 4 := by
  have h1 := xb_tn w
  have h2 := xb_tn w'
  rw [h, h2] at h1
  omega
theorem pg_ki.back {F : Nat} {B : pg_B} (h : pg_ki F B) {w : Nat} {n : Int64} {m : Nat} (hm : m ≤ B.1) {c c' : Int32} (h1 : 2 ≤ pg_cnt m (pg_f B) (fun j => pg_pr B (nI w) n j && pg_c B j == c) (w % 4)) (h2 : 2 ≤ pg_cnt m (pg_f B) (fun j => pg_pr B (nI w) n j && pg_c B j == c') (w % 4)) : c = c' := by
  obtain ⟨H1, H2, H3, H4, H5, H6, H7, H8, H9, HA⟩ := h
  have same : ∀ i j, i < m → j < m → pg_g B i = false → pg_g B j = false → (pg_pr B (nI w) n i && pg_c B i == c) = true → (pg_pr B (nI w) n j && pg_c B j == c') = true → pg_f B i = pg_f B j → c = c' := by
    intro i j hi hj gi gj p1 p2 hf
    unfold pg_pr at p1 p2
    simp only [Bool.and_eq_true, beq_iff_eq] at p1 p2
    have := H9 i j (by omega) (by omega) gi gj p1.1.1 p2.1.1 hf (by rw [p1.1.2.1, p2.1.2.1]) (by rw [p1.1.2.2, p2.1.2.2])
    rw [← p1.2, ← p2.2, this]
  by_cases hF : w % 4 + 1 = F
  · obtain ⟨i, j, i1, j1, p1, p2, f1, f2, f3, f4, f5⟩ := pg_cnt_two h1
    obtain ⟨i', j', i1', j1', p1', p2', f1', f2', f3', f4', f5'⟩ := pg_cnt_two h2
    have gg : ∀ q, q < m → pg_f B q ≠ w % 4 → pg_g B q = false := by
      intro q hq hf
      cases gq : pg_g B q
      · rfl
      · have := H4 q (by omega) gq
        omega
    have hw : w % 4 < 4 := Nat.mod_lt _ (by decide)
    rcases (show pg_f B i = pg_f B i' ∨ pg_f B i = pg_f B j' ∨ pg_f B j = pg_f B i' ∨ pg_f B j = pg_f B j' by omega) with e | e | e | e
    · exact same i i' i1 i1' (gg i i1 f2) (gg i' i1' f2') p1 p1' e
    · exact same i j' i1 j1' (gg i i1 f2) (gg j' j1' f3') p1 p2' e
    · exact same j i' j1 i1' (gg j j1 f3) (gg i' i1' f2') p2 p1' e
    · exact same j j' j1 j1' (gg j j1 f3) (gg j' j1' f3') p2 p2' e
  · obtain ⟨i, i1, p1, g1, f1, f2⟩ := pg_ki.cnt ⟨H1, H2, H3, H4, H5, H6, H7, H8, H9, HA⟩ hm h1
    obtain ⟨j, j1, p2, g2, f3, f4⟩ := pg_ki.cnt ⟨H1, H2, H3, H4, H5, H6, H7, H8, H9, HA⟩ hm h2
    unfold pg_pr at p1 p2
    simp only [Bool.and_eq_true, beq_iff_eq] at p1 p2
    obtain ⟨w1, n1, x1, a1, a2, a3, a4, a5, a6, a7, a8, a9, q1, b1, b2, b3, b4⟩ := H8 i (by omega) g1 p1.1.1
    obtain ⟨w2, n2, x2, c1, c2, c3, c4, c5, c6, c7, c8, c9, q2, d1, d2, d3, d4⟩ := H8 j (by omega) g2 p2.1.1
    have e1 : w % 4 = w1 % 4 := xp_nI4 (by rw [← p1.1.2.1, a3])
    have e2 : w % 4 = w2 % 4 := xp_nI4 (by rw [← p2.1.2.1, c3])
    have e3 : w1 = w2 := by
      have : nI w1 = nI w2 := by rw [← a3, ← c3, p1.1.2.1, p2.1.2.1]
      rwa [nI_eq (by omega) (by omega)] at this
    have e4 : n1 = n2 := by
      have : lN n1 = lN n2 := by rw [← a4, ← c4, p1.1.2.2, p2.1.2.2]
      rwa [lN_eq (by omega) (by omega)] at this
    have gg : ∀ q, q < B.1 → pg_f B q = w % 4 → pg_g B q = false := by
      intro q hq hf
      cases gq : pg_g B q
      · rfl
      · have := H4 q hq gq
        omega
    subst e3 e4
    have := HA q1 q2 n1 x1 x2 b1 d1 (gg q1 b1 (by rw [b2, e1])) (gg q2 d1 (by rw [d2, e2])) (by rw [b2, d2]) (by rw [b3, d3]) b4 d4
    rw [← p1.2, ← p2.2, a6, c6, this]
theorem pg_ki.bke {F : Nat} {B : pg_B} (h : pg_ki F B) : pg_bke B := by
  intro w n m hm
  have hwf := h.1
  have f4 : ∀ i, i < m → pg_pr B (nI w) n i = true → pg_f B i < 4 := by
    intro i hi hp
    unfold pg_pr at hp
    simp only [Bool.and_eq_true, beq_iff_eq] at hp
    exact pg_wf4 hwf (by omega) (by omega)
  have back : ∀ i, i < m → pg_bkP B w n m i = true → 2 ≤ pg_cnt m (pg_f B) (fun j => pg_pr B (nI w) n j && pg_c B j == pg_c B i) (w % 4) := by
    intro i hi hp
    unfold pg_bkP pg_bkQ at hp
    simp only [Bool.and_eq_true, bne_iff_ne, List.any_eq_true, List.mem_range, beq_iff_eq, decide_eq_true_eq] at hp
    obtain ⟨p1, p2, o, o1, o2, o3, o4, o5, o6⟩ := hp
    exact pg_cnt_two' hi o1 (by simp [p1]) (by simp [o3, o6]) (fun e => o5 e.symm) p2 o4 (f4 i hi p1) (f4 o o1 o3)
  unfold pg_bkC pg_back
  cases e1 : (List.range m).find? (fun i => pg_pr B (nI w) n i && decide (2 ≤ pg_cnt m (pg_f B) (fun j => pg_pr B (nI w) n j && pg_c B j == pg_c B i) (w % 4))) with
  | none =>
    have : (List.range m).find? (pg_bkP B w n m) = none := by
      rw [List.find?_eq_none] at e1 ⊢
      intro i hi hp
      refine e1 i hi ?_
      have hi2 := List.mem_range.mp hi
      have p1 : pg_pr B (nI w) n i = true := by
        unfold pg_bkP at hp
        rw [Bool.and_eq_true] at hp
        exact hp.1
      rw [p1, Bool.true_and, decide_eq_true_eq]
      exact back i hi2 hp
    rw [this]
  | some i =>
    have hi := List.mem_range.mp (List.mem_of_find?_eq_some e1)
    have hp := List.find?_some e1
    rw [Bool.and_eq_true, decide_eq_true_eq] at hp
    cases e2 : (List.range m).find? (pg_bkP B w n m) with
    | some i' =>
      have hi' := List.mem_range.mp (List.mem_of_find?_eq_some e2)
      exact h.back hm (back i' hi' (List.find?_some e2)) hp.2
    | none =>
      exfalso
      rw [List.find?_eq_none] at e2
      obtain ⟨a, b, a1, b1, p1, p2, g1, g2, g3, g4, g5⟩ := pg_cnt_two hp.2
      simp only [Bool.and_eq_true, beq_iff_eq] at p1 p2
      rcases Nat.lt_or_gt_of_ne (show a ≠ b by rintro rfl; exact g1 rfl) with hlt | hlt
      · refine e2 a (List.mem_range.mpr a1) ?_
        unfold pg_bkP pg_bkQ
        simp only [Bool.and_eq_true, bne_iff_ne, List.any_eq_true, List.mem_range, beq_iff_eq, decide_eq_true_eq]
        exact ⟨p1.1, g2, b, b1, hlt, p2.1, g3, fun e => g1 e.symm, by rw [p1.2, p2.2]⟩
      · refine e2 b (List.mem_range.mpr b1) ?_
        unfold pg_bkP pg_bkQ
        simp only [Bool.and_eq_true, bne_iff_ne, List.any_eq_true, List.mem_range, beq_iff_eq, decide_eq_true_eq]
        exact ⟨p2.1, g3, a, a1, hlt, p1.1, g2, g1, by rw [p1.2, p2.2]⟩
/-- the backing request is one -/
theorem pg_ki.req {F : Nat} {B : pg_B} (h : pg_ki F B) {w : Nat} {n : Int64} {m : Nat} (hm : m ≤ B.1) : pg_back B w n m = -2 ∨ ∃ x, 0 < x ∧ x < 300 ∧ pg_back B w n m = nI x - 2 ∧ (2 ≤ x → x - 2 < B.1 ∧ pg_k B (x - 2) = 0) := by
  unfold pg_back
  cases e1 : (List.range m).find? (fun i => pg_pr B (nI w) n i && decide (2 ≤ pg_cnt m (pg_f B) (fun j => pg_pr B (nI w) n j && pg_c B j == pg_c B i) (w % 4))) with
  | none => exact Or.inl rfl
  | some i =>
    have hp := List.find?_some e1
    rw [Bool.and_eq_true, decide_eq_true_eq] at hp
    obtain ⟨j, j1, j2, j3, j4, j5⟩ := h.cnt hm hp.2
    unfold pg_pr at j2
    simp only [Bool.and_eq_true, beq_iff_eq] at j2
    obtain ⟨w1, n1, x1, a1, a2, a3, a4, a5, a6, a7, a8, a9, -⟩ := h.2.2.2.2.2.2.2.1 j (by omega) j3 j2.1.1
    exact Or.inr ⟨x1, a7, a8, by show pg_c B i = _; rw [← j2.2, a6], a9⟩
