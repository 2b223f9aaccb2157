/-! the group's constructor -/
def xm_DR (w : xj_W) (r : Nat) : Prop := xm_at w 11 r 0 ∧ xm_at w 12 r 0 ∧ xm_at w 18 r 0 ∧ (∀ i, i < 2 → xm_at w 16 r i ∧ xm_at w 17 r i) ∧ ∀ i, i < 4 → xm_at w 13 r i ∧ xm_at w 14 r i ∧ xm_at w 15 r i
theorem xm_DR.same {w w' : xj_W} {r : Nat} (h : xm_DR w r) (h1 : ∀ k i x, 11 ≤ k → k ≤ 18 → w'.1.1 k r i x = w.1.1 k r i x ∧ w'.1.2 k r i x = w.1.2 k r i x ∧ w'.2.1 k r i x = w.2.1 k r i x) : xm_DR w' r :=
  ⟨h.1.same (fun x => h1 11 0 x (by omega) (by omega)), h.2.1.same (fun x => h1 12 0 x (by omega) (by omega)), h.2.2.1.same (fun x => h1 18 0 x (by omega) (by omega)), fun i hi => ⟨(h.2.2.2.1 i hi).1.same (fun x => h1 16 i x (by omega) (by omega)), (h.2.2.2.1 i hi).2.same (fun x => h1 17 i x (by omega) (by omega))⟩, fun i hi => ⟨(h.2.2.2.2 i hi).1.same (fun x => h1 13 i x (by omega) (by omega)), (h.2.2.2.2 i hi).2.1.same (fun x => h1 14 i x (by omega) (by omega)), (h.2.2.2.2 i hi).2.2.same (fun x => h1 15 i x (by omega) (by omega))⟩⟩
/-- the group in making: r replicas, k clients -/
def xm_G (w0 : xj_W) (r k : Nat) (w : xj_W) : Prop := w.2.2 = 11 + 19 * r + 2 * k ∧ xj_Z w ∧ (∀ k r' i' x, ¬ k ≤ 20 → w.1.1 k r' i' x = w0.1.1 k r' i' x ∧ w.1.2 k r' i' x = w0.1.2 k r' i' x ∧ w.2.1 k r' i' x = w0.2.1 k r' i' x) ∧ xm_at w 0 0 0 ∧ (∀ q, 1 ≤ q → q ≤ 7 → xm_at w q 0 0) ∧ xm_at w 10 0 0 ∧ (∀ x, (w.1.1 8 0 0 x = 0 ∧ w.1.2 8 0 0 x = 0) ∧ w.1.1 9 0 0 x = 0 ∧ w.1.2 9 0 0 x = 0) ∧ (∀ j, j < r → w.2.1 8 0 0 j = some (11, j, 0)) ∧ (∀ j, j < k → w.2.1 9 0 0 j = some (19, j, 0)) ∧ (∀ j, j < r → xm_DR w j) ∧ ∀ j, j < k → xm_at w 19 j 0 ∧ xm_at w 20 j 0
def xm_DG (w : xj_W) : Prop := xm_at w 0 0 0 ∧ (∀ q, 1 ≤ q → q ≤ 10 → xm_at w q 0 0) ∧ (∀ j, j < 4 → xm_DR w j) ∧ ∀ j, j < 2 → xm_at w 19 j 0 ∧ xm_at w 20 j 0
theorem c_G_init (l : Launch) (G : xj_G) (w : xj_W) (hn : w.2.2 = 1) (hZ : xj_Z w) (h0 : ∀ x, w.1.1 0 0 0 x = 0 ∧ w.1.2 0 0 0 x = 0 ∧ w.2.1 0 0 0 x = none) : xj_Mx l G 3 64 90 3936 m_G_init [.ref (xj_ad G (0, 0, 0))] w (xm_post w 91 (fun k _ _ => k ≤ 20) xm_DG) := by
  refine xj_Mx_of (by decide) (Nat.le_of_ble_eq_true rfl) (fun E hE C hnm => ?_)
  subst hE
  replace C : xj_C E G prog_1_method_1_code "ThreePhaseGroup" 2 3 64 _ _ none := C
  show xj_X E G _ 0 0 0 [some (.ref (xj_ad G (0, 0, 0))), none] [] w
  have z1 := fun x => hZ.at xj_ok1 (show w.2.2 ≤ 1 by omega) x
  refine xj_aload_n C a_G_init_0 rfl ?_
  refine xj_oinit C a_G_init_1 ol_G ol_i ol_c ⟨by decide, by decide⟩ rfl (by decide) ?_
  refine xj_aload_n C a_G_init_4 rfl ?_
  refine xj_new (k := 1) (r := 0) (i := 0) C a_G_init_5 cf_B cw_G_9 iw_B nw_B ⟨rfl, rfl, rfl⟩ dv_B (xj_pn xj_ok1 (show w.2.2 + 0 = 1 by omega)) hZ ⟨by decide, by decide⟩ ?_
  have hz1 := hZ.n1
  refine xj_dup C a_G_init_8 rfl ?_
  refine xj_callI0 C a_G_init_9 rfl (c_B_init _ _ _ (show w.2.2 + 1 = 2 by omega) hz1 (fun x => z1 x)) mi_B_init lk_G_11 ⟨by decide, by decide⟩ rfl (Nat.le_of_ble_eq_true rfl) (by decide) (fun a' w1 hres => ?_)
  obtain ⟨rfl, n1, hZ1, f1, d1⟩ := hres
  have f1' : ∀ k r' i' x, ¬ (1 ≤ k ∧ k ≤ 7 ∧ r' = 0 ∧ i' = 0) → w1.1.1 k r' i' x = w.1.1 k r' i' x ∧ w1.1.2 k r' i' x = w.1.2 k r' i' x ∧ w1.2.1 k r' i' x = w.2.1 k r' i' x := f1
  have z8 := fun x => hZ1.at xj_ok8 (show w1.2.2 ≤ 8 by omega) x
  have z9 := fun x => hZ1.at xj_ok9 (show w1.2.2 ≤ 9 by omega) x
  have z10 := fun x => hZ1.at xj_ok10 (show w1.2.2 ≤ 10 by omega) x
  have b0 : ∀ x, w1.1.1 0 0 0 x = 0 ∧ w1.1.2 0 0 0 x = 0 ∧ w1.2.1 0 0 0 x = none := fun x => by
    obtain ⟨g1, g2, g3⟩ := f1' 0 0 0 x (by omega)
    rw [g1, g2, g3]
    exact h0 x
  refine xj_pK (x := 0) (p2 := (1, 0, 0)) C a_G_init_12 cf_G fw_G_12 ⟨rfl, rfl, rfl⟩ (by decide) rfl (xj_okn xj_ok0 (show 0 < w1.2.2 + 0 by omega)) ⟨rfl, rfl⟩ hnm (fun _ => ⟨rfl, rfl⟩) ?_
  have hz2 := hZ1.uK (k := 0) (r := 0) (i := 0) (x := 0) (y := some (1, 0, 0)) (xj_okn xj_ok0 (show 0 < w1.2.2 + 0 by omega))
  refine xj_aload_n C a_G_init_15 rfl ?_
  refine xj_iconst (v := nI 4) C a_G_init_16 (by decide) ?_
  refine xj_newK (k := 8) (r := 0) (i := 0) C a_G_init_17 cw_G_16 ow_R ⟨rfl, by decide, rfl, rfl⟩ (xj_pn xj_ok8 (show w1.2.2 + 0 = 8 by omega)) hz2 (by decide) ?_
  have hz3 := hz2.n1
  refine xj_pK (x := 1) (p2 := (8, 0, 0)) C a_G_init_20 cf_G fw_G_18 ⟨rfl, rfl, rfl⟩ (by decide) rfl (xj_okn xj_ok0 (show 0 < w1.2.2 + 1 by omega)) ⟨rfl, rfl⟩ hnm (fun _ => ⟨rfl, rfl⟩) ?_
  have hz4 := hz3.uK (k := 0) (r := 0) (i := 0) (x := 1) (y := some (8, 0, 0)) (xj_okn xj_ok0 (show 0 < w1.2.2 + 1 by omega))
  refine xj_aload_n C a_G_init_23 rfl ?_
  refine xj_iconst (v := nI 2) C a_G_init_24 (by decide) ?_
  refine xj_newK (k := 9) (r := 0) (i := 0) C a_G_init_25 cw_G_22 ow_C ⟨rfl, by decide, rfl, rfl⟩ (xj_pn xj_ok9 (show w1.2.2 + 1 = 9 by omega)) hz4 (by decide) ?_
  have hz5 := hz4.n1
  refine xj_pK (x := 2) (p2 := (9, 0, 0)) C a_G_init_28 cf_G fw_G_24 ⟨rfl, rfl, rfl⟩ (by decide) rfl (xj_okn xj_ok0 (show 0 < w1.2.2 + 2 by omega)) ⟨rfl, rfl⟩ hnm (fun _ => ⟨rfl, rfl⟩) ?_
  have hz6 := hz5.uK (k := 0) (r := 0) (i := 0) (x := 2) (y := some (9, 0, 0)) (xj_okn xj_ok0 (show 0 < w1.2.2 + 2 by omega))
  refine xj_aload_n C a_G_init_31 rfl ?_
  refine xj_bipush (v := nI 6) C a_G_init_32 (by decide) ?_
  refine xj_newI (k := 10) (r := 0) (i := 0) C a_G_init_34 ⟨rfl, by decide⟩ (xj_pn xj_ok10 (show w1.2.2 + 2 = 10 by omega)) hz6 (by decide) ?_
  have hz7 := hz6.n1
  refine xj_pK (x := 3) (p2 := (10, 0, 0)) C a_G_init_36 cf_G fw_G_28 ⟨rfl, rfl, rfl⟩ (by decide) rfl (xj_okn xj_ok0 (show 0 < w1.2.2 + 3 by omega)) ⟨rfl, rfl⟩ hnm (fun _ => ⟨rfl, rfl⟩) ?_
  have hz8 := hz7.uK (k := 0) (r := 0) (i := 0) (x := 3) (y := some (10, 0, 0)) (xj_okn xj_ok0 (show 0 < w1.2.2 + 3 by omega))
  refine xj_aload_n C a_G_init_39 rfl ?_
  refine xj_bipush (v := -2) C a_G_init_40 (by decide) ?_
  refine xj_pI (x := 4) C a_G_init_42 cf_G fw_G_32 ⟨rfl, rfl, rfl⟩ (by decide) rfl (xj_okn xj_ok0 (show 0 < w1.2.2 + 3 by omega)) (Or.inl rfl) hnm ⟨rfl, rfl⟩ ?_
  have hz9 := hz8.uI (k := 0) (r := 0) (i := 0) (x := 4) (y := -2) (xj_okn xj_ok0 (show 0 < w1.2.2 + 3 by omega))
  refine xj_iconst (v := nI 0) C a_G_init_45 (by decide) ?_
  refine xj_istore1 C a_G_init_46 rfl ?_
  obtain ⟨w3, hw3⟩ : ∃ w3, w3 = xj_uI (xj_uK (xj_n1 (xj_uK (xj_n1 (xj_uK (xj_n1 (xj_uK w1 0 0 0 0 (some (1, 0, 0)))) 0 0 0 1 (some (8, 0, 0)))) 0 0 0 2 (some (9, 0, 0)))) 0 0 0 3 (some (10, 0, 0))) 0 0 0 4 (-2) := ⟨_, rfl⟩
  rw [← hw3]
  have I3 : ∀ k r' i' x, ¬ (k = 0 ∧ r' = 0 ∧ i' = 0) → w3.1.1 k r' i' x = w1.1.1 k r' i' x ∧ w3.1.2 k r' i' x = w1.1.2 k r' i' x ∧ w3.2.1 k r' i' x = w1.2.1 k r' i' x := by
    intro k r' i' x hk
    rw [hw3]
    refine ⟨?_, rfl, ?_⟩
    · show (if k = 0 ∧ r' = 0 ∧ i' = 0 ∧ x = 4 then _ else w1.1.1 k r' i' x) = _
      rw [if_neg (by omega)]
    · show (if k = 0 ∧ r' = 0 ∧ i' = 0 ∧ x = 3 then _ else if k = 0 ∧ r' = 0 ∧ i' = 0 ∧ x = 2 then _ else if k = 0 ∧ r' = 0 ∧ i' = 0 ∧ x = 1 then _ else if k = 0 ∧ r' = 0 ∧ i' = 0 ∧ x = 0 then _ else w1.2.1 k r' i' x) = _
      rw [if_neg (by omega), if_neg (by omega), if_neg (by omega), if_neg (by omega)]
  have A0 : xm_at w3 0 0 0 := by
    rw [hw3]
    intro x hx
    have hx : x < 5 := hx
    obtain ⟨g1, g2, g3⟩ := b0 x
    rcases (show x = 0 ∨ x = 1 ∨ x = 2 ∨ x = 3 ∨ x = 4 by omega) with rfl | rfl | rfl | rfl | rfl
    · exact ⟨by simpa [xj_uI, xj_uJ, xj_uK, xj_n1, xm_I] using g1, by simpa [xj_uI, xj_uJ, xj_uK, xj_n1, xm_J] using g2, fun _ => by simp [xj_uI, xj_uJ, xj_uK, xj_n1, xj_K0]⟩
    · exact ⟨by simpa [xj_uI, xj_uJ, xj_uK, xj_n1, xm_I] using g1, by simpa [xj_uI, xj_uJ, xj_uK, xj_n1, xm_J] using g2, fun _ => by simp [xj_uI, xj_uJ, xj_uK, xj_n1, xj_K0]⟩
    · exact ⟨by simpa [xj_uI, xj_uJ, xj_uK, xj_n1, xm_I] using g1, by simpa [xj_uI, xj_uJ, xj_uK, xj_n1, xm_J] using g2, fun _ => by simp [xj_uI, xj_uJ, xj_uK, xj_n1, xj_K0]⟩
    · exact ⟨by simpa [xj_uI, xj_uJ, xj_uK, xj_n1, xm_I] using g1, by simpa [xj_uI, xj_uJ, xj_uK, xj_n1, xm_J] using g2, fun _ => by simp [xj_uI, xj_uJ, xj_uK, xj_n1, xj_K0]⟩
    · exact ⟨by simp [xj_uI, xj_uJ, xj_uK, xj_n1, xm_I], by simpa [xj_uI, xj_uJ, xj_uK, xj_n1, xm_J] using g2, fun h => absurd h (by decide)⟩
  have G0 : xm_G w 0 0 w3 := by
    refine ⟨by rw [hw3]; show w1.2.2 + 3 = _; omega, by rw [hw3]; exact hz9, fun k r' i' x hk => ?_, A0, fun q h1 h7 => (d1 q h1 h7).same (fun x => I3 q 0 0 x (by omega)), fun x hx => ?_, fun x => ?_, fun j hj => absurd hj (Nat.not_lt_zero j), fun j hj => absurd hj (Nat.not_lt_zero j), fun j hj => absurd hj (Nat.not_lt_zero j), fun j hj => absurd hj (Nat.not_lt_zero j)⟩
    · obtain ⟨g1, g2, g3⟩ := I3 k r' i' x (by omega)
      rw [g1, g2, g3]
      exact f1' k r' i' x (by omega)
    · obtain ⟨g1, g2, g3⟩ := I3 10 0 0 x (by omega)
      rw [g1, g2, g3]
      exact ⟨(z10 x).1, (z10 x).2.1, fun h => xm_nr (by decide) (by decide) h⟩
    · obtain ⟨g1, g2, g3⟩ := I3 8 0 0 x (by omega)
      obtain ⟨g4, g5, g6⟩ := I3 9 0 0 x (by omega)
      rw [g1, g2, g4, g5]
      exact ⟨⟨(z8 x).1, (z8 x).2.1⟩, (z9 x).1, (z9 x).2.1⟩
  have loop2 : ∀ (n k : Nat) (wc : xj_W), k ≤ 2 → 2 - k < n → xm_G w 4 k wc → xj_X E G (xj_R E G (xm_post w 91 (fun k _ _ => k ≤ 20) xm_DG) 90 3936) (86 + 2 * k) (3916 + 10 * k) 78 [some (.ref (xj_ad G (0, 0, 0))), some (.int (nI k))] [] wc := by
    intro n
    induction n with
    | zero => intro k wc _ h; omega
    | succ n ih =>
      intro k wc hk hn2 hG
      obtain ⟨m1, m2, m3, m4, m5, m6, m7, m8, m9, mA, mB⟩ := hG
      refine xj_iload_n C a_G_init_78 rfl ?_
      refine xj_iconst (v := nI 2) C a_G_init_79 (by decide) ?_
      refine xj_icmp_ge C a_G_init_80 rfl (fun h80 => ?_) (fun h80 => ?_)
      · rw [nI_leI (by omega) (by omega)] at h80
        have : k = 2 := by omega
        subst this
        refine xj_vret C a_G_init_107 ?_
        refine ⟨rfl, by omega, m2, m3, m4, fun q h1 h10 => ?_, mA, mB⟩
        rcases (show q ≤ 7 ∨ q = 8 ∨ q = 9 ∨ q = 10 by omega) with h | rfl | rfl | rfl
        · exact m5 q h1 h
        · intro x hx
          have hx : x < 4 := hx
          exact ⟨(m7 x).1.1, (m7 x).1.2, fun _ => by rw [m8 x hx]; simp [xj_K0, hx]⟩
        · intro x hx
          have hx : x < 2 := hx
          exact ⟨(m7 x).2.1, (m7 x).2.2, fun _ => by rw [m9 x hx]; simp [xj_K0, hx]⟩
        · exact m6
      · rw [nI_leI (by omega) (by omega)] at h80
        have hk2 : k < 2 := by omega
        have kv : wc.2.1 0 0 0 2 = some (9, 0, 0) := (m4 2 (by decide)).2.2 (Or.inr ⟨rfl, rfl⟩)
        have kb : wc.2.1 0 0 0 0 = some (1, 0, 0) := (m4 0 (by decide)).2.2 (Or.inr ⟨rfl, rfl⟩)
        have zs := fun x => m2.at (xj_ok19 hk2) (show wc.2.2 ≤ 87 + 2 * k by omega) x
        refine xj_aload_n C a_G_init_83 rfl ?_
        refine xj_gK (x := 2) (p2 := (9, 0, 0)) C a_G_init_84 cf_G fl_G_24 ⟨rfl, rfl, rfl⟩ (by decide) rfl (xj_okn xj_ok0 (show 0 < wc.2.2 + 0 by omega)) kv ?_
        refine xj_iload_n C a_G_init_87 rfl ?_
        refine xj_new (k := 19) (r := k) (i := 0) C a_G_init_88 cf_C cw_G_22 iw_C nw_C ⟨rfl, rfl, rfl⟩ dv_C (xj_pn (xj_ok19 (by first | assumption | omega)) (show wc.2.2 + 0 = 87 + 2 * k by omega)) m2 ⟨by omega, by omega⟩ ?_
        have hz10 := m2.n1
        refine xj_dup C a_G_init_91 rfl ?_
        refine xj_iload_n C a_G_init_92 rfl ?_
        refine xj_aload_n C a_G_init_93 rfl ?_
        refine xj_gK (x := 0) (p2 := (1, 0, 0)) C a_G_init_94 cf_G fl_G_12 ⟨rfl, rfl, rfl⟩ (by decide) rfl (xj_okn xj_ok0 (show 0 < wc.2.2 + 1 by omega)) kb ?_
        refine xj_callI2 C a_G_init_97 rfl (c_C_init _ _ _ k hk2 (show wc.2.2 + 1 = 88 + 2 * k by omega) m2.n1 zs) mi_C_init lk_G_39 ⟨by decide, by decide⟩ rfl (Nat.le_of_ble_eq_true rfl) ⟨by omega, by omega⟩ (fun a' w5 hres => ?_)
        obtain ⟨rfl, n5, hZ5, f5, q19, q20⟩ := hres
        have f5' : ∀ k' r' i' x, ¬ ((k' = 19 ∨ k' = 20) ∧ r' = k ∧ i' = 0) → w5.1.1 k' r' i' x = wc.1.1 k' r' i' x ∧ w5.1.2 k' r' i' x = wc.1.2 k' r' i' x ∧ w5.2.1 k' r' i' x = wc.2.1 k' r' i' x := f5
        refine xj_aast (k := 9) C a_G_init_100 ⟨rfl, rfl, rfl⟩ ⟨rfl, rfl, rfl⟩ (xj_okn xj_ok9 (show 9 < w5.2.2 + 0 by omega)) (xj_okn (xj_ok19 (by first | assumption | omega)) (show 87 + 2 * k < w5.2.2 + 0 by omega)) (by show _ < 2; omega) (by omega) ?_
        have hz11 := hZ5.uK (k := 9) (r := 0) (i := 0) (x := k) (y := some (19, k, 0)) (xj_okn xj_ok9 (show 9 < w5.2.2 + 0 by omega))
        have u6 : ∀ k' r' i' x, ¬ (k' = 9 ∧ r' = 0 ∧ i' = 0) → (xj_uK w5 9 0 0 k (some (19, k, 0))).1.1 k' r' i' x = w5.1.1 k' r' i' x ∧ (xj_uK w5 9 0 0 k (some (19, k, 0))).1.2 k' r' i' x = w5.1.2 k' r' i' x ∧ (xj_uK w5 9 0 0 k (some (19, k, 0))).2.1 k' r' i' x = w5.2.1 k' r' i' x := by
          intro k' r' i' x hk
          refine ⟨rfl, rfl, ?_⟩
          show (if k' = 9 ∧ r' = 0 ∧ i' = 0 ∧ x = k then _ else _) = _
          rw [if_neg (by omega)]
        have u7 : ∀ k' r' i' x, ¬ (k' = 9 ∧ r' = 0 ∧ i' = 0) → ¬ ((k' = 19 ∨ k' = 20) ∧ r' = k ∧ i' = 0) → (xj_uK w5 9 0 0 k (some (19, k, 0))).1.1 k' r' i' x = wc.1.1 k' r' i' x ∧ (xj_uK w5 9 0 0 k (some (19, k, 0))).1.2 k' r' i' x = wc.1.2 k' r' i' x ∧ (xj_uK w5 9 0 0 k (some (19, k, 0))).2.1 k' r' i' x = wc.2.1 k' r' i' x := by
          intro k' r' i' x h1 h2
          obtain ⟨g1, g2, g3⟩ := u6 k' r' i' x h1
          obtain ⟨g4, g5, g6⟩ := f5' k' r' i' x h2
          rw [g1, g2, g3]
          exact ⟨g4, g5, g6⟩
        refine xj_iincN1 C a_G_init_101 rfl ?_
        refine xj_goto C a_G_init_104 rfl ?_
        refine xj_cs (show 86 + 2 * k + 1 + 1 = 86 + 2 * (k + 1) by omega) (show 3916 + 10 * k + 6 + 4 = 3916 + 10 * (k + 1) by omega) ?_
        refine ih (k + 1) _ (by omega) (by omega) ⟨by show w5.2.2 = _; omega, hz11, fun k' r' i' x hk => ?_, m4.same (fun x => u7 0 0 0 x (by omega) (by omega)), fun q h1 h7 => (m5 q h1 h7).same (fun x => u7 q 0 0 x (by omega) (by omega)), m6.same (fun x => u7 10 0 0 x (by omega) (by omega)), fun x => ?_, fun j hj => ?_, fun j hj => ?_, fun j hj => (mA j hj).same (fun k' i x h1 h2 => u7 k' j i x (by omega) (by omega)), fun j hj => ?_⟩
        · obtain ⟨g1, g2, g3⟩ := u7 k' r' i' x (by omega) (by omega)
          rw [g1, g2, g3]
          exact m3 k' r' i' x hk
        · obtain ⟨g1, g2, g3⟩ := u7 8 0 0 x (by omega) (by omega)
          obtain ⟨g4, g5, g6⟩ := f5' 9 0 0 x (by omega)
          refine ⟨by rw [g1, g2]; exact (m7 x).1, ?_, ?_⟩
          · show w5.1.1 9 0 0 x = 0
            rw [g4]; exact (m7 x).2.1
          · show w5.1.2 9 0 0 x = 0
            rw [g5]; exact (m7 x).2.2
        · rw [(u7 8 0 0 j (by omega) (by omega)).2.2]
          exact m8 j hj
        · show (if 9 = 9 ∧ 0 = 0 ∧ 0 = 0 ∧ j = k then some (19, k, 0) else w5.2.1 9 0 0 j) = _
          by_cases e : j = k
          · rw [if_pos ⟨rfl, rfl, rfl, e⟩, e]
          · rw [if_neg (by omega), (f5' 9 0 0 j (by omega)).2.2]
            exact m9 j (by omega)
        · by_cases e : j = k
          · subst e
            exact ⟨q19.same (fun x => u6 19 j 0 x (by omega)), q20.same (fun x => u6 20 j 0 x (by omega))⟩
          · obtain ⟨g1, g2⟩ := mB j (by omega)
            exact ⟨g1.same (fun x => u7 19 j 0 x (by omega) (by omega)), g2.same (fun x => u7 20 j 0 x (by omega) (by omega))⟩
  have loop1 : ∀ (n r : Nat) (wc : xj_W), r ≤ 4 → 4 - r < n → xm_G w r 0 wc → xj_X E G (xj_R E G (xm_post w 91 (fun k _ _ => k ≤ 20) xm_DG) 90 3936) (10 + 19 * r) (1556 + 590 * r) 47 [some (.ref (xj_ad G (0, 0, 0))), some (.int (nI r))] [] wc := by
    intro n
    induction n with
    | zero => intro r wc _ h; omega
    | succ n ih =>
      intro r wc hr hn2 hG
      refine xj_iload_n C a_G_init_47 rfl ?_
      refine xj_iconst (v := nI 4) C a_G_init_48 (by decide) ?_
      refine xj_icmp_ge C a_G_init_49 rfl (fun h49 => ?_) (fun h49 => ?_)
      · rw [nI_leI (by omega) (by omega)] at h49
        have : r = 4 := by omega
        subst this
        refine xj_iconst (v := nI 0) C a_G_init_76 (by decide) ?_
        refine xj_istore1 C a_G_init_77 rfl ?_
        exact loop2 3 0 wc (by omega) (by omega) hG
      · rw [nI_leI (by omega) (by omega)] at h49
        obtain ⟨m1, m2, m3, m4, m5, m6, m7, m8, m9, mA, mB⟩ := hG
        have hr4 : r < 4 := by omega
        have kv : wc.2.1 0 0 0 1 = some (8, 0, 0) := (m4 1 (by decide)).2.2 (Or.inr ⟨rfl, rfl⟩)
        have kb : wc.2.1 0 0 0 0 = some (1, 0, 0) := (m4 0 (by decide)).2.2 (Or.inr ⟨rfl, rfl⟩)
        have zs := fun x => m2.at (xj_ok11 hr4) (show wc.2.2 ≤ 11 + 19 * r by omega) x
        refine xj_aload_n C a_G_init_52 rfl ?_
        refine xj_gK (x := 1) (p2 := (8, 0, 0)) C a_G_init_53 cf_G fl_G_18 ⟨rfl, rfl, rfl⟩ (by decide) rfl (xj_okn xj_ok0 (show 0 < wc.2.2 + 0 by omega)) kv ?_
        refine xj_iload_n C a_G_init_56 rfl ?_
        refine xj_new (k := 11) (r := r) (i := 0) C a_G_init_57 cf_R cw_G_16 iw_R nw_R ⟨rfl, rfl, rfl⟩ dv_R (xj_pn (xj_ok11 (by first | assumption | omega)) (show wc.2.2 + 0 = 11 + 19 * r by omega)) m2 ⟨by omega, by omega⟩ ?_
        have hz12 := m2.n1
        refine xj_dup C a_G_init_60 rfl ?_
        refine xj_iload_n C a_G_init_61 rfl ?_
        refine xj_aload_n C a_G_init_62 rfl ?_
        refine xj_gK (x := 0) (p2 := (1, 0, 0)) C a_G_init_63 cf_G fl_G_12 ⟨rfl, rfl, rfl⟩ (by decide) rfl (xj_okn xj_ok0 (show 0 < wc.2.2 + 1 by omega)) kb ?_
        refine xj_callI2 C a_G_init_66 rfl (c_R_init _ _ _ r hr4 (show wc.2.2 + 1 = 12 + 19 * r by omega) m2.n1 zs) mi_R_init lk_G_36 ⟨by decide, by decide⟩ rfl (Nat.le_of_ble_eq_true rfl) ⟨by omega, by omega⟩ (fun a' w5 hres => ?_)
        obtain ⟨rfl, n5, hZ5, f5, q5⟩ := hres
        have f5' : ∀ k' r' i' x, ¬ (11 ≤ k' ∧ k' ≤ 18 ∧ r' = r) → w5.1.1 k' r' i' x = wc.1.1 k' r' i' x ∧ w5.1.2 k' r' i' x = wc.1.2 k' r' i' x ∧ w5.2.1 k' r' i' x = wc.2.1 k' r' i' x := f5
        refine xj_aast (k := 8) C a_G_init_69 ⟨rfl, rfl, rfl⟩ ⟨rfl, rfl, rfl⟩ (xj_okn xj_ok8 (show 8 < w5.2.2 + 0 by omega)) (xj_okn (xj_ok11 (by first | assumption | omega)) (show 11 + 19 * r < w5.2.2 + 0 by omega)) (by show _ < 4; omega) (by omega) ?_
        have hz13 := hZ5.uK (k := 8) (r := 0) (i := 0) (x := r) (y := some (11, r, 0)) (xj_okn xj_ok8 (show 8 < w5.2.2 + 0 by omega))
        have u6 : ∀ k' r' i' x, ¬ (k' = 8 ∧ r' = 0 ∧ i' = 0) → (xj_uK w5 8 0 0 r (some (11, r, 0))).1.1 k' r' i' x = w5.1.1 k' r' i' x ∧ (xj_uK w5 8 0 0 r (some (11, r, 0))).1.2 k' r' i' x = w5.1.2 k' r' i' x ∧ (xj_uK w5 8 0 0 r (some (11, r, 0))).2.1 k' r' i' x = w5.2.1 k' r' i' x := by
          intro k' r' i' x hk
          refine ⟨rfl, rfl, ?_⟩
          show (if k' = 8 ∧ r' = 0 ∧ i' = 0 ∧ x = r then _ else _) = _
          rw [if_neg (by omega)]
        have u7 : ∀ k' r' i' x, ¬ (k' = 8 ∧ r' = 0 ∧ i' = 0) → ¬ (11 ≤ k' ∧ k' ≤ 18 ∧ r' = r) → (xj_uK w5 8 0 0 r (some (11, r, 0))).1.1 k' r' i' x = wc.1.1 k' r' i' x ∧ (xj_uK w5 8 0 0 r (some (11, r, 0))).1.2 k' r' i' x = wc.1.2 k' r' i' x ∧ (xj_uK w5 8 0 0 r (some (11, r, 0))).2.1 k' r' i' x = wc.2.1 k' r' i' x := by
          intro k' r' i' x h1 h2
          obtain ⟨g1, g2, g3⟩ := u6 k' r' i' x h1
          obtain ⟨g4, g5, g6⟩ := f5' k' r' i' x h2
          rw [g1, g2, g3]
          exact ⟨g4, g5, g6⟩
        refine xj_iincN1 C a_G_init_70 rfl ?_
        refine xj_goto C a_G_init_73 rfl ?_
        refine xj_cs (show 10 + 19 * r + 1 + 18 = 10 + 19 * (r + 1) by omega) (show 1556 + 590 * r + 14 + 576 = 1556 + 590 * (r + 1) by omega) ?_
        refine ih (r + 1) _ (by omega) (by omega) ⟨by show w5.2.2 = _; omega, hz13, fun k' r' i' x hk => ?_, m4.same (fun x => u7 0 0 0 x (by omega) (by omega)), fun q h1 h7 => (m5 q h1 h7).same (fun x => u7 q 0 0 x (by omega) (by omega)), m6.same (fun x => u7 10 0 0 x (by omega) (by omega)), fun x => ?_, fun j hj => ?_, fun j hj => absurd hj (Nat.not_lt_zero j), fun j hj => ?_, fun j hj => absurd hj (Nat.not_lt_zero j)⟩
        · obtain ⟨g1, g2, g3⟩ := u7 k' r' i' x (by omega) (by omega)
          rw [g1, g2, g3]
          exact m3 k' r' i' x hk
        · obtain ⟨g1, g2, g3⟩ := u7 9 0 0 x (by omega) (by omega)
          obtain ⟨g4, g5, g6⟩ := f5' 8 0 0 x (by omega)
          refine ⟨⟨?_, ?_⟩, by rw [g1, g2]; exact (m7 x).2⟩
          · show w5.1.1 8 0 0 x = 0
            rw [g4]; exact (m7 x).1.1
          · show w5.1.2 8 0 0 x = 0
            rw [g5]; exact (m7 x).1.2
        · show (if 8 = 8 ∧ 0 = 0 ∧ 0 = 0 ∧ j = r then some (11, r, 0) else w5.2.1 8 0 0 j) = _
          by_cases e : j = r
          · rw [if_pos ⟨rfl, rfl, rfl, e⟩, e]
          · rw [if_neg (by omega), (f5' 8 0 0 j (by omega)).2.2]
            exact m8 j (by omega)
        · by_cases e : j = r
          · subst e
            exact xm_DR.same (w := w5) q5 (fun k' i x h1 h2 => u6 k' j i x (by omega))
          · exact (mA j (by omega)).same (fun k' i x h1 h2 => u7 k' j i x (by omega) (by omega))
  exact loop1 5 0 w3 (by omega) (by omega) G0
