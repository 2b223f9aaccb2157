/-! the constructors of slots and clients -/
def xm_fg (w : xj_W) (r i s : Nat) : xj_W := ((fun k r' i' x => if k = 13 ∧ r' = r ∧ i' = i ∧ x = 2 then -2 else w.1.1 k r' i' x, fun k r' i' x => if (k = 14 ∨ k = 15) ∧ r' = r ∧ i' = i ∧ x < s then 1099511627776 else w.1.2 k r' i' x), w.2)
theorem xm_fg_0 (w : xj_W) (r i : Nat) : xj_uI w 13 r i 2 (-2) = xm_fg w r i 0 := by
  unfold xm_fg xj_uI
  congr 2
  funext k r' i' x
  simp
theorem xm_fg_s (w : xj_W) (r i s : Nat) : xj_uJ (xj_uJ (xm_fg w r i s) 14 r i s 1099511627776) 15 r i s 1099511627776 = xm_fg w r i (s + 1) := by
  unfold xm_fg xj_uJ
  congr 2
  funext k r' i' x
  show (if k = 15 ∧ r' = r ∧ i' = i ∧ x = s then _ else if k = 14 ∧ r' = r ∧ i' = i ∧ x = s then _ else if (k = 14 ∨ k = 15) ∧ r' = r ∧ i' = i ∧ x < s then _ else _) = (if (k = 14 ∨ k = 15) ∧ r' = r ∧ i' = i ∧ x < s + 1 then _ else _)
  by_cases h : (k = 14 ∨ k = 15) ∧ r' = r ∧ i' = i ∧ x < s + 1
  · rw [if_pos h]
    by_cases h1 : k = 15 ∧ r' = r ∧ i' = i ∧ x = s
    · rw [if_pos h1]
    rw [if_neg h1]
    by_cases h2 : k = 14 ∧ r' = r ∧ i' = i ∧ x = s
    · rw [if_pos h2]
    rw [if_neg h2, if_pos (by omega)]
  · rw [if_neg h, if_neg (by omega), if_neg (by omega), if_neg (by omega)]
theorem c_S_forgetView_g (l : Launch) (G : xj_G) (w : xj_W) (r i : Nat) (hr : r < 4) (hi : i < 4) (hn : 20 + 19 * r + 3 * i < w.2.2) (k0 : w.2.1 13 r i 0 = some (14, r, i)) (k1 : w.2.1 13 r i 1 = some (15, r, i)) : xj_Mx l G 0 0 0 0 m_S_forgetView [.ref (xj_ad G (13, r, i))] w (fun a' w' => a' = none ∧ w' = xm_fg w r i 4) := by
  refine xj_Mx_of (by decide) (Nat.le_of_ble_eq_true rfl) (fun E hE C _ => ?_)
  subst hE
  replace C : xj_C E G prog_7_method_2_code "ThreePhaseGroup$Slot" 2 0 0 _ _ none := C
  show xj_X E G _ 0 0 0 [some (.ref (xj_ad G (13, r, i))), none] [] w
  have ok13 : xj_ok (13, r, i) w.2.2 := xj_okn (xj_ok13 hr hi) (show 18 + 19 * r + 3 * i < w.2.2 by omega)
  have ok14 : xj_ok (14, r, i) w.2.2 := xj_okn (xj_ok14 hr hi) (show 19 + 19 * r + 3 * i < w.2.2 by omega)
  have ok15 : xj_ok (15, r, i) w.2.2 := xj_okn (xj_ok15 hr hi) (show 20 + 19 * r + 3 * i < w.2.2 by omega)
  have loop : ∀ n s : Nat, s ≤ 4 → 4 - s < n → xj_X E G (xj_R E G (fun a' w' => a' = none ∧ w' = xm_fg w r i 4) 0 0) 0 0 8 [some (.ref (xj_ad G (13, r, i))), some (.int (nI s))] [] (xm_fg w r i s) := by
    intro n
    induction n with
    | zero => intro s _ h; omega
    | succ n ih =>
      intro s hs hn2
      refine xj_iload_n C a_S_forgetView_8 rfl ?_
      refine xj_iconst (v := nI 4) C a_S_forgetView_9 (by decide) ?_
      refine xj_icmp_ge C a_S_forgetView_10 rfl (fun h10 => ?_) (fun h10 => ?_)
      · rw [nI_leI (by omega) (by omega)] at h10
        have : s = 4 := by omega
        subst this
        refine xj_vret C a_S_forgetView_37 ?_
        exact ⟨rfl, rfl⟩
      · rw [nI_leI (by omega) (by omega)] at h10
        refine xj_aload_n C a_S_forgetView_13 rfl ?_
        refine xj_gK (x := 0) (p2 := (14, r, i)) C a_S_forgetView_14 cf_S fl_S_9 ⟨rfl, rfl, rfl⟩ (by decide) rfl (xj_okn (xj_ok13 (by first | assumption | omega) (by first | assumption | omega)) (show 18 + 19 * r + 3 * i < w.2.2 + 0 by omega)) k0 ?_
        refine xj_iload_n C a_S_forgetView_17 rfl ?_
        refine xj_ldc2 C a_S_forgetView_18 kl_S_31 ?_
        refine xj_last (k := 14) (r := r) (i := i) C a_S_forgetView_21 rfl ok14 (vp_in_nI (show s < 4 by omega) (by decide)) ?_
        rw [nI_clamp (by omega)]
        refine xj_aload_n C a_S_forgetView_22 rfl ?_
        refine xj_gK (x := 1) (p2 := (15, r, i)) C a_S_forgetView_23 cf_S fl_S_15 ⟨rfl, rfl, rfl⟩ (by decide) rfl (xj_okn (xj_ok13 (by first | assumption | omega) (by first | assumption | omega)) (show 18 + 19 * r + 3 * i < w.2.2 + 0 by omega)) k1 ?_
        refine xj_iload_n C a_S_forgetView_26 rfl ?_
        refine xj_ldc2 C a_S_forgetView_27 kl_S_31 ?_
        refine xj_last (k := 15) (r := r) (i := i) C a_S_forgetView_30 rfl ok15 (vp_in_nI (show s < 4 by omega) (by decide)) ?_
        rw [nI_clamp (by omega), xm_fg_s]
        refine xj_iincN1 C a_S_forgetView_31 rfl ?_
        refine xj_goto C a_S_forgetView_34 rfl ?_
        exact ih (s + 1) (by omega) (by omega)
  refine xj_aload_n C a_S_forgetView_0 rfl ?_
  refine xj_bipush (v := -2) C a_S_forgetView_1 (by decide) ?_
  refine xj_put (x := 2) (w2 := xj_uI w 13 r i 2 (-2)) C a_S_forgetView_3 cf_S (Or.inl fw_S_28) ⟨rfl, rfl, rfl⟩ (by decide) ok13 (Or.inl rfl) rfl rfl (xj_setI rfl (by decide) rfl) rfl xj_uI_oth ?_
  rw [xm_fg_0]
  refine xj_iconst (v := nI 0) C a_S_forgetView_6 (by decide) ?_
  refine xj_istore1 C a_S_forgetView_7 rfl ?_
  exact loop 5 0 (by omega) (by omega)
theorem c_S_init (l : Launch) (G : xj_G) (w : xj_W) (r i : Nat) (hr : r < 4) (hi : i < 4) (hn : w.2.2 = 19 + 19 * r + 3 * i) (hZ : xj_Z w) (h0 : ∀ x, w.1.1 13 r i x = 0 ∧ w.1.2 13 r i x = 0 ∧ w.2.1 13 r i x = none) : xj_Mx l G 1 21 2 8 m_S_init [.ref (xj_ad G (13, r, i))] w (xm_post w (21 + 19 * r + 3 * i) (fun k r' i' => (k = 13 ∨ k = 14 ∨ k = 15) ∧ r' = r ∧ i' = i) (fun w' => xm_at w' 13 r i ∧ xm_at w' 14 r i ∧ xm_at w' 15 r i)) := by
  refine xj_Mx_of (by decide) (Nat.le_of_ble_eq_true rfl) (fun E hE C hnm => ?_)
  subst hE
  replace C : xj_C E G prog_7_method_1_code "ThreePhaseGroup$Slot" 1 1 21 _ _ none := C
  show xj_X E G _ 0 0 0 [some (.ref (xj_ad G (13, r, i)))] [] w
  have h14 : ∀ x, w.1.1 14 r i x = 0 ∧ w.1.2 14 r i x = 0 ∧ w.2.1 14 r i x = none := fun x => hZ _ _ _ _ (Nat.le_refl _) (xj_pn (xj_ok14 hr hi) (show w.2.2 = 19 + 19 * r + 3 * i by omega)) x
  have h15 : ∀ x, w.1.1 15 r i x = 0 ∧ w.1.2 15 r i x = 0 ∧ w.2.1 15 r i x = none := fun x => hZ (20 + 19 * r + 3 * i) _ _ _ (by omega) (by have := (xj_ok15 hr hi).1; exact this) x
  refine xj_aload_n C a_S_init_0 rfl ?_
  refine xj_oinit C a_S_init_1 ol_S ol_i ol_c ⟨by decide, by decide⟩ rfl (by decide) ?_
  refine xj_aload_n C a_S_init_4 rfl ?_
  refine xj_iconst (v := nI 4) C a_S_init_5 (by decide) ?_
  refine xj_newJ (k := 14) (r := r) (i := i) C a_S_init_6 ⟨rfl, by decide⟩ (xj_pn (xj_ok14 (by first | assumption | omega) (by first | assumption | omega)) (show w.2.2 + 0 = 19 + 19 * r + 3 * i by omega)) hZ (by decide) ?_
  have hz1 := hZ.n1
  refine xj_pK (x := 0) (p2 := (14, r, i)) C a_S_init_8 cf_S fw_S_9 ⟨rfl, rfl, rfl⟩ (by decide) rfl (xj_okn (xj_ok13 (by first | assumption | omega) (by first | assumption | omega)) (show 18 + 19 * r + 3 * i < w.2.2 + 1 by omega)) ⟨rfl, rfl⟩ hnm (fun _ => ⟨rfl, rfl⟩) ?_
  have hz2 := hz1.uK (k := 13) (r := r) (i := i) (x := 0) (y := some (14, r, i)) (xj_okn (xj_ok13 (by first | assumption | omega) (by first | assumption | omega)) (show 18 + 19 * r + 3 * i < w.2.2 + 1 by omega))
  refine xj_aload_n C a_S_init_11 rfl ?_
  refine xj_iconst (v := nI 4) C a_S_init_12 (by decide) ?_
  refine xj_newJ (k := 15) (r := r) (i := i) C a_S_init_13 ⟨rfl, by decide⟩ (xj_pn (xj_ok15 (by first | assumption | omega) (by first | assumption | omega)) (show w.2.2 + 1 = 20 + 19 * r + 3 * i by omega)) hz2 (by decide) ?_
  have hz3 := hz2.n1
  refine xj_pK (x := 1) (p2 := (15, r, i)) C a_S_init_15 cf_S fw_S_15 ⟨rfl, rfl, rfl⟩ (by decide) rfl (xj_okn (xj_ok13 (by first | assumption | omega) (by first | assumption | omega)) (show 18 + 19 * r + 3 * i < w.2.2 + 2 by omega)) ⟨rfl, rfl⟩ hnm (fun _ => ⟨rfl, rfl⟩) ?_
  have hz4 := hz3.uK (k := 13) (r := r) (i := i) (x := 1) (y := some (15, r, i)) (xj_okn (xj_ok13 (by first | assumption | omega) (by first | assumption | omega)) (show 18 + 19 * r + 3 * i < w.2.2 + 2 by omega))
  refine xj_aload_n C a_S_init_18 rfl ?_
  refine xj_bipush (v := -2) C a_S_init_19 (by decide) ?_
  refine xj_pI (x := 3) C a_S_init_21 cf_S fw_S_18 ⟨rfl, rfl, rfl⟩ (by decide) rfl (xj_okn (xj_ok13 (by first | assumption | omega) (by first | assumption | omega)) (show 18 + 19 * r + 3 * i < w.2.2 + 2 by omega)) (Or.inl rfl) hnm ⟨rfl, rfl⟩ ?_
  have hz5 := hz4.uI (k := 13) (r := r) (i := i) (x := 3) (y := -2) (xj_okn (xj_ok13 (by first | assumption | omega) (by first | assumption | omega)) (show 18 + 19 * r + 3 * i < w.2.2 + 2 by omega))
  refine xj_aload_n C a_S_init_24 rfl ?_
  refine xj_iconst (v := nI 0) C a_S_init_25 (by decide) ?_
  refine xj_pI (x := 4) C a_S_init_26 cf_S fw_S_22 ⟨rfl, rfl, rfl⟩ (by decide) rfl (xj_okn (xj_ok13 (by first | assumption | omega) (by first | assumption | omega)) (show 18 + 19 * r + 3 * i < w.2.2 + 2 by omega)) (Or.inl rfl) hnm ⟨rfl, rfl⟩ ?_
  have hz6 := hz5.uI (k := 13) (r := r) (i := i) (x := 4) (y := nI 0) (xj_okn (xj_ok13 (by first | assumption | omega) (by first | assumption | omega)) (show 18 + 19 * r + 3 * i < w.2.2 + 2 by omega))
  refine xj_aload_n C a_S_init_29 rfl ?_
  refine xj_callV0 C a_S_init_30 (c_S_forgetView_g _ _ _ r i hr hi (show 20 + 19 * r + 3 * i < w.2.2 + 2 by omega) (by simp [xj_uK, xj_uI, xj_n1]) (by simp [xj_uK, xj_uI, xj_n1])) mv_S_forgetView lk_S_25 ⟨rfl, rfl, rfl⟩ (xj_okn (xj_ok13 hr hi) (show 18 + 19 * r + 3 * i < w.2.2 + 2 by omega)) ⟨by decide, by decide⟩ rfl (Nat.le_of_ble_eq_true rfl) (by decide) (fun a' w' hres => ?_)
  obtain ⟨rfl, rfl⟩ := hres
  refine xj_vret C a_S_init_33 ?_
  refine ⟨rfl, by show w.2.2 + 2 = _; omega, ?_, fun k r' i' x hS => ?_, fun x hx => ?_, fun x hx => ?_, fun x hx => ?_⟩
  · intro q k r' i' hq hp x
    have hz := hz6 q k r' i' hq hp x
    have hq : w.2.2 + 2 ≤ q := hq
    have hix := xj_PL_ix q (k, r', i') hp
    have n13 : ¬ (k = 13 ∧ r' = r ∧ i' = i) := by
      rintro ⟨rfl, rfl, rfl⟩
      have : 18 + 19 * r' + 3 * i' = q := hix
      omega
    have n14 : ¬ (k = 14 ∧ r' = r ∧ i' = i) := by
      rintro ⟨rfl, rfl, rfl⟩
      have : 19 + 19 * r' + 3 * i' = q := hix
      omega
    have n15 : ¬ (k = 15 ∧ r' = r ∧ i' = i) := by
      rintro ⟨rfl, rfl, rfl⟩
      have : 20 + 19 * r' + 3 * i' = q := hix
      omega
    refine ⟨?_, ?_, hz.2.2⟩
    · show (if k = 13 ∧ r' = r ∧ i' = i ∧ x = 2 then _ else _) = _
      rw [if_neg (by omega)]
      exact hz.1
    · show (if (k = 14 ∨ k = 15) ∧ r' = r ∧ i' = i ∧ x < 4 then _ else _) = _
      rw [if_neg (by omega)]
      exact hz.2.1
  · have n13 : ¬ (k = 13 ∧ r' = r ∧ i' = i) := fun h => hS ⟨Or.inl h.1, h.2⟩
    have n14 : ¬ (k = 14 ∧ r' = r ∧ i' = i) := fun h => hS ⟨Or.inr (Or.inl h.1), h.2⟩
    have n15 : ¬ (k = 15 ∧ r' = r ∧ i' = i) := fun h => hS ⟨Or.inr (Or.inr h.1), h.2⟩
    refine ⟨?_, ?_, ?_⟩
    · show (if k = 13 ∧ r' = r ∧ i' = i ∧ x = 2 then _ else if k = 13 ∧ r' = r ∧ i' = i ∧ x = 4 then _ else if k = 13 ∧ r' = r ∧ i' = i ∧ x = 3 then _ else w.1.1 k r' i' x) = _
      rw [if_neg (by omega), if_neg (by omega), if_neg (by omega)]
    · show (if (k = 14 ∨ k = 15) ∧ r' = r ∧ i' = i ∧ x < 4 then _ else w.1.2 k r' i' x) = _
      rw [if_neg (by omega)]
    · show (if k = 13 ∧ r' = r ∧ i' = i ∧ x = 1 then _ else if k = 13 ∧ r' = r ∧ i' = i ∧ x = 0 then _ else w.2.1 k r' i' x) = _
      rw [if_neg (by omega), if_neg (by omega)]
  · match x, hx with
    | 0, _ => exact ⟨by simpa [xm_fg, xj_uI, xj_uK, xj_n1, xm_I] using (h0 0).1, by simpa [xm_fg, xj_uI, xj_uK, xj_n1, xm_J] using (h0 0).2.1, fun _ => by simp [xm_fg, xj_uI, xj_uK, xj_n1, xj_K0]⟩
    | 1, _ => exact ⟨by simpa [xm_fg, xj_uI, xj_uK, xj_n1, xm_I] using (h0 1).1, by simpa [xm_fg, xj_uI, xj_uK, xj_n1, xm_J] using (h0 1).2.1, fun _ => by simp [xm_fg, xj_uI, xj_uK, xj_n1, xj_K0]⟩
    | 2, _ => exact ⟨by simp [xm_fg, xm_I], by simpa [xm_fg, xj_uI, xj_uK, xj_n1, xm_J] using (h0 2).2.1, fun h => absurd h (by decide)⟩
    | 3, _ => exact ⟨by simp [xm_fg, xj_uI, xm_I], by simpa [xm_fg, xj_uI, xj_uK, xj_n1, xm_J] using (h0 3).2.1, fun h => absurd h (by decide)⟩
    | 4, _ => exact ⟨by simp [xm_fg, xj_uI, xm_I]; rfl, by simpa [xm_fg, xj_uI, xj_uK, xj_n1, xm_J] using (h0 4).2.1, fun h => absurd h (by decide)⟩
    | x + 5, h => exact absurd h (by show ¬ x + 5 < 5; omega)
  · have hx : x < 4 := hx
    exact ⟨by simpa [xm_fg, xj_uI, xj_uK, xj_n1, xm_I] using (h14 x).1, by simp [xm_fg, xm_J, hx], fun h => xm_nr (by decide) (by decide) h⟩
  · have hx : x < 4 := hx
    exact ⟨by simpa [xm_fg, xj_uI, xj_uK, xj_n1, xm_I] using (h15 x).1, by simp [xm_fg, xm_J, hx], fun h => xm_nr (by decide) (by decide) h⟩
theorem c_C_init (l : Launch) (G : xj_G) (w : xj_W) (r : Nat) (hr : r < 2) (hn : w.2.2 = 88 + 2 * r) (hZ : xj_Z w) (h0 : ∀ x, w.1.1 19 r 0 x = 0 ∧ w.1.2 19 r 0 x = 0 ∧ w.2.1 19 r 0 x = none) : xj_Mx l G 1 20 1 4 m_C_init [.ref (xj_ad G (19, r, 0)), .int (nI r), .ref (xj_ad G (1, 0, 0))] w (xm_post w (89 + 2 * r) (fun k r' i' => (k = 19 ∨ k = 20) ∧ r' = r ∧ i' = 0) (fun w' => xm_at w' 19 r 0 ∧ xm_at w' 20 r 0)) := by
  refine xj_Mx_of (by decide) (Nat.le_of_ble_eq_true rfl) (fun E hE C hnm => ?_)
  subst hE
  replace C : xj_C E G prog_3_method_1_code "ThreePhaseGroup$Client" 3 1 20 _ _ none := C
  show xj_X E G _ 0 0 0 [some (.ref (xj_ad G (19, r, 0))), some (.int (nI r)), some (.ref (xj_ad G (1, 0, 0)))] [] w
  have h20 : ∀ x, w.1.1 20 r 0 x = 0 ∧ w.1.2 20 r 0 x = 0 ∧ w.2.1 20 r 0 x = none := fun x => hZ _ _ _ _ (Nat.le_refl _) (xj_pn (xj_ok20 hr) (show w.2.2 = 88 + 2 * r by omega)) x
  refine xj_aload_n C a_C_init_0 rfl ?_
  refine xj_oinit C a_C_init_1 ol_C ol_i ol_c ⟨by decide, by decide⟩ rfl (by decide) ?_
  refine xj_aload_n C a_C_init_4 rfl ?_
  refine xj_iconst (v := nI 4) C a_C_init_5 (by decide) ?_
  refine xj_newJ (k := 20) (r := r) (i := 0) C a_C_init_6 ⟨rfl, by decide⟩ (xj_pn (xj_ok20 (by first | assumption | omega)) (show w.2.2 + 0 = 88 + 2 * r by omega)) hZ (by decide) ?_
  have hz1 := hZ.n1
  refine xj_pK (x := 2) (p2 := (20, r, 0)) C a_C_init_8 cf_C fw_C_9 ⟨rfl, rfl, rfl⟩ (by decide) rfl (xj_okn (xj_ok19 (by first | assumption | omega)) (show 87 + 2 * r < w.2.2 + 1 by omega)) ⟨rfl, rfl⟩ hnm (fun _ => ⟨rfl, rfl⟩) ?_
  have hz2 := hz1.uK (k := 19) (r := r) (i := 0) (x := 2) (y := some (20, r, 0)) (xj_okn (xj_ok19 (by first | assumption | omega)) (show 87 + 2 * r < w.2.2 + 1 by omega))
  refine xj_aload_n C a_C_init_11 rfl ?_
  refine xj_iconst (v := nI 0) C a_C_init_12 (by decide) ?_
  refine xj_pI (x := 3) C a_C_init_13 cf_C fw_C_15 ⟨rfl, rfl, rfl⟩ (by decide) rfl (xj_okn (xj_ok19 (by first | assumption | omega)) (show 87 + 2 * r < w.2.2 + 1 by omega)) (Or.inl rfl) hnm ⟨rfl, rfl⟩ ?_
  have hz3 := hz2.uI (k := 19) (r := r) (i := 0) (x := 3) (y := nI 0) (xj_okn (xj_ok19 (by first | assumption | omega)) (show 87 + 2 * r < w.2.2 + 1 by omega))
  refine xj_aload_n C a_C_init_16 rfl ?_
  refine xj_iconst (v := nI 0) C a_C_init_17 (by decide) ?_
  refine xj_pI (x := 4) C a_C_init_18 cf_C fw_C_19 ⟨rfl, rfl, rfl⟩ (by decide) rfl (xj_okn (xj_ok19 (by first | assumption | omega)) (show 87 + 2 * r < w.2.2 + 1 by omega)) (Or.inl rfl) hnm ⟨rfl, rfl⟩ ?_
  have hz4 := hz3.uI (k := 19) (r := r) (i := 0) (x := 4) (y := nI 0) (xj_okn (xj_ok19 (by first | assumption | omega)) (show 87 + 2 * r < w.2.2 + 1 by omega))
  refine xj_aload_n C a_C_init_21 rfl ?_
  refine xj_iconst (v := -1) C a_C_init_22 (by decide) ?_
  refine xj_pI (x := 5) C a_C_init_23 cf_C fw_C_22 ⟨rfl, rfl, rfl⟩ (by decide) rfl (xj_okn (xj_ok19 (by first | assumption | omega)) (show 87 + 2 * r < w.2.2 + 1 by omega)) (Or.inl rfl) hnm ⟨rfl, rfl⟩ ?_
  have hz5 := hz4.uI (k := 19) (r := r) (i := 0) (x := 5) (y := -1) (xj_okn (xj_ok19 (by first | assumption | omega)) (show 87 + 2 * r < w.2.2 + 1 by omega))
  refine xj_aload_n C a_C_init_26 rfl ?_
  refine xj_iload_n C a_C_init_27 rfl ?_
  refine xj_pI (x := 0) C a_C_init_28 cf_C fw_C_25 ⟨rfl, rfl, rfl⟩ (by decide) rfl (xj_okn (xj_ok19 (by first | assumption | omega)) (show 87 + 2 * r < w.2.2 + 1 by omega)) (Or.inr ⟨rfl, rfl⟩) hnm ⟨rfl, rfl⟩ ?_
  have hz6 := hz5.uI (k := 19) (r := r) (i := 0) (x := 0) (y := nI r) (xj_okn (xj_ok19 (by first | assumption | omega)) (show 87 + 2 * r < w.2.2 + 1 by omega))
  refine xj_aload_n C a_C_init_31 rfl ?_
  refine xj_aload_n C a_C_init_32 rfl ?_
  refine xj_pK (x := 1) (p2 := (1, 0, 0)) C a_C_init_33 cf_C fw_C_28 ⟨rfl, rfl, rfl⟩ (by decide) rfl (xj_okn (xj_ok19 (by first | assumption | omega)) (show 87 + 2 * r < w.2.2 + 1 by omega)) ⟨rfl, rfl⟩ hnm (fun _ => ⟨rfl, rfl⟩) ?_
  have hz7 := hz6.uK (k := 19) (r := r) (i := 0) (x := 1) (y := some (1, 0, 0)) (xj_okn (xj_ok19 (by first | assumption | omega)) (show 87 + 2 * r < w.2.2 + 1 by omega))
  refine xj_vret C a_C_init_36 ?_
  refine ⟨rfl, by show w.2.2 + 1 = _; omega, hz7, fun k r' i' x hS => ?_, fun x hx => ?_, fun x hx => ?_⟩
  · have n19 : ¬ (k = 19 ∧ r' = r ∧ i' = 0) := fun h => hS ⟨Or.inl h.1, h.2⟩
    refine ⟨?_, rfl, ?_⟩
    · show (if k = 19 ∧ r' = r ∧ i' = 0 ∧ x = 0 then _ else if k = 19 ∧ r' = r ∧ i' = 0 ∧ x = 5 then _ else if k = 19 ∧ r' = r ∧ i' = 0 ∧ x = 4 then _ else if k = 19 ∧ r' = r ∧ i' = 0 ∧ x = 3 then _ else w.1.1 k r' i' x) = _
      rw [if_neg (by omega), if_neg (by omega), if_neg (by omega), if_neg (by omega)]
    · show (if k = 19 ∧ r' = r ∧ i' = 0 ∧ x = 1 then _ else if k = 19 ∧ r' = r ∧ i' = 0 ∧ x = 2 then _ else w.2.1 k r' i' x) = _
      rw [if_neg (by omega), if_neg (by omega)]
  · match x, hx with
    | 0, _ => exact ⟨by simp [xj_uI, xj_uK, xm_I], by simpa [xj_uI, xj_uK, xj_n1, xm_J] using (h0 0).2.1, fun h => absurd h (by decide)⟩
    | 1, _ => exact ⟨by simpa [xj_uI, xj_uK, xj_n1, xm_I] using (h0 1).1, by simpa [xj_uI, xj_uK, xj_n1, xm_J] using (h0 1).2.1, fun _ => by simp [xj_uI, xj_uK, xj_n1, xj_K0]⟩
    | 2, _ => exact ⟨by simpa [xj_uI, xj_uK, xj_n1, xm_I] using (h0 2).1, by simpa [xj_uI, xj_uK, xj_n1, xm_J] using (h0 2).2.1, fun _ => by simp [xj_uI, xj_uK, xj_n1, xj_K0]⟩
    | 3, _ => exact ⟨by simp [xj_uI, xj_uK, xm_I]; rfl, by simpa [xj_uI, xj_uK, xj_n1, xm_J] using (h0 3).2.1, fun h => absurd h (by decide)⟩
    | 4, _ => exact ⟨by simp [xj_uI, xj_uK, xm_I]; rfl, by simpa [xj_uI, xj_uK, xj_n1, xm_J] using (h0 4).2.1, fun h => absurd h (by decide)⟩
    | 5, _ => exact ⟨by simp [xj_uI, xj_uK, xm_I], by simpa [xj_uI, xj_uK, xj_n1, xm_J] using (h0 5).2.1, fun h => absurd h (by decide)⟩
    | x + 6, h => exact absurd h (by show ¬ x + 6 < 6; omega)
  · exact ⟨by simpa [xj_uI, xj_uK, xj_n1, xm_I] using (h20 x).1, by simpa [xj_uI, xj_uK, xj_n1, xm_J] using (h20 x).2.1, fun h => xm_nr (by decide) (by decide) h⟩
