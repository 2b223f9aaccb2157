/-! the constructors of the board and of a replica -/
theorem c_B_init (l : Launch) (G : xj_G) (w : xj_W) (hn : w.2.2 = 2) (hZ : xj_Z w) (h0 : ∀ x, w.1.1 1 0 0 x = 0 ∧ w.1.2 1 0 0 x = 0 ∧ w.2.1 1 0 0 x = none) : xj_Mx l G 1 20 6 1536 m_B_init [.ref (xj_ad G (1, 0, 0))] w (xm_post w 8 (fun k r' i' => 1 ≤ k ∧ k ≤ 7 ∧ r' = 0 ∧ i' = 0) (fun w' => ∀ k, 1 ≤ k → k ≤ 7 → xm_at w' k 0 0)) := by
  refine xj_Mx_of (by decide) (Nat.le_of_ble_eq_true rfl) (fun E hE C hnm => ?_)
  subst hE
  replace C : xj_C E G prog_2_method_1_code "ThreePhaseGroup$Board" 1 1 20 _ _ none := C
  show xj_X E G _ 0 0 0 [some (.ref (xj_ad G (1, 0, 0)))] [] w
  have hA : ∀ k, 2 ≤ k → k ≤ 7 → ∀ x, w.1.1 k 0 0 x = 0 ∧ w.1.2 k 0 0 x = 0 ∧ w.2.1 k 0 0 x = none := by
    intro k h2 h7 x
    refine hZ k k 0 0 (by omega) ?_ x
    rcases (show k = 2 ∨ k = 3 ∨ k = 4 ∨ k = 5 ∨ k = 6 ∨ k = 7 by omega) with rfl | rfl | rfl | rfl | rfl | rfl <;> rfl
  refine xj_aload_n C a_B_init_0 rfl ?_
  refine xj_oinit C a_B_init_1 ol_B ol_i ol_c ⟨by decide, by decide⟩ rfl (by decide) ?_
  refine xj_aload_n C a_B_init_4 rfl ?_
  refine xj_sipush (v := nI 256) C a_B_init_5 (by decide) ?_
  refine xj_newI (k := 2) (r := 0) (i := 0) C a_B_init_8 ⟨rfl, by decide⟩ (xj_pn xj_ok2 (show w.2.2 + 0 = 2 by omega)) hZ (by decide) ?_
  have hz1 := hZ.n1
  refine xj_pK (x := 0) (p2 := (2, 0, 0)) C a_B_init_10 cf_B fw_B_9 ⟨rfl, rfl, rfl⟩ (by decide) rfl (xj_okn xj_ok1 (show 1 < w.2.2 + 1 by omega)) ⟨rfl, rfl⟩ hnm (fun _ => ⟨rfl, rfl⟩) ?_
  have hz2 := hz1.uK (k := 1) (r := 0) (i := 0) (x := 0) (y := some (2, 0, 0)) (xj_okn xj_ok1 (show 1 < w.2.2 + 1 by omega))
  refine xj_aload_n C a_B_init_13 rfl ?_
  refine xj_sipush (v := nI 256) C a_B_init_14 (by decide) ?_
  refine xj_newI (k := 3) (r := 0) (i := 0) C a_B_init_17 ⟨rfl, by decide⟩ (xj_pn xj_ok3 (show w.2.2 + 1 = 3 by omega)) hz2 (by decide) ?_
  have hz3 := hz2.n1
  refine xj_pK (x := 1) (p2 := (3, 0, 0)) C a_B_init_19 cf_B fw_B_15 ⟨rfl, rfl, rfl⟩ (by decide) rfl (xj_okn xj_ok1 (show 1 < w.2.2 + 2 by omega)) ⟨rfl, rfl⟩ hnm (fun _ => ⟨rfl, rfl⟩) ?_
  have hz4 := hz3.uK (k := 1) (r := 0) (i := 0) (x := 1) (y := some (3, 0, 0)) (xj_okn xj_ok1 (show 1 < w.2.2 + 2 by omega))
  refine xj_aload_n C a_B_init_22 rfl ?_
  refine xj_sipush (v := nI 256) C a_B_init_23 (by decide) ?_
  refine xj_newI (k := 4) (r := 0) (i := 0) C a_B_init_26 ⟨rfl, by decide⟩ (xj_pn xj_ok4 (show w.2.2 + 2 = 4 by omega)) hz4 (by decide) ?_
  have hz5 := hz4.n1
  refine xj_pK (x := 2) (p2 := (4, 0, 0)) C a_B_init_28 cf_B fw_B_18 ⟨rfl, rfl, rfl⟩ (by decide) rfl (xj_okn xj_ok1 (show 1 < w.2.2 + 3 by omega)) ⟨rfl, rfl⟩ hnm (fun _ => ⟨rfl, rfl⟩) ?_
  have hz6 := hz5.uK (k := 1) (r := 0) (i := 0) (x := 2) (y := some (4, 0, 0)) (xj_okn xj_ok1 (show 1 < w.2.2 + 3 by omega))
  refine xj_aload_n C a_B_init_31 rfl ?_
  refine xj_sipush (v := nI 256) C a_B_init_32 (by decide) ?_
  refine xj_newJ (k := 5) (r := 0) (i := 0) C a_B_init_35 ⟨rfl, by decide⟩ (xj_pn xj_ok5 (show w.2.2 + 3 = 5 by omega)) hz6 (by decide) ?_
  have hz7 := hz6.n1
  refine xj_pK (x := 3) (p2 := (5, 0, 0)) C a_B_init_37 cf_B fw_B_21 ⟨rfl, rfl, rfl⟩ (by decide) rfl (xj_okn xj_ok1 (show 1 < w.2.2 + 4 by omega)) ⟨rfl, rfl⟩ hnm (fun _ => ⟨rfl, rfl⟩) ?_
  have hz8 := hz7.uK (k := 1) (r := 0) (i := 0) (x := 3) (y := some (5, 0, 0)) (xj_okn xj_ok1 (show 1 < w.2.2 + 4 by omega))
  refine xj_aload_n C a_B_init_40 rfl ?_
  refine xj_sipush (v := nI 256) C a_B_init_41 (by decide) ?_
  refine xj_newI (k := 6) (r := 0) (i := 0) C a_B_init_44 ⟨rfl, by decide⟩ (xj_pn xj_ok6 (show w.2.2 + 4 = 6 by omega)) hz8 (by decide) ?_
  have hz9 := hz8.n1
  refine xj_pK (x := 4) (p2 := (6, 0, 0)) C a_B_init_46 cf_B fw_B_25 ⟨rfl, rfl, rfl⟩ (by decide) rfl (xj_okn xj_ok1 (show 1 < w.2.2 + 5 by omega)) ⟨rfl, rfl⟩ hnm (fun _ => ⟨rfl, rfl⟩) ?_
  have hz10 := hz9.uK (k := 1) (r := 0) (i := 0) (x := 4) (y := some (6, 0, 0)) (xj_okn xj_ok1 (show 1 < w.2.2 + 5 by omega))
  refine xj_aload_n C a_B_init_49 rfl ?_
  refine xj_sipush (v := nI 256) C a_B_init_50 (by decide) ?_
  refine xj_newZ (k := 7) (r := 0) (i := 0) C a_B_init_53 ⟨rfl, by decide⟩ (xj_pn xj_ok7 (show w.2.2 + 5 = 7 by omega)) hz10 (by decide) ?_
  have hz11 := hz10.n1
  refine xj_pK (x := 5) (p2 := (7, 0, 0)) C a_B_init_55 cf_B fw_B_28 ⟨rfl, rfl, rfl⟩ (by decide) rfl (xj_okn xj_ok1 (show 1 < w.2.2 + 6 by omega)) ⟨rfl, rfl⟩ hnm (fun _ => ⟨rfl, rfl⟩) ?_
  have hz12 := hz11.uK (k := 1) (r := 0) (i := 0) (x := 5) (y := some (7, 0, 0)) (xj_okn xj_ok1 (show 1 < w.2.2 + 6 by omega))
  refine xj_aload_n C a_B_init_58 rfl ?_
  refine xj_iconst (v := nI 0) C a_B_init_59 (by decide) ?_
  refine xj_pI (x := 6) C a_B_init_60 cf_B fw_B_32 ⟨rfl, rfl, rfl⟩ (by decide) rfl (xj_okn xj_ok1 (show 1 < w.2.2 + 6 by omega)) (Or.inl rfl) hnm ⟨rfl, rfl⟩ ?_
  have hz13 := hz12.uI (k := 1) (r := 0) (i := 0) (x := 6) (y := nI 0) (xj_okn xj_ok1 (show 1 < w.2.2 + 6 by omega))
  refine xj_aload_n C a_B_init_63 rfl ?_
  refine xj_iconst (v := nI 0) C a_B_init_64 (by decide) ?_
  refine xj_pI (x := 7) C a_B_init_65 cf_B fw_B_36 ⟨rfl, rfl, rfl⟩ (by decide) rfl (xj_okn xj_ok1 (show 1 < w.2.2 + 6 by omega)) (Or.inl rfl) hnm ⟨rfl, rfl⟩ ?_
  have hz14 := hz13.uI (k := 1) (r := 0) (i := 0) (x := 7) (y := nI 0) (xj_okn xj_ok1 (show 1 < w.2.2 + 6 by omega))
  refine xj_vret C a_B_init_68 ?_
  have KK : ∀ k r' i' x, (xj_uI (xj_uI (xj_uK (xj_n1 (xj_uK (xj_n1 (xj_uK (xj_n1 (xj_uK (xj_n1 (xj_uK (xj_n1 (xj_uK (xj_n1 w) 1 0 0 0 (some (2, 0, 0)))) 1 0 0 1 (some (3, 0, 0)))) 1 0 0 2 (some (4, 0, 0)))) 1 0 0 3 (some (5, 0, 0)))) 1 0 0 4 (some (6, 0, 0)))) 1 0 0 5 (some (7, 0, 0))) 1 0 0 6 (nI 0)) 1 0 0 7 (nI 0)).2.1 k r' i' x = if k = 1 ∧ r' = 0 ∧ i' = 0 ∧ x < 6 then some (2 + x, 0, 0) else w.2.1 k r' i' x := by
    intro k r' i' x
    show (if k = 1 ∧ r' = 0 ∧ i' = 0 ∧ x = 5 then some (7, 0, 0) else if k = 1 ∧ r' = 0 ∧ i' = 0 ∧ x = 4 then some (6, 0, 0) else if k = 1 ∧ r' = 0 ∧ i' = 0 ∧ x = 3 then some (5, 0, 0) else if k = 1 ∧ r' = 0 ∧ i' = 0 ∧ x = 2 then some (4, 0, 0) else if k = 1 ∧ r' = 0 ∧ i' = 0 ∧ x = 1 then some (3, 0, 0) else if k = 1 ∧ r' = 0 ∧ i' = 0 ∧ x = 0 then some (2, 0, 0) else w.2.1 k r' i' x) = _
    by_cases h : k = 1 ∧ r' = 0 ∧ i' = 0 ∧ x < 6
    · rw [if_pos h]
      obtain ⟨rfl, rfl, rfl, hx⟩ := h
      rcases (show x = 0 ∨ x = 1 ∨ x = 2 ∨ x = 3 ∨ x = 4 ∨ x = 5 by omega) with rfl | rfl | rfl | rfl | rfl | rfl <;> simp
    · rw [if_neg h, if_neg (by omega), if_neg (by omega), if_neg (by omega), if_neg (by omega), if_neg (by omega), if_neg (by omega)]
  have II : ∀ k r' i' x, (xj_uI (xj_uI (xj_uK (xj_n1 (xj_uK (xj_n1 (xj_uK (xj_n1 (xj_uK (xj_n1 (xj_uK (xj_n1 (xj_uK (xj_n1 w) 1 0 0 0 (some (2, 0, 0)))) 1 0 0 1 (some (3, 0, 0)))) 1 0 0 2 (some (4, 0, 0)))) 1 0 0 3 (some (5, 0, 0)))) 1 0 0 4 (some (6, 0, 0)))) 1 0 0 5 (some (7, 0, 0))) 1 0 0 6 (nI 0)) 1 0 0 7 (nI 0)).1.1 k r' i' x = if k = 1 ∧ r' = 0 ∧ i' = 0 ∧ (x = 6 ∨ x = 7) then nI 0 else w.1.1 k r' i' x := by
    intro k r' i' x
    show (if k = 1 ∧ r' = 0 ∧ i' = 0 ∧ x = 7 then nI 0 else if k = 1 ∧ r' = 0 ∧ i' = 0 ∧ x = 6 then nI 0 else w.1.1 k r' i' x) = _
    by_cases h : k = 1 ∧ r' = 0 ∧ i' = 0 ∧ (x = 6 ∨ x = 7)
    · rw [if_pos h]
      split
      · rfl
      · rw [if_pos (by omega)]
    · rw [if_neg h, if_neg (by omega), if_neg (by omega)]
  refine ⟨rfl, by show w.2.2 + 6 = _; omega, hz14, fun k r' i' x hS => ⟨?_, rfl, ?_⟩, fun k h1 h7 x hx => ⟨?_, ?_, fun hr => ?_⟩⟩
  · rw [II, if_neg (by omega)]
  · rw [KK, if_neg (by omega)]
  · rw [II]
    have hm : xm_I k 0 x = 0 := by rcases (show k = 1 ∨ k = 2 ∨ k = 3 ∨ k = 4 ∨ k = 5 ∨ k = 6 ∨ k = 7 by omega) with rfl | rfl | rfl | rfl | rfl | rfl | rfl <;> rfl
    rw [hm]
    split
    · rfl
    · by_cases e : k = 1
      · rw [e]; exact (h0 x).1
      · exact (hA k (by omega) h7 x).1
  · show w.1.2 k 0 0 x = xm_J k
    have hm : xm_J k = 0 := by unfold xm_J; rw [if_neg (by omega)]
    rw [hm]
    by_cases e : k = 1
    · rw [e]; exact (h0 x).2.1
    · exact (hA k (by omega) h7 x).2.1
  · rw [KK]
    by_cases e : k = 1
    · subst e
      have hx : x < 8 := hx
      rcases hr with h | ⟨-, h⟩
      · exact absurd h (by decide)
      · have : x < 6 := by
          rcases (show x < 6 ∨ x = 6 ∨ x = 7 by omega) with g | rfl | rfl
          · exact g
          · exact absurd h (by decide)
          · exact absurd h (by decide)
        rw [if_pos ⟨rfl, rfl, rfl, this⟩]
        unfold xj_K0
        simp [this]
    · exfalso
      have n3 : ¬ xj_knd k = 3 ∧ ¬ xj_knd k = 4 := by rcases (show k = 2 ∨ k = 3 ∨ k = 4 ∨ k = 5 ∨ k = 6 ∨ k = 7 by omega) with rfl | rfl | rfl | rfl | rfl | rfl <;> decide
      exact xm_nr n3.1 n3.2 hr
/-- the ints of a replica's view changes -/
def xm_fi (w : xj_W) (r s : Nat) : xj_W := ((fun k r' i' x => if k = 18 ∧ r' = r ∧ i' = 0 ∧ x < s then -2 else w.1.1 k r' i' x, w.1.2), w.2)
theorem xm_fi_0 (w : xj_W) (r : Nat) : w = xm_fi w r 0 := by
  unfold xm_fi
  refine Prod.ext (Prod.ext ?_ rfl) rfl
  funext k r' i' x
  simp
theorem xm_fi_s (w : xj_W) (r s : Nat) : xj_uI (xm_fi w r s) 18 r 0 s (-2) = xm_fi w r (s + 1) := by
  unfold xm_fi xj_uI
  refine Prod.ext (Prod.ext ?_ rfl) rfl
  funext k r' i' x
  show (if k = 18 ∧ r' = r ∧ i' = 0 ∧ x = s then _ else if k = 18 ∧ r' = r ∧ i' = 0 ∧ x < s then _ else _) = (if k = 18 ∧ r' = r ∧ i' = 0 ∧ x < s + 1 then _ else _)
  by_cases h : k = 18 ∧ r' = r ∧ i' = 0 ∧ x < s + 1
  · rw [if_pos h]
    by_cases h1 : k = 18 ∧ r' = r ∧ i' = 0 ∧ x = s
    · rw [if_pos h1]
    rw [if_neg h1, if_pos (by omega)]
  · rw [if_neg h, if_neg (by omega), if_neg (by omega)]
theorem c_JA_fillI_g (l : Launch) (G : xj_G) (w : xj_W) (r : Nat) (hp : xj_ok (18, r, 0) w.2.2) : xj_Mx l G 0 0 0 0 m_JA_fillI [.ref (xj_ad G (18, r, 0)), .int (-2)] w (fun a' w' => a' = none ∧ w' = xm_fi w r 4) := by
  refine xj_Mx_ofF pf_fillI (Nat.le_of_ble_eq_true rfl) (fun E hE C _ => ?_)
  subst hE
  replace C : xj_C E G prog_12_method_103_code "java/util/Arrays" 4 0 0 _ _ none := C
  show xj_X E G _ 0 0 0 [some (.ref (xj_ad G (18, r, 0))), some (.int (-2)), none, none] [] w
  have loop : ∀ n s : Nat, s ≤ 4 → 4 - s < n → xj_X E G (xj_R E G (fun a' w' => a' = none ∧ w' = xm_fi w r 4) 0 0) 0 0 5 [some (.ref (xj_ad G (18, r, 0))), some (.int (-2)), some (.int (nI s)), some (.int (nI 4))] [] (xm_fi w r s) := by
    intro n
    induction n with
    | zero => intro s _ h; omega
    | succ n ih =>
      intro s hs hn2
      refine xj_iload_n C a_JA_fillI_5 rfl ?_
      refine xj_iload_n C a_JA_fillI_6 rfl ?_
      refine xj_icmp_ge C a_JA_fillI_7 rfl (fun h7 => ?_) (fun h7 => ?_)
      · rw [nI_leI (by omega) (by omega)] at h7
        have : s = 4 := by omega
        subst this
        refine xj_vret C a_JA_fillI_20 ?_
        exact ⟨rfl, rfl⟩
      · rw [nI_leI (by omega) (by omega)] at h7
        refine xj_aload_n C a_JA_fillI_10 rfl ?_
        refine xj_iload_n C a_JA_fillI_11 rfl ?_
        refine xj_iload_n C a_JA_fillI_12 rfl ?_
        refine xj_iast (k := 18) (r := r) (i := 0) C a_JA_fillI_13 rfl hp (vp_in_nI (show s < 4 by omega) (by decide)) ?_
        rw [nI_clamp (by omega), xm_fi_s]
        refine xj_iincN2 C a_JA_fillI_14 rfl ?_
        refine xj_goto C a_JA_fillI_17 rfl ?_
        exact ih (s + 1) (by omega) (by omega)
  refine xj_iconst (v := nI 0) C a_JA_fillI_0 (by decide) ?_
  refine xj_istore2 C a_JA_fillI_1 rfl ?_
  refine xj_aload_n C a_JA_fillI_2 rfl ?_
  refine xj_alenI (k := 18) C a_JA_fillI_3 rfl hp ?_
  refine xj_istore3 C a_JA_fillI_4 rfl ?_
  refine xj_as (xm_fi_0 w r) ?_
  exact loop 5 0 (by omega) (by omega)
/-- a replica in making: so many slots are made -/
def xm_R (w0 : xj_W) (r s : Nat) (w : xj_W) : Prop := w.2.2 = 18 + 19 * r + 3 * s ∧ xj_Z w ∧ (∀ k r' i' x, ¬ (11 ≤ k ∧ k ≤ 18 ∧ r' = r) → w.1.1 k r' i' x = w0.1.1 k r' i' x ∧ w.1.2 k r' i' x = w0.1.2 k r' i' x ∧ w.2.1 k r' i' x = w0.2.1 k r' i' x) ∧ xm_at w 11 r 0 ∧ (∀ i, i < 2 → xm_at w 16 r i ∧ xm_at w 17 r i) ∧ (∀ i, i < s → xm_at w 13 r i ∧ xm_at w 14 r i ∧ xm_at w 15 r i ∧ w.2.1 12 r 0 i = some (13, r, i)) ∧ (∀ x, w.1.1 12 r 0 x = 0 ∧ w.1.2 12 r 0 x = 0) ∧ ∀ x, w.1.1 18 r 0 x = 0 ∧ w.1.2 18 r 0 x = 0
theorem xj_Z.at {w : xj_W} (h : xj_Z w) {k r i : Nat} (hp : xj_ok (k, r, i) 116) (hn : w.2.2 ≤ xj_ix (k, r, i)) (x : Nat) : w.1.1 k r i x = 0 ∧ w.1.2 k r i x = 0 ∧ w.2.1 k r i x = none := h _ k r i hn hp.1 x
theorem xj_cs {E : xj_E} {G : xj_G} {Q : State → Prop} {cs sl pc cs2 sl2 : Nat} {L : List (Option Value)} {st : List Value} {w : xj_W} (h1 : cs = cs2) (h2 : sl = sl2) (k : xj_X E G Q cs2 sl2 pc L st w) : xj_X E G Q cs sl pc L st w := by subst h1 h2; exact k
theorem c_R_init (l : Launch) (G : xj_G) (w : xj_W) (r : Nat) (hr : r < 4) (hn : w.2.2 = 12 + 19 * r) (hZ : xj_Z w) (h0 : ∀ x, w.1.1 11 r 0 x = 0 ∧ w.1.2 11 r 0 x = 0 ∧ w.2.1 11 r 0 x = none) : xj_Mx l G 2 41 18 576 m_R_init [.ref (xj_ad G (11, r, 0)), .int (nI r), .ref (xj_ad G (1, 0, 0))] w (xm_post w (30 + 19 * r) (fun k r' i' => 11 ≤ k ∧ k ≤ 18 ∧ r' = r) (fun w' => xm_at w' 11 r 0 ∧ xm_at w' 12 r 0 ∧ xm_at w' 18 r 0 ∧ (∀ i, i < 2 → xm_at w' 16 r i ∧ xm_at w' 17 r i) ∧ ∀ i, i < 4 → xm_at w' 13 r i ∧ xm_at w' 14 r i ∧ xm_at w' 15 r i)) := by
  refine xj_Mx_of (by decide) (Nat.le_of_ble_eq_true rfl) (fun E hE C hnm => ?_)
  subst hE
  replace C : xj_C E G prog_5_method_1_code "ThreePhaseGroup$Replica" 4 2 41 _ _ none := C
  show xj_X E G _ 0 0 0 [some (.ref (xj_ad G (11, r, 0))), some (.int (nI r)), some (.ref (xj_ad G (1, 0, 0))), none] [] w
  have z12 := fun x => hZ.at (xj_ok12 hr) (show w.2.2 ≤ 12 + 19 * r by omega) x
  have z16 := fun x => hZ.at (xj_ok16 hr (show 0 < 2 by decide)) (show w.2.2 ≤ 13 + 19 * r + 2 * 0 by omega) x
  refine xj_aload_n C a_R_init_0 rfl ?_
  refine xj_oinit C a_R_init_1 ol_R ol_i ol_c ⟨by decide, by decide⟩ rfl (by decide) ?_
  refine xj_aload_n C a_R_init_4 rfl ?_
  refine xj_iconst (v := nI 4) C a_R_init_5 (by decide) ?_
  refine xj_newK (k := 12) (r := r) (i := 0) C a_R_init_6 cw_R_9 ow_S ⟨rfl, by decide, rfl, rfl⟩ (xj_pn (xj_ok12 (by first | assumption | omega)) (show w.2.2 + 0 = 12 + 19 * r by omega)) hZ (by decide) ?_
  have hz1 := hZ.n1
  refine xj_pK (x := 2) (p2 := (12, r, 0)) C a_R_init_9 cf_R fw_R_11 ⟨rfl, rfl, rfl⟩ (by decide) rfl (xj_okn (xj_ok11 (by first | assumption | omega)) (show 11 + 19 * r < w.2.2 + 1 by omega)) ⟨rfl, rfl⟩ hnm (fun _ => ⟨rfl, rfl⟩) ?_
  have hz2 := hz1.uK (k := 11) (r := r) (i := 0) (x := 2) (y := some (12, r, 0)) (xj_okn (xj_ok11 (by first | assumption | omega)) (show 11 + 19 * r < w.2.2 + 1 by omega))
  refine xj_aload_n C a_R_init_12 rfl ?_
  refine xj_new (k := 16) (r := r) (i := 0) C a_R_init_13 cf_N cw_R_17 iw_N nw_N ⟨rfl, rfl, rfl⟩ dv_N (xj_pn (xj_ok16 (by first | assumption | omega) (by first | assumption | omega)) (show w.2.2 + 1 = 13 + 19 * r + 2 * 0 by omega)) hz2 ⟨by decide, by decide⟩ ?_
  have hz3 := hz2.n1
  refine xj_dup C a_R_init_16 rfl ?_
  refine xj_callI0 C a_R_init_17 rfl (c_N_init _ _ _ r 0 hr (by decide) (show w.2.2 + 2 = 14 + 19 * r + 2 * 0 by omega) hz3 (fun x => by simpa [xj_uK, xj_n1] using z16 x)) mi_N_init lk_R_19 ⟨by decide, by decide⟩ rfl (Nat.le_of_ble_eq_true rfl) (by decide) (fun a' w1 hres => ?_)
  obtain ⟨rfl, n1, hZ1, f1, d16, d17⟩ := hres
  have b1I : ∀ k r' i' x, ¬ ((k = 16 ∨ k = 17) ∧ r' = r ∧ i' = 0) → w1.1.1 k r' i' x = w.1.1 k r' i' x ∧ w1.1.2 k r' i' x = w.1.2 k r' i' x ∧ w1.2.1 k r' i' x = if k = 11 ∧ r' = r ∧ i' = 0 ∧ x = 2 then some (12, r, 0) else w.2.1 k r' i' x := fun k r' i' x hk => f1 k r' i' x hk
  have z161 := fun x => hZ1.at (xj_ok16 hr (show 1 < 2 by decide)) (show w1.2.2 ≤ 13 + 19 * r + 2 * 1 by omega) x
  refine xj_pK (x := 3) (p2 := (16, r, 0)) C a_R_init_20 cf_R fw_R_20 ⟨rfl, rfl, rfl⟩ (by decide) rfl (xj_okn (xj_ok11 (by first | assumption | omega)) (show 11 + 19 * r < w1.2.2 + 0 by omega)) ⟨rfl, rfl⟩ hnm (fun _ => ⟨rfl, rfl⟩) ?_
  have hz4 := hZ1.uK (k := 11) (r := r) (i := 0) (x := 3) (y := some (16, r, 0)) (xj_okn (xj_ok11 (by first | assumption | omega)) (show 11 + 19 * r < w1.2.2 + 0 by omega))
  refine xj_aload_n C a_R_init_23 rfl ?_
  refine xj_new (k := 16) (r := r) (i := 1) C a_R_init_24 cf_N cw_R_17 iw_N nw_N ⟨rfl, rfl, rfl⟩ dv_N (xj_pn (xj_ok16 (by first | assumption | omega) (by first | assumption | omega)) (show w1.2.2 + 0 = 13 + 19 * r + 2 * 1 by omega)) hz4 ⟨by decide, by decide⟩ ?_
  have hz5 := hz4.n1
  refine xj_dup C a_R_init_27 rfl ?_
  refine xj_callI0 C a_R_init_28 rfl (c_N_init _ _ _ r 1 hr (by decide) (show w1.2.2 + 1 = 14 + 19 * r + 2 * 1 by omega) hz5 (fun x => by simpa [xj_uK, xj_n1] using z161 x)) mi_N_init lk_R_19 ⟨by decide, by decide⟩ rfl (Nat.le_of_ble_eq_true rfl) (by decide) (fun a' w2 hres => ?_)
  obtain ⟨rfl, n2, hZ2, f2, d161, d171⟩ := hres
  have b2 : ∀ k r' i' x, ¬ ((k = 16 ∨ k = 17) ∧ r' = r ∧ i' = 1) → w2.1.1 k r' i' x = w1.1.1 k r' i' x ∧ w2.1.2 k r' i' x = w1.1.2 k r' i' x ∧ w2.2.1 k r' i' x = if k = 11 ∧ r' = r ∧ i' = 0 ∧ x = 3 then some (16, r, 0) else w1.2.1 k r' i' x := fun k r' i' x hk => f2 k r' i' x hk
  have e16 : xm_at w2 16 r 0 := d16.same (fun x => by
    have := b2 16 r 0 x (by omega)
    rw [if_neg (by omega)] at this
    exact this)
  have e17 : xm_at w2 17 r 0 := d17.same (fun x => by
    have := b2 17 r 0 x (by omega)
    rw [if_neg (by omega)] at this
    exact this)
  have b11 : ∀ x, w2.1.1 11 r 0 x = 0 ∧ w2.1.2 11 r 0 x = 0 ∧ w2.2.1 11 r 0 x = if x = 3 then some (16, r, 0) else if x = 2 then some (12, r, 0) else none := by
    intro x
    obtain ⟨g1, g2, g3⟩ := b2 11 r 0 x (by omega)
    obtain ⟨g4, g5, g6⟩ := b1I 11 r 0 x (by omega)
    rw [g1, g2, g3, g4, g5, g6, (h0 x).1, (h0 x).2.1, (h0 x).2.2]
    refine ⟨rfl, rfl, ?_⟩
    simp
  have b18 : ∀ x, w2.1.1 18 r 0 x = 0 ∧ w2.1.2 18 r 0 x = 0 := fun x => by
    have := hZ2.at (xj_ok18 hr) (show w2.2.2 ≤ 17 + 19 * r by omega) x
    exact ⟨this.1, this.2.1⟩
  have b12 : ∀ x, w2.1.1 12 r 0 x = 0 ∧ w2.1.2 12 r 0 x = 0 := by
    intro x
    obtain ⟨g1, g2, g3⟩ := b2 12 r 0 x (by omega)
    obtain ⟨g4, g5, g6⟩ := b1I 12 r 0 x (by omega)
    rw [g1, g2, g4, g5]
    exact ⟨(z12 x).1, (z12 x).2.1⟩
  have bo : ∀ k r' i' x, ¬ (11 ≤ k ∧ k ≤ 18 ∧ r' = r) → w2.1.1 k r' i' x = w.1.1 k r' i' x ∧ w2.1.2 k r' i' x = w.1.2 k r' i' x ∧ w2.2.1 k r' i' x = w.2.1 k r' i' x := by
    intro k r' i' x hk
    obtain ⟨g1, g2, g3⟩ := b2 k r' i' x (by omega)
    obtain ⟨g4, g5, g6⟩ := b1I k r' i' x (by omega)
    rw [g1, g2, g3, g4, g5, g6, if_neg (by omega), if_neg (by omega)]
    exact ⟨rfl, rfl, rfl⟩
  refine xj_pK (x := 4) (p2 := (16, r, 1)) C a_R_init_31 cf_R fw_R_24 ⟨rfl, rfl, rfl⟩ (by decide) rfl (xj_okn (xj_ok11 (by first | assumption | omega)) (show 11 + 19 * r < w2.2.2 + 0 by omega)) ⟨rfl, rfl⟩ hnm (fun _ => ⟨rfl, rfl⟩) ?_
  have hz6 := hZ2.uK (k := 11) (r := r) (i := 0) (x := 4) (y := some (16, r, 1)) (xj_okn (xj_ok11 (by first | assumption | omega)) (show 11 + 19 * r < w2.2.2 + 0 by omega))
  refine xj_aload_n C a_R_init_34 rfl ?_
  refine xj_iconst (v := nI 4) C a_R_init_35 (by decide) ?_
  refine xj_newI (k := 18) (r := r) (i := 0) C a_R_init_36 ⟨rfl, by decide⟩ (xj_pn (xj_ok18 (by first | assumption | omega)) (show w2.2.2 + 0 = 17 + 19 * r by omega)) hz6 (by decide) ?_
  have hz7 := hz6.n1
  refine xj_pK (x := 5) (p2 := (18, r, 0)) C a_R_init_38 cf_R fw_R_27 ⟨rfl, rfl, rfl⟩ (by decide) rfl (xj_okn (xj_ok11 (by first | assumption | omega)) (show 11 + 19 * r < w2.2.2 + 1 by omega)) ⟨rfl, rfl⟩ hnm (fun _ => ⟨rfl, rfl⟩) ?_
  have hz8 := hz7.uK (k := 11) (r := r) (i := 0) (x := 5) (y := some (18, r, 0)) (xj_okn (xj_ok11 (by first | assumption | omega)) (show 11 + 19 * r < w2.2.2 + 1 by omega))
  refine xj_aload_n C a_R_init_41 rfl ?_
  refine xj_iconst (v := nI 0) C a_R_init_42 (by decide) ?_
  refine xj_pI (x := 6) C a_R_init_43 cf_R fw_R_31 ⟨rfl, rfl, rfl⟩ (by decide) rfl (xj_okn (xj_ok11 (by first | assumption | omega)) (show 11 + 19 * r < w2.2.2 + 1 by omega)) (Or.inl rfl) hnm ⟨rfl, rfl⟩ ?_
  have hz9 := hz8.uI (k := 11) (r := r) (i := 0) (x := 6) (y := nI 0) (xj_okn (xj_ok11 (by first | assumption | omega)) (show 11 + 19 * r < w2.2.2 + 1 by omega))
  refine xj_aload_n C a_R_init_46 rfl ?_
  refine xj_iconst (v := nI 0) C a_R_init_47 (by decide) ?_
  refine xj_pI (x := 7) C a_R_init_48 cf_R fw_R_35 ⟨rfl, rfl, rfl⟩ (by decide) rfl (xj_okn (xj_ok11 (by first | assumption | omega)) (show 11 + 19 * r < w2.2.2 + 1 by omega)) (Or.inl rfl) hnm ⟨xn_bool (Or.inl rfl), xn_boolf (Or.inl rfl)⟩ ?_
  have hz10 := hz9.uI (k := 11) (r := r) (i := 0) (x := 7) (y := nI 0) (xj_okn (xj_ok11 (by first | assumption | omega)) (show 11 + 19 * r < w2.2.2 + 1 by omega))
  refine xj_aload_n C a_R_init_51 rfl ?_
  refine xj_iconst (v := nI 0) C a_R_init_52 (by decide) ?_
  refine xj_pI (x := 8) C a_R_init_53 cf_R fw_R_39 ⟨rfl, rfl, rfl⟩ (by decide) rfl (xj_okn (xj_ok11 (by first | assumption | omega)) (show 11 + 19 * r < w2.2.2 + 1 by omega)) (Or.inl rfl) hnm ⟨rfl, rfl⟩ ?_
  have hz11 := hz10.uI (k := 11) (r := r) (i := 0) (x := 8) (y := nI 0) (xj_okn (xj_ok11 (by first | assumption | omega)) (show 11 + 19 * r < w2.2.2 + 1 by omega))
  refine xj_aload_n C a_R_init_56 rfl ?_
  refine xj_iconst (v := nI 0) C a_R_init_57 (by decide) ?_
  refine xj_pI (x := 9) C a_R_init_58 cf_R fw_R_42 ⟨rfl, rfl, rfl⟩ (by decide) rfl (xj_okn (xj_ok11 (by first | assumption | omega)) (show 11 + 19 * r < w2.2.2 + 1 by omega)) (Or.inl rfl) hnm ⟨rfl, rfl⟩ ?_
  have hz12 := hz11.uI (k := 11) (r := r) (i := 0) (x := 9) (y := nI 0) (xj_okn (xj_ok11 (by first | assumption | omega)) (show 11 + 19 * r < w2.2.2 + 1 by omega))
  refine xj_aload_n C a_R_init_61 rfl ?_
  refine xj_lconst (v := lN 0) C a_R_init_62 (by decide) ?_
  refine xj_pJ (x := 10) C a_R_init_63 cf_R fw_R_45 ⟨rfl, rfl, rfl⟩ (by decide) rfl (xj_okn (xj_ok11 (by first | assumption | omega)) (show 11 + 19 * r < w2.2.2 + 1 by omega)) rfl ⟨rfl, rfl⟩ ?_
  have hz13 := hz12.uJ (k := 11) (r := r) (i := 0) (x := 10) (y := lN 0) (xj_okn (xj_ok11 (by first | assumption | omega)) (show 11 + 19 * r < w2.2.2 + 1 by omega))
  refine xj_aload_n C a_R_init_66 rfl ?_
  refine xj_iconst (v := nI 0) C a_R_init_67 (by decide) ?_
  refine xj_pI (x := 11) C a_R_init_68 cf_R fw_R_49 ⟨rfl, rfl, rfl⟩ (by decide) rfl (xj_okn (xj_ok11 (by first | assumption | omega)) (show 11 + 19 * r < w2.2.2 + 1 by omega)) (Or.inl rfl) hnm ⟨rfl, rfl⟩ ?_
  have hz14 := hz13.uI (k := 11) (r := r) (i := 0) (x := 11) (y := nI 0) (xj_okn (xj_ok11 (by first | assumption | omega)) (show 11 + 19 * r < w2.2.2 + 1 by omega))
  refine xj_aload_n C a_R_init_71 rfl ?_
  refine xj_iconst (v := nI 4) C a_R_init_72 (by decide) ?_
  refine xj_pI (x := 12) C a_R_init_73 cf_R fw_R_52 ⟨rfl, rfl, rfl⟩ (by decide) rfl (xj_okn (xj_ok11 (by first | assumption | omega)) (show 11 + 19 * r < w2.2.2 + 1 by omega)) (Or.inl rfl) hnm ⟨rfl, rfl⟩ ?_
  have hz15 := hz14.uI (k := 11) (r := r) (i := 0) (x := 12) (y := nI 4) (xj_okn (xj_ok11 (by first | assumption | omega)) (show 11 + 19 * r < w2.2.2 + 1 by omega))
  refine xj_aload_n C a_R_init_76 rfl ?_
  refine xj_iconst (v := nI 0) C a_R_init_77 (by decide) ?_
  refine xj_pI (x := 13) C a_R_init_78 cf_R fw_R_55 ⟨rfl, rfl, rfl⟩ (by decide) rfl (xj_okn (xj_ok11 (by first | assumption | omega)) (show 11 + 19 * r < w2.2.2 + 1 by omega)) (Or.inl rfl) hnm ⟨xn_bool (Or.inl rfl), xn_boolf (Or.inl rfl)⟩ ?_
  have hz16 := hz15.uI (k := 11) (r := r) (i := 0) (x := 13) (y := nI 0) (xj_okn (xj_ok11 (by first | assumption | omega)) (show 11 + 19 * r < w2.2.2 + 1 by omega))
  refine xj_aload_n C a_R_init_81 rfl ?_
  refine xj_iload_n C a_R_init_82 rfl ?_
  refine xj_pI (x := 0) C a_R_init_83 cf_R fw_R_58 ⟨rfl, rfl, rfl⟩ (by decide) rfl (xj_okn (xj_ok11 (by first | assumption | omega)) (show 11 + 19 * r < w2.2.2 + 1 by omega)) (Or.inr ⟨rfl, rfl⟩) hnm ⟨rfl, rfl⟩ ?_
  have hz17 := hz16.uI (k := 11) (r := r) (i := 0) (x := 0) (y := nI r) (xj_okn (xj_ok11 (by first | assumption | omega)) (show 11 + 19 * r < w2.2.2 + 1 by omega))
  refine xj_aload_n C a_R_init_86 rfl ?_
  refine xj_aload_n C a_R_init_87 rfl ?_
  refine xj_pK (x := 1) (p2 := (1, 0, 0)) C a_R_init_88 cf_R fw_R_61 ⟨rfl, rfl, rfl⟩ (by decide) rfl (xj_okn (xj_ok11 (by first | assumption | omega)) (show 11 + 19 * r < w2.2.2 + 1 by omega)) ⟨rfl, rfl⟩ hnm (fun _ => ⟨rfl, rfl⟩) ?_
  have hz18 := hz17.uK (k := 11) (r := r) (i := 0) (x := 1) (y := some (1, 0, 0)) (xj_okn (xj_ok11 (by first | assumption | omega)) (show 11 + 19 * r < w2.2.2 + 1 by omega))
  refine xj_iconst (v := nI 0) C a_R_init_91 (by decide) ?_
  refine xj_istore3 C a_R_init_92 rfl ?_
  obtain ⟨w3, hw3⟩ : ∃ w3, w3 = (xj_uK (xj_uI (xj_uI (xj_uI (xj_uI (xj_uJ (xj_uI (xj_uI (xj_uI (xj_uI (xj_uK (xj_n1 (xj_uK w2 11 r 0 4 (some (16, r, 1)))) 11 r 0 5 (some (18, r, 0))) 11 r 0 6 (nI 0)) 11 r 0 7 (nI 0)) 11 r 0 8 (nI 0)) 11 r 0 9 (nI 0)) 11 r 0 10 (lN 0)) 11 r 0 11 (nI 0)) 11 r 0 12 (nI 4)) 11 r 0 13 (nI 0)) 11 r 0 0 (nI r)) 11 r 0 1 (some (1, 0, 0))) := ⟨_, rfl⟩
  rw [← hw3]
  have I3 : ∀ k r' i' x, ¬ (k = 11 ∧ r' = r ∧ i' = 0) → w3.1.1 k r' i' x = w2.1.1 k r' i' x ∧ w3.1.2 k r' i' x = w2.1.2 k r' i' x ∧ w3.2.1 k r' i' x = w2.2.1 k r' i' x := by
    intro k r' i' x hk
    rw [hw3]
    refine ⟨?_, ?_, ?_⟩
    · show (if k = 11 ∧ r' = r ∧ i' = 0 ∧ x = 0 then _ else if k = 11 ∧ r' = r ∧ i' = 0 ∧ x = 13 then _ else if k = 11 ∧ r' = r ∧ i' = 0 ∧ x = 12 then _ else if k = 11 ∧ r' = r ∧ i' = 0 ∧ x = 11 then _ else if k = 11 ∧ r' = r ∧ i' = 0 ∧ x = 9 then _ else if k = 11 ∧ r' = r ∧ i' = 0 ∧ x = 8 then _ else if k = 11 ∧ r' = r ∧ i' = 0 ∧ x = 7 then _ else if k = 11 ∧ r' = r ∧ i' = 0 ∧ x = 6 then _ else w2.1.1 k r' i' x) = _
      rw [if_neg (by omega), if_neg (by omega), if_neg (by omega), if_neg (by omega), if_neg (by omega), if_neg (by omega), if_neg (by omega), if_neg (by omega)]
    · show (if k = 11 ∧ r' = r ∧ i' = 0 ∧ x = 10 then _ else w2.1.2 k r' i' x) = _
      rw [if_neg (by omega)]
    · show (if k = 11 ∧ r' = r ∧ i' = 0 ∧ x = 1 then _ else if k = 11 ∧ r' = r ∧ i' = 0 ∧ x = 5 then _ else if k = 11 ∧ r' = r ∧ i' = 0 ∧ x = 4 then _ else w2.2.1 k r' i' x) = _
      rw [if_neg (by omega), if_neg (by omega), if_neg (by omega)]
  have A11 : xm_at w3 11 r 0 := by
    rw [hw3]
    intro x hx
    have hx : x < 14 := hx
    obtain ⟨g1, g2, g3⟩ := b11 x
    rcases (show x = 0 ∨ x = 1 ∨ x = 2 ∨ x = 3 ∨ x = 4 ∨ x = 5 ∨ x = 6 ∨ x = 7 ∨ x = 8 ∨ x = 9 ∨ x = 10 ∨ x = 11 ∨ x = 12 ∨ x = 13 by omega) with rfl | rfl | rfl | rfl | rfl | rfl | rfl | rfl | rfl | rfl | rfl | rfl | rfl | rfl
    · exact ⟨by simp [xj_uI, xj_uJ, xj_uK, xj_n1, xm_I], by simpa [xj_uI, xj_uJ, xj_uK, xj_n1, xm_J] using g2, fun h => absurd h (by decide)⟩
    · exact ⟨by simpa [xj_uI, xj_uJ, xj_uK, xj_n1, xm_I] using g1, by simpa [xj_uI, xj_uJ, xj_uK, xj_n1, xm_J] using g2, fun _ => by simp [xj_uI, xj_uJ, xj_uK, xj_n1, xj_K0]⟩
    · exact ⟨by simpa [xj_uI, xj_uJ, xj_uK, xj_n1, xm_I] using g1, by simpa [xj_uI, xj_uJ, xj_uK, xj_n1, xm_J] using g2, fun _ => by simpa [xj_uI, xj_uJ, xj_uK, xj_n1, xj_K0] using g3⟩
    · exact ⟨by simpa [xj_uI, xj_uJ, xj_uK, xj_n1, xm_I] using g1, by simpa [xj_uI, xj_uJ, xj_uK, xj_n1, xm_J] using g2, fun _ => by simpa [xj_uI, xj_uJ, xj_uK, xj_n1, xj_K0] using g3⟩
    · exact ⟨by simpa [xj_uI, xj_uJ, xj_uK, xj_n1, xm_I] using g1, by simpa [xj_uI, xj_uJ, xj_uK, xj_n1, xm_J] using g2, fun _ => by simp [xj_uI, xj_uJ, xj_uK, xj_n1, xj_K0]⟩
    · exact ⟨by simpa [xj_uI, xj_uJ, xj_uK, xj_n1, xm_I] using g1, by simpa [xj_uI, xj_uJ, xj_uK, xj_n1, xm_J] using g2, fun _ => by simp [xj_uI, xj_uJ, xj_uK, xj_n1, xj_K0]⟩
    · exact ⟨by simp [xj_uI, xj_uJ, xj_uK, xj_n1, xm_I]; rfl, by simpa [xj_uI, xj_uJ, xj_uK, xj_n1, xm_J] using g2, fun h => absurd h (by decide)⟩
    · exact ⟨by simp [xj_uI, xj_uJ, xj_uK, xj_n1, xm_I]; rfl, by simpa [xj_uI, xj_uJ, xj_uK, xj_n1, xm_J] using g2, fun h => absurd h (by decide)⟩
    · exact ⟨by simp [xj_uI, xj_uJ, xj_uK, xj_n1, xm_I]; rfl, by simpa [xj_uI, xj_uJ, xj_uK, xj_n1, xm_J] using g2, fun h => absurd h (by decide)⟩
    · exact ⟨by simp [xj_uI, xj_uJ, xj_uK, xj_n1, xm_I]; rfl, by simpa [xj_uI, xj_uJ, xj_uK, xj_n1, xm_J] using g2, fun h => absurd h (by decide)⟩
    · exact ⟨by simpa [xj_uI, xj_uJ, xj_uK, xj_n1, xm_I] using g1, by simp [xj_uI, xj_uJ, xj_uK, xj_n1, xm_J]; rfl, fun h => absurd h (by decide)⟩
    · exact ⟨by simp [xj_uI, xj_uJ, xj_uK, xj_n1, xm_I]; rfl, by simpa [xj_uI, xj_uJ, xj_uK, xj_n1, xm_J] using g2, fun h => absurd h (by decide)⟩
    · exact ⟨by simp [xj_uI, xj_uJ, xj_uK, xj_n1, xm_I], by simpa [xj_uI, xj_uJ, xj_uK, xj_n1, xm_J] using g2, fun h => absurd h (by decide)⟩
    · exact ⟨by simp [xj_uI, xj_uJ, xj_uK, xj_n1, xm_I]; rfl, by simpa [xj_uI, xj_uJ, xj_uK, xj_n1, xm_J] using g2, fun h => absurd h (by decide)⟩
  have R0 : xm_R w r 0 w3 := by
    refine ⟨by rw [hw3]; show w2.2.2 + 1 = _; omega, by rw [hw3]; exact hz18, fun k r' i' x hk => ?_, A11, fun i hi => ?_, fun i hi => absurd hi (Nat.not_lt_zero i), fun x => ?_, fun x => ?_⟩
    · obtain ⟨g1, g2, g3⟩ := I3 k r' i' x (by omega)
      rw [g1, g2, g3]
      exact bo k r' i' x hk
    · rcases (show i = 0 ∨ i = 1 by omega) with rfl | rfl
      · exact ⟨e16.same (fun x => I3 16 r 0 x (by omega)), e17.same (fun x => I3 17 r 0 x (by omega))⟩
      · exact ⟨d161.same (fun x => I3 16 r 1 x (by omega)), d171.same (fun x => I3 17 r 1 x (by omega))⟩
    · obtain ⟨g1, g2, g3⟩ := I3 12 r 0 x (by omega)
      rw [g1, g2]; exact b12 x
    · obtain ⟨g1, g2, g3⟩ := I3 18 r 0 x (by omega)
      rw [g1, g2]; exact b18 x
  have loop : ∀ (n s : Nat) (wc : xj_W), s ≤ 4 → 4 - s < n → xm_R w r s wc → xj_X E G (xj_R E G (xm_post w (30 + 19 * r) (fun k r' i' => 11 ≤ k ∧ k ≤ 18 ∧ r' = r) (fun w' => xm_at w' 11 r 0 ∧ xm_at w' 12 r 0 ∧ xm_at w' 18 r 0 ∧ (∀ i, i < 2 → xm_at w' 16 r i ∧ xm_at w' 17 r i) ∧ ∀ i, i < 4 → xm_at w' 13 r i ∧ xm_at w' 14 r i ∧ xm_at w' 15 r i)) 18 576) (6 + 3 * s) (524 + 13 * s) 93 [some (.ref (xj_ad G (11, r, 0))), some (.int (nI r)), some (.ref (xj_ad G (1, 0, 0))), some (.int (nI s))] [] wc := by
    intro n
    induction n with
    | zero => intro s wc _ h; omega
    | succ n ih =>
      intro s wc hs hn2 hR
      obtain ⟨m1, m2, m3, m4, m5, m6, m7, m8⟩ := hR
      refine xj_iload_n C a_R_init_93 rfl ?_
      refine xj_iconst (v := nI 4) C a_R_init_94 (by decide) ?_
      refine xj_icmp_ge C a_R_init_95 rfl (fun h95 => ?_) (fun h95 => ?_)
      · rw [nI_leI (by omega) (by omega)] at h95
        have : s = 4 := by omega
        subst this
        have kv : wc.2.1 11 r 0 5 = some (18, r, 0) := (m4 5 (by decide)).2.2 (Or.inr ⟨rfl, rfl⟩)
        refine xj_aload_n C a_R_init_117 rfl ?_
        refine xj_gK (x := 5) (p2 := (18, r, 0)) C a_R_init_118 cf_R fl_R_27 ⟨rfl, rfl, rfl⟩ (by decide) rfl (xj_okn (xj_ok11 (by first | assumption | omega)) (show 11 + 19 * r < wc.2.2 + 0 by omega)) kv ?_
        refine xj_bipush (v := -2) C a_R_init_121 (by decide) ?_
        refine xj_callS2 C a_R_init_123 (c_JA_fillI_g _ _ wc r (xj_okn (xj_ok18 hr) (show 17 + 19 * r < wc.2.2 by omega))) ms_JA_fillI lk_R_66 ⟨by decide, by decide⟩ rfl (Nat.le_of_ble_eq_true rfl) (by decide) (fun a' w' hres => ?_)
        obtain ⟨rfl, rfl⟩ := hres
        refine xj_vret C a_R_init_126 ?_
        have I4 : ∀ k r' i' x, ¬ (k = 18 ∧ r' = r ∧ i' = 0) → (xm_fi wc r 4).1.1 k r' i' x = wc.1.1 k r' i' x ∧ (xm_fi wc r 4).1.2 k r' i' x = wc.1.2 k r' i' x ∧ (xm_fi wc r 4).2.1 k r' i' x = wc.2.1 k r' i' x := by
          intro k r' i' x hk
          refine ⟨?_, rfl, rfl⟩
          show (if k = 18 ∧ r' = r ∧ i' = 0 ∧ x < 4 then _ else _) = _
          rw [if_neg (by omega)]
        refine ⟨rfl, by show wc.2.2 = _; omega, ?_, fun k r' i' x hk => ?_, m4.same (fun x => I4 11 r 0 x (by omega)), ?_, ?_, fun i hi => ⟨(m5 i hi).1.same (fun x => I4 16 r i x (by omega)), (m5 i hi).2.same (fun x => I4 17 r i x (by omega))⟩, fun i hi => ⟨(m6 i hi).1.same (fun x => I4 13 r i x (by omega)), (m6 i hi).2.1.same (fun x => I4 14 r i x (by omega)), (m6 i hi).2.2.1.same (fun x => I4 15 r i x (by omega))⟩⟩
        · intro q k r' i' hq hp x
          have hz := m2 q k r' i' hq hp x
          have hq : wc.2.2 ≤ q := hq
          have hix := xj_PL_ix q (k, r', i') hp
          have n18 : ¬ (k = 18 ∧ r' = r ∧ i' = 0) := by
            rintro ⟨rfl, rfl, rfl⟩
            have : 17 + 19 * r' = q := hix
            omega
          obtain ⟨g1, g2, g3⟩ := I4 k r' i' x n18
          rw [g1, g2, g3]
          exact hz
        · obtain ⟨g1, g2, g3⟩ := I4 k r' i' x (by omega)
          rw [g1, g2, g3]
          exact m3 k r' i' x hk
        · intro x hx
          have hx : x < 4 := hx
          obtain ⟨g1, g2, g3⟩ := I4 12 r 0 x (by omega)
          rw [g1, g2, g3]
          refine ⟨(m7 x).1, (m7 x).2, fun _ => ?_⟩
          rw [(m6 x hx).2.2.2]
          simp [xj_K0, hx]
        · intro x hx
          have hx : x < 4 := hx
          refine ⟨?_, (m8 x).2, fun h => xm_nr (by decide) (by decide) h⟩
          show (if 18 = 18 ∧ r = r ∧ 0 = 0 ∧ x < 4 then -2 else _) = _
          rw [if_pos ⟨rfl, rfl, rfl, hx⟩]
          rfl
      · rw [nI_leI (by omega) (by omega)] at h95
        have hs4 : s < 4 := by omega
        have kv : wc.2.1 11 r 0 2 = some (12, r, 0) := (m4 2 (by decide)).2.2 (Or.inr ⟨rfl, rfl⟩)
        have zs := fun x => m2.at (xj_ok13 hr hs4) (show wc.2.2 ≤ 18 + 19 * r + 3 * s by omega) x
        refine xj_aload_n C a_R_init_98 rfl ?_
        refine xj_gK (x := 2) (p2 := (12, r, 0)) C a_R_init_99 cf_R fl_R_11 ⟨rfl, rfl, rfl⟩ (by decide) rfl (xj_okn (xj_ok11 (by first | assumption | omega)) (show 11 + 19 * r < wc.2.2 + 0 by omega)) kv ?_
        refine xj_iload_n C a_R_init_102 rfl ?_
        refine xj_new (k := 13) (r := r) (i := s) C a_R_init_103 cf_S cw_R_9 iw_S nw_S ⟨rfl, rfl, rfl⟩ dv_S (xj_pn (xj_ok13 (by first | assumption | omega) (by first | assumption | omega)) (show wc.2.2 + 0 = 18 + 19 * r + 3 * s by omega)) m2 ⟨by omega, by omega⟩ ?_
        have hz19 := m2.n1
        refine xj_dup C a_R_init_106 rfl ?_
        refine xj_callI0 C a_R_init_107 rfl (c_S_init _ _ _ r s hr hs4 (show wc.2.2 + 1 = 19 + 19 * r + 3 * s by omega) m2.n1 zs) mi_S_init lk_R_65 ⟨by decide, by decide⟩ rfl (Nat.le_of_ble_eq_true rfl) ⟨by omega, by omega⟩ (fun a' w5 hres => ?_)
        obtain ⟨rfl, n5, hZ5, f5, q13, q14, q15⟩ := hres
        have f5' : ∀ k r' i' x, ¬ ((k = 13 ∨ k = 14 ∨ k = 15) ∧ r' = r ∧ i' = s) → w5.1.1 k r' i' x = wc.1.1 k r' i' x ∧ w5.1.2 k r' i' x = wc.1.2 k r' i' x ∧ w5.2.1 k r' i' x = wc.2.1 k r' i' x := f5
        refine xj_aast (k := 12) C a_R_init_110 ⟨rfl, rfl, rfl⟩ ⟨rfl, rfl, rfl⟩ (xj_okn (xj_ok12 (by first | assumption | omega)) (show 12 + 19 * r < w5.2.2 + 0 by omega)) (xj_okn (xj_ok13 (by first | assumption | omega) (by first | assumption | omega)) (show 18 + 19 * r + 3 * s < w5.2.2 + 0 by omega)) (by show _ < 4; omega) (by omega) ?_
        have hz20 := hZ5.uK (k := 12) (r := r) (i := 0) (x := s) (y := some (13, r, s)) (xj_okn (xj_ok12 (by first | assumption | omega)) (show 12 + 19 * r < w5.2.2 + 0 by omega))
        have u6 : ∀ k r' i' x, ¬ (k = 12 ∧ r' = r ∧ i' = 0) → (xj_uK w5 12 r 0 s (some (13, r, s))).1.1 k r' i' x = w5.1.1 k r' i' x ∧ (xj_uK w5 12 r 0 s (some (13, r, s))).1.2 k r' i' x = w5.1.2 k r' i' x ∧ (xj_uK w5 12 r 0 s (some (13, r, s))).2.1 k r' i' x = w5.2.1 k r' i' x := by
          intro k r' i' x hk
          refine ⟨rfl, rfl, ?_⟩
          show (if k = 12 ∧ r' = r ∧ i' = 0 ∧ x = s then _ else _) = _
          rw [if_neg (by omega)]
        have u7 : ∀ k r' i' x, ¬ (k = 12 ∧ r' = r ∧ i' = 0) → ¬ ((k = 13 ∨ k = 14 ∨ k = 15) ∧ r' = r ∧ i' = s) → (xj_uK w5 12 r 0 s (some (13, r, s))).1.1 k r' i' x = wc.1.1 k r' i' x ∧ (xj_uK w5 12 r 0 s (some (13, r, s))).1.2 k r' i' x = wc.1.2 k r' i' x ∧ (xj_uK w5 12 r 0 s (some (13, r, s))).2.1 k r' i' x = wc.2.1 k r' i' x := by
          intro k r' i' x h1 h2
          obtain ⟨g1, g2, g3⟩ := u6 k r' i' x h1
          obtain ⟨g4, g5, g6⟩ := f5' k r' i' x h2
          rw [g1, g2, g3]
          exact ⟨g4, g5, g6⟩
        refine xj_iincN3 C a_R_init_111 rfl ?_
        refine xj_goto C a_R_init_114 rfl ?_
        refine xj_cs (show 6 + 3 * s + 1 + 2 = 6 + 3 * (s + 1) by omega) (show 524 + 13 * s + 5 + 8 = 524 + 13 * (s + 1) by omega) ?_
        refine ih (s + 1) _ (by omega) (by omega) ⟨by show w5.2.2 = _; omega, hz20, fun k r' i' x hk => ?_, m4.same (fun x => u7 11 r 0 x (by omega) (by omega)), fun i hi => ⟨(m5 i hi).1.same (fun x => u7 16 r i x (by omega) (by omega)), (m5 i hi).2.same (fun x => u7 17 r i x (by omega) (by omega))⟩, fun i hi => ?_, fun x => ?_, fun x => ?_⟩
        · obtain ⟨g1, g2, g3⟩ := u7 k r' i' x (by omega) (by omega)
          rw [g1, g2, g3]
          exact m3 k r' i' x hk
        · by_cases e : i = s
          · subst e
            refine ⟨q13.same (fun x => u6 13 r i x (by omega)), q14.same (fun x => u6 14 r i x (by omega)), q15.same (fun x => u6 15 r i x (by omega)), ?_⟩
            simp [xj_uK]
          · obtain ⟨g1, g2, g3, g4⟩ := m6 i (by omega)
            refine ⟨g1.same (fun x => u7 13 r i x (by omega) (by omega)), g2.same (fun x => u7 14 r i x (by omega) (by omega)), g3.same (fun x => u7 15 r i x (by omega) (by omega)), ?_⟩
            show (if 12 = 12 ∧ r = r ∧ 0 = 0 ∧ i = s then _ else w5.2.1 12 r 0 i) = _
            rw [if_neg (by omega), (f5' 12 r 0 i (by omega)).2.2]
            exact g4
        · obtain ⟨g1, g2, g3⟩ := f5' 12 r 0 x (by omega)
          refine ⟨?_, ?_⟩
          · show w5.1.1 12 r 0 x = 0
            rw [g1]; exact (m7 x).1
          · show w5.1.2 12 r 0 x = 0
            rw [g2]; exact (m7 x).2
        · obtain ⟨g1, g2, g3⟩ := u7 18 r 0 x (by omega) (by omega)
          rw [g1, g2]; exact m8 x
  exact loop 5 0 w3 (by omega) (by omega) R0
