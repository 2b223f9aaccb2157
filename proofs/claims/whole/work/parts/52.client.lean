/-! a client: 0 stamp, 1 open, 2 taken; and its answer -/
abbrev pg_C : Type := (Nat → Nat → Nat) × Int32
abbrev pg_sm (C : pg_C) : Nat := C.1 0 0
abbrev pg_op (C : pg_C) : Nat := C.1 1 0
abbrev pg_tk (C : pg_C) : Nat → Nat := C.1 2
def pg_cw (C : pg_C) (t i x : Nat) (y : Int32) : pg_C := (fun t' i' => if t' = t ∧ i' = i then x else C.1 t' i', y)
/-- what the client k takes of the message m -/
def pg_ans (B : pg_B) (C : pg_C) (m k : Nat) : Option pg_C :=
  if pg_k B m ≠ 4 ∨ pg_a B m ≠ nI k ∨ pg_op C = 0 ∨ pg_b B m ≠ lN (pg_op C) then none
  else if (List.range B.1).any (fun i => pg_tk C i == 1 && (pg_b B i == pg_b B m && pg_f B i == pg_f B m)) then none
  else if (List.range B.1).any (fun i => pg_tk C i == 1 && (pg_b B i == pg_b B m && pg_c B i == pg_c B m)) then some (pg_cw (pg_cw C 2 m 1 C.2) 1 0 0 (pg_c B m)) else some (pg_cw C 2 m 1 C.2)
/-- the taken reply of s -/
def pg_rp (B : pg_B) (C : pg_C) (s : Nat) : Int64 := match (List.range B.1).find? (fun i => pg_tk C i == 1 && (pg_b B i == lN (pg_op C) && pg_f B i == s)) with
  | some i => (pg_c B i).toInt64
  | none => 1099511627776
def xc_C (k : Nat) (B : pg_B) (C : pg_C) (v : xn_V) : Prop := v.1 19 k 0 0 = nI k ∧ v.1 19 k 0 3 = nI (pg_sm C) ∧ v.1 19 k 0 4 = nI (pg_op C) ∧ v.1 19 k 0 5 = C.2 ∧ (¬ pg_op C = 0 → ∀ s, s < 4 → v.2 20 k 0 s = pg_rp B C s)
/-- taken are REPLYs on the board, one of a sender for a stamp -/
def pg_cok (B : pg_B) (C : pg_C) : Prop := pg_sm C < 256 ∧ (pg_op C = 0 ∨ pg_op C = pg_sm C) ∧ (∀ i, pg_tk C i = 1 → i < B.1 ∧ pg_k B i = 4 ∧ ∃ t, t ≤ pg_sm C ∧ pg_b B i = lN t) ∧ ∀ i j, pg_tk C i = 1 → pg_tk C j = 1 → pg_b B i = pg_b B j → pg_f B i = pg_f B j → i = j
/-- only cells of client k have changed -/
def xf_K (k : Nat) (v v' : xn_V) : Prop := ∀ k' r' i x, ¬ ((k' = 19 ∨ k' = 20) ∧ r' = k) → v'.1 k' r' i x = v.1 k' r' i x ∧ v'.2 k' r' i x = v.2 k' r' i x
theorem xf_K.rf (k : Nat) (v : xn_V) : xf_K k v v := fun _ _ _ _ _ => ⟨rfl, rfl⟩
theorem xf_K.uI {k : Nat} {v v1 : xn_V} (h : xf_K k v v1) {i x : Nat} {y : Int32} : xf_K k v (xn_uI v1 19 k i x y) := by
  intro k' r' i' x' hn
  have h2 := h k' r' i' x' hn
  refine ⟨?_, h2.2⟩
  show (if k' = 19 ∧ r' = k ∧ i' = i ∧ x' = x then y else v1.1 k' r' i' x') = _
  rw [if_neg (by omega)]
  exact h2.1
theorem xf_K.uJ {k : Nat} {v v1 : xn_V} (h : xf_K k v v1) {i x : Nat} {y : Int64} : xf_K k v (xn_uJ v1 20 k i x y) := by
  intro k' r' i' x' hn
  have h2 := h k' r' i' x' hn
  refine ⟨h2.1, ?_⟩
  show (if k' = 20 ∧ r' = k ∧ i' = i ∧ x' = x then y else v1.2 k' r' i' x') = _
  rw [if_neg (by omega)]
  exact h2.2
theorem xf_K.fl {k : Nat} {v v1 : xn_V} (h : xf_K k v v1) {s : Nat} {y : Int64} : xf_K k v (xn_fl v1 k s y) := by
  intro k' r' i' x' hn
  have h2 := h k' r' i' x' hn
  refine ⟨h2.1, ?_⟩
  show (if k' = 20 ∧ r' = k ∧ i' = 0 ∧ x' < s then y else v1.2 k' r' i' x') = _
  rw [if_neg (by omega)]
  exact h2.2
theorem c_C_openNext (l : Launch) (G : xj_G) (v : xn_V) (k : Nat) (hk : k < 2) (t : Nat) (ht : v.1 19 k 0 3 = nI t) : xn_M l G 1 24 m_C_openNext [.ref (xj_ad G (19, k, 0))] v none (xn_fl (xn_uI (xn_uI v 19 k 0 3 (nI (t + 1))) 19 k 0 4 (nI (t + 1))) k 4 1099511627776) := by
  refine xn_M_of (by decide) (Nat.le_of_ble_eq_true rfl) (fun E hE C => ?_)
  subst hE
  replace C : xj_C E G prog_3_method_2_code "ThreePhaseGroup$Client" 1 1 24 0 0 none := C
  show xn_X E G _ 0 0 0 [some (.ref (xj_ad G (19, k, 0)))] [] v
  refine xj_aload_n C a_C_openNext_0 rfl ?_
  refine xj_dup C a_C_openNext_1 rfl ?_
  refine xn_g_C_submitted C a_C_openNext_2 fl_C_15 (by first | assumption | omega) ?_
  refine xj_topi ht ?_
  refine xj_iconst (v := nI 1) C a_C_openNext_5 (by decide) ?_
  refine xj_iadd C a_C_openNext_6 ?_
  refine xj_topi (nI_add _ 1) ?_
  refine xn_p_C_submitted C a_C_openNext_7 fl_C_15 (by first | assumption | omega) ?_
  refine xj_aload_n C a_C_openNext_10 rfl ?_
  refine xj_aload_n C a_C_openNext_11 rfl ?_
  refine xn_g_C_submitted C a_C_openNext_12 fl_C_15 (by first | assumption | omega) ?_
  refine xj_topi (y := nI (t + 1)) (by simp [xn_uI]) ?_
  refine xn_p_C_outstanding C a_C_openNext_15 fl_C_19 (by first | assumption | omega) ?_
  refine xj_aload_n C a_C_openNext_18 rfl ?_
  refine xn_g_C_replies C a_C_openNext_19 fl_C_9 (by first | assumption | omega) ?_
  refine xj_ldc2 C a_C_openNext_22 kl_C_32 ?_
  refine xn_callS2 C a_C_openNext_25 (c_JA_fillJ _ _ _ k hk _) ms_JA_fillJ lk_C_34 ⟨by decide, by decide⟩ rfl (Nat.le_of_ble_eq_true rfl) ⟨Nat.le_refl _, Nat.le_refl _⟩ ?_
  refine xj_vret C a_C_openNext_28 ?_
  exact ⟨rfl, rfl⟩
theorem xp_c4 (P : Nat → Bool) : xp_c P 4 = (if P 0 then 1 else 0) + (if P 1 then 1 else 0) + (if P 2 then 1 else 0) + (if P 3 then 1 else 0) := by
  rw [xp_c_s, xp_c_s, xp_c_s, xp_c_s, xp_c_0]
  omega
theorem xp_c2 {P : Nat → Bool} {f : Nat} (hf : f < 4) (h : P f = true) : 2 ≤ xp_c P 4 ↔ ∃ s, s < 4 ∧ s ≠ f ∧ P s = true := by
  rw [xp_c4]
  constructor
  · intro h2
    apply Classical.byContradiction
    intro hno
    have g : ∀ s, s < 4 → s ≠ f → P s = false := by
      intro s h1 h3
      rw [Bool.eq_false_iff]
      exact fun h4 => hno ⟨s, h1, h3, h4⟩
    rcases (show f = 0 ∨ f = 1 ∨ f = 2 ∨ f = 3 by omega) with rfl | rfl | rfl | rfl
    · rw [g 1 (by omega) (by omega), g 2 (by omega) (by omega), g 3 (by omega) (by omega), h] at h2; simp at h2
    · rw [g 0 (by omega) (by omega), g 2 (by omega) (by omega), g 3 (by omega) (by omega), h] at h2; simp at h2
    · rw [g 0 (by omega) (by omega), g 1 (by omega) (by omega), g 3 (by omega) (by omega), h] at h2; simp at h2
    · rw [g 0 (by omega) (by omega), g 1 (by omega) (by omega), g 2 (by omega) (by omega), h] at h2; simp at h2
  · rintro ⟨s, h1, h2, h3⟩
    rcases (show f = 0 ∨ f = 1 ∨ f = 2 ∨ f = 3 by omega) with rfl | rfl | rfl | rfl <;>
    rcases (show s = 0 ∨ s = 1 ∨ s = 2 ∨ s = 3 by omega) with rfl | rfl | rfl | rfl <;>
    first
      | exact absurd rfl h2
      | (rw [h, h3]; simp only [if_true]; omega)
/-- what a client has taken -/
def xp_ck (k : Nat) (v : xn_V) (B : pg_B) (o : Option pg_C) (a : Option Value) (w' : xj_W) : Prop := match o with
  | none => a = some (.int (nI 0)) ∧ w' = xn_W v
  | some C' => a = some (.int (nI 1)) ∧ ∃ v', w' = xn_W v' ∧ xc_C k B C' v' ∧ xf_K k v v'
theorem c_C_takes (l : Launch) (G : xj_G) (v : xn_V) (k : Nat) (hk : k < 2) (B : pg_B) (C0 : pg_C) (hC : xc_C k B C0 v) (hB : xc_B B v) (hok : pg_cok B C0) (m : Nat) (hm : m < B.1) : xj_Mx l G 1 23 0 0 m_C_takes [.ref (xj_ad G (19, k, 0)), .int (nI m)] (xn_W v) (xp_ck k v B (pg_ans B C0 m k)) := by
  have hz := hB.2.1
  have hw := hB.2.2.1 m hm
  obtain ⟨c1, c2, c3, c4, c5⟩ := hC
  obtain ⟨k1, k2, k3, k4⟩ := hok
  have hop : pg_op C0 < 256 := by omega
  have hl : (nI (pg_op C0)).toInt64 = lN (pg_op C0) := nI_l (by omega)
  obtain ⟨post, hpost⟩ : ∃ post, post = xp_ck k v B (pg_ans B C0 m k) := ⟨_, rfl⟩
  have pno : pg_ans B C0 m k = none → post (some (.int (nI 0))) (xn_W v) := by
    intro h
    rw [hpost, h]
    exact ⟨rfl, rfl⟩
  have pyes : ∀ C', pg_ans B C0 m k = some C' → ∀ v', xc_C k B C' v' → xf_K k v v' → post (some (.int (nI 1))) (xn_W v') := by
    intro C' h v' h1 h2
    rw [hpost, h]
    exact ⟨rfl, v', rfl, h1, h2⟩
  rw [← hpost]
  refine xj_Mx_of (by decide) (Nat.le_of_ble_eq_true rfl) (fun E hE C _ => ?_)
  subst hE
  replace C : xj_C E G prog_3_method_3_code "ThreePhaseGroup$Client" 3 1 23 0 0 (some .boolean) := C
  show xn_X E G _ 0 0 0 [some (.ref (xj_ad G (19, k, 0))), some (.int (nI m)), none] [] v
  have no1 : pg_ans B C0 m k = none → xn_X E G (xj_R E G post 0 0) 0 0 20 [some (.ref (xj_ad G (19, k, 0))), some (.int (nI m)), none] [] v := by
    intro h
    refine xj_iconst (v := nI 0) C a_C_takes_20 (by decide) ?_
    exact xj_zret C a_C_takes_21 rfl (pno h)
  have no2 : pg_ans B C0 m k = none → ∀ z : Option Value, xn_X E G (xj_R E G post 0 0) 0 0 79 [some (.ref (xj_ad G (19, k, 0))), some (.int (nI m)), z] [] v := by
    intro h z
    refine xj_iconst (v := nI 0) C a_C_takes_79 (by decide) ?_
    exact xj_zret C a_C_takes_80 rfl (pno h)
  refine xj_aload_n C a_C_takes_0 rfl ?_
  refine xn_g_C_board C a_C_takes_1 fl_C_28 (by first | assumption | omega) ?_
  refine xn_g_B_kind C a_C_takes_4 fl_C_40 ?_
  refine xj_iload_n C a_C_takes_7 rfl ?_
  refine xn_ld_2 C a_C_takes_8 (by first | assumption | omega) ?_
  refine xj_topi (hB.k hm) ?_
  refine xj_iconst (v := nI 4) C a_C_takes_9 (by decide) ?_
  refine xj_icmp_ne C a_C_takes_10 rfl (fun h10 => ?_) (fun h10 => ?_)
  · have h10 : ¬ pg_k B m = 4 := by
      intro e
      exact h10 (by rw [e])
    exact no1 (by unfold pg_ans; rw [if_pos (Or.inl h10)])
  · have h10 : pg_k B m = 4 := by
      have : nI (pg_k B m) = nI 4 := by simpa using h10
      rwa [nI_eq (by omega) (by omega)] at this
    have hf4 : pg_f B m < 4 := pg_wf4 hB.2.2.1 hm (by omega)
    refine xj_aload_n C a_C_takes_13 rfl ?_
    refine xn_g_C_outstanding C a_C_takes_14 fl_C_19 (by first | assumption | omega) ?_
    refine xj_topi c3 ?_
    refine xj_if_ne C a_C_takes_17 rfl (fun h17 => ?_) (fun h17 => ?_)
    · have h17 : ¬ pg_op C0 = 0 := fun e => h17 (by rw [e]; rfl)
      have hrp := c5 h17
      refine xj_aload_n C a_C_takes_22 rfl ?_
      refine xn_g_C_board C a_C_takes_23 fl_C_28 (by first | assumption | omega) ?_
      refine xn_g_B_sender C a_C_takes_26 fl_C_46 ?_
      refine xj_iload_n C a_C_takes_29 rfl ?_
      refine xn_ld_3 C a_C_takes_30 (by first | assumption | omega) ?_
      refine xj_topi (hB.f hm) ?_
      refine xj_istore2 C a_C_takes_31 rfl ?_
      refine xj_aload_n C a_C_takes_32 rfl ?_
      refine xn_g_C_board C a_C_takes_33 fl_C_28 (by first | assumption | omega) ?_
      refine xn_g_B_a C a_C_takes_36 fl_C_49 ?_
      refine xj_iload_n C a_C_takes_39 rfl ?_
      refine xn_ld_4 C a_C_takes_40 (by first | assumption | omega) ?_
      refine xj_topi (hB.a hm) ?_
      refine xj_aload_n C a_C_takes_41 rfl ?_
      refine xn_g_C_self C a_C_takes_42 fl_C_25 (by first | assumption | omega) ?_
      refine xj_topi c1 ?_
      refine xj_icmp_ne C a_C_takes_45 rfl (fun h45 => ?_) (fun h45 => ?_)
      · exact no2 (by unfold pg_ans; rw [if_pos (Or.inr (Or.inl h45))]) _
      · have h45 : pg_a B m = nI k := by simpa using h45
        refine xj_aload_n C a_C_takes_48 rfl ?_
        refine xn_g_C_board C a_C_takes_49 fl_C_28 (by first | assumption | omega) ?_
        refine xn_g_B_b C a_C_takes_52 fl_C_52 ?_
        refine xj_iload_n C a_C_takes_55 rfl ?_
        refine xn_ld_5 C a_C_takes_56 (by first | assumption | omega) ?_
        refine xj_topl (hB.b hm) ?_
        refine xj_aload_n C a_C_takes_57 rfl ?_
        refine xn_g_C_outstanding C a_C_takes_58 fl_C_19 (by first | assumption | omega) ?_
        refine xj_topi c3 ?_
        refine xj_i2l C a_C_takes_61 ?_
        refine xj_topl hl ?_
        refine xj_lcmp C a_C_takes_62 ?_
        refine xj_if_ne C a_C_takes_63 rfl (fun h63 => ?_) (fun h63 => ?_)
        · rw [xp_cmp_ne] at h63
          exact no2 (by unfold pg_ans; rw [if_pos (Or.inr (Or.inr (Or.inr h63)))]) _
        · rw [xp_cmp_ne] at h63
          have h63 : pg_b B m = lN (pg_op C0) := by simpa using h63
          have hun : pg_rp B C0 (pg_f B m) = 1099511627776 ↔ (List.range B.1).any (fun i => pg_tk C0 i == 1 && (pg_b B i == pg_b B m && pg_f B i == pg_f B m)) = false := by
            unfold pg_rp
            rw [h63]
            cases e : (List.range B.1).find? (fun i => pg_tk C0 i == 1 && (pg_b B i == lN (pg_op C0) && pg_f B i == pg_f B m)) with
            | none =>
              refine ⟨fun _ => ?_, fun _ => rfl⟩
              rw [List.any_eq_false]
              exact List.find?_eq_none.mp e
            | some i =>
              constructor
              · intro h; exact absurd h (xp_unn _)
              · intro h
                rw [List.any_eq_false] at h
                exact absurd (List.find?_some e) (h i (List.mem_of_find?_eq_some e))
          refine xj_aload_n C a_C_takes_66 rfl ?_
          refine xn_g_C_replies C a_C_takes_67 fl_C_9 (by first | assumption | omega) ?_
          refine xj_iload_n C a_C_takes_70 rfl ?_
          refine xn_ld_20 C a_C_takes_71 (by first | assumption | omega) (by first | assumption | omega) ?_
          refine xj_topl (hrp (pg_f B m) hf4) ?_
          refine xj_ldc2 C a_C_takes_72 kl_C_32 ?_
          refine xj_lcmp C a_C_takes_75 ?_
          refine xj_if_eq C a_C_takes_76 rfl (fun h76 => ?_) (fun h76 => ?_)
          · rw [xp_cmp_eq, hun] at h76
            have eans : pg_ans B C0 m k = if (List.range B.1).any (fun i => pg_tk C0 i == 1 && (pg_b B i == pg_b B m && pg_c B i == pg_c B m)) then some (pg_cw (pg_cw C0 2 m 1 C0.2) 1 0 0 (pg_c B m)) else some (pg_cw C0 2 m 1 C0.2) := by
              unfold pg_ans
              rw [if_neg (by rintro (h | h | h | h) <;> first | exact h h10 | exact h h45 | exact h17 h | exact h h63), if_neg (by rw [h76]; decide)]
            have hfree : ∀ i, i < B.1 → pg_tk C0 i = 1 → pg_b B i = lN (pg_op C0) → ¬ pg_f B i = pg_f B m := by
              intro i hi h1 h2 h3
              rw [List.any_eq_false] at h76
              exact h76 i (List.mem_range.mpr hi) (by simp [h1, h2, h3, h63])
            have cel : ∀ s, (xn_uJ v 20 k 0 (pg_f B m) (pg_c B m).toInt64).2 20 k 0 s = if s = pg_f B m then (pg_c B m).toInt64 else v.2 20 k 0 s := by
              intro s
              show (if 20 = 20 ∧ k = k ∧ 0 = 0 ∧ s = pg_f B m then _ else _) = _
              simp
            have twice : 2 ≤ xp_c (fun s => decide ((xn_uJ v 20 k 0 (pg_f B m) (pg_c B m).toInt64).2 20 k 0 s = (pg_c B m).toInt64)) 4 ↔ (List.range B.1).any (fun i => pg_tk C0 i == 1 && (pg_b B i == pg_b B m && pg_c B i == pg_c B m)) = true := by
              rw [xp_c2 hf4 (by rw [cel, if_pos rfl]; simp), List.any_eq_true]
              constructor
              · rintro ⟨s, s1, s2, s3⟩
                rw [cel, if_neg s2, hrp s s1, decide_eq_true_eq] at s3
                unfold pg_rp at s3
                cases e : (List.range B.1).find? (fun i => pg_tk C0 i == 1 && (pg_b B i == lN (pg_op C0) && pg_f B i == s)) with
                | none => rw [e] at s3; exact absurd s3.symm (xp_unn _)
                | some i =>
                  rw [e] at s3
                  have h4 := List.find?_some e
                  simp only [Bool.and_eq_true, beq_iff_eq] at h4
                  refine ⟨i, List.mem_of_find?_eq_some e, ?_⟩
                  simp [h4.1, h4.2.1, h63, xp_toL s3]
              · rintro ⟨i, i1, i2⟩
                simp only [Bool.and_eq_true, beq_iff_eq] at i2
                have hi := List.mem_range.mp i1
                have hne := hfree i hi i2.1 (by rw [i2.2.1, h63])
                have hk4 := k3 i i2.1
                have hfi : pg_f B i < 4 := pg_wf4 hB.2.2.1 hi (by omega)
                refine ⟨pg_f B i, hfi, hne, ?_⟩
                rw [cel, if_neg hne, hrp _ hfi, decide_eq_true_eq]
                unfold pg_rp
                cases e : (List.range B.1).find? (fun j => pg_tk C0 j == 1 && (pg_b B j == lN (pg_op C0) && pg_f B j == pg_f B i)) with
                | none =>
                  have h4 := List.find?_eq_none.mp e i i1
                  exact absurd (by simp [i2.1, i2.2.1, h63]) h4
                | some j =>
                  have h4 := List.find?_some e
                  simp only [Bool.and_eq_true, beq_iff_eq] at h4
                  have : j = i := k4 j i h4.1 i2.1 (by rw [h4.2.1, i2.2.1, h63]) h4.2.2
                  subst this
                  show (pg_c B j).toInt64 = _
                  rw [i2.2.2]
            have hB1 : xc_B B (xn_uJ v 20 k 0 (pg_f B m) (pg_c B m).toInt64) := by
              obtain ⟨b1, b2, b3, b4⟩ := hB
              refine ⟨b1, b2, b3, fun q hq => ?_⟩
              simpa [xn_uJ] using b4 q hq
            have hle := xp_c_le (fun s => decide ((xn_uJ v 20 k 0 (pg_f B m) (pg_c B m).toInt64).2 20 k 0 s = (pg_c B m).toInt64)) 4
            refine xj_aload_n C a_C_takes_81 rfl ?_
            refine xn_g_C_replies C a_C_takes_82 fl_C_9 (by first | assumption | omega) ?_
            refine xj_iload_n C a_C_takes_85 rfl ?_
            refine xj_aload_n C a_C_takes_86 rfl ?_
            refine xn_g_C_board C a_C_takes_87 fl_C_28 (by first | assumption | omega) ?_
            refine xn_g_B_c C a_C_takes_90 fl_C_55 ?_
            refine xj_iload_n C a_C_takes_93 rfl ?_
            refine xn_ld_6 C a_C_takes_94 (by first | assumption | omega) ?_
            refine xj_topi (hB.c hm) ?_
            refine xj_i2l C a_C_takes_95 ?_
            refine xn_st_20 C a_C_takes_96 (by first | assumption | omega) (by first | assumption | omega) ?_
            refine xj_aload_n C a_C_takes_97 rfl ?_
            refine xj_aload_n C a_C_takes_98 rfl ?_
            refine xn_g_C_board C a_C_takes_99 fl_C_28 (by first | assumption | omega) ?_
            refine xn_g_B_c C a_C_takes_102 fl_C_55 ?_
            refine xj_iload_n C a_C_takes_105 rfl ?_
            refine xn_ld_6 C a_C_takes_106 (by first | assumption | omega) ?_
            refine xj_topi (hB1.c hm) ?_
            refine xn_callV1i C a_C_takes_107 (c_C_countReplies _ _ _ k hk _) mv_C_countReplies lk_C_58 ⟨rfl, rfl, rfl⟩ (xj_ok19 (by first | assumption | omega)) ⟨by decide, by decide⟩ rfl (Nat.le_of_ble_eq_true rfl) ⟨Nat.le_refl _, Nat.le_refl _⟩ ?_
            refine xj_iconst (v := nI 2) C a_C_takes_110 (by decide) ?_
            refine xj_icmp_lt C a_C_takes_111 rfl (fun h111 => ?_) (fun h111 => ?_)
            · rw [nI_ltI (by omega) (by omega)] at h111
              have htw : ¬ (List.range B.1).any (fun i => pg_tk C0 i == 1 && (pg_b B i == pg_b B m && pg_c B i == pg_c B m)) = true := by rw [← twice]; omega
              refine xj_iconst (v := nI 1) C a_C_takes_132 (by decide) ?_
              refine xj_zret C a_C_takes_133 rfl (pyes (pg_cw C0 2 m 1 C0.2) (by rw [eans, if_neg htw]) _ ?_ ((xf_K.rf k v).uJ))
              refine ⟨c1, c2, c3, c4, fun _ s hs => ?_⟩
              rw [cel]
              by_cases e : s = pg_f B m
              · rw [if_pos e]
                unfold pg_rp
                rw [xp_find_some (m := m) hm]
                · show ((if 2 = 2 ∧ m = m then 1 else pg_tk C0 m) == 1 && _) = true
                  rw [if_pos ⟨rfl, rfl⟩]
                  show (pg_b B m == lN (pg_op C0) && pg_f B m == s) = true
                  rw [h63, e]
                  simp
                · intro i hi
                  show ((if 2 = 2 ∧ i = m then 1 else pg_tk C0 i) == 1 && (pg_b B i == lN (pg_op C0) && pg_f B i == s)) = false
                  rw [if_neg (by omega), Bool.eq_false_iff]
                  intro h
                  simp only [Bool.and_eq_true, beq_iff_eq] at h
                  exact hfree i (by omega) h.1 h.2.1 (by rw [h.2.2, e])
              · rw [if_neg e, hrp s hs]
                unfold pg_rp
                rw [xp_find_congr (P := fun i => pg_tk (pg_cw C0 2 m 1 C0.2) i == 1 && (pg_b B i == lN (pg_op (pg_cw C0 2 m 1 C0.2)) && pg_f B i == s))]
                intro i _
                show (pg_tk C0 i == 1 && (pg_b B i == lN (pg_op C0) && pg_f B i == s)) = ((if 2 = 2 ∧ i = m then 1 else pg_tk C0 i) == 1 && (pg_b B i == lN (pg_op C0) && pg_f B i == s))
                by_cases e2 : i = m
                · subst e2
                  have : (pg_f B i == s) = false := by simpa using fun h => e (h : pg_f B i = s).symm
                  rw [this, Bool.and_false, Bool.and_false, Bool.and_false]
                · rw [if_neg (by omega)]
            · rw [nI_ltI (by omega) (by omega)] at h111
              have htw : (List.range B.1).any (fun i => pg_tk C0 i == 1 && (pg_b B i == pg_b B m && pg_c B i == pg_c B m)) = true := by rw [← twice]; omega
              refine xj_aload_n C a_C_takes_114 rfl ?_
              refine xj_aload_n C a_C_takes_115 rfl ?_
              refine xn_g_C_board C a_C_takes_116 fl_C_28 (by first | assumption | omega) ?_
              refine xn_g_B_c C a_C_takes_119 fl_C_55 ?_
              refine xj_iload_n C a_C_takes_122 rfl ?_
              refine xn_ld_6 C a_C_takes_123 (by first | assumption | omega) ?_
              refine xj_topi (hB1.c hm) ?_
              refine xn_p_C_latestAnswer C a_C_takes_124 fl_C_22 (by first | assumption | omega) ?_
              refine xj_aload_n C a_C_takes_127 rfl ?_
              refine xj_iconst (v := nI 0) C a_C_takes_128 (by decide) ?_
              refine xn_p_C_outstanding C a_C_takes_129 fl_C_19 (by first | assumption | omega) ?_
              refine xj_iconst (v := nI 1) C a_C_takes_132 (by decide) ?_
              refine xj_zret C a_C_takes_133 rfl (pyes (pg_cw (pg_cw C0 2 m 1 C0.2) 1 0 0 (pg_c B m)) (by rw [eans, if_pos htw]) _ ?_ (((xf_K.rf k v).uJ).uI).uI)
              refine ⟨by simpa [xn_uI, xn_uJ] using c1, ?_, ?_, ?_, fun h => absurd rfl h⟩
              · show (if 19 = 19 ∧ k = k ∧ 0 = 0 ∧ 3 = 4 then _ else if 19 = 19 ∧ k = k ∧ 0 = 0 ∧ 3 = 5 then _ else v.1 19 k 0 3) = nI (pg_sm C0)
                rw [if_neg (by omega), if_neg (by omega)]
                exact c2
              · show (if 19 = 19 ∧ k = k ∧ 0 = 0 ∧ 4 = 4 then nI 0 else _) = nI 0
                rw [if_pos ⟨rfl, rfl, rfl, rfl⟩]
              · show (if 19 = 19 ∧ k = k ∧ 0 = 0 ∧ 5 = 4 then _ else if 19 = 19 ∧ k = k ∧ 0 = 0 ∧ 5 = 5 then pg_c B m else v.1 19 k 0 5) = pg_c B m
                rw [if_neg (by omega), if_pos ⟨rfl, rfl, rfl, rfl⟩]
          · rw [xp_cmp_eq, hun] at h76
            have h76 : (List.range B.1).any (fun i => pg_tk C0 i == 1 && (pg_b B i == pg_b B m && pg_f B i == pg_f B m)) = true := by simpa using h76
            refine no2 ?_ _
            unfold pg_ans
            rw [if_neg (by rintro (h | h | h | h) <;> first | exact h h10 | exact h h45 | exact h17 h | exact h h63), if_pos h76]
    · have h17 : pg_op C0 = 0 := by
        have : nI (pg_op C0) = nI 0 := (by simpa using h17 : nI (pg_op C0) = 0)
        rwa [nI_eq (by omega) (by omega)] at this
      exact no1 (by unfold pg_ans; rw [if_pos (Or.inr (Or.inr (Or.inl h17)))])
