/-! the constructors: words, and the initial values -/
theorem ol_i : Cond.instanceMethod Lib.objectInit ∈ xj_GW := (xj_in1 (List.mem_of_getElem? (i := 18) rfl) rfl)
theorem ol_c : Cond.code Lib.objectInit ⟨#[0xb1]⟩ 1 none ∈ xj_GW := (xj_in1 (List.mem_of_getElem? (i := 19) rfl) rfl)
theorem ol_G : Cond.methodLink "ThreePhaseGroup" 3 Lib.objectInit ∈ xj_GW := (xj_in1 (List.mem_of_getElem? (i := 17) rfl) rfl)
theorem ol_B : Cond.methodLink "ThreePhaseGroup$Board" 3 Lib.objectInit ∈ xj_GW := (xj_in1 (List.mem_of_getElem? (i := 25) rfl) rfl)
theorem ol_R : Cond.methodLink "ThreePhaseGroup$Replica" 3 Lib.objectInit ∈ xj_GW := (xj_in1 (List.mem_of_getElem? (i := 80) rfl) rfl)
theorem ol_N : Cond.methodLink "ThreePhaseGroup$Numbers" 3 Lib.objectInit ∈ xj_GW := (xj_in1 (List.mem_of_getElem? (i := 88) rfl) rfl)
theorem ol_S : Cond.methodLink "ThreePhaseGroup$Slot" 3 Lib.objectInit ∈ xj_GW := (xj_in1 (List.mem_of_getElem? (i := 102) rfl) rfl)
theorem ol_C : Cond.methodLink "ThreePhaseGroup$Client" 3 Lib.objectInit ∈ xj_GW := (xj_in1 (List.mem_of_getElem? (i := 187) rfl) rfl)
theorem ol_T : Cond.methodLink "ThreePhaseGroupModel" 1 Lib.objectInit ∈ xj_GW := (xj_in3 (List.mem_of_getElem? (i := 152) rfl) rfl)
theorem dv_G : ∀ x, x < 5 → defaultValue (xj_t0 x) = xj_dv (xj_typ 0 x) := fun x hx => match x, hx with
  | 0, _ => rfl
  | 1, _ => rfl
  | 2, _ => rfl
  | 3, _ => rfl
  | 4, _ => rfl
  | x + 5, h => absurd h (by omega)
theorem dv_B : ∀ x, x < 8 → defaultValue (xj_t1 x) = xj_dv (xj_typ 1 x) := fun x hx => match x, hx with
  | 0, _ => rfl
  | 1, _ => rfl
  | 2, _ => rfl
  | 3, _ => rfl
  | 4, _ => rfl
  | 5, _ => rfl
  | 6, _ => rfl
  | 7, _ => rfl
  | x + 8, h => absurd h (by omega)
theorem dv_R : ∀ x, x < 14 → defaultValue (xj_t2 x) = xj_dv (xj_typ 11 x) := fun x hx => match x, hx with
  | 0, _ => rfl
  | 1, _ => rfl
  | 2, _ => rfl
  | 3, _ => rfl
  | 4, _ => rfl
  | 5, _ => rfl
  | 6, _ => rfl
  | 7, _ => rfl
  | 8, _ => rfl
  | 9, _ => rfl
  | 10, _ => rfl
  | 11, _ => rfl
  | 12, _ => rfl
  | 13, _ => rfl
  | x + 14, h => absurd h (by omega)
theorem dv_S : ∀ x, x < 5 → defaultValue (xj_t3 x) = xj_dv (xj_typ 13 x) := fun x hx => match x, hx with
  | 0, _ => rfl
  | 1, _ => rfl
  | 2, _ => rfl
  | 3, _ => rfl
  | 4, _ => rfl
  | x + 5, h => absurd h (by omega)
theorem dv_N : ∀ x, x < 2 → defaultValue (xj_t4 x) = xj_dv (xj_typ 16 x) := fun x hx => match x, hx with
  | 0, _ => rfl
  | 1, _ => rfl
  | x + 2, h => absurd h (by omega)
theorem dv_C : ∀ x, x < 6 → defaultValue (xj_t5 x) = xj_dv (xj_typ 19 x) := fun x hx => match x, hx with
  | 0, _ => rfl
  | 1, _ => rfl
  | 2, _ => rfl
  | 3, _ => rfl
  | 4, _ => rfl
  | 5, _ => rfl
  | x + 6, h => absurd h (by omega)
theorem dv_T : ∀ x, x < 27 → defaultValue (xj_t6 x) = xj_dv (xj_typ 21 x) := fun x hx => match x, hx with
  | 0, _ => rfl
  | 1, _ => rfl
  | 2, _ => rfl
  | 3, _ => rfl
  | 4, _ => rfl
  | 5, _ => rfl
  | 6, _ => rfl
  | 7, _ => rfl
  | 8, _ => rfl
  | 9, _ => rfl
  | 10, _ => rfl
  | 11, _ => rfl
  | 12, _ => rfl
  | 13, _ => rfl
  | 14, _ => rfl
  | 15, _ => rfl
  | 16, _ => rfl
  | 17, _ => rfl
  | 18, _ => rfl
  | 19, _ => rfl
  | 20, _ => rfl
  | 21, _ => rfl
  | 22, _ => rfl
  | 23, _ => rfl
  | 24, _ => rfl
  | 25, _ => rfl
  | 26, _ => rfl
  | x + 27, h => absurd h (by omega)
theorem xj_okn {p : xj_Pl} {n : Nat} (h : xj_ok p 116) (hn : xj_ix p < n) : xj_ok p n := ⟨h.1, hn⟩
theorem xj_pn {p : xj_Pl} {w : xj_W} (h : xj_ok p 116) (e : w.2.2 = xj_ix p) : xj_PL[w.2.2]? = some p := by rw [e]; exact h.1
/-- what the ints and longs are at the start -/
def xm_I (k r x : Nat) : Int32 := match k with
  | 0 => if x = 4 then -2 else 0
  | 11 => if x = 0 then nI r else if x = 12 then nI 4 else 0
  | 13 => if x = 2 ∨ x = 3 then -2 else 0
  | 18 => -2
  | 19 => if x = 0 then nI r else if x = 5 then -1 else 0
  | 21 => if x = 20 then -1 else 0
  | 35 => nI 4
  | 43 => -1
  | _ => 0
def xm_J (k : Nat) : Int64 := if k = 14 ∨ k = 15 then 1099511627776 else 0
/-- a place is as it is at the start -/
def xm_at (w : xj_W) (k r i : Nat) : Prop := ∀ x, x < xj_len k → w.1.1 k r i x = xm_I k r x ∧ w.1.2 k r i x = xm_J k ∧ (xj_knd k = 3 ∨ (xj_knd k = 4 ∧ xj_typ k x = 2) → w.2.1 k r i x = xj_K0 k r i x)
theorem xm_at.same {w w' : xj_W} {k r i : Nat} (h : xm_at w k r i) (h1 : ∀ x, w'.1.1 k r i x = w.1.1 k r i x ∧ w'.1.2 k r i x = w.1.2 k r i x ∧ w'.2.1 k r i x = w.2.1 k r i x) : xm_at w' k r i := by
  intro x hx
  obtain ⟨g1, g2, g3⟩ := h1 x
  rw [g1, g2, g3]
  exact h x hx
theorem xm_nr {k : Nat} {P Q : Prop} (h3 : ¬ xj_knd k = 3) (h4 : ¬ xj_knd k = 4) (h : xj_knd k = 3 ∨ (xj_knd k = 4 ∧ P)) : Q := by
  rcases h with h | h
  · exact absurd h h3
  · exact absurd h.1 h4
/-- what a constructor leaves: so many places, the others as they were, its own as at the start -/
def xm_post (w : xj_W) (n : Nat) (S : Nat → Nat → Nat → Prop) (D : xj_W → Prop) (a : Option Value) (w' : xj_W) : Prop := a = none ∧ w'.2.2 = n ∧ xj_Z w' ∧ (∀ k r i x, ¬ S k r i → w'.1.1 k r i x = w.1.1 k r i x ∧ w'.1.2 k r i x = w.1.2 k r i x ∧ w'.2.1 k r i x = w.2.1 k r i x) ∧ D w'
theorem c_N_init (l : Launch) (G : xj_G) (w : xj_W) (r i : Nat) (hr : r < 4) (hi : i < 2) (hn : w.2.2 = 14 + 19 * r + 2 * i) (hZ : xj_Z w) (h0 : ∀ x, w.1.1 16 r i x = 0 ∧ w.1.2 16 r i x = 0 ∧ w.2.1 16 r i x = none) : xj_Mx l G 1 20 1 256 m_N_init [.ref (xj_ad G (16, r, i))] w (xm_post w (15 + 19 * r + 2 * i) (fun k r' i' => (k = 16 ∨ k = 17) ∧ r' = r ∧ i' = i) (fun w' => xm_at w' 16 r i ∧ xm_at w' 17 r i)) := by
  refine xj_Mx_of (by decide) (Nat.le_of_ble_eq_true rfl) (fun E hE C hnm => ?_)
  subst hE
  replace C : xj_C E G prog_4_method_1_code "ThreePhaseGroup$Numbers" 1 1 20 _ _ none := C
  show xj_X E G _ 0 0 0 [some (.ref (xj_ad G (16, r, i)))] [] w
  have h17 : ∀ x, w.1.1 17 r i x = 0 ∧ w.1.2 17 r i x = 0 ∧ w.2.1 17 r i x = none := fun x => hZ _ _ _ _ (Nat.le_refl _) (xj_pn (xj_ok17 hr hi) (show w.2.2 = 14 + 19 * r + 2 * i by omega)) x
  refine xj_aload_n C a_N_init_0 rfl ?_
  refine xj_oinit C a_N_init_1 ol_N ol_i ol_c ⟨by decide, by decide⟩ rfl (by decide) ?_
  refine xj_aload_n C a_N_init_4 rfl ?_
  refine xj_sipush (v := nI 256) C a_N_init_5 (by decide) ?_
  refine xj_newI (k := 17) (r := r) (i := i) C a_N_init_8 ⟨rfl, by decide⟩ (xj_pn (xj_ok17 (by first | assumption | omega) (by first | assumption | omega)) (show w.2.2 + 0 = 14 + 19 * r + 2 * i by omega)) hZ (by decide) ?_
  have hz1 := hZ.n1
  refine xj_pK (x := 0) (p2 := (17, r, i)) C a_N_init_10 cf_N fw_N_9 ⟨rfl, rfl, rfl⟩ (by decide) rfl (xj_okn (xj_ok16 (by first | assumption | omega) (by first | assumption | omega)) (show 13 + 19 * r + 2 * i < w.2.2 + 1 by omega)) ⟨rfl, rfl⟩ hnm (fun _ => ⟨rfl, rfl⟩) ?_
  have hz2 := hz1.uK (k := 16) (r := r) (i := i) (x := 0) (y := some (17, r, i)) (xj_okn (xj_ok16 (by first | assumption | omega) (by first | assumption | omega)) (show 13 + 19 * r + 2 * i < w.2.2 + 1 by omega))
  refine xj_aload_n C a_N_init_13 rfl ?_
  refine xj_iconst (v := nI 0) C a_N_init_14 (by decide) ?_
  refine xj_pI (x := 1) C a_N_init_15 cf_N fw_N_15 ⟨rfl, rfl, rfl⟩ (by decide) rfl (xj_okn (xj_ok16 (by first | assumption | omega) (by first | assumption | omega)) (show 13 + 19 * r + 2 * i < w.2.2 + 1 by omega)) (Or.inl rfl) hnm ⟨rfl, rfl⟩ ?_
  have hz3 := hz2.uI (k := 16) (r := r) (i := i) (x := 1) (y := nI 0) (xj_okn (xj_ok16 (by first | assumption | omega) (by first | assumption | omega)) (show 13 + 19 * r + 2 * i < w.2.2 + 1 by omega))
  refine xj_vret C a_N_init_18 ?_
  refine ⟨rfl, by show w.2.2 + 1 = _; omega, hz3, fun k r' i' x hS => ?_, fun x hx => ?_, fun x hx => ?_⟩
  · refine ⟨?_, rfl, ?_⟩
    · show (if k = 16 ∧ r' = r ∧ i' = i ∧ x = 1 then _ else _) = _
      rw [if_neg (by rintro ⟨rfl, rfl, rfl, -⟩; exact hS ⟨Or.inl rfl, rfl, rfl⟩)]
      rfl
    · show (if k = 16 ∧ r' = r ∧ i' = i ∧ x = 0 then _ else _) = _
      rw [if_neg (by rintro ⟨rfl, rfl, rfl, -⟩; exact hS ⟨Or.inl rfl, rfl, rfl⟩)]
      rfl
  · match x, hx with
    | 0, _ => exact ⟨by simpa [xj_uI, xj_uK, xj_n1, xm_I] using (h0 0).1, by simpa [xj_uI, xj_uK, xj_n1, xm_J] using (h0 0).2.1, fun _ => by simp [xj_uI, xj_uK, xj_n1, xj_K0]⟩
    | 1, _ => exact ⟨by simp [xj_uI, xm_I]; rfl, by simpa [xj_uI, xj_uK, xj_n1, xm_J] using (h0 1).2.1, fun h => absurd h (by decide)⟩
    | x + 2, h => exact absurd h (by show ¬ x + 2 < 2; omega)
  · exact ⟨by simpa [xj_uI, xj_uK, xj_n1, xm_I] using (h17 x).1, by simpa [xj_uI, xj_uK, xj_n1, xm_J] using (h17 x).2.1, fun h => xm_nr (by decide) (by decide) h⟩
