/-! settling at a stable checkpoint -/
/-- the noted CHECKPOINTs: none has a field c; one of a sender for a number; certified ones have small numbers -/
def pg_cu (S : pg_S) : Prop := (∀ i, i < S.1.1 → pg_k S.1 i = 7 → pg_c S.1 i = 0) ∧ (∀ i j, i < S.1.1 → j < S.1.1 → pg_no S.2 i = 1 → pg_no S.2 j = 1 → pg_k S.1 i = 7 → pg_k S.1 j = 7 → pg_f S.1 i = pg_f S.1 j → pg_a S.1 i = pg_a S.1 j → i = j) ∧ ∀ i, i < S.1.1 → pg_no S.2 i = 1 → pg_k S.1 i = 7 → 3 ≤ pg_hr S 7 (pg_a S.1 i) (pg_b S.1 i) 0 → (pg_a S.1 i).toInt < 400
def xp_lk (S : pg_S) (m i : Nat) : Bool := pg_a S.1 i == pg_a S.1 m && pg_b S.1 i == pg_b S.1 m
theorem xp_lk_cnt {S : pg_S} {cl : List Nat} (hc : ∀ q, q ∈ cl ↔ (q < S.1.1 ∧ pg_no S.2 q = 1 ∧ pg_k S.1 q = 7)) (hu : pg_cu S) (m : Nat) : pg_cnt cl.length (fun j => pg_f S.1 (cl.getD j 0)) (fun j => xp_lk S m (cl.getD j 0)) 9 = pg_hr S 7 (pg_a S.1 m) (pg_b S.1 m) 0 := by
  unfold pg_hr pg_cnt
  congr 1
  apply List.filter_congr
  intro s _
  congr 1
  rw [Bool.eq_iff_iff, List.any_eq_true, List.any_eq_true]
  constructor
  · rintro ⟨j, h1, h2⟩
    have hj := List.mem_range.mp h1
    have hg : cl.getD j 0 = cl[j] := by simp [hj]
    dsimp only at h2
    rw [hg] at h2
    obtain ⟨q1, q2, q3⟩ := (hc cl[j]).mp (List.getElem_mem hj)
    unfold xp_lk at h2
    simp only [Bool.and_eq_true, beq_iff_eq] at h2
    refine ⟨cl[j], List.mem_range.mpr q1, ?_⟩
    simp [h2.1, h2.2.1, h2.2.2, q2, q3, hu.1 _ q1 q3]
  · rintro ⟨i, h1, h2⟩
    simp only [Bool.and_eq_true, beq_iff_eq] at h2
    obtain ⟨g1, g2, g3, g4, g5, g6⟩ := h2
    obtain ⟨j, hj, e⟩ := List.getElem_of_mem ((hc i).mpr ⟨List.mem_range.mp h1, g2, g3⟩)
    refine ⟨j, List.mem_range.mpr hj, ?_⟩
    have hg : cl.getD j 0 = i := by simp [hj, e]
    dsimp only
    rw [hg]
    unfold xp_lk
    simp [g1, g4, g5]
theorem c_R_countNotedLike (l : Launch) (G : xj_G) (v : xn_V) (r : Nat) (hr : r < 4) (S : pg_S) (hB : xc_B S.1 v) (hu : pg_cu S) (cl : List Nat) (hC : xc_L r 1 cl v) (hc : ∀ q, q ∈ cl ↔ (q < S.1.1 ∧ pg_no S.2 q = 1 ∧ pg_k S.1 q = 7)) (m : Nat) (hm : m < S.1.1) : xn_M l G 1 20 m_R_countNotedLike [.ref (xj_ad G (11, r, 0)), .int (nI m)] v (some (.int (nI (pg_hr S 7 (pg_a S.1 m) (pg_b S.1 m) 0)))) v := by
  have hz := hB.2.1
  have hl := hC.2.1
  rw [← xp_lk_cnt hc hu m]
  have hf4 : ∀ j, j < cl.length → pg_f S.1 (cl.getD j 0) < 4 := by
    intro j hj
    have hg : cl.getD j 0 = cl[j] := by simp [hj]
    rw [hg]
    obtain ⟨q1, q2, q3⟩ := (hc cl[j]).mp (List.getElem_mem hj)
    exact pg_wf4 hB.2.2.1 q1 (by omega)
  refine xn_M_of (by decide) (Nat.le_of_ble_eq_true rfl) (fun E hE C => ?_)
  subst hE
  replace C : xj_C E G prog_5_method_26_code "ThreePhaseGroup$Replica" 5 1 20 0 0 (some .int) := C
  show xn_X E G _ 0 0 0 [some (.ref (xj_ad G (11, r, 0))), some (.int (nI m)), none, none, none] [] v
  generalize hP : (fun j => xp_lk S m (cl.getD j 0)) = P
  generalize hf : (fun j => pg_f S.1 (cl.getD j 0)) = f
  refine xj_iconst (v := nI 0) C a_R_countNotedLike_0 (by decide) ?_
  refine xj_istore2 C a_R_countNotedLike_1 rfl ?_
  refine xj_iconst (v := nI 0) C a_R_countNotedLike_2 (by decide) ?_
  refine xj_istore3 C a_R_countNotedLike_3 rfl ?_
  have loop : ∀ n j : Nat, j ≤ cl.length → cl.length - j < n → ∀ z : Option Value, xn_X E G (xj_R E G (fun a' w' => a' = some (.int (nI (pg_cnt cl.length f P 9))) ∧ w' = xn_W v) 0 0) 0 0 4 [some (.ref (xj_ad G (11, r, 0))), some (.int (nI m)), some (.int (nI (xp_mk P f j))), some (.int (nI j)), z] [] v := by
    intro n
    induction n with
    | zero => intro j _ h; omega
    | succ n ih =>
      intro j hj hn z
      refine xj_iload_n C a_R_countNotedLike_4 rfl ?_
      refine xj_aload_n C a_R_countNotedLike_5 rfl ?_
      refine xn_g_R_checkpoints C a_R_countNotedLike_6 fl_R_24 (by first | assumption | omega) ?_
      refine xn_g_N_size C a_R_countNotedLike_9 fl_R_90 (by first | assumption | omega) (by first | assumption | omega) ?_
      refine xj_topi hC.2.2.1 ?_
      refine xj_icmp_ge C a_R_countNotedLike_12 rfl (fun h12 => ?_) (fun h12 => ?_)
      · rw [nI_leI (by omega) (by omega)] at h12
        have : j = cl.length := by omega
        subst this
        refine xj_iload_n C a_R_countNotedLike_92 rfl ?_
        refine xn_callS1i C a_R_countNotedLike_93 (c_JI_bitCount _ _ v _) ms_JI_bitCount lk_R_254 ⟨by decide, by decide⟩ rfl (Nat.le_of_ble_eq_true rfl) ⟨Nat.le_refl _, Nat.le_refl _⟩ ?_
        refine xj_iret C a_R_countNotedLike_96 ?_
        exact ⟨by rw [xp_mk_cnt (fun i hi _ => by rw [← hf]; exact hf4 i hi)], rfl⟩
      · rw [nI_leI (by omega) (by omega)] at h12
        have hjl : j < cl.length := by omega
        have hg : cl.getD j 0 = cl[j] := by simp [hjl]
        obtain ⟨q1, q2, q3⟩ := (hc cl[j]).mp (List.getElem_mem hjl)
        have hfj : f j = pg_f S.1 cl[j] := by rw [← hf]; simp [hjl]
        have hPj : P j = xp_lk S m cl[j] := by rw [← hP]; simp [hjl]
        have hf6 := hf4 j hjl
        rw [hg] at hf6
        have step : ∀ c, c = xp_mk P f (j + 1) → ∀ z : Option Value, xn_X E G (xj_R E G (fun a' w' => a' = some (.int (nI (pg_cnt cl.length f P 9))) ∧ w' = xn_W v) 0 0) 0 0 86 [some (.ref (xj_ad G (11, r, 0))), some (.int (nI m)), some (.int (nI c)), some (.int (nI j)), z] [] v := by
          rintro c rfl z
          refine xj_iincN3 C a_R_countNotedLike_86 rfl ?_
          refine xj_goto C a_R_countNotedLike_89 rfl ?_
          exact ih (j + 1) (by omega) (by omega) z
        have stepN : xp_lk S m cl[j] = false → ∀ z : Option Value, xn_X E G (xj_R E G (fun a' w' => a' = some (.int (nI (pg_cnt cl.length f P 9))) ∧ w' = xn_W v) 0 0) 0 0 86 [some (.ref (xj_ad G (11, r, 0))), some (.int (nI m)), some (.int (nI (xp_mk P f j))), some (.int (nI j)), z] [] v := by
          intro h
          exact step _ (by rw [xp_mk_s, hPj, if_neg (by rw [h]; decide)])
        refine xj_aload_n C a_R_countNotedLike_15 rfl ?_
        refine xn_g_R_checkpoints C a_R_countNotedLike_16 fl_R_24 (by first | assumption | omega) ?_
        refine xn_g_N_at C a_R_countNotedLike_19 fl_R_93 (by first | assumption | omega) (by first | assumption | omega) ?_
        refine xj_iload_n C a_R_countNotedLike_22 rfl ?_
        refine xn_ld_17 C a_R_countNotedLike_23 (by first | assumption | omega) (by first | assumption | omega) (by first | assumption | omega) ?_
        refine xj_topi (hC.at hjl) ?_
        refine xj_istore4 C a_R_countNotedLike_24 rfl ?_
        refine xj_aload_n C a_R_countNotedLike_26 rfl ?_
        refine xn_g_R_board C a_R_countNotedLike_27 fl_R_61 (by first | assumption | omega) ?_
        refine xn_g_B_a C a_R_countNotedLike_30 fl_R_81 ?_
        refine xj_iload C a_R_countNotedLike_33 rfl ?_
        refine xn_ld_4 C a_R_countNotedLike_35 (by first | assumption | omega) ?_
        refine xj_topi (hB.a (by omega)) ?_
        refine xj_aload_n C a_R_countNotedLike_36 rfl ?_
        refine xn_g_R_board C a_R_countNotedLike_37 fl_R_61 (by first | assumption | omega) ?_
        refine xn_g_B_a C a_R_countNotedLike_40 fl_R_81 ?_
        refine xj_iload_n C a_R_countNotedLike_43 rfl ?_
        refine xn_ld_4 C a_R_countNotedLike_44 (by first | assumption | omega) ?_
        refine xj_topi (hB.a (by omega)) ?_
        refine xj_icmp_ne C a_R_countNotedLike_45 rfl (fun h45 => ?_) (fun h45 => ?_)
        · exact stepN (by unfold xp_lk; simp [h45]) _
        · refine xj_aload_n C a_R_countNotedLike_48 rfl ?_
          refine xn_g_R_board C a_R_countNotedLike_49 fl_R_61 (by first | assumption | omega) ?_
          refine xn_g_B_b C a_R_countNotedLike_52 fl_R_131 ?_
          refine xj_iload C a_R_countNotedLike_55 rfl ?_
          refine xn_ld_5 C a_R_countNotedLike_57 (by first | assumption | omega) ?_
          refine xj_topl (hB.b (by omega)) ?_
          refine xj_aload_n C a_R_countNotedLike_58 rfl ?_
          refine xn_g_R_board C a_R_countNotedLike_59 fl_R_61 (by first | assumption | omega) ?_
          refine xn_g_B_b C a_R_countNotedLike_62 fl_R_131 ?_
          refine xj_iload_n C a_R_countNotedLike_65 rfl ?_
          refine xn_ld_5 C a_R_countNotedLike_66 (by first | assumption | omega) ?_
          refine xj_topl (hB.b (by omega)) ?_
          refine xj_lcmp C a_R_countNotedLike_67 ?_
          refine xj_if_ne C a_R_countNotedLike_68 rfl (fun h68 => ?_) (fun h68 => ?_)
          · rw [xp_cmp_ne] at h68
            exact stepN (by unfold xp_lk; simp [h68]) _
          · rw [xp_cmp_ne] at h68
            refine xj_iload_n C a_R_countNotedLike_71 rfl ?_
            refine xj_iconst (v := nI 1) C a_R_countNotedLike_72 (by decide) ?_
            refine xj_aload_n C a_R_countNotedLike_73 rfl ?_
            refine xn_g_R_board C a_R_countNotedLike_74 fl_R_61 (by first | assumption | omega) ?_
            refine xn_g_B_sender C a_R_countNotedLike_77 fl_R_76 ?_
            refine xj_iload C a_R_countNotedLike_80 rfl ?_
            refine xn_ld_3 C a_R_countNotedLike_82 (by first | assumption | omega) ?_
            refine xj_topi (hB.f (by omega)) ?_
            refine xj_ishl C a_R_countNotedLike_83 ?_
            refine xj_topi (xp_bit4 _ (by omega)) ?_
            refine xj_ior C a_R_countNotedLike_84 ?_
            refine xj_topi (xp_or _ _) ?_
            refine xj_istore2 C a_R_countNotedLike_85 rfl ?_
            refine step _ ?_ _
            rw [xp_mk_s, hPj, hfj, if_pos (by unfold xp_lk; simpa [h45] using h68)]
  exact loop (cl.length + 1) 0 (by omega) (by omega) none
/-- the best of the first j: the greatest number that is certified -/
def xp_bs (S : pg_S) (I : Nat → Prop) (o : Option Nat) : Prop := match o with
  | some x => I x ∧ nI (pg_h S.2) < pg_a S.1 x ∧ 3 ≤ pg_hr S 7 (pg_a S.1 x) (pg_b S.1 x) 0 ∧ ∀ y, I y → 3 ≤ pg_hr S 7 (pg_a S.1 y) (pg_b S.1 y) 0 → nI (pg_h S.2) < pg_a S.1 y → pg_a S.1 y ≤ pg_a S.1 x
  | none => ∀ y, I y → 3 ≤ pg_hr S 7 (pg_a S.1 y) (pg_b S.1 y) 0 → ¬ nI (pg_h S.2) < pg_a S.1 y
/-- the least that is wanted -/
def xp_lst (S : pg_S) (o : Option Nat) : Int32 := match o with
  | some x => pg_a S.1 x
  | none => nI (pg_h S.2)
theorem xp_bs_skip {S : pg_S} {I J : Nat → Prop} {o : Option Nat} {m : Nat} (h : xp_bs S I o) (hJ : ∀ y, J y ↔ (I y ∨ y = m)) (hm : ¬ (xp_lst S o < pg_a S.1 m ∧ 3 ≤ pg_hr S 7 (pg_a S.1 m) (pg_b S.1 m) 0)) : xp_bs S J o := by
  cases o with
  | none =>
    intro y hy h3 h4
    rcases (hJ y).mp hy with hy | rfl
    · exact h y hy h3 h4
    · exact hm ⟨h4, h3⟩
  | some x =>
    obtain ⟨h1, h2, h3, h4⟩ := h
    refine ⟨(hJ x).mpr (Or.inl h1), h2, h3, fun y hy g1 g2 => ?_⟩
    rcases (hJ y).mp hy with hy | rfl
    · exact h4 y hy g1 g2
    · exact Int32.not_lt.mp (fun g => hm ⟨g, g1⟩)
theorem xp_bs_take {S : pg_S} {I J : Nat → Prop} {o : Option Nat} {m : Nat} (h : xp_bs S I o) (hJ : ∀ y, J y ↔ (I y ∨ y = m)) (hm : xp_lst S o < pg_a S.1 m) (hm2 : 3 ≤ pg_hr S 7 (pg_a S.1 m) (pg_b S.1 m) 0) : xp_bs S J (some m) := by
  cases o with
  | none =>
    refine ⟨(hJ m).mpr (Or.inr rfl), hm, hm2, fun y hy g1 g2 => ?_⟩
    rcases (hJ y).mp hy with hy | rfl
    · exact absurd g2 (h y hy g1)
    · exact Int32.le_refl _
  | some x =>
    obtain ⟨h1, h2, h3, h4⟩ := h
    refine ⟨(hJ m).mpr (Or.inr rfl), Int32.lt_trans h2 hm, hm2, fun y hy g1 g2 => ?_⟩
    rcases (hJ y).mp hy with hy | rfl
    · exact Int32.le_trans (h4 y hy g1 g2) (Int32.le_of_lt hm)
    · exact Int32.le_refl _
theorem pg_bst_bs (S : pg_S) : ∀ z, xp_bs S (fun i => i < z ∧ pg_no S.2 i = 1 ∧ pg_k S.1 i = 7) (pg_bst S z)
  | 0 => fun y hy => absurd hy.1 (Nat.not_lt_zero y)
  | z + 1 => by
    have ih := pg_bst_bs S z
    have e : pg_bst S (z + 1) = if pg_no S.2 z == 1 && (pg_k S.1 z == 7 && (decide (nI (pg_h S.2) < pg_a S.1 z) && ((match pg_bst S z with | none => true | some j => decide (pg_a S.1 j < pg_a S.1 z)) && decide (3 ≤ pg_hr S 7 (pg_a S.1 z) (pg_b S.1 z) 0)))) then some z else pg_bst S z := rfl
    have hJ : (pg_no S.2 z = 1 ∧ pg_k S.1 z = 7) → ∀ y, (y < z + 1 ∧ pg_no S.2 y = 1 ∧ pg_k S.1 y = 7) ↔ ((y < z ∧ pg_no S.2 y = 1 ∧ pg_k S.1 y = 7) ∨ y = z) := by
      intro h y
      constructor
      · rintro ⟨h1, h2⟩
        by_cases e : y = z
        · exact Or.inr e
        · exact Or.inl ⟨by omega, h2⟩
      · rintro (h1 | rfl)
        · exact ⟨by omega, h1.2⟩
        · exact ⟨by omega, h⟩
    rw [e]
    by_cases hc : (pg_no S.2 z == 1 && (pg_k S.1 z == 7 && (decide (nI (pg_h S.2) < pg_a S.1 z) && ((match pg_bst S z with | none => true | some j => decide (pg_a S.1 j < pg_a S.1 z)) && decide (3 ≤ pg_hr S 7 (pg_a S.1 z) (pg_b S.1 z) 0))))) = true
    · rw [if_pos hc]
      simp only [Bool.and_eq_true, beq_iff_eq, decide_eq_true_eq] at hc
      obtain ⟨c1, c2, c3, c4, c5⟩ := hc
      refine xp_bs_take ih (hJ ⟨c1, c2⟩) ?_ c5
      cases eb : pg_bst S z with
      | none => exact c3
      | some j => rw [eb] at c4; exact of_decide_eq_true c4
    · rw [if_neg hc]
      by_cases hn : pg_no S.2 z = 1 ∧ pg_k S.1 z = 7
      · refine xp_bs_skip ih (hJ hn) ?_
        rintro ⟨g1, g2⟩
        apply hc
        simp only [Bool.and_eq_true, beq_iff_eq, decide_eq_true_eq]
        cases eb : pg_bst S z with
        | none => rw [eb] at g1; exact ⟨hn.1, hn.2, g1, rfl, g2⟩
        | some j =>
          rw [eb] at g1 ih
          exact ⟨hn.1, hn.2, Int32.lt_trans ih.2.1 g1, decide_eq_true g1, g2⟩
      · have hI : (fun i => i < z + 1 ∧ pg_no S.2 i = 1 ∧ pg_k S.1 i = 7) = (fun i => i < z ∧ pg_no S.2 i = 1 ∧ pg_k S.1 i = 7) := by
          funext y
          apply propext
          constructor
          · rintro ⟨h1, h2⟩
            refine ⟨?_, h2⟩
            by_cases e : y = z
            · subst e; exact absurd h2 hn
            · omega
          · rintro ⟨h1, h2⟩
            exact ⟨by omega, h2⟩
        rw [hI]
        exact ih
theorem xp_disj (p q : Nat → Bool) : ∀ l : List Nat, (∀ s, s ∈ l → ¬ (p s = true ∧ q s = true)) → (l.filter p).length + (l.filter q).length ≤ l.length
  | [], _ => Nat.le_refl _
  | a :: l, h => by
    have ih := xp_disj p q l (fun s hs => h s (List.mem_cons_of_mem _ hs))
    have ha := h a List.mem_cons_self
    by_cases hp : p a = true
    · have hq : ¬ q a = true := fun hq => ha ⟨hp, hq⟩
      rw [List.filter_cons_of_pos hp, List.filter_cons_of_neg hq, List.length_cons, List.length_cons]
      omega
    · rw [List.filter_cons_of_neg hp]
      by_cases hq : q a = true
      · rw [List.filter_cons_of_pos hq, List.length_cons, List.length_cons]
        omega
      · rw [List.filter_cons_of_neg hq, List.length_cons]
        omega
/-- a number has one certified state -/
theorem pg_hr7 {S : pg_S} (hu : pg_cu S) {x : Int32} {y y' : Int64} (h1 : 3 ≤ pg_hr S 7 x y 0) (h2 : 3 ≤ pg_hr S 7 x y' 0) : y = y' := by
  by_cases e : y = y'
  · exact e
  · exfalso
    unfold pg_hr pg_cnt at h1 h2
    dsimp only at h1 h2
    have h3 := xp_disj (fun s => s != 9 && (List.range S.1.1).any (fun i => pg_f S.1 i == s && (pg_no S.2 i == 1 && (pg_k S.1 i == 7 && (pg_a S.1 i == x && (pg_b S.1 i == y && pg_c S.1 i == 0)))))) (fun s => s != 9 && (List.range S.1.1).any (fun i => pg_f S.1 i == s && (pg_no S.2 i == 1 && (pg_k S.1 i == 7 && (pg_a S.1 i == x && (pg_b S.1 i == y' && pg_c S.1 i == 0)))))) (List.range 4) (by
      rintro s - ⟨g1, g2⟩
      simp only [Bool.and_eq_true, List.any_eq_true, beq_iff_eq, List.mem_range] at g1 g2
      obtain ⟨-, i, i1, i2, i3, i4, i5, i6, -⟩ := g1
      obtain ⟨-, j, j1, j2, j3, j4, j5, j6, -⟩ := g2
      have : i = j := hu.2.1 i j i1 j1 i3 j3 i4 j4 (by omega) (by rw [i5, j5])
      subst this
      exact e (by rw [← i6, ← j6]))
    rw [List.length_range] at h3
    omega
theorem c_R_settleNext (l : Launch) (G : xj_G) (v : xn_V) (r : Nat) (hr : r < 4) (S : pg_S) (hR : xc_R r S v) (hN : pg_num S.2) (hB : xc_B S.1 v) (hT : pg_top S) (hu : pg_cu S) : xj_Mx l G 2 46 0 0 m_R_settleNext [.ref (xj_ad G (11, r, 0))] (xn_W v) (xp_rl r v (pg_r5 S)) := by
  have hz := hB.2.1
  have hF := hR.1
  have hh := hN.2.2.1
  have he := hN.2.2.2.1
  obtain ⟨cl, hC, hc⟩ := hR.2.2.1
  have hl := hC.2.1
  refine xj_Mx_of (by decide) (Nat.le_of_ble_eq_true rfl) (fun E hE C _ => ?_)
  subst hE
  replace C : xj_C E G prog_5_method_25_code "ThreePhaseGroup$Replica" 5 2 46 0 0 (some .boolean) := C
  show xn_X E G _ 0 0 0 [some (.ref (xj_ad G (11, r, 0))), none, none, none, none] [] v
  refine xj_bipush (v := -2) C a_R_settleNext_0 (by decide) ?_
  refine xj_istore1 C a_R_settleNext_2 rfl ?_
  refine xj_iconst (v := nI 0) C a_R_settleNext_3 (by decide) ?_
  refine xj_istore2 C a_R_settleNext_4 rfl ?_
  have loop : ∀ n j : Nat, j ≤ cl.length → cl.length - j < n → ∀ o : Option Nat, xp_bs S (fun i => i ∈ cl.take j) o → ∀ z1 z2 : Option Value, xn_X E G (xj_R E G (xp_rl r v (pg_r5 S)) 0 0) 0 0 5 [some (.ref (xj_ad G (11, r, 0))), some (.int (xp_o o)), some (.int (nI j)), z1, z2] [] v := by
    intro n
    induction n with
    | zero => intro j _ h; omega
    | succ n ih =>
      intro j hj hn o ho z1 z2
      refine xj_iload_n C a_R_settleNext_5 rfl ?_
      refine xj_aload_n C a_R_settleNext_6 rfl ?_
      refine xn_g_R_checkpoints C a_R_settleNext_7 fl_R_24 (by first | assumption | omega) ?_
      refine xn_g_N_size C a_R_settleNext_10 fl_R_90 (by first | assumption | omega) (by first | assumption | omega) ?_
      refine xj_topi hC.2.2.1 ?_
      refine xj_icmp_ge C a_R_settleNext_13 rfl (fun h13 => ?_) (fun h13 => ?_)
      · rw [nI_leI (by omega) (by omega)] at h13
        rw [List.take_of_length_le (by omega)] at ho
        have hI : (fun i => i ∈ cl) = (fun i => i < S.1.1 ∧ pg_no S.2 i = 1 ∧ pg_k S.1 i = 7) := by
          funext y
          exact propext (hc y)
        rw [hI] at ho
        have hb := pg_bst_bs S S.1.1
        cases o with
        | none =>
          have e5 : pg_r5 S = none := by
            unfold pg_r5
            cases eb : pg_bst S S.1.1 with
            | none => rfl
            | some i =>
              rw [eb] at hb
              exact absurd hb.2.1 (ho i hb.1 hb.2.2.1)
          rw [e5]
          refine xj_iload_n C a_R_settleNext_81 rfl ?_
          refine xj_bipush (v := -2) C a_R_settleNext_82 (by decide) ?_
          refine xj_icmp_ne C a_R_settleNext_84 rfl (fun h84 => absurd rfl h84) (fun h84 => ?_)
          refine xj_iconst (v := nI 0) C a_R_settleNext_87 (by decide) ?_
          exact xj_zret C a_R_settleNext_88 rfl ⟨rfl, rfl⟩
        | some x =>
          obtain ⟨⟨x1, x2, x3⟩, x4, x5, x6⟩ := ho
          have e5 : pg_r5 S = some (S.1, pg_set S.2 (pg_a S.1 x).toInt.toNat (pg_b S.1 x)) := by
            unfold pg_r5
            cases eb : pg_bst S S.1.1 with
            | none =>
              rw [eb] at hb
              exact absurd x4 (hb x ⟨x1, x2, x3⟩ x5)
            | some i =>
              rw [eb] at hb
              obtain ⟨i1, i4, i5, i6⟩ := hb
              have ea : pg_a S.1 i = pg_a S.1 x := Int32.le_antisymm (x6 i i1 i5 i4) (i6 x ⟨x1, x2, x3⟩ x5 x4)
              have ebb : pg_b S.1 i = pg_b S.1 x := pg_hr7 hu (ea ▸ i5) x5
              show some (S.1, pg_set S.2 (pg_a S.1 i).toInt.toNat (pg_b S.1 i)) = _
              rw [ea, ebb]
          rw [e5]
          have hlt := Int32.lt_iff_toInt_lt.mp x4
          rw [nI_toInt (by omega)] at hlt
          have h400 := hu.2.2 x x1 x2 x3 x5
          generalize ha : (pg_a S.1 x).toInt.toNat = nn
          have han : pg_a S.1 x = nI nn := by
            apply Int32.toInt_inj.mp
            rw [nI_toInt (by omega)]
            omega
          have hne : ¬ xp_o (some x) = -2 := by
            intro e
            have h1 := nI_toInt (show x < 2 ^ 31 by omega)
            rw [show nI x = -2 from e] at h1
            have h2 : (-2 : Int32).toInt = -2 := by decide
            rw [h2] at h1
            omega
          refine xj_iload_n C a_R_settleNext_81 rfl ?_
          refine xj_bipush (v := -2) C a_R_settleNext_82 (by decide) ?_
          refine xj_icmp_ne C a_R_settleNext_84 rfl (fun h84 => ?_) (fun h84 => absurd h84 hne)
          show xn_X E G _ 0 0 89 [some (.ref (xj_ad G (11, r, 0))), some (.int (nI x)), _, _, _] [] v
          refine xj_aload_n C a_R_settleNext_89 rfl ?_
          refine xj_aload_n C a_R_settleNext_90 rfl ?_
          refine xn_g_R_board C a_R_settleNext_91 fl_R_61 (by first | assumption | omega) ?_
          refine xn_g_B_a C a_R_settleNext_94 fl_R_81 ?_
          refine xj_iload_n C a_R_settleNext_97 rfl ?_
          refine xn_ld_4 C a_R_settleNext_98 (by first | assumption | omega) ?_
          refine xj_topi (hB.a (by omega)) ?_
          refine xj_topi han ?_
          refine xj_aload_n C a_R_settleNext_99 rfl ?_
          refine xn_g_R_board C a_R_settleNext_100 fl_R_61 (by first | assumption | omega) ?_
          refine xn_g_B_b C a_R_settleNext_103 fl_R_131 ?_
          refine xj_iload_n C a_R_settleNext_106 rfl ?_
          refine xn_ld_5 C a_R_settleNext_107 (by first | assumption | omega) ?_
          refine xj_topl (hB.b (by omega)) ?_
          refine xn_callV2 C a_R_settleNext_108 (c_R_settle _ _ v r hr (pg_h S.2) (pg_e S.2) nn hh (by omega) (by omega) (by omega) hF.h hF.e (pg_b S.1 x)) mv_R_settle lk_R_250 ⟨rfl, rfl, rfl⟩ (xj_ok11 (by first | assumption | omega)) ⟨by decide, by decide⟩ rfl (Nat.le_of_ble_eq_true rfl) ⟨Nat.le_refl _, Nat.le_refl _⟩ ?_
          refine xj_iconst (v := nI 1) C a_R_settleNext_111 (by decide) ?_
          refine xj_zret C a_R_settleNext_112 rfl ⟨rfl, _, rfl, hR.settle hT (by omega) (by omega) _, hB.R ((xf_R.rf r v).sl), xf_O.ofR ((xf_R.rf r v).sl)⟩
      · rw [nI_leI (by omega) (by omega)] at h13
        have hjl : j < cl.length := by omega
        obtain ⟨q1, q2, q3⟩ := (hc cl[j]).mp (List.getElem_mem hjl)
        have hJ : ∀ y, y ∈ cl.take (j + 1) ↔ (y ∈ cl.take j ∨ y = cl[j]) := by
          intro y
          rw [List.take_succ_eq_append_getElem hjl, List.mem_append, List.mem_singleton]
        have hle := pg_hr_le S 7 (pg_a S.1 cl[j]) (pg_b S.1 cl[j]) 0
        have at50 : ∀ z : Option Value, xn_X E G (xj_R E G (xp_rl r v (pg_r5 S)) 0 0) 0 0 48 [some (.ref (xj_ad G (11, r, 0))), some (.int (xp_o o)), some (.int (nI j)), some (.int (nI cl[j])), z] [.int (xp_lst S o)] v := by
          intro z
          have skip : ¬ (xp_lst S o < pg_a S.1 cl[j] ∧ 3 ≤ pg_hr S 7 (pg_a S.1 cl[j]) (pg_b S.1 cl[j]) 0) → ∀ z1 z2 : Option Value, xn_X E G (xj_R E G (xp_rl r v (pg_r5 S)) 0 0) 0 0 75 [some (.ref (xj_ad G (11, r, 0))), some (.int (xp_o o)), some (.int (nI j)), z1, z2] [] v := by
            intro h z1 z2
            refine xj_iincN2 C a_R_settleNext_75 rfl ?_
            refine xj_goto C a_R_settleNext_78 rfl ?_
            exact ih (j + 1) (by omega) (by omega) o (xp_bs_skip ho hJ h) _ _
          refine xj_istore4 C a_R_settleNext_48 rfl ?_
          refine xj_aload_n C a_R_settleNext_50 rfl ?_
          refine xn_g_R_board C a_R_settleNext_51 fl_R_61 (by first | assumption | omega) ?_
          refine xn_g_B_a C a_R_settleNext_54 fl_R_81 ?_
          refine xj_iload_n C a_R_settleNext_57 rfl ?_
          refine xn_ld_4 C a_R_settleNext_58 (by first | assumption | omega) ?_
          refine xj_topi (hB.a (by omega)) ?_
          refine xj_iload C a_R_settleNext_59 rfl ?_
          refine xj_icmp_le C a_R_settleNext_61 rfl (fun h61 => ?_) (fun h61 => ?_)
          · exact skip (fun h => Int32.not_lt.mpr h61 h.1) _ _
          · refine xj_aload_n C a_R_settleNext_64 rfl ?_
            refine xj_iload_n C a_R_settleNext_65 rfl ?_
            refine xn_callV1i C a_R_settleNext_66 (c_R_countNotedLike _ _ v r hr S hB hu cl hC hc cl[j] q1) mv_R_countNotedLike lk_R_247 ⟨rfl, rfl, rfl⟩ (xj_ok11 (by first | assumption | omega)) ⟨by decide, by decide⟩ rfl (Nat.le_of_ble_eq_true rfl) ⟨Nat.le_refl _, Nat.le_refl _⟩ ?_
            refine xj_iconst (v := nI 3) C a_R_settleNext_69 (by decide) ?_
            refine xj_icmp_lt C a_R_settleNext_70 rfl (fun h70 => ?_) (fun h70 => ?_)
            · rw [nI_ltI (by omega) (by omega)] at h70
              exact skip (by omega) _ _
            · rw [nI_ltI (by omega) (by omega)] at h70
              refine xj_iload_n C a_R_settleNext_73 rfl ?_
              refine xj_istore1 C a_R_settleNext_74 rfl ?_
              refine xj_iincN2 C a_R_settleNext_75 rfl ?_
              refine xj_goto C a_R_settleNext_78 rfl ?_
              exact ih (j + 1) (by omega) (by omega) (some cl[j]) (xp_bs_take ho hJ (Int32.not_le.mp h61) (by omega)) _ _
        refine xj_aload_n C a_R_settleNext_16 rfl ?_
        refine xn_g_R_checkpoints C a_R_settleNext_17 fl_R_24 (by first | assumption | omega) ?_
        refine xn_g_N_at C a_R_settleNext_20 fl_R_93 (by first | assumption | omega) (by first | assumption | omega) ?_
        refine xj_iload_n C a_R_settleNext_23 rfl ?_
        refine xn_ld_17 C a_R_settleNext_24 (by first | assumption | omega) (by first | assumption | omega) (by first | assumption | omega) ?_
        refine xj_topi (hC.at hjl) ?_
        refine xj_istore3 C a_R_settleNext_25 rfl ?_
        refine xj_iload_n C a_R_settleNext_26 rfl ?_
        refine xj_bipush (v := -2) C a_R_settleNext_27 (by decide) ?_
        cases o with
        | none =>
          refine xj_icmp_ne C a_R_settleNext_29 rfl (fun h29 => absurd rfl h29) (fun h29 => ?_)
          refine xj_aload_n C a_R_settleNext_32 rfl ?_
          refine xn_g_R_stable C a_R_settleNext_33 fl_R_39 (by first | assumption | omega) ?_
          refine xj_topi hF.h ?_
          refine xj_goto C a_R_settleNext_36 rfl ?_
          exact at50 _
        | some x =>
          have hx := (hc x).mp (List.mem_of_mem_take ho.1)
          have hne : ¬ xp_o (some x) = -2 := by
            intro e
            have h1 := nI_toInt (show x < 2 ^ 31 by omega)
            rw [show nI x = -2 from e] at h1
            have h2 : (-2 : Int32).toInt = -2 := by decide
            rw [h2] at h1
            omega
          refine xj_icmp_ne C a_R_settleNext_29 rfl (fun h29 => ?_) (fun h29 => absurd h29 hne)
          show xn_X E G _ 0 0 39 [some (.ref (xj_ad G (11, r, 0))), some (.int (nI x)), _, _, _] [] v
          refine xj_aload_n C a_R_settleNext_39 rfl ?_
          refine xn_g_R_board C a_R_settleNext_40 fl_R_61 (by first | assumption | omega) ?_
          refine xn_g_B_a C a_R_settleNext_43 fl_R_81 ?_
          refine xj_iload_n C a_R_settleNext_46 rfl ?_
          refine xn_ld_4 C a_R_settleNext_47 (by first | assumption | omega) ?_
          refine xj_topi (hB.a (by omega)) ?_
          exact at50 _
  exact loop (cl.length + 1) 0 (by omega) (by omega) none (fun y hy => by simp at hy) none none
