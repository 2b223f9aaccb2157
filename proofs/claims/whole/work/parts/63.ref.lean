/-! how the reference's cells move with the value -/
theorem xt_k_inj : ∀ a, a < 11 → ∀ b, b < 11 → xt_k a = xt_k b → a = b := by decide
theorem xt_k_ge : ∀ a, a < 11 → 28 ≤ xt_k a ∧ xt_k a ≤ 40 ∧ ¬ xt_k a = 34 ∧ ¬ xt_k a = 39 := by decide
theorem xt_B.uI {B : pg_B} {v : xn_V} (h : xt_B B v) {k i x : Nat} {y : Int32} (hk : 28 ≤ k ∨ (k = 21 ∧ ¬ x = 0)) : xt_B B (xn_uI v k 0 i x y) := by
  have o : ∀ k' i' x', (22 ≤ k' ∧ k' ≤ 27) ∨ (k' = 21 ∧ x' = 0) → (xn_uI v k 0 i x y).1 k' 0 i' x' = v.1 k' 0 i' x' := by
    intro k' i' x' hk'
    show (if k' = k ∧ 0 = 0 ∧ i' = i ∧ x' = x then y else v.1 k' 0 i' x') = _
    rw [if_neg (by omega)]
  obtain ⟨h1, h2, h3, h4, h5⟩ := h
  refine ⟨by rw [o _ _ _ (by omega)]; exact h1, h2, h3, fun m hm => ?_, fun m h6 h7 => by rw [o _ _ _ (by omega)]; exact h5 m h6 h7⟩
  rw [o _ _ _ (by omega), o _ _ _ (by omega), o _ _ _ (by omega), o _ _ _ (by omega), o _ _ _ (by omega)]
  exact h4 m hm
theorem xt_B.uJ {B : pg_B} {v : xn_V} (h : xt_B B v) {k i x : Nat} {y : Int64} (hk : 28 ≤ k) : xt_B B (xn_uJ v k 0 i x y) := by
  obtain ⟨h1, h2, h3, h4, h5⟩ := h
  refine ⟨h1, h2, h3, fun m hm => ?_, h5⟩
  have o : (xn_uJ v k 0 i x y).2 25 0 0 m = v.2 25 0 0 m := by
    show (if 25 = k ∧ 0 = 0 ∧ 0 = i ∧ m = x then y else v.2 25 0 0 m) = _
    rw [if_neg (by omega)]
  rw [o]
  exact h4 m hm
theorem xt_R.congr {r : Nat} {R R' : pg_R} {v : xn_V} (h : xt_R r R v) (h1 : ∀ t i, t ≤ 10 → R'.1 t i = R.1 t i) (h2 : R'.2 = R.2) : xt_R r R' v := by
  obtain ⟨a1, a2, a3, a4⟩ := h
  refine ⟨fun t ht => by rw [h1 t 0 (by omega)]; exact a1 t ht, by rw [h2]; exact a2, fun t t1 t2 q hq => by rw [h1 t q t2]; exact a3 t t1 t2 q hq, fun q => ?_⟩
  have := a4 q
  exact ⟨by rw [show pg_no R' q = pg_no R q from h1 9 q (by decide)]; exact this.1, by rw [show pg_kn R' q = pg_kn R q from h1 10 q (by decide)]; exact this.2⟩
theorem xt_R.cells {r : Nat} {R : pg_R} {v v' : xn_V} (h : xt_R r R v) (h1 : ∀ k, 30 ≤ k → k ≤ 36 → v'.1 k 0 0 r = v.1 k 0 0 r) (h2 : v'.2 34 0 0 r = v.2 34 0 0 r) (h3 : ∀ k q, (k = 28 ∨ k = 29 ∨ k = 37 ∨ k = 38 ∨ k = 40) → q < 200 → v'.1 k 0 0 (200 * r + q) = v.1 k 0 0 (200 * r + q)) : xt_R r R v' := by
  obtain ⟨a1, a2, a3, a4⟩ := h
  have k1 : ∀ t, t < 6 → 30 ≤ xt_k t ∧ xt_k t ≤ 36 := by decide
  have k2 : ∀ t, t < 11 → 6 ≤ t → (xt_k t = 28 ∨ xt_k t = 29 ∨ xt_k t = 37 ∨ xt_k t = 38 ∨ xt_k t = 40) := by decide
  refine ⟨fun t ht => by rw [h1 _ (k1 t ht).1 (k1 t ht).2]; exact a1 t ht, by rw [h2]; exact a2, fun t t1 t2 q hq => by rw [h3 _ q (k2 t (by omega) t1) hq]; exact a3 t t1 t2 q hq, a4⟩
theorem xt_R.uA {r : Nat} {R : pg_R} {v : xn_V} (h : xt_R r R v) {t q x K : Nat} (ht : 6 ≤ t ∧ t ≤ 10) (hx : t = 9 ∨ t = 10 → x ≤ 1) (hK : K = xt_k t) : xt_R r (pg_u R t q x) (xn_uI v K 0 0 (200 * r + q) (nI x)) := by
  subst hK
  obtain ⟨a1, a2, a3, a4⟩ := h
  have hg := xt_k_ge t (by omega)
  refine ⟨fun t' ht' => ?_, a2, fun t' t1 t2 q' hq' => ?_, fun q' => ?_⟩
  · have hn : ¬ xt_k t' = xt_k t := fun e => by have := xt_k_inj t' (by omega) t (by omega) e; omega
    show (if xt_k t' = xt_k t ∧ 0 = 0 ∧ 0 = 0 ∧ r = 200 * r + q then _ else v.1 (xt_k t') 0 0 r) = nI (if t' = t ∧ 0 = q then x else R.1 t' 0)
    rw [if_neg (fun e => hn e.1), if_neg (by omega)]
    exact a1 t' ht'
  · show (if xt_k t' = xt_k t ∧ 0 = 0 ∧ 0 = 0 ∧ 200 * r + q' = 200 * r + q then nI x else v.1 (xt_k t') 0 0 (200 * r + q')) = nI (if t' = t ∧ q' = q then x else R.1 t' q')
    by_cases e : t' = t ∧ q' = q
    · rw [if_pos ⟨by rw [e.1], rfl, rfl, by rw [e.2]⟩, if_pos e]
    · rw [if_neg, if_neg e]
      · exact a3 t' t1 t2 q' hq'
      · rintro ⟨e1, -, -, e2⟩
        exact e ⟨xt_k_inj t' (by omega) t (by omega) e1, by omega⟩
  · have := a4 q'
    constructor
    · show (if 9 = t ∧ q' = q then x else R.1 9 q') ≤ 1
      split
      · exact hx (by omega)
      · exact this.1
    · show (if 10 = t ∧ q' = q then x else R.1 10 q') ≤ 1
      split
      · exact hx (by omega)
      · exact this.2
theorem xt_R.uS {r : Nat} {R : pg_R} {v : xn_V} (h : xt_R r R v) {t x K : Nat} (ht : t < 6) (hK : K = xt_k t) : xt_R r (pg_u R t 0 x) (xn_uI v K 0 0 r (nI x)) := by
  subst hK
  obtain ⟨a1, a2, a3, a4⟩ := h
  refine ⟨fun t' ht' => ?_, a2, fun t' t1 t2 q' hq' => ?_, fun q' => ?_⟩
  · show (if xt_k t' = xt_k t ∧ 0 = 0 ∧ 0 = 0 ∧ r = r then nI x else v.1 (xt_k t') 0 0 r) = nI (if t' = t ∧ 0 = 0 then x else R.1 t' 0)
    by_cases e : t' = t
    · rw [if_pos ⟨by rw [e], rfl, rfl, rfl⟩, if_pos ⟨e, rfl⟩]
    · rw [if_neg (fun e2 => e (xt_k_inj t' (by omega) t (by omega) e2.1)), if_neg (fun e2 => e e2.1)]
      exact a1 t' ht'
  · show (if xt_k t' = xt_k t ∧ 0 = 0 ∧ 0 = 0 ∧ 200 * r + q' = r then nI x else v.1 (xt_k t') 0 0 (200 * r + q')) = nI (if t' = t ∧ q' = 0 then x else R.1 t' q')
    rw [if_neg (fun e2 => by have := xt_k_inj t' (by omega) t (by omega) e2.1; omega), if_neg (by omega)]
    exact a3 t' t1 t2 q' hq'
  · have := a4 q'
    constructor
    · show (if 9 = t ∧ q' = 0 then x else R.1 9 q') ≤ 1
      rw [if_neg (by omega)]
      exact this.1
    · show (if 10 = t ∧ q' = 0 then x else R.1 10 q') ≤ 1
      rw [if_neg (by omega)]
      exact this.2
theorem xt_R.sst {r : Nat} {R : pg_R} {v : xn_V} (h : xt_R r R v) (x : Int64) : xt_R r (pg_ss R x) (xn_uJ v 34 0 0 r x) := by
  obtain ⟨a1, a2, a3, a4⟩ := h
  refine ⟨a1, ?_, a3, a4⟩
  show (if 34 = 34 ∧ 0 = 0 ∧ 0 = 0 ∧ r = r then x else _) = x
  rw [if_pos ⟨rfl, rfl, rfl, rfl⟩]
theorem xt_R.oth {r : Nat} {R : pg_R} {v : xn_V} (h : xt_R r R v) {k i x : Nat} {y : Int32} (hk : k < 28 ∨ k = 39 ∨ 40 < k) : xt_R r R (xn_uI v k 0 i x y) := by
  refine h.cells (fun k' h1 h2 => ?_) rfl (fun k' q hk' hq => ?_)
  · show (if k' = k ∧ 0 = 0 ∧ 0 = i ∧ r = x then y else v.1 k' 0 0 r) = _
    rw [if_neg (by omega)]
  · show (if k' = k ∧ 0 = 0 ∧ 0 = i ∧ 200 * r + q = x then y else v.1 k' 0 0 (200 * r + q)) = _
    rw [if_neg (by omega)]
/-- the reference in a call of replica r -/
def xt_S (r : Nat) (S : pg_S) (v : xn_V) : Prop := xt_B S.1 v ∧ xt_R r S.2 v ∧ v.1 21 0 0 21 = nI (pg_af S.2)
/-- only the board, replica r and the mark 'afresh' have changed -/
def xf_T (r : Nat) (v v' : xn_V) : Prop := ∀ k r' i x, ¬ (22 ≤ k ∧ k ≤ 27) → ¬ (k = 21 ∧ (x = 0 ∨ x = 21)) → ¬ ((k = 28 ∨ k = 29 ∨ (37 ≤ k ∧ k ≤ 40)) ∧ 200 * r ≤ x ∧ x < 200 * r + 200) → ¬ (30 ≤ k ∧ k ≤ 36 ∧ x = r) → v'.1 k r' i x = v.1 k r' i x ∧ v'.2 k r' i x = v.2 k r' i x
theorem xf_T.rf (r : Nat) (v : xn_V) : xf_T r v v := fun _ _ _ _ _ _ _ _ => ⟨rfl, rfl⟩
theorem xf_T.tr {r : Nat} {v v1 v2 : xn_V} (h : xf_T r v v1) (g : xf_T r v1 v2) : xf_T r v v2 := fun k r' i x a b c d => ⟨(g k r' i x a b c d).1.trans (h k r' i x a b c d).1, (g k r' i x a b c d).2.trans (h k r' i x a b c d).2⟩
theorem xf_T.uI {r : Nat} {v v1 : xn_V} (h : xf_T r v v1) {k i x : Nat} {y : Int32} (hk : (22 ≤ k ∧ k ≤ 27) ∨ (k = 21 ∧ (x = 0 ∨ x = 21)) ∨ ((k = 28 ∨ k = 29 ∨ (37 ≤ k ∧ k ≤ 40)) ∧ 200 * r ≤ x ∧ x < 200 * r + 200) ∨ (30 ≤ k ∧ k ≤ 36 ∧ x = r)) : xf_T r v (xn_uI v1 k 0 i x y) := by
  intro k' r' i' x' a b c d
  have h2 := h k' r' i' x' a b c d
  refine ⟨?_, h2.2⟩
  show (if k' = k ∧ r' = 0 ∧ i' = i ∧ x' = x then y else v1.1 k' r' i' x') = _
  rw [if_neg (by rintro ⟨rfl, -, -, rfl⟩; omega)]
  exact h2.1
theorem xf_T.uJ {r : Nat} {v v1 : xn_V} (h : xf_T r v v1) {k i x : Nat} {y : Int64} (hk : k = 25 ∨ (k = 34 ∧ x = r)) : xf_T r v (xn_uJ v1 k 0 i x y) := by
  intro k' r' i' x' a b c d
  have h2 := h k' r' i' x' a b c d
  refine ⟨h2.1, ?_⟩
  show (if k' = k ∧ r' = 0 ∧ i' = i ∧ x' = x then y else v1.2 k' r' i' x') = _
  rw [if_neg (by rintro ⟨rfl, -, -, rfl⟩; omega)]
  exact h2.2
/-- what a part of the reference does: it applies or not -/
def xp_tr (r : Nat) (v : xn_V) (S : pg_S) (o : Option pg_S) (a : Option Value) (w' : xj_W) : Prop := a = some (.int (xp_b o.isSome)) ∧ ∃ v', w' = xn_W v' ∧ xt_S r (o.getD S) v' ∧ xf_T r v v'
/-! a message is sent -/
def xn_ts (v : xn_V) (z p : Nat) (k x : Int32) (y : Int64) (c : Int32) : xn_V :=
  let v1 := xn_uI (xn_uJ (xn_uI (xn_uI (xn_uI v 22 0 0 z k) 23 0 0 z (nI p)) 24 0 0 z x) 25 0 0 z y) 26 0 0 z c
  xn_uI (if p < 4 then xn_uI v1 28 0 0 (200 * p + z) (nI 1) else v1) 21 0 0 0 (nI (z + 1))
theorem c_T_send (l : Launch) (G : xj_G) (v : xn_V) (z p : Nat) (hz : v.1 21 0 0 0 = nI z) (hz2 : z < 200) (hp : p < 6) (k x : Int32) (y : Int64) (c : Int32) : xn_M l G 0 0 m_T_send [.ref (xj_ad G (21, 0, 0)), .int k, .int (nI p), .int x, .long y, .int c] v (some (.int (nI z))) (xn_ts v z p k x y c) := by
  refine xn_M_of (by decide) (Nat.le_of_ble_eq_true rfl) (fun E hE C => ?_)
  subst hE
  replace C : xj_C E G prog_9_method_3_code "ThreePhaseGroupModel" 8 0 0 0 0 (some .int) := C
  show xn_X E G _ 0 0 0 [some (.ref (xj_ad G (21, 0, 0))), some (.int k), some (.int (nI p)), some (.int x), some (.long y), none, some (.int c), none] [] v
  refine xj_aload_n C a_T_send_0 rfl ?_
  refine xn_g_T_count C a_T_send_1 fl_T_88 ?_
  refine xj_topi hz ?_
  refine xj_istore7 C a_T_send_4 rfl ?_
  refine xj_aload_n C a_T_send_6 rfl ?_
  refine xn_g_T_kind C a_T_send_7 fl_T_7 ?_
  refine xj_iload C a_T_send_10 rfl ?_
  refine xj_iload_n C a_T_send_12 rfl ?_
  refine xn_st_22 C a_T_send_13 (by first | assumption | omega) ?_
  refine xj_aload_n C a_T_send_14 rfl ?_
  refine xn_g_T_from C a_T_send_15 fl_T_13 ?_
  refine xj_iload C a_T_send_18 rfl ?_
  refine xj_iload_n C a_T_send_20 rfl ?_
  refine xn_st_23 C a_T_send_21 (by first | assumption | omega) ?_
  refine xj_aload_n C a_T_send_22 rfl ?_
  refine xn_g_T_a C a_T_send_23 fl_T_16 ?_
  refine xj_iload C a_T_send_26 rfl ?_
  refine xj_iload_n C a_T_send_28 rfl ?_
  refine xn_st_24 C a_T_send_29 (by first | assumption | omega) ?_
  refine xj_aload_n C a_T_send_30 rfl ?_
  refine xn_g_T_b C a_T_send_31 fl_T_19 ?_
  refine xj_iload C a_T_send_34 rfl ?_
  refine xj_lload C a_T_send_36 rfl ?_
  refine xn_st_25 C a_T_send_38 (by first | assumption | omega) ?_
  refine xj_aload_n C a_T_send_39 rfl ?_
  refine xn_g_T_c C a_T_send_40 fl_T_23 ?_
  refine xj_iload C a_T_send_43 rfl ?_
  refine xj_iload C a_T_send_45 rfl ?_
  refine xn_st_26 C a_T_send_47 (by first | assumption | omega) ?_
  refine xj_iload_n C a_T_send_48 rfl ?_
  refine xj_iconst (v := nI 4) C a_T_send_49 (by decide) ?_
  refine xj_icmp_ge C a_T_send_50 rfl (fun h50 => ?_) (fun h50 => ?_)
  · rw [nI_leI (by omega) (by omega)] at h50
    refine xj_aload_n C a_T_send_67 rfl ?_
    refine xj_dup C a_T_send_68 rfl ?_
    refine xn_g_T_count C a_T_send_69 fl_T_88 ?_
    refine xj_topi (y := nI z) (by simpa [xn_uI, xn_uJ] using hz) ?_
    refine xj_iconst (v := nI 1) C a_T_send_72 (by decide) ?_
    refine xj_iaddN C a_T_send_73 ?_
    refine xn_p_T_count C a_T_send_74 fl_T_88 ?_
    refine xj_iload C a_T_send_77 rfl ?_
    refine xj_iret C a_T_send_79 ?_
    refine ⟨rfl, ?_⟩
    unfold xn_ts
    dsimp only
    rw [if_neg (by omega)]
  · rw [nI_leI (by omega) (by omega)] at h50
    refine xj_aload_n C a_T_send_53 rfl ?_
    refine xn_g_T_noted C a_T_send_54 fl_T_30 ?_
    refine xj_sipush (v := nI 200) C a_T_send_57 (by decide) ?_
    refine xj_iload_n C a_T_send_60 rfl ?_
    refine xj_imulN C a_T_send_61 ?_
    refine xj_iload C a_T_send_62 rfl ?_
    refine xj_iaddN C a_T_send_64 ?_
    refine xj_iconst (v := nI 1) C a_T_send_65 (by decide) ?_
    refine xn_st_28 C a_T_send_66 (by first | assumption | omega) (by first | assumption | decide) ?_
    refine xj_aload_n C a_T_send_67 rfl ?_
    refine xj_dup C a_T_send_68 rfl ?_
    refine xn_g_T_count C a_T_send_69 fl_T_88 ?_
    refine xj_topi (y := nI z) (by simpa [xn_uI, xn_uJ] using hz) ?_
    refine xj_iconst (v := nI 1) C a_T_send_72 (by decide) ?_
    refine xj_iaddN C a_T_send_73 ?_
    refine xn_p_T_count C a_T_send_74 fl_T_88 ?_
    refine xj_iload C a_T_send_77 rfl ?_
    refine xj_iret C a_T_send_79 ?_
    refine ⟨rfl, ?_⟩
    unfold xn_ts
    dsimp only
    rw [if_pos (by omega)]
theorem xn_ts_oth (v : xn_V) (z p : Nat) (k x : Int32) (y : Int64) (c : Int32) : (∀ k' r' i' x', ¬ (22 ≤ k' ∧ k' ≤ 26) → ¬ (k' = 21 ∧ x' = 0) → ¬ (k' = 28 ∧ p < 4 ∧ x' = 200 * p + z) → (xn_ts v z p k x y c).1 k' r' i' x' = v.1 k' r' i' x') ∧ ∀ k' r' i' x', ¬ k' = 25 → (xn_ts v z p k x y c).2 k' r' i' x' = v.2 k' r' i' x' := by
  constructor
  · intro k' r' i' x' h1 h2 h3
    unfold xn_ts
    dsimp only
    by_cases hp : p < 4
    · rw [if_pos hp]
      show (if k' = 21 ∧ r' = 0 ∧ i' = 0 ∧ x' = 0 then _ else if k' = 28 ∧ r' = 0 ∧ i' = 0 ∧ x' = 200 * p + z then _ else if k' = 26 ∧ r' = 0 ∧ i' = 0 ∧ x' = z then _ else if k' = 24 ∧ r' = 0 ∧ i' = 0 ∧ x' = z then _ else if k' = 23 ∧ r' = 0 ∧ i' = 0 ∧ x' = z then _ else if k' = 22 ∧ r' = 0 ∧ i' = 0 ∧ x' = z then _ else v.1 k' r' i' x') = _
      rw [if_neg (by omega), if_neg (by omega), if_neg (by omega), if_neg (by omega), if_neg (by omega), if_neg (by omega)]
    · rw [if_neg hp]
      show (if k' = 21 ∧ r' = 0 ∧ i' = 0 ∧ x' = 0 then _ else if k' = 26 ∧ r' = 0 ∧ i' = 0 ∧ x' = z then _ else if k' = 24 ∧ r' = 0 ∧ i' = 0 ∧ x' = z then _ else if k' = 23 ∧ r' = 0 ∧ i' = 0 ∧ x' = z then _ else if k' = 22 ∧ r' = 0 ∧ i' = 0 ∧ x' = z then _ else v.1 k' r' i' x') = _
      rw [if_neg (by omega), if_neg (by omega), if_neg (by omega), if_neg (by omega), if_neg (by omega)]
  · intro k' r' i' x' h1
    unfold xn_ts
    dsimp only
    split <;>
    · show (if k' = 25 ∧ r' = 0 ∧ i' = 0 ∧ x' = z then _ else v.2 k' r' i' x') = _
      rw [if_neg (by omega)]
theorem xt_B.send {B : pg_B} {v : xn_V} (h : xt_B B v) (hz : B.1 < 200) (k p : Nat) (x : Int32) (y : Int64) (c : Int32) (hk : k < 8 ∧ p < 6 ∧ (k = 0 ↔ 4 ≤ p)) : xt_B (pg_send B k p x y c false) (xn_ts v B.1 p (nI k) x y c) := by
  obtain ⟨h1, h2, h3, h4, h5⟩ := h
  have o := (xn_ts_oth v B.1 p (nI k) x y c).1
  refine ⟨by rw [pg_send_z]; simp [xn_ts, xn_uI], by rw [pg_send_z]; omega, fun m hm => ?_, fun m hm => ?_, fun m h6 h7 => ?_⟩
  · rw [pg_send_z] at hm
    rw [pg_send_k, pg_send_f]
    by_cases e : m = B.1
    · rw [if_pos e, if_pos e]; exact hk
    · rw [if_neg e, if_neg e]; exact h3 m (by omega)
  · rw [pg_send_z] at hm
    rw [pg_send_k, pg_send_f, pg_send_a, pg_send_b, pg_send_c, pg_send_g, o 27 0 0 m (by omega) (by omega) (by omega)]
    by_cases e : m = B.1
    · subst e
      refine ⟨?_, ?_, ?_, ?_, ?_, by rw [h5 B.1 (Nat.le_refl _) hz, if_pos rfl]; rfl⟩
      · unfold xn_ts; dsimp only; split <;> simp [xn_uI, xn_uJ]
      · unfold xn_ts; dsimp only; split <;> simp [xn_uI, xn_uJ]
      · unfold xn_ts; dsimp only; split <;> simp [xn_uI, xn_uJ]
      · unfold xn_ts; dsimp only; split <;> simp [xn_uI, xn_uJ]
      · unfold xn_ts; dsimp only; split <;> simp [xn_uI, xn_uJ]
    · obtain ⟨g1, g2, g3, g4, g5, g6⟩ := h4 m (by omega)
      rw [if_neg e, if_neg e, if_neg e, if_neg e, if_neg e, if_neg e]
      refine ⟨?_, ?_, ?_, ?_, ?_, g6⟩
      · unfold xn_ts; dsimp only; split <;> simpa [xn_uI, xn_uJ, e] using g1
      · unfold xn_ts; dsimp only; split <;> simpa [xn_uI, xn_uJ, e] using g2
      · unfold xn_ts; dsimp only; split <;> simpa [xn_uI, xn_uJ, e] using g3
      · unfold xn_ts; dsimp only; split <;> simpa [xn_uI, xn_uJ, e] using g4
      · unfold xn_ts; dsimp only; split <;> simpa [xn_uI, xn_uJ, e] using g5
  · rw [pg_send_z] at h6
    rw [o 27 0 0 m (by omega) (by omega) (by omega)]
    exact h5 m (by omega) h7
/-- a replica sends -/
theorem xt_S.own {r : Nat} {S : pg_S} {v : xn_V} (h : xt_S r S v) (hr : r < 4) (hz : S.1.1 < 200) (k : Nat) (hk : 1 ≤ k ∧ k < 8) (x : Int32) (y : Int64) (c : Int32) : xt_S r (pg_own r S k x y c) (xn_ts v S.1.1 r (nI k) x y c) := by
  obtain ⟨h1, h2, h3⟩ := h
  obtain ⟨o1, o2⟩ := xn_ts_oth v S.1.1 r (nI k) x y c
  refine ⟨h1.send hz k r x y c (by omega), ?_, by rw [o1 21 0 0 21 (by omega) (by omega) (by omega)]; exact h3⟩
  have hu := h2.uA (t := 9) (q := S.1.1) (x := 1) (K := 28) (by decide) (fun _ => Nat.le_refl 1) rfl
  refine hu.cells (fun k' h4 h5 => ?_) ?_ (fun k' q hk' hq => ?_)
  · rw [o1 k' 0 0 r (by omega) (by omega) (by omega)]
    show _ = (if k' = 28 ∧ 0 = 0 ∧ 0 = 0 ∧ r = 200 * r + S.1.1 then _ else v.1 k' 0 0 r)
    rw [if_neg (by omega)]
  · exact o2 34 0 0 r (by omega)
  · show _ = (if k' = 28 ∧ 0 = 0 ∧ 0 = 0 ∧ 200 * r + q = 200 * r + S.1.1 then nI 1 else v.1 k' 0 0 (200 * r + q))
    by_cases e : k' = 28 ∧ q = S.1.1
    · rw [if_pos ⟨e.1, rfl, rfl, by rw [e.2]⟩, e.1, e.2]
      unfold xn_ts
      dsimp only
      rw [if_pos hr]
      simp [xn_uI]
    · rw [if_neg (by rintro ⟨e1, -, -, e2⟩; exact e ⟨e1, by omega⟩), o1 k' 0 0 _ (by omega) (by omega) (by rintro ⟨e1, -, e2⟩; exact e ⟨e1, by omega⟩)]
theorem xf_T.ts {r : Nat} {v v1 : xn_V} (h : xf_T r v v1) {z : Nat} (hz : z < 200) {k x : Int32} {y : Int64} {c : Int32} : xf_T r v (xn_ts v1 z r k x y c) := by
  refine h.tr (fun k' r' i' x' a b d e => ?_)
  obtain ⟨o1, o2⟩ := xn_ts_oth v1 z r k x y c
  exact ⟨o1 k' r' i' x' (by omega) (by omega) (by omega), o2 k' r' i' x' (by omega)⟩
theorem c_T_takesRequest (l : Launch) (G : xj_G) (v : xn_V) (r : Nat) (hr : r < 4) (S : pg_S) (hS : xt_S r S v) (m : Nat) (hm : m < S.1.1) : xj_Mx l G 1 23 0 0 m_T_takesRequest [.ref (xj_ad G (21, 0, 0)), .int (nI m), .int (nI r)] (xn_W v) (xp_tr r v S (pg_tReq S m)) := by
  obtain ⟨hB, hR, hA⟩ := hS
  have hz := hB.2.1
  have h01 := (hR.2.2.2 m).2
  refine xj_Mx_of (by decide) (Nat.le_of_ble_eq_true rfl) (fun E hE C _ => ?_)
  subst hE
  replace C : xj_C E G prog_9_method_21_code "ThreePhaseGroupModel" 3 1 23 0 0 (some .boolean) := C
  show xn_X E G _ 0 0 0 [some (.ref (xj_ad G (21, 0, 0))), some (.int (nI m)), some (.int (nI r))] [] v
  refine xj_aload_n C a_T_takesRequest_0 rfl ?_
  refine xn_g_T_known C a_T_takesRequest_1 fl_T_33 ?_
  refine xj_sipush (v := nI 200) C a_T_takesRequest_4 (by decide) ?_
  refine xj_iload_n C a_T_takesRequest_7 rfl ?_
  refine xj_imulN C a_T_takesRequest_8 ?_
  refine xj_iload_n C a_T_takesRequest_9 rfl ?_
  refine xj_iaddN C a_T_takesRequest_10 ?_
  refine xn_ld_29 C a_T_takesRequest_11 (by first | assumption | omega) ?_
  refine xj_topi (hR.kn (by omega)) ?_
  refine xj_if_eq C a_T_takesRequest_12 rfl (fun h12 => ?_) (fun h12 => ?_)
  · rw [xp_nz (by omega)] at h12
    have hR1 := hR.uA (t := 10) (q := m) (x := 1) (K := 29) (by decide) (fun _ => Nat.le_refl 1) rfl
    have hB1 : xt_B S.1 (xn_uI v 29 0 0 (200 * r + m) (nI 1)) := hB.uI (by omega)
    have hA1 : (xn_uI v 29 0 0 (200 * r + m) (nI 1)).1 21 0 0 21 = nI (pg_af S.2) := by simpa [xn_uI] using hA
    refine xj_aload_n C a_T_takesRequest_17 rfl ?_
    refine xn_g_T_known C a_T_takesRequest_18 fl_T_33 ?_
    refine xj_sipush (v := nI 200) C a_T_takesRequest_21 (by decide) ?_
    refine xj_iload_n C a_T_takesRequest_24 rfl ?_
    refine xj_imulN C a_T_takesRequest_25 ?_
    refine xj_iload_n C a_T_takesRequest_26 rfl ?_
    refine xj_iaddN C a_T_takesRequest_27 ?_
    refine xj_iconst (v := nI 1) C a_T_takesRequest_28 (by decide) ?_
    refine xn_st_29 C a_T_takesRequest_29 (by first | assumption | omega) (by first | assumption | decide) ?_
    refine xj_aload_n C a_T_takesRequest_30 rfl ?_
    refine xj_iload_n C a_T_takesRequest_31 rfl ?_
    refine xj_iload_n C a_T_takesRequest_32 rfl ?_
    refine xn_callV2i C a_T_takesRequest_33 (c_T_waits _ _ _ r hr (S.1, pg_u S.2 10 m 1) hB1 hR1 m hm) mv_T_waits lk_T_131 ⟨rfl, rfl, rfl⟩ xj_ok21 ⟨by decide, by decide⟩ rfl (Nat.le_of_ble_eq_true rfl) ⟨Nat.le_refl _, Nat.le_refl _⟩ ?_
    refine xj_if_eq C a_T_takesRequest_36 rfl (fun h36 => ?_) (fun h36 => ?_)
    · rw [xp_b0] at h36
      have e : pg_tReq S m = none := by unfold pg_tReq; rw [if_neg (by omega), if_neg (by rw [h36]; decide)]
      rw [e]
      refine xj_aload_n C a_T_takesRequest_41 rfl ?_
      refine xn_g_T_known C a_T_takesRequest_42 fl_T_33 ?_
      refine xj_sipush (v := nI 200) C a_T_takesRequest_45 (by decide) ?_
      refine xj_iload_n C a_T_takesRequest_48 rfl ?_
      refine xj_imulN C a_T_takesRequest_49 ?_
      refine xj_iload_n C a_T_takesRequest_50 rfl ?_
      refine xj_iaddN C a_T_takesRequest_51 ?_
      refine xj_iconst (v := nI 0) C a_T_takesRequest_52 (by decide) ?_
      refine xn_st_29 C a_T_takesRequest_53 (by first | assumption | omega) (by first | assumption | decide) ?_
      refine xj_iconst (v := nI 0) C a_T_takesRequest_54 (by decide) ?_
      refine xj_zret C a_T_takesRequest_55 rfl ⟨rfl, _, rfl, ⟨hB1.uI (by omega), ?_, ?_⟩, ((xf_T.rf r v).uI (by omega)).uI (by omega)⟩
      · refine (hR1.uA (t := 10) (q := m) (x := 0) (K := 29) (by decide) (by omega) rfl).congr (fun t i ht => ?_) rfl
        show S.2.1 t i = if t = 10 ∧ i = m then 0 else if t = 10 ∧ i = m then 1 else S.2.1 t i
        by_cases e2 : t = 10 ∧ i = m
        · rw [if_pos e2, e2.1, e2.2]; exact h12
        · rw [if_neg e2, if_neg e2]
      · simpa [xn_uI] using hA
    · rw [xp_b0] at h36
      have e : pg_tReq S m = some (S.1, pg_u S.2 10 m 1) := by unfold pg_tReq; rw [if_neg (by omega), if_pos (by simpa using h36)]
      rw [e]
      refine xj_iconst (v := nI 1) C a_T_takesRequest_39 (by decide) ?_
      exact xj_zret C a_T_takesRequest_40 rfl ⟨rfl, _, rfl, ⟨hB1, hR1, hA1⟩, (xf_T.rf r v).uI (by omega)⟩
  · rw [xp_nz (by omega)] at h12
    have e : pg_tReq S m = none := by unfold pg_tReq; rw [if_pos (by omega)]
    rw [e]
    refine xj_iconst (v := nI 0) C a_T_takesRequest_15 (by decide) ?_
    exact xj_zret C a_T_takesRequest_16 rfl ⟨rfl, v, rfl, ⟨hB, hR, hA⟩, xf_T.rf r v⟩
