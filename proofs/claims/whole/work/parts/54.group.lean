/-! the group: the board, four replicas, two clients, six marks, the faulty replica (0 none, r + 1) -/
abbrev pg_T : Type := pg_B × (Nat → pg_R) × (Nat → pg_C) × (Nat → Nat) × Nat
def pg_sR (T : pg_T) (r : Nat) : pg_S := (T.1, T.2.1 r)
def pg_putR (T : pg_T) (r : Nat) (S : pg_S) : pg_T := (S.1, va_up T.2.1 r S.2, T.2.2)
def pg_putC (T : pg_T) (k : Nat) (C : pg_C) : pg_T := (T.1, T.2.1, va_up T.2.2.1 k C, T.2.2.2)
def pg_mk (T : pg_T) (p : Nat) : pg_T := (T.1, T.2.1, T.2.2.1, va_up T.2.2.2.1 p (T.2.2.2.1 p + 1), T.2.2.2.2)
def pg_give (T : pg_T) (m p : Nat) : Option pg_T :=
  if 4 ≤ p then (pg_ans T.1 (T.2.2.1 (p - 4)) m (p - 4)).map (pg_putC T (p - 4))
  else if T.2.2.2.2 = p + 1 then none
  else (pg_takes p (pg_sR T p) m).map (fun S => pg_putR T p (pg_run p S))
/-- a number below n -/
def xp_at (n : Nat) (x : Int32) : Option Nat := if 0 ≤ x ∧ x < nI n then some x.toInt.toNat else none
theorem xp_at_some {n j : Nat} (hn : n < 2 ^ 31) (h : j < n) : xp_at n (nI j) = some j := by
  unfold xp_at
  have h1 : (0 : Int32) ≤ nI j := (nI_leI (a := 0) (b := j) (by omega) (by omega)).mpr (by omega)
  have h2 : nI j < nI n := by rw [nI_ltI (by omega) (by omega)]; exact h
  rw [if_pos ⟨h1, h2⟩, nI_toInt (by omega)]
  rfl
theorem xp_at_neg {n : Nat} {x : Int32} (h : x < 0) : xp_at n x = none := by
  unfold xp_at
  rw [if_neg]
  rintro ⟨h1, -⟩
  exact Int32.not_lt.mpr h1 h
theorem xp_at_big {n : Nat} {x : Int32} (h : nI n ≤ x) : xp_at n x = none := by
  unfold xp_at
  rw [if_neg]
  rintro ⟨-, h1⟩
  exact Int32.not_lt.mpr h h1
/-- it is one or it is none -/
theorem xp_at_or (n : Nat) (hn : n < 2 ^ 31) (x : Int32) : (xp_at n x = none ∧ (x < 0 ∨ nI n ≤ x)) ∨ ∃ j, j < n ∧ x = nI j ∧ xp_at n x = some j := by
  rcases pk_ix x hn with h | h | ⟨j, h1, h2⟩
  · exact Or.inl ⟨xp_at_neg h, Or.inl h⟩
  · exact Or.inl ⟨xp_at_big h, Or.inr h⟩
  · exact Or.inr ⟨j, h1, h2, by rw [h2]; exact xp_at_some hn h1⟩
theorem xp_at_d (n : Nat) (hn : n < 2 ^ 31) (x : Int32) : decide (¬ x < 0 ∧ ¬ nI n ≤ x) = (xp_at n x).isSome := by
  rcases xp_at_or n hn x with ⟨h1, h2⟩ | ⟨j, h1, h2, h3⟩
  · rw [h1]
    apply decide_eq_false
    rintro ⟨a, b⟩
    rcases h2 with h | h
    · exact a h
    · exact b h
  · rw [h3]
    apply decide_eq_true
    rw [h2]
    constructor
    · intro h
      have h : nI j < nI 0 := h
      rw [nI_ltI (by omega) (by omega)] at h
      omega
    · rw [nI_leI (by omega) (by omega)]; omega
def xp_fy (f : Nat) : Int32 := if f = 0 then -2 else nI (f - 1)
/-- the class's group -/
def xc_T (T : pg_T) (v : xn_V) : Prop := xc_B T.1 v ∧ (∃ j, xc_V T.1 j v ∧ ∀ x, j ≤ x → x < T.1.1 → pg_k T.1 x = 0) ∧ (∀ r, r < 4 → xc_R r (pg_sR T r) v) ∧ (∀ k, k < 2 → xc_C k T.1 (T.2.2.1 k) v) ∧ (∀ p, p < 6 → v.1 10 0 0 p = nI (T.2.2.2.1 p)) ∧ v.1 0 0 0 4 = xp_fy T.2.2.2.2
theorem pg_gc_k {B : pg_B} {m : Nat} (h : ¬ pg_k B m = 5) : pg_gc B m = false := by
  unfold pg_gc
  have : (pg_k B m == 5) = false := by simpa using h
  rw [this, Bool.false_and]
theorem pg_gn_k {B : pg_B} {m : Nat} (h : ¬ pg_k B m = 6) : pg_gn B m = false := by
  unfold pg_gn
  have : (pg_k B m == 6) = false := by simpa using h
  rw [this, Bool.false_and]
theorem xc_T.val {T : pg_T} {v : xn_V} (h : xc_T T v) {m : Nat} (hm : m < T.1.1) : v.1 7 0 0 m = xp_b (pg_gc T.1 m || pg_gn T.1 m) := by
  obtain ⟨j, ⟨h1, h2, h3, h4⟩, h5⟩ := h.2.1
  by_cases e : m < j
  · exact h3 m e
  · have hk := h5 m (by omega) hm
    have := h.1.2.1
    rw [h4 m (by omega) (by omega), pg_gc_k (by omega), pg_gn_k (by omega)]
    rfl
theorem xc_V.ext {B B' : pg_B} {j : Nat} {v v' : xn_V} (h : xc_V B j v) (he : pg_ext B B') (h1 : v'.1 1 0 0 7 = v.1 1 0 0 7) (h7 : ∀ x, v'.1 7 0 0 x = v.1 7 0 0 x) : xc_V B' j v' := by
  obtain ⟨a1, a2, a3, a4⟩ := h
  refine ⟨by rw [h1]; exact a1, Nat.le_trans a2 he.1, fun x hx => ?_, fun x h2 h3 => by rw [h7]; exact a4 x h2 h3⟩
  rw [h7, a3 x hx, pg_gc_ext he (by omega), pg_gn_ext he (by omega)]
/-- the reference's cells stay -/
def xf_G (v v' : xn_V) : Prop := ∀ k r i x, 21 ≤ k → v'.1 k r i x = v.1 k r i x ∧ v'.2 k r i x = v.2 k r i x
theorem xf_G.rf (v : xn_V) : xf_G v v := fun _ _ _ _ _ => ⟨rfl, rfl⟩
theorem xf_G.tr {v v1 v2 : xn_V} (h : xf_G v v1) (g : xf_G v1 v2) : xf_G v v2 := fun k r i x hk => ⟨(g k r i x hk).1.trans (h k r i x hk).1, (g k r i x hk).2.trans (h k r i x hk).2⟩
theorem xf_G.O {r : Nat} {v v' : xn_V} (h : xf_O r v v') : xf_G v v' := fun k r' i x hk => h k r' i x (by omega) (by omega) (by omega)
theorem xf_G.K {r : Nat} {v v' : xn_V} (h : xf_K r v v') : xf_G v v' := fun k r' i x hk => h k r' i x (by omega)
theorem xf_G.J {v v' : xn_V} (h : xf_J v v') : xf_G v v' := fun k r' i x hk => ⟨h.2 k r' i x (by omega) (by omega), by rw [h.1]⟩
theorem xc_R.cells {r : Nat} {S : pg_S} {v v' : xn_V} (hR : xc_R r S v) (hf : ∀ k i x, 11 ≤ k → k ≤ 18 → v'.1 k r i x = v.1 k r i x ∧ v'.2 k r i x = v.2 k r i x) : xc_R r S v' := by
  obtain ⟨hF, ⟨kl, hL, hkl⟩, ⟨cl, hC, hc⟩, hV, hS⟩ := hR
  have e11 : ∀ x, v'.1 11 r 0 x = v.1 11 r 0 x := fun x => (hf 11 0 x (by omega) (by omega)).1
  refine ⟨?_, ⟨kl, hL.keep (hf _ _ _ (by omega) (by omega)).1 (fun j _ => (hf _ _ _ (by omega) (by omega)).1), hkl⟩, ⟨cl, hC.keep (hf _ _ _ (by omega) (by omega)).1 (fun j _ => (hf _ _ _ (by omega) (by omega)).1), hc⟩, fun s hs => ?_, fun n h1 h2 => ?_⟩
  · unfold xc_F
    simp only [e11, (hf 11 0 10 (by omega) (by omega)).2]
    exact hF
  · rw [(hf 18 0 s (by omega) (by omega)).1]
    exact hV s hs
  · obtain ⟨a1, a2, a3, a4⟩ := hS n h1 h2
    refine ⟨?_, ?_, ?_, fun s hs => ?_⟩
    · rw [(hf 13 _ _ (by omega) (by omega)).1]; exact a1
    · rw [(hf 13 _ _ (by omega) (by omega)).1]; exact a2
    · rw [(hf 13 _ _ (by omega) (by omega)).1]; exact a3
    · rw [(hf 14 _ _ (by omega) (by omega)).2, (hf 15 _ _ (by omega) (by omega)).2]
      exact a4 s hs
/-- a replica's value and the board are set -/
theorem xc_T.putR {T : pg_T} {v v1 v2 : xn_V} (h : xc_T T v) (hK : ∀ r, r < 4 → pg_kno (pg_sR T r)) (hC : ∀ k, k < 2 → pg_cok T.1 (T.2.2.1 k)) {r : Nat} {S : pg_S} (he : pg_ext T.1 S.1) (hR : xc_R r S v1) (hB : xc_B S.1 v1) (hO : xf_O r v v1) (hJ : xf_J v1 v2) (hV : xc_V S.1 S.1.1 v2) : xc_T (pg_putR T r S) v2 := by
  obtain ⟨t1, t2, t3, t4, t5, t6⟩ := h
  refine ⟨hB.J hJ, ⟨S.1.1, hV, fun x h1 h2 => absurd h2 (by show ¬ x < S.1.1; omega)⟩, fun r' hr' => ?_, fun k hk => ?_, fun p hp => ?_, ?_⟩
  · show xc_R r' (S.1, va_up T.2.1 r S.2 r') v2
    by_cases e : r' = r
    · subst e
      rw [va_up_self]
      exact hR.cells (fun k i x h1 h2 => ⟨hJ.2 k r' i x (by omega) (by omega), by rw [hJ.1]⟩)
    · rw [va_up_ne _ _ e]
      refine (t3 r' hr').grow he (hK r' hr').2 (fun k i x h1 h2 => ?_)
      have := hO k r' i x (by omega) (by omega) (by omega)
      exact ⟨(hJ.2 k r' i x (by omega) (by omega)).trans this.1, by rw [hJ.1]; exact this.2⟩
  · refine (t4 k hk).grow he (fun q hq => ((hC k hk).2.2.1 q hq).1) (fun x => ?_)
    have h1 := hO 19 k 0 x (by omega) (by omega) (by omega)
    have h2 := hO 20 k 0 x (by omega) (by omega) (by omega)
    exact ⟨(hJ.2 19 k 0 x (by omega) (by omega)).trans h1.1, by rw [hJ.1]; exact h2.2⟩
  · rw [hJ.2 10 0 0 p (by omega) (by omega), (hO 10 0 0 p (by omega) (by omega) (by omega)).1]
    exact t5 p hp
  · rw [hJ.2 0 0 0 4 (by omega) (by omega), (hO 0 0 0 4 (by omega) (by omega) (by omega)).1]
    exact t6
/-- a client's value is set -/
theorem xc_T.putC {T : pg_T} {v v1 : xn_V} (h : xc_T T v) {k : Nat} (hk : k < 2) {C : pg_C} (hC : xc_C k T.1 C v1) (hO : xf_K k v v1) : xc_T (pg_putC T k C) v1 := by
  obtain ⟨t1, ⟨j, t2, t2'⟩, t3, t4, t5, t6⟩ := h
  have o : ∀ k' r' i x, ¬ (k' = 19 ∨ k' = 20) → v1.1 k' r' i x = v.1 k' r' i x ∧ v1.2 k' r' i x = v.2 k' r' i x := fun k' r' i x hn => hO k' r' i x (by omega)
  refine ⟨?_, ⟨j, t2.ext (pg_ext.rf _) (o _ _ _ _ (by omega)).1 (fun x => (o _ _ _ _ (by omega)).1), t2'⟩, fun r hr => (t3 r hr).cells (fun k' i x h1 h2 => o k' r i x (by omega)), fun k' hk' => ?_, fun p hp => by rw [(o _ _ _ _ (by omega)).1]; exact t5 p hp, by rw [(o _ _ _ _ (by omega)).1]; exact t6⟩
  · obtain ⟨h1, h2, h3, h4⟩ := t1
    refine ⟨by rw [(o 1 0 0 6 (by omega)).1]; exact h1, h2, h3, fun m hm => ?_⟩
    rw [(o 2 0 0 m (by omega)).1, (o 3 0 0 m (by omega)).1, (o 4 0 0 m (by omega)).1, (o 5 0 0 m (by omega)).2, (o 6 0 0 m (by omega)).1]
    exact h4 m hm
  · show xc_C k' T.1 (va_up T.2.2.1 k C k') v1
    by_cases e : k' = k
    · subst e
      rw [va_up_self]
      exact hC
    · rw [va_up_ne _ _ e]
      obtain ⟨c1, c2, c3, c4, c5⟩ := t4 k' hk'
      have o2 : ∀ k2 i x, v1.1 k2 k' i x = v.1 k2 k' i x ∧ v1.2 k2 k' i x = v.2 k2 k' i x := fun k2 i x => hO k2 k' i x (by omega)
      exact ⟨by rw [(o2 _ _ _).1]; exact c1, by rw [(o2 _ _ _).1]; exact c2, by rw [(o2 _ _ _).1]; exact c3, by rw [(o2 _ _ _).1]; exact c4, fun h s hs => by rw [(o2 _ _ _).2]; exact c5 h s hs⟩
/-! what is asked of the group's value -/
def pg_bok (B : pg_B) : Prop := pg_bke B ∧ pg_cps B ∧ pg_b6 B
def pg_rok (r : Nat) (S : pg_S) : Prop := (∀ k, k ≤ 1000 → pg_ok r (pg_rls r k S)) ∧ pg_rl r (pg_rls r 1000 S) = none ∧ pg_bok (pg_run r S).1
/-- as the group stands -/
def pg_g0 (T : pg_T) : Prop := (∀ r, r < 4 → pg_kno (pg_sR T r) ∧ pg_num (T.2.1 r)) ∧ (∀ k, k < 2 → pg_cok T.1 (T.2.2.1 k)) ∧ T.2.2.2.2 ≤ 4 ∧ (∀ p, p < 6 → T.2.2.2.1 p ≤ T.1.1)
/-- where a message is given to a replica -/
def pg_g1 (T : pg_T) (r m : Nat) : Prop := pg_tok r (pg_sR T r) m ∧ ∀ S, pg_takes r (pg_sR T r) m = some S → pg_rok r S
/-- what a give does -/
def xp_gv (v : xn_V) (o : Option pg_T) (a : Option Value) (w' : xj_W) : Prop := match o with
  | none => a = some (.int (nI 0)) ∧ w' = xn_W v
  | some T' => a = some (.int (nI 1)) ∧ ∃ v', w' = xn_W v' ∧ xc_T T' v' ∧ xf_G v v'
theorem xp_fy_eq {f r : Nat} (hf : f ≤ 4) (hr : r < 4) : nI r = xp_fy f ↔ f = r + 1 := by
  unfold xp_fy
  by_cases e : f = 0
  · rw [if_pos e]
    constructor
    · intro h; exact absurd h (xp_one (by omega))
    · intro h; omega
  · rw [if_neg e, nI_eq (by omega) (by omega)]
    omega
theorem c_G_give (l : Launch) (G : xj_G) (v : xn_V) (T : pg_T) (hT : xc_T T v) (h0 : pg_g0 T) (m p : Nat) (hm : m < T.1.1) (hp : p < 6) (h1 : p < 4 → ¬ T.2.2.2.2 = p + 1 → pg_g1 T p m) : xj_Mx l G 6 139 0 0 m_G_give [.ref (xj_ad G (0, 0, 0)), .int (nI m), .int (nI p)] (xn_W v) (xp_gv v (pg_give T m p)) := by
  obtain ⟨hKN, hC, hfy, hmk⟩ := h0
  have hK : ∀ r, r < 4 → pg_kno (pg_sR T r) := fun r hr => (hKN r hr).1
  refine xj_Mx_of (by decide) (Nat.le_of_ble_eq_true rfl) (fun E hE C _ => ?_)
  subst hE
  replace C : xj_C E G prog_1_method_26_code "ThreePhaseGroup" 3 6 139 0 0 (some .boolean) := C
  show xn_X E G _ 0 0 0 [some (.ref (xj_ad G (0, 0, 0))), some (.int (nI m)), some (.int (nI p))] [] v
  refine xj_iload_n C a_G_give_0 rfl ?_
  refine xj_iconst (v := nI 4) C a_G_give_1 (by decide) ?_
  refine xj_icmp_lt C a_G_give_2 rfl (fun h2 => ?_) (fun h2 => ?_)
  · rw [nI_ltI (by omega) (by omega)] at h2
    refine xj_iload_n C a_G_give_18 rfl ?_
    refine xj_aload_n C a_G_give_19 rfl ?_
    refine xn_g_G_faulty C a_G_give_20 fl_G_32 ?_
    refine xj_topi hT.2.2.2.2.2 ?_
    refine xj_icmp_eq C a_G_give_23 rfl (fun h23 => ?_) (fun h23 => ?_)
    · rw [xp_fy_eq hfy h2] at h23
      have e : pg_give T m p = none := by
        unfold pg_give
        rw [if_neg (by omega), if_pos h23]
      rw [e]
      refine xj_iconst (v := nI 0) C a_G_give_39 (by decide) ?_
      exact xj_zret C a_G_give_40 rfl ⟨rfl, rfl⟩
    · rw [xp_fy_eq hfy h2] at h23
      obtain ⟨htok, hrok⟩ := h1 h2 h23
      have e0 : pg_give T m p = (pg_takes p (pg_sR T p) m).map (fun S => pg_putR T p (pg_run p S)) := by
        unfold pg_give
        rw [if_neg (by omega), if_neg h23]
      refine xj_aload_n C a_G_give_26 rfl ?_
      refine xn_g_G_replicas C a_G_give_27 fl_G_18 ?_
      refine xj_iload_n C a_G_give_30 rfl ?_
      refine xn_ld_8 C a_G_give_31 (by first | assumption | omega) ?_
      refine xj_iload_n C a_G_give_32 rfl ?_
      refine xj_callV1 C a_G_give_33 (c_R_takes _ _ v p h2 (pg_sR T p) (hT.2.2.1 p h2) hT.1 m hm htok (hT.val hm)) mv_R_takes lk_G_165 ⟨rfl, rfl, rfl⟩ (xj_ok11 (by first | assumption | omega)) ⟨by decide, by decide⟩ rfl (Nat.le_of_ble_eq_true rfl) ⟨Nat.le_refl _, Nat.le_refl _⟩ (fun a' w' h => ?_)
      cases e : pg_takes p (pg_sR T p) m with
      | none =>
        rw [e] at h
        obtain ⟨rfl, rfl⟩ := h
        rw [e0, e]
        refine xj_if_ne C a_G_give_36 rfl (fun h36 => absurd rfl h36) (fun h36 => ?_)
        refine xj_iconst (v := nI 0) C a_G_give_39 (by decide) ?_
        exact xj_zret C a_G_give_40 rfl ⟨rfl, rfl⟩
      | some S =>
        rw [e] at h
        obtain ⟨rfl, v1, rfl, hR1, hf1⟩ := h
        rw [e0, e]
        obtain ⟨k1, k2, k3⟩ := hrok S e
        have eB : S.1 = T.1 := pg_takes_B e
        have hB1 : xc_B S.1 v1 := by rw [eB]; exact hT.1.R hf1
        refine xj_if_ne C a_G_give_36 rfl (fun h36 => ?_) (fun h36 => absurd h36 (by decide))
        refine xj_aload_n C a_G_give_41 rfl ?_
        refine xn_g_G_replicas C a_G_give_42 fl_G_18 ?_
        refine xj_iload_n C a_G_give_45 rfl ?_
        refine xn_ld_8 C a_G_give_46 (by first | assumption | omega) ?_
        refine xj_callV0 C a_G_give_47 (c_R_followRules _ _ v1 p h2 S hR1 hB1 k1 k2) mv_R_followRules lk_G_81 ⟨rfl, rfl, rfl⟩ (xj_ok11 (by first | assumption | omega)) ⟨by decide, by decide⟩ rfl (Nat.le_of_ble_eq_true rfl) ⟨Nat.le_refl _, Nat.le_refl _⟩ (fun a' w' h => ?_)
        obtain ⟨rfl, v2, rfl, hR2, hB2, hO2⟩ := h
        have hO : xf_O p v v2 := (xf_O.ofR hf1).tr hO2
        have he : pg_ext T.1 (pg_run p S).1 := by rw [← eB]; exact pg_run_ext p S
        obtain ⟨j, hj, -⟩ := hT.2.1
        have hV2 : xc_V (pg_run p S).1 j v2 := hj.ext he (hO 1 0 0 7 (by omega) (by omega) (by omega)).1 (fun x => (hO 7 0 0 x (by omega) (by omega) (by omega)).1)
        refine xj_aload_n C a_G_give_50 rfl ?_
        refine xn_g_G_board C a_G_give_51 fl_G_12 ?_
        refine xj_callV0 C a_G_give_54 (c_B_judgeNew _ _ v2 (pg_run p S).1 hB2 k3.1 k3.2.1 k3.2.2 j hV2) mv_B_judgeNew lk_G_84 ⟨rfl, rfl, rfl⟩ xj_ok1 ⟨by decide, by decide⟩ rfl (Nat.le_of_ble_eq_true rfl) ⟨Nat.le_refl _, Nat.le_refl _⟩ (fun a' w' h => ?_)
        obtain ⟨rfl, v3, rfl, hV3, hJ3⟩ := h
        refine xj_iconst (v := nI 1) C a_G_give_57 (by decide) ?_
        refine xj_zret C a_G_give_58 rfl ⟨rfl, v3, rfl, hT.putR hK hC he hR2 hB2 hO hJ3 hV3, (xf_G.O hO).tr (xf_G.J hJ3)⟩
  · rw [nI_ltI (by omega) (by omega)] at h2
    have e0 : pg_give T m p = (pg_ans T.1 (T.2.2.1 (p - 4)) m (p - 4)).map (pg_putC T (p - 4)) := by
      unfold pg_give
      rw [if_pos (by omega)]
    refine xj_aload_n C a_G_give_5 rfl ?_
    refine xn_g_G_clients C a_G_give_6 fl_G_24 ?_
    refine xj_iload_n C a_G_give_9 rfl ?_
    refine xj_iconst (v := nI 4) C a_G_give_10 (by decide) ?_
    refine xj_isub C a_G_give_11 ?_
    refine xj_topi (y := nI (p - 4)) (pk_sub (by omega)) ?_
    refine xn_ld_9 C a_G_give_12 (by first | assumption | omega) ?_
    refine xj_iload_n C a_G_give_13 rfl ?_
    refine xj_callV1 C a_G_give_14 (c_C_takes _ _ v (p - 4) (by omega) T.1 (T.2.2.1 (p - 4)) (hT.2.2.2.1 (p - 4) (by omega)) hT.1 (hC (p - 4) (by omega)) m hm) mv_C_takes lk_G_162 ⟨rfl, rfl, rfl⟩ (xj_ok19 (by first | assumption | omega)) ⟨by decide, by decide⟩ rfl (Nat.le_of_ble_eq_true rfl) ⟨Nat.le_refl _, Nat.le_refl _⟩ (fun a' w' h => ?_)
    cases e : pg_ans T.1 (T.2.2.1 (p - 4)) m (p - 4) with
    | none =>
      rw [e] at h
      obtain ⟨rfl, rfl⟩ := h
      rw [e0, e]
      exact xj_zret C a_G_give_17 rfl ⟨rfl, rfl⟩
    | some C1 =>
      rw [e] at h
      obtain ⟨rfl, v1, rfl, hC1, hf1⟩ := h
      rw [e0, e]
      exact xj_zret C a_G_give_17 rfl ⟨rfl, v1, rfl, hT.putC (by omega) hC1 hf1, xf_G.K hf1⟩
