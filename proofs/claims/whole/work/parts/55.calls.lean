/-! the calls that change the group -/
def xp_opt (T : pg_T) (o : Option pg_T) : Bool × pg_T := match o with
  | some T' => (true, T')
  | none => (false, T)
def xp_un (x : Int32) : Nat := x.toInt.toNat
def pg_submit (T : pg_T) (cl op key val : Int32) : Int32 × pg_T :=
  if ((xp_at 2 cl).isSome = true ∧ (xp_at 3 op).isSome = true ∧ (xp_at 4 key).isSome = true ∧ (xp_at 16 val).isSome = true) ∧ pg_op (T.2.2.1 (xp_un cl)) = 0 ∧ T.1.1 < 150 then
    (nI T.1.1, (pg_send T.1 0 (4 + xp_un cl) (nI (pg_sm (T.2.2.1 (xp_un cl)) + 1)) op.toInt64 (nI 16 * key + val) false, T.2.1, va_up T.2.2.1 (xp_un cl) (pg_cw (pg_cw (T.2.2.1 (xp_un cl)) 0 0 (pg_sm (T.2.2.1 (xp_un cl)) + 1) (T.2.2.1 (xp_un cl)).2) 1 0 (pg_sm (T.2.2.1 (xp_un cl)) + 1) (T.2.2.1 (xp_un cl)).2), T.2.2.2))
  else (-1, T)
def pg_deliver (T : pg_T) (m p : Int32) : Bool × pg_T :=
  if (xp_at T.1.1 m).isSome = true ∧ (xp_at 6 p).isSome = true ∧ T.1.1 < 150 then xp_opt T (pg_give T (xp_un m) (xp_un p)) else (false, T)
def pg_pmp (q : Nat) : Nat → pg_T → Nat → Nat × pg_T
  | 0, T, g => (g, T)
  | j + 1, T, g => if T.2.2.2.1 q < T.1.1 ∧ T.1.1 < 150 then (match pg_give T (T.2.2.2.1 q) q with
      | some T' => pg_pmp q j (pg_mk T' q) (g + 1)
      | none => pg_pmp q j (pg_mk T q) g) else (g, T)
def pg_pump (T : pg_T) (p n : Int32) : Int32 × pg_T :=
  if (xp_at 6 p).isSome = true ∧ 1 ≤ n ∧ n ≤ 8 then (nI (pg_pmp (xp_un p) (xp_un n) T 0).1, (pg_pmp (xp_un p) (xp_un n) T 0).2) else (-1, T)
def pg_tick (T : pg_T) (r : Int32) : Bool × pg_T :=
  if (xp_at 4 r).isSome = true ∧ ¬ T.2.2.2.2 = xp_un r + 1 ∧ ¬ pg_tm (T.2.1 (xp_un r)) = 0 ∧ T.1.1 < 150 then (true, pg_putR T (xp_un r) (pg_run (xp_un r) (pg_clk (xp_un r) (pg_sR T (xp_un r))))) else (false, T)
def pg_corrupt (T : pg_T) (r : Int32) : Bool × pg_T :=
  if (xp_at 4 r).isSome = true ∧ T.2.2.2.2 = 0 then (true, (T.1, T.2.1, T.2.2.1, T.2.2.2.1, xp_un r + 1)) else (false, T)
def pg_post (T : pg_T) (k : Nat) (x : Int32) (y : Int64) (z : Int32) : Int32 × pg_T :=
  if ¬ T.2.2.2.2 = 0 ∧ T.1.1 < 150 then (nI T.1.1, (pg_send T.1 k (T.2.2.2.2 - 1) x y z true, T.2)) else (-1, T)
def pg_forge (T : pg_T) (k x y z : Int32) : Int32 × pg_T := if 1 ≤ k ∧ k ≤ 6 then pg_post T (xp_un k) x y.toInt64 z else (-1, T)
theorem xp_un_n {j : Nat} (h : j < 2 ^ 31) : xp_un (nI j) = j := by
  unfold xp_un
  rw [nI_toInt h]
  rfl
/-- what a call does -/
def xp_gi (v : xn_V) (x : Value) (T' : pg_T) (a : Option Value) (w' : xj_W) : Prop := a = some x ∧ ∃ v', w' = xn_W v' ∧ xc_T T' v' ∧ xf_G v v'
theorem xc_T.B {T : pg_T} {v : xn_V} (h : xc_T T v) : xc_B T.1 v := h.1
theorem xp_full {T : pg_T} {v : xn_V} (h : xc_T T v) : decide (¬ v.1 1 0 0 6 < nI 150) = decide (¬ T.1.1 < 150) := by
  have := h.1.2.1
  rw [h.1.1]
  congr 2
  exact propext (nI_ltI (by omega) (by omega))
/-- the message is sent by a party that is no replica, or is forged -/
theorem xc_T.send {T : pg_T} {v : xn_V} (h : xc_T T v) (hK : ∀ r, r < 4 → pg_kno (pg_sR T r)) (hC : ∀ k, k < 2 → ∀ q, pg_tk (T.2.2.1 k) q = 1 → q < T.1.1) (hz : T.1.1 < 256) {k p : Nat} {x : Int32} {y : Int64} {z : Int32} {g : Bool} (hk : k < 8 ∧ p < 6 ∧ (k = 0 ↔ 4 ≤ p)) : xc_B (pg_send T.1 k p x y z g) (xn_post v T.1.1 (nI k) (nI p) x y z) ∧ (∃ j, xc_V (pg_send T.1 k p x y z g) j (xn_post v T.1.1 (nI k) (nI p) x y z) ∧ ∀ q, j ≤ q → q < T.1.1 → pg_k T.1 q = 0) ∧ (∀ r, r < 4 → xc_R r (pg_send T.1 k p x y z g, T.2.1 r) (xn_post v T.1.1 (nI k) (nI p) x y z)) ∧ (∀ q, q < 2 → xc_C q (pg_send T.1 k p x y z g) (T.2.2.1 q) (xn_post v T.1.1 (nI k) (nI p) x y z)) ∧ (∀ q, q < 6 → (xn_post v T.1.1 (nI k) (nI p) x y z).1 10 0 0 q = nI (T.2.2.2.1 q)) ∧ (xn_post v T.1.1 (nI k) (nI p) x y z).1 0 0 0 4 = xp_fy T.2.2.2.2 := by
  obtain ⟨t1, ⟨j, t2, t2'⟩, t3, t4, t5, t6⟩ := h
  have o := xn_post_oth v T.1.1 (nI k) (nI p) x y z
  have he := pg_ext.send T.1 k p x y z g
  refine ⟨t1.post hz k p x y z g hk, ⟨j, t2.ext he (o 1 0 0 7 (by omega) (by omega)).1 (fun q => (o 7 0 0 q (by omega) (by omega)).1), t2'⟩, fun r hr => ?_, fun q hq => ?_, fun q hq => ?_, ?_⟩
  · exact (t3 r hr).grow he (hK r hr).2 (fun k' i x' h1 h2 => o k' r i x' (by omega) (by omega))
  · exact (t4 q hq).grow he (hC q hq) (fun x' => ⟨(o 19 q 0 x' (by omega) (by omega)).1, (o 20 q 0 x' (by omega) (by omega)).2⟩)
  · rw [(o 10 0 0 q (by omega) (by omega)).1]; exact t5 q hq
  · rw [(o 0 0 0 4 (by omega) (by omega)).1]; exact t6
theorem xf_G.post {v v1 : xn_V} (h : xf_G v v1) {z : Nat} {k f a : Int32} {b : Int64} {c : Int32} : xf_G v (xn_post v1 z k f a b c) := h.tr (fun k' r' i x hk => xn_post_oth v1 z k f a b c k' r' i x (by omega) (by omega))
theorem c_G_submit (l : Launch) (G : xj_G) (v : xn_V) (T : pg_T) (hT : xc_T T v) (h0 : pg_g0 T) (cl op key val : Int32) : xj_Mx l G 2 44 0 0 m_G_submit [.ref (xj_ad G (0, 0, 0)), .int cl, .int op, .int key, .int val] (xn_W v) (xp_gi v (.int (pg_submit T cl op key val).1) (pg_submit T cl op key val).2) := by
  obtain ⟨hKN, hC, hfy, hmk⟩ := h0
  have hK : ∀ r, r < 4 → pg_kno (pg_sR T r) := fun r hr => (hKN r hr).1
  refine xj_Mx_of (by decide) (Nat.le_of_ble_eq_true rfl) (fun E hE C _ => ?_)
  subst hE
  replace C : xj_C E G prog_1_method_2_code "ThreePhaseGroup" 6 2 44 0 0 (some .int) := C
  show xn_X E G _ 0 0 0 [some (.ref (xj_ad G (0, 0, 0))), some (.int cl), some (.int op), some (.int key), some (.int val), none] [] v
  have bad : ∀ pc, (pg_submit T cl op key val) = (-1, T) → pc = 17 ∨ pc = 45 → ∀ z : Option Value, xn_X E G (xj_R E G (xp_gi v (.int (pg_submit T cl op key val).1) (pg_submit T cl op key val).2) 0 0) 0 0 pc [some (.ref (xj_ad G (0, 0, 0))), some (.int cl), some (.int op), some (.int key), some (.int val), z] [] v := by
    intro pc h hpc z
    rw [h]
    rcases hpc with rfl | rfl
    · refine xj_iconst (v := -1) C a_G_submit_17 (by decide) ?_
      refine xj_iret C a_G_submit_18 ?_
      exact ⟨rfl, v, rfl, hT, xf_G.rf v⟩
    · refine xj_iconst (v := -1) C a_G_submit_45 (by decide) ?_
      refine xj_iret C a_G_submit_46 ?_
      exact ⟨rfl, v, rfl, hT, xf_G.rf v⟩
  refine xj_iload_n C a_G_submit_0 rfl ?_
  refine xn_callS1i C a_G_submit_1 (c_G_isClient _ _ v cl) ms_G_isClient lk_G_40 ⟨by decide, by decide⟩ rfl (Nat.le_of_ble_eq_true rfl) ⟨Nat.le_refl _, Nat.le_refl _⟩ ?_
  refine xj_if_eq C a_G_submit_4 rfl (fun h4 => ?_) (fun h4 => ?_)
  · rw [xp_b0, xp_at_d 2 (by decide)] at h4
    refine bad 17 ?_ (Or.inl rfl) _
    unfold pg_submit
    rw [if_neg (by rintro ⟨⟨h, -⟩, -⟩; rw [h4] at h; cases h)]
  · rw [xp_b0, xp_at_d 2 (by decide)] at h4
    have h4 : (xp_at 2 cl).isSome = true := by rw [← Bool.not_eq_false]; exact h4
    have hop2 : decide ((¬ op < 0 ∧ ¬ nI 2 < op) ∧ (¬ key < 0 ∧ ¬ nI 4 ≤ key) ∧ (¬ val < 0 ∧ ¬ nI 16 ≤ val)) = ((xp_at 3 op).isSome && ((xp_at 4 key).isSome && (xp_at 16 val).isSome)) := by
      have e3 : (¬ op < 0 ∧ ¬ nI 2 < op) ↔ (¬ op < 0 ∧ ¬ nI 3 ≤ op) := by
        have h2 : (nI 2).toInt = 2 := by decide
        have h3 : (nI 3).toInt = 3 := by decide
        rw [Int32.lt_iff_toInt_lt (x := nI 2), Int32.le_iff_toInt_le (x := nI 3), h2, h3]
        exact and_congr Iff.rfl (not_congr (by omega))
      rw [← xp_at_d 3 (by decide), ← xp_at_d 4 (by decide), ← xp_at_d 16 (by decide), ← Bool.decide_and, ← Bool.decide_and]
      exact decide_eq_decide.mpr (and_congr e3 Iff.rfl)
    refine xj_iload_n C a_G_submit_7 rfl ?_
    refine xj_iload_n C a_G_submit_8 rfl ?_
    refine xj_iload C a_G_submit_9 rfl ?_
    refine xn_callS3i C a_G_submit_11 (c_G_isOperation _ _ v op key val) ms_G_isOperation lk_G_44 ⟨by decide, by decide⟩ rfl (Nat.le_of_ble_eq_true rfl) ⟨Nat.le_refl _, Nat.le_refl _⟩ ?_
    refine xj_if_ne C a_G_submit_14 rfl (fun h14 => ?_) (fun h14 => ?_)
    · rw [xp_b0, hop2, Bool.and_eq_false_iff, Bool.and_eq_false_iff] at h14
      have hall : (xp_at 3 op).isSome = true ∧ (xp_at 4 key).isSome = true ∧ (xp_at 16 val).isSome = true := by
        refine ⟨?_, ?_, ?_⟩
        · rw [← Bool.not_eq_false]; exact fun h => h14 (Or.inl h)
        · rw [← Bool.not_eq_false]; exact fun h => h14 (Or.inr (Or.inl h))
        · rw [← Bool.not_eq_false]; exact fun h => h14 (Or.inr (Or.inr h))
      rcases xp_at_or 2 (by decide) cl with ⟨hn, -⟩ | ⟨k, hk2, rfl, -⟩
      · rw [hn] at h4; cases h4
      have hkn : xp_un (nI k) = k := xp_un_n (by omega)
      obtain ⟨c1, c2, c3, c4, c5⟩ := hT.2.2.2.1 k hk2
      obtain ⟨k1, k2, k3, k4⟩ := hC k hk2
      refine xj_aload_n C a_G_submit_19 rfl ?_
      refine xn_g_G_clients C a_G_submit_20 fl_G_24 ?_
      refine xj_iload_n C a_G_submit_23 rfl ?_
      refine xn_ld_9 C a_G_submit_24 (by first | assumption | omega) ?_
      refine xj_astore5 C a_G_submit_25 rfl ?_
      refine xj_aload C a_G_submit_27 rfl ?_
      refine xn_g_C_outstanding C a_G_submit_29 fl_G_48 (by first | assumption | omega) ?_
      refine xj_topi c3 ?_
      refine xj_if_ne C a_G_submit_32 rfl (fun h32 => ?_) (fun h32 => ?_)
      · have h32 : ¬ pg_op (T.2.2.1 k) = 0 := fun e => h32 (by rw [e]; rfl)
        refine bad 45 ?_ (Or.inr rfl) _
        unfold pg_submit
        rw [hkn, if_neg (by rintro ⟨-, h, -⟩; exact h32 h)]
      · have h32 : pg_op (T.2.2.1 k) = 0 := by
          have : nI (pg_op (T.2.2.1 k)) = nI 0 := (by simpa using h32 : nI (pg_op (T.2.2.1 k)) = 0)
          rwa [nI_eq (by omega) (by omega)] at this
        refine xj_aload_n C a_G_submit_35 rfl ?_
        refine xn_g_G_board C a_G_submit_36 fl_G_12 ?_
        refine xn_callV0i C a_G_submit_39 (c_B_isFull _ _ v) mv_B_isFull lk_G_51 ⟨rfl, rfl, rfl⟩ xj_ok1 ⟨by decide, by decide⟩ rfl (Nat.le_of_ble_eq_true rfl) ⟨Nat.le_refl _, Nat.le_refl _⟩ ?_
        refine xj_if_eq C a_G_submit_42 rfl (fun h42 => ?_) (fun h42 => ?_)
        · rw [xp_full hT, xp_b0, decide_eq_false_iff_not, Classical.not_not] at h42
          have es : pg_submit T (nI k) op key val = (nI T.1.1, (pg_send T.1 0 (4 + k) (nI (pg_sm (T.2.2.1 k) + 1)) op.toInt64 (nI 16 * key + val) false, T.2.1, va_up T.2.2.1 k (pg_cw (pg_cw (T.2.2.1 k) 0 0 (pg_sm (T.2.2.1 k) + 1) (T.2.2.1 k).2) 1 0 (pg_sm (T.2.2.1 k) + 1) (T.2.2.1 k).2), T.2.2.2)) := by
            unfold pg_submit
            rw [hkn, if_pos ⟨⟨h4, hall⟩, h32, h42⟩]
          rw [es]
          refine xj_aload C a_G_submit_47 rfl ?_
          refine xn_callV0 C a_G_submit_49 (c_C_openNext _ _ v k hk2 (pg_sm (T.2.2.1 k)) c2) mv_C_openNext lk_G_55 ⟨rfl, rfl, rfl⟩ (xj_ok19 (by first | assumption | omega)) ⟨by decide, by decide⟩ rfl (Nat.le_of_ble_eq_true rfl) ⟨Nat.le_refl _, Nat.le_refl _⟩ ?_
          refine xj_aload_n C a_G_submit_52 rfl ?_
          refine xn_g_G_board C a_G_submit_53 fl_G_12 ?_
          refine xj_iconst (v := nI 0) C a_G_submit_56 (by decide) ?_
          refine xj_iconst (v := nI 4) C a_G_submit_57 (by decide) ?_
          refine xj_iload_n C a_G_submit_58 rfl ?_
          have hfK : xf_K k v (xn_fl (xn_uI (xn_uI v 19 k 0 3 (nI (pg_sm (T.2.2.1 k) + 1))) 19 k 0 4 (nI (pg_sm (T.2.2.1 k) + 1))) k 4 1099511627776) := ((xf_K.rf k v).uI.uI).fl
          have hC1 : xc_C k T.1 (pg_cw (pg_cw (T.2.2.1 k) 0 0 (pg_sm (T.2.2.1 k) + 1) (T.2.2.1 k).2) 1 0 (pg_sm (T.2.2.1 k) + 1) (T.2.2.1 k).2) (xn_fl (xn_uI (xn_uI v 19 k 0 3 (nI (pg_sm (T.2.2.1 k) + 1))) 19 k 0 4 (nI (pg_sm (T.2.2.1 k) + 1))) k 4 1099511627776) := by
            refine ⟨by simpa [xn_fl, xn_uI] using c1, by simp [xn_fl, xn_uI, pg_cw, pg_sm], by simp [xn_fl, xn_uI, pg_cw, pg_op], by simpa [xn_fl, xn_uI, pg_cw] using c4, fun _ s hs => ?_⟩
            show (if 20 = 20 ∧ k = k ∧ 0 = 0 ∧ s < 4 then (1099511627776 : Int64) else _) = _
            rw [if_pos ⟨rfl, rfl, rfl, hs⟩]
            unfold pg_rp
            rw [xp_find_none]
            intro i _
            show (pg_tk (T.2.2.1 k) i == 1 && (pg_b T.1 i == lN (pg_sm (T.2.2.1 k) + 1) && pg_f T.1 i == s)) = false
            rw [Bool.eq_false_iff]
            intro h
            simp only [Bool.and_eq_true, beq_iff_eq] at h
            obtain ⟨-, -, t, t1, t2⟩ := k3 i h.1
            rw [t2, pk_lEQ (by omega) (by omega)] at h
            omega
          have hT1 := hT.putC hk2 hC1 hfK
          generalize xn_fl (xn_uI (xn_uI v 19 k 0 3 (nI (pg_sm (T.2.2.1 k) + 1))) 19 k 0 4 (nI (pg_sm (T.2.2.1 k) + 1))) k 4 1099511627776 = v1 at hfK hC1 hT1
          refine xj_iadd C a_G_submit_59 ?_
          refine xj_topi (nI_add 4 k) ?_
          refine xj_aload C a_G_submit_60 rfl ?_
          refine xn_g_C_outstanding C a_G_submit_62 fl_G_48 (by first | assumption | omega) ?_
          refine xj_topi (y := nI (pg_sm (T.2.2.1 k) + 1)) hC1.2.2.1 ?_
          refine xj_iload_n C a_G_submit_65 rfl ?_
          refine xj_i2l C a_G_submit_66 ?_
          refine xj_bipush (v := nI 16) C a_G_submit_67 (by decide) ?_
          refine xj_iload_n C a_G_submit_69 rfl ?_
          refine xj_imul C a_G_submit_70 ?_
          refine xj_iload C a_G_submit_71 rfl ?_
          refine xj_iadd C a_G_submit_73 ?_
          refine xn_callV5i C a_G_submit_74 (c_B_post _ _ v1 T.1.1 hT1.1.1 (by omega) _ _ _ _ _) mv_B_post lk_G_58 ⟨rfl, rfl, rfl⟩ xj_ok1 ⟨by decide, by decide⟩ rfl (Nat.le_of_ble_eq_true rfl) ⟨Nat.le_refl _, Nat.le_refl _⟩ ?_
          refine xj_iret C a_G_submit_77 ?_
          have hs := hT1.send hK (fun q hq => ?_) (show T.1.1 < 256 by omega) (k := 0) (p := 4 + k) (x := nI (pg_sm (T.2.2.1 k) + 1)) (y := op.toInt64) (z := nI 16 * key + val) (g := false) (by omega)
          · obtain ⟨s1, ⟨j, s2, s2'⟩, s3, s4, s5, s6⟩ := hs
            refine ⟨rfl, _, rfl, ⟨s1, ⟨j, s2, fun x h1 h2 => ?_⟩, s3, s4, s5, s6⟩, (xf_G.K hfK).post⟩
            show pg_k (pg_send T.1 0 (4 + k) _ _ _ false) x = 0
            rw [pg_send_k]
            by_cases e : x = T.1.1
            · rw [if_pos e]
            · rw [if_neg e]
              exact s2' x h1 (by have : x < T.1.1 + 1 := h2; show x < T.1.1; omega)
          · show ∀ q', pg_tk (va_up T.2.2.1 k _ q) q' = 1 → q' < T.1.1
            by_cases e : q = k
            · subst e
              rw [va_up_self]
              exact fun i hi => (k3 i hi).1
            · rw [va_up_ne _ _ e]
              exact fun i hi => ((hC q hq).2.2.1 i hi).1
        · rw [xp_full hT, xp_b0, decide_eq_false_iff_not, Classical.not_not] at h42
          refine bad 45 ?_ (Or.inr rfl) _
          unfold pg_submit
          rw [hkn, if_neg (by rintro ⟨-, -, h⟩; exact h42 h)]
    · rw [xp_b0, hop2] at h14
      have h14 : ((xp_at 3 op).isSome && ((xp_at 4 key).isSome && (xp_at 16 val).isSome)) = false := by simpa using h14
      refine bad 17 ?_ (Or.inl rfl) _
      unfold pg_submit
      rw [if_neg]
      rintro ⟨⟨-, h, h2, h3⟩, -⟩
      rw [h, h2, h3] at h14
      cases h14
/-- what the calls ask of the group's value -/
def pg_I1 (I : pg_T → Prop) : Prop := ∀ T, I T → pg_g0 T ∧ (T.1.1 < 150 → (∀ r m, r < 4 → m < T.1.1 → ¬ T.2.2.2.2 = r + 1 → pg_g1 T r m) ∧ ∀ m p T', m < T.1.1 → p < 6 → pg_give T m p = some T' → I T') ∧ ∀ p, p < 6 → T.2.2.2.1 p < T.1.1 → I (pg_mk T p)
theorem xc_T.mk {T : pg_T} {v : xn_V} (h : xc_T T v) {p : Nat} : xc_T (pg_mk T p) (xn_uI v 10 0 0 p (nI (T.2.2.2.1 p + 1))) := by
  obtain ⟨t1, ⟨j, t2, t2'⟩, t3, t4, t5, t6⟩ := h
  have o : ∀ k r i x, ¬ k = 10 → (xn_uI v 10 0 0 p (nI (T.2.2.2.1 p + 1))).1 k r i x = v.1 k r i x := by
    intro k r i x hk
    show (if k = 10 ∧ r = 0 ∧ i = 0 ∧ x = p then _ else v.1 k r i x) = _
    rw [if_neg (by omega)]
  refine ⟨?_, ⟨j, t2.ext (pg_ext.rf _) (o _ _ _ _ (by omega)) (fun x => o _ _ _ _ (by omega)), t2'⟩, fun r hr => (t3 r hr).cells (fun k' i x h1 h2 => ⟨o k' r i x (by omega), rfl⟩), fun k hk => ?_, fun q hq => ?_, by rw [o _ _ _ _ (by omega)]; exact t6⟩
  · obtain ⟨h1, h2, h3, h4⟩ := t1
    refine ⟨by rw [o 1 0 0 6 (by omega)]; exact h1, h2, h3, fun m hm => ?_⟩
    rw [o 2 0 0 m (by omega), o 3 0 0 m (by omega), o 4 0 0 m (by omega), o 6 0 0 m (by omega)]
    exact h4 m hm
  · obtain ⟨c1, c2, c3, c4, c5⟩ := t4 k hk
    exact ⟨by rw [o _ _ _ _ (by omega)]; exact c1, by rw [o _ _ _ _ (by omega)]; exact c2, by rw [o _ _ _ _ (by omega)]; exact c3, by rw [o _ _ _ _ (by omega)]; exact c4, c5⟩
  · show (if 10 = 10 ∧ 0 = 0 ∧ 0 = 0 ∧ q = p then nI (T.2.2.2.1 p + 1) else v.1 10 0 0 q) = nI (va_up T.2.2.2.1 p (T.2.2.2.1 p + 1) q)
    by_cases e : q = p
    · subst e
      rw [if_pos ⟨rfl, rfl, rfl, rfl⟩, va_up_self]
    · rw [if_neg (by omega), va_up_ne _ _ e]
      exact t5 q hq
theorem xp_has {T : pg_T} {v : xn_V} (h : xc_T T v) (x : Int32) : decide (¬ x < 0 ∧ ¬ v.1 1 0 0 6 ≤ x) = (xp_at T.1.1 x).isSome := by
  have := h.1.2.1
  rw [h.1.1, xp_at_d T.1.1 (by omega)]
theorem xp_isS {n : Nat} (hn : n < 2 ^ 31) {x : Int32} (h : (xp_at n x).isSome = true) : ∃ j, j < n ∧ x = nI j ∧ xp_un x = j := by
  rcases xp_at_or n hn x with ⟨h1, -⟩ | ⟨j, h1, h2, -⟩
  · rw [h1] at h; cases h
  · exact ⟨j, h1, h2, by rw [h2]; exact xp_un_n (by omega)⟩
theorem c_G_deliver (l : Launch) (G : xj_G) (v : xn_V) (T : pg_T) (hT : xc_T T v) (I : pg_T → Prop) (hI : pg_I1 I) (h0 : I T) (m p : Int32) : xj_Mx l G 7 161 0 0 m_G_deliver [.ref (xj_ad G (0, 0, 0)), .int m, .int p] (xn_W v) (xp_gi v (.int (xp_b (pg_deliver T m p).1)) (pg_deliver T m p).2) := by
  refine xj_Mx_of (by decide) (Nat.le_of_ble_eq_true rfl) (fun E hE C _ => ?_)
  subst hE
  replace C : xj_C E G prog_1_method_3_code "ThreePhaseGroup" 3 7 161 0 0 (some .boolean) := C
  show xn_X E G _ 0 0 0 [some (.ref (xj_ad G (0, 0, 0))), some (.int m), some (.int p)] [] v
  have bad : ¬ ((xp_at T.1.1 m).isSome = true ∧ (xp_at 6 p).isSome = true ∧ T.1.1 < 150) → xn_X E G (xj_R E G (xp_gi v (.int (xp_b (pg_deliver T m p).1)) (pg_deliver T m p).2) 0 0) 0 0 28 [some (.ref (xj_ad G (0, 0, 0))), some (.int m), some (.int p)] [] v := by
    intro h
    have e : pg_deliver T m p = (false, T) := by unfold pg_deliver; rw [if_neg h]
    rw [e]
    refine xj_iconst (v := nI 0) C a_G_deliver_28 (by decide) ?_
    exact xj_zret C a_G_deliver_29 rfl ⟨rfl, v, rfl, hT, xf_G.rf v⟩
  refine xj_aload_n C a_G_deliver_0 rfl ?_
  refine xn_g_G_board C a_G_deliver_1 fl_G_12 ?_
  refine xj_iload_n C a_G_deliver_4 rfl ?_
  refine xn_callV1i C a_G_deliver_5 (c_B_has _ _ v m) mv_B_has lk_G_62 ⟨rfl, rfl, rfl⟩ xj_ok1 ⟨by decide, by decide⟩ rfl (Nat.le_of_ble_eq_true rfl) ⟨Nat.le_refl _, Nat.le_refl _⟩ ?_
  refine xj_if_eq C a_G_deliver_8 rfl (fun h8 => ?_) (fun h8 => ?_)
  · rw [xp_has hT, xp_b0] at h8
    exact bad (by rw [h8]; simp)
  · rw [xp_has hT, xp_b0] at h8
    have h8 : (xp_at T.1.1 m).isSome = true := by rw [← Bool.not_eq_false]; exact h8
    refine xj_iload_n C a_G_deliver_11 rfl ?_
    refine xn_callS1i C a_G_deliver_12 (c_G_isParty _ _ v p) ms_G_isParty lk_G_65 ⟨by decide, by decide⟩ rfl (Nat.le_of_ble_eq_true rfl) ⟨Nat.le_refl _, Nat.le_refl _⟩ ?_
    refine xj_if_eq C a_G_deliver_15 rfl (fun h15 => ?_) (fun h15 => ?_)
    · rw [xp_at_d 6 (by decide), xp_b0] at h15
      exact bad (by rw [h15]; simp)
    · rw [xp_at_d 6 (by decide), xp_b0] at h15
      have h15 : (xp_at 6 p).isSome = true := by rw [← Bool.not_eq_false]; exact h15
      refine xj_aload_n C a_G_deliver_18 rfl ?_
      refine xn_g_G_board C a_G_deliver_19 fl_G_12 ?_
      refine xn_callV0i C a_G_deliver_22 (c_B_isFull _ _ v) mv_B_isFull lk_G_51 ⟨rfl, rfl, rfl⟩ xj_ok1 ⟨by decide, by decide⟩ rfl (Nat.le_of_ble_eq_true rfl) ⟨Nat.le_refl _, Nat.le_refl _⟩ ?_
      refine xj_if_eq C a_G_deliver_25 rfl (fun h25 => ?_) (fun h25 => ?_)
      · rw [xp_full hT, xp_b0, decide_eq_false_iff_not, Classical.not_not] at h25
        have e : pg_deliver T m p = xp_opt T (pg_give T (xp_un m) (xp_un p)) := by unfold pg_deliver; rw [if_pos ⟨h8, h15, h25⟩]
        rw [e]
        have hz := hT.1.2.1
        obtain ⟨i, hi, rfl, hi2⟩ := xp_isS (by omega) h8
        obtain ⟨q, hq, rfl, hq2⟩ := xp_isS (by decide) h15
        rw [hi2, hq2]
        obtain ⟨g0, g1, -⟩ := hI T h0
        refine xj_aload_n C a_G_deliver_30 rfl ?_
        refine xj_iload_n C a_G_deliver_31 rfl ?_
        refine xj_iload_n C a_G_deliver_32 rfl ?_
        refine xj_callV2 C a_G_deliver_33 (c_G_give _ _ v T hT g0 i q hi hq (fun a b => (g1 h25).1 q i a hi b)) mv_G_give lk_G_68 ⟨rfl, rfl, rfl⟩ xj_ok0 ⟨by decide, by decide⟩ rfl (Nat.le_of_ble_eq_true rfl) ⟨Nat.le_refl _, Nat.le_refl _⟩ (fun a' w' h => ?_)
        cases eg : pg_give T i q with
        | none =>
          rw [eg] at h
          obtain ⟨rfl, rfl⟩ := h
          exact xj_zret C a_G_deliver_36 rfl ⟨rfl, v, rfl, hT, xf_G.rf v⟩
        | some T' =>
          rw [eg] at h
          obtain ⟨rfl, v', rfl, h1, h2⟩ := h
          exact xj_zret C a_G_deliver_36 rfl ⟨rfl, v', rfl, h1, h2⟩
      · rw [xp_full hT, xp_b0, decide_eq_false_iff_not, Classical.not_not] at h25
        exact bad (fun h => h25 h.2.2)
theorem c_G_pump (l : Launch) (G : xj_G) (v : xn_V) (T : pg_T) (hT : xc_T T v) (I : pg_T → Prop) (hI : pg_I1 I) (h0 : I T) (p n : Int32) : xj_Mx l G 7 161 0 0 m_G_pump [.ref (xj_ad G (0, 0, 0)), .int p, .int n] (xn_W v) (xp_gi v (.int (pg_pump T p n).1) (pg_pump T p n).2) := by
  refine xj_Mx_of (by decide) (Nat.le_of_ble_eq_true rfl) (fun E hE C _ => ?_)
  subst hE
  replace C : xj_C E G prog_1_method_4_code "ThreePhaseGroup" 5 7 161 0 0 (some .int) := C
  show xn_X E G _ 0 0 0 [some (.ref (xj_ad G (0, 0, 0))), some (.int p), some (.int n), none, none] [] v
  have bad : ¬ ((xp_at 6 p).isSome = true ∧ 1 ≤ n ∧ n ≤ 8) → xn_X E G (xj_R E G (xp_gi v (.int (pg_pump T p n).1) (pg_pump T p n).2) 0 0) 0 0 18 [some (.ref (xj_ad G (0, 0, 0))), some (.int p), some (.int n), none, none] [] v := by
    intro h
    have e : pg_pump T p n = (-1, T) := by unfold pg_pump; rw [if_neg h]
    rw [e]
    refine xj_iconst (v := -1) C a_G_pump_18 (by decide) ?_
    refine xj_iret C a_G_pump_19 ?_
    exact ⟨rfl, v, rfl, hT, xf_G.rf v⟩
  refine xj_iload_n C a_G_pump_0 rfl ?_
  refine xn_callS1i C a_G_pump_1 (c_G_isParty _ _ v p) ms_G_isParty lk_G_65 ⟨by decide, by decide⟩ rfl (Nat.le_of_ble_eq_true rfl) ⟨Nat.le_refl _, Nat.le_refl _⟩ ?_
  refine xj_if_eq C a_G_pump_4 rfl (fun h4 => ?_) (fun h4 => ?_)
  · rw [xp_at_d 6 (by decide), xp_b0] at h4
    exact bad (by rw [h4]; simp)
  · rw [xp_at_d 6 (by decide), xp_b0] at h4
    have h4 : (xp_at 6 p).isSome = true := by rw [← Bool.not_eq_false]; exact h4
    refine xj_iload_n C a_G_pump_7 rfl ?_
    refine xj_iconst (v := nI 1) C a_G_pump_8 (by decide) ?_
    refine xj_icmp_lt C a_G_pump_9 rfl (fun h9 => ?_) (fun h9 => ?_)
    · exact bad (fun h => Int32.not_lt.mpr h.2.1 h9)
    · refine xj_iload_n C a_G_pump_12 rfl ?_
      refine xj_bipush (v := nI 8) C a_G_pump_13 (by decide) ?_
      refine xj_icmp_le C a_G_pump_15 rfl (fun h15 => ?_) (fun h15 => ?_)
      · have e : pg_pump T p n = (nI (pg_pmp (xp_un p) (xp_un n) T 0).1, (pg_pmp (xp_un p) (xp_un n) T 0).2) := by unfold pg_pump; rw [if_pos ⟨h4, Int32.not_lt.mp h9, h15⟩]
        rw [e]
        obtain ⟨q, hq, rfl, hq2⟩ := xp_isS (by decide) h4
        have hn1 : 1 ≤ n.toInt := by
          have := Int32.le_iff_toInt_le.mp (Int32.not_lt.mp h9)
          have h1 : (nI 1).toInt = 1 := by decide
          omega
        have hn8 : n.toInt ≤ 8 := by
          have := Int32.le_iff_toInt_le.mp h15
          have h1 : (nI 8).toInt = 8 := by decide
          omega
        obtain ⟨N, hN⟩ : ∃ N, N = xp_un n := ⟨_, rfl⟩
        have hN8 : N ≤ 8 := by rw [hN]; unfold xp_un; omega
        have hnN : n = nI N := by
          apply Int32.toInt_inj.mp
          rw [nI_toInt (by omega), hN]
          unfold xp_un
          omega
        rw [hq2, ← hN, hnN]
        refine xj_iconst (v := nI 0) C a_G_pump_20 (by decide) ?_
        refine xj_istore3 C a_G_pump_21 rfl ?_
        refine xj_iconst (v := nI 0) C a_G_pump_22 (by decide) ?_
        refine xj_istore4 C a_G_pump_23 rfl ?_
        have loop : ∀ (j i : Nat) (T1 : pg_T) (v1 : xn_V) (g : Nat), i + j = N → g ≤ i → I T1 → xc_T T1 v1 → xf_G v v1 → (pg_pmp q j T1 g) = pg_pmp q N T 0 → xn_X E G (xj_R E G (xp_gi v (.int (nI (pg_pmp q N T 0).1)) (pg_pmp q N T 0).2) 0 0) 0 0 25 [some (.ref (xj_ad G (0, 0, 0))), some (.int (nI q)), some (.int (nI N)), some (.int (nI g)), some (.int (nI i))] [] v1 := by
          intro j
          induction j with
          | zero =>
            intro i T1 v1 g hij hg hI1 hT1 hf1 he
            refine xj_iload C a_G_pump_25 rfl ?_
            refine xj_iload_n C a_G_pump_27 rfl ?_
            refine xj_icmp_ge C a_G_pump_28 rfl (fun _ => ?_) (fun h28 => absurd ((nI_leI (by omega) (by omega)).mpr (by omega)) h28)
            refine xj_iload_n C a_G_pump_90 rfl ?_
            refine xj_iret C a_G_pump_91 ?_
            rw [← he]
            exact ⟨rfl, v1, rfl, hT1, hf1⟩
          | succ j ih =>
            intro i T1 v1 g hij hg hI1 hT1 hf1 he
            have hz1 := hT1.1.2.1
            obtain ⟨g0, g1, g2⟩ := hI T1 hI1
            have hmk := g0.2.2.2 q hq
            have stop : ¬ (T1.2.2.2.1 q < T1.1.1 ∧ T1.1.1 < 150) → xn_X E G (xj_R E G (xp_gi v (.int (nI (pg_pmp q N T 0).1)) (pg_pmp q N T 0).2) 0 0) 0 0 90 [some (.ref (xj_ad G (0, 0, 0))), some (.int (nI q)), some (.int (nI N)), some (.int (nI g)), some (.int (nI i))] [] v1 := by
              intro h
              have e2 : pg_pmp q (j + 1) T1 g = (g, T1) := by
                show (if T1.2.2.2.1 q < T1.1.1 ∧ T1.1.1 < 150 then _ else _) = _
                rw [if_neg h]
              rw [← he, e2]
              refine xj_iload_n C a_G_pump_90 rfl ?_
              refine xj_iret C a_G_pump_91 ?_
              exact ⟨rfl, v1, rfl, hT1, hf1⟩
            refine xj_iload C a_G_pump_25 rfl ?_
            refine xj_iload_n C a_G_pump_27 rfl ?_
            refine xj_icmp_ge C a_G_pump_28 rfl (fun h28 => absurd ((nI_leI (by omega) (by omega)).mp h28) (by omega)) (fun h28 => ?_)
            refine xj_aload_n C a_G_pump_31 rfl ?_
            refine xn_g_G_board C a_G_pump_32 fl_G_12 ?_
            refine xj_aload_n C a_G_pump_35 rfl ?_
            refine xn_g_G_marks C a_G_pump_36 fl_G_28 ?_
            refine xj_iload_n C a_G_pump_39 rfl ?_
            refine xn_ld_10 C a_G_pump_40 (by first | assumption | omega) ?_
            refine xj_topi (hT1.2.2.2.2.1 q hq) ?_
            refine xn_callV1i C a_G_pump_41 (c_B_has _ _ v1 (nI (T1.2.2.2.1 q))) mv_B_has lk_G_62 ⟨rfl, rfl, rfl⟩ xj_ok1 ⟨by decide, by decide⟩ rfl (Nat.le_of_ble_eq_true rfl) ⟨Nat.le_refl _, Nat.le_refl _⟩ ?_
            refine xj_if_eq C a_G_pump_44 rfl (fun h44 => ?_) (fun h44 => ?_)
            · rw [xp_has hT1, xp_b0] at h44
              refine stop (fun h => ?_)
              rw [xp_at_some (by omega) h.1] at h44
              cases h44
            · rw [xp_has hT1, xp_b0] at h44
              have h44 : T1.2.2.2.1 q < T1.1.1 := by
                obtain ⟨i', hi', e', -⟩ := xp_isS (n := T1.1.1) (by omega) (by rw [← Bool.not_eq_false]; exact h44)
                rw [nI_eq (by omega) (by omega)] at e'
                omega
              refine xj_aload_n C a_G_pump_47 rfl ?_
              refine xn_g_G_board C a_G_pump_48 fl_G_12 ?_
              refine xn_callV0i C a_G_pump_51 (c_B_isFull _ _ v1) mv_B_isFull lk_G_51 ⟨rfl, rfl, rfl⟩ xj_ok1 ⟨by decide, by decide⟩ rfl (Nat.le_of_ble_eq_true rfl) ⟨Nat.le_refl _, Nat.le_refl _⟩ ?_
              refine xj_if_ne C a_G_pump_54 rfl (fun h54 => ?_) (fun h54 => ?_)
              · rw [xp_full hT1, xp_b0, decide_eq_false_iff_not, Classical.not_not] at h54
                exact stop (fun h => h54 h.2)
              · rw [xp_full hT1, xp_b0, decide_eq_false_iff_not, Classical.not_not] at h54
                have h54 : T1.1.1 < 150 := by simpa using h54
                have e2 : pg_pmp q (j + 1) T1 g = match pg_give T1 (T1.2.2.2.1 q) q with
                    | some T' => pg_pmp q j (pg_mk T' q) (g + 1)
                    | none => pg_pmp q j (pg_mk T1 q) g := by
                  show (if T1.2.2.2.1 q < T1.1.1 ∧ T1.1.1 < 150 then _ else _) = _
                  rw [if_pos ⟨h44, h54⟩]
                rw [e2] at he
                have bump : ∀ (T2 : pg_T) (v2 : xn_V) (g' : Nat), I (pg_mk T2 q) → xc_T T2 v2 → xf_G v v2 → g' ≤ i + 1 → pg_pmp q j (pg_mk T2 q) g' = pg_pmp q N T 0 → xn_X E G (xj_R E G (xp_gi v (.int (nI (pg_pmp q N T 0).1)) (pg_pmp q N T 0).2) 0 0) 0 0 74 [some (.ref (xj_ad G (0, 0, 0))), some (.int (nI q)), some (.int (nI N)), some (.int (nI g')), some (.int (nI i))] [] v2 := by
                  intro T2 v2 g' hI2 hT2 hf2 hg2 he2
                  refine xj_aload_n C a_G_pump_74 rfl ?_
                  refine xn_g_G_marks C a_G_pump_75 fl_G_28 ?_
                  refine xj_iload_n C a_G_pump_78 rfl ?_
                  refine xj_dup2 C a_G_pump_79 rfl rfl ?_
                  refine xn_ld_10 C a_G_pump_80 (by first | assumption | omega) ?_
                  refine xj_topi (hT2.2.2.2.2.1 q hq) ?_
                  refine xj_iconst (v := nI 1) C a_G_pump_81 (by decide) ?_
                  refine xj_iadd C a_G_pump_82 ?_
                  refine xj_topi (nI_add _ 1) ?_
                  refine xn_st_10 C a_G_pump_83 (by first | assumption | omega) ?_
                  refine xj_iincN4 C a_G_pump_84 rfl ?_
                  refine xj_goto C a_G_pump_87 rfl ?_
                  refine ih (i + 1) (pg_mk T2 q) _ g' (by omega) hg2 hI2 hT2.mk (hf2.tr (fun k r i x hk => ⟨?_, rfl⟩)) he2
                  show (if k = 10 ∧ r = 0 ∧ i = 0 ∧ x = q then _ else v2.1 k r i x) = _
                  rw [if_neg (by omega)]
                refine xj_aload_n C a_G_pump_57 rfl ?_
                refine xj_aload_n C a_G_pump_58 rfl ?_
                refine xn_g_G_marks C a_G_pump_59 fl_G_28 ?_
                refine xj_iload_n C a_G_pump_62 rfl ?_
                refine xn_ld_10 C a_G_pump_63 (by first | assumption | omega) ?_
                refine xj_topi (hT1.2.2.2.2.1 q hq) ?_
                refine xj_iload_n C a_G_pump_64 rfl ?_
                refine xj_callV2 C a_G_pump_65 (c_G_give _ _ v1 T1 hT1 g0 (T1.2.2.2.1 q) q h44 hq (fun a b => (g1 h54).1 q _ a h44 b)) mv_G_give lk_G_68 ⟨rfl, rfl, rfl⟩ xj_ok0 ⟨by decide, by decide⟩ rfl (Nat.le_of_ble_eq_true rfl) ⟨Nat.le_refl _, Nat.le_refl _⟩ (fun a' w' h => ?_)
                cases eg : pg_give T1 (T1.2.2.2.1 q) q with
                | none =>
                  rw [eg] at h he
                  obtain ⟨rfl, rfl⟩ := h
                  refine xj_if_eq C a_G_pump_68 rfl (fun _ => ?_) (fun h68 => absurd rfl h68)
                  exact bump T1 v1 g (g2 q hq h44) hT1 hf1 (by omega) he
                | some T' =>
                  rw [eg] at h he
                  obtain ⟨rfl, v', rfl, h1, h2⟩ := h
                  refine xj_if_eq C a_G_pump_68 rfl (fun h68 => absurd h68 (by decide)) (fun _ => ?_)
                  refine xj_iincN3 C a_G_pump_71 rfl ?_
                  have hI' : I T' := (g1 h54).2 _ q T' h44 hq eg
                  have hgz : T'.2.2.2.1 q = T1.2.2.2.1 q ∧ T1.1.1 ≤ T'.1.1 := by
                    unfold pg_give at eg
                    split at eg
                    · rw [Option.map_eq_some_iff] at eg
                      obtain ⟨C1, -, rfl⟩ := eg
                      exact ⟨rfl, Nat.le_refl _⟩
                    · split at eg
                      · cases eg
                      · rw [Option.map_eq_some_iff] at eg
                        obtain ⟨S, hS, rfl⟩ := eg
                        refine ⟨rfl, ?_⟩
                        have := (pg_run_ext q S).1
                        rw [pg_takes_B hS] at this
                        exact this
                  exact bump T' v' (g + 1) ((hI T' hI').2.2 q hq (by omega)) h1 (hf1.tr h2) (by omega) he
        exact loop N 0 T v 0 (by omega) (by omega) h0 hT (xf_G.rf v) rfl
      · exact bad (fun h => h15 h.2.2)
theorem c_G_tick (l : Launch) (G : xj_G) (v : xn_V) (T : pg_T) (hT : xc_T T v) (h0 : pg_g0 T) (h1 : ∀ r, r < 4 → ¬ T.2.2.2.2 = r + 1 → ¬ pg_tm (T.2.1 r) = 0 → T.1.1 < 150 → pg_fre (pg_sR T r) (pg_vw (T.2.1 r) + 1) ∧ pg_rok r (pg_clk r (pg_sR T r))) (r : Int32) : xj_Mx l G 6 139 0 0 m_G_tick [.ref (xj_ad G (0, 0, 0)), .int r] (xn_W v) (xp_gi v (.int (xp_b (pg_tick T r).1)) (pg_tick T r).2) := by
  obtain ⟨hKN, hC, hfy, hmk⟩ := h0
  have hK : ∀ r, r < 4 → pg_kno (pg_sR T r) := fun r hr => (hKN r hr).1
  refine xj_Mx_of (by decide) (Nat.le_of_ble_eq_true rfl) (fun E hE C _ => ?_)
  subst hE
  replace C : xj_C E G prog_1_method_5_code "ThreePhaseGroup" 2 6 139 0 0 (some .boolean) := C
  show xn_X E G _ 0 0 0 [some (.ref (xj_ad G (0, 0, 0))), some (.int r)] [] v
  have bad : ¬ ((xp_at 4 r).isSome = true ∧ ¬ T.2.2.2.2 = xp_un r + 1 ∧ ¬ pg_tm (T.2.1 (xp_un r)) = 0 ∧ T.1.1 < 150) → xn_X E G (xj_R E G (xp_gi v (.int (xp_b (pg_tick T r).1)) (pg_tick T r).2) 0 0) 0 0 37 [some (.ref (xj_ad G (0, 0, 0))), some (.int r)] [] v := by
    intro h
    have e : pg_tick T r = (false, T) := by unfold pg_tick; rw [if_neg h]
    rw [e]
    refine xj_iconst (v := nI 0) C a_G_tick_37 (by decide) ?_
    exact xj_zret C a_G_tick_38 rfl ⟨rfl, v, rfl, hT, xf_G.rf v⟩
  refine xj_iload_n C a_G_tick_0 rfl ?_
  refine xn_callS1i C a_G_tick_1 (c_G_isReplica _ _ v r) ms_G_isReplica lk_G_72 ⟨by decide, by decide⟩ rfl (Nat.le_of_ble_eq_true rfl) ⟨Nat.le_refl _, Nat.le_refl _⟩ ?_
  refine xj_if_eq C a_G_tick_4 rfl (fun h4 => ?_) (fun h4 => ?_)
  · rw [xp_at_d 4 (by decide), xp_b0] at h4
    exact bad (by rw [h4]; simp)
  · rw [xp_at_d 4 (by decide), xp_b0] at h4
    have h4 : (xp_at 4 r).isSome = true := by rw [← Bool.not_eq_false]; exact h4
    obtain ⟨q, hq, rfl, hq2⟩ := xp_isS (by decide) h4
    have hR := hT.2.2.1 q hq
    have hN : pg_num (T.2.1 q) := (hKN q hq).2
    have htm : pg_tm (T.2.1 q) < 64 := hN.2.2.2.2.1
    refine xj_iload_n C a_G_tick_7 rfl ?_
    refine xj_aload_n C a_G_tick_8 rfl ?_
    refine xn_g_G_faulty C a_G_tick_9 fl_G_32 ?_
    refine xj_topi hT.2.2.2.2.2 ?_
    refine xj_icmp_eq C a_G_tick_12 rfl (fun h12 => ?_) (fun h12 => ?_)
    · rw [xp_fy_eq hfy hq] at h12
      exact bad (by rw [hq2]; exact fun h => h.2.1 h12)
    · rw [xp_fy_eq hfy hq] at h12
      refine xj_aload_n C a_G_tick_15 rfl ?_
      refine xn_g_G_replicas C a_G_tick_16 fl_G_18 ?_
      refine xj_iload_n C a_G_tick_19 rfl ?_
      refine xn_ld_8 C a_G_tick_20 (by first | assumption | omega) ?_
      refine xn_g_R_timer C a_G_tick_21 fl_G_75 (by first | assumption | omega) ?_
      refine xj_topi hR.1.tm ?_
      refine xj_if_eq C a_G_tick_24 rfl (fun h24 => ?_) (fun h24 => ?_)
      · have h24 : pg_tm (T.2.1 q) = 0 := by
          have h24 : nI (pg_tm (T.2.1 q)) = nI 0 := h24
          rwa [nI_eq (by omega) (by omega)] at h24
        exact bad (by rw [hq2]; exact fun h => h.2.2.1 h24)
      · have h24 : ¬ pg_tm (T.2.1 q) = 0 := fun e => h24 (by show nI (pg_tm (T.2.1 q)) = 0; rw [e]; rfl)
        refine xj_aload_n C a_G_tick_27 rfl ?_
        refine xn_g_G_board C a_G_tick_28 fl_G_12 ?_
        refine xn_callV0i C a_G_tick_31 (c_B_isFull _ _ v) mv_B_isFull lk_G_51 ⟨rfl, rfl, rfl⟩ xj_ok1 ⟨by decide, by decide⟩ rfl (Nat.le_of_ble_eq_true rfl) ⟨Nat.le_refl _, Nat.le_refl _⟩ ?_
        refine xj_if_eq C a_G_tick_34 rfl (fun h34 => ?_) (fun h34 => ?_)
        · rw [xp_full hT, xp_b0, decide_eq_false_iff_not, Classical.not_not] at h34
          have e : pg_tick T (nI q) = (true, pg_putR T q (pg_run q (pg_clk q (pg_sR T q)))) := by
            unfold pg_tick
            rw [hq2, if_pos ⟨h4, h12, h24, h34⟩]
          rw [e]
          obtain ⟨hfre, k1, k2, k3⟩ := h1 q hq h12 h24 h34
          refine xj_aload_n C a_G_tick_39 rfl ?_
          refine xn_g_G_replicas C a_G_tick_40 fl_G_18 ?_
          refine xj_iload_n C a_G_tick_43 rfl ?_
          refine xn_ld_8 C a_G_tick_44 (by first | assumption | omega) ?_
          refine xj_callV0 C a_G_tick_45 (c_R_stepClock _ _ v q hq (pg_sR T q) hR hN hT.1 (show T.1.1 < 256 by omega) (Nat.pos_of_ne_zero h24) hfre) mv_R_stepClock lk_G_78 ⟨rfl, rfl, rfl⟩ (xj_ok11 (by first | assumption | omega)) ⟨by decide, by decide⟩ rfl (Nat.le_of_ble_eq_true rfl) ⟨Nat.le_refl _, Nat.le_refl _⟩ (fun a' w' h => ?_)
          obtain ⟨rfl, v1, rfl, hR1, hB1, hO1⟩ := h
          refine xj_aload_n C a_G_tick_48 rfl ?_
          refine xn_g_G_replicas C a_G_tick_49 fl_G_18 ?_
          refine xj_iload_n C a_G_tick_52 rfl ?_
          refine xn_ld_8 C a_G_tick_53 (by first | assumption | omega) ?_
          refine xj_callV0 C a_G_tick_54 (c_R_followRules _ _ v1 q hq (pg_clk q (pg_sR T q)) hR1 hB1 k1 k2) mv_R_followRules lk_G_81 ⟨rfl, rfl, rfl⟩ (xj_ok11 (by first | assumption | omega)) ⟨by decide, by decide⟩ rfl (Nat.le_of_ble_eq_true rfl) ⟨Nat.le_refl _, Nat.le_refl _⟩ (fun a' w' h => ?_)
          obtain ⟨rfl, v2, rfl, hR2, hB2, hO2⟩ := h
          have hO : xf_O q v v2 := hO1.tr hO2
          have he : pg_ext T.1 (pg_run q (pg_clk q (pg_sR T q))).1 := by
            refine pg_ext.tr ?_ (pg_run_ext q _)
            unfold pg_clk
            split
            · exact pg_beg_ext q (T.1, _) _
            · exact pg_ext.rf _
          obtain ⟨j, hj, -⟩ := hT.2.1
          have hV2 : xc_V (pg_run q (pg_clk q (pg_sR T q))).1 j v2 := hj.ext he (hO 1 0 0 7 (by omega) (by omega) (by omega)).1 (fun x => (hO 7 0 0 x (by omega) (by omega) (by omega)).1)
          refine xj_aload_n C a_G_tick_57 rfl ?_
          refine xn_g_G_board C a_G_tick_58 fl_G_12 ?_
          refine xj_callV0 C a_G_tick_61 (c_B_judgeNew _ _ v2 _ hB2 k3.1 k3.2.1 k3.2.2 j hV2) mv_B_judgeNew lk_G_84 ⟨rfl, rfl, rfl⟩ xj_ok1 ⟨by decide, by decide⟩ rfl (Nat.le_of_ble_eq_true rfl) ⟨Nat.le_refl _, Nat.le_refl _⟩ (fun a' w' h => ?_)
          obtain ⟨rfl, v3, rfl, hV3, hJ3⟩ := h
          refine xj_iconst (v := nI 1) C a_G_tick_64 (by decide) ?_
          exact xj_zret C a_G_tick_65 rfl ⟨rfl, v3, rfl, hT.putR hK hC he hR2 hB2 hO hJ3 hV3, (xf_G.O hO).tr (xf_G.J hJ3)⟩
        · rw [xp_full hT, xp_b0, decide_eq_false_iff_not, Classical.not_not] at h34
          exact bad (fun h => h34 h.2.2.2)
theorem c_G_corrupt (l : Launch) (G : xj_G) (v : xn_V) (T : pg_T) (hT : xc_T T v) (h0 : pg_g0 T) (r : Int32) : xj_Mx l G 1 20 0 0 m_G_corrupt [.ref (xj_ad G (0, 0, 0)), .int r] (xn_W v) (xp_gi v (.int (xp_b (pg_corrupt T r).1)) (pg_corrupt T r).2) := by
  have hfy := h0.2.2.1
  refine xj_Mx_of (by decide) (Nat.le_of_ble_eq_true rfl) (fun E hE C _ => ?_)
  subst hE
  replace C : xj_C E G prog_1_method_6_code "ThreePhaseGroup" 2 1 20 0 0 (some .boolean) := C
  show xn_X E G _ 0 0 0 [some (.ref (xj_ad G (0, 0, 0))), some (.int r)] [] v
  have bad : ¬ ((xp_at 4 r).isSome = true ∧ T.2.2.2.2 = 0) → xn_X E G (xj_R E G (xp_gi v (.int (xp_b (pg_corrupt T r).1)) (pg_corrupt T r).2) 0 0) 0 0 16 [some (.ref (xj_ad G (0, 0, 0))), some (.int r)] [] v := by
    intro h
    have e : pg_corrupt T r = (false, T) := by unfold pg_corrupt; rw [if_neg h]
    rw [e]
    refine xj_iconst (v := nI 0) C a_G_corrupt_16 (by decide) ?_
    exact xj_zret C a_G_corrupt_17 rfl ⟨rfl, v, rfl, hT, xf_G.rf v⟩
  have hf2 : xp_fy T.2.2.2.2 = -2 ↔ T.2.2.2.2 = 0 := by
    unfold xp_fy
    by_cases e : T.2.2.2.2 = 0
    · rw [if_pos e]; simp [e]
    · rw [if_neg e]
      exact ⟨fun h => absurd h (xp_one (by omega)), fun h => absurd h e⟩
  refine xj_iload_n C a_G_corrupt_0 rfl ?_
  refine xn_callS1i C a_G_corrupt_1 (c_G_isReplica _ _ v r) ms_G_isReplica lk_G_72 ⟨by decide, by decide⟩ rfl (Nat.le_of_ble_eq_true rfl) ⟨Nat.le_refl _, Nat.le_refl _⟩ ?_
  refine xj_if_eq C a_G_corrupt_4 rfl (fun h4 => ?_) (fun h4 => ?_)
  · rw [xp_at_d 4 (by decide), xp_b0] at h4
    exact bad (by rw [h4]; simp)
  · rw [xp_at_d 4 (by decide), xp_b0] at h4
    have h4 : (xp_at 4 r).isSome = true := by rw [← Bool.not_eq_false]; exact h4
    obtain ⟨q, hq, rfl, hq2⟩ := xp_isS (by decide) h4
    refine xj_aload_n C a_G_corrupt_7 rfl ?_
    refine xn_g_G_faulty C a_G_corrupt_8 fl_G_32 ?_
    refine xj_topi hT.2.2.2.2.2 ?_
    refine xj_bipush (v := -2) C a_G_corrupt_11 (by decide) ?_
    refine xj_icmp_eq C a_G_corrupt_13 rfl (fun h13 => ?_) (fun h13 => ?_)
    · have h13 : xp_fy T.2.2.2.2 = -2 := h13
      rw [hf2] at h13
      have e : pg_corrupt T (nI q) = (true, (T.1, T.2.1, T.2.2.1, T.2.2.2.1, q + 1)) := by
        unfold pg_corrupt
        rw [if_pos ⟨h4, h13⟩, hq2]
      rw [e]
      refine xj_aload_n C a_G_corrupt_18 rfl ?_
      refine xj_iload_n C a_G_corrupt_19 rfl ?_
      refine xn_p_G_faulty C a_G_corrupt_20 fl_G_32 ?_
      refine xj_iconst (v := nI 1) C a_G_corrupt_23 (by decide) ?_
      obtain ⟨t1, ⟨j, t2, t2'⟩, t3, t4, t5, t6⟩ := hT
      have o : ∀ k r i x, ¬ k = 0 → (xn_uI v 0 0 0 4 (nI q)).1 k r i x = v.1 k r i x := by
        intro k r i x hk
        show (if k = 0 ∧ r = 0 ∧ i = 0 ∧ x = 4 then _ else v.1 k r i x) = _
        rw [if_neg (by omega)]
      refine xj_zret C a_G_corrupt_24 rfl ⟨rfl, _, rfl, ⟨?_, ⟨j, t2.ext (pg_ext.rf _) (o _ _ _ _ (by omega)) (fun x => o _ _ _ _ (by omega)), t2'⟩, fun r hr => (t3 r hr).cells (fun k' i x h1 h2 => ⟨o k' r i x (by omega), rfl⟩), fun k hk => ?_, fun p hp => by rw [o _ _ _ _ (by omega)]; exact t5 p hp, ?_⟩, fun k r i x hk => ⟨o k r i x (by omega), rfl⟩⟩
      · obtain ⟨h1, h2, h3, h4⟩ := t1
        refine ⟨by rw [o 1 0 0 6 (by omega)]; exact h1, h2, h3, fun m hm => ?_⟩
        rw [o 2 0 0 m (by omega), o 3 0 0 m (by omega), o 4 0 0 m (by omega), o 6 0 0 m (by omega)]
        exact h4 m hm
      · obtain ⟨c1, c2, c3, c4, c5⟩ := t4 k hk
        exact ⟨by rw [o _ _ _ _ (by omega)]; exact c1, by rw [o _ _ _ _ (by omega)]; exact c2, by rw [o _ _ _ _ (by omega)]; exact c3, by rw [o _ _ _ _ (by omega)]; exact c4, c5⟩
      · show (if 0 = 0 ∧ 0 = 0 ∧ 0 = 0 ∧ 4 = 4 then nI q else v.1 0 0 0 4) = xp_fy (q + 1)
        rw [if_pos ⟨rfl, rfl, rfl, rfl⟩]
        rfl
    · have h13 : ¬ xp_fy T.2.2.2.2 = -2 := h13
      rw [hf2] at h13
      exact bad (fun h => h13 h.2)
theorem c_G_postForged (l : Launch) (G : xj_G) (v : xn_V) (T : pg_T) (hT : xc_T T v) (h0 : pg_g0 T) (k : Nat) (hk : 1 ≤ k ∧ k < 8) (x : Int32) (y : Int64) (z : Int32) (hb : ¬ T.2.2.2.2 = 0 → T.1.1 < 150 → pg_bok (pg_send T.1 k (T.2.2.2.2 - 1) x y z true)) : xj_Mx l G 5 122 0 0 m_G_postForged [.ref (xj_ad G (0, 0, 0)), .int (nI k), .int x, .long y, .int z] (xn_W v) (xp_gi v (.int (pg_post T k x y z).1) (pg_post T k x y z).2) := by
  obtain ⟨hKN, hC, hfy, hmk⟩ := h0
  have hK : ∀ r, r < 4 → pg_kno (pg_sR T r) := fun r hr => (hKN r hr).1
  refine xj_Mx_of (by decide) (Nat.le_of_ble_eq_true rfl) (fun E hE C _ => ?_)
  subst hE
  replace C : xj_C E G prog_1_method_27_code "ThreePhaseGroup" 7 5 122 0 0 (some .int) := C
  show xn_X E G _ 0 0 0 [some (.ref (xj_ad G (0, 0, 0))), some (.int (nI k)), some (.int x), some (.long y), none, some (.int z), none] [] v
  have bad : ¬ (¬ T.2.2.2.2 = 0 ∧ T.1.1 < 150) → xn_X E G (xj_R E G (xp_gi v (.int (pg_post T k x y z).1) (pg_post T k x y z).2) 0 0) 0 0 19 [some (.ref (xj_ad G (0, 0, 0))), some (.int (nI k)), some (.int x), some (.long y), none, some (.int z), none] [] v := by
    intro h
    have e : pg_post T k x y z = (-1, T) := by unfold pg_post; rw [if_neg h]
    rw [e]
    refine xj_iconst (v := -1) C a_G_postForged_19 (by decide) ?_
    refine xj_iret C a_G_postForged_20 ?_
    exact ⟨rfl, v, rfl, hT, xf_G.rf v⟩
  refine xj_aload_n C a_G_postForged_0 rfl ?_
  refine xn_g_G_faulty C a_G_postForged_1 fl_G_32 ?_
  refine xj_topi hT.2.2.2.2.2 ?_
  refine xj_bipush (v := -2) C a_G_postForged_4 (by decide) ?_
  refine xj_icmp_eq C a_G_postForged_6 rfl (fun h6 => ?_) (fun h6 => ?_)
  · have h6 : xp_fy T.2.2.2.2 = -2 := h6
    refine bad (fun h => ?_)
    unfold xp_fy at h6
    rw [if_neg h.1] at h6
    exact absurd h6 (xp_one (by omega))
  · have h6 : ¬ T.2.2.2.2 = 0 := by
      intro e
      apply h6
      unfold xp_fy
      rw [if_pos e]
    refine xj_aload_n C a_G_postForged_9 rfl ?_
    refine xn_g_G_board C a_G_postForged_10 fl_G_12 ?_
    refine xn_callV0i C a_G_postForged_13 (c_B_isFull _ _ v) mv_B_isFull lk_G_51 ⟨rfl, rfl, rfl⟩ xj_ok1 ⟨by decide, by decide⟩ rfl (Nat.le_of_ble_eq_true rfl) ⟨Nat.le_refl _, Nat.le_refl _⟩ ?_
    refine xj_if_eq C a_G_postForged_16 rfl (fun h16 => ?_) (fun h16 => ?_)
    · rw [xp_full hT, xp_b0, decide_eq_false_iff_not, Classical.not_not] at h16
      have e : pg_post T k x y z = (nI T.1.1, (pg_send T.1 k (T.2.2.2.2 - 1) x y z true, T.2)) := by
        unfold pg_post
        rw [if_pos ⟨h6, h16⟩]
      rw [e]
      obtain ⟨b1, b2, b3⟩ := hb h6 h16
      refine xj_aload_n C a_G_postForged_21 rfl ?_
      refine xn_g_G_board C a_G_postForged_22 fl_G_12 ?_
      refine xj_iload_n C a_G_postForged_25 rfl ?_
      refine xj_aload_n C a_G_postForged_26 rfl ?_
      refine xn_g_G_faulty C a_G_postForged_27 fl_G_32 ?_
      refine xj_topi (y := nI (T.2.2.2.2 - 1)) (hT.2.2.2.2.2.trans (by unfold xp_fy; rw [if_neg h6])) ?_
      have hs := hT.send hK (fun q hq i hi => ((hC q hq).2.2.1 i hi).1) (show T.1.1 < 256 by omega) (k := k) (p := T.2.2.2.2 - 1) (x := x) (y := y) (z := z) (g := true) (by omega)
      obtain ⟨s1, ⟨j, s2, s2'⟩, s3, s4, s5, s6⟩ := hs
      refine xj_iload_n C a_G_postForged_30 rfl ?_
      refine xj_lload_n C a_G_postForged_31 rfl ?_
      refine xj_iload C a_G_postForged_32 rfl ?_
      refine xn_callV5i C a_G_postForged_34 (c_B_post _ _ v T.1.1 hT.1.1 (by omega) _ _ _ _ _) mv_B_post lk_G_58 ⟨rfl, rfl, rfl⟩ xj_ok1 ⟨by decide, by decide⟩ rfl (Nat.le_of_ble_eq_true rfl) ⟨Nat.le_refl _, Nat.le_refl _⟩ ?_
      refine xj_istore6 C a_G_postForged_37 rfl ?_
      refine xj_aload_n C a_G_postForged_39 rfl ?_
      refine xn_g_G_board C a_G_postForged_40 fl_G_12 ?_
      refine xj_callV0 C a_G_postForged_43 (c_B_judgeNew _ _ _ _ s1 b1 b2 b3 j s2) mv_B_judgeNew lk_G_84 ⟨rfl, rfl, rfl⟩ xj_ok1 ⟨by decide, by decide⟩ rfl (Nat.le_of_ble_eq_true rfl) ⟨Nat.le_refl _, Nat.le_refl _⟩ (fun a' w' h => ?_)
      obtain ⟨rfl, v3, rfl, hV3, hJ⟩ := h
      refine xj_iload C a_G_postForged_46 rfl ?_
      refine xj_iret C a_G_postForged_48 ?_
      refine ⟨rfl, v3, rfl, ⟨s1.J hJ, ⟨_, hV3, fun q h1 h2 => absurd h2 (Nat.not_lt.mpr h1)⟩, fun r hr => (s3 r hr).cells (fun k i x h1 h2 => ⟨hJ.2 k r i x (by omega) (by omega), by rw [hJ.1]⟩), fun q hq => ?_, fun q hq => ?_, ?_⟩, ((xf_G.rf v).post).tr (xf_G.J hJ)⟩
      · exact (s4 q hq).grow (pg_ext.rf _) (fun i hi => by have := ((hC q hq).2.2.1 i hi).1; show i < T.1.1 + 1; omega) (fun x' => ⟨hJ.2 19 q 0 x' (by omega) (by omega), by rw [hJ.1]⟩)
      · rw [hJ.2 10 0 0 q (by omega) (by omega)]; exact s5 q hq
      · rw [hJ.2 0 0 0 4 (by omega) (by omega)]; exact s6
    · rw [xp_full hT, xp_b0, decide_eq_false_iff_not, Classical.not_not] at h16
      exact bad (fun h => h16 h.2)
theorem c_G_forge (l : Launch) (G : xj_G) (v : xn_V) (T : pg_T) (hT : xc_T T v) (h0 : pg_g0 T) (k x y z : Int32) (hb : ∀ k, 1 ≤ k → k < 7 → ∀ x z : Int32, ∀ y : Int32, ¬ T.2.2.2.2 = 0 → T.1.1 < 150 → pg_bok (pg_send T.1 k (T.2.2.2.2 - 1) x y.toInt64 z true)) : xj_Mx l G 6 148 0 0 m_G_forge [.ref (xj_ad G (0, 0, 0)), .int k, .int x, .int y, .int z] (xn_W v) (xp_gi v (.int (pg_forge T k x y z).1) (pg_forge T k x y z).2) := by
  refine xj_Mx_of (by decide) (Nat.le_of_ble_eq_true rfl) (fun E hE C _ => ?_)
  subst hE
  replace C : xj_C E G prog_1_method_7_code "ThreePhaseGroup" 5 6 148 0 0 (some .int) := C
  show xn_X E G _ 0 0 0 [some (.ref (xj_ad G (0, 0, 0))), some (.int k), some (.int x), some (.int y), some (.int z)] [] v
  have bad : ¬ (1 ≤ k ∧ k ≤ 6) → xn_X E G (xj_R E G (xp_gi v (.int (pg_forge T k x y z).1) (pg_forge T k x y z).2) 0 0) 0 0 11 [some (.ref (xj_ad G (0, 0, 0))), some (.int k), some (.int x), some (.int y), some (.int z)] [] v := by
    intro h
    have e : pg_forge T k x y z = (-1, T) := by unfold pg_forge; rw [if_neg h]
    rw [e]
    refine xj_iconst (v := -1) C a_G_forge_11 (by decide) ?_
    refine xj_iret C a_G_forge_12 ?_
    exact ⟨rfl, v, rfl, hT, xf_G.rf v⟩
  refine xj_iload_n C a_G_forge_0 rfl ?_
  refine xj_iconst (v := nI 1) C a_G_forge_1 (by decide) ?_
  refine xj_icmp_lt C a_G_forge_2 rfl (fun h2 => ?_) (fun h2 => ?_)
  · exact bad (fun h => Int32.not_lt.mpr h.1 h2)
  · refine xj_iload_n C a_G_forge_5 rfl ?_
    refine xj_bipush (v := nI 6) C a_G_forge_6 (by decide) ?_
    refine xj_icmp_le C a_G_forge_8 rfl (fun h8 => ?_) (fun h8 => ?_)
    · have hk1 : 1 ≤ k.toInt := by
        have := Int32.le_iff_toInt_le.mp (Int32.not_lt.mp h2)
        have h1 : (nI 1).toInt = 1 := by decide
        omega
      have hk6 : k.toInt ≤ 6 := by
        have := Int32.le_iff_toInt_le.mp h8
        have h1 : (nI 6).toInt = 6 := by decide
        omega
      have e : pg_forge T k x y z = pg_post T (xp_un k) x y.toInt64 z := by unfold pg_forge; rw [if_pos ⟨Int32.not_lt.mp h2, h8⟩]
      rw [e]
      obtain ⟨K, hK⟩ : ∃ K, K = xp_un k := ⟨_, rfl⟩
      have hkK : k = nI K := by
        apply Int32.toInt_inj.mp
        rw [nI_toInt (by rw [hK]; unfold xp_un; omega), hK]
        unfold xp_un
        omega
      have hKb : 1 ≤ K ∧ K < 7 := by rw [hK]; unfold xp_un; omega
      rw [← hK]
      rw [hkK]
      refine xj_aload_n C a_G_forge_13 rfl ?_
      refine xj_iload_n C a_G_forge_14 rfl ?_
      refine xj_iload_n C a_G_forge_15 rfl ?_
      refine xj_iload_n C a_G_forge_16 rfl ?_
      refine xj_i2l C a_G_forge_17 ?_
      refine xj_iload C a_G_forge_18 rfl ?_
      refine xj_callV4 C a_G_forge_20 (c_G_postForged _ _ v T hT h0 K ⟨hKb.1, by omega⟩ x y.toInt64 z (fun a b => hb K hKb.1 hKb.2 x z y a b)) mv_G_postForged lk_G_87 ⟨rfl, rfl, rfl⟩ xj_ok0 ⟨by decide, by decide⟩ rfl (Nat.le_of_ble_eq_true rfl) ⟨Nat.le_refl _, Nat.le_refl _⟩ (fun a' w' h => ?_)
      obtain ⟨rfl, v', rfl, h1⟩ := h
      refine xj_iret C a_G_forge_23 ?_
      exact ⟨rfl, v', rfl, h1⟩
    · exact bad (fun h => h8 h.2)
theorem c_G_forgeCheckpoint (l : Launch) (G : xj_G) (v : xn_V) (T : pg_T) (hT : xc_T T v) (h0 : pg_g0 T) (x : Int32) (y : Int64) (hb : ¬ T.2.2.2.2 = 0 → T.1.1 < 150 → pg_bok (pg_send T.1 7 (T.2.2.2.2 - 1) x y 0 true)) : xj_Mx l G 6 148 0 0 m_G_forgeCheckpoint [.ref (xj_ad G (0, 0, 0)), .int x, .long y] (xn_W v) (xp_gi v (.int (pg_post T 7 x y 0).1) (pg_post T 7 x y 0).2) := by
  refine xj_Mx_of (by decide) (Nat.le_of_ble_eq_true rfl) (fun E hE C _ => ?_)
  subst hE
  replace C : xj_C E G prog_1_method_8_code "ThreePhaseGroup" 4 6 148 0 0 (some .int) := C
  show xn_X E G _ 0 0 0 [some (.ref (xj_ad G (0, 0, 0))), some (.int x), some (.long y), none] [] v
  refine xj_aload_n C a_G_forgeCheckpoint_0 rfl ?_
  refine xj_bipush (v := nI 7) C a_G_forgeCheckpoint_1 (by decide) ?_
  refine xj_iload_n C a_G_forgeCheckpoint_3 rfl ?_
  refine xj_lload_n C a_G_forgeCheckpoint_4 rfl ?_
  refine xj_iconst (v := nI 0) C a_G_forgeCheckpoint_5 (by decide) ?_
  refine xj_callV4 C a_G_forgeCheckpoint_6 (c_G_postForged _ _ v T hT h0 7 (by decide) x y 0 hb) mv_G_postForged lk_G_87 ⟨rfl, rfl, rfl⟩ xj_ok0 ⟨by decide, by decide⟩ rfl (Nat.le_of_ble_eq_true rfl) ⟨Nat.le_refl _, Nat.le_refl _⟩ (fun a' w' h => ?_)
  obtain ⟨rfl, v', rfl, h1⟩ := h
  refine xj_iret C a_G_forgeCheckpoint_9 ?_
  exact ⟨rfl, v', rfl, h1⟩
