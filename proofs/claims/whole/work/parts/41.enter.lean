/-! entering -/
/-- one of a replica's own numbers is set -/
theorem xc_R.fld {r : Nat} {S : pg_S} {v : xn_V} (hR : xc_R r S v) {t x y : Nat} (ht : (t = 1 ∧ x = 7) ∨ (t = 3 ∧ x = 9) ∨ (t = 5 ∧ x = 11) ∨ (t = 4 ∧ x = 12) ∨ (t = 11 ∧ x = 13)) : xc_R r (S.1, pg_u S.2 t 0 y) (xn_uI v 11 r 0 x (nI y)) := by
  obtain ⟨hF, ⟨kl, hL, hkl⟩, ⟨cl, hC, hc⟩, hV, hS⟩ := hR
  have hoth : ∀ t' i, ¬ t' = t → (pg_u S.2 t 0 y).1 t' i = S.2.1 t' i := by
    intro t' i h
    rw [pg_u_at, if_neg (by omega)]
  have hno : ∀ i, pg_no (pg_u S.2 t 0 y) i = pg_no S.2 i := fun i => hoth 9 i (by omega)
  have hvw : pg_vw (pg_u S.2 t 0 y) = pg_vw S.2 := hoth 0 0 (by omega)
  refine ⟨?_, ⟨kl, hL, fun q => ?_⟩, ⟨cl, hC, fun q => ?_⟩, fun s hs => ?_, fun n h1 h2 => ?_⟩
  · obtain ⟨f1, f2, f3, f4, f5, f6, f7, f8, f9⟩ := hF
    rcases ht with ⟨rfl, rfl⟩ | ⟨rfl, rfl⟩ | ⟨rfl, rfl⟩ | ⟨rfl, rfl⟩ | ⟨rfl, rfl⟩ <;>
    exact ⟨by simpa [xn_uI, xn_uJ, pg_u, pg_w, pg_ss, pg_ac, pg_de, pg_ct, pg_no, pg_kn, pg_vw, pg_ch, pg_h, pg_e, pg_sp, pg_tm, pg_af] using f1, by simpa [xn_uI, xn_uJ, pg_u, pg_w, pg_ss, pg_ac, pg_de, pg_ct, pg_no, pg_kn, pg_vw, pg_ch, pg_h, pg_e, pg_sp, pg_tm, pg_af] using f2, by simpa [xn_uI, xn_uJ, pg_u, pg_w, pg_ss, pg_ac, pg_de, pg_ct, pg_no, pg_kn, pg_vw, pg_ch, pg_h, pg_e, pg_sp, pg_tm, pg_af] using f3, by simpa [xn_uI, xn_uJ, pg_u, pg_w, pg_ss, pg_ac, pg_de, pg_ct, pg_no, pg_kn, pg_vw, pg_ch, pg_h, pg_e, pg_sp, pg_tm, pg_af] using f4, by simpa [xn_uI, xn_uJ, pg_u, pg_w, pg_ss, pg_ac, pg_de, pg_ct, pg_no, pg_kn, pg_vw, pg_ch, pg_h, pg_e, pg_sp, pg_tm, pg_af] using f5, by simpa [xn_uI, xn_uJ, pg_u, pg_w, pg_ss, pg_ac, pg_de, pg_ct, pg_no, pg_kn, pg_vw, pg_ch, pg_h, pg_e, pg_sp, pg_tm, pg_af] using f6, by simpa [xn_uI, xn_uJ, pg_u, pg_w, pg_ss, pg_ac, pg_de, pg_ct, pg_no, pg_kn, pg_vw, pg_ch, pg_h, pg_e, pg_sp, pg_tm, pg_af] using f7, by simpa [xn_uI, xn_uJ, pg_u, pg_w, pg_ss, pg_ac, pg_de, pg_ct, pg_no, pg_kn, pg_vw, pg_ch, pg_h, pg_e, pg_sp, pg_tm, pg_af] using f8, by simpa [xn_uI, xn_uJ, pg_u, pg_w, pg_ss, pg_ac, pg_de, pg_ct, pg_no, pg_kn, pg_vw, pg_ch, pg_h, pg_e, pg_sp, pg_tm, pg_af] using f9⟩
  · show _ ↔ (pg_u S.2 t 0 y).1 10 q = 1
    rw [hoth 10 q (by omega)]
    exact hkl q
  · rw [hc q]
    show _ ↔ (q < S.1.1 ∧ pg_no (pg_u S.2 t 0 y) q = 1 ∧ pg_k S.1 q = 7)
    rw [hno]
  · rw [pg_lvc_same hno]
    have e : (xn_uI v 11 r 0 x (nI y)).1 18 r 0 s = v.1 18 r 0 s := by simp [xn_uI]
    rw [e]
    exact hV s hs
  · have hh : pg_h (pg_u S.2 t 0 y) = pg_h S.2 := hoth 2 0 (by omega)
    obtain ⟨a1, a2, a3, a4⟩ := hS n (by rw [← hh]; exact h1) (by rw [← hh]; exact h2)
    have e : ∀ z, (xn_uI v 11 r 0 x (nI y)).1 13 r (n % 4) z = v.1 13 r (n % 4) z := by
      intro z
      simp [xn_uI]
    refine ⟨?_, ?_, ?_, fun s hs => ?_⟩
    · rw [e]
      show _ = nI ((pg_u S.2 t 0 y).1 6 n) - 2
      rw [hoth 6 n (by omega)]; exact a1
    · rw [e]
      show _ = nI ((pg_u S.2 t 0 y).1 7 n) - 2
      rw [hoth 7 n (by omega)]; exact a2
    · rw [e]
      show _ = nI ((pg_u S.2 t 0 y).1 8 n)
      rw [hoth 8 n (by omega)]; exact a3
    · rw [pg_nv_same hno hvw, pg_nv_same hno hvw]
      exact a4 s hs
theorem pg_od1_lt (c : Int32) (j : Nat) : pg_od1 c j < 256 := Nat.mod_lt _ (by decide)
theorem pg_en1_at {c : Int32} {st j : Nat} {R : pg_R} (t i : Nat) (h6 : ¬ (t = 6 ∧ i = st + 1 + j)) (h10 : ¬ (t = 10 ∧ i = pg_od1 c j - 2)) : (pg_en1 c st R j).1 t i = R.1 t i := by
  unfold pg_en1
  split
  · split
    · rw [pg_u_at, if_neg h10, pg_u_at, if_neg h6]
    · rw [pg_u_at, if_neg h6]
  · rfl
theorem pg_en1_st {c : Int32} {st j : Nat} {R : pg_R} : (pg_en1 c st R j).2 = R.2 := by
  unfold pg_en1
  split
  · split <;> rfl
  · rfl
theorem pg_en1_num {c : Int32} {st j : Nat} {R : pg_R} (h : pg_num R) : pg_num (pg_en1 c st R j) := by
  have g : ∀ t i, ¬ t = 6 → ¬ t = 10 → (pg_en1 c st R j).1 t i = R.1 t i := fun t i h1 h2 => pg_en1_at t i (by omega) (by omega)
  have ho := pg_od1_lt c j
  unfold pg_num pg_vw pg_ch pg_h pg_e pg_tm pg_sp pg_af pg_ac pg_de pg_ct at h ⊢
  rw [g 0 0 (by omega) (by omega), g 1 0 (by omega) (by omega), g 2 0 (by omega) (by omega), g 3 0 (by omega) (by omega), g 5 0 (by omega) (by omega), g 4 0 (by omega) (by omega), g 11 0 (by omega) (by omega)]
  refine ⟨h.1, h.2.1, h.2.2.1, h.2.2.2.1, h.2.2.2.2.1, h.2.2.2.2.2.1, h.2.2.2.2.2.2.1, fun n => ?_⟩
  have hn := h.2.2.2.2.2.2.2 n
  rw [g 7 n (by omega) (by omega), g 8 n (by omega) (by omega)]
  refine ⟨?_, hn.2⟩
  unfold pg_en1
  split
  · split
    · rw [pg_u_at, if_neg (by omega), pg_u_at]
      split
      · omega
      · exact hn.1
    · rw [pg_u_at]
      split
      · omega
      · exact hn.1
  · exact hn.1
theorem pg_mv_num {R : pg_R} {w : Nat} (h : pg_num R) (hw : w ≤ 15) : pg_num (pg_mv R w) := by
  have g : ∀ t i, ¬ t = 6 → ¬ t = 0 → ¬ t = 11 → (pg_mv R w).1 t i = R.1 t i := by
    intro t i h1 h2 h3
    show (if t = 6 then 0 else if t = 11 ∧ i = 0 then 1 else if t = 0 ∧ i = 0 then w else R.1 t i) = _
    rw [if_neg h1, if_neg (by omega), if_neg (by omega)]
  unfold pg_num pg_vw pg_ch pg_h pg_e pg_tm pg_sp pg_af pg_ac pg_de pg_ct at h ⊢
  rw [g 1 0 (by omega) (by omega) (by omega), g 2 0 (by omega) (by omega) (by omega), g 3 0 (by omega) (by omega) (by omega), g 5 0 (by omega) (by omega) (by omega), g 4 0 (by omega) (by omega) (by omega)]
  refine ⟨hw, h.2.1, h.2.2.1, h.2.2.2.1, h.2.2.2.2.1, h.2.2.2.2.2.1, Nat.le_refl 1, fun n => ?_⟩
  have hn := h.2.2.2.2.2.2.2 n
  rw [g 7 n (by omega) (by omega) (by omega), g 8 n (by omega) (by omega) (by omega)]
  exact ⟨Nat.zero_lt_succ _, hn.2⟩
theorem pg_set_num {R : pg_R} {n : Nat} {x : Int64} (h : pg_num R) (hn : n < 400) : pg_num (pg_set R n x) := by
  have g : ∀ t, ¬ t = 2 → ¬ t = 3 → ¬ (t = 6 ∨ t = 7 ∨ t = 8) → ∀ i, (pg_set R n x).1 t i = R.1 t i := by
    intro t h2 h3 h6 i
    rw [pg_set_at, if_neg (by omega), if_neg (by omega), if_neg (by omega)]
  unfold pg_num pg_vw pg_ch pg_h pg_e pg_tm pg_sp pg_af pg_ac pg_de pg_ct at h ⊢
  rw [g 0 (by omega) (by omega) (by omega), g 1 (by omega) (by omega) (by omega), g 5 (by omega) (by omega) (by omega), g 4 (by omega) (by omega) (by omega), g 11 (by omega) (by omega) (by omega)]
  refine ⟨h.1, h.2.1, ?_, ?_, h.2.2.2.2.1, h.2.2.2.2.2.1, h.2.2.2.2.2.2.1, fun m => ?_⟩
  · rw [pg_set_at, if_pos ⟨rfl, rfl⟩]; exact hn
  · rw [pg_set_at, if_neg (by omega)]
    split
    · exact hn
    · rw [if_neg (by omega)]; exact h.2.2.2.1
  · have hm := h.2.2.2.2.2.2.2 m
    refine ⟨?_, ?_, ?_⟩
    · rw [pg_set_at, if_neg (by omega), if_neg (by omega)]
      split
      · omega
      · exact hm.1
    · rw [pg_set_at, if_neg (by omega), if_neg (by omega)]
      split
      · omega
      · exact hm.2.1
    · rw [pg_set_at, if_neg (by omega), if_neg (by omega)]
      split
      · omega
      · exact hm.2.2
/-- entering by m is in order -/
def pg_eok (S : pg_S) (m : Nat) : Prop := (∃ w, w ≤ 15 ∧ pg_a S.1 m = nI w ∧ pg_fre S w) ∧ (∀ k, k < 3 → pg_vt (pg_b S.1 m) k < S.1.1 ∧ ∃ p, p < 390 ∧ pg_b S.1 (pg_vt (pg_b S.1 m) k) = lN p) ∧ (pg_h S.2 < pg_st S.1 (pg_b S.1 m) → (pg_proof S.1 (lN (pg_st S.1 (pg_b S.1 m))) m).isSome = true) ∧ ∀ j, j < 4 → 1 < pg_od1 (pg_c S.1 m) j → pg_od1 (pg_c S.1 m) j - 2 < S.1.1 ∧ pg_k S.1 (pg_od1 (pg_c S.1 m) j - 2) = 0
theorem pg_st_lt {B : pg_B} {y : Int64} {q : Nat} (hq : q < 2 ^ 31) (h : ∀ k, k < 3 → ∃ p, p < q ∧ pg_b B (pg_vt y k) = lN p) : pg_st B y < q := by
  have hnb : ∀ k, k < 3 → pg_nb B (pg_vt y k) < q := by
    intro k hk
    obtain ⟨p, hp, e⟩ := h k hk
    rw [pg_nb_n e (by omega)]
    exact hp
  have h0 := hnb 0 (by omega)
  have h1 := hnb 1 (by omega)
  have h2 := hnb 2 (by omega)
  unfold pg_st
  omega
theorem c_R_enter (l : Launch) (G : xj_G) (v : xn_V) (r : Nat) (hr : r < 4) (S : pg_S) (hR : xc_R r S v) (hN : pg_num S.2) (hB : xc_B S.1 v) (hK : pg_kno S) (hT : pg_top S) (m : Nat) (hm : m < S.1.1) (hE : pg_eok S m) : xj_Mx l G 3 68 0 0 m_R_enter [.ref (xj_ad G (11, r, 0)), .int (nI m)] (xn_W v) (fun a' w' => a' = none ∧ ∃ v', w' = xn_W v' ∧ xc_R r (S.1, pg_ent S m) v' ∧ xf_R r v v') := by
  have hz := hB.2.1
  obtain ⟨⟨w, hw15, haw, hfre⟩, hvt, hpr, hod⟩ := hE
  have hst : pg_st S.1 (pg_b S.1 m) < 390 := pg_st_lt (by decide) (fun k hk => (hvt k hk).2)
  have hvt2 : ∀ k, k < 3 → pg_vt (pg_b S.1 m) k < S.1.1 ∧ ∃ p, p < 1000 ∧ pg_b S.1 (pg_vt (pg_b S.1 m) k) = lN p := fun k hk => by
    obtain ⟨h1, p, h2, h3⟩ := hvt k hk
    exact ⟨h1, p, by omega, h3⟩
  obtain ⟨st, hste⟩ : ∃ st, st = pg_st S.1 (pg_b S.1 m) := ⟨_, rfl⟩
  rw [← hste] at hst hpr
  obtain ⟨c, hce⟩ : ∃ c, c = pg_c S.1 m := ⟨_, rfl⟩
  obtain ⟨R1, hR1e⟩ : ∃ R1, R1 = pg_u (pg_mv S.2 w) 1 0 0 := ⟨_, rfl⟩
  have hR1 := (hR.move hfre).fld (t := 1) (x := 7) (y := 0) (Or.inl ⟨rfl, rfl⟩)
  have hwn : (pg_a S.1 m).toInt.toNat = w := by rw [haw, xp_nat (by omega)]
  have g1 : ∀ t i, ¬ t = 6 → ¬ t = 0 → ¬ t = 11 → ¬ t = 1 → R1.1 t i = S.2.1 t i := by
    intro t i h1 h2 h3 h4
    rw [hR1e, pg_u_at, if_neg (by omega)]
    show (if t = 6 then 0 else if t = 11 ∧ i = 0 then 1 else if t = 0 ∧ i = 0 then w else S.2.1 t i) = _
    rw [if_neg h1, if_neg (by omega), if_neg (by omega)]
  have hN1 : pg_num R1 := by
    have h0 := pg_mv_num hN hw15
    rw [hR1e]
    unfold pg_num pg_vw pg_ch pg_h pg_e pg_tm pg_sp pg_af pg_ac pg_de pg_ct at h0 ⊢
    simp only [pg_u_at]
    exact ⟨h0.1, by simp, h0.2.2⟩
  have hh1 : pg_h R1 = pg_h S.2 := g1 2 0 (by omega) (by omega) (by omega) (by omega)
  have hvw1 : pg_vw R1 = w := by rw [hR1e]; rfl
  have hT1 : pg_top (S.1, R1) := by
    refine ⟨fun n hn => ?_, fun i n h1 h2 h3 _ _ _ => ?_⟩
    · have hn : pg_h S.2 + 4 < n := by rw [← hh1]; exact hn
      obtain ⟨t1, t2, t3⟩ := hT.1 n hn
      refine ⟨by rw [hR1e]; rfl, ?_, ?_⟩
      · show R1.1 7 n = 0
        rw [g1 7 n (by omega) (by omega) (by omega) (by omega)]; exact t2
      · show R1.1 8 n = 0
        rw [g1 8 n (by omega) (by omega) (by omega) (by omega)]; exact t3
    · have h1 : R1.1 9 i = 1 := h1
      rw [g1 9 i (by omega) (by omega) (by omega) (by omega)] at h1
      have h3 : pg_a S.1 i = nI (pg_vw R1) := h3
      rw [hvw1] at h3
      exact hfre i h1 h2 h3
  have hK1 : pg_kno (S.1, R1) := by
    refine ⟨fun q hq => ?_, fun q hq => ?_⟩
    · have hq : R1.1 10 q = 1 := hq
      rw [g1 10 q (by omega) (by omega) (by omega) (by omega)] at hq
      exact hK.1 q hq
    · have hq : R1.1 9 q = 1 := hq
      rw [g1 9 q (by omega) (by omega) (by omega) (by omega)] at hq
      exact hK.2 q hq
  rw [← hR1e] at hR1
  obtain ⟨R2, hR2e⟩ : ∃ R2, R2 = if pg_h S.2 < st then pg_set R1 st (pg_bp S.1 (pg_proof S.1 (lN st) m)) else R1 := ⟨_, rfl⟩
  have hent : pg_ent S m = pg_en1 c st (pg_en1 c st (pg_en1 c st (pg_en1 c st R2 0) 1) 2) 3 := by
    unfold pg_ent
    dsimp only
    rw [hwn, ← hR1e, ← hste, ← hce, ← hR2e]
  rw [hent]
  refine xj_Mx_of (by decide) (Nat.le_of_ble_eq_true rfl) (fun E hE C _ => ?_)
  subst hE
  replace C : xj_C E G prog_5_method_36_code "ThreePhaseGroup$Replica" 6 3 68 0 0 none := C
  show xn_X E G _ 0 0 0 [some (.ref (xj_ad G (11, r, 0))), some (.int (nI m)), none, none, none, none] [] v
  have loop : ∀ n j, j ≤ 4 → 4 - j < n → ∀ Rj vj, xc_R r (S.1, Rj) vj → pg_num Rj → pg_kno (S.1, Rj) → st ≤ pg_h Rj → xf_R r v vj → (∀ v', xc_R r (S.1, (List.range (4 - j)).foldl (fun R t => pg_en1 c st R (j + t)) Rj) v' → xf_R r v v' → ∃ v'', xn_W v' = xn_W v'' ∧ xc_R r (S.1, pg_en1 c st (pg_en1 c st (pg_en1 c st (pg_en1 c st R2 0) 1) 2) 3) v'' ∧ xf_R r v v'') → ∀ z1 z2 : Option Value, xj_nl z1 = true → xn_X E G (xj_R E G (fun a' w' => a' = none ∧ ∃ v', w' = xn_W v' ∧ xc_R r (S.1, pg_en1 c st (pg_en1 c st (pg_en1 c st (pg_en1 c st R2 0) 1) 2) 3) v' ∧ xf_R r v v') 0 0) 0 0 83 [some (.ref (xj_ad G (11, r, 0))), some (.int (nI m)), some (.int (nI st)), z1, some (.int (nI j)), z2] [] vj := by
    intro n
    induction n with
    | zero => intro j _ h; omega
    | succ n ih =>
      intro j hj hn Rj vj hRj hNj hKj hsj hfj hfin z1 z2 hz1
      have hBj := hB.R hfj
      refine xj_iload C a_R_enter_83 rfl ?_
      refine xj_iconst (v := nI 4) C a_R_enter_85 (by decide) ?_
      refine xj_icmp_ge C a_R_enter_86 rfl (fun h86 => ?_) (fun h86 => ?_)
      · rw [nI_leI (by omega) (by omega)] at h86
        have : j = 4 := by omega
        subst this
        refine xj_vret C a_R_enter_161 ?_
        exact ⟨rfl, hfin vj hRj hfj⟩
      · rw [nI_leI (by omega) (by omega)] at h86
        have ho := pg_od1_lt c j
        have hhj := hNj.2.2.1
        have hfin2 : ∀ v', xc_R r (S.1, (List.range (4 - (j + 1))).foldl (fun R t => pg_en1 c st R (j + 1 + t)) (pg_en1 c st Rj j)) v' → xf_R r v v' → ∃ v'', xn_W v' = xn_W v'' ∧ xc_R r (S.1, pg_en1 c st (pg_en1 c st (pg_en1 c st (pg_en1 c st R2 0) 1) 2) 3) v'' ∧ xf_R r v v'' := by
          intro v' h1 h2
          refine hfin v' ?_ h2
          have e : (List.range (4 - j)).foldl (fun R t => pg_en1 c st R (j + t)) Rj = (List.range (4 - (j + 1))).foldl (fun R t => pg_en1 c st R (j + 1 + t)) (pg_en1 c st Rj j) := by
            rcases (show j = 0 ∨ j = 1 ∨ j = 2 ∨ j = 3 by omega) with rfl | rfl | rfl | rfl <;> rfl
          rw [e]
          exact h1
        have step : ∀ vn, xc_R r (S.1, pg_en1 c st Rj j) vn → xf_R r v vn → ∀ z : Option Value, xn_X E G (xj_R E G (fun a' w' => a' = none ∧ ∃ v', w' = xn_W v' ∧ xc_R r (S.1, pg_en1 c st (pg_en1 c st (pg_en1 c st (pg_en1 c st R2 0) 1) 2) 3) v' ∧ xf_R r v v') 0 0) 0 0 155 [some (.ref (xj_ad G (11, r, 0))), some (.int (nI m)), some (.int (nI st)), z1, some (.int (nI j)), z] [] vn := by
          intro vn h1 h2 z
          refine xj_iincN4 C a_R_enter_155 hz1 ?_
          refine xj_goto C a_R_enter_158 rfl ?_
          refine ih (j + 1) (by omega) (by omega) _ _ h1 (pg_en1_num hNj) ⟨fun q hq => ?_, fun q hq => ?_⟩ ?_ h2 hfin2 _ _ hz1
          · by_cases e : q = pg_od1 c j - 2 ∧ 1 < pg_od1 c j
            · have := hod j (by omega) (by rw [← hce]; exact e.2)
              rw [← hce] at this
              rw [e.1]
              exact this
            · have hq : (pg_en1 c st Rj j).1 10 q = 1 := hq
              by_cases e2 : q = pg_od1 c j - 2
              · unfold pg_en1 at hq
                split at hq
                · rw [if_neg (by omega), pg_u_at, if_neg (by omega)] at hq
                  exact hKj.1 q hq
                · exact hKj.1 q hq
              · rw [pg_en1_at 10 q (by omega) (by omega)] at hq
                exact hKj.1 q hq
          · have hq : (pg_en1 c st Rj j).1 9 q = 1 := hq
            rw [pg_en1_at 9 q (by omega) (by omega)] at hq
            exact hKj.2 q hq
          · show st ≤ (pg_en1 c st Rj j).1 2 0
            rw [pg_en1_at 2 0 (by omega) (by omega)]
            exact hsj
        refine xj_aload_n C a_R_enter_89 rfl ?_
        refine xn_g_R_board C a_R_enter_90 fl_R_61 (by first | assumption | omega) ?_
        refine xn_g_B_c C a_R_enter_93 fl_R_139 ?_
        refine xj_iload_n C a_R_enter_96 rfl ?_
        refine xn_ld_6 C a_R_enter_97 (by first | assumption | omega) ?_
        refine xj_topi (y := c) (by rw [hce]; exact hBj.c (by omega)) ?_
        refine xj_bipush (v := nI 8) C a_R_enter_98 (by decide) ?_
        refine xj_iload C a_R_enter_100 rfl ?_
        refine xj_imul C a_R_enter_102 ?_
        refine xj_topi (pk_mul 8 j) ?_
        refine xj_iushr C a_R_enter_103 ?_
        refine xj_sipush (v := nI 255) C a_R_enter_104 (by decide) ?_
        refine xj_iand C a_R_enter_107 ?_
        refine xj_topi (y := nI (pg_od1 c j)) (by rw [show nI 255 = nI (2 ^ 8 - 1) from rfl, xb_iush _ (by omega) (by omega)]; rfl) ?_
        refine xj_iconst (v := nI 2) C a_R_enter_108 (by decide) ?_
        refine xj_isub C a_R_enter_109 ?_
        refine xj_istore5 C a_R_enter_110 rfl ?_
        refine xj_iload C a_R_enter_112 rfl ?_
        refine xj_bipush (v := -2) C a_R_enter_114 (by decide) ?_
        refine xj_icmp_eq C a_R_enter_116 rfl (fun h116 => ?_) (fun h116 => ?_)
        · have h116 : pg_od1 c j = 0 := (xp_acc (by omega)).mp h116
          refine step vj ?_ hfj _
          have : pg_en1 c st Rj j = Rj := by unfold pg_en1; rw [if_neg (by omega)]
          rw [this]
          exact hRj
        · have h116 : ¬ pg_od1 c j = 0 := fun e => h116 ((xp_acc (by omega)).mpr e)
          have hl : (nI (st + 1 + j)).toInt64 = lN (st + 1 + j) := nI_l (by omega)
          refine xj_aload_n C a_R_enter_119 rfl ?_
          refine xj_iload_n C a_R_enter_120 rfl ?_
          refine xj_iconst (v := nI 1) C a_R_enter_121 (by decide) ?_
          refine xj_iadd C a_R_enter_122 ?_
          refine xj_iload C a_R_enter_123 rfl ?_
          refine xj_iadd C a_R_enter_125 ?_
          refine xj_topi (y := nI (st + 1 + j)) (by rw [nI_add, nI_add]) ?_
          refine xj_i2l C a_R_enter_126 ?_
          refine xj_topl hl ?_
          refine xn_callV1i C a_R_enter_127 (c_R_inWindow _ _ vj r hr Rj hRj.1 hNj (lN (st + 1 + j))) mv_R_inWindow lk_R_135 ⟨rfl, rfl, rfl⟩ (xj_ok11 (by first | assumption | omega)) ⟨by decide, by decide⟩ rfl (Nat.le_of_ble_eq_true rfl) ⟨Nat.le_refl _, Nat.le_refl _⟩ ?_
          refine xj_if_eq C a_R_enter_130 rfl (fun h130 => ?_) (fun h130 => ?_)
          · rw [xp_b0] at h130
            have hnw : ¬ pg_h Rj < st + 1 + j := by
              intro e
              have : pg_win Rj (lN (st + 1 + j)) = true := by
                unfold pg_win
                rw [decide_eq_true ((pk_lLT (by omega) (by omega)).mpr e), decide_eq_true ((pk_lLE (by omega) (by omega)).mpr (by omega))]
                rfl
              rw [this] at h130
              cases h130
            refine step vj ?_ hfj _
            have : pg_en1 c st Rj j = Rj := by unfold pg_en1; rw [if_neg (by omega)]
            rw [this]
            exact hRj
          · rw [xp_b0] at h130
            have hwin : pg_win Rj (lN (st + 1 + j)) = true := by simpa using h130
            have hin : pg_h Rj < st + 1 + j := by
              unfold pg_win at hwin
              simp only [Bool.and_eq_true, decide_eq_true_eq] at hwin
              exact (pk_lLT (by omega) (by omega)).mp hwin.1
            have h4 : (st + 1 + j) % 4 < 4 := Nat.mod_lt _ (by decide)
            have hacc := hRj.accept hin (by show st + 1 + j ≤ pg_h Rj + 4; omega) (q := pg_od1 c j) (y := nI (pg_od1 c j) - nI 2) rfl
            obtain ⟨kl, hL, hkl⟩ := hacc.2.1
            refine xj_aload_n C a_R_enter_133 rfl ?_
            refine xj_iload_n C a_R_enter_134 rfl ?_
            refine xj_iconst (v := nI 1) C a_R_enter_135 (by decide) ?_
            refine xj_iadd C a_R_enter_136 ?_
            refine xj_iload C a_R_enter_137 rfl ?_
            refine xj_iadd C a_R_enter_139 ?_
            refine xj_topi (y := nI (st + 1 + j)) (by rw [nI_add, nI_add]) ?_
            refine xj_i2l C a_R_enter_140 ?_
            refine xj_topl hl ?_
            refine xn_callV1r C a_R_enter_141 (c_R_slotAt _ _ vj r (st + 1 + j) hr (by omega)) mv_R_slotAt lk_R_145 ⟨rfl, rfl, rfl⟩ (xj_ok11 (by first | assumption | omega)) ⟨by decide, by decide⟩ rfl (Nat.le_of_ble_eq_true rfl) ⟨Nat.le_refl _, Nat.le_refl _⟩ ?_
            refine xj_iload C a_R_enter_144 rfl ?_
            refine xn_p_S_accepted C a_R_enter_146 fl_R_149 (by first | assumption | omega) (by first | assumption | omega) ?_
            refine xj_aload_n C a_R_enter_149 rfl ?_
            refine xj_iload C a_R_enter_150 rfl ?_
            refine xn_callV1 C a_R_enter_152 (c_R_learn _ _ _ r hr kl.length hL.2.2.1 hL.2.1 (nI (pg_od1 c j) - nI 2)) mv_R_learn lk_R_128 ⟨rfl, rfl, rfl⟩ (xj_ok11 (by first | assumption | omega)) ⟨by decide, by decide⟩ rfl (Nat.le_of_ble_eq_true rfl) ⟨Nat.le_refl _, Nat.le_refl _⟩ ?_
            by_cases e1 : pg_od1 c j = 1
            · rw [if_pos (by rw [e1]; decide)]
              refine step _ ?_ (hfj.uI (by omega)) _
              have : pg_en1 c st Rj j = pg_u Rj 6 (st + 1 + j) (pg_od1 c j) := by unfold pg_en1; rw [if_pos ⟨by omega, hin⟩, if_neg (by omega)]
              rw [this]
              exact hacc
            · have e2 : nI (pg_od1 c j) - nI 2 = nI (pg_od1 c j - 2) := pk_sub (by omega)
              rw [if_neg (by rw [e2]; exact xp_nem1 (by omega))]
              have ho2 := hod j (by omega) (by rw [← hce]; omega)
              rw [← hce] at ho2
              refine step _ ?_ ((hfj.uI (by omega)).add) _
              have : pg_en1 c st Rj j = pg_u (pg_u Rj 6 (st + 1 + j) (pg_od1 c j)) 10 (pg_od1 c j - 2) 1 := by unfold pg_en1; rw [if_pos ⟨by omega, hin⟩, if_pos (by omega)]
              rw [this]
              have hKa : pg_kno (S.1, pg_u Rj 6 (st + 1 + j) (pg_od1 c j)) := hKj
              have hln := hacc.learn hKa hz hL hkl (m := pg_od1 c j - 2) (by show _ < S.1.1; exact ho2.1)
              rw [← e2] at hln
              exact hln
  have hf1 : xf_R r v (xn_uI (xn_mv v r (nI w) 4) 11 r 0 7 (nI 0)) := (xf_R.rf r v).mv.uI (by omega)
  have hB1 := hB.R hf1
  have fin0 : ∀ v2, xc_R r (S.1, R2) v2 → pg_num R2 → pg_kno (S.1, R2) → st ≤ pg_h R2 → xf_R r v v2 → ∀ x1 : Int32, xn_X E G (xj_R E G (fun a' w' => a' = none ∧ ∃ v', w' = xn_W v' ∧ xc_R r (S.1, pg_en1 c st (pg_en1 c st (pg_en1 c st (pg_en1 c st R2 0) 1) 2) 3) v' ∧ xf_R r v v') 0 0) 0 0 80 [some (.ref (xj_ad G (11, r, 0))), some (.int (nI m)), some (.int (nI st)), some (.int x1), none, none] [] v2 := by
    intro v2 h1 h2 h3 h4 h5 x1
    refine xj_iconst (v := nI 0) C a_R_enter_80 (by decide) ?_
    refine xj_istore4 C a_R_enter_81 rfl ?_
    exact loop 5 0 (by omega) (by omega) R2 v2 h1 h2 h3 h4 h5 (fun v' h6 h7 => ⟨v', rfl, h6, h7⟩) _ _ rfl
  refine xj_aload_n C a_R_enter_0 rfl ?_
  refine xj_aload_n C a_R_enter_1 rfl ?_
  refine xn_g_R_board C a_R_enter_2 fl_R_61 (by first | assumption | omega) ?_
  refine xn_g_B_a C a_R_enter_5 fl_R_81 ?_
  refine xj_iload_n C a_R_enter_8 rfl ?_
  refine xn_ld_4 C a_R_enter_9 (by first | assumption | omega) ?_
  refine xj_topi (hB.a (by omega)) ?_
  rw [haw]
  refine xn_callV1 C a_R_enter_10 (c_R_moveTo _ _ v r hr (nI w)) mv_R_moveTo lk_R_283 ⟨rfl, rfl, rfl⟩ (xj_ok11 (by first | assumption | omega)) ⟨by decide, by decide⟩ rfl (Nat.le_of_ble_eq_true rfl) ⟨Nat.le_refl _, Nat.le_refl _⟩ ?_
  refine xj_aload_n C a_R_enter_13 rfl ?_
  refine xj_iconst (v := nI 0) C a_R_enter_14 (by decide) ?_
  refine xn_p_R_changing C a_R_enter_15 fl_R_35 (by first | assumption | omega) (by decide) ?_
  refine xj_aload_n C a_R_enter_18 rfl ?_
  refine xn_g_R_board C a_R_enter_19 fl_R_61 (by first | assumption | omega) ?_
  refine xj_aload_n C a_R_enter_22 rfl ?_
  refine xn_g_R_board C a_R_enter_23 fl_R_61 (by first | assumption | omega) ?_
  refine xn_g_B_b C a_R_enter_26 fl_R_131 ?_
  refine xj_iload_n C a_R_enter_29 rfl ?_
  refine xn_ld_5 C a_R_enter_30 (by first | assumption | omega) ?_
  refine xj_topl (hB1.b (by omega)) ?_
  refine xj_l2i C a_R_enter_31 ?_
  refine xn_callV1i C a_R_enter_32 (c_B_startOf _ _ _ S.1 hB1 (pg_b S.1 m) hvt2) mv_B_startOf lk_R_286 ⟨rfl, rfl, rfl⟩ xj_ok1 ⟨by decide, by decide⟩ rfl (Nat.le_of_ble_eq_true rfl) ⟨Nat.le_refl _, Nat.le_refl _⟩ ?_
  refine xj_istore2 C a_R_enter_35 rfl ?_
  refine xj_iload_n C a_R_enter_36 rfl ?_
  refine xj_aload_n C a_R_enter_37 rfl ?_
  refine xn_g_R_stable C a_R_enter_38 fl_R_39 (by first | assumption | omega) ?_
  refine xj_topi (y := nI (pg_h S.2)) (by rw [hR1.1.h, hh1]) ?_
  rw [← hste]
  have hhS := hN.2.2.1
  refine xj_icmp_le C a_R_enter_41 rfl (fun h41 => ?_) (fun h41 => ?_)
  · rw [nI_leI (by omega) (by omega)] at h41
    have e2 : R2 = R1 := by rw [hR2e, if_neg (by omega)]
    refine xj_bipush (v := -2) C a_R_enter_57 (by decide) ?_
    refine xj_istore3 C a_R_enter_59 rfl ?_
    refine xj_iload_n C a_R_enter_60 rfl ?_
    refine xj_bipush (v := -2) C a_R_enter_61 (by decide) ?_
    refine xj_icmp_eq C a_R_enter_63 rfl (fun h63 => ?_) (fun h63 => ?_)
    · rw [e2] at fin0 ⊢
      exact fin0 _ hR1 hN1 hK1 (by rw [hh1]; exact h41) hf1 _
    · exact absurd rfl h63
  · rw [nI_leI (by omega) (by omega)] at h41
    have hl : (nI st).toInt64 = lN st := nI_l (by omega)
    have hps := hpr (by omega)
    obtain ⟨p, hp⟩ : ∃ p, pg_proof S.1 (lN st) m = some p := by
      cases e : pg_proof S.1 (lN st) m with
      | none => rw [e] at hps; cases hps
      | some p => exact ⟨p, rfl⟩
    have hpm : p < m := by
      have := List.mem_of_find?_eq_some hp
      exact List.mem_range.mp this
    have e2 : R2 = pg_set R1 st (pg_b S.1 p) := by rw [hR2e, if_pos (by omega), hp]; rfl
    refine xj_aload_n C a_R_enter_44 rfl ?_
    refine xn_g_R_board C a_R_enter_45 fl_R_61 (by first | assumption | omega) ?_
    refine xj_iload_n C a_R_enter_48 rfl ?_
    refine xj_i2l C a_R_enter_49 ?_
    refine xj_topl hl ?_
    refine xj_iload_n C a_R_enter_50 rfl ?_
    refine xn_callV2i C a_R_enter_51 (c_B_certificate _ _ _ S.1 hB1 (lN st) m (by omega)) mv_B_certificate lk_R_289 ⟨rfl, rfl, rfl⟩ xj_ok1 ⟨by decide, by decide⟩ rfl (Nat.le_of_ble_eq_true rfl) ⟨Nat.le_refl _, Nat.le_refl _⟩ ?_
    rw [hp]
    refine xj_goto C a_R_enter_54 rfl ?_
    refine xj_istore3 C a_R_enter_59 rfl ?_
    refine xj_iload_n C a_R_enter_60 rfl ?_
    refine xj_bipush (v := -2) C a_R_enter_61 (by decide) ?_
    refine xj_icmp_eq C a_R_enter_63 rfl (fun h63 => ?_) (fun h63 => ?_)
    · exact absurd h63 (xp_ne2 (by omega))
    · refine xj_aload_n C a_R_enter_66 rfl ?_
      refine xj_iload_n C a_R_enter_67 rfl ?_
      refine xj_aload_n C a_R_enter_68 rfl ?_
      refine xn_g_R_board C a_R_enter_69 fl_R_61 (by first | assumption | omega) ?_
      refine xn_g_B_b C a_R_enter_72 fl_R_131 ?_
      refine xj_iload_n C a_R_enter_75 rfl ?_
      refine xn_ld_5 C a_R_enter_76 (by first | assumption | omega) ?_
      refine xj_topl (hB1.b (by omega)) ?_
      have hset := hR1.settle hT1 (n := st) (by show pg_h R1 < st; omega) (by omega) (pg_b S.1 p)
      refine xn_callV2 C a_R_enter_77 (c_R_settle _ _ _ r hr (pg_h R1) (pg_e R1) st hN1.2.2.1 (by have := hN1.2.2.2.1; omega) (by omega) (by omega) hR1.1.h hR1.1.e (pg_b S.1 p)) mv_R_settle lk_R_250 ⟨rfl, rfl, rfl⟩ (xj_ok11 (by first | assumption | omega)) ⟨by decide, by decide⟩ rfl (Nat.le_of_ble_eq_true rfl) ⟨Nat.le_refl _, Nat.le_refl _⟩ ?_
      rw [e2] at fin0 ⊢
      refine fin0 _ hset (pg_set_num hN1 (by omega)) ⟨fun q hq => ?_, fun q hq => ?_⟩ ?_ hf1.sl _
      · have hq : (pg_set R1 st (pg_b S.1 p)).1 10 q = 1 := hq
        rw [pg_set_at, if_neg (by omega), if_neg (by omega), if_neg (by omega)] at hq
        exact hK1.1 q hq
      · have hq : (pg_set R1 st (pg_b S.1 p)).1 9 q = 1 := hq
        rw [pg_set_at, if_neg (by omega), if_neg (by omega), if_neg (by omega)] at hq
        exact hK1.2 q hq
      · show st ≤ (pg_set R1 st (pg_b S.1 p)).1 2 0
        rw [pg_set_at, if_pos ⟨rfl, rfl⟩]
        exact Nat.le_refl _
