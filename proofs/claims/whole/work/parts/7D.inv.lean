theorem pg_set_e (R : pg_R) (n : Nat) (x : Int64) : pg_e (pg_set R n x) = max (pg_e R) n := by
  rw [show pg_e (pg_set R n x) = (pg_set R n x).1 3 0 from rfl, pg_set_at, if_neg (by omega)]
  by_cases h : n ≤ pg_e R
  · rw [if_neg (by omega), if_neg (by omega)]; show pg_e R = _; omega
  · rw [if_pos (by omega)]; omega
theorem pg_set_de (R : pg_R) (n : Nat) (x : Int64) (k : Nat) : pg_de (pg_set R n x) k = if k ≤ n then 0 else pg_de R k := by
  rw [show pg_de (pg_set R n x) k = (pg_set R n x).1 7 k from rfl, pg_set_at, if_neg (by omega), if_neg (by omega)]
  by_cases g : k ≤ n
  · rw [if_pos ⟨Or.inr (Or.inl rfl), g⟩, if_pos g]
  · rw [if_neg (by omega), if_neg g]
theorem pg_ent0_is (S : pg_S) (m : Nat) : pg_e S.2 ≤ pg_e (pg_ent0 S m) ∧ (∀ k, pg_de (pg_ent0 S m) k = 0 ∨ pg_de (pg_ent0 S m) k = pg_de S.2 k) ∧ (∀ k, pg_h (pg_ent0 S m) < k → pg_de (pg_ent0 S m) k = pg_de S.2 k) ∧ (∀ k, pg_no (pg_ent0 S m) k = pg_no S.2 k) := by
  unfold pg_ent0
  split
  · refine ⟨?_, fun k => ?_, fun k hk => ?_, fun k => ?_⟩
    · rw [pg_set_e]
      show pg_e S.2 ≤ max (pg_e S.2) _
      omega
    · rw [pg_set_de]
      split
      · exact Or.inl rfl
      · exact Or.inr rfl
    · rw [pg_set_h] at hk
      rw [pg_set_de, if_neg (by omega)]
      rfl
    · exact pg_set_oth _ _ _ 9 k (by decide) (by decide) (by decide) (by decide) (by decide)
  · exact ⟨Nat.le_refl _, fun k => Or.inr rfl, fun k _ => rfl, fun k => rfl⟩
theorem pg_le.r7 {F b r : Nat} {S S' : pg_S} (h : pg_in F r S) (hi : pg_ri b r S) (hz : S.1.1 ≤ 251) (hr : r < 4) (e : pg_r7 r S = some S') : pg_le b r S S' := by
  have hs := h.sm (by omega)
  have hin := h.r7 hr (by omega) e
  have hb := hi.1
  have hkn := fun q => (h.1.1.2.1 q).2
  have ho7 := h.1.o7 h.2 (by omega)
  have hz' : S'.1.1 = S.1.1 + 1 := by
    unfold pg_r7 at e
    simp only at e
    split at e
    · cases e
    · split at e
      · cases e
      · cases e; rfl
  have hs' := hin.sm (by omega)
  obtain ⟨a1, a2, a3, a4, a5, a6, a7, a8, a9, b1, b2, b3, c1, c2, c3, d1, d2, d3, e1, e2, e3⟩ := h.1.1
  unfold pg_r7 at e
  simp only at e
  split at e
  · cases e
  · rename_i hn
    rw [not_or] at hn
    split at e
    · cases e
    · rename_i ht
      rw [not_or] at ht
      have hch : pg_ch S.2 = 1 := by have := c1.2.1; omega
      have hp : pg_vw S.2 % 4 = r := by omega
      generalize (pg_vts r S 4).1.toInt64 = y at e
      have hT : ∃ T, T = pg_own r S 6 (nI (pg_vw S.2)) y (pg_od S.1 y) := ⟨_, rfl⟩
      obtain ⟨T, hT⟩ := hT
      rw [← hT] at e
      cases e
      have hI := pg_ent_eI T S.1.1 (by rw [hT]; exact hkn)
      have ht0 := pg_ent0_is T S.1.1
      generalize hR : pg_ent T S.1.1 = R at *
      have ea : (pg_a T.1 S.1.1).toInt.toNat = pg_vw S.2 := by
        have := c1.1
        rw [hT, pg_own_a, if_pos rfl, xp_nat (by omega)]
      have Fv : pg_vw R = pg_vw S.2 := by
        rw [show pg_vw R = pg_vw (pg_ent0 T S.1.1) from hI.1 0 0 (by decide) (by decide)]
        unfold pg_ent0
        rw [ea]
        split
        · exact pg_set_oth _ _ _ 0 0 (by decide) (by decide) (by decide) (by decide) (by decide)
        · rfl
      have Fc : pg_ch R = 0 := by
        rw [show pg_ch R = pg_ch (pg_ent0 T S.1.1) from hI.1 1 0 (by decide) (by decide)]
        unfold pg_ent0
        split
        · exact pg_set_oth _ _ _ 1 0 (by decide) (by decide) (by decide) (by decide) (by decide)
        · rfl
      have Fh0 : pg_h R = pg_h (pg_ent0 T S.1.1) := hI.1 2 0 (by decide) (by decide)
      have Fh : pg_h S.2 ≤ pg_h R := by
        rw [Fh0]
        unfold pg_ent0
        split
        · rename_i g
          rw [pg_set_h]
          have : pg_h T.2 = pg_h S.2 := by rw [hT]; rfl
          omega
        · rw [hT]; exact Nat.le_refl _
      have Fe : pg_e S.2 ≤ pg_e R := by
        rw [show pg_e R = pg_e (pg_ent0 T S.1.1) from hI.1 3 0 (by decide) (by decide)]
        have : pg_e T.2 = pg_e S.2 := by rw [hT]; rfl
        rw [← this]
        exact ht0.1
      have Fde : ∀ k, pg_de R k = pg_de (pg_ent0 T S.1.1) k := fun k => hI.1 7 k (by decide) (by decide)
      have Tde : ∀ k, pg_de T.2 k = pg_de S.2 k := fun k => by rw [hT]; rfl
      have Fn : ∀ k, pg_no R k = pg_no T.2 k := fun k => by
        rw [show pg_no R k = pg_no (pg_ent0 T S.1.1) k from hI.1 9 k (by decide) (by decide)]
        exact ht0.2.2.2 k
      have Fn' : ∀ k, pg_no R k = pg_no (pg_own r S 6 (nI (pg_vw S.2)) y (pg_od S.1 y)).2 k := fun k => by rw [Fn, hT]
      have hs1 : pg_h R ≤ pg_e R := hs'.1
      have hs3 : 3 * pg_e R ≤ S.1.1 + 1 := by
        have := hs'.2.2
        rw [hz'] at this
        exact this
      have eV : (pg_vcs (T.1, R)).length ≤ (pg_vcs S).length := by rw [hT]; exact pg_vcs_own (by decide) Fn' Fv
      have eG : pg_fG b (T.1, R) ≤ pg_fG b S := by rw [hT]; exact pg_fG_own (by omega) Fn' Fh (by omega) (fun g => by omega) (by omega)
      have eQ : pg_fQ b r (T.1, R) ≤ pg_fQ b r S := by rw [hT]; exact pg_fQ_own Fn' Fv
      have eP : pg_fP b r (T.1, R) = 0 := by
        unfold pg_fP
        rw [if_neg]
        rintro ⟨-, g⟩
        exact g (by show pg_vw R % 4 = r; rw [Fv]; exact hp)
      have eC : pg_fC b r (T.1, R) ≤ 8 := by
        unfold pg_fC
        show (if pg_ch R = 1 then 9 else if pg_vw R % 4 = r then max (pg_h R) (b + 4) + 5 - pg_nxt R else 0) ≤ 8
        rw [Fc, Fv, if_neg (by decide), if_pos hp]
        have := (pg_nxt_is R).1
        omega
      have eC0 : pg_fC b r S = 9 := by
        unfold pg_fC
        rw [if_pos hch]
      have eD : pg_fD b (T.1, R) ≤ pg_fD b S := by
        unfold pg_fD
        refine xp_len_mono (Nat.le_refl 4) (fun j hj g => ?_)
        simp only [Bool.and_eq_true, beq_iff_eq, decide_eq_true_eq] at g ⊢
        refine ⟨by omega, ?_⟩
        have g2 := g.2
        rw [Fde, ht0.2.2.1 _ (by rw [← Fh0]; exact g.1), Tde] at g2
        exact g2
      refine pg_le.of (d := 1) ⟨by show b ≤ pg_h R; omega, fun k hk => ?_, fun k1 k2 => absurd (show pg_vw R % 4 = r by rw [Fv]; exact hp) k2, ?_, ?_⟩ (Nat.le_of_eq hz') ?_ ?_ (Or.inl (by decide))
      · show pg_de R k = 0
        rw [Fde]
        rcases ht0.2.1 k with g | g
        · exact g
        · rw [g, Tde]; exact hi.2.1 k hk
      · intro i n q1 q2 q3 q4 q5 q6
        have q1 : pg_no R i = 1 := q1
        have q4 : pg_a T.1 i = nI (pg_vw R) := q4
        rw [Fn] at q1
        rw [Fv] at q4
        have := hi.own (k := 6) (x := nI (pg_vw S.2)) (y := y) (z := pg_od S.1 y) (fun g => by omega)
        rw [← hT] at this
        exact this.2.2.2.1 i n q1 q2 q3 (by rw [q4, hT]; rfl) q5 q6
      · intro i q1 q2 q3
        have q1 : pg_no R i = 1 := q1
        rw [Fn] at q1
        have := hi.own (k := 6) (x := nI (pg_vw S.2)) (y := y) (z := pg_od S.1 y) (fun g => by omega)
        rw [← hT] at this
        exact this.2.2.2.2 i q1 q2 q3
      · rw [eP, eC0]
        show 1 + (_ + (0 + _ + 2 * (b + 4 - pg_e R))) ≤ _
        omega
      · show _ + (400 - pg_h R) ≤ _
        omega
theorem pg_le.r8 {F b r : Nat} {S S' : pg_S} (h : pg_in F r S) (hi : pg_ri b r S) (hz : S.1.1 ≤ 252) (e : pg_r8 r S = some S') : pg_le b r S S' := by
  have hs := h.sm hz
  have hb := hi.1
  have hch1 := h.1.1.2.2.2.2.2.2.2.2.2.2.2.2.1.2.1
  unfold pg_r8 at e
  split at e
  · cases e
  · rename_i hn
    rw [not_or, not_or] at hn
    cases e2 : (List.range S.1.1).find? (fun m => !pg_acd S.2 m && pg_wt S m) with
    | none => rw [e2] at e; cases e
    | some m =>
      rw [e2] at e
      cases e
      have hch : pg_ch S.2 = 0 := by omega
      have hp : pg_vw S.2 % 4 = r := by omega
      obtain ⟨n1, n2, n3⟩ := pg_nxt_is S.2
      generalize hN : pg_nxt S.2 = N at *
      have hT : ∃ T, T = pg_own r S 1 (nI (pg_vw S.2)) (lN N) (nI m) := ⟨_, rfl⟩
      obtain ⟨T, hT⟩ := hT
      rw [← hT]
      have hac : ∀ k, pg_ac (pg_u T.2 6 N (m + 2)) k = if k = N then m + 2 else pg_ac S.2 k := by
        intro k
        rw [hT]
        show (if 6 = 6 ∧ k = N then _ else pg_ac S.2 k) = _
        simp
      have hri := hi.own (k := 1) (x := nI (pg_vw S.2)) (y := lN N) (z := nI m) (fun g => by omega)
      rw [← hT] at hri
      have Fh : pg_h (pg_u T.2 6 N (m + 2)) = pg_h S.2 := by rw [hT]; rfl
      have Fv : pg_vw (pg_u T.2 6 N (m + 2)) = pg_vw S.2 := by rw [hT]; rfl
      have Fc : pg_ch (pg_u T.2 6 N (m + 2)) = pg_ch S.2 := by rw [hT]; rfl
      have Fe : pg_e (pg_u T.2 6 N (m + 2)) = pg_e S.2 := by rw [hT]; rfl
      have Fn : ∀ k, pg_no (pg_u T.2 6 N (m + 2)) k = pg_no (pg_own r S 1 (nI (pg_vw S.2)) (lN N) (nI m)).2 k := by rw [hT]; exact fun _ => rfl
      have eV : (pg_vcs (T.1, pg_u T.2 6 N (m + 2))).length ≤ (pg_vcs S).length := by
        rw [hT] at Fn Fv ⊢
        exact pg_vcs_own (by decide) Fn Fv
      have eG : pg_fG b (T.1, pg_u T.2 6 N (m + 2)) ≤ pg_fG b S := by
        rw [hT] at Fn Fh ⊢
        exact pg_fG_own hz Fn (Nat.le_of_eq Fh.symm) (by omega) (fun g => by omega) (by omega)
      have eQ : pg_fQ b r (T.1, pg_u T.2 6 N (m + 2)) ≤ pg_fQ b r S := by
        rw [hT] at Fn Fv ⊢
        exact pg_fQ_own Fn Fv
      have eP : pg_fP b r (T.1, pg_u T.2 6 N (m + 2)) ≤ pg_fP b r S := by
        rw [hT] at Fv Fc ⊢
        exact pg_fP_own Fv Fc
      have eC : pg_fC b r (T.1, pg_u T.2 6 N (m + 2)) + 1 ≤ pg_fC b r S := by
        unfold pg_fC
        show (if pg_ch (pg_u T.2 6 N (m + 2)) = 1 then 9 else if pg_vw (pg_u T.2 6 N (m + 2)) % 4 = r then max (pg_h (pg_u T.2 6 N (m + 2))) (b + 4) + 5 - pg_nxt (pg_u T.2 6 N (m + 2)) else 0) + 1 ≤ _
        rw [Fc, Fv, Fh, hch, if_neg (show ¬ (0 : Nat) = 1 by decide), if_neg (show ¬ (0 : Nat) = 1 by decide), if_pos hp, if_pos hp, hN]
        have := pg_nxt_ge (R := pg_u T.2 6 N (m + 2)) (k := N) (by rw [Fh]; omega) (by rw [Fh]; omega) (by rw [hac, if_pos rfl]; omega)
        omega
      have eD : pg_fD b (T.1, pg_u T.2 6 N (m + 2)) = pg_fD b S := by rw [hT]; rfl
      refine pg_le.of (d := 1) ⟨hri.1, hri.2.1, fun k1 k2 => absurd (show pg_vw (pg_u T.2 6 N (m + 2)) % 4 = r by rw [Fv]; exact hp) k2, hri.2.2.2⟩ (by rw [hT]; exact Nat.le_refl _) ?_ ?_ (Or.inl (by decide))
      · show 1 + (_ + (_ + _ + 2 * (b + 4 - pg_e (pg_u T.2 6 N (m + 2))))) ≤ _
        rw [Fe]
        omega
      · rw [eD]
        show _ + (400 - pg_h (pg_u T.2 6 N (m + 2))) ≤ _
        rw [Fh]
        exact Nat.le_refl _
theorem pg_le.rl {F b r : Nat} (hr : r < 4) {S S' : pg_S} (h : pg_in F r S) (hi : pg_ri b r S) (hz : S.1.1 ≤ 251) (e : pg_rl r S = some S') : pg_le b r S S' := by
  unfold pg_rl at e
  rw [Option.or_eq_some_iff] at e
  rcases e with e | ⟨-, e⟩
  · exact pg_le.r1 h hi (by omega) e
  rw [Option.or_eq_some_iff] at e
  rcases e with e | ⟨-, e⟩
  · exact pg_le.r2 h hi (by omega) e
  rw [Option.or_eq_some_iff] at e
  rcases e with e | ⟨-, e⟩
  · exact pg_le.r3 h hi (by omega) e
  rw [Option.or_eq_some_iff] at e
  rcases e with e | ⟨-, e⟩
  · exact pg_le.r4 h hi hz e
  rw [Option.or_eq_some_iff] at e
  rcases e with e | ⟨-, e⟩
  · exact pg_le.r5 h hi (by omega) e
  rw [Option.or_eq_some_iff] at e
  rcases e with e | ⟨-, e⟩
  · exact pg_le.r6 h hi (by omega) e
  rw [Option.or_eq_some_iff] at e
  rcases e with e | ⟨-, e⟩
  · exact pg_le.r7 h hi hz hr e
  · exact pg_le.r8 h hi (by omega) e
/-- all the rules -/
theorem pg_rls_all {F b r : Nat} (hr : r < 4) : ∀ (n : Nat) (S : pg_S), pg_in F r S → pg_ri b r S → S.1.1 + pg_ph b r S ≤ 200 → pg_in F r (pg_rls r n S) ∧ (pg_rls r n S).1.1 ≤ S.1.1 + pg_ph b r S ∧ (pg_ps b r S ≤ n → pg_rl r (pg_rls r n S) = none)
  | 0, S, h, hi, hz => by
    refine ⟨h, Nat.le_add_right _ _, fun hn => ?_⟩
    cases e : pg_rl r (pg_rls r 0 S) with
    | none => rfl
    | some S' =>
      have := (pg_le.rl hr h hi (by omega) e).2.2
      omega
  | n + 1, S, h, hi, hz => by
    unfold pg_rls
    cases e : pg_rl r S with
    | none => exact ⟨h, Nat.le_add_right _ _, fun _ => e⟩
    | some S' =>
      obtain ⟨q1, q2, q3⟩ := pg_le.rl hr h hi (by omega) e
      obtain ⟨g1, g2, g3⟩ := pg_rls_all hr n S' (h.rl hr (by omega) e) q1 (by omega)
      exact ⟨g1, by show (pg_rls r n S').1.1 ≤ _; omega, fun hn => g3 (by omega)⟩
theorem xp_c_le4 (P : Nat → Bool) : xp_c P 4 ≤ 4 := xp_c_le P 4
/-- at the start of a run -/
theorem pg_in.start {F r : Nat} {S : pg_S} (h : pg_in F r S) (hr : r < 4) (hz : S.1.1 ≤ 252) : pg_ri (pg_h S.2) r S ∧ pg_ph (pg_h S.2) r S ≤ 45 ∧ pg_ps (pg_h S.2) r S ≤ 1000 := by
  have hs := h.sm hz
  have hwf := h.2.1
  obtain ⟨a1, a2, a3, a4, a5, a6, a7, a8, a9, b1, b2, b3, c1, c2, c3, d1, d2, d3, e1, e2, e3⟩ := h.1.1
  have hV : (pg_vcs S).length ≤ 3 := by
    rw [← pg_vcs_len hwf a6 b1, xp_c4]
    have hf : xp_jp S r = false := by
      cases e : xp_jp S r
      · rfl
      · obtain ⟨x, x1, x2⟩ := xp_jp_iff.mp e
        obtain ⟨y1, y2, y3, y4⟩ := pg_lvc_some x1
        exact absurd x2 (b1 x y1 y2 y3 y4)
    rcases (show r = 0 ∨ r = 1 ∨ r = 2 ∨ r = 3 by omega) with rfl | rfl | rfl | rfl <;> rw [hf] <;> simp <;> split <;> split <;> split <;> omega
  have hG : pg_fG (pg_h S.2) S ≤ 4 := by unfold pg_fG; split <;> omega
  have hC : pg_fC (pg_h S.2) r S + pg_fP (pg_h S.2) r S ≤ 9 := by
    unfold pg_fC pg_fP
    have := (pg_nxt_is S.2).1
    have h4 := xp_c_le4 (fun j => !pg_sent S.1 r 2 (pg_vw S.2) (pg_h S.2 + 1 + j))
    by_cases g1 : pg_ch S.2 = 1
    · rw [if_pos g1, if_neg (by omega)]
      omega
    · rw [if_neg g1]
      by_cases g2 : pg_vw S.2 % 4 = r
      · rw [if_pos g2, if_neg (fun g => g.2 g2)]
        omega
      · rw [if_neg g2, if_pos ⟨by have := c1.2.1; omega, g2⟩]
        omega
  have hQ : pg_fQ (pg_h S.2) r S ≤ 4 := xp_c_le4 _
  have hD : pg_fD (pg_h S.2) S ≤ 4 := xp_c_le4 _
  have hph : pg_ph (pg_h S.2) r S ≤ 45 := by unfold pg_ph; omega
  refine ⟨⟨Nat.le_refl _, fun n hn => (c3.1 n hn).2.1, fun _ _ n hn => (c3.1 n hn).1, fun i n q1 q2 q3 q4 q5 q6 => ?_, fun i q1 q2 q3 => ?_⟩, hph, by unfold pg_ps; omega⟩
  · exact Classical.byContradiction (fun g => c3.2 i n q1 q3 q4 q5 (by omega) q6)
  · have hi := a1.2 i q1
    obtain ⟨n, n1, n2⟩ := e3 i hi q3 ((a3 i hi q3).mp q1) q2
    exact ⟨n, by omega, n2⟩
