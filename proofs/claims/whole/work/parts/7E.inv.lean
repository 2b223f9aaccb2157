/-! what is new on the board -/
def pg_new (r : Nat) (B B' : pg_B) : Prop := ∀ i, B.1 ≤ i → i < B'.1 → pg_f B' i = r
theorem pg_new.own (r : Nat) (S : pg_S) (k : Nat) (x : Int32) (y : Int64) (z : Int32) : pg_new r S.1 (pg_own r S k x y z).1 := by
  intro i h1 h2
  rw [pg_own_z] at h2
  rw [pg_own_f, if_pos (by omega)]
theorem pg_new.tr {r : Nat} {B B1 B2 : pg_B} (h1 : pg_new r B B1) (e2 : pg_ext B1 B2) (h2 : pg_new r B1 B2) : pg_new r B B2 := by
  intro i i1 i2
  by_cases h : i < B1.1
  · rw [(e2.2 i h).2.1]
    exact h1 i i1 h
  · exact h2 i (by omega) i2
theorem pg_new.rf (r : Nat) (B : pg_B) : pg_new r B B := fun i h1 h2 => absurd h2 (by omega)
theorem pg_rl_new {r : Nat} {S S' : pg_S} (e : pg_rl r S = some S') : pg_new r S.1 S'.1 := by
  unfold pg_rl at e
  rw [Option.or_eq_some_iff] at e
  rcases e with e | ⟨-, e⟩
  · unfold pg_r1 at e
    split at e
    · cases e
    · split at e
      · cases e; exact pg_new.own r _ _ _ _ _
      · cases e
  rw [Option.or_eq_some_iff] at e
  rcases e with e | ⟨-, e⟩
  · unfold pg_r2 at e
    split at e
    · cases e; exact pg_new.own r (S.1, _) _ _ _ _
    · cases e
  rw [Option.or_eq_some_iff] at e
  rcases e with e | ⟨-, e⟩
  · unfold pg_r3 at e
    split at e
    · cases e; exact pg_new.rf r _
    · cases e
  rw [Option.or_eq_some_iff] at e
  rcases e with e | ⟨-, e⟩
  · unfold pg_r4 at e
    simp only at e
    split at e
    · cases e
    · cases e
      have hS2 : ∃ S2 : pg_S, S2 = (if 2 ≤ pg_de S.2 (pg_e S.2 + 1) ∧ pg_wt (S.1, pg_u S.2 3 0 (pg_e S.2 + 1)) (pg_de S.2 (pg_e S.2 + 1) - 2) = true then pg_srv r (S.1, pg_u S.2 3 0 (pg_e S.2 + 1)) (pg_de S.2 (pg_e S.2 + 1) - 2) else (S.1, pg_u S.2 3 0 (pg_e S.2 + 1))) := ⟨_, rfl⟩
      obtain ⟨S2, hS2⟩ := hS2
      rw [← hS2]
      have h2 : pg_new r S.1 S2.1 := by
        rw [hS2]
        split
        · exact pg_new.own r (S.1, _) _ _ _ _
        · exact pg_new.rf r _
      split
      · exact h2.tr (pg_ext.own r S2 _ _ _ _) (pg_new.own r S2 _ _ _ _)
      · exact h2
  rw [Option.or_eq_some_iff] at e
  rcases e with e | ⟨-, e⟩
  · unfold pg_r5 at e
    split at e
    · cases e; exact pg_new.rf r _
    · cases e
  rw [Option.or_eq_some_iff] at e
  rcases e with e | ⟨-, e⟩
  · unfold pg_r6 at e
    split at e
    · cases e
    · cases e; exact pg_new.own r (S.1, _) _ _ _ _
  rw [Option.or_eq_some_iff] at e
  rcases e with e | ⟨-, e⟩
  · unfold pg_r7 at e
    simp only at e
    split at e
    · cases e
    · split at e
      · cases e
      · cases e; exact pg_new.own r _ _ _ _ _
  · unfold pg_r8 at e
    split at e
    · cases e
    · split at e
      · cases e; exact pg_new.own r _ _ _ _ _
      · cases e
theorem pg_rls_new {r : Nat} : ∀ (n : Nat) (S : pg_S), pg_new r S.1 (pg_rls r n S).1
  | 0, S => pg_new.rf r S.1
  | n + 1, S => by
    unfold pg_rls
    cases e : pg_rl r S with
    | none => exact pg_new.rf r S.1
    | some S2 => exact (pg_rl_new e).tr (pg_rls_ext n S2) (pg_rls_new n S2)
/-- a replica at rest -/
def pg_rest (R : pg_R) : Prop := pg_af R = 0 ∧ (pg_vw R = 15 → pg_tm R = 0)
theorem pg_in.tmr {F r : Nat} {S : pg_S} (h : pg_in F r S) : pg_in F r (S.1, pg_u (pg_tmr S) 11 0 0) ∧ pg_rest (pg_u (pg_tmr S) 11 0 0) := by
  obtain ⟨⟨hc, j8⟩, hk⟩ := h
  have h1 : ∀ tm, tm ≤ 32 → pg_in F r (S.1, pg_u (pg_u S.2 5 0 tm) 11 0 0) := fun tm ht => ⟨⟨(hc.tm ht).af (Nat.zero_le 1), j8.same rfl rfl (Nat.le_refl _) (fun _ _ _ => rfl)⟩, hk⟩
  have h2 : pg_in F r (S.1, pg_u S.2 11 0 0) := ⟨⟨hc.af (Nat.zero_le 1), j8.same rfl rfl (Nat.le_refl _) (fun _ _ _ => rfl)⟩, hk⟩
  unfold pg_tmr
  split
  · exact ⟨h1 0 (by decide), rfl, fun _ => rfl⟩
  · rename_i hn
    rw [not_or] at hn
    split
    · exact ⟨h1 _ (hc.2.2.2.2.2.2.2.2.2.2.2.2.1.2.2.2.2.1), rfl, fun h => absurd h hn.1⟩
    · exact ⟨h2, rfl, fun h => absurd h hn.1⟩
/-- a whole run -/
theorem pg_in.run {F r : Nat} (hr : r < 4) {S : pg_S} (h : pg_in F r S) (hz : S.1.1 ≤ 150) : pg_in F r (pg_run r S) ∧ pg_rest (pg_run r S).2 ∧ (pg_run r S).1.1 ≤ S.1.1 + 45 ∧ pg_rok r S ∧ ∀ k, pg_in F r (pg_rls r k S) ∧ (pg_rls r k S).1.1 ≤ S.1.1 + 45 := by
  obtain ⟨q1, q2, q3⟩ := h.start hr (by omega)
  have A := fun n => pg_rls_all hr n S h q1 (by omega)
  obtain ⟨g1, g2, g3⟩ := A 1000
  have ht := g1.tmr
  refine ⟨ht.1, ht.2, by show (pg_rls r 1000 S).1.1 ≤ _; omega, ⟨fun k _ => ?_, g3 q3, ?_⟩, fun k => ⟨(A k).1, by have := (A k).2.1; omega⟩⟩
  · obtain ⟨p1, p2, p3⟩ := A k
    exact p1.1.ok p1.2 (by omega)
  · have hk : pg_ki F (pg_run r S).1 := ht.1.2
    have : (pg_run r S).1.1 ≤ 256 := by show (pg_rls r 1000 S).1.1 ≤ _; omega
    exact ⟨hk.bke, hk.cps this, hk.2.2.2.2.1⟩
theorem pg_run_new (r : Nat) (S : pg_S) : pg_new r S.1 (pg_run r S).1 := pg_rls_new 1000 S
/-! the group -/
def pg_gi (T : pg_T) : Prop := pg_ki T.2.2.2.2 T.1 ∧ T.1.1 ≤ 200 ∧ (∀ r, r < 4 → pg_ji r (pg_sR T r) ∧ pg_rest (T.2.1 r)) ∧ (∀ k, k < 2 → pg_cok T.1 (T.2.2.1 k) ∧ pg_sm (T.2.2.1 k) ≤ T.1.1) ∧ ∀ p, p < 6 → T.2.2.2.1 p ≤ T.1.1
theorem pg_cok.ext {B B' : pg_B} {C : pg_C} (h : pg_cok B C) (he : pg_ext B B') : pg_cok B' C := by
  obtain ⟨h1, h2, h3, h4⟩ := h
  refine ⟨h1, h2, fun i hi => ?_, fun i j hi hj e1 e2 => ?_⟩
  · obtain ⟨g1, g2, t, g3, g4⟩ := h3 i hi
    exact ⟨Nat.lt_of_lt_of_le g1 he.1, (he.2 i g1).1.trans g2, t, g3, (he.2 i g1).2.2.2.1.trans g4⟩
  · have xi := he.2 i (h3 i hi).1
    have xj := he.2 j (h3 j hj).1
    exact h4 i j hi hj (by rw [← xi.2.2.2.1, ← xj.2.2.2.1]; exact e1) (by rw [← xi.2.1, ← xj.2.1]; exact e2)
/-- the board grows, one replica moves -/
theorem pg_gi.putR {T : pg_T} (h : pg_gi T) {r : Nat} {S : pg_S} (hS : pg_in T.2.2.2.2 r S) (hR : pg_rest S.2) (he : pg_ext T.1 S.1) (hn : pg_new r T.1 S.1) (hz : S.1.1 ≤ 200) : pg_gi (pg_putR T r S) := by
  obtain ⟨h1, h2, h3, h4, h5⟩ := h
  refine ⟨hS.2, hz, fun r' hr' => ?_, fun k hk => ⟨(h4 k hk).1.ext he, Nat.le_trans (h4 k hk).2 he.1⟩, fun p hp => Nat.le_trans (h5 p hp) he.1⟩
  by_cases e : r' = r
  · subst e
    show pg_ji r' (S.1, va_up T.2.1 r' S.2 r') ∧ pg_rest (va_up T.2.1 r' S.2 r')
    rw [va_up_self]
    exact ⟨hS.1, hR⟩
  · show pg_ji r' (S.1, va_up T.2.1 r S.2 r') ∧ pg_rest (va_up T.2.1 r S.2 r')
    rw [va_up_ne _ _ e]
    exact ⟨(h3 r' hr').1.grow he (fun i i1 i2 => Or.inl (by rw [hn i i1 i2]; exact fun g => e g.symm)), (h3 r' hr').2⟩
/-- .. by a message that no replica sends of itself -/
theorem pg_gi.post {T : pg_T} (h : pg_gi T) {B' : pg_B} {C' : Nat → pg_C} (hK : pg_ki T.2.2.2.2 B') (he : pg_ext T.1 B') (hn : ∀ r, r < 4 → ∀ i, T.1.1 ≤ i → i < B'.1 → pg_f B' i ≠ r ∨ pg_g B' i = true) (hz : B'.1 ≤ 200) (hC : ∀ k, k < 2 → pg_cok B' (C' k) ∧ pg_sm (C' k) ≤ B'.1) : pg_gi (B', T.2.1, C', T.2.2.2) := by
  obtain ⟨h1, h2, h3, h4, h5⟩ := h
  exact ⟨hK, hz, fun r hr => ⟨(h3 r hr).1.grow he (hn r hr), (h3 r hr).2⟩, hC, fun p hp => Nat.le_trans (h5 p hp) he.1⟩
theorem pg_gi.mk {T : pg_T} (h : pg_gi T) {p : Nat} (hp : T.2.2.2.1 p < T.1.1) : pg_gi (pg_mk T p) := by
  obtain ⟨h1, h2, h3, h4, h5⟩ := h
  refine ⟨h1, h2, h3, h4, fun q hq => ?_⟩
  show va_up T.2.2.2.1 p (T.2.2.2.1 p + 1) q ≤ T.1.1
  by_cases e : q = p
  · subst e; rw [va_up_self]; exact hp
  · rw [va_up_ne _ _ e]; exact h5 q hq
theorem pg_ans_ok {B : pg_B} {C C' : pg_C} {m k : Nat} (h : pg_cok B C) (hm : m < B.1) (e : pg_ans B C m k = some C') : pg_cok B C' ∧ pg_sm C' = pg_sm C := by
  obtain ⟨h1, h2, h3, h4⟩ := h
  have key : ∀ (op : Nat) (y : Int32), (op = 0 ∨ op = pg_sm C) → pg_k B m = 4 → pg_b B m = lN (pg_op C) → ¬ pg_op C = 0 → ¬ (List.range B.1).any (fun i => pg_tk C i == 1 && (pg_b B i == pg_b B m && pg_f B i == pg_f B m)) = true → pg_cok B (fun t' i' => if t' = 1 ∧ i' = 0 then op else if t' = 2 ∧ i' = m then 1 else C.1 t' i', y) := by
    intro op y ho hk hb h0 hn
    have tk : ∀ i, pg_tk (fun t' i' => if t' = 1 ∧ i' = 0 then op else if t' = 2 ∧ i' = m then 1 else C.1 t' i', y) i = if i = m then 1 else pg_tk C i := by
      intro i
      show (if 2 = 1 ∧ i = 0 then op else if 2 = 2 ∧ i = m then 1 else pg_tk C i) = _
      simp
    have no : ∀ i, pg_tk C i = 1 → pg_b B i = pg_b B m → pg_f B i = pg_f B m → False := by
      intro i i1 i2 i3
      apply hn
      rw [List.any_eq_true]
      exact ⟨i, List.mem_range.mpr (h3 i i1).1, by simp [i1, i2, i3]⟩
    refine ⟨h1, ?_, fun i hi => ?_, fun i j hi hj e1 e2 => ?_⟩
    · exact ho
    · rw [tk] at hi
      by_cases e : i = m
      · rw [e]
        refine ⟨hm, hk, pg_op C, ?_, hb⟩
        show pg_op C ≤ pg_sm C
        omega
      · rw [if_neg e] at hi
        exact h3 i hi
    · rw [tk] at hi hj
      by_cases e : i = m
      · by_cases e' : j = m
        · rw [e, e']
        · rw [if_neg e'] at hj
          subst e
          exact (no j hj e1.symm e2.symm).elim
      · rw [if_neg e] at hi
        by_cases e' : j = m
        · subst e'
          exact (no i hi e1 e2).elim
        · rw [if_neg e'] at hj
          exact h4 i j hi hj e1 e2
  unfold pg_ans at e
  split at e
  · cases e
  · rename_i hg
    rw [not_or, not_or, not_or] at hg
    have g1 : pg_k B m = 4 := Classical.byContradiction hg.1
    have g4 : pg_b B m = lN (pg_op C) := Classical.byContradiction hg.2.2.2
    split at e
    · cases e
    · rename_i hn
      split at e
      · cases e
        exact ⟨key 0 _ (Or.inl rfl) g1 g4 hg.2.2.1 hn, rfl⟩
      · cases e
        have : pg_cw C 2 m 1 C.2 = (fun t' i' => if t' = 1 ∧ i' = 0 then pg_op C else if t' = 2 ∧ i' = m then 1 else C.1 t' i', C.2) := by
          unfold pg_cw
          refine Prod.ext (funext (fun t => funext (fun i => ?_))) rfl
          show (if t = 2 ∧ i = m then 1 else C.1 t i) = (if t = 1 ∧ i = 0 then pg_op C else if t = 2 ∧ i = m then 1 else C.1 t i)
          by_cases e : t = 1 ∧ i = 0
          · rw [if_pos e, if_neg (by omega), e.1, e.2]
          · rw [if_neg e]
        rw [this]
        exact ⟨key _ _ h2 g1 g4 hg.2.2.1 hn, rfl⟩
theorem pg_gi.putC {T : pg_T} (h : pg_gi T) {k m : Nat} {C : pg_C} (hm : m < T.1.1) (e : pg_ans T.1 (T.2.2.1 k) m k = some C) : k < 2 → pg_gi (pg_putC T k C) := by
  intro hk2
  obtain ⟨h1, h2, h3, h4, h5⟩ := h
  refine ⟨h1, h2, h3, fun k' hk' => ?_, h5⟩
  show pg_cok T.1 (va_up T.2.2.1 k C k') ∧ pg_sm (va_up T.2.2.1 k C k') ≤ T.1.1
  by_cases e' : k' = k
  · subst e'
    rw [va_up_self]
    obtain ⟨q1, q2⟩ := pg_ans_ok (h4 k' hk').1 hm e
    exact ⟨q1, by rw [q2]; exact (h4 k' hk').2⟩
  · rw [va_up_ne _ _ e']
    exact h4 k' hk'
theorem pg_gi.give {T T' : pg_T} (h : pg_gi T) {m p : Nat} (hz : T.1.1 < 150) (hm : m < T.1.1) (hp : p < 6) (e : pg_give T m p = some T') : pg_gi T' := by
  unfold pg_give at e
  split at e
  · rename_i h4
    cases e2 : pg_ans T.1 (T.2.2.1 (p - 4)) m (p - 4) with
    | none => rw [e2] at e; cases e
    | some C =>
      rw [e2] at e
      cases e
      exact h.putC hm e2 (by omega)
  · rename_i h4
    split at e
    · cases e
    · cases e2 : pg_takes p (pg_sR T p) m with
      | none => rw [e2] at e; cases e
      | some S =>
        rw [e2] at e
        cases e
        have hin : pg_in T.2.2.2.2 p (pg_sR T p) := ⟨(h.2.2.1 p (by omega)).1, h.1⟩
        have hS := hin.takes (show T.1.1 ≤ 252 by omega) hm e2
        have eB : S.1 = T.1 := pg_takes_B e2
        obtain ⟨q1, q2, q3, q4, -⟩ := hS.run (by omega) (by rw [eB]; omega)
        rw [eB] at q3
        have hx := pg_run_ext p S
        have hn := pg_run_new p S
        rw [eB] at hx hn
        exact h.putR q1 q2 hx hn (by omega)
theorem pg_gi.I1 : pg_I1 pg_gi := by
  intro T h
  have hin : ∀ r, r < 4 → pg_in T.2.2.2.2 r (pg_sR T r) := fun r hr => ⟨(h.2.2.1 r hr).1, h.1⟩
  refine ⟨⟨fun r hr => ⟨(h.2.2.1 r hr).1.1.1, (h.2.2.1 r hr).1.num (show T.1.1 ≤ 256 by have := h.2.1; omega)⟩, fun k hk => (h.2.2.2.1 k hk).1, h.1.2.2.1, h.2.2.2.2⟩, fun hz => ⟨fun r m hr hm _ => ⟨?_, fun S e => ?_⟩, fun m p T' hm hp e => h.give hz hm hp e⟩, fun p hp hlt => h.mk hlt⟩
  · exact (hin r hr).1.tok (hin r hr).2 (show T.1.1 ≤ 252 by omega) hm
  · have hS := (hin r hr).takes (show T.1.1 ≤ 252 by omega) hm e
    have eB : S.1 = T.1 := pg_takes_B e
    exact (hS.run hr (by rw [eB]; omega)).2.2.2.1
/-! the other calls -/
theorem pg_gi.clk {T : pg_T} (h : pg_gi T) {r : Nat} (hr : r < 4) (hz : T.1.1 < 150) (ht : ¬ pg_tm (T.2.1 r) = 0) : pg_in T.2.2.2.2 r (pg_clk r (pg_sR T r)) ∧ pg_gi (pg_putR T r (pg_run r (pg_clk r (pg_sR T r)))) ∧ pg_rok r (pg_clk r (pg_sR T r)) ∧ (pg_clk r (pg_sR T r)).1.1 ≤ T.1.1 + 1 := by
  have hin : pg_in T.2.2.2.2 r (pg_sR T r) := ⟨(h.2.2.1 r hr).1, h.1⟩
  have hrest := (h.2.2.1 r hr).2
  have hc1 := hin.1.1.2.2.2.2.2.2.2.2.2.2.2.2.1
  have htm : ∀ tm, tm ≤ 32 → pg_in T.2.2.2.2 r (T.1, pg_u (T.2.1 r) 5 0 tm) := fun tm h32 => ⟨⟨hin.1.1.tm h32, hin.1.2.same rfl rfl (Nat.le_refl _) (fun _ _ _ => rfl)⟩, hin.2⟩
  have hq : pg_in T.2.2.2.2 r (pg_clk r (pg_sR T r)) ∧ pg_ext T.1 (pg_clk r (pg_sR T r)).1 ∧ pg_new r T.1 (pg_clk r (pg_sR T r)).1 ∧ (pg_clk r (pg_sR T r)).1.1 ≤ T.1.1 + 1 := by
    unfold pg_clk
    split
    · have hv : pg_vw (T.2.1 r) < 15 := by
        have h1 : pg_vw (T.2.1 r) ≤ 15 := hc1.1
        rcases Nat.lt_or_eq_of_le h1 with g | g
        · exact g
        · exact absurd (hrest.2 g) ht
      refine ⟨(htm 0 (by decide)).beg hr (show T.1.1 ≤ 252 by omega) (show pg_vw (T.2.1 r) < pg_vw (T.2.1 r) + 1 by omega) (show pg_vw (T.2.1 r) + 1 ≤ 15 by omega), ?_, ?_, Nat.le_refl _⟩
      · exact pg_ext.own r (T.1, _) _ _ _ _
      · exact pg_new.own r (T.1, _) _ _ _ _
    · refine ⟨htm _ ?_, pg_ext.rf _, pg_new.rf _ _, Nat.le_succ _⟩
      have h1 : pg_tm (T.2.1 r) ≤ 32 := hc1.2.2.1
      show pg_tm (T.2.1 r) - 1 ≤ 32
      omega
  obtain ⟨q1, q2, q3, q4⟩ := hq
  obtain ⟨g1, g2, g3, g4, -⟩ := q1.run hr (by omega)
  exact ⟨q1, h.putR g1 g2 (q2.tr (pg_run_ext _ _)) (q3.tr (pg_run_ext _ _) (pg_run_new _ _)) (by omega), g4, q4⟩
