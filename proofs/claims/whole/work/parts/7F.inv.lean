/-! the calls keep it -/
theorem xp_64 : ∀ k, k < 4 → ∀ v, v < 16 → nI 16 * nI k + nI v = nI (16 * k + v) := by decide +kernel
theorem pg_src_old {B B' : pg_B} {i n x : Nat} (h : pg_src B i n x) : pg_k B i = 1 ∨ pg_k B i = 6 := pg_src_no h
theorem pg_gi.submit {T : pg_T} (h : pg_gi T) (cl op key val : Int32) : pg_gi (pg_submit T cl op key val).2 := by
  unfold pg_submit
  split
  · rename_i hc
    obtain ⟨⟨c1, c2, c3, c4⟩, h0, hz⟩ := hc
    obtain ⟨k, k1, rfl, k3⟩ := xp_isS (by decide) c1
    obtain ⟨o, o1, rfl, o3⟩ := xp_isS (by decide) c2
    obtain ⟨y, y1, rfl, y3⟩ := xp_isS (by decide) c3
    obtain ⟨w, w1, rfl, w3⟩ := xp_isS (by decide) c4
    rw [k3] at h0 ⊢
    have hsm := (h.2.2.2.1 k k1).2
    have he := pg_ext.send T.1 0 (4 + k) (nI (pg_sm (T.2.2.1 k) + 1)) (nI o).toInt64 (nI 16 * nI y + nI w) false
    refine h.post (h.1.send ?_) he (fun r hr i i1 i2 => ?_) (by show T.1.1 + 1 ≤ 200; omega) (fun k' hk' => ?_)
    · refine ⟨by omega, by omega, by omega, fun _ => ⟨⟨_, by omega, rfl⟩, ⟨o, o1, nI_l (by omega)⟩, ⟨16 * y + w, by omega, xp_64 y y1 w w1⟩⟩, fun h => (by cases h), fun h => by omega, fun h => by omega, fun _ h => by omega, fun _ h => by omega, fun _ i n q q' _ _ _ _ _ h => ?_⟩
      have := pg_src_no h
      rw [pg_send_k, if_pos rfl] at this
      omega
    · rw [pg_send_z] at i2
      rw [pg_send_f, if_pos (by omega)]
      exact Or.inl (by omega)
    · show pg_cok _ (va_up T.2.2.1 k (pg_cw (pg_cw (T.2.2.1 k) 0 0 (pg_sm (T.2.2.1 k) + 1) (T.2.2.1 k).2) 1 0 (pg_sm (T.2.2.1 k) + 1) (T.2.2.1 k).2) k') ∧ pg_sm (va_up T.2.2.1 k (pg_cw (pg_cw (T.2.2.1 k) 0 0 (pg_sm (T.2.2.1 k) + 1) (T.2.2.1 k).2) 1 0 (pg_sm (T.2.2.1 k) + 1) (T.2.2.1 k).2) k') ≤ T.1.1 + 1
      by_cases e : k' = k
      · subst e
        rw [va_up_self]
        obtain ⟨g1, g2, g3, g4⟩ := (h.2.2.2.1 k' k1).1.ext he
        refine ⟨⟨show pg_sm (T.2.2.1 k') + 1 < 256 by omega, Or.inr rfl, fun i hi => ?_, g4⟩, Nat.succ_le_succ hsm⟩
        obtain ⟨f1, f2, t, f3, f4⟩ := g3 i hi
        exact ⟨f1, f2, t, Nat.le_succ_of_le f3, f4⟩
      · rw [va_up_ne _ _ e]
        exact ⟨(h.2.2.2.1 k' hk').1.ext he, Nat.le_succ_of_le (h.2.2.2.1 k' hk').2⟩
  · exact h
theorem pg_gi.corrupt {T : pg_T} (h : pg_gi T) (r : Int32) : pg_gi (pg_corrupt T r).2 := by
  unfold pg_corrupt
  split
  · rename_i hc
    obtain ⟨j, j1, rfl, j3⟩ := xp_isS (by decide) hc.1
    rw [j3]
    obtain ⟨⟨k1, k2, k3, k4, k5, k6, k7, k8, k9, kA⟩, h2, h3, h4, h5⟩ := h
    refine ⟨⟨k1, k2, show j + 1 ≤ 4 by omega, fun i i1 i2 => ?_, k5, k6, k7, k8, k9, kA⟩, h2, h3, h4, h5⟩
    have := k4 i i1 i2
    rw [hc.2] at this
    omega
  · exact h
theorem pg_gi.forged {T : pg_T} (h : pg_gi T) {k : Nat} (hk : 1 ≤ k ∧ k < 8) {x : Int32} {y : Int64} {z : Int32} (h6 : k = 6 → ∃ t : Int32, y = t.toInt64) (h7 : k = 7 → z = 0) (hF : ¬ T.2.2.2.2 = 0) : pg_ki T.2.2.2.2 (pg_send T.1 k (T.2.2.2.2 - 1) x y z true) := by
  have h4 := h.1.2.2.1
  exact h.1.send ⟨by omega, by omega, by omega, fun h => by omega, fun _ => by omega, h6, h7, fun h => (by cases h), fun h => (by cases h), fun h => (by cases h)⟩
theorem pg_gi.fpost {T : pg_T} (h : pg_gi T) {k : Nat} (hk : 1 ≤ k ∧ k < 8) {x : Int32} {y : Int64} {z : Int32} (h6 : k = 6 → ∃ t : Int32, y = t.toInt64) (h7 : k = 7 → z = 0) : pg_gi (pg_post T k x y z).2 := by
  unfold pg_post
  split
  · rename_i hc
    have he := pg_ext.send T.1 k (T.2.2.2.2 - 1) x y z true
    refine pg_gi.post (C' := T.2.2.1) h (h.forged hk h6 h7 hc.1) he (fun r hr i i1 i2 => ?_) (by show T.1.1 + 1 ≤ 200; omega) (fun k' hk' => ⟨(h.2.2.2.1 k' hk').1.ext he, Nat.le_succ_of_le (h.2.2.2.1 k' hk').2⟩)
    rw [pg_send_z] at i2
    rw [pg_send_g, if_pos (by omega)]
    exact Or.inr rfl
  · exact h
theorem pg_gi.bok {T : pg_T} (h : pg_gi T) {k : Nat} (hk : 1 ≤ k ∧ k < 8) {x : Int32} {y : Int64} {z : Int32} (h6 : k = 6 → ∃ t : Int32, y = t.toInt64) (h7 : k = 7 → z = 0) (hF : ¬ T.2.2.2.2 = 0) (hz : T.1.1 < 150) : pg_bok (pg_send T.1 k (T.2.2.2.2 - 1) x y z true) := by
  have hk := h.forged hk h6 h7 hF (x := x)
  exact ⟨hk.bke, hk.cps (by rw [pg_send_z]; omega), hk.2.2.2.2.1⟩
theorem pg_gi.forge {T : pg_T} (h : pg_gi T) (k x y z : Int32) : pg_gi (pg_forge T k x y z).2 := by
  unfold pg_forge
  split
  · rename_i hc
    have h1 : (1 : Int32).toInt = 1 := by decide
    have h6 : (6 : Int32).toInt = 6 := by decide
    have c1 := hc.1
    have c2 := hc.2
    rw [Int32.le_iff_toInt_le, h1] at c1
    rw [Int32.le_iff_toInt_le, h6] at c2
    refine h.fpost (by unfold xp_un; omega) (fun _ => ⟨y, rfl⟩) (fun g => ?_)
    unfold xp_un at g
    omega
  · exact h
theorem pg_gi.deliver {T : pg_T} (h : pg_gi T) (m p : Int32) : pg_gi (pg_deliver T m p).2 := by
  unfold pg_deliver
  split
  · rename_i hc
    obtain ⟨a, a1, rfl, a3⟩ := xp_isS (by have := h.2.1; omega) hc.1
    obtain ⟨q, q1, rfl, q3⟩ := xp_isS (by decide) hc.2.1
    rw [a3, q3]
    unfold xp_opt
    cases e : pg_give T a q with
    | none => exact h
    | some T' => exact h.give hc.2.2 a1 q1 e
  · exact h
theorem pg_give_mk {T T' : pg_T} {m p : Nat} (e : pg_give T m p = some T') : T'.2.2.2 = T.2.2.2 ∧ T.1.1 ≤ T'.1.1 := by
  unfold pg_give at e
  split at e
  · cases e2 : pg_ans T.1 (T.2.2.1 (p - 4)) m (p - 4) with
    | none => rw [e2] at e; cases e
    | some C => rw [e2] at e; cases e; exact ⟨rfl, Nat.le_refl _⟩
  · split at e
    · cases e
    · cases e2 : pg_takes p (pg_sR T p) m with
      | none => rw [e2] at e; cases e
      | some S =>
        rw [e2] at e
        cases e
        refine ⟨rfl, ?_⟩
        have := (pg_run_ext p S).1
        rw [pg_takes_B e2] at this
        exact this
theorem pg_gi.pmp {q : Nat} (hq : q < 6) : ∀ (j : Nat) (T : pg_T) (g : Nat), pg_gi T → pg_gi (pg_pmp q j T g).2
  | 0, T, g, h => h
  | j + 1, T, g, h => by
    unfold pg_pmp
    split
    · rename_i hc
      cases e : pg_give T (T.2.2.2.1 q) q with
      | none => exact pg_gi.pmp hq j _ _ (h.mk hc.1)
      | some T' =>
        obtain ⟨e1, e2⟩ := pg_give_mk e
        refine pg_gi.pmp hq j _ _ ((h.give hc.2 hc.1 hq e).mk ?_)
        rw [e1]
        omega
    · exact h
theorem pg_gi.pump {T : pg_T} (h : pg_gi T) (p n : Int32) : pg_gi (pg_pump T p n).2 := by
  unfold pg_pump
  split
  · rename_i hc
    obtain ⟨q, q1, rfl, q3⟩ := xp_isS (by decide) hc.1
    rw [q3]
    exact pg_gi.pmp q1 _ _ _ h
  · exact h
theorem pg_gi.tick {T : pg_T} (h : pg_gi T) (r : Int32) : pg_gi (pg_tick T r).2 := by
  unfold pg_tick
  split
  · rename_i hc
    obtain ⟨j, j1, rfl, j3⟩ := xp_isS (by decide) hc.1
    rw [j3] at hc ⊢
    exact (h.clk j1 hc.2.2.2 hc.2.2.1).2.1
  · exact h
/-- what tick asks -/
theorem pg_gi.tk {T : pg_T} (h : pg_gi T) (r : Nat) (hr : r < 4) (ht : ¬ pg_tm (T.2.1 r) = 0) (hz : T.1.1 < 150) : pg_fre (pg_sR T r) (pg_vw (T.2.1 r) + 1) ∧ pg_rok r (pg_clk r (pg_sR T r)) := by
  refine ⟨?_, (h.clk hr hz ht).2.2.1⟩
  obtain ⟨a1, a2, a3, a4, a5, a6, a7, a8, a9, b1, b2, b3, c1, c2, c3, d1, d2, d3, e1, e2, e3⟩ := (h.2.2.1 r hr).1.1
  intro i i1 i2 i3
  obtain ⟨w, w1, w2⟩ := b2 i i1 i2
  have w1 : w ≤ pg_vw (T.2.1 r) := w1
  have := c1.1
  have h15 : pg_vw (T.2.1 r) ≤ 15 := c1.1
  rw [w2, nI_eq (by omega) (by omega)] at i3
  omega
/-- a new group -/
def pg_R0 : pg_R := (fun t i => if t = 4 ∧ i = 0 then 4 else 0, 0)
def pg_T0 (x : Int32) : pg_T := ((0, fun _ => 0, fun _ => 0, fun _ => 0, fun _ => 0, fun _ => 0, fun _ => false), fun _ => pg_R0, fun _ => (fun _ _ => 0, x), fun _ => 0, 0)
theorem pg_gi.z (x : Int32) : pg_gi (pg_T0 x) := by
  have Z : ∀ {i : Nat}, ¬ i < 0 := fun h => absurd h (Nat.not_lt_zero _)
  have no : ∀ i, ¬ pg_no pg_R0 i = 1 := fun i => (show ¬ 0 = 1 by decide)
  refine ⟨⟨fun m hm => absurd hm Z, fun m hm => absurd hm Z, Nat.zero_le 4, fun i hi => absurd hi Z, fun i hi => absurd hi Z, fun i hi => absurd hi Z, fun i hi => absurd hi Z, fun i hi => absurd hi Z, fun i j hi => absurd hi Z, fun i j n x y hi => absurd hi Z⟩, Nat.zero_le _, fun r hr => ⟨⟨⟨?_, ?_, ?_, ?_, ?_, ?_, ?_, ?_, ?_, ?_, ?_, ?_, ?_, ?_, ?_, ?_, ?_, ?_, ?_, ?_, ?_⟩, fun i hi => absurd hi Z⟩, rfl, fun h => (by cases h)⟩, fun k hk => ⟨⟨(show 0 < 256 by decide), Or.inl rfl, fun i hi => absurd hi (show ¬ 0 = 1 by decide), fun i j hi => absurd hi (show ¬ 0 = 1 by decide)⟩, Nat.zero_le _⟩, fun p hp => Nat.zero_le _⟩
  · exact ⟨fun q hq => absurd hq (show ¬ 0 = 1 by decide), fun q hq => absurd hq (no q)⟩
  · exact fun q => ⟨Nat.zero_le 1, Nat.zero_le 1⟩
  · exact fun i hi => absurd hi Z
  · exact fun i j hi => absurd hi Z
  · exact fun i j hi => absurd hi Z
  · exact fun i j hi => absurd hi (no i)
  · exact fun i hi => absurd hi Z
  · exact fun i hi => absurd hi Z
  · exact fun i j _ hi => absurd hi Z
  · exact fun i hi => absurd hi Z
  · exact fun i hi => absurd hi (no i)
  · exact fun _ i hi => absurd hi (no i)
  · exact ⟨Nat.zero_le _, Nat.zero_le _, Nat.zero_le _, (show 1 ≤ 4 by decide), (show 4 ≤ 32 by decide), Nat.zero_le _, fun n => ⟨(show 0 < 300 by decide), (show 0 < 300 by decide), Nat.zero_le _⟩⟩
  · exact fun n _ => ⟨rfl, rfl, rfl⟩
  · exact ⟨fun n _ => ⟨rfl, rfl, rfl⟩, fun i n hi => absurd hi (no i)⟩
  · exact fun n hn => absurd rfl hn
  · exact fun _ n => rfl
  · exact fun n hn => absurd rfl hn
  · exact ⟨Nat.le_refl 0, Nat.zero_le _, fun n h1 h2 => absurd h2 (show ¬ n ≤ 0 by omega)⟩
  · exact Or.inl rfl
  · exact fun i hi => absurd hi Z
