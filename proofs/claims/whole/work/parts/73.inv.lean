/-! the codes of a NEW-VIEW -/
theorem xp_s24 : ∀ d, d < 256 → nI d <<< (24 : Int32) = nI (2 ^ 24 * d) ∧ nI d <<< (16 : Int32) = nI (2 ^ 16 * d) ∧ nI d <<< (8 : Int32) = nI (2 ^ 8 * d) ∧ nI d <<< (0 : Int32) = nI d := by decide +kernel
theorem xp_pack {a b c d : Nat} (ha : a < 256) (hb : b < 256) (hc : c < 256) (hd : d < 256) : (((0 ||| nI d <<< (24 : Int32)) ||| nI c <<< (16 : Int32)) ||| nI b <<< (8 : Int32)) ||| nI a <<< (0 : Int32) = nI (2 ^ 24 * d + 2 ^ 16 * c + 2 ^ 8 * b + a) := by
  rw [(xp_s24 d hd).1, (xp_s24 c hc).2.1, (xp_s24 b hb).2.2.1, (xp_s24 a ha).2.2.2]
  rw [show (0 : Int32) = nI 0 by decide, xp_or, xp_or, xp_or, xp_or, Nat.zero_or]
  congr 1
  rw [← Nat.two_pow_add_eq_or_of_lt (i := 24) (by omega) d]
  rw [show 2 ^ 24 * d + 2 ^ 16 * c = 2 ^ 16 * (2 ^ 8 * d + c) by omega, ← Nat.two_pow_add_eq_or_of_lt (i := 16) (by omega) _]
  rw [show 2 ^ 16 * (2 ^ 8 * d + c) + 2 ^ 8 * b = 2 ^ 8 * (2 ^ 16 * d + 2 ^ 8 * c + b) by omega, ← Nat.two_pow_add_eq_or_of_lt (i := 8) (by omega) _]
theorem xp_unpack {a b c d : Nat} (ha : a < 256) (hb : b < 256) (hc : c < 256) (hd : d < 256) : pg_od1 (nI (2 ^ 24 * d + 2 ^ 16 * c + 2 ^ 8 * b + a)) 0 = a ∧ pg_od1 (nI (2 ^ 24 * d + 2 ^ 16 * c + 2 ^ 8 * b + a)) 1 = b ∧ pg_od1 (nI (2 ^ 24 * d + 2 ^ 16 * c + 2 ^ 8 * b + a)) 2 = c ∧ pg_od1 (nI (2 ^ 24 * d + 2 ^ 16 * c + 2 ^ 8 * b + a)) 3 = d := by
  unfold pg_od1
  rw [xb_mask _ (by omega)]
  refine ⟨?_, ?_, ?_, ?_⟩
  · show _ / 2 ^ 0 % 256 = a; omega
  · show _ / 2 ^ 8 % 256 = b; omega
  · show _ / 2 ^ 16 % 256 = c; omega
  · show _ / 2 ^ 24 % 256 = d; omega
theorem pg_ki.cd {F : Nat} {B : pg_B} (h : pg_ki F B) (hz : B.1 ≤ 253) {y : Int64} (hv : ∀ k, k < 3 → pg_vt y k < B.1) (j : Nat) : ∃ x, x < 256 ∧ pg_cd B y j = nI x ∧ (2 ≤ x → x - 2 < B.1 ∧ pg_k B (x - 2) = 0) := by
  unfold pg_cd
  by_cases hc : 0 < (pg_tp B y (pg_st B y + 1 + j) 3).1
  · rw [if_pos hc]
    have hb := pg_tp_by 3 hv hc
    rcases h.req (w := (pg_tp B y (pg_st B y + 1 + j) 3).1 - 1) (n := lN (pg_st B y + 1 + j)) (Nat.le_of_lt hb) with e | ⟨x, x1, x2, x3, x4⟩
    · rw [e]
      exact ⟨0, by decide, by decide, fun h => absurd h (by decide)⟩
    · refine ⟨x, ?_, ?_, x4⟩
      · by_cases hx : 2 ≤ x
        · have := (x4 hx).1
          omega
        · omega
      · rw [x3, Int32.sub_add_cancel]
  · rw [if_neg hc]
    split
    · exact ⟨1, by decide, by decide, fun h => absurd h (by decide)⟩
    · exact ⟨0, by decide, by decide, fun h => absurd h (by decide)⟩
theorem pg_ki.od {F : Nat} {B : pg_B} (h : pg_ki F B) (hz : B.1 ≤ 253) {y : Int64} (hv : ∀ k, k < 3 → pg_vt y k < B.1) {j : Nat} (hj : j < 4) (h2 : 1 < pg_od1 (pg_od B y) j) : pg_od1 (pg_od B y) j - 2 < B.1 ∧ pg_k B (pg_od1 (pg_od B y) j - 2) = 0 := by
  obtain ⟨a, a1, a2, a3⟩ := h.cd hz hv 0
  obtain ⟨b, b1, b2, b3⟩ := h.cd hz hv 1
  obtain ⟨c, c1, c2, c3⟩ := h.cd hz hv 2
  obtain ⟨d, d1, d2, d3⟩ := h.cd hz hv 3
  have e : pg_od B y = nI (2 ^ 24 * d + 2 ^ 16 * c + 2 ^ 8 * b + a) := by
    unfold pg_od
    rw [a2, b2, c2, d2]
    exact xp_pack a1 b1 c1 d1
  obtain ⟨u0, u1, u2, u3⟩ := xp_unpack a1 b1 c1 d1
  rw [e] at h2 ⊢
  rcases (show j = 0 ∨ j = 1 ∨ j = 2 ∨ j = 3 by omega) with rfl | rfl | rfl | rfl
  · rw [u0] at h2 ⊢; exact a3 h2
  · rw [u1] at h2 ⊢; exact b3 h2
  · rw [u2] at h2 ⊢; exact c3 h2
  · rw [u3] at h2 ⊢; exact d3 h2
/-- START is certified if it is above 0 -/
theorem pg_st_is (B : pg_B) (y : Int64) : ∃ k, k < 3 ∧ pg_st B y = pg_nb B (pg_vt y k) := by
  unfold pg_st
  by_cases h1 : pg_nb B (pg_vt y 0) ≤ pg_nb B (pg_vt y 1)
  · by_cases h2 : pg_nb B (pg_vt y 1) ≤ pg_nb B (pg_vt y 2)
    · exact ⟨2, by decide, by omega⟩
    · exact ⟨1, by decide, by omega⟩
  · by_cases h2 : pg_nb B (pg_vt y 0) ≤ pg_nb B (pg_vt y 2)
    · exact ⟨2, by decide, by omega⟩
    · exact ⟨0, by decide, by omega⟩
/-- votes that are in order make an entry that is -/
theorem pg_ki.eok {F : Nat} {S : pg_S} (hz : S.1.1 ≤ 253) {m : Nat} (hm : m < S.1.1) (hv : ∀ k, k < 3 → pg_vt (pg_b S.1 m) k < m ∧ (pg_b S.1 (pg_vt (pg_b S.1 m) k) = 0 ∨ (pg_proof S.1 (pg_b S.1 (pg_vt (pg_b S.1 m) k)) (pg_vt (pg_b S.1 m) k)).isSome = true)) {B0 : pg_B} (hB : pg_ki F B0) (he : pg_ext B0 S.1) (hm0 : m ≤ B0.1) (hc : pg_c S.1 m = pg_od B0 (pg_b S.1 m)) {w : Nat} (hw : w ≤ 15) (ha : pg_a S.1 m = nI w) (hf : pg_fre S w) : pg_eok S m := by
  have hp : ∀ k, k < 3 → ∃ p, p < 390 ∧ pg_b S.1 (pg_vt (pg_b S.1 m) k) = lN p ∧ (p = 0 ∨ (pg_proof S.1 (lN p) m).isSome = true) := by
    intro k hk
    obtain ⟨h1, h2⟩ := hv k hk
    rcases h2 with e | e
    · exact ⟨0, by decide, e, Or.inl rfl⟩
    · have hz0 := he.1
      obtain ⟨p, p1, p2, p3⟩ := hB.cert (by omega) (m := pg_vt (pg_b S.1 m) k) (by omega) (by rw [← pg_proof_ext he (by omega)]; exact e)
      refine ⟨p, by omega, p1, Or.inr ?_⟩
      rw [← p1]
      exact pg_proof_mono (by omega) e
  refine ⟨⟨w, hw, ha, hf⟩, fun k hk => ⟨by have := (hv k hk).1; omega, ?_⟩, fun hlt => ?_, fun j hj h2 => ?_⟩
  · obtain ⟨p, p1, p2, -⟩ := hp k hk
    exact ⟨p, p1, p2⟩
  · obtain ⟨k, k1, k2⟩ := pg_st_is S.1 (pg_b S.1 m)
    obtain ⟨p, p1, p2, p3⟩ := hp k k1
    have e : pg_st S.1 (pg_b S.1 m) = p := by rw [k2]; exact pg_nb_n p2 (by omega)
    rw [e] at hlt ⊢
    rcases p3 with h | h
    · omega
    · exact h
  · rw [hc] at h2 ⊢
    have hz0 := he.1
    obtain ⟨g1, g2⟩ := hB.od (by omega) (fun k hk => by have := (hv k hk).1; omega) hj h2
    exact ⟨by omega, (he.2 _ g1).1.trans g2⟩
theorem pg_gc_b {B : pg_B} {m : Nat} (h : pg_gc B m = true) : pg_b B m = 0 ∨ (pg_proof B (pg_b B m) m).isSome = true := by
  unfold pg_gc at h
  simp only [Bool.and_eq_true, Bool.or_eq_true, beq_iff_eq] at h
  exact h.2.2.2.1
theorem pg_gc_a {B : pg_B} {m : Nat} (h : pg_gc B m = true) : ∃ w, 1 ≤ w ∧ w ≤ 15 ∧ pg_a B m = nI w := by
  unfold pg_gc at h
  simp only [Bool.and_eq_true, decide_eq_true_eq] at h
  exact xp_v15 h.2.1 h.2.2.1
theorem pg_gn_v {B : pg_B} {m : Nat} (h : pg_gn B m = true) : (∀ k, k < 3 → pg_vt (pg_b B m) k < m ∧ pg_gc B (pg_vt (pg_b B m) k) = true) ∧ pg_c B m = pg_od B (pg_b B m) := by
  unfold pg_gn at h
  simp only [Bool.and_eq_true, decide_eq_true_eq, List.all_eq_true, List.mem_range, beq_iff_eq] at h
  exact ⟨fun k hk => ⟨(h.2.2.2.2.1 k hk).1, (h.2.2.2.2.1 k hk).2.2.1⟩, h.2.2.2.2.2⟩
/-- a replica may enter by a valid NEW-VIEW -/
theorem pg_ji.eok {F r : Nat} {S : pg_S} (hj : pg_ji r S) (h : pg_ki F S.1) (hz : S.1.1 ≤ 253) {m : Nat} (hm : m < S.1.1) (hg : pg_gn S.1 m = true) (hl : pg_later S m = true) : pg_eok S m := by
  obtain ⟨w, w1, w2, w3⟩ := pg_gn_a hg
  obtain ⟨v1, v2⟩ := pg_gn_v hg
  obtain ⟨a1, a2, a3, a4, a5, a6, a7, a8, a9, b1, b2, b3, c1, c2, c3, d1, d2, d3, e1, e2, e3⟩ := hj.1
  refine pg_ki.eok hz hm (fun k hk => ⟨(v1 k hk).1, pg_gc_b (v1 k hk).2⟩) h (pg_ext.rf S.1) (Nat.le_of_lt hm) v2 w2 w3 ?_
  unfold pg_later at hl
  rw [w3] at hl
  simp only [Bool.or_eq_true, Bool.and_eq_true, decide_eq_true_eq, beq_iff_eq] at hl
  have hvw := c1.1
  rcases hl with hl | ⟨hl, hc⟩
  · rw [nI_ltI (by omega) (by omega)] at hl
    intro i i1 i2 i3
    obtain ⟨w', w4, w5⟩ := b2 i i1 i2
    rw [w5, nI_eq (by omega) (by omega)] at i3
    omega
  · rw [nI_eq (by omega) (by omega)] at hl
    rw [hl]
    exact b3 hc
