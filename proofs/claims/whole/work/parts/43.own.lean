/-! a replica sends: the board grows, and it notes its own message -/
/-- only the board's rows and cells of replica r have changed -/
def xf_O (r : Nat) (v v' : xn_V) : Prop := ∀ k r' i x, ¬ (11 ≤ k ∧ k ≤ 18 ∧ r' = r) → ¬ (2 ≤ k ∧ k ≤ 6) → ¬ (k = 1 ∧ x = 6) → v'.1 k r' i x = v.1 k r' i x ∧ v'.2 k r' i x = v.2 k r' i x
theorem xf_O.rf (r : Nat) (v : xn_V) : xf_O r v v := fun _ _ _ _ _ _ _ => ⟨rfl, rfl⟩
theorem xf_O.tr {r : Nat} {v v1 v2 : xn_V} (h : xf_O r v v1) (g : xf_O r v1 v2) : xf_O r v v2 := fun k r' i x a b c => ⟨(g k r' i x a b c).1.trans (h k r' i x a b c).1, (g k r' i x a b c).2.trans (h k r' i x a b c).2⟩
theorem xf_O.ofR {r : Nat} {v v' : xn_V} (h : xf_R r v v') : xf_O r v v' := fun k r' i x a _ _ => h k r' i x a
theorem xf_O.R {r : Nat} {v v1 v2 : xn_V} (h : xf_O r v v1) (g : xf_R r v1 v2) : xf_O r v v2 := h.tr (xf_O.ofR g)
theorem xn_post_oth (v : xn_V) (z : Nat) (k f a : Int32) (b : Int64) (c : Int32) : ∀ k' r' i x, ¬ (2 ≤ k' ∧ k' ≤ 6) → ¬ (k' = 1 ∧ x = 6) → (xn_post v z k f a b c).1 k' r' i x = v.1 k' r' i x ∧ (xn_post v z k f a b c).2 k' r' i x = v.2 k' r' i x := by
  intro k' r' i x h1 h2
  unfold xn_post
  constructor
  · show (if k' = 1 ∧ r' = 0 ∧ i = 0 ∧ x = 6 then _ else if k' = 6 ∧ r' = 0 ∧ i = 0 ∧ x = z then _ else if k' = 4 ∧ r' = 0 ∧ i = 0 ∧ x = z then _ else if k' = 3 ∧ r' = 0 ∧ i = 0 ∧ x = z then _ else if k' = 2 ∧ r' = 0 ∧ i = 0 ∧ x = z then _ else v.1 k' r' i x) = _
    rw [if_neg (by omega), if_neg (by omega), if_neg (by omega), if_neg (by omega), if_neg (by omega)]
  · show (if k' = 5 ∧ r' = 0 ∧ i = 0 ∧ x = z then _ else v.2 k' r' i x) = _
    rw [if_neg (by omega)]
theorem xf_O.post {r : Nat} {v v1 : xn_V} (h : xf_O r v v1) {z : Nat} {k f a : Int32} {b : Int64} {c : Int32} : xf_O r v (xn_post v1 z k f a b c) := h.tr (fun k' r' i x _ h2 h3 => xn_post_oth v1 z k f a b c k' r' i x h2 h3)
theorem pg_own_z (r : Nat) (S : pg_S) (k : Nat) (x : Int32) (y : Int64) (z : Int32) : (pg_own r S k x y z).1.1 = S.1.1 + 1 := rfl
theorem pg_own_no (r : Nat) (S : pg_S) (k : Nat) (x : Int32) (y : Int64) (z : Int32) (i : Nat) : pg_no (pg_own r S k x y z).2 i = if i = S.1.1 then 1 else pg_no S.2 i := pg_no_u S.2 S.1.1 i
theorem pg_own_oth (r : Nat) (S : pg_S) (k : Nat) (x : Int32) (y : Int64) (z : Int32) (t i : Nat) (h : ¬ t = 9) : (pg_own r S k x y z).2.1 t i = S.2.1 t i := by
  show (if t = 9 ∧ i = S.1.1 then 1 else S.2.1 t i) = _
  rw [if_neg (by omega)]
theorem xp_find_s (P : Nat → Bool) (z : Nat) : (List.range (z + 1)).find? P = ((List.range z).find? P).or (if P z then some z else none) := by
  rw [List.range_succ, List.find?_append]
  congr 1
  by_cases h : P z = true
  · simp [h]
  · simp [h]
/-- what is noted, behind an own message -/
theorem pg_nv_own (r : Nat) (S : pg_S) (k : Nat) (x : Int32) (y : Int64) (z : Int32) (k' n s : Nat) : pg_nv (pg_own r S k x y z) k' n s = if (k = k' ∧ r = s ∧ x = nI (pg_vw S.2) ∧ y = lN n) ∧ pg_nv S k' n s = 1099511627776 then z.toInt64 else pg_nv S k' n s := by
  have hvw : pg_vw (pg_own r S k x y z).2 = pg_vw S.2 := pg_own_oth r S k x y z 0 0 (by decide)
  have e1 : (List.range (pg_own r S k x y z).1.1).find? (fun i => pg_no (pg_own r S k x y z).2 i == 1 && (pg_k (pg_own r S k x y z).1 i == k' && (pg_f (pg_own r S k x y z).1 i == s && (pg_a (pg_own r S k x y z).1 i == nI (pg_vw (pg_own r S k x y z).2) && pg_b (pg_own r S k x y z).1 i == lN n)))) = ((List.range S.1.1).find? (fun i => pg_no S.2 i == 1 && (pg_k S.1 i == k' && (pg_f S.1 i == s && (pg_a S.1 i == nI (pg_vw S.2) && pg_b S.1 i == lN n))))).or (if k = k' ∧ r = s ∧ x = nI (pg_vw S.2) ∧ y = lN n then some S.1.1 else none) := by
    rw [pg_own_z, xp_find_s]
    congr 1
    · apply xp_find_congr
      intro i hi
      rw [pg_own_no, if_neg (by omega), hvw]
      show (_ && ((if i = S.1.1 then k else pg_k S.1 i) == k' && ((if i = S.1.1 then r else pg_f S.1 i) == s && ((if i = S.1.1 then x else pg_a S.1 i) == _ && (if i = S.1.1 then y else pg_b S.1 i) == _)))) = _
      rw [if_neg (by omega), if_neg (by omega), if_neg (by omega), if_neg (by omega)]
    · rw [pg_own_no, if_pos rfl, hvw]
      show (if ((1 : Nat) == 1 && ((if S.1.1 = S.1.1 then k else pg_k S.1 S.1.1) == k' && ((if S.1.1 = S.1.1 then r else pg_f S.1 S.1.1) == s && ((if S.1.1 = S.1.1 then x else pg_a S.1 S.1.1) == _ && (if S.1.1 = S.1.1 then y else pg_b S.1 S.1.1) == _)))) = true then _ else _) = _
      simp only [if_true]
      simp
  unfold pg_nv
  rw [e1]
  cases e : (List.range S.1.1).find? (fun i => pg_no S.2 i == 1 && (pg_k S.1 i == k' && (pg_f S.1 i == s && (pg_a S.1 i == nI (pg_vw S.2) && pg_b S.1 i == lN n)))) with
  | some i =>
    have hi : i < S.1.1 := List.mem_range.mp (List.mem_of_find?_eq_some e)
    show ((if i = S.1.1 then z else pg_c S.1 i)).toInt64 = if (k = k' ∧ r = s ∧ x = nI (pg_vw S.2) ∧ y = lN n) ∧ (pg_c S.1 i).toInt64 = 1099511627776 then z.toInt64 else (pg_c S.1 i).toInt64
    rw [if_neg (by omega), if_neg (by rintro ⟨-, h⟩; exact xp_unn _ h)]
  | none =>
    by_cases h : k = k' ∧ r = s ∧ x = nI (pg_vw S.2) ∧ y = lN n
    · rw [if_pos h, if_pos ⟨h, rfl⟩]
      show ((if S.1.1 = S.1.1 then z else pg_c S.1 S.1.1)).toInt64 = _
      rw [if_pos rfl]
    · rw [if_neg h, if_neg (by rintro ⟨h2, -⟩; exact h h2)]
      rfl
theorem pg_lvc_own (r : Nat) (S : pg_S) (k : Nat) (x : Int32) (y : Int64) (z : Int32) (s : Nat) : pg_lvc (pg_own r S k x y z) s = if k = 5 ∧ r = s then some S.1.1 else pg_lvc S s := by
  unfold pg_lvc
  rw [pg_own_z, List.range_succ, List.filter_append]
  have e1 : (List.range S.1.1).filter (fun i => pg_no (pg_own r S k x y z).2 i == 1 && (pg_k (pg_own r S k x y z).1 i == 5 && pg_f (pg_own r S k x y z).1 i == s)) = (List.range S.1.1).filter (fun i => pg_no S.2 i == 1 && (pg_k S.1 i == 5 && pg_f S.1 i == s)) := by
    apply List.filter_congr
    intro i hi
    have hi := List.mem_range.mp hi
    rw [pg_own_no, if_neg (by omega)]
    show (_ && ((if i = S.1.1 then k else pg_k S.1 i) == 5 && (if i = S.1.1 then r else pg_f S.1 i) == s)) = _
    rw [if_neg (by omega), if_neg (by omega)]
  rw [e1]
  have e2 : (pg_no (pg_own r S k x y z).2 S.1.1 == 1 && (pg_k (pg_own r S k x y z).1 S.1.1 == 5 && pg_f (pg_own r S k x y z).1 S.1.1 == s)) = decide (k = 5 ∧ r = s) := by
    rw [pg_own_no, if_pos rfl]
    show ((1 : Nat) == 1 && ((if S.1.1 = S.1.1 then k else pg_k S.1 S.1.1) == 5 && (if S.1.1 = S.1.1 then r else pg_f S.1 S.1.1) == s)) = _
    rw [if_pos rfl, if_pos rfl]
    by_cases h1 : k = 5 <;> by_cases h2 : r = s <;> simp [h1, h2]
  by_cases h : k = 5 ∧ r = s
  · rw [if_pos h]
    rw [List.filter_cons_of_pos (by rw [e2]; exact decide_eq_true h)]
    simp
  · rw [if_neg h]
    rw [List.filter_cons_of_neg (by rw [e2, decide_eq_false h]; decide)]
    simp
/-- an own message: what is to be shown of the cells -/
theorem xc_R.own0 {r : Nat} {S : pg_S} {v v' : xn_V} (hR : xc_R r S v) (k : Nat) (x : Int32) (y : Int64) (z : Int32)
    (o1 : ∀ k' i x, ((k' = 11 ∧ i = 0) ∨ k' = 13 ∨ ((k' = 16 ∨ k' = 17) ∧ i = 0)) → v'.1 k' r i x = v.1 k' r i x) (o2 : v'.2 11 r 0 10 = v.2 11 r 0 10)
    (hcl : ∃ cl, xc_L r 1 cl v' ∧ ∀ q, q ∈ cl ↔ ((q = S.1.1 ∧ k = 7) ∨ (q < S.1.1 ∧ pg_no S.2 q = 1 ∧ pg_k S.1 q = 7)))
    (hV : ∀ s, s < 4 → v'.1 18 r 0 s = xp_o (if k = 5 ∧ r = s then some S.1.1 else pg_lvc S s))
    (hS : ∀ n, pg_h S.2 < n → n ≤ pg_h S.2 + 4 → ∀ s, s < 4 → ∀ k' g', ((k' = 2 ∧ g' = 14) ∨ (k' = 3 ∧ g' = 15)) → v.2 g' r (n % 4) s = pg_nv S k' n s → v'.2 g' r (n % 4) s = if (k = k' ∧ r = s ∧ x = nI (pg_vw S.2) ∧ y = lN n) ∧ pg_nv S k' n s = 1099511627776 then z.toInt64 else pg_nv S k' n s) : xc_R r (pg_own r S k x y z) v' := by
  obtain ⟨hF, ⟨kl, hL, hkl⟩, -, -, hS0⟩ := hR
  obtain ⟨cl, hC, hc⟩ := hcl
  have g := pg_own_oth r S k x y z
  refine ⟨?_, ⟨kl, hL.keep (o1 _ _ _ (by omega)) (fun j _ => o1 _ _ _ (by omega)), fun q => ?_⟩, ⟨cl, hC, fun q => ?_⟩, fun s hs => ?_, fun n h1 h2 => ?_⟩
  · have e0 : ∀ x', v'.1 11 r 0 x' = v.1 11 r 0 x' := fun x' => o1 11 0 x' (by omega)
    unfold xc_F pg_vw pg_ch pg_h pg_e pg_tm pg_sp pg_af
    rw [g 0 0 (by decide), g 1 0 (by decide), g 2 0 (by decide), g 3 0 (by decide), g 4 0 (by decide), g 5 0 (by decide), g 11 0 (by decide), o2]
    simp only [e0]
    exact hF
  · show _ ↔ (pg_own r S k x y z).2.1 10 q = 1
    rw [g 10 q (by decide)]
    exact hkl q
  · rw [hc q, pg_own_z, pg_own_no]
    show _ ↔ (q < S.1.1 + 1 ∧ (if q = S.1.1 then 1 else pg_no S.2 q) = 1 ∧ (if q = S.1.1 then k else pg_k S.1 q) = 7)
    by_cases e : q = S.1.1
    · subst e
      rw [if_pos rfl, if_pos rfl]
      constructor
      · rintro (⟨-, h⟩ | ⟨h, -⟩)
        · exact ⟨by omega, rfl, h⟩
        · omega
      · rintro ⟨-, -, h⟩; exact Or.inl ⟨rfl, h⟩
    · rw [if_neg e, if_neg e]
      constructor
      · rintro (⟨h, -⟩ | ⟨a, b⟩)
        · exact absurd h e
        · exact ⟨by omega, b⟩
      · rintro ⟨a, b⟩; exact Or.inr ⟨by omega, b⟩
  · rw [hV s hs, pg_lvc_own]
  · have hh : pg_h (pg_own r S k x y z).2 = pg_h S.2 := g 2 0 (by decide)
    rw [hh] at h1 h2
    obtain ⟨a1, a2, a3, a4⟩ := hS0 n h1 h2
    refine ⟨?_, ?_, ?_, fun s hs => ?_⟩
    · rw [o1 13 _ _ (by omega)]
      show _ = nI ((pg_own r S k x y z).2.1 6 n) - 2
      rw [g 6 n (by decide)]; exact a1
    · rw [o1 13 _ _ (by omega)]
      show _ = nI ((pg_own r S k x y z).2.1 7 n) - 2
      rw [g 7 n (by decide)]; exact a2
    · rw [o1 13 _ _ (by omega)]
      show _ = nI ((pg_own r S k x y z).2.1 8 n)
      rw [g 8 n (by decide)]; exact a3
    · obtain ⟨b1, b2⟩ := a4 s hs
      rw [pg_nv_own, pg_nv_own]
      exact ⟨hS n h1 h2 s hs 2 14 (Or.inl ⟨rfl, rfl⟩) b1, hS n h1 h2 s hs 3 15 (Or.inr ⟨rfl, rfl⟩) b2⟩
theorem xc_R.own {r : Nat} {S : pg_S} {v : xn_V} (hR : xc_R r S v) (k : Nat) (x : Int32) (y : Int64) (z : Int32) (hk : ¬ k = 7) (hk5 : ¬ k = 5) (hk2 : ¬ k = 2) (hk3 : ¬ k = 3) {kk ff : Int32} : xc_R r (pg_own r S k x y z) (xn_post v S.1.1 kk ff x y z) := by
  have o := xn_post_oth v S.1.1 kk ff x y z
  obtain ⟨cl, hC, hc⟩ := hR.2.2.1
  refine hR.own0 k x y z (fun k' i x h => (o _ _ _ _ (by omega) (by omega)).1) (o _ _ _ _ (by omega) (by omega)).2 ⟨cl, hC.keep (o _ _ _ _ (by omega) (by omega)).1 (fun j _ => (o _ _ _ _ (by omega) (by omega)).1), fun q => ?_⟩ (fun s hs => ?_) (fun n h1 h2 s hs k' g' hkg h0 => ?_)
  · rw [hc q]
    constructor
    · exact Or.inr
    · rintro (⟨-, h⟩ | h)
      · exact absurd h hk
      · exact h
  · rw [(o 18 r 0 s (by omega) (by omega)).1, if_neg (by omega)]
    exact hR.2.2.2.1 s hs
  · rw [(o g' r _ _ (by omega) (by omega)).2, h0, if_neg (by omega)]
/-- it sends a PREPARE or COMMIT for VIEW and n -/
theorem xc_R.own23 {r : Nat} {S : pg_S} {v : xn_V} (hR : xc_R r S v) (hN : pg_num S.2) {k g n : Nat} (hkg : (k = 2 ∧ g = 14) ∨ (k = 3 ∧ g = 15)) (h1 : pg_h S.2 < n) (h2 : n ≤ pg_h S.2 + 4) (hun : pg_nv S k n r = 1099511627776) (z : Int32) {kk ff : Int32} : xc_R r (pg_own r S k (nI (pg_vw S.2)) (lN n) z) (xn_uJ (xn_post v S.1.1 kk ff (nI (pg_vw S.2)) (lN n) z) g r (n % 4) r z.toInt64) := by
  have o := xn_post_oth v S.1.1 kk ff (nI (pg_vw S.2)) (lN n) z
  have hhb := hN.2.2.1
  obtain ⟨cl, hC, hc⟩ := hR.2.2.1
  have o1 : ∀ k' r' i x, ¬ (2 ≤ k' ∧ k' ≤ 6) → ¬ (k' = 1 ∧ x = 6) → (xn_uJ (xn_post v S.1.1 kk ff (nI (pg_vw S.2)) (lN n) z) g r (n % 4) r z.toInt64).1 k' r' i x = v.1 k' r' i x := fun k' r' i x a b => (o k' r' i x a b).1
  refine hR.own0 k _ _ z (fun k' i x h => o1 _ _ _ _ (by omega) (by omega)) ?_ ⟨cl, hC.keep (o1 _ _ _ _ (by omega) (by omega)) (fun j _ => o1 _ _ _ _ (by omega) (by omega)), fun q => ?_⟩ (fun s hs => ?_) (fun n' h3 h4 s hs k' g' hkg' h0 => ?_)
  · show (if 11 = g ∧ r = r ∧ 0 = n % 4 ∧ 10 = r then _ else (xn_post v S.1.1 kk ff (nI (pg_vw S.2)) (lN n) z).2 11 r 0 10) = _
    rw [if_neg (by omega), (o 11 r 0 10 (by omega) (by omega)).2]
  · rw [hc q]
    constructor
    · exact Or.inr
    · rintro (⟨-, h⟩ | h)
      · omega
      · exact h
  · rw [o1 18 r 0 s (by omega) (by omega), if_neg (by omega)]
    exact hR.2.2.2.1 s hs
  · show (if g' = g ∧ r = r ∧ n' % 4 = n % 4 ∧ s = r then z.toInt64 else (xn_post v S.1.1 kk ff (nI (pg_vw S.2)) (lN n) z).2 g' r (n' % 4) s) = _
    by_cases e : g' = g ∧ r = r ∧ n' % 4 = n % 4 ∧ s = r
    · obtain ⟨e1, -, e2, e3⟩ := e
      have en := xp_mod4 h3 h4 h1 h2 e2
      have ek : k' = k := by omega
      subst en; subst ek; subst e3
      rw [if_pos ⟨e1, rfl, rfl, rfl⟩, if_pos ⟨⟨rfl, rfl, rfl, rfl⟩, hun⟩]
    · rw [if_neg e, (o g' r _ _ (by omega) (by omega)).2, h0, if_neg]
      rintro ⟨⟨c1, c2, -, c4⟩, -⟩
      apply e
      have : n' = n := ((pk_lEQ (by omega) (by omega)).mp c4).symm
      subst this
      exact ⟨by omega, rfl, rfl, c2.symm⟩
/-- it sends a CHECKPOINT -/
theorem xc_R.own7 {r : Nat} {S : pg_S} {v : xn_V} (hR : xc_R r S v) (hz : S.1.1 < 256) {cl : List Nat} (hC : xc_L r 1 cl v) (hc : ∀ q, q ∈ cl ↔ (q < S.1.1 ∧ pg_no S.2 q = 1 ∧ pg_k S.1 q = 7)) (x : Int32) (y : Int64) (z : Int32) {kk ff : Int32} : xc_R r (pg_own r S 7 x y z) (xn_add (xn_post v S.1.1 kk ff x y z) r 1 cl.length (nI S.1.1)) := by
  have o := xn_post_oth v S.1.1 kk ff x y z
  obtain ⟨a1, a2⟩ := xn_add_oth (xn_post v S.1.1 kk ff x y z) r 1 cl.length (nI S.1.1)
  have hC1 : xc_L r 1 cl (xn_post v S.1.1 kk ff x y z) := hC.keep (o _ _ _ _ (by omega) (by omega)).1 (fun j _ => (o _ _ _ _ (by omega) (by omega)).1)
  have hb : ∀ q, q ∈ cl → q < S.1.1 := fun q hq => ((hc q).mp hq).1
  have hni : ¬ S.1.1 ∈ cl := fun h => by have := hb _ h; omega
  have hlen := hC1.room (z := S.1.1 + 1) (by omega) (fun q hq => by have := hb q hq; omega) (Nat.lt_succ_self S.1.1)
  refine hR.own0 7 x y z (fun k' i x h => ?_) ?_ ⟨_, hC1.add (fun q hq => by have := hb q hq; omega) (by omega) hlen, fun q => ?_⟩ (fun s hs => ?_) (fun n h1 h2 s hs k' g' hkg h0 => ?_)
  · rw [a1 _ _ _ _ (by omega), (o _ _ _ _ (by omega) (by omega)).1]
  · rw [a2, (o _ _ _ _ (by omega) (by omega)).2]
  · rw [if_neg hni, List.mem_append, List.mem_singleton, hc q]
    constructor
    · rintro (h | h)
      · exact Or.inr h
      · exact Or.inl ⟨h, rfl⟩
    · rintro (h | h)
      · exact Or.inr h.1
      · exact Or.inl h
  · rw [a1 _ _ _ _ (by omega), (o 18 r 0 s (by omega) (by omega)).1, if_neg (by omega)]
    exact hR.2.2.2.1 s hs
  · rw [a2, (o g' r _ _ (by omega) (by omega)).2, h0, if_neg (by omega)]
/-- it sends a VIEW-CHANGE -/
theorem xc_R.own5 {r : Nat} {S : pg_S} {v : xn_V} (hR : xc_R r S v) (x : Int32) (y : Int64) (z : Int32) {kk ff : Int32} : xc_R r (pg_own r S 5 x y z) (xn_uI (xn_post v S.1.1 kk ff x y z) 18 r 0 r (nI S.1.1)) := by
  have o := xn_post_oth v S.1.1 kk ff x y z
  obtain ⟨cl, hC, hc⟩ := hR.2.2.1
  have o1 : ∀ k' r' i x', ¬ (2 ≤ k' ∧ k' ≤ 6) → ¬ (k' = 1 ∧ x' = 6) → ¬ k' = 18 → (xn_uI (xn_post v S.1.1 kk ff x y z) 18 r 0 r (nI S.1.1)).1 k' r' i x' = v.1 k' r' i x' := by
    intro k' r' i x' h1 h2 h3
    show (if k' = 18 ∧ r' = r ∧ i = 0 ∧ x' = r then _ else (xn_post v S.1.1 kk ff x y z).1 k' r' i x') = _
    rw [if_neg (by omega), (o _ _ _ _ h1 h2).1]
  refine hR.own0 5 x y z (fun k' i x h => o1 _ _ _ _ (by omega) (by omega) (by omega)) (show (xn_post v S.1.1 kk ff x y z).2 11 r 0 10 = _ from (o _ _ _ _ (by omega) (by omega)).2) ⟨cl, hC.keep (o1 _ _ _ _ (by omega) (by omega) (by omega)) (fun j _ => o1 _ _ _ _ (by omega) (by omega) (by omega)), fun q => ?_⟩ (fun s hs => ?_) (fun n h1 h2 s hs k' g' hkg h0 => ?_)
  · rw [hc q]
    constructor
    · exact Or.inr
    · rintro (⟨-, h⟩ | h)
      · omega
      · exact h
  · show (if 18 = 18 ∧ r = r ∧ 0 = 0 ∧ s = r then nI S.1.1 else (xn_post v S.1.1 kk ff x y z).1 18 r 0 s) = _
    by_cases e : s = r
    · rw [if_pos ⟨rfl, rfl, rfl, e⟩, if_pos ⟨rfl, e.symm⟩]
      rfl
    · rw [if_neg (by omega), if_neg (by omega), (o 18 r 0 s (by omega) (by omega)).1]
      exact hR.2.2.2.1 s hs
  · show (xn_post v S.1.1 kk ff x y z).2 g' r (n % 4) s = _
    rw [(o g' r _ _ (by omega) (by omega)).2, h0, if_neg (by omega)]
