/-! both are made: the world is settled, and it is the new group -/
def xm_all (w : xj_W) : Prop := ∀ p : xj_Pl, p ∈ xj_PL → xm_at w p.1 p.2.1 p.2.2
theorem xm_places : ∀ p : xj_Pl, p ∈ xj_PL → (p.1 ≤ 10 ∧ p.2.1 = 0 ∧ p.2.2 = 0) ∨ ((p.1 = 11 ∨ p.1 = 12 ∨ p.1 = 18) ∧ p.2.1 < 4 ∧ p.2.2 = 0) ∨ ((p.1 = 16 ∨ p.1 = 17) ∧ p.2.1 < 4 ∧ p.2.2 < 2) ∨ ((p.1 = 13 ∨ p.1 = 14 ∨ p.1 = 15) ∧ p.2.1 < 4 ∧ p.2.2 < 4) ∨ ((p.1 = 19 ∨ p.1 = 20) ∧ p.2.1 < 2 ∧ p.2.2 = 0) ∨ (21 ≤ p.1 ∧ p.1 ≤ 45 ∧ p.2.1 = 0 ∧ p.2.2 = 0) := by decide +kernel
theorem xm_le : ∀ p : xj_Pl, p ∈ xj_PL → p.1 ≤ 45 := by decide +kernel
theorem xm_all.of {w : xj_W} (hG : xm_DG w) (hT : ∀ q, 21 ≤ q → q ≤ 45 → xm_at w q 0 0) : xm_all w := by
  rintro ⟨k, r, i⟩ hp
  obtain ⟨g1, g2, g3, g4⟩ := hG
  rcases xm_places _ hp with ⟨a, b, c⟩ | ⟨a, b, c⟩ | ⟨a, b, c⟩ | ⟨a, b, c⟩ | ⟨a, b, c⟩ | ⟨a, a2, b, c⟩
  · simp only at a b c ⊢
    subst b
    subst c
    by_cases e : k = 0
    · subst e; exact g1
    · exact g2 k (by omega) a
  · simp only at a b c ⊢
    subst c
    obtain ⟨m1, m2, m3, -⟩ := g3 r b
    rcases a with rfl | rfl | rfl
    · exact m1
    · exact m2
    · exact m3
  · simp only at a b c ⊢
    obtain ⟨-, -, -, m4, -⟩ := g3 r b
    rcases a with rfl | rfl
    · exact (m4 i c).1
    · exact (m4 i c).2
  · simp only at a b c ⊢
    obtain ⟨-, -, -, -, m5⟩ := g3 r b
    rcases a with rfl | rfl | rfl
    · exact (m5 i c).1
    · exact (m5 i c).2.1
    · exact (m5 i c).2.2
  · simp only at a b c ⊢
    subst c
    rcases a with rfl | rfl
    · exact (g4 r b).1
    · exact (g4 r b).2
  · simp only at a b c ⊢
    subst b
    subst c
    exact hT k a a2
theorem xm_arrV {c : ClassId} {N : Nat} {f g : Nat → Value} (h : ∀ x, x < N → f x = g x) : arrV c N f = arrV c N g := by
  unfold arrV
  congr 1
  apply Array.ext
  · simp
  · intro j h1 h2
    simp only [Array.getElem_ofFn]
    exact h j (by simpa using h1)
theorem xm_shape : ∀ k, k ≤ 45 → (xj_knd k ≤ 4 ∧ (xj_knd k = 4 → ∀ x, x < xj_len k → xj_typ k x ≤ 2)) := by decide +kernel
theorem xm_cell {G : xj_G} {w w2 : xj_W} {p : xj_Pl} (hp : p.1 ≤ 45) (h1 : w2.1 = w.1) (h2 : ∀ x, x < xj_len p.1 → (xj_knd p.1 = 3 ∨ (xj_knd p.1 = 4 ∧ xj_typ p.1 x = 2)) → w2.2.1 p.1 p.2.1 p.2.2 x = w.2.1 p.1 p.2.1 p.2.2 x) {H : Heap} (h : va_at G.1 xj_cl (xj_ad G p, xj_cell G w p) H) : va_at G.1 xj_cl (xj_ad G p, xj_cell G w2 p) H := by
  by_cases e3 : xj_knd p.1 = 3
  · have ec : ∀ w : xj_W, xj_cell G w p = .inl (G.2.1 (xj_cls p.1), xj_len p.1, .inr (.inr (.inr (.inr (fun x => (w.2.1 p.1 p.2.1 p.2.2 x).map (xj_ad G)))))) := fun w => by unfold xj_cell; simp only [e3]
    rw [ec] at h ⊢
    have h : H[xj_ad G p]? = some (vp_cell (G.2.1 (xj_cls p.1)) (xj_len p.1, .inr (.inr (.inr (.inr (fun x => (w.2.1 p.1 p.2.1 p.2.2 x).map (xj_ad G))))))) := h
    show H[xj_ad G p]? = some (vp_cell (G.2.1 (xj_cls p.1)) (xj_len p.1, .inr (.inr (.inr (.inr (fun x => (w2.2.1 p.1 p.2.1 p.2.2 x).map (xj_ad G)))))))
    rw [h, vp_cell_q, vp_cell_q]
    congr 1
    refine xm_arrV fun x hx => ?_
    rw [h2 x hx (Or.inl e3)]
  · have : xj_cell G w2 p = xj_cell G w p := by
      unfold xj_cell
      rw [h1]
      split
      · rfl
      · rfl
      · rfl
      · rename_i e; exact absurd e e3
      · rename_i n0 n1 n2 n3
        have hm : (List.range (xj_len p.1)).map (fun x => xj_fv G w2 p.1 p.2.1 p.2.2 x) = (List.range (xj_len p.1)).map (fun x => xj_fv G w p.1 p.2.1 p.2.2 x) := by
          refine List.map_congr_left fun x hx => ?_
          have hx : x < xj_len p.1 := List.mem_range.mp hx
          unfold xj_fv
          rw [h1]
          split
          · rfl
          · rfl
          · rename_i t0 t1
            have hb : xj_knd p.1 ≤ 4 := (xm_shape p.1 hp).1
            have e4 : xj_knd p.1 = 4 := by
              rcases (show xj_knd p.1 = 0 ∨ xj_knd p.1 = 1 ∨ xj_knd p.1 = 2 ∨ xj_knd p.1 = 3 ∨ xj_knd p.1 = 4 by omega) with e | e | e | e | e
              · exact absurd e n0
              · exact absurd e n1
              · exact absurd e n2
              · exact absurd e n3
              · exact e
            have ht : xj_typ p.1 x ≤ 2 := (xm_shape p.1 hp).2 e4 x hx
            have e2 : xj_typ p.1 x = 2 := by
              rcases (show xj_typ p.1 x = 0 ∨ xj_typ p.1 x = 1 ∨ xj_typ p.1 x = 2 by omega) with e | e | e
              · exact absurd e t0
              · exact absurd e t1
              · exact e
            rw [h2 x hx (Or.inr ⟨e4, e2⟩)]
        rw [hm]
    rw [this]
    exact h
theorem xm_settle {E : xj_E} {G : xj_G} {Q : State → Prop} {cs sl pc : Nat} {L : List (Option Value)} {st : List Value} {w : xj_W} (hn : w.2.2 = 116) (ha : xm_all w) (k : xn_X E G Q cs sl pc L st w.1) : xj_X E G Q cs sl pc L st w := by
  intro ls H locs h1 h2 h3 h4
  refine k ls H locs h1 (by rw [h2, hn]) ?_ h4
  intro j q hq
  have hq2 : (xj_PL.map (fun p => (xj_ad G p, xj_cell G (xn_W w.1) p)))[j]? = some q := by
    have e : xj_mk G (xn_W w.1) = xj_PL.map (fun p => (xj_ad G p, xj_cell G (xn_W w.1) p)) := by
      unfold xj_mk
      rw [show xj_PL.take (xn_W w.1).2.2 = xj_PL from rfl]
    rw [← e]; exact hq
  rw [List.getElem?_map] at hq2
  cases hx : xj_PL[j]? with
  | none => rw [hx] at hq2; cases hq2
  | some p =>
    rw [hx] at hq2
    have hq3 : (xj_ad G p, xj_cell G (xn_W w.1) p) = q := Option.some.inj hq2
    rw [← hq3]
    have hmem : p ∈ xj_PL := List.mem_of_getElem? hx
    refine xm_cell (G := G) (w := w) (w2 := xn_W w.1) (xm_le p hmem) rfl (fun x hx hy => ?_) ?_
    · exact ((ha p hmem x hx).2.2 hy).symm
    · refine h3 j _ ?_
      unfold xj_mk
      rw [hn, show xj_PL.take 116 = xj_PL from rfl, List.getElem?_map, hx]
      rfl

theorem xm_n0 : (0 : Int32) = nI 0 := rfl
theorem xm_new {w : xj_W} (ha : xm_all w) : xc_T (pg_T0 (-1)) w.1 ∧ xt_T (pg_T0 (-1)) w.1 := by
  have I : ∀ k r i x, (k, r, i) ∈ xj_PL → x < xj_len k → w.1.1 k r i x = xm_I k r x := fun k r i x hp hx => (ha (k, r, i) hp x hx).1
  have J : ∀ k r i x, (k, r, i) ∈ xj_PL → x < xj_len k → w.1.2 k r i x = xm_J k := fun k r i x hp hx => (ha (k, r, i) hp x hx).2.1
  have mr : ∀ k, k ∈ [11, 12, 16, 18, 13, 14, 15, 17] → ∀ r, r < 4 → (k, r, 0) ∈ xj_PL := by decide +kernel
  have ms : ∀ k, k ∈ [13, 14, 15] → ∀ r, r < 4 → ∀ i, i < 4 → (k, r, i) ∈ xj_PL := by decide +kernel
  have mn : ∀ k, k ∈ [16, 17] → ∀ r, r < 4 → ∀ i, i < 2 → (k, r, i) ∈ xj_PL := by decide +kernel
  have mc : ∀ k, k ∈ [19, 20] → ∀ r, r < 2 → (k, r, 0) ∈ xj_PL := by decide +kernel
  have mg : ∀ k, k ≤ 45 → (k ≤ 10 ∨ 21 ≤ k) → (k, 0, 0) ∈ xj_PL := by decide +kernel
  refine ⟨⟨?_, ?_, ?_, ?_, ?_, ?_⟩, ?_, ?_, ?_, ?_, ?_⟩
  · exact ⟨I 1 0 0 6 (by decide) (by decide), Nat.zero_le _, fun m hm => absurd hm (Nat.not_lt_zero _), fun m hm => absurd hm (Nat.not_lt_zero _)⟩
  · exact ⟨0, ⟨I 1 0 0 7 (by decide) (by decide), Nat.le_refl _, fun x hx => absurd hx (Nat.not_lt_zero _), fun x _ hx => I 7 0 0 x (by decide) hx⟩, fun x _ hx => absurd hx (Nat.not_lt_zero _)⟩
  · intro r hr
    have a := fun x hx => I 11 r 0 x (mr 11 (by decide) r hr) hx
    refine ⟨⟨a 0 (by decide), a 6 (by decide), a 7 (by decide), a 8 (by decide), a 9 (by decide), J 11 r 0 10 (mr 11 (by decide) r hr) (by decide), a 11 (by decide), a 12 (by decide), a 13 (by decide)⟩, ⟨[], ⟨List.nodup_nil, by decide, I 16 r 0 1 (mr 16 (by decide) r hr) (by decide), fun j h => absurd h (Nat.not_lt_zero _)⟩, fun q => ⟨fun h => (by cases h), fun h => absurd h (show ¬ 0 = 1 by decide)⟩⟩, ⟨[], ⟨List.nodup_nil, by decide, I 16 r 1 1 (mn 16 (by decide) r hr 1 (by decide)) (by decide), fun j h => absurd h (Nat.not_lt_zero _)⟩, fun q => ⟨fun h => (by cases h), fun h => absurd h.1 (Nat.not_lt_zero _)⟩⟩, fun s hs => ?_, fun n h1 h2 => ⟨?_, ?_, ?_, fun s hs => ⟨?_, ?_⟩⟩⟩
    · exact I 18 r 0 s (mr 18 (by decide) r hr) hs
    · exact I 13 r (n % 4) 2 (ms 13 (by decide) r hr _ (Nat.mod_lt _ (by decide))) (by decide)
    · exact I 13 r (n % 4) 3 (ms 13 (by decide) r hr _ (Nat.mod_lt _ (by decide))) (by decide)
    · exact I 13 r (n % 4) 4 (ms 13 (by decide) r hr _ (Nat.mod_lt _ (by decide))) (by decide)
    · exact J 14 r (n % 4) s (ms 14 (by decide) r hr _ (Nat.mod_lt _ (by decide))) hs
    · exact J 15 r (n % 4) s (ms 15 (by decide) r hr _ (Nat.mod_lt _ (by decide))) hs
  · intro k hk
    have a := fun x hx => I 19 k 0 x (mc 19 (by decide) k hk) hx
    exact ⟨a 0 (by decide), a 3 (by decide), a 4 (by decide), a 5 (by decide), fun h => absurd rfl h⟩
  · exact fun p hp => I 10 0 0 p (by decide) hp
  · exact I 0 0 0 4 (by decide) (by decide)
  · exact ⟨I 21 0 0 0 (by decide) (by decide), Nat.zero_le _, fun m hm => absurd hm (Nat.not_lt_zero _), fun m hm => absurd hm (Nat.not_lt_zero _), fun m _ hm => I 27 0 0 m (by decide) hm⟩
  · intro r hr
    refine ⟨fun t ht => ?_, J 34 0 0 r (by decide) hr, fun t h1 h2 q hq => ?_, fun q => ⟨Nat.zero_le 1, Nat.zero_le 1⟩⟩
    · rcases (show t = 0 ∨ t = 1 ∨ t = 2 ∨ t = 3 ∨ t = 4 ∨ t = 5 by omega) with rfl | rfl | rfl | rfl | rfl | rfl
      · exact I 30 0 0 r (by decide) hr
      · exact I 31 0 0 r (by decide) hr
      · exact I 32 0 0 r (by decide) hr
      · exact I 33 0 0 r (by decide) hr
      · exact I 35 0 0 r (by decide) hr
      · exact I 36 0 0 r (by decide) hr
    · have hl : 200 * r + q < 800 := by omega
      rcases (show t = 6 ∨ t = 7 ∨ t = 8 ∨ t = 9 ∨ t = 10 by omega) with rfl | rfl | rfl | rfl | rfl
      · exact I 37 0 0 (200 * r + q) (by decide) hl
      · exact I 38 0 0 (200 * r + q) (by decide) hl
      · exact I 40 0 0 (200 * r + q) (by decide) hl
      · exact I 28 0 0 (200 * r + q) (by decide) hl
      · exact I 29 0 0 (200 * r + q) (by decide) hl
  · intro k hk
    refine ⟨I 41 0 0 k (by decide) hk, I 42 0 0 k (by decide) hk, I 43 0 0 k (by decide) hk, fun q hq => I 44 0 0 (200 * k + q) (by decide) (show 200 * k + q < 400 by omega), fun q => Nat.zero_le 1⟩
  · exact fun p hp => I 45 0 0 p (by decide) hp
  · exact I 21 0 0 20 (by decide) (by decide)
/-! each side keeps to its own places -/
theorem xc_T.U {T : pg_T} {v v' : xn_V} (h : xc_T T v) (f : xf_U v v') : xc_T T v' := by
  have key : ∀ u : xn_V, xc_T T u ↔ xc_T T (fun k r i x => if k ≤ 20 then u.1 k r i x else 0, fun k r i x => if k ≤ 20 then u.2 k r i x else 0) := fun u => Iff.rfl
  have e : ((fun k r i x => if k ≤ 20 then v'.1 k r i x else 0, fun k r i x => if k ≤ 20 then v'.2 k r i x else 0) : xn_V) = (fun k r i x => if k ≤ 20 then v.1 k r i x else 0, fun k r i x => if k ≤ 20 then v.2 k r i x else 0) := by
    refine Prod.ext ?_ ?_
    · funext k r i x
      by_cases hk : k ≤ 20
      · simp only [if_pos hk]; exact (f k r i x hk).1
      · simp only [if_neg hk]
    · funext k r i x
      by_cases hk : k ≤ 20
      · simp only [if_pos hk]; exact (f k r i x hk).2
      · simp only [if_neg hk]
  rw [key, e, ← key]
  exact h
theorem xt_T.G {T : pg_T} {v v' : xn_V} (h : xt_T T v) (f : xf_G v v') : xt_T T v' := by
  have kt : ∀ t, t ≤ 10 → 21 ≤ xt_k t := by decide
  obtain ⟨⟨b1, b2, b3, b4, b5⟩, h2, h3, h4, h5⟩ := h
  refine ⟨⟨?_, b2, b3, fun m hm => ?_, fun m h1 h2 => ?_⟩, fun r hr => ?_, fun k hk => ?_, fun p hp => ?_, ?_⟩
  · rw [(f 21 0 0 0 (by decide)).1]; exact b1
  · rw [(f 22 0 0 m (by decide)).1, (f 23 0 0 m (by decide)).1, (f 24 0 0 m (by decide)).1, (f 25 0 0 m (by decide)).2, (f 26 0 0 m (by decide)).1, (f 27 0 0 m (by decide)).1]; exact b4 m hm
  · rw [(f 27 0 0 m (by decide)).1]; exact b5 m h1 h2
  · obtain ⟨c1, c2, c3, c4⟩ := h2 r hr
    refine ⟨fun t ht => ?_, ?_, fun t g1 g2 q hq => ?_, c4⟩
    · rw [(f _ 0 0 r (kt t (by omega))).1]; exact c1 t ht
    · rw [(f 34 0 0 r (by decide)).2]; exact c2
    · rw [(f _ 0 0 _ (kt t g2)).1]; exact c3 t g1 g2 q hq
  · obtain ⟨c1, c2, c3, c4, c5⟩ := h3 k hk
    refine ⟨?_, ?_, ?_, fun q hq => ?_, c5⟩
    · rw [(f 41 0 0 k (by decide)).1]; exact c1
    · rw [(f 42 0 0 k (by decide)).1]; exact c2
    · rw [(f 43 0 0 k (by decide)).1]; exact c3
    · rw [(f 44 0 0 _ (by decide)).1]; exact c4 q hq
  · rw [(f 45 0 0 p (by decide)).1]; exact h4 p hp
  · rw [(f 21 0 0 20 (by decide)).1]; exact h5
