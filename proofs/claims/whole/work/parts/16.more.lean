def xp_b (b : Bool) : Int32 := if b then 1 else 0
theorem xp_b01 (b : Bool) : xp_b b = 0 ∨ xp_b b = 1 := by cases b <;> simp [xp_b]
theorem xp_bn (b : Bool) : narrow .boolean (.int (xp_b b)) = .int (xp_b b) := xn_bool (xp_b01 b)
theorem xp_b0 {b : Bool} : xp_b b = 0 ↔ b = false := by cases b <;> simp [xp_b]
theorem xp_b1 {b : Bool} : xp_b b = 1 ↔ b = true := by cases b <;> simp [xp_b]
theorem xp_cmp_eq {x y : Int64} : lg_cmp x y = 0 ↔ x = y := by
  unfold lg_cmp
  by_cases h1 : y < x
  · rw [if_pos h1]
    exact ⟨fun h => absurd h (by decide), fun h => by subst h; exact absurd h1 (Int64.lt_irrefl)⟩
  · rw [if_neg h1]
    by_cases h2 : x = y
    · rw [if_pos h2]; exact ⟨fun _ => h2, fun _ => rfl⟩
    · rw [if_neg h2]; exact ⟨fun h => absurd h (by decide), fun h => absurd h h2⟩
theorem xp_cmp_ne {x y : Int64} : lg_cmp x y = 0 ↔ x = y := xp_cmp_eq
theorem xp_cmp_gt {x y : Int64} : 0 < lg_cmp x y ↔ y < x := by
  unfold lg_cmp
  by_cases h1 : y < x
  · rw [if_pos h1]
    exact ⟨fun _ => h1, fun _ => by decide⟩
  · rw [if_neg h1]
    by_cases h2 : x = y
    · rw [if_pos h2]; exact ⟨fun h => absurd h (by decide), fun h => absurd h h1⟩
    · rw [if_neg h2]; exact ⟨fun h => absurd h (by decide), fun h => absurd h h1⟩
theorem xp_cmp_le {x y : Int64} : lg_cmp x y ≤ 0 ↔ x ≤ y := by
  rw [← Int32.not_lt, xp_cmp_gt, Int64.not_lt]
theorem xp_cmp_lt {x y : Int64} : lg_cmp x y < 0 ↔ x < y := by
  unfold lg_cmp
  by_cases h1 : y < x
  · rw [if_pos h1]
    exact ⟨fun h => absurd h (by decide), fun h => absurd h (Int64.not_lt.mpr (Int64.le_of_lt h1))⟩
  · rw [if_neg h1]
    by_cases h2 : x = y
    · rw [if_pos h2]; exact ⟨fun h => absurd h (by decide), fun h => by subst h2; exact absurd h Int64.lt_irrefl⟩
    · rw [if_neg h2]; exact ⟨fun _ => Int64.lt_of_le_of_ne (Int64.not_lt.mp h1) h2, fun _ => by decide⟩
theorem xp_cmp_ge {x y : Int64} : 0 ≤ lg_cmp x y ↔ y ≤ x := by
  rw [← Int32.not_lt, xp_cmp_lt, Int64.not_lt]
section XJ4
variable {E : xj_E} {G : xj_G} {cc : ByteArray} {own : String} {nL d q c0 s0 : Nat} {ret : Option FieldType} {Q : State → Prop} {cs sl pc nx : Nat} {L : List (Option Value)} {st rest : List Value} {w : xj_W}
theorem xj_iincN0 (C : xj_C E G cc own nL d q c0 s0 ret)  {j : Nat} (a : xj_At cc pc (.iinc 0 1) 3 nx)  (k : xj_X E G Q cs sl nx (some (.int (nI (j + 1))) :: L) st w) : xj_X E G Q cs sl pc (some (.int (nI j)) :: L) st w := by
  refine xj_iinc0 (v := 1) C a (by decide) ?_
  rw [nI_1]
  exact k
theorem xj_iincN1 (C : xj_C E G cc own nL d q c0 s0 ret) {a0 : Option Value} {j : Nat} (a : xj_At cc pc (.iinc 1 1) 3 nx) (hp : xj_nl a0 = true) (k : xj_X E G Q cs sl nx (a0 :: some (.int (nI (j + 1))) :: L) st w) : xj_X E G Q cs sl pc (a0 :: some (.int (nI j)) :: L) st w := by
  refine xj_iinc1 (v := 1) C a (by decide) hp ?_
  rw [nI_1]
  exact k
theorem xj_iincN2 (C : xj_C E G cc own nL d q c0 s0 ret) {a0 a1 : Option Value} {j : Nat} (a : xj_At cc pc (.iinc 2 1) 3 nx) (hp : xj_nl a1 = true) (k : xj_X E G Q cs sl nx (a0 :: a1 :: some (.int (nI (j + 1))) :: L) st w) : xj_X E G Q cs sl pc (a0 :: a1 :: some (.int (nI j)) :: L) st w := by
  refine xj_iinc2 (v := 1) C a (by decide) hp ?_
  rw [nI_1]
  exact k
theorem xj_iincN3 (C : xj_C E G cc own nL d q c0 s0 ret) {a0 a1 a2 : Option Value} {j : Nat} (a : xj_At cc pc (.iinc 3 1) 3 nx) (hp : xj_nl a2 = true) (k : xj_X E G Q cs sl nx (a0 :: a1 :: a2 :: some (.int (nI (j + 1))) :: L) st w) : xj_X E G Q cs sl pc (a0 :: a1 :: a2 :: some (.int (nI j)) :: L) st w := by
  refine xj_iinc3 (v := 1) C a (by decide) hp ?_
  rw [nI_1]
  exact k
theorem xj_iincN4 (C : xj_C E G cc own nL d q c0 s0 ret) {a0 a1 a2 a3 : Option Value} {j : Nat} (a : xj_At cc pc (.iinc 4 1) 3 nx) (hp : xj_nl a3 = true) (k : xj_X E G Q cs sl nx (a0 :: a1 :: a2 :: a3 :: some (.int (nI (j + 1))) :: L) st w) : xj_X E G Q cs sl pc (a0 :: a1 :: a2 :: a3 :: some (.int (nI j)) :: L) st w := by
  refine xj_iinc4 (v := 1) C a (by decide) hp ?_
  rw [nI_1]
  exact k
theorem xj_iincN5 (C : xj_C E G cc own nL d q c0 s0 ret) {a0 a1 a2 a3 a4 : Option Value} {j : Nat} (a : xj_At cc pc (.iinc 5 1) 3 nx) (hp : xj_nl a4 = true) (k : xj_X E G Q cs sl nx (a0 :: a1 :: a2 :: a3 :: a4 :: some (.int (nI (j + 1))) :: L) st w) : xj_X E G Q cs sl pc (a0 :: a1 :: a2 :: a3 :: a4 :: some (.int (nI j)) :: L) st w := by
  refine xj_iinc5 (v := 1) C a (by decide) hp ?_
  rw [nI_1]
  exact k
theorem xj_iincN6 (C : xj_C E G cc own nL d q c0 s0 ret) {a0 a1 a2 a3 a4 a5 : Option Value} {j : Nat} (a : xj_At cc pc (.iinc 6 1) 3 nx) (hp : xj_nl a5 = true) (k : xj_X E G Q cs sl nx (a0 :: a1 :: a2 :: a3 :: a4 :: a5 :: some (.int (nI (j + 1))) :: L) st w) : xj_X E G Q cs sl pc (a0 :: a1 :: a2 :: a3 :: a4 :: a5 :: some (.int (nI j)) :: L) st w := by
  refine xj_iinc6 (v := 1) C a (by decide) hp ?_
  rw [nI_1]
  exact k
theorem xj_iincN7 (C : xj_C E G cc own nL d q c0 s0 ret) {a0 a1 a2 a3 a4 a5 a6 : Option Value} {j : Nat} (a : xj_At cc pc (.iinc 7 1) 3 nx) (hp : xj_nl a6 = true) (k : xj_X E G Q cs sl nx (a0 :: a1 :: a2 :: a3 :: a4 :: a5 :: a6 :: some (.int (nI (j + 1))) :: L) st w) : xj_X E G Q cs sl pc (a0 :: a1 :: a2 :: a3 :: a4 :: a5 :: a6 :: some (.int (nI j)) :: L) st w := by
  refine xj_iinc7 (v := 1) C a (by decide) hp ?_
  rw [nI_1]
  exact k
theorem xj_iincN8 (C : xj_C E G cc own nL d q c0 s0 ret) {a0 a1 a2 a3 a4 a5 a6 a7 : Option Value} {j : Nat} (a : xj_At cc pc (.iinc 8 1) 3 nx) (hp : xj_nl a7 = true) (k : xj_X E G Q cs sl nx (a0 :: a1 :: a2 :: a3 :: a4 :: a5 :: a6 :: a7 :: some (.int (nI (j + 1))) :: L) st w) : xj_X E G Q cs sl pc (a0 :: a1 :: a2 :: a3 :: a4 :: a5 :: a6 :: a7 :: some (.int (nI j)) :: L) st w := by
  refine xj_iinc8 (v := 1) C a (by decide) hp ?_
  rw [nI_1]
  exact k
theorem xj_iincN9 (C : xj_C E G cc own nL d q c0 s0 ret) {a0 a1 a2 a3 a4 a5 a6 a7 a8 : Option Value} {j : Nat} (a : xj_At cc pc (.iinc 9 1) 3 nx) (hp : xj_nl a8 = true) (k : xj_X E G Q cs sl nx (a0 :: a1 :: a2 :: a3 :: a4 :: a5 :: a6 :: a7 :: a8 :: some (.int (nI (j + 1))) :: L) st w) : xj_X E G Q cs sl pc (a0 :: a1 :: a2 :: a3 :: a4 :: a5 :: a6 :: a7 :: a8 :: some (.int (nI j)) :: L) st w := by
  refine xj_iinc9 (v := 1) C a (by decide) hp ?_
  rw [nI_1]
  exact k
theorem xj_iincN10 (C : xj_C E G cc own nL d q c0 s0 ret) {a0 a1 a2 a3 a4 a5 a6 a7 a8 a9 : Option Value} {j : Nat} (a : xj_At cc pc (.iinc 10 1) 3 nx) (hp : xj_nl a9 = true) (k : xj_X E G Q cs sl nx (a0 :: a1 :: a2 :: a3 :: a4 :: a5 :: a6 :: a7 :: a8 :: a9 :: some (.int (nI (j + 1))) :: L) st w) : xj_X E G Q cs sl pc (a0 :: a1 :: a2 :: a3 :: a4 :: a5 :: a6 :: a7 :: a8 :: a9 :: some (.int (nI j)) :: L) st w := by
  refine xj_iinc10 (v := 1) C a (by decide) hp ?_
  rw [nI_1]
  exact k
theorem xj_iincN11 (C : xj_C E G cc own nL d q c0 s0 ret) {a0 a1 a2 a3 a4 a5 a6 a7 a8 a9 a10 : Option Value} {j : Nat} (a : xj_At cc pc (.iinc 11 1) 3 nx) (hp : xj_nl a10 = true) (k : xj_X E G Q cs sl nx (a0 :: a1 :: a2 :: a3 :: a4 :: a5 :: a6 :: a7 :: a8 :: a9 :: a10 :: some (.int (nI (j + 1))) :: L) st w) : xj_X E G Q cs sl pc (a0 :: a1 :: a2 :: a3 :: a4 :: a5 :: a6 :: a7 :: a8 :: a9 :: a10 :: some (.int (nI j)) :: L) st w := by
  refine xj_iinc11 (v := 1) C a (by decide) hp ?_
  rw [nI_1]
  exact k
theorem xj_iincN12 (C : xj_C E G cc own nL d q c0 s0 ret) {a0 a1 a2 a3 a4 a5 a6 a7 a8 a9 a10 a11 : Option Value} {j : Nat} (a : xj_At cc pc (.iinc 12 1) 3 nx) (hp : xj_nl a11 = true) (k : xj_X E G Q cs sl nx (a0 :: a1 :: a2 :: a3 :: a4 :: a5 :: a6 :: a7 :: a8 :: a9 :: a10 :: a11 :: some (.int (nI (j + 1))) :: L) st w) : xj_X E G Q cs sl pc (a0 :: a1 :: a2 :: a3 :: a4 :: a5 :: a6 :: a7 :: a8 :: a9 :: a10 :: a11 :: some (.int (nI j)) :: L) st w := by
  refine xj_iinc12 (v := 1) C a (by decide) hp ?_
  rw [nI_1]
  exact k
theorem xj_iincN13 (C : xj_C E G cc own nL d q c0 s0 ret) {a0 a1 a2 a3 a4 a5 a6 a7 a8 a9 a10 a11 a12 : Option Value} {j : Nat} (a : xj_At cc pc (.iinc 13 1) 3 nx) (hp : xj_nl a12 = true) (k : xj_X E G Q cs sl nx (a0 :: a1 :: a2 :: a3 :: a4 :: a5 :: a6 :: a7 :: a8 :: a9 :: a10 :: a11 :: a12 :: some (.int (nI (j + 1))) :: L) st w) : xj_X E G Q cs sl pc (a0 :: a1 :: a2 :: a3 :: a4 :: a5 :: a6 :: a7 :: a8 :: a9 :: a10 :: a11 :: a12 :: some (.int (nI j)) :: L) st w := by
  refine xj_iinc13 (v := 1) C a (by decide) hp ?_
  rw [nI_1]
  exact k
theorem xj_iincN14 (C : xj_C E G cc own nL d q c0 s0 ret) {a0 a1 a2 a3 a4 a5 a6 a7 a8 a9 a10 a11 a12 a13 : Option Value} {j : Nat} (a : xj_At cc pc (.iinc 14 1) 3 nx) (hp : xj_nl a13 = true) (k : xj_X E G Q cs sl nx (a0 :: a1 :: a2 :: a3 :: a4 :: a5 :: a6 :: a7 :: a8 :: a9 :: a10 :: a11 :: a12 :: a13 :: some (.int (nI (j + 1))) :: L) st w) : xj_X E G Q cs sl pc (a0 :: a1 :: a2 :: a3 :: a4 :: a5 :: a6 :: a7 :: a8 :: a9 :: a10 :: a11 :: a12 :: a13 :: some (.int (nI j)) :: L) st w := by
  refine xj_iinc14 (v := 1) C a (by decide) hp ?_
  rw [nI_1]
  exact k
theorem xj_iincN15 (C : xj_C E G cc own nL d q c0 s0 ret) {a0 a1 a2 a3 a4 a5 a6 a7 a8 a9 a10 a11 a12 a13 a14 : Option Value} {j : Nat} (a : xj_At cc pc (.iinc 15 1) 3 nx) (hp : xj_nl a14 = true) (k : xj_X E G Q cs sl nx (a0 :: a1 :: a2 :: a3 :: a4 :: a5 :: a6 :: a7 :: a8 :: a9 :: a10 :: a11 :: a12 :: a13 :: a14 :: some (.int (nI (j + 1))) :: L) st w) : xj_X E G Q cs sl pc (a0 :: a1 :: a2 :: a3 :: a4 :: a5 :: a6 :: a7 :: a8 :: a9 :: a10 :: a11 :: a12 :: a13 :: a14 :: some (.int (nI j)) :: L) st w := by
  refine xj_iinc15 (v := 1) C a (by decide) hp ?_
  rw [nI_1]
  exact k
theorem xj_ldc_w (C : xj_C E G cc own nL d q c0 s0 ret) {index : Nat} {v : Int32} (a : xj_At cc pc (.ldc_w index) 3 nx) (hw : Cond.constant own index v ∈ xj_GW) (k : xj_X E G Q cs sl nx L (.int v :: st) w) : xj_X E G Q cs sl pc L st w := by
  obtain ⟨hd, hn⟩ := a
  subst hn
  exact fun ls H locs h1 h2 h3 h4 => lv_ldcw C.1 C.2.1 C.2.2.2.1 (C.2.2.2.2.1 _ hw) hd (k ls H locs h1 h2 h3 h4)
theorem xj_alenI (C : xj_C E G cc own nL d q c0 s0 ret) {k r i : Nat} (a : xj_At cc pc .arraylength 1 nx) (hk : xj_knd k = 0) (hp : xj_ok (k, r, i) w.2.2) (kk : xj_X E G Q cs sl nx L (.int (nI (xj_len k)) :: st) w) : xj_X E G Q cs sl pc L (.ref (xj_ad G (k, r, i)) :: st) w := by
  obtain ⟨hd, hn0⟩ := a
  subst hn0
  intro ls H locs h1 h2 h3 h4
  have he := xj_at (G := G) hp
  unfold xj_cell at he
  simp only [hk] at he
  exact va_alen C.1 C.2.1 C.2.2.2.2.2.2.1 h3 _ 0 he rfl rfl hd (kk ls H locs h1 h2 h3 h4)
theorem xj_alenJ (C : xj_C E G cc own nL d q c0 s0 ret) {k r i : Nat} (a : xj_At cc pc .arraylength 1 nx) (hk : xj_knd k = 2) (hp : xj_ok (k, r, i) w.2.2) (kk : xj_X E G Q cs sl nx L (.int (nI (xj_len k)) :: st) w) : xj_X E G Q cs sl pc L (.ref (xj_ad G (k, r, i)) :: st) w := by
  obtain ⟨hd, hn0⟩ := a
  subst hn0
  intro ls H locs h1 h2 h3 h4
  have he := xj_at (G := G) hp
  unfold xj_cell at he
  simp only [hk] at he
  exact va_alen C.1 C.2.1 C.2.2.2.2.2.2.1 h3 _ 2 he rfl rfl hd (kk ls H locs h1 h2 h3 h4)
/-- a place in an array by a number's name -/
theorem xj_ix_of {x : Int32} {j : Nat} (h : x = nI j) (k : xj_X E G Q cs sl pc L (.int (nI j) :: st) w) : xj_X E G Q cs sl pc L (.int x :: st) w := h ▸ k
end XJ4
