/-! making places -/
def xj_n1 (w : xj_W) : xj_W := (w.1, (w.2.1, w.2.2 + 1))
/-- what isn't made yet holds nothing -/
def xj_Z (w : xj_W) : Prop := ∀ (q k r i : Nat), w.2.2 ≤ q → xj_PL[q]? = some (k, r, i) → ∀ x, w.1.1 k r i x = 0 ∧ w.1.2 k r i x = 0 ∧ w.2.1 k r i x = none
theorem xj_Z.n1 {w : xj_W} (h : xj_Z w) : xj_Z (xj_n1 w) := fun q k r i hq hp => h q k r i (Nat.le_of_succ_le hq) hp
theorem xj_Z.ne {w : xj_W} {p : xj_Pl} (hp : xj_ok p w.2.2) {q : Nat} {p' : xj_Pl} (hq : w.2.2 ≤ q) (hp' : xj_PL[q]? = some p') : p' ≠ p := by
  intro e
  subst e
  have := xj_PL_ix q p' hp'
  have := hp.2
  omega
theorem xj_Z.uI {w : xj_W} (h : xj_Z w) {k r i x : Nat} {y : Int32} (hp : xj_ok (k, r, i) w.2.2) : xj_Z (xj_uI w k r i x y) := by
  intro q k' r' i' hq hp' x'
  have hne := xj_Z.ne hp hq hp'
  have := h q k' r' i' hq hp' x'
  refine ⟨?_, this.2⟩
  show (if k' = k ∧ r' = r ∧ i' = i ∧ x' = x then y else w.1.1 k' r' i' x') = 0
  rw [if_neg (by rintro ⟨rfl, rfl, rfl, -⟩; exact hne rfl)]
  exact this.1
theorem xj_Z.uJ {w : xj_W} (h : xj_Z w) {k r i x : Nat} {y : Int64} (hp : xj_ok (k, r, i) w.2.2) : xj_Z (xj_uJ w k r i x y) := by
  intro q k' r' i' hq hp' x'
  have hne := xj_Z.ne hp hq hp'
  have := h q k' r' i' hq hp' x'
  refine ⟨this.1, ?_, this.2.2⟩
  show (if k' = k ∧ r' = r ∧ i' = i ∧ x' = x then y else w.1.2 k' r' i' x') = 0
  rw [if_neg (by rintro ⟨rfl, rfl, rfl, -⟩; exact hne rfl)]
  exact this.2.1
theorem xj_Z.uK {w : xj_W} (h : xj_Z w) {k r i x : Nat} {y : Option xj_Pl} (hp : xj_ok (k, r, i) w.2.2) : xj_Z (xj_uK w k r i x y) := by
  intro q k' r' i' hq hp' x'
  have hne := xj_Z.ne hp hq hp'
  have := h q k' r' i' hq hp' x'
  refine ⟨this.1, this.2.1, ?_⟩
  show (if k' = k ∧ r' = r ∧ i' = i ∧ x' = x then y else w.2.1 k' r' i' x') = none
  rw [if_neg (by rintro ⟨rfl, rfl, rfl, -⟩; exact hne rfl)]
  exact this.2.2
theorem xj_mk_n1 {G : xj_G} {w : xj_W} {p : xj_Pl} (hp : xj_PL[w.2.2]? = some p) : xj_mk G (xj_n1 w) = xj_mk G w ++ [(xj_ad G p, xj_cell G w p)] := by
  unfold xj_mk
  show (xj_PL.take (w.2.2 + 1)).map (fun p => (xj_ad G p, xj_cell G (xj_n1 w) p)) = _
  rw [List.take_add_one, hp, List.map_append]
  rfl
theorem xj_ad_n {G : xj_G} {w : xj_W} {p : xj_Pl} (hp : xj_PL[w.2.2]? = some p) : xj_ad G p = G.2.2 + w.2.2 := by
  unfold xj_ad
  rw [xj_PL_ix _ _ hp]
def xj_dv (t : Nat) : Value := match t with
  | 0 => .int 0
  | 1 => .long 0
  | _ => .null
section XK
variable {E : xj_E} {G : xj_G} {cc : ByteArray} {own : String} {nL d q c0 s0 : Nat} {ret : Option FieldType} {Q : State → Prop} {cs sl pc nx : Nat} {L : List (Option Value)} {st rest : List Value} {w : xj_W}
theorem xj_same {w2 : xj_W} (hn : w.2.2 = w2.2.2) (hm : xj_mk G w = xj_mk G w2) (k : xj_X E G Q cs sl pc L st w2) : xj_X E G Q cs sl pc L st w := by
  intro ls H locs h1 h2 h3 h4
  exact k ls H locs h1 (by rw [← hn]; exact h2) (by rw [← hm]; exact h3) h4
theorem xj_grown {p : xj_Pl} (hp : xj_PL[w.2.2]? = some p) {H H1 : Heap} (h2 : H.size = G.2.2 + w.2.2) (h3 : va_P G.1 xj_cl (xj_mk G w) H) (z1 : H1.size = H.size + 1) (o1 : ∀ q : Nat, q < H.size → H1[q]? = H[q]?) (ha : va_at G.1 xj_cl (xj_ad G p, xj_cell G w p) H1) {H0 : Heap} {locs : List Loc} (h4 : va_S (xj_A G) H0 H locs) : H1.size = G.2.2 + (xj_n1 w).2.2 ∧ va_P G.1 xj_cl (xj_mk G (xj_n1 w)) H1 ∧ va_S (xj_A G) H0 H1 locs := by
  refine ⟨by rw [z1, h2]; rfl, ?_, ⟨Nat.le_trans h4.1 (by omega), fun x g1 g2 => (o1 x (Nat.lt_of_lt_of_le g1 h4.1)).trans (h4.2.1 x g1 g2), h4.2.2⟩⟩
  rw [xj_mk_n1 hp]
  have hk : ∀ (k : Nat) (x : Nat × va_E), (xj_mk G w)[k]? = some x → H1[x.1]? = H[x.1]? := fun k x hx => o1 x.1 ((h3 k x hx).lt)
  refine (h3.kept hk).app (fun k x hx => ?_)
  have hz : k < 1 := (List.getElem?_eq_some_iff.mp hx).1
  rw [show k = 0 by omega] at hx
  cases hx
  exact ha
theorem xj_new (C : xj_C E G cc own nL d q c0 s0 ret) {index k r i ci N : Nat} {Cn : String} {T : u_T} {ty0 : Nat → FieldType} (a : xj_At cc pc (.new index) 3 nx) (F : xj_CF ci Cn T N ty0) (hcl : Cond.classLink own index Cn ∈ xj_GW) (hin : Cond.instantiable Cn N ∈ xj_GW) (hini : Cond.initialized Cn ∈ xj_GW) (hk : xj_knd k = 4 ∧ xj_cls k = ci ∧ xj_len k = N) (hd : ∀ x, x < N → defaultValue (ty0 x) = xj_dv (xj_typ k x)) (hp : xj_PL[w.2.2]? = some (k, r, i)) (hZ : xj_Z w) (hc : cs + 1 ≤ c0 ∧ sl + N ≤ s0) (kk : xj_X E G Q (cs + 1) (sl + N) nx L (.ref (xj_ad G (k, r, i)) :: st) (xj_n1 w)) : xj_X E G Q cs sl pc L st w := by
  obtain ⟨hdc, hn0⟩ := a
  subst hn0
  obtain ⟨k1, k2, k3⟩ := hk
  intro ls H locs h1 h2 h3 h4
  have hR := C.2.2.2.2.2.2.2.1
  have hKn := C.2.2.2.2.2.2.1.1 ci _ F.1
  refine W.newcK C.1 C.2.1 C.2.2.2.1 (C.2.2.2.2.1 _ hcl) (C.2.2.2.2.1 _ hin) (C.2.2.2.2.1 _ hini) rfl hdc (by omega) (by omega) hKn.2.1 rfl fun H1 kC hkC e1 z1 o1 => ?_
  have had : xj_ad G (k, r, i) = H.size := by rw [xj_ad_n hp, h2]
  obtain ⟨g1, g2, g3⟩ := xj_grown (G := G) hp h2 h3 z1 o1 (by
    rw [had, xj_obj k1, k2, k3]
    refine ⟨_, F.1, (u_born ty0 C.2.2.2.2.1 F.2.1 hKn hkC e1 F.2.2.1).to (fun j hj => ?_)⟩
    rw [hd j hj]
    have hz := hZ _ _ _ _ (Nat.le_refl _) hp j
    show _ = ((List.range N).map (fun x => xj_fv G w k r i x)).getD j .null
    have : ((List.range N).map (fun x => xj_fv G w k r i x)).getD j .null = xj_fv G w k r i j := by simp [hj]
    rw [this]
    unfold xj_fv xj_dv
    split
    · rename_i e; rw [e]; simp only; rw [hz.1]
    · rename_i e; rw [e]; simp only; rw [hz.2.1]
    · rename_i e1 e2
      rw [hz.2.2]
      split
      · exact absurd (by assumption) e1
      · exact absurd (by assumption) e2
      · rfl) h4
  rw [had] at kk
  exact kk ls H1 locs h1 g1 g2 g3
/-- a new array of ints, booleans, longs; of references -/
theorem xj_newI (C : xj_C E G cc own nL d q c0 s0 ret) {k r i : Nat} (a : xj_At cc pc (.newarray .int) 2 nx) (hk : xj_knd k = 0 ∧ xj_len k < 1000) (hp : xj_PL[w.2.2]? = some (k, r, i)) (hZ : xj_Z w) (hc : cs + 1 ≤ c0 ∧ sl + xj_len k ≤ s0) (kk : xj_X E G Q (cs + 1) (sl + xj_len k) nx L (.ref (xj_ad G (k, r, i)) :: st) (xj_n1 w)) : xj_X E G Q cs sl pc L (.int (nI (xj_len k)) :: st) w := by
  obtain ⟨hdc, hn0⟩ := a
  subst hn0
  intro ls H locs h1 h2 h3 h4
  have hR := C.2.2.2.2.2.2.2.1
  have had : xj_ad G (k, r, i) = H.size := by rw [xj_ad_n hp, h2]
  have hcb : xj_len k * componentBytes .int ≤ 536870912 := by
    have h8 : componentBytes .int ≤ 8 := by decide
    exact Nat.le_trans (Nat.mul_le_mul (Nat.le_of_lt hk.2) h8) (by decide)
  have hlen := hk.2
  refine va_newaK (atype := .int) C.1 C.2.1 (C.2.2.2.2.1 _ aw_int) rfl hdc rfl (nI_pos (by omega)) (nI_clamp (by omega)) hcb (by omega) (by omega) rfl fun H1 cA e1 z1 o1 hAr hNm => ?_
  have hcA : cA = G.2.1 0 := Option.some.inj (hNm.symm.trans (C.2.2.2.2.2.2.1.2 0 _ rfl).2)
  obtain ⟨g1, g2, g3⟩ := xj_grown (G := G) hp h2 h3 z1 o1 (by
    rw [had]
    have e : xj_cell G w (k, r, i) = .inl (G.2.1 0, xj_len k, .inl (w.1.1 k r i)) := by unfold xj_cell; simp only [hk.1]
    rw [e]
    show H1[H.size]? = some (vp_cell _ _)
    rw [e1, hcA, vp_cell_i]
    congr 2
    funext j
    rw [(hZ _ _ _ _ (Nat.le_refl _) hp j).1]
    rfl) h4
  rw [had] at kk
  exact kk ls H1 locs h1 g1 g2 g3
theorem xj_newZ (C : xj_C E G cc own nL d q c0 s0 ret) {k r i : Nat} (a : xj_At cc pc (.newarray .boolean) 2 nx) (hk : xj_knd k = 1 ∧ xj_len k < 1000) (hp : xj_PL[w.2.2]? = some (k, r, i)) (hZ : xj_Z w) (hc : cs + 1 ≤ c0 ∧ sl + xj_len k ≤ s0) (kk : xj_X E G Q (cs + 1) (sl + xj_len k) nx L (.ref (xj_ad G (k, r, i)) :: st) (xj_n1 w)) : xj_X E G Q cs sl pc L (.int (nI (xj_len k)) :: st) w := by
  obtain ⟨hdc, hn0⟩ := a
  subst hn0
  intro ls H locs h1 h2 h3 h4
  have hR := C.2.2.2.2.2.2.2.1
  have had : xj_ad G (k, r, i) = H.size := by rw [xj_ad_n hp, h2]
  have hcb : xj_len k * componentBytes .boolean ≤ 536870912 := by
    have h8 : componentBytes .boolean ≤ 8 := by decide
    exact Nat.le_trans (Nat.mul_le_mul (Nat.le_of_lt hk.2) h8) (by decide)
  have hlen := hk.2
  refine va_newaK (atype := .boolean) C.1 C.2.1 (C.2.2.2.2.1 _ aw_boolean) rfl hdc rfl (nI_pos (by omega)) (nI_clamp (by omega)) hcb (by omega) (by omega) rfl fun H1 cA e1 z1 o1 hAr hNm => ?_
  have hcA : cA = G.2.1 1 := Option.some.inj (hNm.symm.trans (C.2.2.2.2.2.2.1.2 1 _ rfl).2)
  obtain ⟨g1, g2, g3⟩ := xj_grown (G := G) hp h2 h3 z1 o1 (by
    rw [had]
    have e : xj_cell G w (k, r, i) = .inl (G.2.1 1, xj_len k, .inl (w.1.1 k r i)) := by unfold xj_cell; simp only [hk.1]
    rw [e]
    show H1[H.size]? = some (vp_cell _ _)
    rw [e1, hcA, vp_cell_i]
    congr 2
    funext j
    rw [(hZ _ _ _ _ (Nat.le_refl _) hp j).1]
    rfl) h4
  rw [had] at kk
  exact kk ls H1 locs h1 g1 g2 g3
theorem xj_newJ (C : xj_C E G cc own nL d q c0 s0 ret) {k r i : Nat} (a : xj_At cc pc (.newarray .long) 2 nx) (hk : xj_knd k = 2 ∧ xj_len k < 1000) (hp : xj_PL[w.2.2]? = some (k, r, i)) (hZ : xj_Z w) (hc : cs + 1 ≤ c0 ∧ sl + xj_len k ≤ s0) (kk : xj_X E G Q (cs + 1) (sl + xj_len k) nx L (.ref (xj_ad G (k, r, i)) :: st) (xj_n1 w)) : xj_X E G Q cs sl pc L (.int (nI (xj_len k)) :: st) w := by
  obtain ⟨hdc, hn0⟩ := a
  subst hn0
  intro ls H locs h1 h2 h3 h4
  have hR := C.2.2.2.2.2.2.2.1
  have had : xj_ad G (k, r, i) = H.size := by rw [xj_ad_n hp, h2]
  have hcb : xj_len k * componentBytes .long ≤ 536870912 := by
    have h8 : componentBytes .long ≤ 8 := by decide
    exact Nat.le_trans (Nat.mul_le_mul (Nat.le_of_lt hk.2) h8) (by decide)
  have hlen := hk.2
  refine va_newaK (atype := .long) C.1 C.2.1 (C.2.2.2.2.1 _ aw_long) rfl hdc rfl (nI_pos (by omega)) (nI_clamp (by omega)) hcb (by omega) (by omega) rfl fun H1 cA e1 z1 o1 hAr hNm => ?_
  have hcA : cA = G.2.1 2 := Option.some.inj (hNm.symm.trans (C.2.2.2.2.2.2.1.2 2 _ rfl).2)
  obtain ⟨g1, g2, g3⟩ := xj_grown (G := G) hp h2 h3 z1 o1 (by
    rw [had]
    have e : xj_cell G w (k, r, i) = .inl (G.2.1 2, xj_len k, .inr (.inl (w.1.2 k r i))) := by unfold xj_cell; simp only [hk.1]
    rw [e]
    show H1[H.size]? = some (vp_cell _ _)
    rw [e1, hcA, vp_cell_l]
    congr 2
    funext j
    rw [(hZ _ _ _ _ (Nat.le_refl _) hp j).2.1]
    rfl) h4
  rw [had] at kk
  exact kk ls H1 locs h1 g1 g2 g3
theorem xj_newK (C : xj_C E G cc own nL d q c0 s0 ret) {index k r i t0 : Nat} {Cn : String} (a : xj_At cc pc (.anewarray index) 3 nx) (hcl : Cond.classLink own index Cn ∈ xj_GW) (how : Cond.arrayOver (.object Cn) ∈ xj_NW) (hk : xj_knd k = 3 ∧ xj_len k < 1000 ∧ xj_cls k = t0 ∧ (xj_ty G)[t0]? = some (G.2.1 t0, .object Cn)) (hp : xj_PL[w.2.2]? = some (k, r, i)) (hZ : xj_Z w) (hc : cs + 1 ≤ c0 ∧ sl + xj_len k ≤ s0) (kk : xj_X E G Q (cs + 1) (sl + xj_len k) nx L (.ref (xj_ad G (k, r, i)) :: st) (xj_n1 w)) : xj_X E G Q cs sl pc L (.int (nI (xj_len k)) :: st) w := by
  obtain ⟨hdc, hn0⟩ := a
  subst hn0
  obtain ⟨k1, k2, k3, k4⟩ := hk
  intro ls H locs h1 h2 h3 h4
  have hR := C.2.2.2.2.2.2.2.1
  have had : xj_ad G (k, r, i) = H.size := by rw [xj_ad_n hp, h2]
  have hcl2 : (nI (xj_len k)).toNatClampNeg = xj_len k := nI_clamp (by omega)
  refine W.anew C.1 C.2.1 C.2.2.2.1 (C.2.2.2.2.1 _ hcl) (va_AO.use (C.2.2.2.2.2.1 _ how)) rfl hdc rfl (nI_pos (by omega)) (by rw [hcl2]; omega) (by omega) (by rw [hcl2]; omega) fun cA kA comp f1 f2 f3 f4 => ?_
  rw [hcl2]
  generalize hH1 : H.push ({ cls := cA, slots := Array.replicate (xj_len k) .null, vm := .none } : Cell) = H1
  have z1 : H1.size = H.size + 1 := by rw [← hH1, Array.size_push]
  have e1 : H1[H.size]? = some (arrV cA (xj_len k) (fun _ => .null)) := by rw [← hH1, Array.getElem?_push_size, ← arrV_new]
  have o1 : ∀ q : Nat, q < H.size → H1[q]? = H[q]? := fun q hq => by rw [← hH1, Array.getElem?_push, if_neg (Nat.ne_of_lt hq)]
  obtain ⟨-, -, -, -, -, hRA⟩ := (C.2.2.2.2.2.2.1.2 t0 _ k4).2
  have hcA : cA = G.2.1 t0 := Option.some.inj (f1.symm.trans hRA)
  obtain ⟨g1, g2, g3⟩ := xj_grown (G := G) hp h2 h3 z1 o1 (by
    rw [had]
    have e : xj_cell G w (k, r, i) = .inl (G.2.1 t0, xj_len k, .inr (.inr (.inr (.inr (fun x => (w.2.1 k r i x).map (xj_ad G)))))) := by unfold xj_cell; simp only [k1, k3]
    rw [e]
    show H1[H.size]? = some (vp_cell _ _)
    rw [e1, hcA, vp_cell_q]
    congr 2
    funext j
    rw [(hZ _ _ _ _ (Nat.le_refl _) hp j).2.2]
    rfl) h4
  rw [had] at kk
  exact kk ls H1 locs h1 g1 g2 g3
/-- a reference is put into an array -/
theorem xj_aast (C : xj_C E G cc own nL d q c0 s0 ret) {k r i t0 j k2 r2 i2 ci : Nat} {qc : vw_C} (a : xj_At cc pc .aastore 1 nx) (hk : xj_knd k = 3 ∧ xj_cls k = t0 ∧ (xj_ty G)[t0]? = some (G.2.1 t0, .object qc.1)) (hk2 : xj_knd k2 = 4 ∧ xj_cls k2 = ci ∧ xj_cl[ci]? = some qc) (hp : xj_ok (k, r, i) w.2.2) (hp2 : xj_ok (k2, r2, i2) w.2.2) (hj : j < xj_len k) (hj2 : j < 1000) (kk : xj_X E G Q cs sl nx L st (xj_uK w k r i j (some (k2, r2, i2)))) : xj_X E G Q cs sl pc L (.ref (xj_ad G (k2, r2, i2)) :: .int (nI j) :: .ref (xj_ad G (k, r, i)) :: st) w := by
  obtain ⟨hdc, hn0⟩ := a
  subst hn0
  obtain ⟨m1, m2, m3⟩ := hk
  obtain ⟨l1, l2, l3⟩ := hk2
  intro ls H locs h1 h2 h3 h4
  have he := xj_at (G := G) hp
  have he2 := xj_at (G := G) hp2
  rw [xj_obj l1, l2] at he2
  have ec : xj_cell G w (k, r, i) = .inl (G.2.1 t0, xj_len k, .inr (.inr (.inr (.inr (fun x => (w.2.1 k r i x).map (xj_ad G)))))) := by unfold xj_cell; simp only [m1, m2]
  have ec2 : xj_cell G (xj_uK w k r i j (some (k2, r2, i2))) (k, r, i) = .inl (G.2.1 t0, xj_len k, .inr (.inr (.inr (.inr (fun x => ((xj_uK w k r i j (some (k2, r2, i2))).2.1 k r i x).map (xj_ad G)))))) := by unfold xj_cell; simp only [m1, m2]
  rw [ec] at he
  have hs := xj_mk_set (G := G) (w' := xj_uK w k r i j (some (k2, r2, i2))) hp rfl xj_uK_oth
  rw [ec2] at hs
  obtain ⟨r', hr', cellV, g1, g2, g3, -⟩ := h3 _ _ he2
  have hcls := (C.2.2.2.2.2.2.1.1 ci qc l3).2
  obtain ⟨kA, comp, c1, c2, c3, -⟩ := (C.2.2.2.2.2.2.1.2 t0 _ m3).2
  have hcomp : comp = G.1.1 ci := Option.some.inj (c3.symm.trans hcls.1)
  subst hcomp
  obtain ⟨kC, hkC, -⟩ := hcls.2
  have hclamp : (nI j).toNatClampNeg = j := nI_clamp (by omega)
  refine W.aast C.1 C.2.1 (h3 _ _ he) (fun q h => by cases h) (fun h => by cases h) c1 c2 rfl hkC ⟨nI_pos (by omega), by show _ < (arrV _ _ _).slots.size; rw [arrV_size, hclamp]; exact hj⟩ g1 (fun q h => by rw [g3] at h; cases h) (by rw [g2]; exact hkC) (by rw [g2]; exact va_assign hcls) rfl rfl hdc fun H1 e z oq => ?_
  refine kk ls H1 _ h1 (by rw [z, h2]; rfl) ?_ (h4.put z oq ((xj_D G w).2 _ _ he))
  rw [← hs]
  refine h3.set (xj_D G w) he ?_ oq
  show H1[xj_ad G (k, r, i)]? = some (vp_cell _ _)
  rw [e]
  rw [vp_cell_q, vp_cell_q, arrV_store, hclamp]
  congr 2
  funext y
  show updV _ j _ y = va_rf ((if k = k ∧ r = r ∧ i = i ∧ y = j then some (k2, r2, i2) else w.2.1 k r i y).map (xj_ad G))
  by_cases hq : y = j
  · subst hq
    simp [updV, va_rf]
  · simp [updV, hq]
/-- Object's own constructor -/
theorem xj_oinit (C : xj_C E G cc own nL d q c0 s0 ret) {index b : Nat} (a : xj_At cc pc (.invokespecial index) 3 nx) (hL : Cond.methodLink own index Lib.objectInit ∈ xj_GW) (hI : Cond.instanceMethod Lib.objectInit ∈ xj_GW) (hcd : Cond.code Lib.objectInit ⟨#[0xb1]⟩ 1 none ∈ xj_GW) (hd : 1 ≤ d ∧ 20 ≤ q) (hnl : L.length = nL) (hst : (st.map fun v => v.category).sum ≤ 8) (kk : xj_X E G Q cs sl nx L st w) : xj_X E G Q cs sl pc L (.ref b :: st) w := by
  obtain ⟨hdc, hn0⟩ := a
  subst hn0
  intro ls H locs h1 h2 h3 h4
  have hR := C.2.2.2.2.2.2.2.1
  refine W.objInit C.1 C.2.1 C.2.2.2.1 (C.2.2.2.2.1 _ hL) (C.2.2.2.2.1 _ hI) (C.2.2.2.2.1 _ hcd) rfl (h1.1.trans (hnl.trans C.2.2.1.symm)) rfl hdc (by omega) (by show 2 * 0 + _ + 12 ≤ _; omega) (kk ls H locs h1 h2 h3 h4)
/-- fields of any world -/
theorem xj_gK (C : xj_C E G cc own nL d q c0 s0 ret) {index k r i x ci N : Nat} {Cn : String} {T : u_T} {ty0 : Nat → FieldType} {p2 : xj_Pl} (a : xj_At cc pc (.getfield index) 3 nx) (F : xj_CF ci Cn T N ty0) (hl : xj_FL own index (T x).1 (T x).2.1 (T x).2.2.1) (hk : xj_knd k = 4 ∧ xj_cls k = ci ∧ xj_len k = N) (hx : x < N) (ht : xj_typ k x = 2) (hp : xj_ok (k, r, i) w.2.2) (hv : w.2.1 k r i x = some p2) (kk : xj_X E G Q cs sl nx L (.ref (xj_ad G p2) :: st) w) : xj_X E G Q cs sl pc L (.ref (xj_ad G (k, r, i)) :: st) w :=
  xj_get C a F hl hk hx hp (by unfold xj_fv; simp only [ht]; rw [hv]; rfl) kk
theorem xj_pK (C : xj_C E G cc own nL d q c0 s0 ret) {index k r i x ci N : Nat} {Cn : String} {T : u_T} {ty0 : Nat → FieldType} {p2 : xj_Pl} (a : xj_At cc pc (.putfield index) 3 nx) (F : xj_CF ci Cn T N ty0) (hl : Cond.fieldLink own index (T x).1 (T x).2.1 (T x).2.2.1 ∈ xj_GW) (hk : xj_knd k = 4 ∧ xj_cls k = ci ∧ xj_len k = N) (hx : x < N) (ht : xj_typ k x = 2) (hp : xj_ok (k, r, i) w.2.2) (hf : (T x).2.2.2 = true ∧ (T x).1 = own) (hnm : (xj_me E).name = "<init>") (hn : ∀ b : Nat, narrow (ty0 x) (.ref b) = .ref b ∧ fits (ty0 x) (.ref b) = true) (kk : xj_X E G Q cs sl nx L st (xj_uK w k r i x (some p2))) : xj_X E G Q cs sl pc L (.ref (xj_ad G p2) :: .ref (xj_ad G (k, r, i)) :: st) w :=
  xj_put (w2 := xj_uK w k r i x (some p2)) C a F (Or.inl hl) hk hx hp (Or.inr ⟨hf.1, hnm, hf.2, hl⟩) (hn _).1 (hn _).2 (xj_setK hk.1 (by rw [hk.2.2]; exact hx) ht) rfl xj_uK_oth kk
theorem xj_pI (C : xj_C E G cc own nL d q c0 s0 ret) {index k r i x ci N : Nat} {Cn : String} {T : u_T} {ty0 : Nat → FieldType} {y : Int32} (a : xj_At cc pc (.putfield index) 3 nx) (F : xj_CF ci Cn T N ty0) (hl : Cond.fieldLink own index (T x).1 (T x).2.1 (T x).2.2.1 ∈ xj_GW) (hk : xj_knd k = 4 ∧ xj_cls k = ci ∧ xj_len k = N) (hx : x < N) (ht : xj_typ k x = 0) (hp : xj_ok (k, r, i) w.2.2) (hf : (T x).2.2.2 = false ∨ ((T x).2.2.2 = true ∧ (T x).1 = own)) (hnm : (xj_me E).name = "<init>") (hn : narrow (ty0 x) (.int y) = .int y ∧ fits (ty0 x) (.int y) = true) (kk : xj_X E G Q cs sl nx L st (xj_uI w k r i x y)) : xj_X E G Q cs sl pc L (.int y :: .ref (xj_ad G (k, r, i)) :: st) w :=
  xj_put (w2 := xj_uI w k r i x y) C a F (Or.inl hl) hk hx hp (hf.imp id (fun h => ⟨h.1, hnm, h.2, hl⟩)) hn.1 hn.2 (xj_setI hk.1 (by rw [hk.2.2]; exact hx) ht) rfl xj_uI_oth kk
theorem xj_pJ (C : xj_C E G cc own nL d q c0 s0 ret) {index k r i x ci N : Nat} {Cn : String} {T : u_T} {ty0 : Nat → FieldType} {y : Int64} (a : xj_At cc pc (.putfield index) 3 nx) (F : xj_CF ci Cn T N ty0) (hl : Cond.fieldLink own index (T x).1 (T x).2.1 (T x).2.2.1 ∈ xj_GW) (hk : xj_knd k = 4 ∧ xj_cls k = ci ∧ xj_len k = N) (hx : x < N) (ht : xj_typ k x = 1) (hp : xj_ok (k, r, i) w.2.2) (hf : (T x).2.2.2 = false) (hn : narrow (ty0 x) (.long y) = .long y ∧ fits (ty0 x) (.long y) = true) (kk : xj_X E G Q cs sl nx L st (xj_uJ w k r i x y)) : xj_X E G Q cs sl pc L (.long y :: .ref (xj_ad G (k, r, i)) :: st) w :=
  xj_put (w2 := xj_uJ w k r i x y) C a F (Or.inl hl) hk hx hp (Or.inl hf) hn.1 hn.2 (xj_setJ hk.1 (by rw [hk.2.2]; exact hx) ht) rfl xj_uJ_oth kk
end XK
