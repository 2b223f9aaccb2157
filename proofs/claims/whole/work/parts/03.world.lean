/-! The judgement: a method's walk over a world of places. A place is (kind, r, i); its kind says what cell it is; the world holds the ints, the longs and the references of all places, and how many of them are made. -/
abbrev xj_Pl : Type := Nat × Nat × Nat
abbrev xj_I : Type := Nat → Nat → Nat → Nat → Int32
abbrev xj_J : Type := Nat → Nat → Nat → Nat → Int64
abbrev xj_K : Type := Nat → Nat → Nat → Nat → Option xj_Pl
abbrev xj_W : Type := (xj_I × xj_J) × (xj_K × Nat)
/-- what a launch gives: the classes' numbers and slots, the array classes' numbers, the first address of the world -/
abbrev xj_G : Type := va_G × (Nat → ClassId) × Nat
def xj_ad (G : xj_G) (p : xj_Pl) : Nat := G.2.2 + xj_ix p
def xj_fv (G : xj_G) (w : xj_W) (k r i x : Nat) : Value := match xj_typ k x with
  | 0 => .int (w.1.1 k r i x)
  | 1 => .long (w.1.2 k r i x)
  | _ => va_rf ((w.2.1 k r i x).map (xj_ad G))
def xj_cell (G : xj_G) (w : xj_W) (p : xj_Pl) : va_E := match xj_knd p.1 with
  | 0 => .inl (G.2.1 0, xj_len p.1, .inl (w.1.1 p.1 p.2.1 p.2.2))
  | 1 => .inl (G.2.1 1, xj_len p.1, .inl (w.1.1 p.1 p.2.1 p.2.2))
  | 2 => .inl (G.2.1 2, xj_len p.1, .inr (.inl (w.1.2 p.1 p.2.1 p.2.2)))
  | 3 => .inl (G.2.1 (xj_cls p.1), xj_len p.1, .inr (.inr (.inr (.inr (fun x => (w.2.1 p.1 p.2.1 p.2.2 x).map (xj_ad G))))))
  | _ => .inr (xj_cls p.1, (List.range (xj_len p.1)).map (fun x => xj_fv G w p.1 p.2.1 p.2.2 x))
def xj_mk (G : xj_G) (w : xj_W) : va_W := (xj_PL.take w.2.2).map (fun p => (xj_ad G p, xj_cell G w p))
/-- a place that is made -/
def xj_ok (p : xj_Pl) (n : Nat) : Prop := xj_PL[xj_ix p]? = some p ∧ xj_ix p < n
theorem xj_at {G : xj_G} {w : xj_W} {p : xj_Pl} (h : xj_ok p w.2.2) : (xj_mk G w)[xj_ix p]? = some (xj_ad G p, xj_cell G w p) := by
  unfold xj_mk
  rw [List.getElem?_map, List.getElem?_take, if_pos h.2, h.1]
  rfl
theorem xj_cell_congr {G : xj_G} {w w' : xj_W} {p : xj_Pl} (hI : ∀ x, w'.1.1 p.1 p.2.1 p.2.2 x = w.1.1 p.1 p.2.1 p.2.2 x) (hJ : ∀ x, w'.1.2 p.1 p.2.1 p.2.2 x = w.1.2 p.1 p.2.1 p.2.2 x) (hK : ∀ x, w'.2.1 p.1 p.2.1 p.2.2 x = w.2.1 p.1 p.2.1 p.2.2 x) : xj_cell G w' p = xj_cell G w p := by
  have e1 : w'.1.1 p.1 p.2.1 p.2.2 = w.1.1 p.1 p.2.1 p.2.2 := funext hI
  have e2 : w'.1.2 p.1 p.2.1 p.2.2 = w.1.2 p.1 p.2.1 p.2.2 := funext hJ
  have e3 : w'.2.1 p.1 p.2.1 p.2.2 = w.2.1 p.1 p.2.1 p.2.2 := funext hK
  unfold xj_cell xj_fv
  simp only [e1, e2, e3]
theorem xj_mk_set {G : xj_G} {w w' : xj_W} {p : xj_Pl} (h : xj_ok p w.2.2) (hn : w'.2.2 = w.2.2) (ho : ∀ p', p' ≠ p → xj_cell G w' p' = xj_cell G w p') : (xj_mk G w).set (xj_ix p) (xj_ad G p, xj_cell G w' p) = xj_mk G w' := by
  have h' : xj_ok p w'.2.2 := by rw [hn]; exact h
  apply List.ext_getElem?
  intro q
  by_cases hq : xj_ix p = q
  · subst hq
    have hl : xj_ix p < (xj_mk G w).length := (List.getElem?_eq_some_iff.mp (xj_at (G := G) h)).1
    rw [List.getElem?_set_self hl, xj_at (G := G) h']
  · rw [List.getElem?_set_ne hq]
    unfold xj_mk
    rw [List.getElem?_map, List.getElem?_map, hn]
    cases hx : (xj_PL.take w.2.2)[q]? with
    | none => rfl
    | some p' =>
      have hne : p' ≠ p := by
        intro e
        subst e
        have h2 : xj_PL[q]? = some p' := by
          rw [List.getElem?_take] at hx
          split at hx
          · exact hx
          · cases hx
        exact hq (xj_PL_ix q p' h2)
      show some (xj_ad G p', xj_cell G w p') = some (xj_ad G p', xj_cell G w' p')
      rw [ho p' hne]
def xj_uI (w : xj_W) (k r i x : Nat) (v : Int32) : xj_W := ((fun k' r' i' x' => if k' = k ∧ r' = r ∧ i' = i ∧ x' = x then v else w.1.1 k' r' i' x', w.1.2), w.2)
def xj_uJ (w : xj_W) (k r i x : Nat) (v : Int64) : xj_W := ((w.1.1, fun k' r' i' x' => if k' = k ∧ r' = r ∧ i' = i ∧ x' = x then v else w.1.2 k' r' i' x'), w.2)
def xj_uK (w : xj_W) (k r i x : Nat) (v : Option xj_Pl) : xj_W := (w.1, (fun k' r' i' x' => if k' = k ∧ r' = r ∧ i' = i ∧ x' = x then v else w.2.1 k' r' i' x', w.2.2))
theorem xj_uI_oth {G : xj_G} {w : xj_W} {k r i x : Nat} {v : Int32} (p' : xj_Pl) (h : p' ≠ (k, r, i)) : xj_cell G (xj_uI w k r i x v) p' = xj_cell G w p' := by
  refine xj_cell_congr (fun y => ?_) (fun _ => rfl) (fun _ => rfl)
  obtain ⟨a, b, c⟩ := p'
  show (if a = k ∧ b = r ∧ c = i ∧ y = x then v else w.1.1 a b c y) = _
  rw [if_neg]
  rintro ⟨rfl, rfl, rfl, -⟩
  exact h rfl
theorem xj_uJ_oth {G : xj_G} {w : xj_W} {k r i x : Nat} {v : Int64} (p' : xj_Pl) (h : p' ≠ (k, r, i)) : xj_cell G (xj_uJ w k r i x v) p' = xj_cell G w p' := by
  refine xj_cell_congr (fun _ => rfl) (fun y => ?_) (fun _ => rfl)
  obtain ⟨a, b, c⟩ := p'
  show (if a = k ∧ b = r ∧ c = i ∧ y = x then v else w.1.2 a b c y) = _
  rw [if_neg]
  rintro ⟨rfl, rfl, rfl, -⟩
  exact h rfl
theorem xj_uK_oth {G : xj_G} {w : xj_W} {k r i x : Nat} {v : Option xj_Pl} (p' : xj_Pl) (h : p' ≠ (k, r, i)) : xj_cell G (xj_uK w k r i x v) p' = xj_cell G w p' := by
  refine xj_cell_congr (fun _ => rfl) (fun _ => rfl) (fun y => ?_)
  obtain ⟨a, b, c⟩ := p'
  show (if a = k ∧ b = r ∧ c = i ∧ y = x then v else w.2.1 a b c y) = _
  rw [if_neg]
  rintro ⟨rfl, rfl, rfl, -⟩
  exact h rfl
theorem xj_rangeset {n x : Nat} {f g : Nat → Value} {v : Value} (hx : x < n) (hv : g x = v) (ho : ∀ y, y ≠ x → g y = f y) : ((List.range n).map f).set x v = (List.range n).map g := by
  apply List.ext_getElem?
  intro q
  by_cases hq : x = q
  · subst hq
    rw [List.getElem?_set_self (by simpa using hx)]
    simp [hx, hv]
  · rw [List.getElem?_set_ne hq]
    simp only [List.getElem?_map]
    by_cases h2 : q < n
    · simp [h2, ho q (fun e => hq e.symm)]
    · simp [h2]
theorem xj_setI {G : xj_G} {w : xj_W} {k r i x : Nat} {v : Int32} (hk : xj_knd k = 4) (hx : x < xj_len k) (ht : xj_typ k x = 0) : xj_cell G (xj_uI w k r i x v) (k, r, i) = .inr (xj_cls k, ((List.range (xj_len k)).map (fun x => xj_fv G w k r i x)).set x (.int v)) := by
  rw [xj_rangeset (g := fun y => xj_fv G (xj_uI w k r i x v) k r i y) hx]
  · unfold xj_cell
    simp only [hk]
  · show xj_fv _ _ k r i x = _
    unfold xj_fv
    simp only [ht]
    simp [xj_uI]
  · intro y hy
    show xj_fv _ _ k r i y = xj_fv _ _ k r i y
    unfold xj_fv
    simp [xj_uI, hy]
theorem xj_setJ {G : xj_G} {w : xj_W} {k r i x : Nat} {v : Int64} (hk : xj_knd k = 4) (hx : x < xj_len k) (ht : xj_typ k x = 1) : xj_cell G (xj_uJ w k r i x v) (k, r, i) = .inr (xj_cls k, ((List.range (xj_len k)).map (fun x => xj_fv G w k r i x)).set x (.long v)) := by
  rw [xj_rangeset (g := fun y => xj_fv G (xj_uJ w k r i x v) k r i y) hx]
  · unfold xj_cell
    simp only [hk]
  · show xj_fv _ _ k r i x = _
    unfold xj_fv
    simp only [ht]
    simp [xj_uJ]
  · intro y hy
    show xj_fv _ _ k r i y = xj_fv _ _ k r i y
    unfold xj_fv
    simp [xj_uJ, hy]
theorem xj_setK {G : xj_G} {w : xj_W} {k r i x : Nat} {v : Option xj_Pl} (hk : xj_knd k = 4) (hx : x < xj_len k) (ht : xj_typ k x = 2) : xj_cell G (xj_uK w k r i x v) (k, r, i) = .inr (xj_cls k, ((List.range (xj_len k)).map (fun x => xj_fv G w k r i x)).set x (va_rf (v.map (xj_ad G)))) := by
  rw [xj_rangeset (g := fun y => xj_fv G (xj_uK w k r i x v) k r i y) hx]
  · unfold xj_cell
    simp only [hk]
  · show xj_fv _ _ k r i x = _
    unfold xj_fv
    simp only [ht]
    simp [xj_uK]
  · intro y hy
    show xj_fv _ _ k r i y = xj_fv _ _ k r i y
    unfold xj_fv
    simp [xj_uK, hy]
/-! the locals, a value or nothing known a place -/
def xj_LH (ls : Array Slot) (L : List (Option Value)) : Prop := ls.size = L.length ∧ lv_wf ls ∧ ∀ (i : Nat) (v : Value), L[i]? = some (some v) → ls[i]? = some (.val v)
def xj_sl (vs : List Value) : List (Option Value) := vs.flatMap fun v => if v.category = 2 then [some v, none] else [some v]
def xj_L0 (vs : List Value) (n : Nat) : List (Option Value) := xj_sl vs ++ List.replicate (n - (xj_sl vs).length) none
theorem xj_sl_len (vs : List Value) : (xj_sl vs).length = (lg_sl vs).length := by
  induction vs with
  | nil => rfl
  | cons a vs ih =>
    unfold xj_sl lg_sl at ih ⊢
    rw [List.flatMap_cons, List.flatMap_cons, List.length_append, List.length_append, ih]
    by_cases h : a.category = 2
    · simp [h]
    · simp [h]
theorem xj_sl_at (vs : List Value) : ∀ (i : Nat) (v : Value), (xj_sl vs)[i]? = some (some v) → (lg_sl vs)[i]? = some (.val v) := by
  induction vs with
  | nil => intro i v h; simp [xj_sl] at h
  | cons a vs ih =>
    intro i v h
    have e1 : xj_sl (a :: vs) = (if a.category = 2 then [some a, none] else [some a]) ++ xj_sl vs := by unfold xj_sl; rw [List.flatMap_cons]
    have e2 : lg_sl (a :: vs) = (if a.category = 2 then [.val a, .second] else [.val a]) ++ lg_sl vs := by unfold lg_sl; rw [List.flatMap_cons]
    rw [e1] at h
    rw [e2]
    by_cases hc : a.category = 2
    · rw [if_pos hc] at h ⊢
      match i, h with
      | 0, h => simp at h; subst h; rfl
      | 1, h => simp at h
      | i + 2, h => exact ih i v (by simpa using h)
    · rw [if_neg hc] at h ⊢
      match i, h with
      | 0, h => simp at h; subst h; rfl
      | i + 1, h => exact ih i v (by simpa using h)
theorem xj_entry (vs : List Value) {n : Nat} (h : (lg_sl vs).length ≤ n) : xj_LH ((lg_sl vs ++ List.replicate (n - (lg_sl vs).length) Slot.unset).toArray) (xj_L0 vs n) := by
  obtain ⟨h1, h2, -⟩ := lv_entry vs h
  refine ⟨?_, h2, fun i v hi => ?_⟩
  · unfold xj_L0
    simp [xj_sl_len]
  · unfold xj_L0 at hi
    rw [List.getElem?_append] at hi
    split at hi
    · rename_i hl
      have := xj_sl_at vs i v hi
      rw [List.getElem?_toArray, List.getElem?_append_left (by rw [← xj_sl_len]; exact hl)]
      exact this
    · rw [List.getElem?_replicate] at hi
      split at hi
      · cases hi
      · cases hi
def xj_nl (v : Option Value) : Bool := match v with
  | some (.long _) => false
  | some (.double _) => false
  | _ => true
theorem xj_nl_cat {v : Value} (h : xj_nl (some v) = true) : ¬ v.category = 2 := by
  cases v <;> simp [xj_nl, Value.category] at h ⊢
/-- what stands just ahead is no long -/
def xj_pv (L : List (Option Value)) (i : Nat) : Bool := match i with
  | 0 => true
  | j + 1 => match L[j]? with
    | some v => xj_nl v
    | none => true
theorem xj_store1 {ls : Array Slot} {L : List (Option Value)} {i : Nat} {v : Value} (h : xj_LH ls L) (hi : i < L.length) (hc : v.category = 1) (hp : xj_pv L i = true) : ∃ ls', storeLocals ls i v = some ls' ∧ xj_LH ls' (L.set i (some v)) := by
  have h0 : lv_has ls L.length ((List.range L.length).filterMap (fun j => match L[j]? with | some (some x) => some (j, x) | _ => none)) := by
    refine ⟨h.1, h.2.1, fun q hq => ?_⟩
    obtain ⟨j, -, hj⟩ := List.mem_filterMap.mp hq
    revert hj
    cases hx : L[j]? with
    | none => simp
    | some y =>
      cases y with
      | none => simp
      | some z => simp; rintro rfl; exact h.2.2 j z hx
  obtain ⟨ls', e1, e2⟩ := lv_store1 h0 hi hc
  refine ⟨ls', e1, by rw [List.length_set]; exact e2.1, e2.2.1, fun j x hj => ?_⟩
  by_cases hji : i = j
  · subst hji
    rw [List.getElem?_set_self hi] at hj
    simp at hj
    subst hj
    exact e2.2.2 (i, v) (List.mem_cons_self)
  · rw [List.getElem?_set_ne hji] at hj
    refine e2.2.2 (j, x) (List.mem_cons_of_mem _ (List.mem_filter.mpr ⟨List.mem_filterMap.mpr ⟨j, List.mem_range.mpr (List.getElem?_eq_some_iff.mp hj).1, by simp [hj]⟩, ?_⟩))
    have a1 : ¬ j = i := fun e => hji e.symm
    have a2 : ¬ (j + 1 = i ∧ x.category = 2) := by
      rintro ⟨rfl, hc2⟩
      simp only [xj_pv, hj] at hp
      exact xj_nl_cat hp hc2
    simp [a1]
    exact Decidable.not_and_iff_not_or_not.mp a2
theorem xj_store2 {ls : Array Slot} {L : List (Option Value)} {i : Nat} {v : Value} (h : xj_LH ls L) (hi : i + 1 < L.length) (hc : v.category = 2) (hp : xj_pv L i = true) : ∃ ls', storeLocals ls i v = some ls' ∧ xj_LH ls' ((L.set i (some v)).set (i + 1) none) := by
  have h0 : lv_has ls L.length ((List.range L.length).filterMap (fun j => match L[j]? with | some (some x) => some (j, x) | _ => none)) := by
    refine ⟨h.1, h.2.1, fun q hq => ?_⟩
    obtain ⟨j, -, hj⟩ := List.mem_filterMap.mp hq
    revert hj
    cases hx : L[j]? with
    | none => simp
    | some y =>
      cases y with
      | none => simp
      | some z => simp; rintro rfl; exact h.2.2 j z hx
  obtain ⟨ls', e1, e2⟩ := lv_store2 h0 hi hc
  refine ⟨ls', e1, by rw [List.length_set, List.length_set]; exact e2.1, e2.2.1, fun j x hj => ?_⟩
  by_cases hj1 : i + 1 = j
  · subst hj1
    rw [List.getElem?_set_self (by rw [List.length_set]; exact hi)] at hj
    simp at hj
  · rw [List.getElem?_set_ne hj1] at hj
    by_cases hji : i = j
    · subst hji
      rw [List.getElem?_set_self (by omega)] at hj
      simp at hj
      subst hj
      exact e2.2.2 (i, v) (List.mem_cons_self)
    · rw [List.getElem?_set_ne hji] at hj
      refine e2.2.2 (j, x) (List.mem_cons_of_mem _ (List.mem_filter.mpr ⟨List.mem_filterMap.mpr ⟨j, List.mem_range.mpr (List.getElem?_eq_some_iff.mp hj).1, by simp [hj]⟩, ?_⟩))
      have a1 : ¬ j = i := fun e => hji e.symm
      have a3 : ¬ j = i + 1 := fun e => hj1 e.symm
      have a2 : ¬ (j + 1 = i ∧ x.category = 2) := by
        rintro ⟨rfl, hc2⟩
        simp only [xj_pv, hj] at hp
        exact xj_nl_cat hp hc2
      simp [a1, a3]
      exact Decidable.not_and_iff_not_or_not.mp a2
