/-! the judgement -/
abbrev xj_E : Type := Program × Launch × Env × Room × State × MethodId × Array Value × List Frame × Method × Code
def xj_A (G : xj_G) : Nat → Prop := fun q => G.2.2 ≤ q
abbrev xj_s (E : xj_E) : State := E.2.2.2.2.1
abbrev xj_m (E : xj_E) : MethodId := E.2.2.2.2.2.1
abbrev xj_a (E : xj_E) : Array Value := E.2.2.2.2.2.2.1
abbrev xj_b (E : xj_E) : List Frame := E.2.2.2.2.2.2.2.1
abbrev xj_me (E : xj_E) : Method := E.2.2.2.2.2.2.2.2.1
abbrev xj_c (E : xj_E) : Code := E.2.2.2.2.2.2.2.2.2
abbrev xj_V (E : xj_E) (H : Heap) (locs : List Loc) (cs sl : Nat) (Q : State → Prop) (g : JFrame) : Prop := W E.1 E.2.1 E.2.2.1 E.2.2.2.1 (xj_s E) (xj_m E) (xj_a E) (xj_b E) (xj_me E) (xj_c E) H locs cs sl Q g
/-- from here, with these locals, this stack and this world, the machine comes to Q -/
def xj_X (E : xj_E) (G : xj_G) (Q : State → Prop) (cs sl pc : Nat) (L : List (Option Value)) (st : List Value) (w : xj_W) : Prop :=
  ∀ (ls : Array Slot) (H : Heap) (locs : List Loc), xj_LH ls L → H.size = G.2.2 + w.2.2 → va_P G.1 xj_cl (xj_mk G w) H → va_S (xj_A G) (xj_s E).heap H locs → xj_V E H locs cs sl Q (F0 (xj_m E) pc ls st)
/-- what holds all along a method -/
def xj_C (E : xj_E) (G : xj_G) (cc : ByteArray) (own : String) (nL d q c0 s0 : Nat) (ret : Option FieldType) : Prop :=
  E.1.tables.exec = Jvm.exec ∧ (xj_c E).code = cc ∧ (xj_c E).maxLocals = nL ∧ (xj_s E).vm.findClass own = some (xj_m E).cls ∧ (∀ w ∈ xj_GW, w.before (xj_a E) (xj_s E) = true) ∧ (∀ w ∈ xj_NW, va_Nw w (xj_s E)) ∧ va_K G.1 xj_cl (xj_ty G) (xj_s E) ∧ (d ≤ E.2.2.2.1.frames ∧ q ≤ E.2.2.2.1.locals ∧ c0 ≤ E.2.2.2.1.cells ∧ s0 ≤ E.2.2.2.1.slots) ∧ (xj_me E).sig.returnType = ret ∧ (xj_me E).locks = false
def xj_At (cc : ByteArray) (pc : Nat) (i : Instr) (len nx : Nat) : Prop := decode cc pc = .ok (i, len) ∧ pc + len = nx
theorem xj_D (G : xj_G) (w : xj_W) : va_D (xj_A G) (xj_mk G w) := by
  have key : ∀ (i : Nat) (q : Nat × va_E), (xj_mk G w)[i]? = some q → q.1 = G.2.2 + i := by
    intro i q h
    unfold xj_mk at h
    rw [List.getElem?_map] at h
    cases hx : (xj_PL.take w.2.2)[i]? with
    | none => rw [hx] at h; cases h
    | some p' =>
      rw [hx] at h
      have h2 : xj_PL[i]? = some p' := by
        rw [List.getElem?_take] at hx
        split at hx
        · exact hx
        · cases hx
      have h3 := xj_PL_ix i p' h2
      have h4 : (xj_ad G p', xj_cell G w p') = q := Option.some.inj h
      rw [← h4]
      show G.2.2 + xj_ix p' = _
      rw [h3]
  refine ⟨fun i j a b ha hb hab => ?_, fun k q hk => ?_⟩
  · have h1 := key i a ha
    have h2 := key j b hb
    omega
  · show G.2.2 ≤ q.1
    rw [key k q hk]
    omega
section XJ
variable {E : xj_E} {G : xj_G} {cc : ByteArray} {own : String} {nL d q c0 s0 : Nat} {ret : Option FieldType} {Q : State → Prop} {cs sl pc nx : Nat} {L : List (Option Value)} {st rest : List Value} {w : xj_W}
theorem xj_as {w2 : xj_W} (h : w = w2) (k : xj_X E G Q cs sl pc L st w2) : xj_X E G Q cs sl pc L st w := h ▸ k
theorem xj_topi {x y : Int32} (h : x = y) (k : xj_X E G Q cs sl pc L (.int y :: rest) w) : xj_X E G Q cs sl pc L (.int x :: rest) w := h ▸ k
theorem xj_topl {x y : Int64} (h : x = y) (k : xj_X E G Q cs sl pc L (.long y :: rest) w) : xj_X E G Q cs sl pc L (.long x :: rest) w := h ▸ k
theorem xj_stk {st2 : List Value} (h : st = st2) (k : xj_X E G Q cs sl pc L st2 w) : xj_X E G Q cs sl pc L st w := h ▸ k
theorem xj_loc {L2 : List (Option Value)} (h : L = L2) (k : xj_X E G Q cs sl pc L2 st w) : xj_X E G Q cs sl pc L st w := h ▸ k

theorem xj_iconst (C : xj_C E G cc own nL d q c0 s0 ret) {n : Int} {v : Int32} (a : xj_At cc pc (.iconst n) 1 nx) (hv : Int32.ofInt n = v) (k : xj_X E G Q cs sl nx L (.int v :: st) w) : xj_X E G Q cs sl pc L (st) w := by
  obtain ⟨hd, hn⟩ := a
  subst hn
  exact fun ls H locs h1 h2 h3 h4 => lv_iconst C.1 C.2.1 hd hv (k ls H locs h1 h2 h3 h4)
theorem xj_bipush (C : xj_C E G cc own nL d q c0 s0 ret) {n : Int} {v : Int32} (a : xj_At cc pc (.bipush n) 2 nx) (hv : (Int8.ofInt n).toInt32 = v) (k : xj_X E G Q cs sl nx L (.int v :: st) w) : xj_X E G Q cs sl pc L (st) w := by
  obtain ⟨hd, hn⟩ := a
  subst hn
  exact fun ls H locs h1 h2 h3 h4 => lv_bipush C.1 C.2.1 hd hv (k ls H locs h1 h2 h3 h4)
theorem xj_sipush (C : xj_C E G cc own nL d q c0 s0 ret) {n : Int} {v : Int32} (a : xj_At cc pc (.sipush n) 3 nx) (hv : (Int16.ofInt n).toInt32 = v) (k : xj_X E G Q cs sl nx L (.int v :: st) w) : xj_X E G Q cs sl pc L (st) w := by
  obtain ⟨hd, hn⟩ := a
  subst hn
  exact fun ls H locs h1 h2 h3 h4 => lv_sipush C.1 C.2.1 hd hv (k ls H locs h1 h2 h3 h4)
theorem xj_lconst (C : xj_C E G cc own nL d q c0 s0 ret) {n : Fin 2} {v : Int64} (a : xj_At cc pc (.lconst n) 1 nx) (hv : Int64.ofNat (n : Nat) = v) (k : xj_X E G Q cs sl nx L (.long v :: st) w) : xj_X E G Q cs sl pc L (st) w := by
  obtain ⟨hd, hn⟩ := a
  subst hn
  exact fun ls H locs h1 h2 h3 h4 => lv_lconst C.1 C.2.1 hd hv (k ls H locs h1 h2 h3 h4)
theorem xj_iload_n (C : xj_C E G cc own nL d q c0 s0 ret) {n : Fin 4} {x : Int32} (a : xj_At cc pc (.iload_n n) 1 nx) (hx : L[(n : Nat)]? = some (some (.int x))) (k : xj_X E G Q cs sl nx L (.int x :: st) w) : xj_X E G Q cs sl pc L st w := by
  obtain ⟨hd, hn⟩ := a
  subst hn
  exact fun ls H locs h1 h2 h3 h4 => lv_iload_n C.1 C.2.1 hd rfl (h1.2.2 _ _ hx) (k ls H locs h1 h2 h3 h4)
theorem xj_iload (C : xj_C E G cc own nL d q c0 s0 ret) {n : Nat} {x : Int32} (a : xj_At cc pc (.iload n) 2 nx) (hx : L[n]? = some (some (.int x))) (k : xj_X E G Q cs sl nx L (.int x :: st) w) : xj_X E G Q cs sl pc L st w := by
  obtain ⟨hd, hn⟩ := a
  subst hn
  exact fun ls H locs h1 h2 h3 h4 => lv_iload C.1 C.2.1 hd (h1.2.2 _ _ hx) (k ls H locs h1 h2 h3 h4)
theorem xj_lload_n (C : xj_C E G cc own nL d q c0 s0 ret) {n : Fin 4} {x : Int64} (a : xj_At cc pc (.lload_n n) 1 nx) (hx : L[(n : Nat)]? = some (some (.long x))) (k : xj_X E G Q cs sl nx L (.long x :: st) w) : xj_X E G Q cs sl pc L st w := by
  obtain ⟨hd, hn⟩ := a
  subst hn
  exact fun ls H locs h1 h2 h3 h4 => lv_lload_n C.1 C.2.1 hd rfl (h1.2.2 _ _ hx) (k ls H locs h1 h2 h3 h4)
theorem xj_lload (C : xj_C E G cc own nL d q c0 s0 ret) {n : Nat} {x : Int64} (a : xj_At cc pc (.lload n) 2 nx) (hx : L[n]? = some (some (.long x))) (k : xj_X E G Q cs sl nx L (.long x :: st) w) : xj_X E G Q cs sl pc L st w := by
  obtain ⟨hd, hn⟩ := a
  subst hn
  exact fun ls H locs h1 h2 h3 h4 => lv_lload C.1 C.2.1 hd (h1.2.2 _ _ hx) (k ls H locs h1 h2 h3 h4)
theorem xj_aload_n (C : xj_C E G cc own nL d q c0 s0 ret) {n : Fin 4} {x : Nat} (a : xj_At cc pc (.aload_n n) 1 nx) (hx : L[(n : Nat)]? = some (some (.ref x))) (k : xj_X E G Q cs sl nx L (.ref x :: st) w) : xj_X E G Q cs sl pc L st w := by
  obtain ⟨hd, hn⟩ := a
  subst hn
  exact fun ls H locs h1 h2 h3 h4 => lv_aload_n C.1 C.2.1 hd rfl (h1.2.2 _ _ hx) (k ls H locs h1 h2 h3 h4)
theorem xj_aload (C : xj_C E G cc own nL d q c0 s0 ret) {n : Nat} {x : Nat} (a : xj_At cc pc (.aload n) 2 nx) (hx : L[n]? = some (some (.ref x))) (k : xj_X E G Q cs sl nx L (.ref x :: st) w) : xj_X E G Q cs sl pc L st w := by
  obtain ⟨hd, hn⟩ := a
  subst hn
  exact fun ls H locs h1 h2 h3 h4 => lv_aload C.1 C.2.1 hd (h1.2.2 _ _ hx) (k ls H locs h1 h2 h3 h4)
theorem xj_istoreG_n (C : xj_C E G cc own nL d q c0 s0 ret) {n : Fin 4} {x : Int32} (a : xj_At cc pc (.istore_n n) 1 nx) (hi : (n : Nat) < L.length) (hp : xj_pv L (n : Nat) = true) (k : xj_X E G Q cs sl nx (L.set (n : Nat) (some (.int x))) st w) : xj_X E G Q cs sl pc L (.int x :: st) w := by
  obtain ⟨hd, hn⟩ := a
  subst hn
  intro ls H locs h1 h2 h3 h4
  obtain ⟨ls', e', h'⟩ := xj_store1 (v := .int x) h1 hi rfl hp
  intro T hT X
  obtain ⟨t, a, b⟩ := k ls' H locs h' h2 h3 h4 T hT X
  refine ⟨t, ?_, b⟩
  have hb := C.2.1
  have hexec := C.1
  jvm_step X.here [X.here.top, ↓top_set X.here.top, hexec, hb, hd, e']
  exact a
theorem xj_istoreG (C : xj_C E G cc own nL d q c0 s0 ret) {n : Nat} {x : Int32} (a : xj_At cc pc (.istore n) 2 nx) (hi : n < L.length) (hp : xj_pv L n = true) (k : xj_X E G Q cs sl nx (L.set n (some (.int x))) st w) : xj_X E G Q cs sl pc L (.int x :: st) w := by
  obtain ⟨hd, hn⟩ := a
  subst hn
  intro ls H locs h1 h2 h3 h4
  obtain ⟨ls', e', h'⟩ := xj_store1 (v := .int x) h1 hi rfl hp
  intro T hT X
  obtain ⟨t, a, b⟩ := k ls' H locs h' h2 h3 h4 T hT X
  refine ⟨t, ?_, b⟩
  have hb := C.2.1
  have hexec := C.1
  jvm_step X.here [X.here.top, ↓top_set X.here.top, hexec, hb, hd, e']
  exact a
theorem xj_lstoreG_n (C : xj_C E G cc own nL d q c0 s0 ret) {n : Fin 4} {x : Int64} (a : xj_At cc pc (.lstore_n n) 1 nx) (hi : (n : Nat) + 1 < L.length) (hp : xj_pv L (n : Nat) = true) (k : xj_X E G Q cs sl nx ((L.set (n : Nat) (some (.long x))).set ((n : Nat) + 1) none) st w) : xj_X E G Q cs sl pc L (.long x :: st) w := by
  obtain ⟨hd, hn⟩ := a
  subst hn
  intro ls H locs h1 h2 h3 h4
  obtain ⟨ls', e', h'⟩ := xj_store2 (v := .long x) h1 hi rfl hp
  intro T hT X
  obtain ⟨t, a, b⟩ := k ls' H locs h' h2 h3 h4 T hT X
  refine ⟨t, ?_, b⟩
  have hb := C.2.1
  have hexec := C.1
  jvm_step X.here [X.here.top, ↓top_set X.here.top, hexec, hb, hd, e']
  exact a
theorem xj_lstoreG (C : xj_C E G cc own nL d q c0 s0 ret) {n : Nat} {x : Int64} (a : xj_At cc pc (.lstore n) 2 nx) (hi : n + 1 < L.length) (hp : xj_pv L n = true) (k : xj_X E G Q cs sl nx ((L.set n (some (.long x))).set (n + 1) none) st w) : xj_X E G Q cs sl pc L (.long x :: st) w := by
  obtain ⟨hd, hn⟩ := a
  subst hn
  intro ls H locs h1 h2 h3 h4
  obtain ⟨ls', e', h'⟩ := xj_store2 (v := .long x) h1 hi rfl hp
  intro T hT X
  obtain ⟨t, a, b⟩ := k ls' H locs h' h2 h3 h4 T hT X
  refine ⟨t, ?_, b⟩
  have hb := C.2.1
  have hexec := C.1
  jvm_step X.here [X.here.top, ↓top_set X.here.top, hexec, hb, hd, e']
  exact a
theorem xj_astoreG_n (C : xj_C E G cc own nL d q c0 s0 ret) {n : Fin 4} {x : Nat} (a : xj_At cc pc (.astore_n n) 1 nx) (hi : (n : Nat) < L.length) (hp : xj_pv L (n : Nat) = true) (k : xj_X E G Q cs sl nx (L.set (n : Nat) (some (.ref x))) st w) : xj_X E G Q cs sl pc L (.ref x :: st) w := by
  obtain ⟨hd, hn⟩ := a
  subst hn
  intro ls H locs h1 h2 h3 h4
  obtain ⟨ls', e', h'⟩ := xj_store1 (v := .ref x) h1 hi rfl hp
  intro T hT X
  obtain ⟨t, a, b⟩ := k ls' H locs h' h2 h3 h4 T hT X
  refine ⟨t, ?_, b⟩
  have hb := C.2.1
  have hexec := C.1
  jvm_step X.here [X.here.top, ↓top_set X.here.top, hexec, hb, hd, e', Value.isRef]
  exact a
theorem xj_astoreG (C : xj_C E G cc own nL d q c0 s0 ret) {n : Nat} {x : Nat} (a : xj_At cc pc (.astore n) 2 nx) (hi : n < L.length) (hp : xj_pv L n = true) (k : xj_X E G Q cs sl nx (L.set n (some (.ref x))) st w) : xj_X E G Q cs sl pc L (.ref x :: st) w := by
  obtain ⟨hd, hn⟩ := a
  subst hn
  intro ls H locs h1 h2 h3 h4
  obtain ⟨ls', e', h'⟩ := xj_store1 (v := .ref x) h1 hi rfl hp
  intro T hT X
  obtain ⟨t, a, b⟩ := k ls' H locs h' h2 h3 h4 T hT X
  refine ⟨t, ?_, b⟩
  have hb := C.2.1
  have hexec := C.1
  jvm_step X.here [X.here.top, ↓top_set X.here.top, hexec, hb, hd, e', Value.isRef]
  exact a
theorem xj_iincG (C : xj_C E G cc own nL d q c0 s0 ret) {n : Nat} {z : Int} {x v : Int32} (a : xj_At cc pc (.iinc n z) 3 nx) (hx : L[n]? = some (some (.int x))) (hv : Int32.ofInt z = v) (hp : xj_pv L n = true) (k : xj_X E G Q cs sl nx (L.set n (some (.int (x + v)))) st w) : xj_X E G Q cs sl pc L st w := by
  obtain ⟨hd, hn⟩ := a
  subst hn
  subst hv
  intro ls H locs h1 h2 h3 h4
  have hi : n < L.length := (List.getElem?_eq_some_iff.mp hx).1
  have hg := h1.2.2 _ _ hx
  obtain ⟨ls', e', h'⟩ := xj_store1 (v := .int (x + Int32.ofInt z)) h1 hi rfl hp
  intro T hT X
  obtain ⟨t, a, b⟩ := k ls' H locs h' h2 h3 h4 T hT X
  refine ⟨t, ?_, b⟩
  have hb := C.2.1
  have hexec := C.1
  jvm_step X.here [X.here.top, ↓top_set X.here.top, hexec, hb, hd, hg, e']
  exact a
theorem xj_iadd (C : xj_C E G cc own nL d q c0 s0 ret) {x y : Int32} (a : xj_At cc pc (.iadd) 1 nx)  (k : xj_X E G Q cs sl nx L (.int (x + y) :: st) w) : xj_X E G Q cs sl pc L (.int y :: .int x :: st) w := by
  obtain ⟨hd, hn⟩ := a
  subst hn
  exact fun ls H locs h1 h2 h3 h4 => lv_iadd C.1 C.2.1 hd  (k ls H locs h1 h2 h3 h4)
theorem xj_isub (C : xj_C E G cc own nL d q c0 s0 ret) {x y : Int32} (a : xj_At cc pc (.isub) 1 nx)  (k : xj_X E G Q cs sl nx L (.int (x - y) :: st) w) : xj_X E G Q cs sl pc L (.int y :: .int x :: st) w := by
  obtain ⟨hd, hn⟩ := a
  subst hn
  exact fun ls H locs h1 h2 h3 h4 => lv_isub C.1 C.2.1 hd  (k ls H locs h1 h2 h3 h4)
theorem xj_imul (C : xj_C E G cc own nL d q c0 s0 ret) {x y : Int32} (a : xj_At cc pc (.imul) 1 nx)  (k : xj_X E G Q cs sl nx L (.int (x * y) :: st) w) : xj_X E G Q cs sl pc L (.int y :: .int x :: st) w := by
  obtain ⟨hd, hn⟩ := a
  subst hn
  exact fun ls H locs h1 h2 h3 h4 => lv_imul C.1 C.2.1 hd  (k ls H locs h1 h2 h3 h4)
theorem xj_iand (C : xj_C E G cc own nL d q c0 s0 ret) {x y : Int32} (a : xj_At cc pc (.iand) 1 nx)  (k : xj_X E G Q cs sl nx L (.int (x &&& y) :: st) w) : xj_X E G Q cs sl pc L (.int y :: .int x :: st) w := by
  obtain ⟨hd, hn⟩ := a
  subst hn
  exact fun ls H locs h1 h2 h3 h4 => lv_iand C.1 C.2.1 hd  (k ls H locs h1 h2 h3 h4)
theorem xj_ior (C : xj_C E G cc own nL d q c0 s0 ret) {x y : Int32} (a : xj_At cc pc (.ior) 1 nx)  (k : xj_X E G Q cs sl nx L (.int (x ||| y) :: st) w) : xj_X E G Q cs sl pc L (.int y :: .int x :: st) w := by
  obtain ⟨hd, hn⟩ := a
  subst hn
  exact fun ls H locs h1 h2 h3 h4 => lv_ior C.1 C.2.1 hd  (k ls H locs h1 h2 h3 h4)
theorem xj_ixor (C : xj_C E G cc own nL d q c0 s0 ret) {x y : Int32} (a : xj_At cc pc (.ixor) 1 nx)  (k : xj_X E G Q cs sl nx L (.int (x ^^^ y) :: st) w) : xj_X E G Q cs sl pc L (.int y :: .int x :: st) w := by
  obtain ⟨hd, hn⟩ := a
  subst hn
  exact fun ls H locs h1 h2 h3 h4 => lv_ixor C.1 C.2.1 hd  (k ls H locs h1 h2 h3 h4)
theorem xj_idiv (C : xj_C E G cc own nL d q c0 s0 ret) {x y : Int32} (a : xj_At cc pc (.idiv) 1 nx) (hne : ¬ y = 0) (k : xj_X E G Q cs sl nx L (.int (x / y) :: st) w) : xj_X E G Q cs sl pc L (.int y :: .int x :: st) w := by
  obtain ⟨hd, hn⟩ := a
  subst hn
  exact fun ls H locs h1 h2 h3 h4 => lv_idiv C.1 C.2.1 hd hne (k ls H locs h1 h2 h3 h4)
theorem xj_irem (C : xj_C E G cc own nL d q c0 s0 ret) {x y : Int32} (a : xj_At cc pc (.irem) 1 nx) (hne : ¬ y = 0) (k : xj_X E G Q cs sl nx L (.int (x - x / y * y) :: st) w) : xj_X E G Q cs sl pc L (.int y :: .int x :: st) w := by
  obtain ⟨hd, hn⟩ := a
  subst hn
  exact fun ls H locs h1 h2 h3 h4 => lv_irem C.1 C.2.1 hd hne (k ls H locs h1 h2 h3 h4)
theorem xj_ladd (C : xj_C E G cc own nL d q c0 s0 ret) {x y : Int64} (a : xj_At cc pc (.ladd) 1 nx)  (k : xj_X E G Q cs sl nx L (.long (x + y) :: st) w) : xj_X E G Q cs sl pc L (.long y :: .long x :: st) w := by
  obtain ⟨hd, hn⟩ := a
  subst hn
  exact fun ls H locs h1 h2 h3 h4 => lv_ladd C.1 C.2.1 hd  (k ls H locs h1 h2 h3 h4)
theorem xj_lsub (C : xj_C E G cc own nL d q c0 s0 ret) {x y : Int64} (a : xj_At cc pc (.lsub) 1 nx)  (k : xj_X E G Q cs sl nx L (.long (x - y) :: st) w) : xj_X E G Q cs sl pc L (.long y :: .long x :: st) w := by
  obtain ⟨hd, hn⟩ := a
  subst hn
  exact fun ls H locs h1 h2 h3 h4 => lv_lsub C.1 C.2.1 hd  (k ls H locs h1 h2 h3 h4)
theorem xj_land (C : xj_C E G cc own nL d q c0 s0 ret) {x y : Int64} (a : xj_At cc pc (.land) 1 nx)  (k : xj_X E G Q cs sl nx L (.long (x &&& y) :: st) w) : xj_X E G Q cs sl pc L (.long y :: .long x :: st) w := by
  obtain ⟨hd, hn⟩ := a
  subst hn
  exact fun ls H locs h1 h2 h3 h4 => lv_land C.1 C.2.1 hd  (k ls H locs h1 h2 h3 h4)
theorem xj_lor (C : xj_C E G cc own nL d q c0 s0 ret) {x y : Int64} (a : xj_At cc pc (.lor) 1 nx)  (k : xj_X E G Q cs sl nx L (.long (x ||| y) :: st) w) : xj_X E G Q cs sl pc L (.long y :: .long x :: st) w := by
  obtain ⟨hd, hn⟩ := a
  subst hn
  exact fun ls H locs h1 h2 h3 h4 => lv_lor C.1 C.2.1 hd  (k ls H locs h1 h2 h3 h4)
theorem xj_lxor (C : xj_C E G cc own nL d q c0 s0 ret) {x y : Int64} (a : xj_At cc pc (.lxor) 1 nx)  (k : xj_X E G Q cs sl nx L (.long (x ^^^ y) :: st) w) : xj_X E G Q cs sl pc L (.long y :: .long x :: st) w := by
  obtain ⟨hd, hn⟩ := a
  subst hn
  exact fun ls H locs h1 h2 h3 h4 => lv_lxor C.1 C.2.1 hd  (k ls H locs h1 h2 h3 h4)
theorem xj_ishl (C : xj_C E G cc own nL d q c0 s0 ret) {x y : Int32} (a : xj_At cc pc (.ishl) 1 nx)  (k : xj_X E G Q cs sl nx L (.int (x <<< (y &&& 31)) :: st) w) : xj_X E G Q cs sl pc L (.int y :: .int x :: st) w := by
  obtain ⟨hd, hn⟩ := a
  subst hn
  exact fun ls H locs h1 h2 h3 h4 => lv_ishl C.1 C.2.1 hd  (k ls H locs h1 h2 h3 h4)
theorem xj_ishr (C : xj_C E G cc own nL d q c0 s0 ret) {x y : Int32} (a : xj_At cc pc (.ishr) 1 nx)  (k : xj_X E G Q cs sl nx L (.int (x >>> (y &&& 31)) :: st) w) : xj_X E G Q cs sl pc L (.int y :: .int x :: st) w := by
  obtain ⟨hd, hn⟩ := a
  subst hn
  exact fun ls H locs h1 h2 h3 h4 => lv_ishr C.1 C.2.1 hd  (k ls H locs h1 h2 h3 h4)
theorem xj_iushr (C : xj_C E G cc own nL d q c0 s0 ret) {x y : Int32} (a : xj_At cc pc (.iushr) 1 nx)  (k : xj_X E G Q cs sl nx L (.int (x.toUInt32 >>> (y.toUInt32 &&& Int32.toUInt32 31)).toInt32 :: st) w) : xj_X E G Q cs sl pc L (.int y :: .int x :: st) w := by
  obtain ⟨hd, hn⟩ := a
  subst hn
  exact fun ls H locs h1 h2 h3 h4 => lv_iushr C.1 C.2.1 hd rfl (k ls H locs h1 h2 h3 h4)
theorem xj_lushr (C : xj_C E G cc own nL d q c0 s0 ret) {x : Int64} {y : Int32} (a : xj_At cc pc (.lushr) 1 nx)  (k : xj_X E G Q cs sl nx L (.long (x.toUInt64 >>> (y.toInt64.toUInt64 &&& Int64.toUInt64 63)).toInt64 :: st) w) : xj_X E G Q cs sl pc L (.int y :: .long x :: st) w := by
  obtain ⟨hd, hn⟩ := a
  subst hn
  exact fun ls H locs h1 h2 h3 h4 => lv_lushr C.1 C.2.1 hd rfl (k ls H locs h1 h2 h3 h4)
theorem xj_lshl (C : xj_C E G cc own nL d q c0 s0 ret) {x : Int64} {y : Int32} (a : xj_At cc pc (.lshl) 1 nx)  (k : xj_X E G Q cs sl nx L (.long (x <<< (y.toInt64 &&& 63)) :: st) w) : xj_X E G Q cs sl pc L (.int y :: .long x :: st) w := by
  obtain ⟨hd, hn⟩ := a
  subst hn
  exact fun ls H locs h1 h2 h3 h4 => lv_lshl C.1 C.2.1 hd rfl (k ls H locs h1 h2 h3 h4)
theorem xj_lshr (C : xj_C E G cc own nL d q c0 s0 ret) {x : Int64} {y : Int32} (a : xj_At cc pc (.lshr) 1 nx)  (k : xj_X E G Q cs sl nx L (.long (x >>> (y.toInt64 &&& 63)) :: st) w) : xj_X E G Q cs sl pc L (.int y :: .long x :: st) w := by
  obtain ⟨hd, hn⟩ := a
  subst hn
  exact fun ls H locs h1 h2 h3 h4 => lv_lshr C.1 C.2.1 hd rfl (k ls H locs h1 h2 h3 h4)
theorem xj_i2l (C : xj_C E G cc own nL d q c0 s0 ret) {x : Int32} (a : xj_At cc pc (.i2l) 1 nx)  (k : xj_X E G Q cs sl nx L (.long x.toInt64 :: st) w) : xj_X E G Q cs sl pc L (.int x :: st) w := by
  obtain ⟨hd, hn⟩ := a
  subst hn
  exact fun ls H locs h1 h2 h3 h4 => lv_i2l C.1 C.2.1 hd rfl (k ls H locs h1 h2 h3 h4)
theorem xj_l2i (C : xj_C E G cc own nL d q c0 s0 ret) {x : Int64} (a : xj_At cc pc (.l2i) 1 nx)  (k : xj_X E G Q cs sl nx L (.int x.toInt32 :: st) w) : xj_X E G Q cs sl pc L (.long x :: st) w := by
  obtain ⟨hd, hn⟩ := a
  subst hn
  exact fun ls H locs h1 h2 h3 h4 => lv_l2i C.1 C.2.1 hd rfl (k ls H locs h1 h2 h3 h4)
theorem xj_lcmp (C : xj_C E G cc own nL d q c0 s0 ret) {x y : Int64} (a : xj_At cc pc (.lcmp) 1 nx)  (k : xj_X E G Q cs sl nx L (.int (lg_cmp x y) :: st) w) : xj_X E G Q cs sl pc L (.long y :: .long x :: st) w := by
  obtain ⟨hd, hn⟩ := a
  subst hn
  exact fun ls H locs h1 h2 h3 h4 => W.lcmp C.1 C.2.1 hd  (k ls H locs h1 h2 h3 h4)
theorem xj_dup (C : xj_C E G cc own nL d q c0 s0 ret) {v : Value} (a : xj_At cc pc (.dup) 1 nx) (hv : v.category = 1) (k : xj_X E G Q cs sl nx L (v :: v :: st) w) : xj_X E G Q cs sl pc L (v :: st) w := by
  obtain ⟨hd, hn⟩ := a
  subst hn
  exact fun ls H locs h1 h2 h3 h4 => lv_dup C.1 C.2.1 hd hv (k ls H locs h1 h2 h3 h4)
theorem xj_pop (C : xj_C E G cc own nL d q c0 s0 ret) {v : Value} (a : xj_At cc pc (.pop) 1 nx) (hv : v.category = 1) (k : xj_X E G Q cs sl nx L (st) w) : xj_X E G Q cs sl pc L (v :: st) w := by
  obtain ⟨hd, hn⟩ := a
  subst hn
  exact fun ls H locs h1 h2 h3 h4 => lv_pop C.1 C.2.1 hd hv (k ls H locs h1 h2 h3 h4)
theorem xj_dup2 (C : xj_C E G cc own nL d q c0 s0 ret) {v v2 : Value} (a : xj_At cc pc .dup2 1 nx) (hv : v.category = 1) (hv2 : v2.category = 1) (k : xj_X E G Q cs sl nx L (v :: v2 :: v :: v2 :: st) w) : xj_X E G Q cs sl pc L (v :: v2 :: st) w := by
  obtain ⟨hd, hn⟩ := a
  subst hn
  exact fun ls H locs h1 h2 h3 h4 => lv_dup2_11 C.1 C.2.1 hd hv hv2 (k ls H locs h1 h2 h3 h4)
theorem xj_dup_x1 (C : xj_C E G cc own nL d q c0 s0 ret) {v v2 : Value} (a : xj_At cc pc .dup_x1 1 nx) (hv : v.category = 1) (hv2 : v2.category = 1) (k : xj_X E G Q cs sl nx L (v :: v2 :: v :: st) w) : xj_X E G Q cs sl pc L (v :: v2 :: st) w := by
  obtain ⟨hd, hn⟩ := a
  subst hn
  exact fun ls H locs h1 h2 h3 h4 => lv_dup_x1 C.1 C.2.1 hd hv hv2 (k ls H locs h1 h2 h3 h4)
theorem xj_if_eq (C : xj_C E G cc own nL d q c0 s0 ret) {x : Int32} {off : Int} {tgt : Nat} (a : xj_At cc pc (.ifCond .eq off) 3 nx) (ht : (pc : Int) + off = (tgt : Int)) (kt : x = 0 → xj_X E G Q cs sl tgt L st w) (kf : ¬ (x = 0) → xj_X E G Q cs sl nx L st w) : xj_X E G Q cs sl pc L (.int x :: st) w := by
  obtain ⟨hd, hn⟩ := a
  subst hn
  exact fun ls H locs h1 h2 h3 h4 => lv_if_eq C.1 C.2.1 hd ht (fun h => kt h ls H locs h1 h2 h3 h4) (fun h => kf h ls H locs h1 h2 h3 h4)
theorem xj_icmp_eq (C : xj_C E G cc own nL d q c0 s0 ret) {x y : Int32} {off : Int} {tgt : Nat} (a : xj_At cc pc (.if_icmp .eq off) 3 nx) (ht : (pc : Int) + off = (tgt : Int)) (kt : x = y → xj_X E G Q cs sl tgt L st w) (kf : ¬ (x = y) → xj_X E G Q cs sl nx L st w) : xj_X E G Q cs sl pc L (.int y :: .int x :: st) w := by
  obtain ⟨hd, hn⟩ := a
  subst hn
  exact fun ls H locs h1 h2 h3 h4 => lv_icmp_eq C.1 C.2.1 hd ht (fun h => kt h ls H locs h1 h2 h3 h4) (fun h => kf h ls H locs h1 h2 h3 h4)
theorem xj_if_ne (C : xj_C E G cc own nL d q c0 s0 ret) {x : Int32} {off : Int} {tgt : Nat} (a : xj_At cc pc (.ifCond .ne off) 3 nx) (ht : (pc : Int) + off = (tgt : Int)) (kt : ¬ x = 0 → xj_X E G Q cs sl tgt L st w) (kf : x = 0 → xj_X E G Q cs sl nx L st w) : xj_X E G Q cs sl pc L (.int x :: st) w := by
  obtain ⟨hd, hn⟩ := a
  subst hn
  exact fun ls H locs h1 h2 h3 h4 => lv_if_ne C.1 C.2.1 hd ht (fun h => kt h ls H locs h1 h2 h3 h4) (fun h => kf h ls H locs h1 h2 h3 h4)
theorem xj_icmp_ne (C : xj_C E G cc own nL d q c0 s0 ret) {x y : Int32} {off : Int} {tgt : Nat} (a : xj_At cc pc (.if_icmp .ne off) 3 nx) (ht : (pc : Int) + off = (tgt : Int)) (kt : ¬ x = y → xj_X E G Q cs sl tgt L st w) (kf : x = y → xj_X E G Q cs sl nx L st w) : xj_X E G Q cs sl pc L (.int y :: .int x :: st) w := by
  obtain ⟨hd, hn⟩ := a
  subst hn
  exact fun ls H locs h1 h2 h3 h4 => lv_icmp_ne C.1 C.2.1 hd ht (fun h => kt h ls H locs h1 h2 h3 h4) (fun h => kf h ls H locs h1 h2 h3 h4)
theorem xj_if_lt (C : xj_C E G cc own nL d q c0 s0 ret) {x : Int32} {off : Int} {tgt : Nat} (a : xj_At cc pc (.ifCond .lt off) 3 nx) (ht : (pc : Int) + off = (tgt : Int)) (kt : x < 0 → xj_X E G Q cs sl tgt L st w) (kf : ¬ (x < 0) → xj_X E G Q cs sl nx L st w) : xj_X E G Q cs sl pc L (.int x :: st) w := by
  obtain ⟨hd, hn⟩ := a
  subst hn
  exact fun ls H locs h1 h2 h3 h4 => lv_if_lt C.1 C.2.1 hd ht (fun h => kt h ls H locs h1 h2 h3 h4) (fun h => kf h ls H locs h1 h2 h3 h4)
theorem xj_icmp_lt (C : xj_C E G cc own nL d q c0 s0 ret) {x y : Int32} {off : Int} {tgt : Nat} (a : xj_At cc pc (.if_icmp .lt off) 3 nx) (ht : (pc : Int) + off = (tgt : Int)) (kt : x < y → xj_X E G Q cs sl tgt L st w) (kf : ¬ (x < y) → xj_X E G Q cs sl nx L st w) : xj_X E G Q cs sl pc L (.int y :: .int x :: st) w := by
  obtain ⟨hd, hn⟩ := a
  subst hn
  exact fun ls H locs h1 h2 h3 h4 => lv_icmp_lt C.1 C.2.1 hd ht (fun h => kt h ls H locs h1 h2 h3 h4) (fun h => kf h ls H locs h1 h2 h3 h4)
theorem xj_if_ge (C : xj_C E G cc own nL d q c0 s0 ret) {x : Int32} {off : Int} {tgt : Nat} (a : xj_At cc pc (.ifCond .ge off) 3 nx) (ht : (pc : Int) + off = (tgt : Int)) (kt : 0 ≤ x → xj_X E G Q cs sl tgt L st w) (kf : ¬ (0 ≤ x) → xj_X E G Q cs sl nx L st w) : xj_X E G Q cs sl pc L (.int x :: st) w := by
  obtain ⟨hd, hn⟩ := a
  subst hn
  exact fun ls H locs h1 h2 h3 h4 => lv_if_ge C.1 C.2.1 hd ht (fun h => kt h ls H locs h1 h2 h3 h4) (fun h => kf h ls H locs h1 h2 h3 h4)
theorem xj_icmp_ge (C : xj_C E G cc own nL d q c0 s0 ret) {x y : Int32} {off : Int} {tgt : Nat} (a : xj_At cc pc (.if_icmp .ge off) 3 nx) (ht : (pc : Int) + off = (tgt : Int)) (kt : y ≤ x → xj_X E G Q cs sl tgt L st w) (kf : ¬ (y ≤ x) → xj_X E G Q cs sl nx L st w) : xj_X E G Q cs sl pc L (.int y :: .int x :: st) w := by
  obtain ⟨hd, hn⟩ := a
  subst hn
  exact fun ls H locs h1 h2 h3 h4 => lv_icmp_ge C.1 C.2.1 hd ht (fun h => kt h ls H locs h1 h2 h3 h4) (fun h => kf h ls H locs h1 h2 h3 h4)
theorem xj_if_gt (C : xj_C E G cc own nL d q c0 s0 ret) {x : Int32} {off : Int} {tgt : Nat} (a : xj_At cc pc (.ifCond .gt off) 3 nx) (ht : (pc : Int) + off = (tgt : Int)) (kt : 0 < x → xj_X E G Q cs sl tgt L st w) (kf : ¬ (0 < x) → xj_X E G Q cs sl nx L st w) : xj_X E G Q cs sl pc L (.int x :: st) w := by
  obtain ⟨hd, hn⟩ := a
  subst hn
  exact fun ls H locs h1 h2 h3 h4 => lv_if_gt C.1 C.2.1 hd ht (fun h => kt h ls H locs h1 h2 h3 h4) (fun h => kf h ls H locs h1 h2 h3 h4)
theorem xj_icmp_gt (C : xj_C E G cc own nL d q c0 s0 ret) {x y : Int32} {off : Int} {tgt : Nat} (a : xj_At cc pc (.if_icmp .gt off) 3 nx) (ht : (pc : Int) + off = (tgt : Int)) (kt : y < x → xj_X E G Q cs sl tgt L st w) (kf : ¬ (y < x) → xj_X E G Q cs sl nx L st w) : xj_X E G Q cs sl pc L (.int y :: .int x :: st) w := by
  obtain ⟨hd, hn⟩ := a
  subst hn
  exact fun ls H locs h1 h2 h3 h4 => lv_icmp_gt C.1 C.2.1 hd ht (fun h => kt h ls H locs h1 h2 h3 h4) (fun h => kf h ls H locs h1 h2 h3 h4)
theorem xj_if_le (C : xj_C E G cc own nL d q c0 s0 ret) {x : Int32} {off : Int} {tgt : Nat} (a : xj_At cc pc (.ifCond .le off) 3 nx) (ht : (pc : Int) + off = (tgt : Int)) (kt : x ≤ 0 → xj_X E G Q cs sl tgt L st w) (kf : ¬ (x ≤ 0) → xj_X E G Q cs sl nx L st w) : xj_X E G Q cs sl pc L (.int x :: st) w := by
  obtain ⟨hd, hn⟩ := a
  subst hn
  exact fun ls H locs h1 h2 h3 h4 => lv_if_le C.1 C.2.1 hd ht (fun h => kt h ls H locs h1 h2 h3 h4) (fun h => kf h ls H locs h1 h2 h3 h4)
theorem xj_icmp_le (C : xj_C E G cc own nL d q c0 s0 ret) {x y : Int32} {off : Int} {tgt : Nat} (a : xj_At cc pc (.if_icmp .le off) 3 nx) (ht : (pc : Int) + off = (tgt : Int)) (kt : x ≤ y → xj_X E G Q cs sl tgt L st w) (kf : ¬ (x ≤ y) → xj_X E G Q cs sl nx L st w) : xj_X E G Q cs sl pc L (.int y :: .int x :: st) w := by
  obtain ⟨hd, hn⟩ := a
  subst hn
  exact fun ls H locs h1 h2 h3 h4 => lv_icmp_le C.1 C.2.1 hd ht (fun h => kt h ls H locs h1 h2 h3 h4) (fun h => kf h ls H locs h1 h2 h3 h4)
theorem xj_goto (C : xj_C E G cc own nL d q c0 s0 ret) {off : Int} {tgt : Nat} (a : xj_At cc pc (.goto off) 3 nx) (ht : (pc : Int) + off = (tgt : Int)) (k : xj_X E G Q cs sl tgt L st w) : xj_X E G Q cs sl pc L st w :=
  fun ls H locs h1 h2 h3 h4 => lv_goto C.1 C.2.1 a.1 ht (k ls H locs h1 h2 h3 h4)
theorem xj_tableOut (C : xj_C E G cc own nL d q c0 s0 ret) {dflt lo hi : Int} {offs : Array Int} {len : Nat} {x : Int32} {tgt : Nat} (hd : decode cc pc = .ok (.tableswitch dflt lo hi offs, len)) (h : x.toInt < lo ∨ hi < x.toInt) (ht : (pc : Int) + dflt = (tgt : Int)) (k : xj_X E G Q cs sl tgt L st w) : xj_X E G Q cs sl pc L (.int x :: st) w :=
  fun ls H locs h1 h2 h3 h4 => lv_tableOut C.1 C.2.1 hd h ht (k ls H locs h1 h2 h3 h4)
theorem xj_tableIn (C : xj_C E G cc own nL d q c0 s0 ret) {dflt lo hi : Int} {offs : Array Int} {len : Nat} {x : Int32} {off : Int} {tgt : Nat} (hd : decode cc pc = .ok (.tableswitch dflt lo hi offs, len)) (g1 : ¬ x.toInt < lo) (g2 : ¬ hi < x.toInt) (ho : offs[(x.toInt - lo).toNat]? = some off) (ht : (pc : Int) + off = (tgt : Int)) (k : xj_X E G Q cs sl tgt L st w) : xj_X E G Q cs sl pc L (.int x :: st) w :=
  fun ls H locs h1 h2 h3 h4 => lv_tableIn C.1 C.2.1 hd g1 g2 ho ht (k ls H locs h1 h2 h3 h4)
theorem xj_ldc (C : xj_C E G cc own nL d q c0 s0 ret) {index : Nat} {v : Int32} (a : xj_At cc pc (.ldc index) 2 nx) (hw : Cond.constant own index v ∈ xj_GW) (k : xj_X E G Q cs sl nx L (.int v :: st) w) : xj_X E G Q cs sl pc L st w := by
  obtain ⟨hd, hn⟩ := a
  subst hn
  exact fun ls H locs h1 h2 h3 h4 => lv_ldc C.1 C.2.1 C.2.2.2.1 (C.2.2.2.2.1 _ hw) hd (k ls H locs h1 h2 h3 h4)
theorem xj_ldc2 (C : xj_C E G cc own nL d q c0 s0 ret) {index : Nat} {v : Int64} (a : xj_At cc pc (.ldc2_w index) 3 nx) (hw : Cond.constantLong own index v ∈ xj_GW) (k : xj_X E G Q cs sl nx L (.long v :: st) w) : xj_X E G Q cs sl pc L st w := by
  obtain ⟨hd, hn⟩ := a
  subst hn
  exact fun ls H locs h1 h2 h3 h4 => lv_ldc2 C.1 C.2.1 C.2.2.2.1 (C.2.2.2.2.1 _ hw) hd (k ls H locs h1 h2 h3 h4)
/-- what the tables say of a class: its place in xj_cl, its words -/
def xj_CF (ci : Nat) (Cn : String) (T : u_T) (N : Nat) (ty0 : Nat → FieldType) : Prop := xj_cl[ci]? = some (Cn, T, N) ∧ (∀ v ∈ u_ws Cn T N, v ∈ xj_GW) ∧ (∀ k, k < N → parseFieldDescriptor (T k).2.2.1 = some (ty0 k)) ∧ (∀ a, a < N → ∀ b, b < N → a ≠ b → (T a).2.1 ≠ (T b).2.1)
/-- a field's link, of the class itself or of a nest mate -/
def xj_FL (own : String) (index : Nat) (ref name desc : String) : Prop := Cond.fieldLink own index ref name desc ∈ xj_GW ∨ ∃ host, Cond.fieldLinkNest own index ref name desc host ∈ xj_NW
theorem xj_obj {k r i : Nat} (hk : xj_knd k = 4) : xj_cell G w (k, r, i) = .inr (xj_cls k, (List.range (xj_len k)).map (fun x => xj_fv G w k r i x)) := by
  unfold xj_cell
  simp only [hk]
theorem xj_get (C : xj_C E G cc own nL d q c0 s0 ret) {index k r i x ci N : Nat} {Cn : String} {T : u_T} {ty0 : Nat → FieldType} (a : xj_At cc pc (.getfield index) 3 nx) (F : xj_CF ci Cn T N ty0) (hl : xj_FL own index (T x).1 (T x).2.1 (T x).2.2.1) (hk : xj_knd k = 4 ∧ xj_cls k = ci ∧ xj_len k = N) (hx : x < N) (hp : xj_ok (k, r, i) w.2.2) {v : Value} (hv : xj_fv G w k r i x = v) (kk : xj_X E G Q cs sl nx L (v :: st) w) : xj_X E G Q cs sl pc L (.ref (xj_ad G (k, r, i)) :: st) w := by
  obtain ⟨hd, hn⟩ := a
  subst hn
  obtain ⟨k1, k2, k3⟩ := hk
  intro ls H locs h1 h2 h3 h4
  have he := xj_at (G := G) hp
  rw [xj_obj k1, k2, k3] at he
  have hv' : ((List.range N).map (fun x => xj_fv G w k r i x))[x]? = some v := by simp [hx, hv]
  rcases hl with hl | ⟨host, hl⟩
  · exact va_get C.1 C.2.1 C.2.2.2.2.1 F.2.1 C.2.2.2.1 C.2.2.2.2.2.2.1 h3 (xj_ix (k, r, i)) he F.1 x hx (C.2.2.2.2.1 _ hl) (fun _ h9 => h9) hv' hd (kk ls H locs h1 h2 h3 h4)
  · exact va_getN C.1 C.2.1 C.2.2.2.2.1 F.2.1 C.2.2.2.1 C.2.2.2.2.2.2.1 h3 (xj_ix (k, r, i)) he F.1 x hx (va_Nw.use rfl (C.2.2.2.2.2.1 _ hl)) (fun _ h9 => h9) hv' hd (kk ls H locs h1 h2 h3 h4)
theorem xj_put (C : xj_C E G cc own nL d q c0 s0 ret) {index k r i x ci N : Nat} {Cn : String} {T : u_T} {ty0 : Nat → FieldType} (a : xj_At cc pc (.putfield index) 3 nx) (F : xj_CF ci Cn T N ty0) (hl : xj_FL own index (T x).1 (T x).2.1 (T x).2.2.1) (hk : xj_knd k = 4 ∧ xj_cls k = ci ∧ xj_len k = N) (hx : x < N) (hp : xj_ok (k, r, i) w.2.2) (hf : (T x).2.2.2 = false ∨ ((T x).2.2.2 = true ∧ (xj_me E).name = "<init>" ∧ (T x).1 = own ∧ Cond.fieldLink own index (T x).1 (T x).2.1 (T x).2.2.1 ∈ xj_GW)) {v : Value} (hn : narrow (ty0 x) v = v) (hft : fits (ty0 x) v = true) {w2 : xj_W} (hw : xj_cell G w2 (k, r, i) = .inr (xj_cls k, ((List.range (xj_len k)).map (fun x => xj_fv G w k r i x)).set x v)) (hz : w2.2.2 = w.2.2) (ho : ∀ p', p' ≠ (k, r, i) → xj_cell G w2 p' = xj_cell G w p') (kk : xj_X E G Q cs sl nx L st w2) : xj_X E G Q cs sl pc L (v :: .ref (xj_ad G (k, r, i)) :: st) w := by
  obtain ⟨hd, hn0⟩ := a
  subst hn0
  obtain ⟨k1, k2, k3⟩ := hk
  intro ls H locs h1 h2 h3 h4
  have he := xj_at (G := G) hp
  rw [xj_obj k1, k2, k3] at he
  rw [k2, k3] at hw
  have hs := xj_mk_set (G := G) hp hz ho
  rw [hw] at hs
  have hlen : x < ((List.range N).map (fun x => xj_fv G w k r i x)).length := by simpa using hx
  have hap := va_apart (own := own) C.2.2.2.2.1 F.2.1 ty0 F.2.2.1 F.2.2.2 C.2.2.2.2.2.2.1 F.1
  obtain ⟨r', g1, cell, q1, q2, q3, q4⟩ := h3 _ _ he
  have hr : r' = (Cn, T, N) := Option.some.inj (g1.symm.trans F.1)
  subst hr
  obtain ⟨hS, hfc, kC, hkC, hkind⟩ := C.2.2.2.2.2.2.1.1 ci _ F.1
  obtain ⟨cf, kf, fi, f, hi, hsl⟩ := hS x hx
  have hst := (u_facts hfc hkC (u_lays C.2.2.2.2.1 F.2.1 hx) hi).1
  have hlay := C.2.2.2.2.1 _ (F.2.1 _ (u_in_lay hx))
  unfold u_lay at hlay
  have fin : ∀ H' : Heap, H'[xj_ad G (k, r, i)]? = some (cell.setSlot f.slot v) → H'.size = H.size → (∀ q, q ≠ xj_ad G (k, r, i) → H'[q]? = H[q]?) → xj_V E H' (locs ++ [⟨xj_ad G (k, r, i), f.slot⟩]) cs sl Q (F0 (xj_m E) (pc + 3) ls st) := by
    intro H' e1 e2 e3
    rw [hsl] at e1 ⊢
    refine kk ls H' _ h1 (by rw [e2, h2, hz]) ?_ (h4.put e2 e3 ((xj_D G w).2 _ _ he))
    rw [← hs]
    exact h3.set (xj_D G w) he ⟨_, F.1, t_OB.to (V := updV (vp_V _) x v) ⟨_, e1, q2, q3, t_set q4 hap hx v⟩ (fun j _ => vp_updV_set hlen v j)⟩ e3
  rcases hf with hf | ⟨hf, hname, hdecl, hl2⟩
  · rw [if_neg (by rw [hf]; decide)] at hlay
    have h6 := u_store hfc hkC hkind hlay hi (F.2.2.1 x hx) hn hft
    rcases hl with hl | ⟨host, hl⟩
    · exact W.putK C.1 C.2.1 (f := f) ⟨C.2.2.2.1, C.2.2.2.2.1 _ hl, ⟨_, _, _, hi⟩, hst⟩ (by rw [q2]; exact h6) q1 q3 (by rw [hsl]; exact k2_hasslot (q4 x hx)) rfl rfl hd fin
    · exact va_WputK C.1 C.2.1 (f := f) C.2.2.2.1 (va_Nw.use rfl (C.2.2.2.2.2.1 _ hl)) hi hst (by rw [q2]; exact h6) q1 q3 (by rw [hsl]; exact k2_hasslot (q4 x hx)) rfl rfl hd fin
  · rw [if_pos hf] at hlay
    have hcf : (xj_m E).cls = cf := by
      obtain ⟨_, _, c', _, _, _, -, -, hf', -, -, -, hown2, -⟩ := Cond.laysFinal_spec hlay
      have e1 : c' = cf := by have := hi.symm.trans hf'; simp at this; exact this.1.symm
      rw [hdecl] at hown2
      rw [← e1]; exact Option.some.inj (C.2.2.2.1.symm.trans hown2)
    have h6 := u_fits hfc hkC hkind (Or.inr hlay) hi (F.2.2.1 x hx) hn hft
    exact W.putFinK C.1 C.2.1 C.2.2.2.1 (C.2.2.2.2.1 _ hl2) hi hst hcf hname (by rw [q2]; exact h6) q1 q3 (by rw [hsl]; exact k2_hasslot (q4 x hx)) rfl rfl hd fin
/-! arrays -/
theorem xj_arrI {k r i x : Nat} {v : Int32} (hk : xj_knd k = 0) : xj_cell G (xj_uI w k r i x v) (k, r, i) = .inl (G.2.1 0, xj_len k, .inl (upd (w.1.1 k r i) x v)) := by
  unfold xj_cell
  simp only [hk]
  congr 4
  funext y
  simp [xj_uI, upd]
theorem xj_arrZ {k r i x : Nat} {v : Int32} (hk : xj_knd k = 1) : xj_cell G (xj_uI w k r i x v) (k, r, i) = .inl (G.2.1 1, xj_len k, .inl (upd (w.1.1 k r i) x v)) := by
  unfold xj_cell
  simp only [hk]
  congr 4
  funext y
  simp [xj_uI, upd]
theorem xj_arrJ {k r i x : Nat} {v : Int64} (hk : xj_knd k = 2) : xj_cell G (xj_uJ w k r i x v) (k, r, i) = .inl (G.2.1 2, xj_len k, .inr (.inl (vp_updL (w.1.2 k r i) x v))) := by
  unfold xj_cell
  simp only [hk]
  congr 5
  funext y
  simp [xj_uJ, vp_updL]
theorem xj_iald (C : xj_C E G cc own nL d q c0 s0 ret) {k r i : Nat} {j : Int32} (a : xj_At cc pc .iaload 1 nx) (hk : xj_knd k = 0) (hp : xj_ok (k, r, i) w.2.2) (hj : vp_in j (xj_len k)) (kk : xj_X E G Q cs sl nx L (.int (w.1.1 k r i j.toNatClampNeg) :: st) w) : xj_X E G Q cs sl pc L (.int j :: .ref (xj_ad G (k, r, i)) :: st) w := by
  obtain ⟨hd, hn0⟩ := a
  subst hn0
  intro ls H locs h1 h2 h3 h4
  have he := xj_at (G := G) hp
  unfold xj_cell at he
  simp only [hk] at he
  exact va_iald C.1 C.2.1 C.2.2.2.2.2.2.1 h3 _ 0 he rfl hj hd (kk ls H locs h1 h2 h3 h4)
theorem xj_zald (C : xj_C E G cc own nL d q c0 s0 ret) {k r i : Nat} {j : Int32} (a : xj_At cc pc .baload 1 nx) (hk : xj_knd k = 1) (hp : xj_ok (k, r, i) w.2.2) (hj : vp_in j (xj_len k)) (kk : xj_X E G Q cs sl nx L (.int (w.1.1 k r i j.toNatClampNeg) :: st) w) : xj_X E G Q cs sl pc L (.int j :: .ref (xj_ad G (k, r, i)) :: st) w := by
  obtain ⟨hd, hn0⟩ := a
  subst hn0
  intro ls H locs h1 h2 h3 h4
  have he := xj_at (G := G) hp
  unfold xj_cell at he
  simp only [hk] at he
  exact va_zald C.1 C.2.1 C.2.2.2.2.2.2.1 h3 _ 1 he rfl hj hd (kk ls H locs h1 h2 h3 h4)
theorem xj_lald (C : xj_C E G cc own nL d q c0 s0 ret) {k r i : Nat} {j : Int32} (a : xj_At cc pc .laload 1 nx) (hk : xj_knd k = 2) (hp : xj_ok (k, r, i) w.2.2) (hj : vp_in j (xj_len k)) (kk : xj_X E G Q cs sl nx L (.long (w.1.2 k r i j.toNatClampNeg) :: st) w) : xj_X E G Q cs sl pc L (.int j :: .ref (xj_ad G (k, r, i)) :: st) w := by
  obtain ⟨hd, hn0⟩ := a
  subst hn0
  intro ls H locs h1 h2 h3 h4
  have he := xj_at (G := G) hp
  unfold xj_cell at he
  simp only [hk] at he
  exact va_lald C.1 C.2.1 C.2.2.2.2.2.2.1 h3 _ 2 he rfl hj hd (kk ls H locs h1 h2 h3 h4)
theorem xj_aald (C : xj_C E G cc own nL d q c0 s0 ret) {k r i t0 : Nat} {Cn : String} {j : Int32} {p2 : xj_Pl} (a : xj_At cc pc .aaload 1 nx) (hk : xj_knd k = 3 ∧ (xj_ty G)[t0]? = some (G.2.1 (xj_cls k), .object Cn)) (hp : xj_ok (k, r, i) w.2.2) (hj : vp_in j (xj_len k)) (hv : w.2.1 k r i j.toNatClampNeg = some p2) (kk : xj_X E G Q cs sl nx L (.ref (xj_ad G p2) :: st) w) : xj_X E G Q cs sl pc L (.int j :: .ref (xj_ad G (k, r, i)) :: st) w := by
  obtain ⟨hd, hn0⟩ := a
  subst hn0
  intro ls H locs h1 h2 h3 h4
  have he := xj_at (G := G) hp
  unfold xj_cell at he
  simp only [hk.1] at he
  refine va_aldq C.1 C.2.1 C.2.2.2.2.2.2.1 h3 _ t0 he hk.2 hj hd ?_
  simp only [hv]
  exact kk ls H locs h1 h2 h3 h4
theorem xj_iast (C : xj_C E G cc own nL d q c0 s0 ret) {k r i : Nat} {j x : Int32} (a : xj_At cc pc .iastore 1 nx) (hk : xj_knd k = 0) (hp : xj_ok (k, r, i) w.2.2) (hj : vp_in j (xj_len k)) (kk : xj_X E G Q cs sl nx L st (xj_uI w k r i j.toNatClampNeg x)) : xj_X E G Q cs sl pc L (.int x :: .int j :: .ref (xj_ad G (k, r, i)) :: st) w := by
  obtain ⟨hd, hn0⟩ := a
  subst hn0
  intro ls H locs h1 h2 h3 h4
  have he := xj_at (G := G) hp
  have hs := xj_mk_set (G := G) (w' := xj_uI w k r i j.toNatClampNeg x) hp rfl xj_uI_oth
  rw [xj_arrI hk] at hs
  unfold xj_cell at he
  simp only [hk] at he
  refine W.iast C.1 C.2.1 (h3 _ _ he) ((C.2.2.2.2.2.2.1.2 0 _ rfl).1 (xj_len k) (fun j => .int (w.1.1 k r i j))) (fun q => by cases q) (by show ¬ (j < 0 ∨ (arrV _ _ _).slots.size ≤ _); rw [arrV_size]; exact hj) rfl rfl hd fun H1 e z oq => ?_
  refine kk ls H1 _ h1 (by rw [z, h2]; rfl) ?_ (h4.put z oq ((xj_D G w).2 _ _ he))
  rw [← hs]
  refine h3.set (xj_D G w) he ?_ oq
  show H1[xj_ad G (k, r, i)]? = some (vp_cell _ _)
  rw [e]
  rw [vp_cell_i, vp_cell_i, arrV_store]
  congr 2
  funext q
  by_cases hq : q = j.toNatClampNeg
  · subst hq
    simp [updV, upd]
  · simp [updV, upd, hq]
theorem xj_zast (C : xj_C E G cc own nL d q c0 s0 ret) {k r i : Nat} {j x : Int32} (a : xj_At cc pc .bastore 1 nx) (hk : xj_knd k = 1) (hp : xj_ok (k, r, i) w.2.2) (hj : vp_in j (xj_len k)) (hx : narrow .boolean (.int x) = .int x) (kk : xj_X E G Q cs sl nx L st (xj_uI w k r i j.toNatClampNeg x)) : xj_X E G Q cs sl pc L (.int x :: .int j :: .ref (xj_ad G (k, r, i)) :: st) w := by
  obtain ⟨hd, hn0⟩ := a
  subst hn0
  intro ls H locs h1 h2 h3 h4
  have he := xj_at (G := G) hp
  have hs := xj_mk_set (G := G) (w' := xj_uI w k r i j.toNatClampNeg x) hp rfl xj_uI_oth
  rw [xj_arrZ hk] at hs
  unfold xj_cell at he
  simp only [hk] at he
  refine W.zast C.1 C.2.1 (h3 _ _ he) ((C.2.2.2.2.2.2.1.2 1 _ rfl).1 (xj_len k) (fun j => .int (w.1.1 k r i j))) (fun q => by cases q) (by show ¬ (j < 0 ∨ (arrV _ _ _).slots.size ≤ _); rw [arrV_size]; exact hj) rfl rfl hd fun H1 e z oq => ?_
  refine kk ls H1 _ h1 (by rw [z, h2]; rfl) ?_ (h4.put z oq ((xj_D G w).2 _ _ he))
  rw [← hs]
  refine h3.set (xj_D G w) he ?_ oq
  show H1[xj_ad G (k, r, i)]? = some (vp_cell _ _)
  rw [e, hx]
  rw [vp_cell_i, vp_cell_i, arrV_store]
  congr 2
  funext q
  by_cases hq : q = j.toNatClampNeg
  · subst hq
    simp [updV, upd]
  · simp [updV, upd, hq]
theorem xj_last (C : xj_C E G cc own nL d q c0 s0 ret) {k r i : Nat} {j : Int32} {x : Int64} (a : xj_At cc pc .lastore 1 nx) (hk : xj_knd k = 2) (hp : xj_ok (k, r, i) w.2.2) (hj : vp_in j (xj_len k)) (kk : xj_X E G Q cs sl nx L st (xj_uJ w k r i j.toNatClampNeg x)) : xj_X E G Q cs sl pc L (.long x :: .int j :: .ref (xj_ad G (k, r, i)) :: st) w := by
  obtain ⟨hd, hn0⟩ := a
  subst hn0
  intro ls H locs h1 h2 h3 h4
  have he := xj_at (G := G) hp
  have hs := xj_mk_set (G := G) (w' := xj_uJ w k r i j.toNatClampNeg x) hp rfl xj_uJ_oth
  rw [xj_arrJ hk] at hs
  unfold xj_cell at he
  simp only [hk] at he
  refine W.last C.1 C.2.1 (h3 _ _ he) ((C.2.2.2.2.2.2.1.2 2 _ rfl).1 (xj_len k) (fun j => .long (w.1.2 k r i j))) (fun q => by cases q) (by show ¬ (j < 0 ∨ (arrV _ _ _).slots.size ≤ _); rw [arrV_size]; exact hj) rfl rfl hd fun H1 e z oq => ?_
  refine kk ls H1 _ h1 (by rw [z, h2]; rfl) ?_ (h4.put z oq ((xj_D G w).2 _ _ he))
  rw [← hs]
  refine h3.set (xj_D G w) he ?_ oq
  show H1[xj_ad G (k, r, i)]? = some (vp_cell _ _)
  rw [e]
  rw [vp_cell_l, vp_cell_l, arrV_store]
  congr 2
  funext q
  by_cases hq : q = j.toNatClampNeg
  · subst hq
    simp [updV, vp_updL]
  · simp [updV, vp_updL, hq]

/-! contracts and calls -/
end XJ
abbrev xj_M : Type := MethodName × ByteArray × Nat × Option FieldType
def xj_rm (d q mc ms : Nat) : Room := { frames := d, cells := mc, slots := ms, locals := q }
def xj_st (G : xj_G) (w : xj_W) (U : State) : Prop := U.heap.size = G.2.2 + w.2.2 ∧ va_P G.1 xj_cl (xj_mk G w) U.heap ∧ va_K G.1 xj_cl (xj_ty G) U ∧ ∀ c ∈ xj_NW, va_Nw c U
def xj_Q (G : xj_G) (post : Option Value → xj_W → Prop) : Array Value → State → Outcome → State → Prop := fun _ st oc t => (∃ (v : Option Value) (w' : xj_W), oc = .returned v ∧ post v w' ∧ t.heap.size = G.2.2 + w'.2.2 ∧ va_P G.1 xj_cl (xj_mk G w') t.heap) ∧ va_F (xj_A G) st t
/-- the contract of M: from the world w, with these arguments, it returns with 'post' -/
def xj_Mx (l : Launch) (G : xj_G) (d q mc ms : Nat) (M : xj_M) (as : List Value) (w : xj_W) (post : Option Value → xj_W → Prop) : Prop := Met l M.1 (Cond.code M.1 M.2.1 M.2.2.1 M.2.2.2 :: xj_GW) (xj_rm d q mc ms) (va_Pc as (xj_st G w)) (xj_Q G post) mc ms (xj_A G)
abbrev xj_R (E : xj_E) (G : xj_G) (post : Option Value → xj_W → Prop) (mc ms : Nat) : State → Prop := MQ (xj_b E) (xj_Q G post) (xj_a E) (xj_s E) mc ms (xj_A G)
theorem xj_Mx_of {l : Launch} {G : xj_G} {d q mc ms : Nat} {M : xj_M} {as : List Value} {w : xj_W} {post : Option Value → xj_W → Prop} (hy : plainName M.1.cls = true) (hl : (lg_sl as).length ≤ M.2.2.1)
    (body : ∀ E : xj_E, E.2.1 = l → xj_C E G M.2.1 M.1.cls M.2.2.1 d q mc ms M.2.2.2 → (xj_me E).name = M.1.name → xj_X E G (xj_R E G post mc ms) 0 0 0 (xj_L0 as M.2.2.1) [] w) : xj_Mx l G d q mc ms M as w post := by
  refine Met.ofW (cc := M.2.1) (maxL := M.2.2.1) (ret := M.2.2.2) hy rfl ?_
  intro p e s m args below meth c s₁ B hml hv
  obtain ⟨hargs, hsz, hP, hK, hN⟩ := hv
  subst hargs
  have hts := atoms_spec (ws := Cond.code M.1 M.2.1 M.2.2.1 M.2.2.2 :: xj_GW) B.pre
  have hown := findClass_of_methodNamed B.named
  have hC : xj_C (p, l, e, xj_rm d q mc ms, s, m, as.toArray, below, meth, c) G M.2.1 M.1.cls M.2.2.1 d q mc ms M.2.2.2 := ⟨B.exec, B.bytes, hml, hown, fun v h => hts v (List.mem_cons_of_mem _ h), hN, hK, ⟨Nat.le_refl _, Nat.le_refl _, Nat.le_refl _, Nat.le_refl _⟩, B.returns, B.notSynchronized⟩
  have hb := body _ rfl hC (name_of_methodNamed B.named B.method).1
  rw [lg_entry_eq]
  exact hb _ s.heap [] (xj_entry as hl) hsz hP va_S.rf
theorem xj_blind {G : xj_G} {w : xj_W} {as : List Value} : FrameBlind (va_Pc as (xj_st G w)) := by
  intro a U g mk q
  obtain ⟨q0, q1, qP, qK, qN⟩ := q
  exact ⟨q0, q1, qP, va_K.moved (u := U) (U := U.calling g mk a) (Vm.Alike.refl U.vm) qK, fun c hc => xj_NW_s c hc (u := U) (U := U.calling g mk a) rfl (qN c hc)⟩
/-- what a call's site links -/
def xj_LK (own : String) (index : Nat) (y : MethodName) : Prop := Cond.methodLink own index y ∈ xj_GW ∨ ∃ host, Cond.methodLinkNest own index y host ∈ xj_NW
/-- what the tables say of a method that is called -/
def xj_MB (M : xj_M) (n : Nat) : Prop := Cond.code M.1 M.2.1 M.2.2.1 M.2.2.2 ∈ xj_GW ∧ Cond.initialized M.1.cls ∈ xj_GW ∧ (M.1.cls ≠ "java/lang/invoke/MethodHandle" ∧ M.1.cls ≠ "java/lang/invoke/VarHandle") ∧ (parseMethodDescriptor M.1.desc).map (fun d => d.parameters.length) = some n
def xj_MV (M : xj_M) (n : Nat) : Prop := xj_MB M n ∧ Cond.instanceMethod M.1 ∈ xj_GW ∧ Cond.selects M.1.cls M.1 M.1 ∈ xj_GW
def xj_MS (M : xj_M) (n : Nat) : Prop := xj_MB M n ∧ Cond.static M.1 ∈ xj_GW
def xj_MI (M : xj_M) (n : Nat) : Prop := xj_MB M n ∧ M.1.name = "<init>" ∧ Cond.instanceMethod M.1 ∈ xj_GW
section XJ2
variable {E : xj_E} {G : xj_G} {cc : ByteArray} {own : String} {nL d q c0 s0 : Nat} {ret : Option FieldType} {Q : State → Prop} {cs sl pc nx : Nat} {L : List (Option Value)} {st rest : List Value} {w : xj_W}
theorem xj_pays (C : xj_C E G cc own nL d q c0 s0 ret) {M : xj_M} {n : Nat} (B : xj_MB M n) : ∀ v ∈ (Cond.code M.1 M.2.1 M.2.2.1 M.2.2.2 :: xj_GW), ∀ (a' : Array Value) (U : State), (xj_s E).WarmedH U.vm → v.before a' U = true :=
  pay_in C.2.2.2.2.1 (fun v hv => by
    rcases List.mem_cons.mp hv with h | h
    · rw [h]; exact ⟨B.1, xj_GW_good _ B.1⟩
    · exact ⟨h, xj_GW_good _ h⟩)
theorem xj_pre (C : xj_C E G cc own nL d q c0 s0 ret) {as : List Value} {H : Heap} (h2 : H.size = G.2.2 + w.2.2) (h3 : va_P G.1 xj_cl (xj_mk G w) H) : ∀ U : State, U.heap = H → (xj_s E).WarmedH U.vm → va_Pc as (xj_st G w) as.toArray U := by
  intro U hU hW
  exact ⟨rfl, by rw [hU]; exact h2, by rw [hU]; exact h3, va_K.moved hW.alike C.2.2.2.2.2.2.1, fun c hc => xj_NW_m c hc hW (C.2.2.2.2.2.1 c hc)⟩
theorem xj_lens {M : xj_M} {n : Nat} (B : xj_MB M n) : ∀ sig, parseMethodDescriptor M.1.desc = some sig → n = sig.parameters.length := by
  intro sig h
  have h2 := B.2.2.2
  rw [h] at h2
  exact (Option.some.inj h2).symm
/-- behind a call -/
theorem xj_go {post : Option Value → xj_W → Prop} {mc ms : Nat} {ls : Array Slot} {H : Heap} {locs : List Loc} {st0 : List Value} {aa : Array Value} (h1 : xj_LH ls L) (h4 : va_S (xj_A G) (xj_s E).heap H locs)
    (hr : va_Run E.1 E.2.1 E.2.2.1 E.2.2.2.1 (xj_s E) (xj_m E) (xj_a E) (xj_b E) (xj_me E) (xj_c E) H locs cs sl mc ms (F0 (xj_m E) pc ls st0) rest (xj_Q G post aa) (xj_A G))
    (kk : ∀ v w', post v w' → xj_X E G Q (cs + mc) (sl + ms) (pc + 3) L (v.toList ++ rest) w') : xj_V E H locs cs sl Q (F0 (xj_m E) pc ls st0) := by
  intro T hT X
  obtain ⟨v, st₀, t, T', Lc, e0, X', hLc, e1, e2, ⟨⟨v', w', hv, hpost, hsz, hP'⟩, hF⟩, stp⟩ := hr T hT X
  cases hv
  have hF1 := hF.1
  have hF2 := hF.2
  rw [e0] at hF1 hF2
  obtain ⟨t2, a1, b1⟩ := kk v w' hpost ls T'.heap (locs ++ Lc) h1 (by rw [e1]; exact hsz) (by rw [e1]; exact hP') ⟨Nat.le_trans h4.1 (by rw [e1]; exact hF1), fun q g1 g2 => by rw [e1, hF2 q (Nat.lt_of_lt_of_le g1 h4.1) g2]; exact h4.2.1 q g1 g2, fun q hq => by
      rcases List.mem_append.mp hq with h | h
      · exact h4.2.2 q h
      · exact hLc q h⟩ T' rfl X'
  exact ⟨t2, stp t2 a1, b1⟩
theorem xj_callV (C : xj_C E G cc own nL d q c0 s0 ret) {index : Nat} {M : xj_M} {k r i n d' q' mc ms : Nat} {qc : vw_C} {As : List Value} {post : Option Value → xj_W → Prop} (a : xj_At cc pc (.invokevirtual index) 3 nx) (hM : xj_Mx E.2.1 G d' q' mc ms M (.ref (xj_ad G (k, r, i)) :: As) w post) (B : xj_MV M n) (hL : xj_LK own index M.1) (hk : xj_knd k = 4 ∧ xj_cl[xj_cls k]? = some qc ∧ qc.1 = M.1.cls) (hp : xj_ok (k, r, i) w.2.2) (hd : d' < d ∧ q' + M.2.2.1 + 19 ≤ q) (hnl : L.length = nL) (hn : As.length = n) (hst : (st.map fun v => v.category).sum ≤ 8) (hc : cs + mc ≤ c0 ∧ sl + ms ≤ s0) (kk : ∀ v w', post v w' → xj_X E G Q (cs + mc) (sl + ms) nx L (v.toList ++ st) w') : xj_X E G Q cs sl pc L (As.reverse ++ .ref (xj_ad G (k, r, i)) :: st) w := by
  obtain ⟨hdc, hn0⟩ := a
  subst hn0
  intro ls H locs h1 h2 h3 h4
  have he := xj_at (G := G) hp
  rw [xj_obj hk.1] at he
  obtain ⟨cell, hc1, hc2, hc3⟩ := va_recv C.2.2.2.2.2.2.1 h3 hk.2.1 he
  rw [hk.2.2] at hc3
  have hR := C.2.2.2.2.2.2.2.1
  have hfr : (xj_rm d' q' mc ms).frames + 1 ≤ E.2.2.2.1.frames := by show d' + 1 ≤ _; omega
  have hlo : 8 + (M.2.2.1 + 11) + (xj_rm d' q' mc ms).locals ≤ E.2.2.2.1.locals := by
    show 8 + (M.2.2.1 + 11) + q' ≤ _
    omega
  have hp' : PreV (xj_s E) H M.1.cls (xj_ad G (k, r, i)) (va_Pc (.ref (xj_ad G (k, r, i)) :: As) (xj_st G w)) As := ⟨xj_blind, ⟨cell, hc1, hc2, hc3⟩, xj_pre C h2 h3⟩
  rcases hL with hL | ⟨host, hL⟩
  · refine xj_go h1 h4 (va_runV (n := n) (bytes := M.2.1) (maxL := M.2.2.1) (ret := M.2.2.2) ⟨C.1, C.2.1, C.2.2.1, C.2.2.2.1, C.2.2.2.2.1⟩ hM ⟨⟨rfl, rfl, hfr, hlo, xj_pays C B.1, List.mem_cons_self, C.2.2.2.2.1 _ B.1.1, C.2.2.2.2.1 _ B.1.2.1, B.1.2.2.1, xj_lens B.1, C.2.2.2.2.1 _ hL⟩, C.2.2.2.2.1 _ B.2.1, C.2.2.2.2.1 _ B.2.2⟩ hp' rfl hn (h1.1.trans hnl) rfl (lv_room hst) hdc ⟨by omega, by omega⟩) kk
  · refine xj_go h1 h4 (va_runVN (n := n) (bytes := M.2.1) (maxL := M.2.2.1) (ret := M.2.2.2) ⟨C.1, C.2.1, C.2.2.1, C.2.2.2.1, C.2.2.2.2.1⟩ hM ⟨⟨⟨rfl, rfl, hfr, hlo, xj_pays C B.1, List.mem_cons_self⟩, C.2.2.2.2.1 _ B.1.1, C.2.2.2.2.1 _ B.1.2.1, B.1.2.2.1, xj_lens B.1, va_Nw.use rfl (C.2.2.2.2.2.1 _ hL)⟩, C.2.2.2.2.1 _ B.2.1, C.2.2.2.2.1 _ B.2.2⟩ hp' rfl hn (h1.1.trans hnl) rfl (lv_room hst) hdc ⟨by omega, by omega⟩) kk
theorem xj_callS (C : xj_C E G cc own nL d q c0 s0 ret) {index : Nat} {M : xj_M} {n d' q' mc ms : Nat} {As : List Value} {post : Option Value → xj_W → Prop} (a : xj_At cc pc (.invokestatic index) 3 nx) (hM : xj_Mx E.2.1 G d' q' mc ms M As w post) (B : xj_MS M n) (hL : xj_LK own index M.1) (hd : d' < d ∧ q' + M.2.2.1 + 19 ≤ q) (hnl : L.length = nL) (hn : As.length = n) (hst : (st.map fun v => v.category).sum ≤ 8) (hc : cs + mc ≤ c0 ∧ sl + ms ≤ s0) (kk : ∀ v w', post v w' → xj_X E G Q (cs + mc) (sl + ms) nx L (v.toList ++ st) w') : xj_X E G Q cs sl pc L (As.reverse ++ st) w := by
  obtain ⟨hdc, hn0⟩ := a
  subst hn0
  intro ls H locs h1 h2 h3 h4
  have hR := C.2.2.2.2.2.2.2.1
  have hfr : (xj_rm d' q' mc ms).frames + 1 ≤ E.2.2.2.1.frames := by show d' + 1 ≤ _; omega
  have hlo : 8 + (M.2.2.1 + 11) + (xj_rm d' q' mc ms).locals ≤ E.2.2.2.1.locals := by
    show 8 + (M.2.2.1 + 11) + q' ≤ _
    omega
  have hp' : PreS (xj_s E) H (va_Pc As (xj_st G w)) As := ⟨xj_blind, xj_pre C h2 h3⟩
  rcases hL with hL | ⟨host, hL⟩
  · refine xj_go h1 h4 (va_runS (n := n) (bytes := M.2.1) (maxL := M.2.2.1) (ret := M.2.2.2) ⟨C.1, C.2.1, C.2.2.1, C.2.2.2.1, C.2.2.2.2.1⟩ hM ⟨⟨rfl, rfl, hfr, hlo, xj_pays C B.1, List.mem_cons_self, C.2.2.2.2.1 _ B.1.1, C.2.2.2.2.1 _ B.1.2.1, B.1.2.2.1, xj_lens B.1, C.2.2.2.2.1 _ hL⟩, C.2.2.2.2.1 _ B.2⟩ hp' rfl hn (h1.1.trans hnl) rfl (lv_room hst) hdc ⟨by omega, by omega⟩) kk
  · refine xj_go h1 h4 (va_runSN (n := n) (bytes := M.2.1) (maxL := M.2.2.1) (ret := M.2.2.2) ⟨C.1, C.2.1, C.2.2.1, C.2.2.2.1, C.2.2.2.2.1⟩ hM ⟨⟨⟨rfl, rfl, hfr, hlo, xj_pays C B.1, List.mem_cons_self⟩, C.2.2.2.2.1 _ B.1.1, C.2.2.2.2.1 _ B.1.2.1, B.1.2.2.1, xj_lens B.1, va_Nw.use rfl (C.2.2.2.2.2.1 _ hL)⟩, C.2.2.2.2.1 _ B.2, trivial⟩ hp' rfl hn (h1.1.trans hnl) rfl (lv_room hst) hdc ⟨by omega, by omega⟩) kk
theorem xj_callI (C : xj_C E G cc own nL d q c0 s0 ret) {index : Nat} {M : xj_M} {n d' q' mc ms b : Nat} {As : List Value} {post : Option Value → xj_W → Prop} (a : xj_At cc pc (.invokespecial index) 3 nx) (hret : M.2.2.2 = none) (hM : xj_Mx E.2.1 G d' q' mc ms M (.ref b :: As) w post) (B : xj_MI M n) (hL : xj_LK own index M.1) (hd : d' < d ∧ q' + M.2.2.1 + 19 ≤ q) (hnl : L.length = nL) (hn : As.length = n) (hst : (st.map fun v => v.category).sum ≤ 8) (hc : cs + mc ≤ c0 ∧ sl + ms ≤ s0) (kk : ∀ v w', post v w' → xj_X E G Q (cs + mc) (sl + ms) nx L (v.toList ++ st) w') : xj_X E G Q cs sl pc L (As.reverse ++ .ref b :: st) w := by
  obtain ⟨hdc, hn0⟩ := a
  subst hn0
  intro ls H locs h1 h2 h3 h4
  have hR := C.2.2.2.2.2.2.2.1
  have hfr : (xj_rm d' q' mc ms).frames + 1 ≤ E.2.2.2.1.frames := by show d' + 1 ≤ _; omega
  have hlo : 8 + (M.2.2.1 + 11) + (xj_rm d' q' mc ms).locals ≤ E.2.2.2.1.locals := by
    show 8 + (M.2.2.1 + 11) + q' ≤ _
    omega
  have hp' : PreS (xj_s E) H (va_Pc (.ref b :: As) (xj_st G w)) (.ref b :: As) := ⟨xj_blind, xj_pre C h2 h3⟩
  have hcode : Cond.code M.1 M.2.1 M.2.2.1 none ∈ (Cond.code M.1 M.2.1 M.2.2.1 M.2.2.2 :: xj_GW) := by rw [hret]; exact List.mem_cons_self
  have hcode2 : (Cond.code M.1 M.2.1 M.2.2.1 none).before (xj_a E) (xj_s E) = true := by rw [← hret]; exact C.2.2.2.2.1 _ B.1.1
  rcases hL with hL | ⟨host, hL⟩
  · refine xj_go h1 h4 (va_runI (n := n) (bytes := M.2.1) (maxL := M.2.2.1) ⟨C.1, C.2.1, C.2.2.1, C.2.2.2.1, C.2.2.2.2.1⟩ hM ⟨⟨rfl, rfl, hfr, hlo, xj_pays C B.1, hcode, hcode2, C.2.2.2.2.1 _ B.1.2.1, B.1.2.2.1, xj_lens B.1, C.2.2.2.2.1 _ hL⟩, B.2.1, C.2.2.2.2.1 _ B.2.2⟩ hp' rfl hn (h1.1.trans hnl) rfl (lv_room hst) hdc ⟨by omega, by omega⟩) kk
  · refine xj_go h1 h4 (va_runIN (n := n) (bytes := M.2.1) (maxL := M.2.2.1) ⟨C.1, C.2.1, C.2.2.1, C.2.2.2.1, C.2.2.2.2.1⟩ hM ⟨⟨⟨rfl, rfl, hfr, hlo, xj_pays C B.1, hcode⟩, hcode2, C.2.2.2.2.1 _ B.1.2.1, B.1.2.2.1, xj_lens B.1, va_Nw.use rfl (C.2.2.2.2.2.1 _ hL)⟩, B.2.1, C.2.2.2.2.1 _ B.2.2⟩ hp' rfl hn (h1.1.trans hnl) rfl (lv_room hst) hdc ⟨by omega, by omega⟩) kk
/-! ends -/
theorem xj_iret {post : Option Value → xj_W → Prop} (C : xj_C E G cc own nL d q c0 s0 (some .int)) {v : Int32} (a : xj_At cc pc .ireturn 1 nx) (hq : post (some (.int v)) w) : xj_X E G (xj_R E G post cs sl) cs sl pc L [.int v] w :=
  fun ls H locs h1 h2 h3 h4 => W.iret C.1 C.2.1 C.2.2.2.2.2.2.2.2.1 (fun t ht hW => ⟨⟨_, w, rfl, hq, by rw [ht]; exact h2, by rw [ht]; exact h3⟩, h4.F ht⟩) h4.2.2 a.1 (hlocks := C.2.2.2.2.2.2.2.2.2)
theorem xj_zret {post : Option Value → xj_W → Prop} (C : xj_C E G cc own nL d q c0 s0 (some .boolean)) {v : Int32} (a : xj_At cc pc .ireturn 1 nx) (hn : narrow .boolean (.int v) = .int v) (hq : post (some (.int v)) w) : xj_X E G (xj_R E G post cs sl) cs sl pc L [.int v] w :=
  fun ls H locs h1 h2 h3 h4 => W.zret C.1 C.2.1 C.2.2.2.2.2.2.2.2.1 hn (fun t ht hW => ⟨⟨_, w, rfl, hq, by rw [ht]; exact h2, by rw [ht]; exact h3⟩, h4.F ht⟩) h4.2.2 a.1 (hlocks := C.2.2.2.2.2.2.2.2.2)
theorem xj_lret {post : Option Value → xj_W → Prop} (C : xj_C E G cc own nL d q c0 s0 (some .long)) {v : Int64} (a : xj_At cc pc .lreturn 1 nx) (hq : post (some (.long v)) w) : xj_X E G (xj_R E G post cs sl) cs sl pc L [.long v] w :=
  fun ls H locs h1 h2 h3 h4 => W.lret C.1 C.2.1 C.2.2.2.2.2.2.2.2.1 (fun t ht hW => ⟨⟨_, w, rfl, hq, by rw [ht]; exact h2, by rw [ht]; exact h3⟩, h4.F ht⟩) h4.2.2 a.1 (hlocks := C.2.2.2.2.2.2.2.2.2)
theorem xj_vret {post : Option Value → xj_W → Prop} (C : xj_C E G cc own nL d q c0 s0 none) (a : xj_At cc pc .return_ 1 nx) (hq : post none w) : xj_X E G (xj_R E G post cs sl) cs sl pc L [] w :=
  fun ls H locs h1 h2 h3 h4 => W.vret C.1 C.2.1 C.2.2.2.2.2.2.2.2.1 (fun t ht hW => ⟨⟨_, w, rfl, hq, by rw [ht]; exact h2, by rw [ht]; exact h3⟩, h4.F ht⟩) h4.2.2 a.1 (hlocks := C.2.2.2.2.2.2.2.2.2)
theorem xj_aret {post : Option Value → xj_W → Prop} {Cn : String} (C : xj_C E G cc own nL d q c0 s0 (some (.object Cn))) {v : Nat} (a : xj_At cc pc .areturn 1 nx) (hq : post (some (.ref v)) w) : xj_X E G (xj_R E G post cs sl) cs sl pc L [.ref v] w :=
  fun ls H locs h1 h2 h3 h4 => W.aret C.1 C.2.1 C.2.2.2.2.2.2.2.2.1 (Or.inl ⟨_, rfl⟩) (Or.inr ⟨_, rfl⟩) (fun t ht hW => ⟨⟨_, w, rfl, hq, by rw [ht]; exact h2, by rw [ht]; exact h3⟩, h4.F ht⟩) h4.2.2 a.1 (hlocks := C.2.2.2.2.2.2.2.2.2)
end XJ2

