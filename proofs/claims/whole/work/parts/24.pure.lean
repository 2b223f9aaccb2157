/-! pure rows for the board -/
theorem xp_or (a b : Nat) : nI a ||| nI b = nI (a ||| b) := by
  apply Int32.toBitVec_inj.mp
  show BitVec.ofNat 32 a ||| BitVec.ofNat 32 b = BitVec.ofNat 32 (a ||| b)
  apply BitVec.eq_of_toNat_eq
  rw [BitVec.toNat_or, BitVec.toNat_ofNat, BitVec.toNat_ofNat, BitVec.toNat_ofNat]
  exact Nat.or_mod_two_pow.symm
/-- the senders of such messages, as bits -/
def xp_mk (P : Nat → Bool) (f : Nat → Nat) : Nat → Nat
  | 0 => 0
  | m + 1 => if P m then xp_mk P f m ||| 2 ^ f m else xp_mk P f m
theorem xp_mk_lt {P : Nat → Bool} {f : Nat → Nat} {m : Nat} (h : ∀ i, i < m → P i = true → f i < 4) : xp_mk P f m < 16 := by
  induction m with
  | zero => exact Nat.zero_lt_succ _
  | succ m ih =>
    have h1 := ih (fun i hi => h i (by omega))
    unfold xp_mk
    split
    · rename_i hp
      exact Nat.or_lt_two_pow (n := 4) h1 (Nat.pow_lt_pow_right (by decide) (h m (by omega) hp))
    · exact h1
theorem xp_mk_bit {P : Nat → Bool} {f : Nat → Nat} {m : Nat} (s : Nat) : (xp_mk P f m).testBit s = (List.range m).any (fun i => f i == s && P i) := by
  induction m with
  | zero => simp [xp_mk]
  | succ m ih =>
    rw [List.range_succ, List.any_append]
    unfold xp_mk
    by_cases hp : P m = true
    · rw [if_pos hp, Nat.testBit_or, ih, Nat.testBit_two_pow]
      congr 1
      simp [hp]
      rfl
    · rw [if_neg hp, ih]
      simp [hp]
theorem xp_pc16 : ∀ M, M < 16 → xn_pc M = ((List.range 4).filter (fun s => M.testBit s)).length := by decide +kernel
theorem xp_mk_cnt {P : Nat → Bool} {f : Nat → Nat} {m : Nat} (h : ∀ i, i < m → P i = true → f i < 4) : xn_bc (nI (xp_mk P f m)) = nI (pg_cnt m f P 9) := by
  have h1 := xp_mk_lt h
  rw [xn_bc_64 _ (by omega), xp_pc16 _ h1]
  congr 1
  unfold pg_cnt
  congr 1
  apply List.filter_congr
  intro s hs
  rw [xp_mk_bit]
  have : (s != 9) = true := by
    have := List.mem_range.mp hs
    simp
    omega
  rw [this, Bool.true_and]
theorem xp_bit4 : ∀ s, s < 6 → nI 1 <<< (nI s &&& 31) = nI (2 ^ s) := by decide +kernel
/-- a message's number, or -2 -/
def xp_o (o : Option Nat) : Int32 := match o with
  | some m => nI m
  | none => -2
theorem xp_find_some {P : Nat → Bool} {n m : Nat} (hm : m < n) (h : P m = true) (hk : ∀ k, k < m → P k = false) : (List.range n).find? P = some m := by
  rw [List.find?_range_eq_some]
  exact ⟨h, List.mem_range.mpr hm, fun j hj => by simp [hk j hj]⟩
theorem xp_find_none {P : Nat → Bool} {n : Nat} (hk : ∀ k, k < n → P k = false) : (List.range n).find? P = none := by
  rw [List.find?_eq_none]
  intro x hx
  rw [hk x (List.mem_range.mp hx)]
  decide
/-- a board is well made -/
def pg_wf (B : pg_B) : Prop := ∀ m, m < B.1 → pg_k B m < 8 ∧ pg_f B m < 6 ∧ (pg_k B m = 0 ↔ 4 ≤ pg_f B m)
theorem pg_wf4 {B : pg_B} (h : pg_wf B) {m : Nat} (hm : m < B.1) (hk : pg_k B m ≠ 0) : pg_f B m < 4 := by
  have := h m hm
  omega
/-- the class's board -/
def xc_B (B : pg_B) (v : xn_V) : Prop := v.1 1 0 0 6 = nI B.1 ∧ B.1 ≤ 256 ∧ pg_wf B ∧ ∀ m, m < B.1 → v.1 2 0 0 m = nI (pg_k B m) ∧ v.1 3 0 0 m = nI (pg_f B m) ∧ v.1 4 0 0 m = pg_a B m ∧ v.2 5 0 0 m = pg_b B m ∧ v.1 6 0 0 m = pg_c B m
theorem xc_B.k {B : pg_B} {v : xn_V} (h : xc_B B v) {m : Nat} (hm : m < B.1) : v.1 2 0 0 m = nI (pg_k B m) := (h.2.2.2 m hm).1
theorem xc_B.f {B : pg_B} {v : xn_V} (h : xc_B B v) {m : Nat} (hm : m < B.1) : v.1 3 0 0 m = nI (pg_f B m) := (h.2.2.2 m hm).2.1
theorem xc_B.a {B : pg_B} {v : xn_V} (h : xc_B B v) {m : Nat} (hm : m < B.1) : v.1 4 0 0 m = pg_a B m := (h.2.2.2 m hm).2.2.1
theorem xc_B.b {B : pg_B} {v : xn_V} (h : xc_B B v) {m : Nat} (hm : m < B.1) : v.2 5 0 0 m = pg_b B m := (h.2.2.2 m hm).2.2.2.1
theorem xc_B.c {B : pg_B} {v : xn_V} (h : xc_B B v) {m : Nat} (hm : m < B.1) : v.1 6 0 0 m = pg_c B m := (h.2.2.2 m hm).2.2.2.2
def xn_post (v : xn_V) (z : Nat) (k f a : Int32) (b : Int64) (c : Int32) : xn_V := xn_uI (xn_uI (xn_uJ (xn_uI (xn_uI (xn_uI v 2 0 0 z k) 3 0 0 z f) 4 0 0 z a) 5 0 0 z b) 6 0 0 z c) 1 0 0 6 (nI (z + 1))
theorem pg_send_z (B : pg_B) (k p : Nat) (x : Int32) (y : Int64) (z : Int32) (g : Bool) : (pg_send B k p x y z g).1 = B.1 + 1 := rfl
theorem pg_send_k (B : pg_B) (k p : Nat) (x : Int32) (y : Int64) (z : Int32) (g : Bool) (m : Nat) : pg_k (pg_send B k p x y z g) m = if m = B.1 then k else pg_k B m := rfl
theorem pg_send_f (B : pg_B) (k p : Nat) (x : Int32) (y : Int64) (z : Int32) (g : Bool) (m : Nat) : pg_f (pg_send B k p x y z g) m = if m = B.1 then p else pg_f B m := rfl
theorem pg_send_a (B : pg_B) (k p : Nat) (x : Int32) (y : Int64) (z : Int32) (g : Bool) (m : Nat) : pg_a (pg_send B k p x y z g) m = if m = B.1 then x else pg_a B m := rfl
theorem pg_send_b (B : pg_B) (k p : Nat) (x : Int32) (y : Int64) (z : Int32) (g : Bool) (m : Nat) : pg_b (pg_send B k p x y z g) m = if m = B.1 then y else pg_b B m := rfl
theorem pg_send_c (B : pg_B) (k p : Nat) (x : Int32) (y : Int64) (z : Int32) (g : Bool) (m : Nat) : pg_c (pg_send B k p x y z g) m = if m = B.1 then z else pg_c B m := rfl
theorem pg_send_g (B : pg_B) (k p : Nat) (x : Int32) (y : Int64) (z : Int32) (g : Bool) (m : Nat) : pg_g (pg_send B k p x y z g) m = if m = B.1 then g else pg_g B m := rfl
theorem xc_B.post {B : pg_B} {v : xn_V} (h : xc_B B v) (hz : B.1 < 256) (k f : Nat) (a : Int32) (b : Int64) (c : Int32) (g : Bool) (hk : k < 8 ∧ f < 6 ∧ (k = 0 ↔ 4 ≤ f)) : xc_B (pg_send B k f a b c g) (xn_post v B.1 (nI k) (nI f) a b c) := by
  obtain ⟨h1, h2, h3, h4⟩ := h
  refine ⟨by rw [pg_send_z]; simp [xn_post, xn_uI], by rw [pg_send_z]; omega, fun m hm => ?_, fun m hm => ?_⟩
  · rw [pg_send_z] at hm
    rw [pg_send_k, pg_send_f]
    by_cases e : m = B.1
    · rw [if_pos e, if_pos e]; exact hk
    · rw [if_neg e, if_neg e]; exact h3 m (by omega)
  · rw [pg_send_z] at hm
    rw [pg_send_k, pg_send_f, pg_send_a, pg_send_b, pg_send_c]
    by_cases e : m = B.1
    · subst e
      simp [xn_post, xn_uI, xn_uJ]
    · have := h4 m (by omega)
      simpa [xn_post, xn_uI, xn_uJ, e] using this
