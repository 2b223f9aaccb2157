/-! what holds of the board and of each replica in every run -/
/-- so many COMMITs for n lie on the board -/
def pg_dn (B : pg_B) (n : Nat) : Nat := ((List.range B.1).filter (fun i => pg_k B i == 3 && pg_b B i == lN n)).length
def pg_dd (B : pg_B) (e : Nat) : Prop := ∀ n, 1 ≤ n → n ≤ e → 3 ≤ pg_dn B n
theorem xp_len_or (P Q : Nat → Bool) : ∀ l : List Nat, (∀ s, s ∈ l → ¬ (P s = true ∧ Q s = true)) → (l.filter (fun s => P s || Q s)).length = (l.filter P).length + (l.filter Q).length
  | [], _ => rfl
  | a :: l, h => by
    have ih := xp_len_or P Q l (fun s hs => h s (List.mem_cons_of_mem a hs))
    have ha := h a (List.mem_cons_self)
    cases hp : P a <;> cases hq : Q a <;> simp [hp, hq, ih] <;> first | omega | exact (ha ⟨hp, hq⟩).elim
theorem pg_dd_le {B : pg_B} {e : Nat} (h : pg_dd B e) (hz : B.1 ≤ 256) : 3 * e ≤ B.1 := by
  have key : ∀ d, d ≤ e → d ≤ 1000 → 3 * d ≤ ((List.range B.1).filter (fun i => pg_k B i == 3 && (List.range d).any (fun n => pg_b B i == lN (n + 1)))).length := by
    intro d
    induction d with
    | zero => intro _ _; omega
    | succ d ih =>
      intro h1 h2
      have ih := ih (by omega) (by omega)
      have hd := h (d + 1) (by omega) h1
      have e1 : (List.range B.1).filter (fun i => pg_k B i == 3 && (List.range (d + 1)).any (fun n => pg_b B i == lN (n + 1))) = (List.range B.1).filter (fun i => (pg_k B i == 3 && (List.range d).any (fun n => pg_b B i == lN (n + 1))) || (pg_k B i == 3 && pg_b B i == lN (d + 1))) := by
        apply List.filter_congr
        intro i _
        rw [xp_any_s, Bool.and_or_distrib_left]
      rw [e1, xp_len_or]
      · unfold pg_dn at hd
        omega
      · intro i _ hi
        obtain ⟨hi1, hi2⟩ := hi
        rw [Bool.and_eq_true, List.any_eq_true] at hi1
        rw [Bool.and_eq_true, beq_iff_eq, beq_iff_eq] at hi2
        obtain ⟨-, n, hn1, hn2⟩ := hi1
        have hn1 := List.mem_range.mp hn1
        rw [beq_iff_eq, hi2.2, lN_eq (by omega) (by omega)] at hn2
        omega
  by_cases he : e ≤ 1000
  · have := key e (Nat.le_refl e) he
    have h2 := List.length_filter_le (fun i => pg_k B i == 3 && (List.range e).any (fun n => pg_b B i == lN (n + 1))) (List.range B.1)
    rw [List.length_range] at h2
    omega
  · have := key 1000 (by omega) (by omega)
    have h2 := List.length_filter_le (fun i => pg_k B i == 3 && (List.range 1000).any (fun n => pg_b B i == lN (n + 1))) (List.range B.1)
    rw [List.length_range] at h2
    omega
theorem xp_len_mono {P P' : Nat → Bool} {z z' : Nat} (hz : z ≤ z') (h : ∀ i, i < z → P i = true → P' i = true) : ((List.range z).filter P).length ≤ ((List.range z').filter P').length := by
  obtain ⟨d, rfl⟩ := Nat.exists_eq_add_of_le hz
  induction d with
  | zero =>
    clear hz
    induction z with
    | zero => simp
    | succ z ih =>
      have := ih (fun i hi => h i (by omega))
      show ((List.range (z + 1)).filter P).length ≤ ((List.range (z + 1)).filter P').length
      rw [List.range_succ, List.filter_append, List.length_append, List.filter_append, List.length_append]
      have h1 : ([z].filter P).length ≤ ([z].filter P').length := by
        cases hp : P z
        · simp [hp]
        · simp [hp, h z (by omega) hp]
      have h2 : ((List.range z).filter P).length ≤ ((List.range z).filter P').length := this
      omega
  | succ d ih =>
    have := ih (by omega)
    rw [← Nat.add_assoc, List.range_succ, List.filter_append, List.length_append]
    omega
theorem pg_dd_ext {B B' : pg_B} (h : pg_ext B B') {e : Nat} (hd : pg_dd B e) : pg_dd B' e := by
  intro n h1 h2
  refine Nat.le_trans (hd n h1 h2) (xp_len_mono h.1 (fun i hi g => ?_))
  obtain ⟨e1, e2, e3, e4, e5, e6⟩ := h.2 i hi
  rw [e1, e4]
  exact g
theorem pg_dd_mono {B : pg_B} {d e : Nat} (h : pg_dd B e) (hd : d ≤ e) : pg_dd B d := fun n h1 h2 => h n h1 (by omega)
/-- more messages, more senders -/
theorem pg_cnt_mono {m m' : Nat} {f f' : Nat → Nat} {P P' : Nat → Bool} {b : Nat} (hm : m ≤ m') (hf : ∀ i, i < m → f' i = f i) (hP : ∀ i, i < m → P i = true → P' i = true) : pg_cnt m f P b ≤ pg_cnt m' f' P' b := by
  unfold pg_cnt
  refine xp_len_mono (Nat.le_refl 4) (fun s hs g => ?_)
  rw [Bool.and_eq_true, List.any_eq_true] at g ⊢
  obtain ⟨g1, i, g2, g3⟩ := g
  have g2 := List.mem_range.mp g2
  rw [Bool.and_eq_true] at g3
  exact ⟨g1, i, List.mem_range.mpr (by omega), by rw [Bool.and_eq_true, hf i g2]; exact ⟨g3.1, hP i g2 g3.2⟩⟩
theorem pg_proof_mono {B : pg_B} {n : Int64} {m m' : Nat} (hm : m ≤ m') (h : (pg_proof B n m).isSome = true) : (pg_proof B n m').isSome = true := by
  unfold pg_proof at h ⊢
  rw [List.find?_isSome] at h ⊢
  obtain ⟨i, h1, h2⟩ := h
  have h1 := List.mem_range.mp h1
  refine ⟨i, List.mem_range.mpr (by omega), ?_⟩
  rw [Bool.and_eq_true, Bool.and_eq_true, decide_eq_true_eq] at h2 ⊢
  exact ⟨h2.1, h2.2.1, Nat.le_trans h2.2.2 (pg_cnt_mono hm (fun _ _ => rfl) (fun _ _ g => g))⟩
theorem pg_proof_up {B B' : pg_B} (h : pg_ext B B') {n : Int64} (hp : (pg_proof B n B.1).isSome = true) : (pg_proof B' n B'.1).isSome = true :=
  pg_proof_mono h.1 (by rw [pg_proof_ext h (Nat.le_refl _)]; exact hp)
/-- the message i orders x (a code) for n -/
def pg_src (B : pg_B) (i n x : Nat) : Prop := (pg_k B i = 1 ∧ pg_b B i = lN n ∧ n < 1000 ∧ -1 ≤ pg_c B i ∧ pg_c B i < 1000 ∧ x = pg_cq (pg_c B i)) ∨ (pg_k B i = 6 ∧ (∀ k, k < 3 → pg_vt (pg_b B i) k < i) ∧ ∃ j, j < 4 ∧ n = pg_st B (pg_b B i) + 1 + j ∧ x = pg_od1 (pg_c B i) j ∧ 0 < x)
theorem pg_src_ext {B B' : pg_B} (h : pg_ext B B') {i n x : Nat} (hi : i < B.1) : pg_src B' i n x ↔ pg_src B i n x := by
  obtain ⟨e1, e2, e3, e4, e5, e6⟩ := h.2 i hi
  unfold pg_src
  rw [e1, e4, e5]
  refine or_congr Iff.rfl (and_congr Iff.rfl (and_congr_right (fun hv => ?_)))
  rw [pg_st_ext h (fun k hk => Nat.lt_trans (hv k hk) hi)]
theorem pg_src_pos {B : pg_B} {i n x : Nat} (h : pg_src B i n x) : 0 < x ∧ x < 1002 := by
  rcases h with ⟨-, -, -, h1, h2, rfl⟩ | ⟨-, -, j, -, -, rfl, h⟩
  · have := xp_cq h1 h2
    omega
  · have := pg_od1_lt (pg_c B i) j
    omega
/-- an unforged PREPARE -/
def pg_pok (B : pg_B) (i : Nat) : Prop := ∃ w n x, w ≤ 15 ∧ n < 1000 ∧ pg_a B i = nI w ∧ pg_b B i = lN n ∧ pg_f B i ≠ w % 4 ∧ pg_c B i = nI x - 2 ∧ 0 < x ∧ x < 300 ∧ (2 ≤ x → x - 2 < B.1 ∧ pg_k B (x - 2) = 0) ∧ ∃ j, j < B.1 ∧ pg_f B j = w % 4 ∧ pg_a B j = nI w ∧ pg_src B j n x
/-- what holds of the board; F: the faulty replica's number and 1, or 0 -/
def pg_ki (F : Nat) (B : pg_B) : Prop := pg_wf B ∧ pg_rq B ∧ F ≤ 4 ∧ (∀ i, i < B.1 → pg_g B i = true → pg_f B i + 1 = F) ∧ pg_b6 B ∧ (∀ i, i < B.1 → pg_k B i = 7 → pg_c B i = 0) ∧ (∀ i, i < B.1 → pg_g B i = false → pg_k B i = 7 → ∃ n, pg_a B i = nI n ∧ pg_dd B n) ∧ (∀ i, i < B.1 → pg_g B i = false → pg_k B i = 2 → pg_pok B i) ∧ (∀ i j, i < B.1 → j < B.1 → pg_g B i = false → pg_g B j = false → pg_k B i = 2 → pg_k B j = 2 → pg_f B i = pg_f B j → pg_a B i = pg_a B j → pg_b B i = pg_b B j → i = j) ∧ (∀ i j n x y, i < B.1 → j < B.1 → pg_g B i = false → pg_g B j = false → pg_f B i = pg_f B j → pg_a B i = pg_a B j → pg_src B i n x → pg_src B j n y → x = y)
/-! a replica -/
def pg_j1 (S : pg_S) : Prop := ∀ q, pg_no S.2 q ≤ 1 ∧ pg_kn S.2 q ≤ 1
def pg_j2 (S : pg_S) : Prop := ∀ i j, i < S.1.1 → j < S.1.1 → pg_no S.2 i = 1 → pg_no S.2 j = 1 → pg_k S.1 i = 7 → pg_k S.1 j = 7 → pg_f S.1 i = pg_f S.1 j → pg_a S.1 i = pg_a S.1 j → i = j
def pg_j3 (S : pg_S) : Prop := ∀ i, i < S.1.1 → pg_no S.2 i = 1 → pg_k S.1 i = 5 → pg_b S.1 i = 0 ∨ (pg_proof S.1 (pg_b S.1 i) i).isSome = true
def pg_j4 (S : pg_S) : Prop := pg_ch S.2 = 1 → pg_fre S (pg_vw S.2)
def pg_j5 (R : pg_R) : Prop := pg_vw R ≤ 15 ∧ pg_ch R ≤ 1 ∧ pg_tm R ≤ 32 ∧ 1 ≤ pg_sp R ∧ pg_sp R ≤ 32 ∧ pg_af R ≤ 1 ∧ ∀ n, pg_ac R n < 300 ∧ pg_de R n < 300 ∧ pg_ct R n ≤ 16
def pg_j6 (S : pg_S) : Prop := ∀ n, pg_ac S.2 n ≠ 0 → (2 ≤ pg_ac S.2 n → pg_ac S.2 n - 2 < S.1.1 ∧ pg_k S.1 (pg_ac S.2 n - 2) = 0) ∧ ∃ i, i < S.1.1 ∧ pg_f S.1 i = pg_vw S.2 % 4 ∧ pg_a S.1 i = nI (pg_vw S.2) ∧ pg_src S.1 i n (pg_ac S.2 n)
def pg_j7 (S : pg_S) : Prop := pg_ch S.2 = 1 → ∀ n, pg_ac S.2 n = 0
def pg_j8 (r : Nat) (S : pg_S) : Prop := ∀ i, i < S.1.1 → pg_f S.1 i = r → pg_g S.1 i = false → (pg_k S.1 i = 1 ∨ pg_k S.1 i = 6) → ∃ w, w ≤ pg_vw S.2 ∧ pg_a S.1 i = nI w ∧ (w = pg_vw S.2 → pg_ch S.2 = 0 ∧ ∀ n x, pg_src S.1 i n x → n ≤ pg_h S.2 ∨ pg_ac S.2 n = x)
def pg_j9 (S : pg_S) : Prop := pg_h S.2 ≤ pg_e S.2 ∧ pg_e S.2 ≤ pg_h S.2 + 4 ∧ pg_dd S.1 (pg_e S.2)
def pg_jA (S : pg_S) : Prop := pg_h S.2 = 0 ∨ (pg_proof S.1 (lN (pg_h S.2)) S.1.1).isSome = true
def pg_jB (r : Nat) (S : pg_S) : Prop := ∀ i, i < S.1.1 → pg_f S.1 i = r → pg_g S.1 i = false → pg_k S.1 i = 7 → ∃ n, n ≤ pg_e S.2 ∧ pg_a S.1 i = nI n
def pg_jC (S : pg_S) : Prop := ∀ n, pg_de S.2 n ≠ 0 → 3 ≤ pg_dn S.1 n ∧ (2 ≤ pg_de S.2 n → pg_de S.2 n - 2 < S.1.1)
/-- what holds of the replica r, but for its orders -/
def pg_jc (r : Nat) (S : pg_S) : Prop := pg_kno S ∧ pg_j1 S ∧ pg_ow r S ∧ pg_nu S ∧ pg_j2 S ∧ pg_vcu r S ∧ pg_vb S ∧ pg_j3 S ∧ pg_vi r S ∧ pg_vo r S ∧ pg_nw S ∧ pg_j4 S ∧ pg_j5 S.2 ∧ pg_low S ∧ pg_top S ∧ pg_j6 S ∧ pg_j7 S ∧ pg_jC S ∧ pg_j9 S ∧ pg_jA S ∧ pg_jB r S
/-- what holds of the replica r -/
def pg_ji (r : Nat) (S : pg_S) : Prop := pg_jc r S ∧ pg_j8 r S
theorem pg_dn_ext {B B' : pg_B} (h : pg_ext B B') (n : Nat) : pg_dn B n ≤ pg_dn B' n := by
  refine xp_len_mono h.1 (fun i hi g => ?_)
  obtain ⟨e1, e2, e3, e4, e5, e6⟩ := h.2 i hi
  rw [e1, e4]
  exact g
/-- the board grows by others' messages -/
theorem pg_ji.grow {r : Nat} {S : pg_S} (h : pg_ji r S) {B' : pg_B} (he : pg_ext S.1 B') (hn : ∀ i, S.1.1 ≤ i → i < B'.1 → pg_f B' i ≠ r ∨ pg_g B' i = true) : pg_ji r (B', S.2) := by
  obtain ⟨⟨a1, a2, a3, a4, a5, a6, a7, a8, a9, b1, b2, b3, c1, c2, c3, d1, d2, d3, e1, e2, e3⟩, j8⟩ := h
  have hno : ∀ i, pg_no S.2 i = 1 → i < S.1.1 := a1.2
  have X := he.2
  have hold : ∀ i, i < B'.1 → pg_f B' i = r → pg_g B' i = false → i < S.1.1 := by
    intro i h1 h2 h3
    apply Classical.byContradiction
    intro h4
    rcases hn i (by omega) h1 with h | h
    · exact h h2
    · rw [h3] at h; cases h
  refine ⟨⟨⟨fun q hq => ?_, fun q hq => Nat.lt_of_lt_of_le (a1.2 q hq) he.1⟩, a2, ?_, ?_, ?_, ?_, ?_, ?_, ?_, ?_, ?_, ?_, c1, c2, ⟨c3.1, ?_⟩, ?_, d2, fun n hn => ⟨Nat.le_trans (d3 n hn).1 (pg_dn_ext he n), fun g => Nat.lt_of_lt_of_le ((d3 n hn).2 g) he.1⟩, ⟨e1.1, e1.2.1, pg_dd_ext he e1.2.2⟩, ?_, ?_⟩, ?_⟩
  · have := a1.1 q hq
    exact ⟨Nat.lt_of_lt_of_le this.1 he.1, (X q this.1).1.trans this.2⟩
  · intro i h1 h2
    by_cases hi : i < S.1.1
    · have x := X i hi
      have := a3 i hi (by rw [← x.2.1]; exact h2)
      show pg_no S.2 i = 1 ↔ pg_g B' i = false
      rw [x.2.2.2.2.2]
      exact this
    · constructor
      · intro h; exact absurd (hno i h) hi
      · intro h; exact absurd (hold i h1 h2 h) hi
  · intro i j _ _ h3 h4 h5 h6 h7 h8 h9
    have xi := X i (hno i h3)
    have xj := X j (hno j h4)
    refine a4 i j (hno i h3) (hno j h4) h3 h4 ?_ ?_ ?_ ?_ ?_
    · rw [← xi.1]; exact h5
    · rw [← xi.1, ← xj.1]; exact h6
    · rw [← xi.2.1, ← xj.2.1]; exact h7
    · rw [← xi.2.2.1, ← xj.2.2.1]; exact h8
    · rw [← xi.2.2.2.1, ← xj.2.2.2.1]; exact h9
  · intro i j _ _ h3 h4 h5 h6 h7 h8
    have xi := X i (hno i h3)
    have xj := X j (hno j h4)
    refine a5 i j (hno i h3) (hno j h4) h3 h4 ?_ ?_ ?_ ?_
    · rw [← xi.1]; exact h5
    · rw [← xj.1]; exact h6
    · rw [← xi.2.1, ← xj.2.1]; exact h7
    · rw [← xi.2.2.1, ← xj.2.2.1]; exact h8
  · intro i j h3 h4 h5 h6 h7 h8
    have xi := X i (hno i h3)
    have xj := X j (hno j h4)
    refine a6 i j h3 h4 ?_ ?_ ?_ ?_
    · rw [← xi.1]; exact h5
    · rw [← xj.1]; exact h6
    · rw [← xi.2.1, ← xj.2.1]; exact h7
    · rw [← xi.2.1]; exact h8
  · intro i _ h3 h5
    have xi := X i (hno i h3)
    obtain ⟨w, w1, w2, w3⟩ := a7 i (hno i h3) h3 (by rw [← xi.1]; exact h5)
    exact ⟨w, w1, w2, xi.2.2.1.trans w3⟩
  · intro i _ h3 h5
    have xi := X i (hno i h3)
    have := a8 i (hno i h3) h3 (by rw [← xi.1]; exact h5)
    show pg_b B' i = 0 ∨ (pg_proof B' (pg_b B' i) i).isSome = true
    rw [xi.2.2.2.1, pg_proof_ext he (Nat.le_of_lt (hno i h3))]
    exact this
  · intro i j h1 h2 h3 h4 h5 h6 h7 h8
    have xi := X i (hno i h3)
    have xj := X j (hno j h4)
    show pg_a B' i < pg_a B' j
    rw [xi.2.2.1, xj.2.2.1]
    refine a9 i j h1 (hno j h4) h3 h4 ?_ ?_ ?_ ?_
    · rw [← xi.1]; exact h5
    · rw [← xj.1]; exact h6
    · rw [← xi.2.1]; exact h7
    · rw [← xj.2.1]; exact h8
  · intro i _ h3 h5 h6
    have xi := X i (hno i h3)
    show ¬ nI (pg_vw S.2) < pg_a B' i
    rw [xi.2.2.1]
    exact b1 i (hno i h3) h3 (by rw [← xi.1]; exact h5) (by rw [← xi.2.1]; exact h6)
  · intro i h3 h5
    have xi := X i (hno i h3)
    obtain ⟨w, w1, w2⟩ := b2 i h3 (by rw [← xi.1]; exact h5)
    exact ⟨w, w1, xi.2.2.1.trans w2⟩
  · intro hc i h3 h5
    have xi := X i (hno i h3)
    show ¬ pg_a B' i = nI (pg_vw S.2)
    rw [xi.2.2.1]
    exact b3 hc i h3 (by rw [← xi.1]; exact h5)
  · intro i n h3 h5 h6 h7 h8 h9
    have xi := X i (hno i h3)
    refine c3.2 i n h3 ?_ ?_ ?_ h8 h9
    · rw [← xi.1]; exact h5
    · rw [← xi.2.2.1]; exact h6
    · rw [← xi.2.2.2.1]; exact h7
  · intro n hn
    obtain ⟨h1, i, i1, i2, i3, i4⟩ := d1 n hn
    have xi := X i i1
    refine ⟨fun g => ?_, i, Nat.lt_of_lt_of_le i1 he.1, xi.2.1.trans i2, xi.2.2.1.trans i3, (pg_src_ext he i1).mpr i4⟩
    obtain ⟨g1, g2⟩ := h1 g
    exact ⟨Nat.lt_of_lt_of_le g1 he.1, (X _ g1).1.trans g2⟩
  · rcases e2 with h | h
    · exact Or.inl h
    · exact Or.inr (pg_proof_up he h)
  · intro i h1 h2 h3 h4
    have hi := hold i h1 h2 h3
    have xi := X i hi
    obtain ⟨n, n1, n2⟩ := e3 i hi (by rw [← xi.2.1]; exact h2) (by rw [← xi.2.2.2.2.2]; exact h3) (by rw [← xi.1]; exact h4)
    exact ⟨n, n1, xi.2.2.1.trans n2⟩
  · intro i h1 h2 h3 h4
    have hi := hold i h1 h2 h3
    have xi := X i hi
    obtain ⟨w, w1, w2, w3⟩ := j8 i hi (by rw [← xi.2.1]; exact h2) (by rw [← xi.2.2.2.2.2]; exact h3) (by rw [← xi.1]; exact h4)
    exact ⟨w, w1, xi.2.2.1.trans w2, fun hw => ⟨(w3 hw).1, fun n x hx => (w3 hw).2 n x ((pg_src_ext he hi).mp hx)⟩⟩
