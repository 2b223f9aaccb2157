/-! the reference: its cells, and what they stand for -/
section XT
variable {E : xj_E} {G : xj_G} {cc : ByteArray} {own : String} {nL d q c0 s0 : Nat} {ret : Option FieldType} {Q : State → Prop} {cs sl pc nx : Nat} {L : List (Option Value)} {st rest : List Value} {w : xj_W}
theorem xj_iaddN (C : xj_C E G cc own nL d q c0 s0 ret) {x y : Nat} (a : xj_At cc pc (.iadd) 1 nx) (k : xj_X E G Q cs sl nx L (.int (nI (x + y)) :: st) w) : xj_X E G Q cs sl pc L (.int (nI y) :: .int (nI x) :: st) w := xj_iadd C a (xj_topi (nI_add x y) k)
theorem xj_imulN (C : xj_C E G cc own nL d q c0 s0 ret) {x y : Nat} (a : xj_At cc pc (.imul) 1 nx) (k : xj_X E G Q cs sl nx L (.int (nI (x * y)) :: st) w) : xj_X E G Q cs sl pc L (.int (nI y) :: .int (nI x) :: st) w := xj_imul C a (xj_topi (pk_mul x y) k)
theorem xj_callV6 (C : xj_C E G cc own nL d q c0 s0 ret) {index : Nat} {M : xj_M} {k r i d' q' mc ms : Nat} {qc : vw_C} {x1 x2 x3 x4 x5 x6 : Value} {post : Option Value → xj_W → Prop} (a : xj_At cc pc (.invokevirtual index) 3 nx) (hM : xj_Mx E.2.1 G d' q' mc ms M (.ref (xj_ad G (k, r, i)) :: [x1, x2, x3, x4, x5, x6]) w post) (B : xj_MV M 6) (hL : xj_LK own index M.1) (hk : xj_knd k = 4 ∧ xj_cl[xj_cls k]? = some qc ∧ qc.1 = M.1.cls) (hp : xj_ok (k, r, i) w.2.2) (hd : d' < d ∧ q' + M.2.2.1 + 19 ≤ q) (hnl : L.length = nL) (hst : (st.map fun v => v.category).sum ≤ 8) (hc : cs + mc ≤ c0 ∧ sl + ms ≤ s0) (kk : ∀ v w', post v w' → xj_X E G Q (cs + mc) (sl + ms) nx L (v.toList ++ st) w') : xj_X E G Q cs sl pc L (x6 :: x5 :: x4 :: x3 :: x2 :: x1 :: .ref (xj_ad G (k, r, i)) :: st) w :=
  xj_callV (As := [x1, x2, x3, x4, x5, x6]) C a hM B hL hk hp hd hnl rfl hst hc kk
theorem xn_callV6i (C : xj_C E G cc own nL d q c0 s0 ret) {v : xn_V} {index : Nat} {M : xj_M} {k r i d' q' : Nat} {qc : vw_C} {x1 x2 x3 x4 x5 x6 : Value} {y : Int32} {v2 : xn_V} (a : xj_At cc pc (.invokevirtual index) 3 nx) (hM : xn_M E.2.1 G d' q' M (.ref (xj_ad G (k, r, i)) :: [x1, x2, x3, x4, x5, x6]) v (some (.int y)) v2) (B : xj_MV M 6) (hL : xj_LK own index M.1) (hk : xj_knd k = 4 ∧ xj_cl[xj_cls k]? = some qc ∧ qc.1 = M.1.cls) (hp : xj_ok (k, r, i) 116) (hd : d' < d ∧ q' + M.2.2.1 + 19 ≤ q) (hnl : L.length = nL) (hst : (st.map fun v => v.category).sum ≤ 8) (hc : cs ≤ c0 ∧ sl ≤ s0) (kk : xn_X E G Q cs sl nx L (.int y :: st) v2) : xn_X E G Q cs sl pc L (x6 :: x5 :: x4 :: x3 :: x2 :: x1 :: .ref (xj_ad G (k, r, i)) :: st) v :=
  xj_callV6 C a hM B hL hk hp hd hnl hst hc (fun _ _ h => by rw [h.1, h.2]; exact kk)
end XT
/-- the reference's board -/
def xt_B (B : pg_B) (v : xn_V) : Prop := v.1 21 0 0 0 = nI B.1 ∧ B.1 ≤ 200 ∧ pg_wf B ∧ (∀ m, m < B.1 → v.1 22 0 0 m = nI (pg_k B m) ∧ v.1 23 0 0 m = nI (pg_f B m) ∧ v.1 24 0 0 m = pg_a B m ∧ v.2 25 0 0 m = pg_b B m ∧ v.1 26 0 0 m = pg_c B m ∧ v.1 27 0 0 m = xp_b (pg_g B m)) ∧ ∀ m, B.1 ≤ m → m < 200 → v.1 27 0 0 m = nI 0
theorem xt_B.z {B : pg_B} {v : xn_V} (h : xt_B B v) : v.1 21 0 0 0 = nI B.1 := h.1
theorem xt_B.k {B : pg_B} {v : xn_V} (h : xt_B B v) {m : Nat} (hm : m < B.1) : v.1 22 0 0 m = nI (pg_k B m) := (h.2.2.2.1 m hm).1
theorem xt_B.f {B : pg_B} {v : xn_V} (h : xt_B B v) {m : Nat} (hm : m < B.1) : v.1 23 0 0 m = nI (pg_f B m) := (h.2.2.2.1 m hm).2.1
theorem xt_B.a {B : pg_B} {v : xn_V} (h : xt_B B v) {m : Nat} (hm : m < B.1) : v.1 24 0 0 m = pg_a B m := (h.2.2.2.1 m hm).2.2.1
theorem xt_B.b {B : pg_B} {v : xn_V} (h : xt_B B v) {m : Nat} (hm : m < B.1) : v.2 25 0 0 m = pg_b B m := (h.2.2.2.1 m hm).2.2.2.1
theorem xt_B.c {B : pg_B} {v : xn_V} (h : xt_B B v) {m : Nat} (hm : m < B.1) : v.1 26 0 0 m = pg_c B m := (h.2.2.2.1 m hm).2.2.2.2.1
theorem xt_B.g {B : pg_B} {v : xn_V} (h : xt_B B v) {m : Nat} (hm : m < B.1) : v.1 27 0 0 m = xp_b (pg_g B m) := (h.2.2.2.1 m hm).2.2.2.2.2
/-- the kind of the row that holds a tag -/
def xt_k (t : Nat) : Nat := [30, 31, 32, 33, 35, 36, 37, 38, 40, 28, 29].getD t 0
/-- the reference's replica r -/
def xt_R (r : Nat) (R : pg_R) (v : xn_V) : Prop := (∀ t, t < 6 → v.1 (xt_k t) 0 0 r = nI (R.1 t 0)) ∧ v.2 34 0 0 r = R.2 ∧ (∀ t, 6 ≤ t → t ≤ 10 → ∀ q, q < 200 → v.1 (xt_k t) 0 0 (200 * r + q) = nI (R.1 t q)) ∧ ∀ q, pg_no R q ≤ 1 ∧ pg_kn R q ≤ 1
theorem xt_R.vw {r : Nat} {R : pg_R} {v : xn_V} (h : xt_R r R v) : v.1 30 0 0 r = nI (pg_vw R) := h.1 0 (by decide)
theorem xt_R.ch {r : Nat} {R : pg_R} {v : xn_V} (h : xt_R r R v) : v.1 31 0 0 r = nI (pg_ch R) := h.1 1 (by decide)
theorem xt_R.h {r : Nat} {R : pg_R} {v : xn_V} (h : xt_R r R v) : v.1 32 0 0 r = nI (pg_h R) := h.1 2 (by decide)
theorem xt_R.e {r : Nat} {R : pg_R} {v : xn_V} (h : xt_R r R v) : v.1 33 0 0 r = nI (pg_e R) := h.1 3 (by decide)
theorem xt_R.sp {r : Nat} {R : pg_R} {v : xn_V} (h : xt_R r R v) : v.1 35 0 0 r = nI (pg_sp R) := h.1 4 (by decide)
theorem xt_R.tm {r : Nat} {R : pg_R} {v : xn_V} (h : xt_R r R v) : v.1 36 0 0 r = nI (pg_tm R) := h.1 5 (by decide)
theorem xt_R.st {r : Nat} {R : pg_R} {v : xn_V} (h : xt_R r R v) : v.2 34 0 0 r = R.2 := h.2.1
theorem xt_R.ac {r : Nat} {R : pg_R} {v : xn_V} (h : xt_R r R v) {q : Nat} (hq : q < 200) : v.1 37 0 0 (200 * r + q) = nI (pg_ac R q) := h.2.2.1 6 (by decide) (by decide) q hq
theorem xt_R.de {r : Nat} {R : pg_R} {v : xn_V} (h : xt_R r R v) {q : Nat} (hq : q < 200) : v.1 38 0 0 (200 * r + q) = nI (pg_de R q) := h.2.2.1 7 (by decide) (by decide) q hq
theorem xt_R.ct {r : Nat} {R : pg_R} {v : xn_V} (h : xt_R r R v) {q : Nat} (hq : q < 200) : v.1 40 0 0 (200 * r + q) = nI (pg_ct R q) := h.2.2.1 8 (by decide) (by decide) q hq
theorem xt_R.no {r : Nat} {R : pg_R} {v : xn_V} (h : xt_R r R v) {q : Nat} (hq : q < 200) : v.1 28 0 0 (200 * r + q) = nI (pg_no R q) := h.2.2.1 9 (by decide) (by decide) q hq
theorem xt_R.kn {r : Nat} {R : pg_R} {v : xn_V} (h : xt_R r R v) {q : Nat} (hq : q < 200) : v.1 29 0 0 (200 * r + q) = nI (pg_kn R q) := h.2.2.1 10 (by decide) (by decide) q hq
theorem xp_any_s (P : Nat → Bool) (n : Nat) : (List.range (n + 1)).any P = ((List.range n).any P || P n) := by
  rw [List.range_succ, List.any_append]
  simp
theorem c_T_outside (l : Launch) (G : xj_G) (v : xn_V) (x lo hi : Int32) : xn_M l G 0 0 m_T_outside [.int x, .int lo, .int hi] v (some (.int (xp_b (decide (x < lo ∨ ¬ x ≤ hi))))) v := by
  refine xn_M_of (by decide) (Nat.le_of_ble_eq_true rfl) (fun E hE C => ?_)
  subst hE
  replace C : xj_C E G prog_9_method_2_code "ThreePhaseGroupModel" 3 0 0 0 0 (some .boolean) := C
  show xn_X E G _ 0 0 0 [some (.int x), some (.int lo), some (.int hi)] [] v
  refine xj_iload_n C a_T_outside_0 rfl ?_
  refine xj_iload_n C a_T_outside_1 rfl ?_
  refine xj_icmp_lt C a_T_outside_2 rfl (fun h2 => ?_) (fun h2 => ?_)
  · refine xj_iconst (v := nI 1) C a_T_outside_10 (by decide) ?_
    refine xj_goto C a_T_outside_11 rfl ?_
    refine xj_zret C a_T_outside_15 rfl ?_
    exact ⟨xp_t (by simp [h2]), rfl⟩
  · refine xj_iload_n C a_T_outside_5 rfl ?_
    refine xj_iload_n C a_T_outside_6 rfl ?_
    refine xj_icmp_le C a_T_outside_7 rfl (fun h7 => ?_) (fun h7 => ?_)
    · refine xj_iconst (v := nI 0) C a_T_outside_14 (by decide) ?_
      refine xj_zret C a_T_outside_15 rfl ?_
      exact ⟨xp_f (by simp [h2, h7]), rfl⟩
    · refine xj_iconst (v := nI 1) C a_T_outside_10 (by decide) ?_
      refine xj_goto C a_T_outside_11 rfl ?_
      refine xj_zret C a_T_outside_15 rfl ?_
      exact ⟨xp_t (by simp [h2, h7]), rfl⟩
theorem c_T_senders (l : Launch) (G : xj_G) (v : xn_V) (B : pg_B) (hB : xt_B B v) (m : Nat) (hm : m ≤ B.1) (k : Nat) (x : Int32) (y : Int64) (z but : Int32) : xn_M l G 0 0 m_T_senders [.ref (xj_ad G (21, 0, 0)), .int (nI m), .int (nI k), .int x, .long y, .int z, .int but] v (some (.int (nI (xp_c (fun s => (List.range m).any (fun i => decide (nI (pg_f B i) = nI s) && (decide (nI (pg_k B i) = nI k) && (decide (pg_a B i = x) && (decide (pg_b B i = y) && (decide (¬ nI k = nI 2) || decide (pg_c B i = z)))))) && decide (¬ nI s = but)) 4)))) v := by
  have hz := hB.2.1
  refine xn_M_of (by decide) (Nat.le_of_ble_eq_true rfl) (fun E hE C => ?_)
  subst hE
  replace C : xj_C E G prog_9_method_4_code "ThreePhaseGroupModel" 12 0 0 0 0 (some .int) := C
  show xn_X E G _ 0 0 0 [some (.ref (xj_ad G (21, 0, 0))), some (.int (nI m)), some (.int (nI k)), some (.int x), some (.long y), none, some (.int z), some (.int but), none, none, none, none] [] v
  obtain ⟨Q, hQ⟩ : ∃ Q : Nat → Nat → Bool, Q = fun s i => decide (nI (pg_f B i) = nI s) && (decide (nI (pg_k B i) = nI k) && (decide (pg_a B i = x) && (decide (pg_b B i = y) && (decide (¬ nI k = nI 2) || decide (pg_c B i = z))))) := ⟨_, rfl⟩
  have hQ2 : (fun s => (List.range m).any (fun i => decide (nI (pg_f B i) = nI s) && (decide (nI (pg_k B i) = nI k) && (decide (pg_a B i = x) && (decide (pg_b B i = y) && (decide (¬ nI k = nI 2) || decide (pg_c B i = z)))))) && decide (¬ nI s = but)) = (fun s => (List.range m).any (Q s) && decide (¬ nI s = but)) := by rw [hQ]
  rw [hQ2]
  generalize hP : (fun s => (List.range m).any (Q s) && decide (¬ nI s = but)) = P
  refine xj_iconst (v := nI 0) C a_T_senders_0 (by decide) ?_
  refine xj_istore8 C a_T_senders_1 rfl ?_
  refine xj_iconst (v := nI 0) C a_T_senders_3 (by decide) ?_
  refine xj_istore9 C a_T_senders_4 rfl ?_
  have loop : ∀ n s : Nat, s ≤ 4 → 4 - s < n → ∀ z1 z2 : Option Value, xn_X E G (xj_R E G (fun a' w' => a' = some (.int (nI (xp_c P 4))) ∧ w' = xn_W v) 0 0) 0 0 6 [some (.ref (xj_ad G (21, 0, 0))), some (.int (nI m)), some (.int (nI k)), some (.int x), some (.long y), none, some (.int z), some (.int but), some (.int (nI (xp_c P s))), some (.int (nI s)), z1, z2] [] v := by
    intro n
    induction n with
    | zero => intro s _ h; omega
    | succ n ih =>
      intro s hs hn z1 z2
      refine xj_iload C a_T_senders_6 rfl ?_
      refine xj_iconst (v := nI 4) C a_T_senders_8 (by decide) ?_
      refine xj_icmp_ge C a_T_senders_9 rfl (fun h9 => ?_) (fun h9 => ?_)
      · rw [nI_leI (by omega) (by omega)] at h9
        have : s = 4 := by omega
        subst this
        refine xj_iload C a_T_senders_127 rfl ?_
        refine xj_iret C a_T_senders_129 ?_
        exact ⟨rfl, rfl⟩
      · rw [nI_leI (by omega) (by omega)] at h9
        have nxt := ih (s + 1) (by omega) (by omega)
        rw [xp_c_s P s] at nxt
        refine xj_iconst (v := nI 0) C a_T_senders_12 (by decide) ?_
        refine xj_istore10 C a_T_senders_13 rfl ?_
        refine xj_iconst (v := nI 0) C a_T_senders_15 (by decide) ?_
        refine xj_istore11 C a_T_senders_16 rfl ?_
        have inner : ∀ n2 i : Nat, i ≤ m → m - i < n2 → xn_X E G (xj_R E G (fun a' w' => a' = some (.int (nI (xp_c P 4))) ∧ w' = xn_W v) 0 0) 0 0 18 [some (.ref (xj_ad G (21, 0, 0))), some (.int (nI m)), some (.int (nI k)), some (.int x), some (.long y), none, some (.int z), some (.int but), some (.int (nI (xp_c P s))), some (.int (nI s)), some (.int (xp_b ((List.range i).any (Q s)))), some (.int (nI i))] [] v := by
          intro n2
          induction n2 with
          | zero => intro i _ h; omega
          | succ n2 ih2 =>
            intro i hi hn2
            refine xj_iload C a_T_senders_18 rfl ?_
            refine xj_iload_n C a_T_senders_20 rfl ?_
            refine xj_icmp_ge C a_T_senders_21 rfl (fun h21 => ?_) (fun h21 => ?_)
            · rw [nI_leI (by omega) (by omega)] at h21
              have : i = m := by omega
              subst this
              have hPs : P s = ((List.range i).any (Q s) && decide (¬ nI s = but)) := by rw [← hP]
              refine xj_iload C a_T_senders_106 rfl ?_
              refine xj_if_eq C a_T_senders_108 rfl (fun h108 => ?_) (fun h108 => ?_)
              · rw [xp_b0] at h108
                rw [if_neg (by rw [hPs, h108, Bool.false_and]; decide)] at nxt
                refine xj_iincN9 C a_T_senders_121 rfl ?_
                refine xj_goto C a_T_senders_124 rfl ?_
                exact nxt _ _
              · rw [xp_b0] at h108
                refine xj_iload C a_T_senders_111 rfl ?_
                refine xj_iload C a_T_senders_113 rfl ?_
                refine xj_icmp_eq C a_T_senders_115 rfl (fun h115 => ?_) (fun h115 => ?_)
                · rw [if_neg (by rw [hPs, decide_eq_false (not_not_intro h115), Bool.and_false]; decide)] at nxt
                  refine xj_iincN9 C a_T_senders_121 rfl ?_
                  refine xj_goto C a_T_senders_124 rfl ?_
                  exact nxt _ _
                · rw [if_pos (by rw [hPs, decide_eq_true h115, Bool.and_true]; simpa using h108)] at nxt
                  refine xj_iincN8 C a_T_senders_118 rfl ?_
                  refine xj_iincN9 C a_T_senders_121 rfl ?_
                  refine xj_goto C a_T_senders_124 rfl ?_
                  exact nxt _ _
            · rw [nI_leI (by omega) (by omega)] at h21
              have nxt2 := ih2 (i + 1) (by omega) (by omega)
              rw [xp_any_s] at nxt2
              have t93 : ((List.range i).any (Q s) || Q s i) = true → xn_X E G (xj_R E G (fun a' w' => a' = some (.int (nI (xp_c P 4))) ∧ w' = xn_W v) 0 0) 0 0 93 [some (.ref (xj_ad G (21, 0, 0))), some (.int (nI m)), some (.int (nI k)), some (.int x), some (.long y), none, some (.int z), some (.int but), some (.int (nI (xp_c P s))), some (.int (nI s)), some (.int (xp_b ((List.range i).any (Q s)))), some (.int (nI i))] [] v := by
                intro h
                rw [h] at nxt2
                refine xj_iconst (v := nI 1) C a_T_senders_93 (by decide) ?_
                refine xj_goto C a_T_senders_94 rfl ?_
                refine xj_istore10 C a_T_senders_98 rfl ?_
                refine xj_iincN11 C a_T_senders_100 rfl ?_
                refine xj_goto C a_T_senders_103 rfl ?_
                exact nxt2
              have t97 : (List.range i).any (Q s) = false → Q s i = false → xn_X E G (xj_R E G (fun a' w' => a' = some (.int (nI (xp_c P 4))) ∧ w' = xn_W v) 0 0) 0 0 97 [some (.ref (xj_ad G (21, 0, 0))), some (.int (nI m)), some (.int (nI k)), some (.int x), some (.long y), none, some (.int z), some (.int but), some (.int (nI (xp_c P s))), some (.int (nI s)), some (.int (xp_b ((List.range i).any (Q s)))), some (.int (nI i))] [] v := by
                intro h h2
                rw [h, h2] at nxt2
                refine xj_iconst (v := nI 0) C a_T_senders_97 (by decide) ?_
                refine xj_istore10 C a_T_senders_98 rfl ?_
                refine xj_iincN11 C a_T_senders_100 rfl ?_
                refine xj_goto C a_T_senders_103 rfl ?_
                exact nxt2
              refine xj_iload C a_T_senders_24 rfl ?_
              refine xj_if_ne C a_T_senders_26 rfl (fun h26 => ?_) (fun h26 => ?_)
              · rw [xp_b0] at h26
                exact t93 (by rw [Bool.or_eq_true]; left; simpa using h26)
              · rw [xp_b0] at h26
                have h26 : (List.range i).any (Q s) = false := by simpa using h26
                refine xj_aload_n C a_T_senders_29 rfl ?_
                refine xn_g_T_from C a_T_senders_30 fl_T_13 ?_
                refine xj_iload C a_T_senders_33 rfl ?_
                refine xn_ld_23 C a_T_senders_35 (by first | assumption | omega) ?_
                refine xj_topi (hB.f (by omega)) ?_
                refine xj_iload C a_T_senders_36 rfl ?_
                refine xj_icmp_ne C a_T_senders_38 rfl (fun h38 => ?_) (fun h38 => ?_)
                · exact t97 h26 (by rw [hQ]; simp [h38])
                · refine xj_aload_n C a_T_senders_41 rfl ?_
                  refine xn_g_T_kind C a_T_senders_42 fl_T_7 ?_
                  refine xj_iload C a_T_senders_45 rfl ?_
                  refine xn_ld_22 C a_T_senders_47 (by first | assumption | omega) ?_
                  refine xj_topi (hB.k (by omega)) ?_
                  refine xj_iload_n C a_T_senders_48 rfl ?_
                  refine xj_icmp_ne C a_T_senders_49 rfl (fun h49 => ?_) (fun h49 => ?_)
                  · exact t97 h26 (by rw [hQ]; simp [h38, h49])
                  · refine xj_aload_n C a_T_senders_52 rfl ?_
                    refine xn_g_T_a C a_T_senders_53 fl_T_16 ?_
                    refine xj_iload C a_T_senders_56 rfl ?_
                    refine xn_ld_24 C a_T_senders_58 (by first | assumption | omega) ?_
                    refine xj_topi (hB.a (by omega)) ?_
                    refine xj_iload_n C a_T_senders_59 rfl ?_
                    refine xj_icmp_ne C a_T_senders_60 rfl (fun h60 => ?_) (fun h60 => ?_)
                    · exact t97 h26 (by rw [hQ]; simp [h38, h49, h60])
                    · refine xj_aload_n C a_T_senders_63 rfl ?_
                      refine xn_g_T_b C a_T_senders_64 fl_T_19 ?_
                      refine xj_iload C a_T_senders_67 rfl ?_
                      refine xn_ld_25 C a_T_senders_69 (by first | assumption | omega) ?_
                      refine xj_topl (hB.b (by omega)) ?_
                      refine xj_lload C a_T_senders_70 rfl ?_
                      refine xj_lcmp C a_T_senders_72 ?_
                      refine xj_if_ne C a_T_senders_73 rfl (fun h73 => ?_) (fun h73 => ?_)
                      · rw [xp_cmp_ne] at h73
                        exact t97 h26 (by rw [hQ]; simp [h38, h49, h60, h73])
                      · rw [xp_cmp_ne] at h73
                        refine xj_iload_n C a_T_senders_76 rfl ?_
                        refine xj_iconst (v := nI 2) C a_T_senders_77 (by decide) ?_
                        refine xj_icmp_ne C a_T_senders_78 rfl (fun h78 => ?_) (fun h78 => ?_)
                        · exact t93 (by rw [hQ]; simp [h38, h49, h60, h73, h78])
                        · refine xj_aload_n C a_T_senders_81 rfl ?_
                          refine xn_g_T_c C a_T_senders_82 fl_T_23 ?_
                          refine xj_iload C a_T_senders_85 rfl ?_
                          refine xn_ld_26 C a_T_senders_87 (by first | assumption | omega) ?_
                          refine xj_topi (hB.c (by omega)) ?_
                          refine xj_iload C a_T_senders_88 rfl ?_
                          refine xj_icmp_ne C a_T_senders_90 rfl (fun h90 => ?_) (fun h90 => ?_)
                          · exact t97 h26 (by rw [hQ]; simp [h38, h49, h60, h73, h78, h90])
                          · exact t93 (by rw [hQ]; simp [h38, h49, h60, h73, h78, h90])
        exact inner (m + 1) 0 (by omega) (by omega)
  exact loop 5 0 (by omega) (by omega) none none
theorem xp_cnt_c {m : Nat} {f : Nat → Nat} {P : Nat → Bool} {b : Nat} {W : Nat → Bool} (h : ∀ s, s < 4 → W s = ((List.range m).any (fun i => f i == s && P i) && (s != b))) : xp_c W 4 = pg_cnt m f P b := by
  unfold xp_c pg_cnt
  congr 1
  apply List.filter_congr
  intro s hs
  rw [h s (List.mem_range.mp hs), Bool.and_comm]
theorem xp_nd {a b : Nat} (ha : a < 2 ^ 31) (hb : b < 2 ^ 31) : decide (nI a = nI b) = (a == b) := by
  rw [Bool.eq_iff_iff, decide_eq_true_eq, beq_iff_eq]
  exact nI_eq ha hb
theorem xp_bd {α : Type} [DecidableEq α] (a b : α) : decide (a = b) = (a == b) := by
  rw [Bool.eq_iff_iff, decide_eq_true_eq, beq_iff_eq]
theorem c_T_proof (l : Launch) (G : xj_G) (v : xn_V) (B : pg_B) (hB : xt_B B v) (n : Int64) (m : Nat) (hm : m ≤ B.1) : xn_M l G 1 31 m_T_proof [.ref (xj_ad G (21, 0, 0)), .long n, .int (nI m)] v (some (.int (match pg_proof B n m with | some i => nI i | none => -1))) v := by
  have hz := hB.2.1
  have hcnt : ∀ i, i < m → xp_c (fun s => (List.range m).any (fun j => decide (nI (pg_f B j) = nI s) && (decide (nI (pg_k B j) = nI 7) && (decide (pg_a B j = pg_a B i) && (decide (pg_b B j = pg_b B i) && (decide (¬ nI 7 = nI 2) || decide (pg_c B j = nI 0)))))) && decide (¬ nI s = -1)) 4 = pg_cnt m (pg_f B) (pg_cp B (pg_a B i) (pg_b B i)) 9 := by
    intro i hi
    apply xp_cnt_c
    intro s hs
    have e1 : decide (¬ nI s = -1) = (s != 9) := by
      rw [decide_eq_true (xp_nem1 (by omega))]
      symm
      simp
      omega
    rw [e1]
    congr 1
    apply xp_any_congr
    intro j hj
    have hw := hB.2.2.1 j (by omega)
    rw [xp_nd (by omega) (by omega), xp_nd (by omega) (by omega)]
    unfold pg_cp
    rw [xp_bd, xp_bd, decide_eq_true (show ¬ nI 7 = nI 2 by decide), Bool.true_or, Bool.and_true]
  refine xn_M_of (by decide) (Nat.le_of_ble_eq_true rfl) (fun E hE C => ?_)
  subst hE
  replace C : xj_C E G prog_9_method_5_code "ThreePhaseGroupModel" 5 1 31 0 0 (some .int) := C
  show xn_X E G _ 0 0 0 [some (.ref (xj_ad G (21, 0, 0))), some (.long n), none, some (.int (nI m)), none] [] v
  obtain ⟨P, hP⟩ : ∃ P : Nat → Bool, P = fun i => pg_k B i == 7 && ((pg_a B i).toInt64 == n && decide (3 ≤ pg_cnt m (pg_f B) (pg_cp B (pg_a B i) (pg_b B i)) 9)) := ⟨_, rfl⟩
  have hpr : pg_proof B n m = (List.range m).find? P := by rw [hP]; rfl
  rw [hpr]
  refine xj_iconst (v := nI 0) C a_T_proof_0 (by decide) ?_
  refine xj_istore4 C a_T_proof_1 rfl ?_
  have loop : ∀ N i : Nat, i ≤ m → m - i < N → (∀ k, k < i → P k = false) → xn_X E G (xj_R E G (fun a' w' => a' = some (.int (match (List.range m).find? P with | some i => nI i | none => -1)) ∧ w' = xn_W v) 0 0) 0 0 3 [some (.ref (xj_ad G (21, 0, 0))), some (.long n), none, some (.int (nI m)), some (.int (nI i))] [] v := by
    intro N
    induction N with
    | zero => intro i _ h; omega
    | succ N ih =>
      intro i hi hN hno
      refine xj_iload C a_T_proof_3 rfl ?_
      refine xj_iload_n C a_T_proof_5 rfl ?_
      refine xj_icmp_ge C a_T_proof_6 rfl (fun h6 => ?_) (fun h6 => ?_)
      · rw [nI_leI (by omega) (by omega)] at h6
        have : i = m := by omega
        subst this
        refine xj_iconst (v := -1) C a_T_proof_70 (by decide) ?_
        refine xj_iret C a_T_proof_71 ?_
        refine ⟨?_, rfl⟩
        rw [xp_find_none hno]
      · rw [nI_leI (by omega) (by omega)] at h6
        have hw := hB.2.2.1 i (by omega)
        have step : P i = false → xn_X E G (xj_R E G (fun a' w' => a' = some (.int (match (List.range m).find? P with | some i => nI i | none => -1)) ∧ w' = xn_W v) 0 0) 0 0 64 [some (.ref (xj_ad G (21, 0, 0))), some (.long n), none, some (.int (nI m)), some (.int (nI i))] [] v := by
          intro h
          refine xj_iincN4 C a_T_proof_64 rfl ?_
          refine xj_goto C a_T_proof_67 rfl ?_
          refine ih (i + 1) (by omega) (by omega) (fun k hk => ?_)
          by_cases e : k = i
          · subst e; exact h
          · exact hno k (by omega)
        refine xj_aload_n C a_T_proof_9 rfl ?_
        refine xn_g_T_kind C a_T_proof_10 fl_T_7 ?_
        refine xj_iload C a_T_proof_13 rfl ?_
        refine xn_ld_22 C a_T_proof_15 (by first | assumption | omega) ?_
        refine xj_topi (hB.k (by omega)) ?_
        refine xj_bipush (v := nI 7) C a_T_proof_16 (by decide) ?_
        refine xj_icmp_ne C a_T_proof_18 rfl (fun h18 => ?_) (fun h18 => ?_)
        · rw [nI_eq (by omega) (by omega)] at h18
          exact step (by rw [hP]; simp [h18])
        · rw [nI_eq (by omega) (by omega)] at h18
          have h18 : pg_k B i = 7 := by simpa using h18
          refine xj_aload_n C a_T_proof_21 rfl ?_
          refine xn_g_T_a C a_T_proof_22 fl_T_16 ?_
          refine xj_iload C a_T_proof_25 rfl ?_
          refine xn_ld_24 C a_T_proof_27 (by first | assumption | omega) ?_
          refine xj_topi (hB.a (by omega)) ?_
          refine xj_i2l C a_T_proof_28 ?_
          refine xj_lload_n C a_T_proof_29 rfl ?_
          refine xj_lcmp C a_T_proof_30 ?_
          refine xj_if_ne C a_T_proof_31 rfl (fun h31 => ?_) (fun h31 => ?_)
          · rw [xp_cmp_ne] at h31
            exact step (by rw [hP]; simp [h31])
          · rw [xp_cmp_ne] at h31
            have h31 : (pg_a B i).toInt64 = n := by simpa using h31
            have hle : pg_cnt m (pg_f B) (pg_cp B (pg_a B i) (pg_b B i)) 9 ≤ 4 := Nat.le_trans (List.length_filter_le _ _) (by decide)
            refine xj_aload_n C a_T_proof_34 rfl ?_
            refine xj_iload_n C a_T_proof_35 rfl ?_
            refine xj_bipush (v := nI 7) C a_T_proof_36 (by decide) ?_
            refine xj_aload_n C a_T_proof_38 rfl ?_
            refine xn_g_T_a C a_T_proof_39 fl_T_16 ?_
            refine xj_iload C a_T_proof_42 rfl ?_
            refine xn_ld_24 C a_T_proof_44 (by first | assumption | omega) ?_
            refine xj_topi (hB.a (by omega)) ?_
            refine xj_aload_n C a_T_proof_45 rfl ?_
            refine xn_g_T_b C a_T_proof_46 fl_T_19 ?_
            refine xj_iload C a_T_proof_49 rfl ?_
            refine xn_ld_25 C a_T_proof_51 (by first | assumption | omega) ?_
            refine xj_topl (hB.b (by omega)) ?_
            refine xj_iconst (v := nI 0) C a_T_proof_52 (by decide) ?_
            refine xj_iconst (v := -1) C a_T_proof_53 (by decide) ?_
            refine xn_callV6i C a_T_proof_54 (c_T_senders _ _ v B hB m hm 7 (pg_a B i) (pg_b B i) (nI 0) (-1)) mv_T_senders lk_T_91 ⟨rfl, rfl, rfl⟩ xj_ok21 ⟨by decide, by decide⟩ rfl (Nat.le_of_ble_eq_true rfl) ⟨Nat.le_refl _, Nat.le_refl _⟩ ?_
            rw [hcnt i (by omega)]
            refine xj_iconst (v := nI 3) C a_T_proof_57 (by decide) ?_
            refine xj_icmp_lt C a_T_proof_58 rfl (fun h58 => ?_) (fun h58 => ?_)
            · rw [nI_ltI (by omega) (by omega)] at h58
              exact step (by rw [hP]; simp; intros; omega)
            · rw [nI_ltI (by omega) (by omega)] at h58
              refine xj_iload C a_T_proof_61 rfl ?_
              refine xj_iret C a_T_proof_63 ?_
              refine ⟨?_, rfl⟩
              rw [xp_find_some (m := i) (by omega) (by rw [hP]; simp [h18, h31]; omega) hno]
  exact loop (m + 1) 0 (by omega) (by omega) (fun k h => absurd h (Nat.not_lt_zero k))
theorem c_T_backing (l : Launch) (G : xj_G) (v : xn_V) (B : pg_B) (hB : xt_B B v) (w : Nat) (hw : w < 1000) (n : Int64) (m : Nat) (hm : m ≤ B.1) : xn_M l G 1 31 m_T_backing [.ref (xj_ad G (21, 0, 0)), .int (nI w), .long n, .int (nI m)] v (some (.int (pg_back B w n m))) v := by
  have hz := hB.2.1
  have hcnt : ∀ i, i < m → xp_c (fun s => (List.range m).any (fun j => decide (nI (pg_f B j) = nI s) && (decide (nI (pg_k B j) = nI 2) && (decide (pg_a B j = nI w) && (decide (pg_b B j = n) && (decide (¬ nI 2 = nI 2) || decide (pg_c B j = pg_c B i)))))) && decide (¬ nI s = nI (w % 4))) 4 = pg_cnt m (pg_f B) (fun j => pg_pr B (nI w) n j && pg_c B j == pg_c B i) (w % 4) := by
    intro i hi
    apply xp_cnt_c
    intro s hs
    have e1 : decide (¬ nI s = nI (w % 4)) = (s != w % 4) := by
      have := xp_nd (a := s) (b := w % 4) (by omega) (by omega)
      rw [decide_not, this]
      rfl
    rw [e1]
    congr 1
    apply xp_any_congr
    intro j hj
    have hw := hB.2.2.1 j (by omega)
    rw [xp_nd (by omega) (by omega), xp_nd (by omega) (by omega)]
    unfold pg_pr
    rw [xp_bd, xp_bd, xp_bd, decide_eq_false (show ¬ ¬ nI 2 = nI 2 by decide), Bool.false_or]
    simp only [Bool.and_assoc]
  refine xn_M_of (by decide) (Nat.le_of_ble_eq_true rfl) (fun E hE C => ?_)
  subst hE
  replace C : xj_C E G prog_9_method_6_code "ThreePhaseGroupModel" 6 1 31 0 0 (some .int) := C
  show xn_X E G _ 0 0 0 [some (.ref (xj_ad G (21, 0, 0))), some (.int (nI w)), some (.long n), none, some (.int (nI m)), none] [] v
  obtain ⟨P, hP⟩ : ∃ P : Nat → Bool, P = fun i => pg_pr B (nI w) n i && decide (2 ≤ pg_cnt m (pg_f B) (fun j => pg_pr B (nI w) n j && pg_c B j == pg_c B i) (w % 4)) := ⟨_, rfl⟩
  have hbk : pg_back B w n m = match (List.range m).find? P with
      | some i => pg_c B i
      | none => -2 := by rw [hP]; rfl
  rw [hbk]
  refine xj_iconst (v := nI 0) C a_T_backing_0 (by decide) ?_
  refine xj_istore5 C a_T_backing_1 rfl ?_
  have loop : ∀ N i : Nat, i ≤ m → m - i < N → (∀ k, k < i → P k = false) → xn_X E G (xj_R E G (fun a' w' => a' = some (.int (match (List.range m).find? P with | some i => pg_c B i | none => -2)) ∧ w' = xn_W v) 0 0) 0 0 3 [some (.ref (xj_ad G (21, 0, 0))), some (.int (nI w)), some (.long n), none, some (.int (nI m)), some (.int (nI i))] [] v := by
    intro N
    induction N with
    | zero => intro i _ h; omega
    | succ N ih =>
      intro i hi hN hno
      refine xj_iload C a_T_backing_3 rfl ?_
      refine xj_iload C a_T_backing_5 rfl ?_
      refine xj_icmp_ge C a_T_backing_7 rfl (fun h7 => ?_) (fun h7 => ?_)
      · rw [nI_leI (by omega) (by omega)] at h7
        have : i = m := by omega
        subst this
        refine xj_bipush (v := -2) C a_T_backing_81 (by decide) ?_
        refine xj_iret C a_T_backing_83 ?_
        refine ⟨?_, rfl⟩
        rw [xp_find_none hno]
      · rw [nI_leI (by omega) (by omega)] at h7
        have hw2 := hB.2.2.1 i (by omega)
        have step : P i = false → xn_X E G (xj_R E G (fun a' w' => a' = some (.int (match (List.range m).find? P with | some i => pg_c B i | none => -2)) ∧ w' = xn_W v) 0 0) 0 0 75 [some (.ref (xj_ad G (21, 0, 0))), some (.int (nI w)), some (.long n), none, some (.int (nI m)), some (.int (nI i))] [] v := by
          intro h
          refine xj_iincN5 C a_T_backing_75 rfl ?_
          refine xj_goto C a_T_backing_78 rfl ?_
          refine ih (i + 1) (by omega) (by omega) (fun k hk => ?_)
          by_cases e : k = i
          · subst e; exact h
          · exact hno k (by omega)
        refine xj_aload_n C a_T_backing_10 rfl ?_
        refine xn_g_T_kind C a_T_backing_11 fl_T_7 ?_
        refine xj_iload C a_T_backing_14 rfl ?_
        refine xn_ld_22 C a_T_backing_16 (by first | assumption | omega) ?_
        refine xj_topi (hB.k (by omega)) ?_
        refine xj_iconst (v := nI 2) C a_T_backing_17 (by decide) ?_
        refine xj_icmp_ne C a_T_backing_18 rfl (fun h18 => ?_) (fun h18 => ?_)
        · rw [nI_eq (by omega) (by omega)] at h18
          exact step (by rw [hP]; simp [pg_pr, h18])
        · rw [nI_eq (by omega) (by omega)] at h18
          have h18 : pg_k B i = 2 := by simpa using h18
          refine xj_aload_n C a_T_backing_21 rfl ?_
          refine xn_g_T_a C a_T_backing_22 fl_T_16 ?_
          refine xj_iload C a_T_backing_25 rfl ?_
          refine xn_ld_24 C a_T_backing_27 (by first | assumption | omega) ?_
          refine xj_topi (hB.a (by omega)) ?_
          refine xj_iload_n C a_T_backing_28 rfl ?_
          refine xj_icmp_ne C a_T_backing_29 rfl (fun h29 => ?_) (fun h29 => ?_)
          · exact step (by rw [hP]; simp [pg_pr, h29])
          · have h29 : pg_a B i = nI w := by simpa using h29
            refine xj_aload_n C a_T_backing_32 rfl ?_
            refine xn_g_T_b C a_T_backing_33 fl_T_19 ?_
            refine xj_iload C a_T_backing_36 rfl ?_
            refine xn_ld_25 C a_T_backing_38 (by first | assumption | omega) ?_
            refine xj_topl (hB.b (by omega)) ?_
            refine xj_lload_n C a_T_backing_39 rfl ?_
            refine xj_lcmp C a_T_backing_40 ?_
            refine xj_if_ne C a_T_backing_41 rfl (fun h41 => ?_) (fun h41 => ?_)
            · rw [xp_cmp_ne] at h41
              exact step (by rw [hP]; simp [pg_pr, h41])
            · rw [xp_cmp_ne] at h41
              have h41 : pg_b B i = n := by simpa using h41
              have hpri : pg_pr B (nI w) n i = true := by unfold pg_pr; simp [h18, h29, h41]
              have hle : pg_cnt m (pg_f B) (fun j => pg_pr B (nI w) n j && pg_c B j == pg_c B i) (w % 4) ≤ 4 := Nat.le_trans (List.length_filter_le _ _) (by decide)
              refine xj_aload_n C a_T_backing_44 rfl ?_
              refine xj_iload C a_T_backing_45 rfl ?_
              refine xj_iconst (v := nI 2) C a_T_backing_47 (by decide) ?_
              refine xj_iload_n C a_T_backing_48 rfl ?_
              refine xj_lload_n C a_T_backing_49 rfl ?_
              refine xj_aload_n C a_T_backing_50 rfl ?_
              refine xn_g_T_c C a_T_backing_51 fl_T_23 ?_
              refine xj_iload C a_T_backing_54 rfl ?_
              refine xn_ld_26 C a_T_backing_56 (by first | assumption | omega) ?_
              refine xj_topi (hB.c (by omega)) ?_
              refine xj_iload_n C a_T_backing_57 rfl ?_
              refine xj_iconst (v := nI 4) C a_T_backing_58 (by decide) ?_
              refine xj_irem C a_T_backing_59 (by decide) ?_
              refine xj_topi (pk_rem (by omega) (by decide) (by decide)) ?_
              refine xn_callV6i C a_T_backing_60 (c_T_senders _ _ v B hB m hm 2 (nI w) n (pg_c B i) (nI (w % 4))) mv_T_senders lk_T_91 ⟨rfl, rfl, rfl⟩ xj_ok21 ⟨by decide, by decide⟩ rfl (Nat.le_of_ble_eq_true rfl) ⟨Nat.le_refl _, Nat.le_refl _⟩ ?_
              rw [hcnt i (by omega)]
              refine xj_iconst (v := nI 2) C a_T_backing_63 (by decide) ?_
              refine xj_icmp_lt C a_T_backing_64 rfl (fun h64 => ?_) (fun h64 => ?_)
              · rw [nI_ltI (by omega) (by omega)] at h64
                exact step (by rw [hP]; simp; intros; omega)
              · rw [nI_ltI (by omega) (by omega)] at h64
                refine xj_aload_n C a_T_backing_67 rfl ?_
                refine xn_g_T_c C a_T_backing_68 fl_T_23 ?_
                refine xj_iload C a_T_backing_71 rfl ?_
                refine xn_ld_26 C a_T_backing_73 (by first | assumption | omega) ?_
                refine xj_topi (hB.c (by omega)) ?_
                refine xj_iret C a_T_backing_74 ?_
                refine ⟨?_, rfl⟩
                rw [xp_find_some (m := i) (by omega) (by rw [hP]; simp [hpri]; omega) hno]
  exact loop (m + 1) 0 (by omega) (by omega) (fun k h => absurd h (Nat.not_lt_zero k))
