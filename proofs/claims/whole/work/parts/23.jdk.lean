theorem xj_Mx_ofF {l : Launch} {G : xj_G} {d q mc ms : Nat} {M : xj_M} {as : List Value} {w : xj_W} {post : Option Value → xj_W → Prop} (hy : plainFor M.1 = true) (hl : (lg_sl as).length ≤ M.2.2.1)
    (body : ∀ E : xj_E, E.2.1 = l → xj_C E G M.2.1 M.1.cls M.2.2.1 d q mc ms M.2.2.2 → (xj_me E).name = M.1.name → xj_X E G (xj_R E G post mc ms) 0 0 0 (xj_L0 as M.2.2.1) [] w) : xj_Mx l G d q mc ms M as w post := by
  refine va_MetF (cc := M.2.1) (maxL := M.2.2.1) (ret := M.2.2.2) hy rfl ?_
  intro p e s m args below meth c s₁ B hml hv
  obtain ⟨hargs, hsz, hP, hK, hN⟩ := hv
  subst hargs
  have hts := atoms_spec (ws := Cond.code M.1 M.2.1 M.2.2.1 M.2.2.2 :: xj_GW) B.pre
  have hown := findClass_of_methodNamed B.named
  have hC : xj_C (p, l, e, xj_rm d q mc ms, s, m, as.toArray, below, meth, c) G M.2.1 M.1.cls M.2.2.1 d q mc ms M.2.2.2 := ⟨B.exec, B.bytes, hml, hown, fun v h => hts v (List.mem_cons_of_mem _ h), hN, hK, ⟨Nat.le_refl _, Nat.le_refl _, Nat.le_refl _, Nat.le_refl _⟩, B.returns, B.notSynchronized⟩
  have hb := body _ rfl hC (name_of_methodNamed B.named B.method).1
  rw [lg_entry_eq]
  exact hb _ s.heap [] (xj_entry as hl) hsz hP va_S.rf
theorem xn_M_ofF {l : Launch} {G : xj_G} {d q : Nat} {M : xj_M} {as : List Value} {v v2 : xn_V} {a : Option Value} (hy : plainFor M.1 = true) (hl : (lg_sl as).length ≤ M.2.2.1)
    (body : ∀ E : xj_E, E.2.1 = l → xj_C E G M.2.1 M.1.cls M.2.2.1 d q 0 0 M.2.2.2 → xn_X E G (xj_R E G (fun a' w' => a' = a ∧ w' = xn_W v2) 0 0) 0 0 0 (xj_L0 as M.2.2.1) [] v) : xn_M l G d q M as v a v2 :=
  xj_Mx_ofF hy hl (fun E h1 h2 _ => body E h1 h2)
theorem pf_max : plainFor m_JM_max.1 = true := by decide +kernel
theorem pf_min : plainFor m_JM_min.1 = true := by decide +kernel
theorem pf_bitCount : plainFor m_JI_bitCount.1 = true := by decide +kernel
theorem pf_fillI : plainFor m_JA_fillI.1 = true := by decide +kernel
theorem pf_fillJ : plainFor m_JA_fillJ.1 = true := by decide +kernel
theorem c_JM_max (l : Launch) (G : xj_G) (v : xn_V) (a b : Nat) (ha : a < 2 ^ 31) (hb : b < 2 ^ 31) : xn_M l G 0 0 m_JM_max [.int (nI a), .int (nI b)] v (some (.int (nI (max a b)))) v := by
  refine xn_M_ofF pf_max (Nat.le_of_ble_eq_true rfl) (fun E hE C => ?_)
  subst hE
  replace C : xj_C E G prog_11_method_65_code "java/lang/Math" 2 0 0 0 0 (some .int) := C
  show xn_X E G _ 0 0 0 [some (.int (nI a)), some (.int (nI b))] [] v
  refine xj_iload_n C a_JM_max_0 rfl ?_
  refine xj_iload_n C a_JM_max_1 rfl ?_
  refine xj_icmp_lt C a_JM_max_2 rfl (fun h2 => ?_) (fun h2 => ?_)
  · rw [nI_ltI ha hb] at h2
    refine xj_iload_n C a_JM_max_9 rfl ?_
    refine xj_iret C a_JM_max_10 ?_
    exact ⟨by rw [Nat.max_eq_right (by omega)], rfl⟩
  · rw [nI_ltI ha hb] at h2
    refine xj_iload_n C a_JM_max_5 rfl ?_
    refine xj_goto C a_JM_max_6 rfl ?_
    refine xj_iret C a_JM_max_10 ?_
    exact ⟨by rw [Nat.max_eq_left (by omega)], rfl⟩
theorem c_JM_min (l : Launch) (G : xj_G) (v : xn_V) (a b : Nat) (ha : a < 2 ^ 31) (hb : b < 2 ^ 31) : xn_M l G 0 0 m_JM_min [.int (nI a), .int (nI b)] v (some (.int (nI (min a b)))) v := by
  refine xn_M_ofF pf_min (Nat.le_of_ble_eq_true rfl) (fun E hE C => ?_)
  subst hE
  replace C : xj_C E G prog_11_method_69_code "java/lang/Math" 2 0 0 0 0 (some .int) := C
  show xn_X E G _ 0 0 0 [some (.int (nI a)), some (.int (nI b))] [] v
  refine xj_iload_n C a_JM_min_0 rfl ?_
  refine xj_iload_n C a_JM_min_1 rfl ?_
  refine xj_icmp_gt C a_JM_min_2 rfl (fun h2 => ?_) (fun h2 => ?_)
  · rw [nI_ltI hb ha] at h2
    refine xj_iload_n C a_JM_min_9 rfl ?_
    refine xj_iret C a_JM_min_10 ?_
    exact ⟨by rw [Nat.min_eq_right (by omega)], rfl⟩
  · rw [nI_ltI hb ha] at h2
    refine xj_iload_n C a_JM_min_5 rfl ?_
    refine xj_goto C a_JM_min_6 rfl ?_
    refine xj_iret C a_JM_min_10 ?_
    exact ⟨by rw [Nat.min_eq_left (by omega)], rfl⟩
def xn_bc (x : Int32) : Int32 :=
  let a := x - ((x.toUInt32 >>> ((nI 1).toUInt32 &&& Int32.toUInt32 31)).toInt32 &&& 1431655765)
  let b := (a &&& 858993459) + ((a.toUInt32 >>> ((nI 2).toUInt32 &&& Int32.toUInt32 31)).toInt32 &&& 858993459)
  let c := (b + (b.toUInt32 >>> ((nI 4).toUInt32 &&& Int32.toUInt32 31)).toInt32) &&& 252645135
  let d := c + (c.toUInt32 >>> ((nI 8).toUInt32 &&& Int32.toUInt32 31)).toInt32
  let e := d + (d.toUInt32 >>> ((nI 16).toUInt32 &&& Int32.toUInt32 31)).toInt32
  e &&& nI 63
theorem c_JI_bitCount (l : Launch) (G : xj_G) (v : xn_V) (x : Int32) : xn_M l G 0 0 m_JI_bitCount [.int x] v (some (.int (xn_bc x))) v := by
  refine xn_M_ofF pf_bitCount (Nat.le_of_ble_eq_true rfl) (fun E hE C => ?_)
  subst hE
  replace C : xj_C E G prog_10_method_49_code "java/lang/Integer" 1 0 0 0 0 (some .int) := C
  show xn_X E G _ 0 0 0 [some (.int x)] [] v
  refine xj_iload_n C a_JI_bitCount_0 rfl ?_
  refine xj_iload_n C a_JI_bitCount_1 rfl ?_
  refine xj_iconst (v := nI 1) C a_JI_bitCount_2 (by decide) ?_
  refine xj_iushr C a_JI_bitCount_3 ?_
  refine xj_ldc_w C a_JI_bitCount_4 ki_JI_265 ?_
  refine xj_iand C a_JI_bitCount_7 ?_
  refine xj_isub C a_JI_bitCount_8 ?_
  refine xj_istore0 C a_JI_bitCount_9 ?_
  refine xj_iload_n C a_JI_bitCount_10 rfl ?_
  refine xj_ldc_w C a_JI_bitCount_11 ki_JI_266 ?_
  refine xj_iand C a_JI_bitCount_14 ?_
  refine xj_iload_n C a_JI_bitCount_15 rfl ?_
  refine xj_iconst (v := nI 2) C a_JI_bitCount_16 (by decide) ?_
  refine xj_iushr C a_JI_bitCount_17 ?_
  refine xj_ldc_w C a_JI_bitCount_18 ki_JI_266 ?_
  refine xj_iand C a_JI_bitCount_21 ?_
  refine xj_iadd C a_JI_bitCount_22 ?_
  refine xj_istore0 C a_JI_bitCount_23 ?_
  refine xj_iload_n C a_JI_bitCount_24 rfl ?_
  refine xj_iload_n C a_JI_bitCount_25 rfl ?_
  refine xj_iconst (v := nI 4) C a_JI_bitCount_26 (by decide) ?_
  refine xj_iushr C a_JI_bitCount_27 ?_
  refine xj_iadd C a_JI_bitCount_28 ?_
  refine xj_ldc_w C a_JI_bitCount_29 ki_JI_267 ?_
  refine xj_iand C a_JI_bitCount_32 ?_
  refine xj_istore0 C a_JI_bitCount_33 ?_
  refine xj_iload_n C a_JI_bitCount_34 rfl ?_
  refine xj_iload_n C a_JI_bitCount_35 rfl ?_
  refine xj_bipush (v := nI 8) C a_JI_bitCount_36 (by decide) ?_
  refine xj_iushr C a_JI_bitCount_38 ?_
  refine xj_iadd C a_JI_bitCount_39 ?_
  refine xj_istore0 C a_JI_bitCount_40 ?_
  refine xj_iload_n C a_JI_bitCount_41 rfl ?_
  refine xj_iload_n C a_JI_bitCount_42 rfl ?_
  refine xj_bipush (v := nI 16) C a_JI_bitCount_43 (by decide) ?_
  refine xj_iushr C a_JI_bitCount_45 ?_
  refine xj_iadd C a_JI_bitCount_46 ?_
  refine xj_istore0 C a_JI_bitCount_47 ?_
  refine xj_iload_n C a_JI_bitCount_48 rfl ?_
  refine xj_bipush (v := nI 63) C a_JI_bitCount_49 (by decide) ?_
  refine xj_iand C a_JI_bitCount_51 ?_
  refine xj_iret C a_JI_bitCount_52 ?_
  exact ⟨rfl, rfl⟩
/-- how many of the lowest six bits are set -/
def xn_pc (m : Nat) : Nat := m % 2 + m / 2 % 2 + m / 4 % 2 + m / 8 % 2 + m / 16 % 2 + m / 32 % 2
theorem xn_bc_64 : ∀ m, m < 64 → xn_bc (nI m) = nI (xn_pc m) := by decide +kernel
def xn_fl (v : xn_V) (k s : Nat) (y : Int64) : xn_V := (v.1, fun k' r' i' x' => if k' = 20 ∧ r' = k ∧ i' = 0 ∧ x' < s then y else v.2 k' r' i' x')
theorem c_JA_fillJ (l : Launch) (G : xj_G) (v : xn_V) (k : Nat) (hk : k < 2) (y : Int64) : xn_M l G 0 0 m_JA_fillJ [.ref (xj_ad G (20, k, 0)), .long y] v none (xn_fl v k 4 y) := by
  refine xn_M_ofF pf_fillJ (Nat.le_of_ble_eq_true rfl) (fun E hE C => ?_)
  subst hE
  replace C : xj_C E G prog_12_method_101_code "java/util/Arrays" 5 0 0 0 0 none := C
  show xn_X E G _ 0 0 0 [some (.ref (xj_ad G (20, k, 0))), some (.long y), none, none, none] [] v
  refine xj_iconst (v := nI 0) C a_JA_fillJ_0 (by decide) ?_
  refine xj_istore3 C a_JA_fillJ_1 rfl ?_
  refine xj_aload_n C a_JA_fillJ_2 rfl ?_
  refine xj_alenJ (k := 20) C a_JA_fillJ_3 rfl (xj_ok20 hk) ?_
  refine xj_istore4 C a_JA_fillJ_4 rfl ?_
  have loop : ∀ n s : Nat, s ≤ 4 → 4 - s < n → xn_X E G (xj_R E G (fun a' w' => a' = none ∧ w' = xn_W (xn_fl v k 4 y)) 0 0) 0 0 6 [some (.ref (xj_ad G (20, k, 0))), some (.long y), none, some (.int (nI s)), some (.int (nI 4))] [] (xn_fl v k s y) := by
    intro n
    induction n with
    | zero => intro s _ h; omega
    | succ n ih =>
      intro s hs hn
      refine xj_iload_n C a_JA_fillJ_6 rfl ?_
      refine xj_iload C a_JA_fillJ_7 rfl ?_
      refine xj_icmp_ge C a_JA_fillJ_9 rfl (fun h9 => ?_) (fun h9 => ?_)
      · rw [nI_leI (by omega) (by omega)] at h9
        have : s = 4 := by omega
        subst this
        refine xj_vret C a_JA_fillJ_22 ?_
        exact ⟨rfl, rfl⟩
      · rw [nI_leI (by omega) (by omega)] at h9
        refine xj_aload_n C a_JA_fillJ_12 rfl ?_
        refine xj_iload_n C a_JA_fillJ_13 rfl ?_
        refine xj_lload_n C a_JA_fillJ_14 rfl ?_
        refine xn_st_20 C a_JA_fillJ_15 (by first | assumption | omega) (by first | assumption | omega) ?_
        refine xj_as (w2 := xn_W (xn_fl v k (s + 1) y)) ?_ ?_
        · congr 1
          unfold xn_uJ xn_fl
          congr 1
          funext k' r' i' x'
          dsimp only
          by_cases h1 : k' = 20 ∧ r' = k ∧ i' = 0 ∧ x' = s
          · rw [if_pos h1, if_pos (by omega)]
          · rw [if_neg h1]
            by_cases h3 : k' = 20 ∧ r' = k ∧ i' = 0 ∧ x' < s
            · rw [if_pos h3, if_pos (by omega)]
            · rw [if_neg h3, if_neg (by omega)]
        · refine xj_iincN3 C a_JA_fillJ_16 rfl ?_
          refine xj_goto C a_JA_fillJ_19 rfl ?_
          exact ih (s + 1) (by omega) (by omega)
  refine xj_as (w2 := xn_W (xn_fl v k 0 y)) ?_ (loop 5 0 (by omega) (by omega))
  congr 1
  refine Prod.ext rfl ?_
  funext k' r' i' x'
  show _ = if k' = 20 ∧ r' = k ∧ i' = 0 ∧ x' < 0 then y else v.2 k' r' i' x'
  rw [if_neg (by omega)]
