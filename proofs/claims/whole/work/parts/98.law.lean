/-! the law's loop, and its end -/
theorem xl_lt {i n : Nat} (hi : i ≤ 2600) (hn : n ≤ 2560) : nI n - nI 5 < nI i ↔ n < i + 5 := by
  rw [Int32.lt_iff_toInt_lt, Int32.toInt_sub, nI_toInt (show n < 2 ^ 31 by omega), nI_toInt (show i < 2 ^ 31 by omega), nI_toInt (show 5 < 2 ^ 31 by omega), Int.bmod_eq_of_le (by omega) (by omega)]
  omega
theorem c_L_loop {E : xj_E} {G : xj_G} {Q : State → Prop} {b n : Nat} {xs : Nat → Int32} (C : xl_C E G) (hX : va_X b n xs (xj_s E) (xj_s E).heap) (hbl : b < (xj_s E).heap.size ∧ (xj_s E).heap.size = G.2.2) (hL : n ≤ 2560) (kE : ∀ i v, xl_X E G Q b 736 i v) : ∀ (t i : Nat) (T : pg_T) (v : xn_V), n + 5 ≤ i + t → i ≤ n → pg_gi T → xc_T T v → xt_T T v → xl_X E G Q b 18 i v := by
  intro t
  induction t with
  | zero => intro i T v h1 h2; omega
  | succ t ih =>
    intro i T v h1 h2 hg hc ht
    refine xj_iload_n C a_L_law_18 rfl ?_
    refine xj_aload_n C a_L_law_19 rfl ?_
    refine xl_len C hX hbl hL a_L_law_20 ?_
    refine xj_iconst (v := nI 5) C a_L_law_21 (by decide) ?_
    refine xj_isub C a_L_law_22 ?_
    refine xj_icmp_gt C a_L_law_23 rfl (fun h23 => ?_) (fun h23 => ?_)
    · exact kE i v
    · rw [xl_lt (by omega) hL] at h23
      have hi : i + 5 ≤ n := by omega
      have kk : ∀ T' v', pg_gi T' → xc_T T' v' → xt_T T' v' → xl_X E G Q b 730 i v' := by
        intro T' v' hg' hc' ht'
        refine xj_iinc3 (v := 5) C a_L_law_730 (by decide) rfl ?_
        refine xj_goto C a_L_law_733 rfl ?_
        rw [show nI i + 5 = nI (i + 5) from nI_add i 5]
        exact ih (i + 5) T' v' (by omega) hi hg' hc' ht'
      refine xj_aload_n C a_L_law_26 rfl ?_
      refine xj_iload_n C a_L_law_27 rfl ?_
      refine xl_ld C hX hbl hL a_L_law_28 (by omega) ?_
      refine xj_bipush (v := nI 31) C a_L_law_29 (by decide) ?_
      refine xj_iand C a_L_law_31 ?_
      have sw : ∀ (y : Int32) (k off tgt : Nat), k < 20 → y.toInt = (k : Int) → (#[(96 : Int), 149, 182, 215, 238, 261, 314, 377, 390, 424, 447, 470, 493, 516, 540, 573, 606, 629, 652, 675])[k]? = some (off : Int) → 32 + off = tgt → xl_X E G Q b tgt i v → xn_X E G Q 116 10408 32 [some (.ref b), some (.ref (xj_ad G (0, 0, 0))), some (.ref (xj_ad G (21, 0, 0))), some (.int (nI i))] [.int y] v := by
        intro y k off tgt hk8 ti ho h2 kk
        refine xj_tableIn C a_L_law_32 (by rw [ti]; omega) (by rw [ti]; omega) (off := (off : Int)) ?_ ?_ kk
        · rw [ti]
          have : ((k : Int) - 0).toNat = k := by omega
          rw [this]
          exact ho
        · omega
      generalize xs i &&& nI 31 = y
      by_cases hy : y.toInt < 0 ∨ 19 < y.toInt
      · exact xj_tableOut (tgt := 730) C a_L_law_32 hy rfl (kk T v hg hc ht)
      · rcases (show y.toInt = 0 ∨ y.toInt = 1 ∨ y.toInt = 2 ∨ y.toInt = 3 ∨ y.toInt = 4 ∨ y.toInt = 5 ∨ y.toInt = 6 ∨ y.toInt = 7 ∨ y.toInt = 8 ∨ y.toInt = 9 ∨ y.toInt = 10 ∨ y.toInt = 11 ∨ y.toInt = 12 ∨ y.toInt = 13 ∨ y.toInt = 14 ∨ y.toInt = 15 ∨ y.toInt = 16 ∨ y.toInt = 17 ∨ y.toInt = 18 ∨ y.toInt = 19 by omega) with h0 | h0 | h0 | h0 | h0 | h0 | h0 | h0 | h0 | h0 | h0 | h0 | h0 | h0 | h0 | h0 | h0 | h0 | h0 | h0
        · exact sw y 0 96 128 (by omega) h0 rfl rfl (c_L_submit C hX hbl hL hi hg hc ht kk)
        · exact sw y 1 149 181 (by omega) h0 rfl rfl (c_L_deliver C hX hbl hL hi hg hc ht kk)
        · exact sw y 2 182 214 (by omega) h0 rfl rfl (c_L_pump C hX hbl hL hi hg hc ht kk)
        · exact sw y 3 215 247 (by omega) h0 rfl rfl (c_L_tick C hX hbl hL hi hg hc ht kk)
        · exact sw y 4 238 270 (by omega) h0 rfl rfl (c_L_corrupt C hX hbl hL hi hg hc ht kk)
        · exact sw y 5 261 293 (by omega) h0 rfl rfl (c_L_forge C hX hbl hL hi hg hc ht kk)
        · exact sw y 6 314 346 (by omega) h0 rfl rfl (c_L_forgeCheckpoint C hX hbl hL hi hg hc ht kk)
        · exact sw y 7 377 409 (by omega) h0 rfl rfl (c_L_messages C hX hbl hL hi hg hc ht kk)
        · exact sw y 8 390 422 (by omega) h0 rfl rfl (c_L_look C hX hbl hL hi hg hc ht kk)
        · exact sw y 9 424 456 (by omega) h0 rfl rfl (c_L_mark C hX hbl hL hi hg hc ht kk)
        · exact sw y 10 447 479 (by omega) h0 rfl rfl (c_L_view C hX hbl hL hi hg hc ht kk)
        · exact sw y 11 470 502 (by omega) h0 rfl rfl (c_L_executed C hX hbl hL hi hg hc ht kk)
        · exact sw y 12 493 525 (by omega) h0 rfl rfl (c_L_stable C hX hbl hL hi hg hc ht kk)
        · exact sw y 13 516 548 (by omega) h0 rfl rfl (c_L_state C hX hbl hL hi hg hc ht kk)
        · exact sw y 14 540 572 (by omega) h0 rfl rfl (c_L_slot C hX hbl hL hi hg hc ht kk)
        · exact sw y 15 573 605 (by omega) h0 rfl rfl (c_L_ordered C hX hbl hL hi hg hc ht kk)
        · exact sw y 16 606 638 (by omega) h0 rfl rfl (c_L_timer C hX hbl hL hi hg hc ht kk)
        · exact sw y 17 629 661 (by omega) h0 rfl rfl (c_L_waiting C hX hbl hL hi hg hc ht kk)
        · exact sw y 18 652 684 (by omega) h0 rfl rfl (c_L_outstanding C hX hbl hL hi hg hc ht kk)
        · exact sw y 19 675 707 (by omega) h0 rfl rfl (c_L_answer C hX hbl hL hi hg hc ht kk)
theorem xm_DG.same {w w' : xj_W} (h : xm_DG w) (h1 : ∀ k r i x, k ≤ 20 → w'.1.1 k r i x = w.1.1 k r i x ∧ w'.1.2 k r i x = w.1.2 k r i x ∧ w'.2.1 k r i x = w.2.1 k r i x) : xm_DG w' :=
  ⟨h.1.same (fun x => h1 0 0 0 x (by omega)), fun q g1 g2 => (h.2.1 q g1 g2).same (fun x => h1 q 0 0 x (by omega)), fun j hj => (h.2.2.1 j hj).same (fun k i x _ g2 => h1 k j i x (by omega)), fun j hj => ⟨(h.2.2.2 j hj).1.same (fun x => h1 19 j 0 x (by omega)), (h.2.2.2 j hj).2.same (fun x => h1 20 j 0 x (by omega))⟩⟩
theorem c_L_start {E : xj_E} {G : xj_G} {Q : State → Prop} {b n : Nat} {xs : Nat → Int32} (C : xl_C E G) (hX : va_X b n xs (xj_s E) (xj_s E).heap) (hbl : b < (xj_s E).heap.size ∧ (xj_s E).heap.size = G.2.2) (hL : n ≤ 2560) (kE : ∀ i v, xl_X E G Q b 736 i v) (w : xj_W) (hn : w.2.2 = 0) (hZ : xj_Z w) : xj_X E G Q 0 0 0 [some (.ref b), none, none, none] [] w := by
  have z0 : ∀ x, w.1.1 0 0 0 x = 0 ∧ w.1.2 0 0 0 x = 0 ∧ w.2.1 0 0 0 x = none := fun x => hZ 0 0 0 0 (by omega) rfl x
  refine xj_new (k := 0) (r := 0) (i := 0) C a_L_law_0 cf_G cw_L_7 iw_G nw_G ⟨rfl, rfl, rfl⟩ dv_G (xj_pn xj_ok0 (show w.2.2 + 0 = 0 by omega)) hZ ⟨by decide, by decide⟩ ?_
  have hz1 := hZ.n1
  refine xj_dup C a_L_law_3 rfl ?_
  refine xj_callI0 C a_L_law_4 rfl (c_G_init _ _ _ (show w.2.2 + 1 = 1 by omega) hz1 z0) mi_G_init lk_L_9 ⟨by decide, by decide⟩ rfl (Nat.le_of_ble_eq_true rfl) (by decide) (fun a' w2 hres => ?_)
  obtain ⟨rfl, n2, hZ2, f2, q2⟩ := hres
  have z1 : ∀ x, w2.1.1 21 0 0 x = 0 ∧ w2.1.2 21 0 0 x = 0 ∧ w2.2.1 21 0 0 x = none := fun x => hZ2 91 21 0 0 (by omega) rfl x
  refine xj_astore1 C a_L_law_7 rfl ?_
  refine xj_new (k := 21) (r := 0) (i := 0) C a_L_law_8 cf_T cw_L_10 iw_T nw_T ⟨rfl, rfl, rfl⟩ dv_T (xj_pn xj_ok21 (show w2.2.2 + 0 = 91 by omega)) hZ2 ⟨by decide, by decide⟩ ?_
  have hz2 := hZ2.n1
  refine xj_dup C a_L_law_11 rfl ?_
  refine xj_callI0 C a_L_law_12 rfl (c_T_init _ _ _ (show w2.2.2 + 1 = 92 by omega) hz2 z1) mi_T_init lk_L_12 ⟨by decide, by decide⟩ rfl (Nat.le_of_ble_eq_true rfl) (by decide) (fun a' w3 hres => ?_)
  obtain ⟨rfl, n3, hZ3, f3, q3⟩ := hres
  have q4 : xm_DG w3 := xm_DG.same (w := w2) q2 (fun k r i x hk => f3 k r i x (by omega))
  have ha := xm_all.of q4 q3
  obtain ⟨hc, ht⟩ := xm_new ha
  refine xj_astore2 C a_L_law_15 rfl ?_
  refine xj_iconst (v := nI 0) C a_L_law_16 (by decide) ?_
  refine xj_istore3 C a_L_law_17 rfl ?_
  refine xm_settle n3 ha ?_
  exact c_L_loop C hX hbl hL kE (n + 5) 0 _ w3.1 (by omega) (by omega) (pg_gi.z (-1)) hc ht
