/-! executing -/
/-- what a REQUEST holds -/
def pg_rq (B : pg_B) : Prop := ∀ m, m < B.1 → pg_k B m = 0 → (∃ t, t < 256 ∧ pg_a B m = nI t) ∧ (∃ o, o < 3 ∧ pg_b B m = lN o) ∧ ∃ c, c < 64 ∧ pg_c B m = nI c
theorem xb_v : ∀ k, k < 4 → ∀ c, c < 2 → ∀ x, x < 16 → ((lN x &&& 15) <<< ((nI (4 * k)).toInt64 &&& 63)) &&& (((4095 : Int64) <<< ((nI (16 + 12 * c)).toInt64 &&& 63)) ^^^ (-1)) = lN x <<< ((nI (4 * k)).toInt64 &&& 63) := by decide +kernel
theorem xb_w0 : ∀ c, c < 2 → ∀ t, t < 256 → ∀ x, x < 16 → (lN (t + 256 * x) &&& 4095) <<< ((nI (16 + 12 * c)).toInt64 &&& 63) = lN t <<< ((nI (16 + 12 * c)).toInt64 &&& 63) ||| lN x <<< ((nI (16 + 12 * c + 8)).toInt64 &&& 63) := by decide +kernel
theorem xb_ad (a b c : Int64) : (a ||| b) &&& c = (a &&& c) ||| (b &&& c) := by
  apply Int64.toBitVec_inj.mp
  simp only [Int64.toBitVec_and, Int64.toBitVec_or]
  exact BitVec.and_or_distrib_right
theorem xb_oa (a b c : Int64) : (a ||| b) ||| c = a ||| (b ||| c) := by
  apply Int64.toBitVec_inj.mp
  simp only [Int64.toBitVec_or]
  exact BitVec.or_assoc ..
theorem xb_st (st : Int64) {k c x t y : Nat} (hk : k < 4) (hc : c < 2) (hx : x < 16) (ht : t < 256) (hy : y < 16) :
    xn_wb (xn_wb st (nI 4 * nI k) 15 (nI x).toInt64) (nI 16 + nI 12 * nI c) 4095 (nI t + nI 256 * nI y).toInt64 = (((st &&& (((15 : Int64) <<< ((nI (4 * k)).toInt64 &&& 63)) ^^^ (-1)) &&& (((4095 : Int64) <<< ((nI (16 + 12 * c)).toInt64 &&& 63)) ^^^ (-1))) ||| (lN x) <<< ((nI (4 * k)).toInt64 &&& 63)) ||| (nI t).toInt64 <<< ((nI (16 + 12 * c)).toInt64 &&& 63)) ||| (lN y) <<< ((nI (16 + 12 * c + 8)).toInt64 &&& 63) := by
  rw [pk_mul, pk_mul, nI_add, pk_mul, nI_add, nI_l (show x < 2 ^ 31 by omega), nI_l (show t + 256 * y < 2 ^ 31 by omega), nI_l (show t < 2 ^ 31 by omega)]
  unfold xn_wb
  rw [xb_ad, xb_v k hk c hc x hx, xb_w0 c hc t ht y hy, ← xb_oa]
theorem xp_o3 : ∀ o, o < 3 → (lN o = 0 ↔ o = 0) ∧ (lN o = 1 ↔ o = 1) ∧ (lN o = 2 ↔ o = 2) ∧ (nI o = 0 ↔ o = 0) ∧ (nI o = nI 1 ↔ o = 1) := by decide +kernel
theorem pg_vl_lt (st : Int64) (k : Nat) : pg_vl st k < 16 := Nat.mod_lt _ (by decide)
theorem pg_now_lt (B : pg_B) (q : Nat) (st : Int64) : pg_now B q st < 16 := by
  unfold pg_now
  split
  · exact pg_vl_lt _ _
  · split <;> exact Nat.mod_lt _ (by decide)
theorem pg_res_lt (B : pg_B) (q : Nat) (st : Int64) : pg_res B q st < 16 := by
  unfold pg_res
  split
  · exact pg_now_lt _ _ _
  · exact pg_vl_lt _ _
def xn_ex (v : xn_V) (r : Nat) (S : pg_S) (m : Nat) : xn_V := xn_post (xn_uI (xn_uI (xn_uJ v 11 r 0 10 (pg_nst S.1 m S.2.2)) 11 r 0 12 (nI 4)) 11 r 0 13 (nI 1)) S.1.1 (nI 4) (nI r) (nI (pg_f S.1 m - 4)) (pg_a S.1 m).toInt64 (nI (pg_res S.1 m S.2.2))
theorem c_R_execute (l : Launch) (G : xj_G) (v : xn_V) (r : Nat) (hr : r < 4) (S : pg_S) (hF : xc_F r S.2 v) (hB : xc_B S.1 v) (hQ : pg_rq S.1) (hz : S.1.1 < 256) (m : Nat) (hm : m < S.1.1) (hk : pg_k S.1 m = 0) : xn_M l G 2 50 m_R_execute [.ref (xj_ad G (11, r, 0)), .int (nI m)] v none (xn_ex v r S m) := by
  obtain ⟨⟨t, ht, ha⟩, ⟨o, ho, hb⟩, ⟨c, hc4, hc⟩⟩ := hQ m hm hk
  have hw := hB.2.2.1 m hm
  have h4 : 4 ≤ pg_f S.1 m := hw.2.2.mp hk
  have hf6 := hw.2.1
  obtain ⟨o1, o2, o3, o4, o5⟩ := xp_o3 o ho
  have hct : (pg_c S.1 m).toInt.toNat = c := by rw [hc, nI_toInt (by omega)]; rfl
  have hkey : pg_key S.1 m = c / 16 := by unfold pg_key; rw [hct]
  have hnow : pg_now S.1 m S.2.2 = if nI o = 0 then pg_vl S.2.2 (c / 16) else if nI o = nI 1 then c % 16 else (pg_vl S.2.2 (c / 16) + c % 16) % 16 := by
    unfold pg_now
    rw [hb, hkey, hct]
    simp only [o1, o2, o4, o5]
  have hres : pg_res S.1 m S.2.2 = if o = 1 then pg_vl S.2.2 (c / 16) else pg_now S.1 m S.2.2 := by
    have e0 : o = 0 → pg_now S.1 m S.2.2 = pg_vl S.2.2 (c / 16) := by
      intro h
      rw [hnow, if_pos (o4.mpr h)]
    unfold pg_res
    rw [hb, hkey]
    simp only [o3]
    rcases (show o = 0 ∨ o = 1 ∨ o = 2 by omega) with rfl | rfl | rfl
    · rw [if_neg (by decide), if_neg (by decide), e0 rfl]
    · rw [if_neg (by decide), if_pos rfl]
    · rw [if_pos rfl, if_neg (by decide)]
  have hvl := pg_vl_lt S.2.2 (c / 16)
  have hnl := pg_now_lt S.1 m S.2.2
  have hrl := pg_res_lt S.1 m S.2.2
  have hst : xn_wb (xn_wb S.2.2 (nI 4 * nI (c / 16)) 15 (nI (pg_now S.1 m S.2.2)).toInt64) (nI 16 + nI 12 * nI (pg_f S.1 m - 4)) 4095 (nI t + nI 256 * nI (pg_res S.1 m S.2.2)).toInt64 = pg_nst S.1 m S.2.2 := by
    rw [xb_st S.2.2 (by omega) (by omega) hnl ht hrl]
    unfold pg_nst
    rw [hkey, ha]
  refine xn_M_of (by decide) (Nat.le_of_ble_eq_true rfl) (fun E hE C => ?_)
  subst hE
  replace C : xj_C E G prog_5_method_24_code "ThreePhaseGroup$Replica" 9 2 50 0 0 none := C
  show xn_X E G _ 0 0 0 [some (.ref (xj_ad G (11, r, 0))), some (.int (nI m)), none, none, none, none, none, none, none] [] v
  refine xj_aload_n C a_R_execute_0 rfl ?_
  refine xn_g_R_board C a_R_execute_1 fl_R_61 (by first | assumption | omega) ?_
  refine xn_g_B_sender C a_R_execute_4 fl_R_76 ?_
  refine xj_iload_n C a_R_execute_7 rfl ?_
  refine xn_ld_3 C a_R_execute_8 (by first | assumption | omega) ?_
  refine xj_topi (hB.f (by omega)) ?_
  refine xj_iconst (v := nI 4) C a_R_execute_9 (by decide) ?_
  refine xj_isub C a_R_execute_10 ?_
  refine xj_topi (y := nI (pg_f S.1 m - 4)) (pk_sub (by omega)) ?_
  refine xj_istore2 C a_R_execute_11 rfl ?_
  refine xj_aload_n C a_R_execute_12 rfl ?_
  refine xn_g_R_board C a_R_execute_13 fl_R_61 (by first | assumption | omega) ?_
  refine xn_g_B_a C a_R_execute_16 fl_R_81 ?_
  refine xj_iload_n C a_R_execute_19 rfl ?_
  refine xn_ld_4 C a_R_execute_20 (by first | assumption | omega) ?_
  refine xj_topi ((hB.a (by omega)).trans ha) ?_
  refine xj_istore3 C a_R_execute_21 rfl ?_
  refine xj_aload_n C a_R_execute_22 rfl ?_
  refine xn_g_R_board C a_R_execute_23 fl_R_61 (by first | assumption | omega) ?_
  refine xn_g_B_b C a_R_execute_26 fl_R_131 ?_
  refine xj_iload_n C a_R_execute_29 rfl ?_
  refine xn_ld_5 C a_R_execute_30 (by first | assumption | omega) ?_
  refine xj_topl ((hB.b (by omega)).trans hb) ?_
  refine xj_l2i C a_R_execute_31 ?_
  refine xj_topi (lN_i o) ?_
  refine xj_istore4 C a_R_execute_32 rfl ?_
  refine xj_aload_n C a_R_execute_34 rfl ?_
  refine xn_g_R_board C a_R_execute_35 fl_R_61 (by first | assumption | omega) ?_
  refine xn_g_B_c C a_R_execute_38 fl_R_139 ?_
  refine xj_iload_n C a_R_execute_41 rfl ?_
  refine xn_ld_6 C a_R_execute_42 (by first | assumption | omega) ?_
  refine xj_topi ((hB.c (by omega)).trans hc) ?_
  refine xj_bipush (v := nI 16) C a_R_execute_43 (by decide) ?_
  refine xj_idiv C a_R_execute_45 (by decide) ?_
  refine xj_topi (pk_div (by omega) (by decide) (by decide)) ?_
  refine xj_istore5 C a_R_execute_46 rfl ?_
  refine xj_aload_n C a_R_execute_48 rfl ?_
  refine xn_g_R_state C a_R_execute_49 fl_R_45 (by first | assumption | omega) ?_
  refine xj_topl hF.st ?_
  refine xj_iload C a_R_execute_52 rfl ?_
  refine xn_callS2i C a_R_execute_54 (c_V_valueOf _ _ v S.2.2 (c / 16) (by omega)) ms_V_valueOf lk_R_232 ⟨by decide, by decide⟩ rfl (Nat.le_of_ble_eq_true rfl) ⟨Nat.le_refl _, Nat.le_refl _⟩ ?_
  refine xj_istore6 C a_R_execute_57 rfl ?_
  refine xj_iload C a_R_execute_59 rfl ?_
  refine xj_iload C a_R_execute_61 rfl ?_
  refine xj_aload_n C a_R_execute_63 rfl ?_
  refine xn_g_R_board C a_R_execute_64 fl_R_61 (by first | assumption | omega) ?_
  refine xn_g_B_c C a_R_execute_67 fl_R_139 ?_
  refine xj_iload_n C a_R_execute_70 rfl ?_
  refine xn_ld_6 C a_R_execute_71 (by first | assumption | omega) ?_
  refine xj_topi ((hB.c (by omega)).trans hc) ?_
  refine xj_bipush (v := nI 16) C a_R_execute_72 (by decide) ?_
  refine xj_irem C a_R_execute_74 (by decide) ?_
  refine xj_topi (pk_rem (by omega) (by decide) (by decide)) ?_
  refine xn_callS3i C a_R_execute_75 (c_V_valueAfter _ _ v (nI o) (pg_vl S.2.2 (c / 16)) (c % 16) hvl (by omega)) ms_V_valueAfter lk_R_235 ⟨by decide, by decide⟩ rfl (Nat.le_of_ble_eq_true rfl) ⟨Nat.le_refl _, Nat.le_refl _⟩ ?_
  rw [← hnow]
  have fin : ∀ y, y = pg_res S.1 m S.2.2 → xn_X E G (xj_R E G (fun a' w' => a' = none ∧ w' = xn_W (xn_ex v r S m)) 0 0) 0 0 95 [some (.ref (xj_ad G (11, r, 0))), some (.int (nI m)), some (.int (nI (pg_f S.1 m - 4))), some (.int (nI t)), some (.int (nI o)), some (.int (nI (c / 16))), some (.int (nI (pg_vl S.2.2 (c / 16)))), some (.int (nI (pg_now S.1 m S.2.2))), some (.int (nI y))] [] v := by
    rintro y rfl
    refine xj_aload_n C a_R_execute_95 rfl ?_
    refine xj_aload_n C a_R_execute_96 rfl ?_
    refine xn_g_R_state C a_R_execute_97 fl_R_45 (by first | assumption | omega) ?_
    refine xj_topl hF.st ?_
    refine xj_iload C a_R_execute_100 rfl ?_
    refine xj_iload C a_R_execute_102 rfl ?_
    refine xn_callS3l C a_R_execute_104 (c_V_withValue _ _ v _ _ _) ms_V_withValue lk_R_239 ⟨by decide, by decide⟩ rfl (Nat.le_of_ble_eq_true rfl) ⟨Nat.le_refl _, Nat.le_refl _⟩ ?_
    refine xj_iload_n C a_R_execute_107 rfl ?_
    refine xj_iload_n C a_R_execute_108 rfl ?_
    refine xj_iload C a_R_execute_109 rfl ?_
    refine xn_callS4l C a_R_execute_111 (c_V_withResult _ _ v _ _ _ _) ms_V_withResult lk_R_243 ⟨by decide, by decide⟩ rfl (Nat.le_of_ble_eq_true rfl) ⟨Nat.le_refl _, Nat.le_refl _⟩ ?_
    refine xj_topl hst ?_
    refine xn_p_R_state C a_R_execute_114 fl_R_45 (by first | assumption | omega) ?_
    refine xj_aload_n C a_R_execute_117 rfl ?_
    refine xj_iconst (v := nI 4) C a_R_execute_118 (by decide) ?_
    refine xn_p_R_span C a_R_execute_119 fl_R_52 (by first | assumption | omega) ?_
    refine xj_aload_n C a_R_execute_122 rfl ?_
    refine xj_iconst (v := nI 1) C a_R_execute_123 (by decide) ?_
    refine xn_p_R_renewing C a_R_execute_124 fl_R_55 (by first | assumption | omega) (by decide) ?_
    refine xj_aload_n C a_R_execute_127 rfl ?_
    refine xn_g_R_board C a_R_execute_128 fl_R_61 (by first | assumption | omega) ?_
    refine xj_iconst (v := nI 4) C a_R_execute_131 (by decide) ?_
    refine xj_aload_n C a_R_execute_132 rfl ?_
    refine xn_g_R_self C a_R_execute_133 fl_R_58 (by first | assumption | omega) ?_
    refine xj_topi (y := nI r) (by simpa [xn_uI, xn_uJ] using hF.self) ?_
    refine xj_iload_n C a_R_execute_136 rfl ?_
    refine xj_iload_n C a_R_execute_137 rfl ?_
    refine xj_i2l C a_R_execute_138 ?_
    refine xj_iload C a_R_execute_139 rfl ?_
    refine xn_callV5i C a_R_execute_141 (c_B_post _ _ _ S.1.1 (by simpa [xn_uI, xn_uJ] using hB.1) hz _ _ _ _ _) mv_B_post lk_R_213 ⟨rfl, rfl, rfl⟩ xj_ok1 ⟨by decide, by decide⟩ rfl (Nat.le_of_ble_eq_true rfl) ⟨Nat.le_refl _, Nat.le_refl _⟩ ?_
    refine xj_pop C a_R_execute_144 rfl ?_
    refine xj_vret C a_R_execute_145 ?_
    refine ⟨rfl, ?_⟩
    unfold xn_ex
    rw [ha]
  refine xj_istore7 C a_R_execute_78 rfl ?_
  refine xj_iload C a_R_execute_80 rfl ?_
  refine xj_iconst (v := nI 1) C a_R_execute_82 (by decide) ?_
  refine xj_icmp_ne C a_R_execute_83 rfl (fun h83 => ?_) (fun h83 => ?_)
  · rw [o5] at h83
    refine xj_iload C a_R_execute_91 rfl ?_
    refine xj_istore8 C a_R_execute_93 rfl ?_
    exact fin _ (by rw [hres, if_neg h83])
  · rw [o5] at h83
    have h83 : o = 1 := by simpa using h83
    refine xj_iload C a_R_execute_86 rfl ?_
    refine xj_goto C a_R_execute_88 rfl ?_
    refine xj_istore8 C a_R_execute_93 rfl ?_
    exact fin _ (by rw [hres, if_pos h83])
/-- the state is set -/
theorem xc_R.stt {r : Nat} {S : pg_S} {v : xn_V} (hR : xc_R r S v) (x : Int64) : xc_R r (S.1, pg_ss S.2 x) (xn_uJ v 11 r 0 10 x) := by
  obtain ⟨⟨f1, f2, f3, f4, f5, f6, f7, f8, f9⟩, ⟨kl, hL, hkl⟩, ⟨cl, hC, hc⟩, hV, hS⟩ := hR
  refine ⟨⟨f1, f2, f3, f4, f5, by simp [xn_uI, xn_uJ, pg_u, pg_w, pg_ss, pg_ac, pg_de, pg_ct, pg_no, pg_kn, pg_vw, pg_ch, pg_h, pg_e, pg_sp, pg_tm, pg_af], f7, f8, f9⟩, ⟨kl, hL, hkl⟩, ⟨cl, hC, hc⟩, hV, fun n h1 h2 => ?_⟩
  obtain ⟨a1, a2, a3, a4⟩ := hS n h1 h2
  refine ⟨a1, a2, a3, fun s hs => ?_⟩
  obtain ⟨b1, b2⟩ := a4 s hs
  show (xn_uJ v 11 r 0 10 x).2 14 r (n % 4) s = pg_nv S 2 n s ∧ (xn_uJ v 11 r 0 10 x).2 15 r (n % 4) s = pg_nv S 3 n s
  exact ⟨by simpa [xn_uJ] using b1, by simpa [xn_uJ] using b2⟩
theorem xc_R.srv {r : Nat} {S : pg_S} {v : xn_V} (hR : xc_R r S v) (m : Nat) : xc_R r (pg_srv r S m) (xn_ex v r S m) := by
  have h1 := ((hR.stt (pg_nst S.1 m S.2.2)).fld (t := 4) (x := 12) (y := 4) (by omega)).fld (t := 11) (x := 13) (y := 1) (by omega)
  exact h1.own 4 _ _ _ (by decide) (by decide) (by decide) (by decide)
theorem xc_B.srv {r : Nat} {S : pg_S} {v : xn_V} (hB : xc_B S.1 v) (hr : r < 4) (hz : S.1.1 < 256) (m : Nat) : xc_B (pg_srv r S m).1 (xn_ex v r S m) := by
  have h1 : xc_B S.1 (xn_uI (xn_uI (xn_uJ v 11 r 0 10 (pg_nst S.1 m S.2.2)) 11 r 0 12 (nI 4)) 11 r 0 13 (nI 1)) := hB.R ((((xf_R.rf r v).uJ (by omega)).uI (by omega)).uI (by omega))
  exact h1.post hz 4 r _ _ _ false (by omega)
theorem xf_O.srv {r : Nat} {S : pg_S} {v : xn_V} (m : Nat) : xf_O r v (xn_ex v r S m) := (xf_O.ofR ((((xf_R.rf r v).uJ (by omega)).uI (by omega)).uI (by omega))).post
/-- below the window nothing is there -/
def pg_low (S : pg_S) : Prop := ∀ n, n ≤ pg_h S.2 → pg_ac S.2 n = 0 ∧ pg_de S.2 n = 0 ∧ pg_ct S.2 n = 0
theorem xp_am1 {c : Nat} (h : c < 300) : nI c - 2 = -1 ↔ c = 1 := by
  constructor
  · intro e
    have h1 : nI c = nI 1 := by
      have : nI c - 2 + 2 = -1 + 2 := by rw [e]
      rw [Int32.sub_add_cancel] at this
      rw [this]
      decide
    rwa [nI_eq (by omega) (by omega)] at h1
  · rintro rfl
    decide
theorem xp_sub2 {c : Nat} (h : 2 ≤ c) : nI c - 2 = nI (c - 2) := pk_sub h
theorem pg_srv_e (r : Nat) (S : pg_S) (m : Nat) : pg_e (pg_srv r S m).2 = pg_e S.2 := rfl
theorem pg_srv_z (r : Nat) (S : pg_S) (m : Nat) : (pg_srv r S m).1.1 = S.1.1 + 1 := rfl
theorem c_R_executeNext (l : Launch) (G : xj_G) (v : xn_V) (r : Nat) (hr : r < 4) (S : pg_S) (hR : xc_R r S v) (hN : pg_num S.2) (hB : xc_B S.1 v) (hK : pg_kno S) (hT : pg_top S) (hW : pg_low S) (hQ : pg_rq S.1) (hz : S.1.1 < 255) : xj_Mx l G 3 78 0 0 m_R_executeNext [.ref (xj_ad G (11, r, 0))] (xn_W v) (xp_rl r v (pg_r4 r S)) := by
  have hF := hR.1
  have hh := hN.2.2.1
  have he := hN.2.2.2.1
  have hde := (hN.2.2.2.2.2.2.2 (pg_e S.2 + 1)).2.1
  have hl : (nI (pg_e S.2 + 1)).toInt64 = lN (pg_e S.2 + 1) := nI_l (by omega)
  refine xj_Mx_of (by decide) (Nat.le_of_ble_eq_true rfl) (fun E hE C _ => ?_)
  subst hE
  replace C : xj_C E G prog_5_method_23_code "ThreePhaseGroup$Replica" 2 3 78 0 0 (some .boolean) := C
  show xn_X E G _ 0 0 0 [some (.ref (xj_ad G (11, r, 0))), none] [] v
  have no : pg_de S.2 (pg_e S.2 + 1) = 0 → xn_X E G (xj_R E G (xp_rl r v (pg_r4 r S)) 0 0) 0 0 33 [some (.ref (xj_ad G (11, r, 0))), none] [] v := by
    intro h
    have e : pg_r4 r S = none := by unfold pg_r4; dsimp only; rw [if_pos h]
    rw [e]
    refine xj_iconst (v := nI 0) C a_R_executeNext_33 (by decide) ?_
    exact xj_zret C a_R_executeNext_34 rfl ⟨rfl, rfl⟩
  refine xj_aload_n C a_R_executeNext_0 rfl ?_
  refine xj_aload_n C a_R_executeNext_1 rfl ?_
  refine xn_g_R_executed C a_R_executeNext_2 fl_R_42 (by first | assumption | omega) ?_
  refine xj_topi hF.e ?_
  refine xj_iconst (v := nI 1) C a_R_executeNext_5 (by decide) ?_
  refine xj_iadd C a_R_executeNext_6 ?_
  refine xj_topi (nI_add _ 1) ?_
  refine xj_i2l C a_R_executeNext_7 ?_
  refine xj_topl hl ?_
  refine xn_callV1i C a_R_executeNext_8 (c_R_inWindow _ _ v r hr S.2 hF hN (lN (pg_e S.2 + 1))) mv_R_inWindow lk_R_135 ⟨rfl, rfl, rfl⟩ (xj_ok11 (by first | assumption | omega)) ⟨by decide, by decide⟩ rfl (Nat.le_of_ble_eq_true rfl) ⟨Nat.le_refl _, Nat.le_refl _⟩ ?_
  refine xj_if_eq C a_R_executeNext_11 rfl (fun h11 => ?_) (fun h11 => ?_)
  · rw [xp_b0] at h11
    refine no ?_
    by_cases c1 : pg_e S.2 + 1 ≤ pg_h S.2
    · exact (hW _ c1).2.1
    · refine (hT.1 _ ?_).2.1
      unfold pg_win at h11
      rw [decide_eq_true ((pk_lLT (by omega) (by omega)).mpr (by omega)), Bool.true_and, decide_eq_false_iff_not, pk_lLE (by omega) (by omega)] at h11
      omega
  · rw [xp_b0] at h11
    have h11 : pg_win S.2 (lN (pg_e S.2 + 1)) = true := by simpa using h11
    have hwin : pg_h S.2 < pg_e S.2 + 1 ∧ pg_e S.2 + 1 ≤ pg_h S.2 + 4 := by
      unfold pg_win at h11
      rw [Bool.and_eq_true, decide_eq_true_eq, decide_eq_true_eq, pk_lLT (by omega) (by omega), pk_lLE (by omega) (by omega)] at h11
      exact h11
    have h44 : (pg_e S.2 + 1) % 4 < 4 := Nat.mod_lt _ (by decide)
    have hS := hR.S hwin.1 hwin.2
    refine xj_aload_n C a_R_executeNext_14 rfl ?_
    refine xj_aload_n C a_R_executeNext_15 rfl ?_
    refine xn_g_R_executed C a_R_executeNext_16 fl_R_42 (by first | assumption | omega) ?_
    refine xj_topi hF.e ?_
    refine xj_iconst (v := nI 1) C a_R_executeNext_19 (by decide) ?_
    refine xj_iadd C a_R_executeNext_20 ?_
    refine xj_topi (nI_add _ 1) ?_
    refine xj_i2l C a_R_executeNext_21 ?_
    refine xj_topl hl ?_
    refine xn_callV1r C a_R_executeNext_22 (c_R_slotAt _ _ v r (pg_e S.2 + 1) hr (by omega)) mv_R_slotAt lk_R_145 ⟨rfl, rfl, rfl⟩ (xj_ok11 (by first | assumption | omega)) ⟨by decide, by decide⟩ rfl (Nat.le_of_ble_eq_true rfl) ⟨Nat.le_refl _, Nat.le_refl _⟩ ?_
    refine xn_g_S_decided C a_R_executeNext_25 fl_R_223 (by first | assumption | omega) (by first | assumption | omega) ?_
    refine xj_topi hS.2.1 ?_
    refine xj_bipush (v := -2) C a_R_executeNext_28 (by decide) ?_
    refine xj_icmp_ne C a_R_executeNext_30 rfl (fun h30 => ?_) (fun h30 => ?_)
    · have h30 : ¬ nI (pg_de S.2 (pg_e S.2 + 1)) - 2 = -2 := h30
      rw [xp_acc (by omega)] at h30
      have hR1 := hR.fld (t := 3) (x := 9) (y := pg_e S.2 + 1) (by omega)
      have hB1 : xc_B S.1 (xn_uI v 11 r 0 9 (nI (pg_e S.2 + 1))) := hB.R ((xf_R.rf r v).uI (by omega))
      have hO1 : xf_O r v (xn_uI v 11 r 0 9 (nI (pg_e S.2 + 1))) := xf_O.ofR ((xf_R.rf r v).uI (by omega))
      generalize hv1 : xn_uI v 11 r 0 9 (nI (pg_e S.2 + 1)) = v1 at hR1 hB1 hO1
      generalize hS1 : ((S.1, pg_u S.2 3 0 (pg_e S.2 + 1)) : pg_S) = S1 at hR1
      have hB1' : xc_B S1.1 v1 := by rw [← hS1]; exact hB1
      have hS11 : S1.1 = S.1 := by rw [← hS1]
      have hK1 : pg_kno S1 := by rw [← hS1]; exact hK
      have e1 : pg_e S1.2 = pg_e S.2 + 1 := by rw [← hS1]; rfl
      have hh1 : pg_h S1.2 = pg_h S.2 := by rw [← hS1]; rfl
      have hde1 : pg_de S1.2 = pg_de S.2 := by rw [← hS1]; rfl
      have er : pg_r4 r S = some (if pg_e (if 2 ≤ pg_de S.2 (pg_e S.2 + 1) ∧ pg_wt S1 (pg_de S.2 (pg_e S.2 + 1) - 2) = true then pg_srv r S1 (pg_de S.2 (pg_e S.2 + 1) - 2) else S1).2 % 2 = 0 then pg_own r (if 2 ≤ pg_de S.2 (pg_e S.2 + 1) ∧ pg_wt S1 (pg_de S.2 (pg_e S.2 + 1) - 2) = true then pg_srv r S1 (pg_de S.2 (pg_e S.2 + 1) - 2) else S1) 7 (nI (pg_e (if 2 ≤ pg_de S.2 (pg_e S.2 + 1) ∧ pg_wt S1 (pg_de S.2 (pg_e S.2 + 1) - 2) = true then pg_srv r S1 (pg_de S.2 (pg_e S.2 + 1) - 2) else S1).2)) (if 2 ≤ pg_de S.2 (pg_e S.2 + 1) ∧ pg_wt S1 (pg_de S.2 (pg_e S.2 + 1) - 2) = true then pg_srv r S1 (pg_de S.2 (pg_e S.2 + 1) - 2) else S1).2.2 0 else (if 2 ≤ pg_de S.2 (pg_e S.2 + 1) ∧ pg_wt S1 (pg_de S.2 (pg_e S.2 + 1) - 2) = true then pg_srv r S1 (pg_de S.2 (pg_e S.2 + 1) - 2) else S1)) := by
        unfold pg_r4
        dsimp only
        rw [if_neg h30, ← hS1]
      have fin : ∀ (S2 : pg_S) (v2 : xn_V), xc_R r S2 v2 → xc_B S2.1 v2 → xf_O r v v2 → S2.1.1 < 256 → pg_e S2.2 = pg_e S.2 + 1 → pg_r4 r S = some (if pg_e S2.2 % 2 = 0 then pg_own r S2 7 (nI (pg_e S2.2)) S2.2.2 0 else S2) → ∀ z : Option Value, xn_X E G (xj_R E G (xp_rl r v (pg_r4 r S)) 0 0) 0 0 87 [some (.ref (xj_ad G (11, r, 0))), z] [] v2 := by
        intro S2 v2 hR2 hB2 hO2 hz2 e2 hr4 z
        have hF2 := hR2.1
        obtain ⟨cl, hC, hcl⟩ := hR2.2.2.1
        rw [hr4]
        refine xj_aload_n C a_R_executeNext_87 rfl ?_
        refine xn_g_R_executed C a_R_executeNext_88 fl_R_42 (by first | assumption | omega) ?_
        refine xj_topi hF2.e ?_
        refine xj_iconst (v := nI 2) C a_R_executeNext_91 (by decide) ?_
        refine xj_irem C a_R_executeNext_92 (by decide) ?_
        refine xj_topi (pk_rem (by omega) (by decide) (by decide)) ?_
        refine xj_if_ne C a_R_executeNext_93 rfl (fun h93 => ?_) (fun h93 => ?_)
        · have h93 : ¬ pg_e S2.2 % 2 = 0 := fun e => h93 (by rw [e]; rfl)
          rw [if_neg h93]
          refine xj_iconst (v := nI 1) C a_R_executeNext_125 (by decide) ?_
          exact xj_zret C a_R_executeNext_126 rfl ⟨rfl, v2, rfl, hR2, hB2, hO2⟩
        · have h93 : pg_e S2.2 % 2 = 0 := by
            have h5 : nI (pg_e S2.2 % 2) = nI 0 := (by simpa using h93 : nI (pg_e S2.2 % 2) = 0)
            rwa [nI_eq (by omega) (by omega)] at h5
          rw [if_pos h93]
          have o := xn_post_oth v2 S2.1.1 (nI 7) (nI r) (nI (pg_e S2.2)) S2.2.2 (nI 0)
          have hlen : (xn_post v2 S2.1.1 (nI 7) (nI r) (nI (pg_e S2.2)) S2.2.2 (nI 0)).1 16 r 1 1 = nI cl.length := by
            rw [(o 16 r 1 1 (by omega) (by omega)).1]
            exact hC.2.2.1
          refine xj_aload_n C a_R_executeNext_96 rfl ?_
          refine xn_g_R_checkpoints C a_R_executeNext_97 fl_R_24 (by first | assumption | omega) ?_
          refine xj_aload_n C a_R_executeNext_100 rfl ?_
          refine xn_g_R_board C a_R_executeNext_101 fl_R_61 (by first | assumption | omega) ?_
          refine xj_bipush (v := nI 7) C a_R_executeNext_104 (by decide) ?_
          refine xj_aload_n C a_R_executeNext_106 rfl ?_
          refine xn_g_R_self C a_R_executeNext_107 fl_R_58 (by first | assumption | omega) ?_
          refine xj_topi hF2.self ?_
          refine xj_aload_n C a_R_executeNext_110 rfl ?_
          refine xn_g_R_executed C a_R_executeNext_111 fl_R_42 (by first | assumption | omega) ?_
          refine xj_topi hF2.e ?_
          refine xj_aload_n C a_R_executeNext_114 rfl ?_
          refine xn_g_R_state C a_R_executeNext_115 fl_R_45 (by first | assumption | omega) ?_
          refine xj_topl hF2.st ?_
          refine xj_iconst (v := nI 0) C a_R_executeNext_118 (by decide) ?_
          refine xn_callV5i C a_R_executeNext_119 (c_B_post _ _ v2 S2.1.1 hB2.1 hz2 _ _ _ _ _) mv_B_post lk_R_213 ⟨rfl, rfl, rfl⟩ xj_ok1 ⟨by decide, by decide⟩ rfl (Nat.le_of_ble_eq_true rfl) ⟨Nat.le_refl _, Nat.le_refl _⟩ ?_
          refine xn_callV1 C a_R_executeNext_122 (c_N_add _ _ _ r 1 cl.length hr (by omega) hlen hC.2.1 _) mv_N_add lk_R_100 ⟨rfl, rfl, rfl⟩ (xj_ok16 (by first | assumption | omega) (by first | assumption | omega)) ⟨by decide, by decide⟩ rfl (Nat.le_of_ble_eq_true rfl) ⟨Nat.le_refl _, Nat.le_refl _⟩ ?_
          refine xj_iconst (v := nI 1) C a_R_executeNext_125 (by decide) ?_
          refine xj_zret C a_R_executeNext_126 rfl ⟨rfl, _, rfl, hR2.own7 hz2 hC hcl _ _ _, ?_, ?_⟩
          · exact (hB2.post hz2 7 r _ _ _ false (by omega)).R ((xf_R.rf r _).add)
          · exact hO2.post.R ((xf_R.rf r _).add)
      have fin1 : ¬ (2 ≤ pg_de S.2 (pg_e S.2 + 1) ∧ pg_wt S1 (pg_de S.2 (pg_e S.2 + 1) - 2) = true) → ∀ z : Option Value, xn_X E G (xj_R E G (xp_rl r v (pg_r4 r S)) 0 0) 0 0 87 [some (.ref (xj_ad G (11, r, 0))), z] [] v1 := by
        intro hc
        refine fin S1 v1 hR1 hB1' hO1 (by rw [hS11]; omega) e1 ?_
        rw [er, if_neg hc]
      refine xj_aload_n C a_R_executeNext_35 rfl ?_
      refine xj_dup C a_R_executeNext_36 rfl ?_
      refine xn_g_R_executed C a_R_executeNext_37 fl_R_42 (by first | assumption | omega) ?_
      refine xj_topi hF.e ?_
      refine xj_iconst (v := nI 1) C a_R_executeNext_40 (by decide) ?_
      refine xj_iadd C a_R_executeNext_41 ?_
      refine xj_topi (nI_add _ 1) ?_
      refine xn_p_R_executed C a_R_executeNext_42 fl_R_42 (by first | assumption | omega) ?_
      rw [hv1]
      have hF1 := hR1.1
      refine xj_aload_n C a_R_executeNext_45 rfl ?_
      refine xj_aload_n C a_R_executeNext_46 rfl ?_
      refine xn_g_R_executed C a_R_executeNext_47 fl_R_42 (by first | assumption | omega) ?_
      refine xj_topi (hF1.e.trans (by rw [e1])) ?_
      refine xj_i2l C a_R_executeNext_50 ?_
      refine xj_topl hl ?_
      refine xn_callV1r C a_R_executeNext_51 (c_R_slotAt _ _ v1 r (pg_e S.2 + 1) hr (by omega)) mv_R_slotAt lk_R_145 ⟨rfl, rfl, rfl⟩ (xj_ok11 (by first | assumption | omega)) ⟨by decide, by decide⟩ rfl (Nat.le_of_ble_eq_true rfl) ⟨Nat.le_refl _, Nat.le_refl _⟩ ?_
      refine xn_g_S_decided C a_R_executeNext_54 fl_R_223 (by first | assumption | omega) (by first | assumption | omega) ?_
      refine xj_topi (((hR1.S (by omega) (by omega)).2.1).trans (by rw [hde1])) ?_
      refine xj_istore1 C a_R_executeNext_57 rfl ?_
      refine xj_iload_n C a_R_executeNext_58 rfl ?_
      refine xj_iconst (v := -1) C a_R_executeNext_59 (by decide) ?_
      refine xj_icmp_eq C a_R_executeNext_60 rfl (fun h60 => ?_) (fun h60 => ?_)
      · have h60 : nI (pg_de S.2 (pg_e S.2 + 1)) - 2 = -1 := h60
        rw [xp_am1 hde] at h60
        exact fin1 (by omega) _
      · have h60 : ¬ nI (pg_de S.2 (pg_e S.2 + 1)) - 2 = -1 := h60
        rw [xp_am1 hde] at h60
        have h2 : 2 ≤ pg_de S.2 (pg_e S.2 + 1) := by omega
        obtain ⟨kl, hL, hkl⟩ := hR1.2.1
        have hb : ∀ q, q ∈ kl → q < 2 ^ 31 := fun q hq => by have := hK1.1 q ((hkl q).mp hq); rw [hS11] at this; omega
        rw [xp_sub2 h2]
        refine xj_aload_n C a_R_executeNext_63 rfl ?_
        refine xn_g_R_known C a_R_executeNext_64 fl_R_20 (by first | assumption | omega) ?_
        refine xj_iload_n C a_R_executeNext_67 rfl ?_
        refine xn_callV1i C a_R_executeNext_68 (c_N_has _ _ v1 r 0 kl.length hr (by omega) hL.2.2.1 hL.2.1 (nI (pg_de S.2 (pg_e S.2 + 1) - 2))) mv_N_has lk_R_125 ⟨rfl, rfl, rfl⟩ (xj_ok16 (by first | assumption | omega) (by first | assumption | omega)) ⟨by decide, by decide⟩ rfl (Nat.le_of_ble_eq_true rfl) ⟨Nat.le_refl _, Nat.le_refl _⟩ ?_
        refine xj_if_eq C a_R_executeNext_71 rfl (fun h71 => ?_) (fun h71 => ?_)
        · rw [xp_b0, hL.any hb (by omega), decide_eq_false_iff_not, hkl] at h71
          refine fin1 ?_ _
          rintro ⟨-, h⟩
          unfold pg_wt at h
          simp only [Bool.and_eq_true, beq_iff_eq] at h
          exact h71 h.2.1
        · rw [xp_b0, hL.any hb (by omega), decide_eq_false_iff_not, Classical.not_not, hkl] at h71
          obtain ⟨k1, k2⟩ := hK1.1 _ h71
          refine xj_aload_n C a_R_executeNext_74 rfl ?_
          refine xj_iload_n C a_R_executeNext_75 rfl ?_
          refine xn_callV1i C a_R_executeNext_76 (c_R_wouldWait _ _ v1 r hr S1 hF1 hB1' _ k1 k2) mv_R_wouldWait lk_R_96 ⟨rfl, rfl, rfl⟩ (xj_ok11 (by first | assumption | omega)) ⟨by decide, by decide⟩ rfl (Nat.le_of_ble_eq_true rfl) ⟨Nat.le_refl _, Nat.le_refl _⟩ ?_
          refine xj_if_eq C a_R_executeNext_79 rfl (fun h79 => ?_) (fun h79 => ?_)
          · rw [xp_b0] at h79
            refine fin1 ?_ _
            rintro ⟨-, h⟩
            unfold pg_wt at h
            rw [h79] at h
            simp at h
          · rw [xp_b0] at h79
            have hwt : pg_wt S1 (pg_de S.2 (pg_e S.2 + 1) - 2) = true := by
              unfold pg_wt
              simp only [Bool.and_eq_true, beq_iff_eq]
              exact ⟨k2, h71, by simpa using h79⟩
            have hz1 : S1.1.1 < 255 := by rw [hS11]; exact hz
            refine xj_aload_n C a_R_executeNext_82 rfl ?_
            refine xj_iload_n C a_R_executeNext_83 rfl ?_
            refine xn_callV1 C a_R_executeNext_84 (c_R_execute _ _ v1 r hr S1 hF1 hB1' (by rw [hS11]; exact hQ) (by omega) _ k1 k2) mv_R_execute lk_R_229 ⟨rfl, rfl, rfl⟩ (xj_ok11 (by first | assumption | omega)) ⟨by decide, by decide⟩ rfl (Nat.le_of_ble_eq_true rfl) ⟨Nat.le_refl _, Nat.le_refl _⟩ ?_
            refine fin _ _ (hR1.srv _) (hB1'.srv hr (by omega) _) (hO1.tr (xf_O.srv _)) (by rw [pg_srv_z]; omega) (by rw [pg_srv_e, e1]) ?_ _
            rw [er, if_pos (And.intro h2 hwt)]
    · have h30 : nI (pg_de S.2 (pg_e S.2 + 1)) - 2 = -2 := by simpa using h30
      rw [xp_acc (by omega)] at h30
      exact no h30
