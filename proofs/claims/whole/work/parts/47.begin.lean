/-! a change of view begins -/
def xp_cls (R : pg_R) : Nat → Int32
  | 0 => 0
  | j + 1 => xp_cls R j ||| nI (pg_ct R (pg_h R + 1 + j)) <<< (nI 5 * nI j &&& 31)
/-- what begins a change, with an answer or none -/
def xp_bg (r : Nat) (v : xn_V) (S' : pg_S) (ans a : Option Value) (w' : xj_W) : Prop := a = ans ∧ ∃ v', w' = xn_W v' ∧ xc_R r S' v' ∧ xc_B S'.1 v' ∧ xf_O r v v'
theorem pg_beg_cls (r : Nat) (S : pg_S) (w : Nat) : pg_beg r S w = pg_own r (S.1, pg_u (pg_u (pg_mv S.2 w) 1 0 1) 4 0 (min (2 * pg_sp S.2) 32)) 5 (nI w) (lN (pg_h S.2)) (xp_cls S.2 4) := by
  unfold pg_beg
  dsimp only
  congr 1
theorem c_R_begin (l : Launch) (G : xj_G) (v : xn_V) (r : Nat) (hr : r < 4) (S : pg_S) (hR : xc_R r S v) (hN : pg_num S.2) (hB : xc_B S.1 v) (hz : S.1.1 < 256) (w : Nat) (hw : pg_fre S w) : xj_Mx l G 2 43 0 0 m_R_begin [.ref (xj_ad G (11, r, 0)), .int (nI w)] (xn_W v) (xp_bg r v (pg_beg r S w) none) := by
  have hh := hN.2.2.1
  have hsp := hN.2.2.2.2.2.1
  rw [pg_beg_cls]
  refine xj_Mx_of (by decide) (Nat.le_of_ble_eq_true rfl) (fun E hE C _ => ?_)
  subst hE
  replace C : xj_C E G prog_5_method_35_code "ThreePhaseGroup$Replica" 4 2 43 0 0 none := C
  show xn_X E G _ 0 0 0 [some (.ref (xj_ad G (11, r, 0))), some (.int (nI w)), none, none] [] v
  have hR2 := (hR.move hw).fld (t := 1) (x := 7) (y := 1) (by omega)
  have hR3 := hR2.fld (t := 4) (x := 12) (y := min (2 * pg_sp S.2) 32) (by omega)
  have hf3 : xf_R r v (xn_uI (xn_uI (xn_mv v r (nI w) 4) 11 r 0 7 (nI 1)) 11 r 0 12 (nI (min (2 * pg_sp S.2) 32))) := (((xf_R.rf r v).mv).uI (by omega)).uI (by omega)
  have esp : pg_sp (pg_u (pg_mv S.2 w) 1 0 1) = pg_sp S.2 := rfl
  refine xj_aload_n C a_R_begin_0 rfl ?_
  refine xj_iload_n C a_R_begin_1 rfl ?_
  refine xn_callV1 C a_R_begin_2 (c_R_moveTo _ _ v r hr (nI w)) mv_R_moveTo lk_R_283 ⟨rfl, rfl, rfl⟩ (xj_ok11 (by first | assumption | omega)) ⟨by decide, by decide⟩ rfl (Nat.le_of_ble_eq_true rfl) ⟨Nat.le_refl _, Nat.le_refl _⟩ ?_
  refine xj_aload_n C a_R_begin_5 rfl ?_
  refine xj_iconst (v := nI 1) C a_R_begin_6 (by decide) ?_
  refine xn_p_R_changing C a_R_begin_7 fl_R_35 (by first | assumption | omega) (by decide) ?_
  refine xj_aload_n C a_R_begin_10 rfl ?_
  refine xj_iconst (v := nI 2) C a_R_begin_11 (by decide) ?_
  refine xj_aload_n C a_R_begin_12 rfl ?_
  refine xn_g_R_span C a_R_begin_13 fl_R_52 (by first | assumption | omega) ?_
  refine xj_topi (hR2.1.sp.trans (by rw [esp])) ?_
  refine xj_imul C a_R_begin_16 ?_
  refine xj_topi (pk_mul 2 _) ?_
  refine xj_bipush (v := nI 32) C a_R_begin_17 (by decide) ?_
  refine xn_callS2i C a_R_begin_19 (c_JM_min _ _ _ (2 * pg_sp S.2) 32 (by omega) (by omega)) ms_JM_min lk_R_259 ⟨by decide, by decide⟩ rfl (Nat.le_of_ble_eq_true rfl) ⟨Nat.le_refl _, Nat.le_refl _⟩ ?_
  refine xn_p_R_span C a_R_begin_22 fl_R_52 (by first | assumption | omega) ?_
  show xn_X E G _ 0 0 25 _ [] (xn_uI (xn_uI (xn_mv v r (nI w) 4) 11 r 0 7 (nI 1)) 11 r 0 12 (nI (min (2 * pg_sp S.2) 32)))
  have hR3' : xc_R r (S.1, pg_u (pg_u (pg_mv S.2 w) 1 0 1) 4 0 (min (2 * pg_sp S.2) 32)) (xn_uI (xn_uI (xn_mv v r (nI w) 4) 11 r 0 7 (nI 1)) 11 r 0 12 (nI (min (2 * pg_sp S.2) 32))) := hR3
  generalize hv3 : xn_uI (xn_uI (xn_mv v r (nI w) 4) 11 r 0 7 (nI 1)) 11 r 0 12 (nI (min (2 * pg_sp S.2) 32)) = v3 at hR3' hf3
  generalize hS3 : pg_u (pg_u (pg_mv S.2 w) 1 0 1) 4 0 (min (2 * pg_sp S.2) 32) = R3 at hR3'
  have eh : pg_h R3 = pg_h S.2 := by rw [← hS3]; rfl
  have evw : pg_vw R3 = w := by rw [← hS3]; rfl
  have ect : pg_ct R3 = pg_ct S.2 := by rw [← hS3]; rfl
  have hB3 : xc_B S.1 v3 := hB.R hf3
  have hF3 := hR3'.1
  refine xj_iconst (v := nI 0) C a_R_begin_25 (by decide) ?_
  refine xj_istore2 C a_R_begin_26 rfl ?_
  refine xj_iconst (v := nI 0) C a_R_begin_27 (by decide) ?_
  refine xj_istore3 C a_R_begin_28 rfl ?_
  have loop : ∀ n j : Nat, j ≤ 4 → 4 - j < n → xn_X E G (xj_R E G (xp_bg r v (pg_own r (S.1, R3) 5 (nI w) (lN (pg_h S.2)) (xp_cls S.2 4)) none) 0 0) 0 0 29 [some (.ref (xj_ad G (11, r, 0))), some (.int (nI w)), some (.int (xp_cls S.2 j)), some (.int (nI j))] [] v3 := by
    intro n
    induction n with
    | zero => intro j _ h; omega
    | succ n ih =>
      intro j hj hn
      refine xj_iload_n C a_R_begin_29 rfl ?_
      refine xj_iconst (v := nI 4) C a_R_begin_30 (by decide) ?_
      refine xj_icmp_ge C a_R_begin_31 rfl (fun h31 => ?_) (fun h31 => ?_)
      · rw [nI_leI (by omega) (by omega)] at h31
        have : j = 4 := by omega
        subst this
        have hl : (nI (pg_h S.2)).toInt64 = lN (pg_h S.2) := nI_l (by omega)
        refine xj_aload_n C a_R_begin_63 rfl ?_
        refine xn_g_R_viewChanges C a_R_begin_64 fl_R_27 (by first | assumption | omega) ?_
        refine xj_aload_n C a_R_begin_67 rfl ?_
        refine xn_g_R_self C a_R_begin_68 fl_R_58 (by first | assumption | omega) ?_
        refine xj_topi hF3.self ?_
        refine xj_aload_n C a_R_begin_71 rfl ?_
        refine xn_g_R_board C a_R_begin_72 fl_R_61 (by first | assumption | omega) ?_
        refine xj_iconst (v := nI 5) C a_R_begin_75 (by decide) ?_
        refine xj_aload_n C a_R_begin_76 rfl ?_
        refine xn_g_R_self C a_R_begin_77 fl_R_58 (by first | assumption | omega) ?_
        refine xj_topi hF3.self ?_
        refine xj_aload_n C a_R_begin_80 rfl ?_
        refine xn_g_R_view C a_R_begin_81 fl_R_31 (by first | assumption | omega) ?_
        refine xj_topi (hF3.vw.trans (by rw [show pg_vw R3 = w from evw])) ?_
        refine xj_aload_n C a_R_begin_84 rfl ?_
        refine xn_g_R_stable C a_R_begin_85 fl_R_39 (by first | assumption | omega) ?_
        refine xj_topi (hF3.h.trans (by rw [show pg_h R3 = pg_h S.2 from eh])) ?_
        refine xj_i2l C a_R_begin_88 ?_
        refine xj_topl hl ?_
        refine xj_iload_n C a_R_begin_89 rfl ?_
        refine xn_callV5i C a_R_begin_90 (c_B_post _ _ v3 S.1.1 hB3.1 hz _ _ _ _ _) mv_B_post lk_R_213 ⟨rfl, rfl, rfl⟩ xj_ok1 ⟨by decide, by decide⟩ rfl (Nat.le_of_ble_eq_true rfl) ⟨Nat.le_refl _, Nat.le_refl _⟩ ?_
        refine xn_st_18 C a_R_begin_93 (by first | assumption | omega) (by first | assumption | omega) ?_
        refine xj_vret C a_R_begin_94 ?_
        refine ⟨rfl, _, rfl, hR3'.own5 _ _ _, ?_, ?_⟩
        · exact (hB3.post hz 5 r _ _ _ false (by omega)).R ((xf_R.rf r _).uI (by omega))
        · exact (xf_O.ofR hf3).post.R ((xf_R.rf r _).uI (by omega))
      · rw [nI_leI (by omega) (by omega)] at h31
        have hl : (nI (pg_h S.2 + 1 + j)).toInt64 = lN (pg_h S.2 + 1 + j) := nI_l (by omega)
        have h44 : (pg_h S.2 + 1 + j) % 4 < 4 := Nat.mod_lt _ (by decide)
        have hS := hR3'.S (n := pg_h S.2 + 1 + j) (by show pg_h R3 < _; omega) (by show _ ≤ pg_h R3 + 4; omega)
        refine xj_iload_n C a_R_begin_34 rfl ?_
        refine xj_aload_n C a_R_begin_35 rfl ?_
        refine xj_aload_n C a_R_begin_36 rfl ?_
        refine xn_g_R_stable C a_R_begin_37 fl_R_39 (by first | assumption | omega) ?_
        refine xj_topi (hF3.h.trans (by rw [show pg_h R3 = pg_h S.2 from eh])) ?_
        refine xj_iconst (v := nI 1) C a_R_begin_40 (by decide) ?_
        refine xj_iadd C a_R_begin_41 ?_
        refine xj_topi (nI_add _ 1) ?_
        refine xj_iload_n C a_R_begin_42 rfl ?_
        refine xj_iadd C a_R_begin_43 ?_
        refine xj_topi (nI_add _ j) ?_
        refine xj_i2l C a_R_begin_44 ?_
        refine xj_topl hl ?_
        refine xn_callV1r C a_R_begin_45 (c_R_slotAt _ _ v3 r (pg_h S.2 + 1 + j) hr (by omega)) mv_R_slotAt lk_R_145 ⟨rfl, rfl, rfl⟩ (xj_ok11 (by first | assumption | omega)) ⟨by decide, by decide⟩ rfl (Nat.le_of_ble_eq_true rfl) ⟨Nat.le_refl _, Nat.le_refl _⟩ ?_
        refine xn_g_S_claim C a_R_begin_48 fl_R_220 (by first | assumption | omega) (by first | assumption | omega) ?_
        refine xj_topi (hS.2.2.1.trans (by rw [show pg_ct R3 = pg_ct S.2 from ect])) ?_
        refine xj_iconst (v := nI 5) C a_R_begin_51 (by decide) ?_
        refine xj_iload_n C a_R_begin_52 rfl ?_
        refine xj_imul C a_R_begin_53 ?_
        refine xj_ishl C a_R_begin_54 ?_
        refine xj_ior C a_R_begin_55 ?_
        refine xj_istore2 C a_R_begin_56 rfl ?_
        refine xj_iincN3 C a_R_begin_57 rfl ?_
        refine xj_goto C a_R_begin_60 rfl ?_
        exact ih (j + 1) (by omega) (by omega)
  exact loop 5 0 (by omega) (by omega)
