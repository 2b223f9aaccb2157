/-! the reference's constructor -/
/-- the reference in making -/
def xm_T (w0 : xj_W) (s : Nat) (w : xj_W) : Prop := w.2.2 = 116 ∧ xj_Z w ∧ (∀ k r' i' x, ¬ 21 ≤ k → w.1.1 k r' i' x = w0.1.1 k r' i' x ∧ w.1.2 k r' i' x = w0.1.2 k r' i' x ∧ w.2.1 k r' i' x = w0.2.1 k r' i' x) ∧ xm_at w 21 0 0 ∧ (∀ q, 22 ≤ q → q ≤ 45 → ¬ q = 35 → ¬ q = 43 → xm_at w q 0 0) ∧ (∀ x, (w.1.1 35 0 0 x = if x < s then nI 4 else 0) ∧ w.1.2 35 0 0 x = 0) ∧ ∀ x, w.1.1 43 0 0 x = 0 ∧ w.1.2 43 0 0 x = 0
theorem xj_ix_big {q : Nat} (h : 21 ≤ q) : xj_ix (q, 0, 0) = 70 + q := by
  unfold xj_ix
  split
  all_goals first | omega | skip
  all_goals simp_all
  all_goals omega
theorem xj_ok_big {q : Nat} (h : 21 ≤ q) (h2 : q ≤ 45) : xj_ok (q, 0, 0) 116 := by
  have a : ∀ q, q ≤ 45 → 21 ≤ q → (xj_PL[xj_ix (q, 0, 0)]? = some (q, 0, 0) ∧ xj_ix (q, 0, 0) < 116) := by decide +kernel
  exact a q h2 h
theorem xm_kn {q : Nat} (h : 22 ≤ q) (h2 : q ≤ 45) : ¬ xj_knd q = 3 ∧ ¬ xj_knd q = 4 := by
  have a : ∀ q, q ≤ 45 → 22 ≤ q → (¬ xj_knd q = 3 ∧ ¬ xj_knd q = 4) := by decide +kernel
  exact a q h2 h
theorem xm_i0 {q x : Nat} (h : 22 ≤ q) (h2 : q ≤ 45) (n35 : ¬ q = 35) (n43 : ¬ q = 43) : xm_I q 0 x = 0 := by
  unfold xm_I
  split
  all_goals first | omega | rfl
theorem xm_j0 {q : Nat} (h : 21 ≤ q) : xm_J q = 0 := by
  unfold xm_J
  rw [if_neg (by omega)]
theorem c_T_init (l : Launch) (G : xj_G) (w : xj_W) (hn : w.2.2 = 92) (hZ : xj_Z w) (h0 : ∀ x, w.1.1 21 0 0 x = 0 ∧ w.1.2 21 0 0 x = 0 ∧ w.2.1 21 0 0 x = none) : xj_Mx l G 1 20 24 6440 m_T_init [.ref (xj_ad G (21, 0, 0))] w (xm_post w 116 (fun k _ _ => 21 ≤ k) (fun w' => ∀ q, 21 ≤ q → q ≤ 45 → xm_at w' q 0 0)) := by
  refine xj_Mx_of (by decide) (Nat.le_of_ble_eq_true rfl) (fun E hE C hnm => ?_)
  subst hE
  replace C : xj_C E G prog_9_method_1_code "ThreePhaseGroupModel" 2 1 20 _ _ none := C
  show xj_X E G _ 0 0 0 [some (.ref (xj_ad G (21, 0, 0))), none] [] w
  have zq : ∀ q, 22 ≤ q → q ≤ 45 → ∀ x, w.1.1 q 0 0 x = 0 ∧ w.1.2 q 0 0 x = 0 ∧ w.2.1 q 0 0 x = none := fun q h1 h2 x => hZ.at (xj_ok_big (by omega) h2) (by rw [xj_ix_big (by omega)]; omega) x
  refine xj_aload_n C a_T_init_0 rfl ?_
  refine xj_oinit C a_T_init_1 ol_T ol_i ol_c ⟨by decide, by decide⟩ rfl (by decide) ?_
  refine xj_aload_n C a_T_init_4 rfl ?_
  refine xj_sipush (v := nI 200) C a_T_init_5 (by decide) ?_
  refine xj_newI (k := 22) (r := 0) (i := 0) C a_T_init_8 ⟨rfl, by decide⟩ (xj_pn xj_ok22 (show w.2.2 + 0 = 92 by omega)) hZ (by decide) ?_
  have hz1 := hZ.n1
  refine xj_pK (x := 1) (p2 := (22, 0, 0)) C a_T_init_10 cf_T fw_T_7 ⟨rfl, rfl, rfl⟩ (by decide) rfl (xj_okn xj_ok21 (show 91 < w.2.2 + 1 by omega)) ⟨rfl, rfl⟩ hnm (fun _ => ⟨rfl, rfl⟩) ?_
  have hz2 := hz1.uK (k := 21) (r := 0) (i := 0) (x := 1) (y := some (22, 0, 0)) (xj_okn xj_ok21 (show 91 < w.2.2 + 1 by omega))
  refine xj_aload_n C a_T_init_13 rfl ?_
  refine xj_sipush (v := nI 200) C a_T_init_14 (by decide) ?_
  refine xj_newI (k := 23) (r := 0) (i := 0) C a_T_init_17 ⟨rfl, by decide⟩ (xj_pn xj_ok23 (show w.2.2 + 1 = 93 by omega)) hz2 (by decide) ?_
  have hz3 := hz2.n1
  refine xj_pK (x := 2) (p2 := (23, 0, 0)) C a_T_init_19 cf_T fw_T_13 ⟨rfl, rfl, rfl⟩ (by decide) rfl (xj_okn xj_ok21 (show 91 < w.2.2 + 2 by omega)) ⟨rfl, rfl⟩ hnm (fun _ => ⟨rfl, rfl⟩) ?_
  have hz4 := hz3.uK (k := 21) (r := 0) (i := 0) (x := 2) (y := some (23, 0, 0)) (xj_okn xj_ok21 (show 91 < w.2.2 + 2 by omega))
  refine xj_aload_n C a_T_init_22 rfl ?_
  refine xj_sipush (v := nI 200) C a_T_init_23 (by decide) ?_
  refine xj_newI (k := 24) (r := 0) (i := 0) C a_T_init_26 ⟨rfl, by decide⟩ (xj_pn xj_ok24 (show w.2.2 + 2 = 94 by omega)) hz4 (by decide) ?_
  have hz5 := hz4.n1
  refine xj_pK (x := 3) (p2 := (24, 0, 0)) C a_T_init_28 cf_T fw_T_16 ⟨rfl, rfl, rfl⟩ (by decide) rfl (xj_okn xj_ok21 (show 91 < w.2.2 + 3 by omega)) ⟨rfl, rfl⟩ hnm (fun _ => ⟨rfl, rfl⟩) ?_
  have hz6 := hz5.uK (k := 21) (r := 0) (i := 0) (x := 3) (y := some (24, 0, 0)) (xj_okn xj_ok21 (show 91 < w.2.2 + 3 by omega))
  refine xj_aload_n C a_T_init_31 rfl ?_
  refine xj_sipush (v := nI 200) C a_T_init_32 (by decide) ?_
  refine xj_newJ (k := 25) (r := 0) (i := 0) C a_T_init_35 ⟨rfl, by decide⟩ (xj_pn xj_ok25 (show w.2.2 + 3 = 95 by omega)) hz6 (by decide) ?_
  have hz7 := hz6.n1
  refine xj_pK (x := 4) (p2 := (25, 0, 0)) C a_T_init_37 cf_T fw_T_19 ⟨rfl, rfl, rfl⟩ (by decide) rfl (xj_okn xj_ok21 (show 91 < w.2.2 + 4 by omega)) ⟨rfl, rfl⟩ hnm (fun _ => ⟨rfl, rfl⟩) ?_
  have hz8 := hz7.uK (k := 21) (r := 0) (i := 0) (x := 4) (y := some (25, 0, 0)) (xj_okn xj_ok21 (show 91 < w.2.2 + 4 by omega))
  refine xj_aload_n C a_T_init_40 rfl ?_
  refine xj_sipush (v := nI 200) C a_T_init_41 (by decide) ?_
  refine xj_newI (k := 26) (r := 0) (i := 0) C a_T_init_44 ⟨rfl, by decide⟩ (xj_pn xj_ok26 (show w.2.2 + 4 = 96 by omega)) hz8 (by decide) ?_
  have hz9 := hz8.n1
  refine xj_pK (x := 5) (p2 := (26, 0, 0)) C a_T_init_46 cf_T fw_T_23 ⟨rfl, rfl, rfl⟩ (by decide) rfl (xj_okn xj_ok21 (show 91 < w.2.2 + 5 by omega)) ⟨rfl, rfl⟩ hnm (fun _ => ⟨rfl, rfl⟩) ?_
  have hz10 := hz9.uK (k := 21) (r := 0) (i := 0) (x := 5) (y := some (26, 0, 0)) (xj_okn xj_ok21 (show 91 < w.2.2 + 5 by omega))
  refine xj_aload_n C a_T_init_49 rfl ?_
  refine xj_sipush (v := nI 200) C a_T_init_50 (by decide) ?_
  refine xj_newZ (k := 27) (r := 0) (i := 0) C a_T_init_53 ⟨rfl, by decide⟩ (xj_pn xj_ok27 (show w.2.2 + 5 = 97 by omega)) hz10 (by decide) ?_
  have hz11 := hz10.n1
  refine xj_pK (x := 6) (p2 := (27, 0, 0)) C a_T_init_55 cf_T fw_T_26 ⟨rfl, rfl, rfl⟩ (by decide) rfl (xj_okn xj_ok21 (show 91 < w.2.2 + 6 by omega)) ⟨rfl, rfl⟩ hnm (fun _ => ⟨rfl, rfl⟩) ?_
  have hz12 := hz11.uK (k := 21) (r := 0) (i := 0) (x := 6) (y := some (27, 0, 0)) (xj_okn xj_ok21 (show 91 < w.2.2 + 6 by omega))
  refine xj_aload_n C a_T_init_58 rfl ?_
  refine xj_sipush (v := nI 800) C a_T_init_59 (by decide) ?_
  refine xj_newZ (k := 28) (r := 0) (i := 0) C a_T_init_62 ⟨rfl, by decide⟩ (xj_pn xj_ok28 (show w.2.2 + 6 = 98 by omega)) hz12 (by decide) ?_
  have hz13 := hz12.n1
  refine xj_pK (x := 7) (p2 := (28, 0, 0)) C a_T_init_64 cf_T fw_T_30 ⟨rfl, rfl, rfl⟩ (by decide) rfl (xj_okn xj_ok21 (show 91 < w.2.2 + 7 by omega)) ⟨rfl, rfl⟩ hnm (fun _ => ⟨rfl, rfl⟩) ?_
  have hz14 := hz13.uK (k := 21) (r := 0) (i := 0) (x := 7) (y := some (28, 0, 0)) (xj_okn xj_ok21 (show 91 < w.2.2 + 7 by omega))
  refine xj_aload_n C a_T_init_67 rfl ?_
  refine xj_sipush (v := nI 800) C a_T_init_68 (by decide) ?_
  refine xj_newZ (k := 29) (r := 0) (i := 0) C a_T_init_71 ⟨rfl, by decide⟩ (xj_pn xj_ok29 (show w.2.2 + 7 = 99 by omega)) hz14 (by decide) ?_
  have hz15 := hz14.n1
  refine xj_pK (x := 8) (p2 := (29, 0, 0)) C a_T_init_73 cf_T fw_T_33 ⟨rfl, rfl, rfl⟩ (by decide) rfl (xj_okn xj_ok21 (show 91 < w.2.2 + 8 by omega)) ⟨rfl, rfl⟩ hnm (fun _ => ⟨rfl, rfl⟩) ?_
  have hz16 := hz15.uK (k := 21) (r := 0) (i := 0) (x := 8) (y := some (29, 0, 0)) (xj_okn xj_ok21 (show 91 < w.2.2 + 8 by omega))
  refine xj_aload_n C a_T_init_76 rfl ?_
  refine xj_iconst (v := nI 4) C a_T_init_77 (by decide) ?_
  refine xj_newI (k := 30) (r := 0) (i := 0) C a_T_init_78 ⟨rfl, by decide⟩ (xj_pn xj_ok30 (show w.2.2 + 8 = 100 by omega)) hz16 (by decide) ?_
  have hz17 := hz16.n1
  refine xj_pK (x := 9) (p2 := (30, 0, 0)) C a_T_init_80 cf_T fw_T_36 ⟨rfl, rfl, rfl⟩ (by decide) rfl (xj_okn xj_ok21 (show 91 < w.2.2 + 9 by omega)) ⟨rfl, rfl⟩ hnm (fun _ => ⟨rfl, rfl⟩) ?_
  have hz18 := hz17.uK (k := 21) (r := 0) (i := 0) (x := 9) (y := some (30, 0, 0)) (xj_okn xj_ok21 (show 91 < w.2.2 + 9 by omega))
  refine xj_aload_n C a_T_init_83 rfl ?_
  refine xj_iconst (v := nI 4) C a_T_init_84 (by decide) ?_
  refine xj_newZ (k := 31) (r := 0) (i := 0) C a_T_init_85 ⟨rfl, by decide⟩ (xj_pn xj_ok31 (show w.2.2 + 9 = 101 by omega)) hz18 (by decide) ?_
  have hz19 := hz18.n1
  refine xj_pK (x := 10) (p2 := (31, 0, 0)) C a_T_init_87 cf_T fw_T_39 ⟨rfl, rfl, rfl⟩ (by decide) rfl (xj_okn xj_ok21 (show 91 < w.2.2 + 10 by omega)) ⟨rfl, rfl⟩ hnm (fun _ => ⟨rfl, rfl⟩) ?_
  have hz20 := hz19.uK (k := 21) (r := 0) (i := 0) (x := 10) (y := some (31, 0, 0)) (xj_okn xj_ok21 (show 91 < w.2.2 + 10 by omega))
  refine xj_aload_n C a_T_init_90 rfl ?_
  refine xj_iconst (v := nI 4) C a_T_init_91 (by decide) ?_
  refine xj_newI (k := 32) (r := 0) (i := 0) C a_T_init_92 ⟨rfl, by decide⟩ (xj_pn xj_ok32 (show w.2.2 + 10 = 102 by omega)) hz20 (by decide) ?_
  have hz21 := hz20.n1
  refine xj_pK (x := 11) (p2 := (32, 0, 0)) C a_T_init_94 cf_T fw_T_42 ⟨rfl, rfl, rfl⟩ (by decide) rfl (xj_okn xj_ok21 (show 91 < w.2.2 + 11 by omega)) ⟨rfl, rfl⟩ hnm (fun _ => ⟨rfl, rfl⟩) ?_
  have hz22 := hz21.uK (k := 21) (r := 0) (i := 0) (x := 11) (y := some (32, 0, 0)) (xj_okn xj_ok21 (show 91 < w.2.2 + 11 by omega))
  refine xj_aload_n C a_T_init_97 rfl ?_
  refine xj_iconst (v := nI 4) C a_T_init_98 (by decide) ?_
  refine xj_newI (k := 33) (r := 0) (i := 0) C a_T_init_99 ⟨rfl, by decide⟩ (xj_pn xj_ok33 (show w.2.2 + 11 = 103 by omega)) hz22 (by decide) ?_
  have hz23 := hz22.n1
  refine xj_pK (x := 12) (p2 := (33, 0, 0)) C a_T_init_101 cf_T fw_T_45 ⟨rfl, rfl, rfl⟩ (by decide) rfl (xj_okn xj_ok21 (show 91 < w.2.2 + 12 by omega)) ⟨rfl, rfl⟩ hnm (fun _ => ⟨rfl, rfl⟩) ?_
  have hz24 := hz23.uK (k := 21) (r := 0) (i := 0) (x := 12) (y := some (33, 0, 0)) (xj_okn xj_ok21 (show 91 < w.2.2 + 12 by omega))
  refine xj_aload_n C a_T_init_104 rfl ?_
  refine xj_iconst (v := nI 4) C a_T_init_105 (by decide) ?_
  refine xj_newJ (k := 34) (r := 0) (i := 0) C a_T_init_106 ⟨rfl, by decide⟩ (xj_pn xj_ok34 (show w.2.2 + 12 = 104 by omega)) hz24 (by decide) ?_
  have hz25 := hz24.n1
  refine xj_pK (x := 13) (p2 := (34, 0, 0)) C a_T_init_108 cf_T fw_T_48 ⟨rfl, rfl, rfl⟩ (by decide) rfl (xj_okn xj_ok21 (show 91 < w.2.2 + 13 by omega)) ⟨rfl, rfl⟩ hnm (fun _ => ⟨rfl, rfl⟩) ?_
  have hz26 := hz25.uK (k := 21) (r := 0) (i := 0) (x := 13) (y := some (34, 0, 0)) (xj_okn xj_ok21 (show 91 < w.2.2 + 13 by omega))
  refine xj_aload_n C a_T_init_111 rfl ?_
  refine xj_iconst (v := nI 4) C a_T_init_112 (by decide) ?_
  refine xj_newI (k := 35) (r := 0) (i := 0) C a_T_init_113 ⟨rfl, by decide⟩ (xj_pn xj_ok35 (show w.2.2 + 13 = 105 by omega)) hz26 (by decide) ?_
  have hz27 := hz26.n1
  refine xj_pK (x := 14) (p2 := (35, 0, 0)) C a_T_init_115 cf_T fw_T_51 ⟨rfl, rfl, rfl⟩ (by decide) rfl (xj_okn xj_ok21 (show 91 < w.2.2 + 14 by omega)) ⟨rfl, rfl⟩ hnm (fun _ => ⟨rfl, rfl⟩) ?_
  have hz28 := hz27.uK (k := 21) (r := 0) (i := 0) (x := 14) (y := some (35, 0, 0)) (xj_okn xj_ok21 (show 91 < w.2.2 + 14 by omega))
  refine xj_aload_n C a_T_init_118 rfl ?_
  refine xj_iconst (v := nI 4) C a_T_init_119 (by decide) ?_
  refine xj_newI (k := 36) (r := 0) (i := 0) C a_T_init_120 ⟨rfl, by decide⟩ (xj_pn xj_ok36 (show w.2.2 + 14 = 106 by omega)) hz28 (by decide) ?_
  have hz29 := hz28.n1
  refine xj_pK (x := 15) (p2 := (36, 0, 0)) C a_T_init_122 cf_T fw_T_54 ⟨rfl, rfl, rfl⟩ (by decide) rfl (xj_okn xj_ok21 (show 91 < w.2.2 + 15 by omega)) ⟨rfl, rfl⟩ hnm (fun _ => ⟨rfl, rfl⟩) ?_
  have hz30 := hz29.uK (k := 21) (r := 0) (i := 0) (x := 15) (y := some (36, 0, 0)) (xj_okn xj_ok21 (show 91 < w.2.2 + 15 by omega))
  refine xj_aload_n C a_T_init_125 rfl ?_
  refine xj_sipush (v := nI 800) C a_T_init_126 (by decide) ?_
  refine xj_newI (k := 37) (r := 0) (i := 0) C a_T_init_129 ⟨rfl, by decide⟩ (xj_pn xj_ok37 (show w.2.2 + 15 = 107 by omega)) hz30 (by decide) ?_
  have hz31 := hz30.n1
  refine xj_pK (x := 16) (p2 := (37, 0, 0)) C a_T_init_131 cf_T fw_T_57 ⟨rfl, rfl, rfl⟩ (by decide) rfl (xj_okn xj_ok21 (show 91 < w.2.2 + 16 by omega)) ⟨rfl, rfl⟩ hnm (fun _ => ⟨rfl, rfl⟩) ?_
  have hz32 := hz31.uK (k := 21) (r := 0) (i := 0) (x := 16) (y := some (37, 0, 0)) (xj_okn xj_ok21 (show 91 < w.2.2 + 16 by omega))
  refine xj_aload_n C a_T_init_134 rfl ?_
  refine xj_sipush (v := nI 800) C a_T_init_135 (by decide) ?_
  refine xj_newI (k := 38) (r := 0) (i := 0) C a_T_init_138 ⟨rfl, by decide⟩ (xj_pn xj_ok38 (show w.2.2 + 16 = 108 by omega)) hz32 (by decide) ?_
  have hz33 := hz32.n1
  refine xj_pK (x := 17) (p2 := (38, 0, 0)) C a_T_init_140 cf_T fw_T_60 ⟨rfl, rfl, rfl⟩ (by decide) rfl (xj_okn xj_ok21 (show 91 < w.2.2 + 17 by omega)) ⟨rfl, rfl⟩ hnm (fun _ => ⟨rfl, rfl⟩) ?_
  have hz34 := hz33.uK (k := 21) (r := 0) (i := 0) (x := 17) (y := some (38, 0, 0)) (xj_okn xj_ok21 (show 91 < w.2.2 + 17 by omega))
  refine xj_aload_n C a_T_init_143 rfl ?_
  refine xj_sipush (v := nI 800) C a_T_init_144 (by decide) ?_
  refine xj_newI (k := 39) (r := 0) (i := 0) C a_T_init_147 ⟨rfl, by decide⟩ (xj_pn xj_ok39 (show w.2.2 + 17 = 109 by omega)) hz34 (by decide) ?_
  have hz35 := hz34.n1
  refine xj_pK (x := 18) (p2 := (39, 0, 0)) C a_T_init_149 cf_T fw_T_63 ⟨rfl, rfl, rfl⟩ (by decide) rfl (xj_okn xj_ok21 (show 91 < w.2.2 + 18 by omega)) ⟨rfl, rfl⟩ hnm (fun _ => ⟨rfl, rfl⟩) ?_
  have hz36 := hz35.uK (k := 21) (r := 0) (i := 0) (x := 18) (y := some (39, 0, 0)) (xj_okn xj_ok21 (show 91 < w.2.2 + 18 by omega))
  refine xj_aload_n C a_T_init_152 rfl ?_
  refine xj_sipush (v := nI 800) C a_T_init_153 (by decide) ?_
  refine xj_newI (k := 40) (r := 0) (i := 0) C a_T_init_156 ⟨rfl, by decide⟩ (xj_pn xj_ok40 (show w.2.2 + 18 = 110 by omega)) hz36 (by decide) ?_
  have hz37 := hz36.n1
  refine xj_pK (x := 19) (p2 := (40, 0, 0)) C a_T_init_158 cf_T fw_T_66 ⟨rfl, rfl, rfl⟩ (by decide) rfl (xj_okn xj_ok21 (show 91 < w.2.2 + 19 by omega)) ⟨rfl, rfl⟩ hnm (fun _ => ⟨rfl, rfl⟩) ?_
  have hz38 := hz37.uK (k := 21) (r := 0) (i := 0) (x := 19) (y := some (40, 0, 0)) (xj_okn xj_ok21 (show 91 < w.2.2 + 19 by omega))
  refine xj_aload_n C a_T_init_161 rfl ?_
  refine xj_iconst (v := -1) C a_T_init_162 (by decide) ?_
  refine xj_pI (x := 20) C a_T_init_163 cf_T fw_T_69 ⟨rfl, rfl, rfl⟩ (by decide) rfl (xj_okn xj_ok21 (show 91 < w.2.2 + 19 by omega)) (Or.inl rfl) hnm ⟨rfl, rfl⟩ ?_
  have hz39 := hz38.uI (k := 21) (r := 0) (i := 0) (x := 20) (y := -1) (xj_okn xj_ok21 (show 91 < w.2.2 + 19 by omega))
  refine xj_aload_n C a_T_init_166 rfl ?_
  refine xj_iconst (v := nI 2) C a_T_init_167 (by decide) ?_
  refine xj_newI (k := 41) (r := 0) (i := 0) C a_T_init_168 ⟨rfl, by decide⟩ (xj_pn xj_ok41 (show w.2.2 + 19 = 111 by omega)) hz39 (by decide) ?_
  have hz40 := hz39.n1
  refine xj_pK (x := 22) (p2 := (41, 0, 0)) C a_T_init_170 cf_T fw_T_73 ⟨rfl, rfl, rfl⟩ (by decide) rfl (xj_okn xj_ok21 (show 91 < w.2.2 + 20 by omega)) ⟨rfl, rfl⟩ hnm (fun _ => ⟨rfl, rfl⟩) ?_
  have hz41 := hz40.uK (k := 21) (r := 0) (i := 0) (x := 22) (y := some (41, 0, 0)) (xj_okn xj_ok21 (show 91 < w.2.2 + 20 by omega))
  refine xj_aload_n C a_T_init_173 rfl ?_
  refine xj_iconst (v := nI 2) C a_T_init_174 (by decide) ?_
  refine xj_newI (k := 42) (r := 0) (i := 0) C a_T_init_175 ⟨rfl, by decide⟩ (xj_pn xj_ok42 (show w.2.2 + 20 = 112 by omega)) hz41 (by decide) ?_
  have hz42 := hz41.n1
  refine xj_pK (x := 23) (p2 := (42, 0, 0)) C a_T_init_177 cf_T fw_T_76 ⟨rfl, rfl, rfl⟩ (by decide) rfl (xj_okn xj_ok21 (show 91 < w.2.2 + 21 by omega)) ⟨rfl, rfl⟩ hnm (fun _ => ⟨rfl, rfl⟩) ?_
  have hz43 := hz42.uK (k := 21) (r := 0) (i := 0) (x := 23) (y := some (42, 0, 0)) (xj_okn xj_ok21 (show 91 < w.2.2 + 21 by omega))
  refine xj_aload_n C a_T_init_180 rfl ?_
  refine xj_iconst (v := nI 2) C a_T_init_181 (by decide) ?_
  refine xj_newI (k := 43) (r := 0) (i := 0) C a_T_init_182 ⟨rfl, by decide⟩ (xj_pn xj_ok43 (show w.2.2 + 21 = 113 by omega)) hz43 (by decide) ?_
  have hz44 := hz43.n1
  refine xj_pK (x := 24) (p2 := (43, 0, 0)) C a_T_init_184 cf_T fw_T_79 ⟨rfl, rfl, rfl⟩ (by decide) rfl (xj_okn xj_ok21 (show 91 < w.2.2 + 22 by omega)) ⟨rfl, rfl⟩ hnm (fun _ => ⟨rfl, rfl⟩) ?_
  have hz45 := hz44.uK (k := 21) (r := 0) (i := 0) (x := 24) (y := some (43, 0, 0)) (xj_okn xj_ok21 (show 91 < w.2.2 + 22 by omega))
  refine xj_aload_n C a_T_init_187 rfl ?_
  refine xj_sipush (v := nI 400) C a_T_init_188 (by decide) ?_
  refine xj_newZ (k := 44) (r := 0) (i := 0) C a_T_init_191 ⟨rfl, by decide⟩ (xj_pn xj_ok44 (show w.2.2 + 22 = 114 by omega)) hz45 (by decide) ?_
  have hz46 := hz45.n1
  refine xj_pK (x := 25) (p2 := (44, 0, 0)) C a_T_init_193 cf_T fw_T_82 ⟨rfl, rfl, rfl⟩ (by decide) rfl (xj_okn xj_ok21 (show 91 < w.2.2 + 23 by omega)) ⟨rfl, rfl⟩ hnm (fun _ => ⟨rfl, rfl⟩) ?_
  have hz47 := hz46.uK (k := 21) (r := 0) (i := 0) (x := 25) (y := some (44, 0, 0)) (xj_okn xj_ok21 (show 91 < w.2.2 + 23 by omega))
  refine xj_aload_n C a_T_init_196 rfl ?_
  refine xj_bipush (v := nI 6) C a_T_init_197 (by decide) ?_
  refine xj_newI (k := 45) (r := 0) (i := 0) C a_T_init_199 ⟨rfl, by decide⟩ (xj_pn xj_ok45 (show w.2.2 + 23 = 115 by omega)) hz47 (by decide) ?_
  have hz48 := hz47.n1
  refine xj_pK (x := 26) (p2 := (45, 0, 0)) C a_T_init_201 cf_T fw_T_85 ⟨rfl, rfl, rfl⟩ (by decide) rfl (xj_okn xj_ok21 (show 91 < w.2.2 + 24 by omega)) ⟨rfl, rfl⟩ hnm (fun _ => ⟨rfl, rfl⟩) ?_
  have hz49 := hz48.uK (k := 21) (r := 0) (i := 0) (x := 26) (y := some (45, 0, 0)) (xj_okn xj_ok21 (show 91 < w.2.2 + 24 by omega))
  refine xj_iconst (v := nI 0) C a_T_init_204 (by decide) ?_
  refine xj_istore1 C a_T_init_205 rfl ?_
  obtain ⟨w3, hw3⟩ : ∃ w3, w3 = xj_uK (xj_n1 (xj_uK (xj_n1 (xj_uK (xj_n1 (xj_uK (xj_n1 (xj_uK (xj_n1 (xj_uI (xj_uK (xj_n1 (xj_uK (xj_n1 (xj_uK (xj_n1 (xj_uK (xj_n1 (xj_uK (xj_n1 (xj_uK (xj_n1 (xj_uK (xj_n1 (xj_uK (xj_n1 (xj_uK (xj_n1 (xj_uK (xj_n1 (xj_uK (xj_n1 (xj_uK (xj_n1 (xj_uK (xj_n1 (xj_uK (xj_n1 (xj_uK (xj_n1 (xj_uK (xj_n1 (xj_uK (xj_n1 (xj_uK (xj_n1 (xj_uK (xj_n1 w) 21 0 0 1 (some (22, 0, 0)))) 21 0 0 2 (some (23, 0, 0)))) 21 0 0 3 (some (24, 0, 0)))) 21 0 0 4 (some (25, 0, 0)))) 21 0 0 5 (some (26, 0, 0)))) 21 0 0 6 (some (27, 0, 0)))) 21 0 0 7 (some (28, 0, 0)))) 21 0 0 8 (some (29, 0, 0)))) 21 0 0 9 (some (30, 0, 0)))) 21 0 0 10 (some (31, 0, 0)))) 21 0 0 11 (some (32, 0, 0)))) 21 0 0 12 (some (33, 0, 0)))) 21 0 0 13 (some (34, 0, 0)))) 21 0 0 14 (some (35, 0, 0)))) 21 0 0 15 (some (36, 0, 0)))) 21 0 0 16 (some (37, 0, 0)))) 21 0 0 17 (some (38, 0, 0)))) 21 0 0 18 (some (39, 0, 0)))) 21 0 0 19 (some (40, 0, 0))) 21 0 0 20 (-1))) 21 0 0 22 (some (41, 0, 0)))) 21 0 0 23 (some (42, 0, 0)))) 21 0 0 24 (some (43, 0, 0)))) 21 0 0 25 (some (44, 0, 0)))) 21 0 0 26 (some (45, 0, 0)) := ⟨_, rfl⟩
  rw [← hw3]
  have I3 : ∀ k r' i' x, w3.1.1 k r' i' x = if k = 21 ∧ r' = 0 ∧ i' = 0 ∧ x = 20 then -1 else w.1.1 k r' i' x := by
    rw [hw3]
    exact fun _ _ _ _ => rfl
  have J3 : ∀ k r' i' x, w3.1.2 k r' i' x = w.1.2 k r' i' x := by
    rw [hw3]
    exact fun _ _ _ _ => rfl
  have K3 : ∀ k r' i' x, ¬ (k = 21 ∧ r' = 0 ∧ i' = 0) → w3.2.1 k r' i' x = w.2.1 k r' i' x := by
    intro k r' i' x hk
    rw [hw3]
    show (if k = 21 ∧ r' = 0 ∧ i' = 0 ∧ x = 26 then some (45, 0, 0) else if k = 21 ∧ r' = 0 ∧ i' = 0 ∧ x = 25 then some (44, 0, 0) else if k = 21 ∧ r' = 0 ∧ i' = 0 ∧ x = 24 then some (43, 0, 0) else if k = 21 ∧ r' = 0 ∧ i' = 0 ∧ x = 23 then some (42, 0, 0) else if k = 21 ∧ r' = 0 ∧ i' = 0 ∧ x = 22 then some (41, 0, 0) else if k = 21 ∧ r' = 0 ∧ i' = 0 ∧ x = 19 then some (40, 0, 0) else if k = 21 ∧ r' = 0 ∧ i' = 0 ∧ x = 18 then some (39, 0, 0) else if k = 21 ∧ r' = 0 ∧ i' = 0 ∧ x = 17 then some (38, 0, 0) else if k = 21 ∧ r' = 0 ∧ i' = 0 ∧ x = 16 then some (37, 0, 0) else if k = 21 ∧ r' = 0 ∧ i' = 0 ∧ x = 15 then some (36, 0, 0) else if k = 21 ∧ r' = 0 ∧ i' = 0 ∧ x = 14 then some (35, 0, 0) else if k = 21 ∧ r' = 0 ∧ i' = 0 ∧ x = 13 then some (34, 0, 0) else if k = 21 ∧ r' = 0 ∧ i' = 0 ∧ x = 12 then some (33, 0, 0) else if k = 21 ∧ r' = 0 ∧ i' = 0 ∧ x = 11 then some (32, 0, 0) else if k = 21 ∧ r' = 0 ∧ i' = 0 ∧ x = 10 then some (31, 0, 0) else if k = 21 ∧ r' = 0 ∧ i' = 0 ∧ x = 9 then some (30, 0, 0) else if k = 21 ∧ r' = 0 ∧ i' = 0 ∧ x = 8 then some (29, 0, 0) else if k = 21 ∧ r' = 0 ∧ i' = 0 ∧ x = 7 then some (28, 0, 0) else if k = 21 ∧ r' = 0 ∧ i' = 0 ∧ x = 6 then some (27, 0, 0) else if k = 21 ∧ r' = 0 ∧ i' = 0 ∧ x = 5 then some (26, 0, 0) else if k = 21 ∧ r' = 0 ∧ i' = 0 ∧ x = 4 then some (25, 0, 0) else if k = 21 ∧ r' = 0 ∧ i' = 0 ∧ x = 3 then some (24, 0, 0) else if k = 21 ∧ r' = 0 ∧ i' = 0 ∧ x = 2 then some (23, 0, 0) else if k = 21 ∧ r' = 0 ∧ i' = 0 ∧ x = 1 then some (22, 0, 0) else w.2.1 k r' i' x) = _
    rw [if_neg (by omega), if_neg (by omega), if_neg (by omega), if_neg (by omega), if_neg (by omega), if_neg (by omega), if_neg (by omega), if_neg (by omega), if_neg (by omega), if_neg (by omega), if_neg (by omega), if_neg (by omega), if_neg (by omega), if_neg (by omega), if_neg (by omega), if_neg (by omega), if_neg (by omega), if_neg (by omega), if_neg (by omega), if_neg (by omega), if_neg (by omega), if_neg (by omega), if_neg (by omega), if_neg (by omega)]
  have A21 : xm_at w3 21 0 0 := by
    intro x hx
    have hx : x < 27 := hx
    obtain ⟨g1, g2, g3⟩ := h0 x
    rw [← J3] at g2
    have g1 : ¬ x = 20 → w3.1.1 21 0 0 x = 0 := fun hne => by rw [I3, if_neg (by omega)]; exact g1
    rcases (show x = 0 ∨ x = 1 ∨ x = 2 ∨ x = 3 ∨ x = 4 ∨ x = 5 ∨ x = 6 ∨ x = 7 ∨ x = 8 ∨ x = 9 ∨ x = 10 ∨ x = 11 ∨ x = 12 ∨ x = 13 ∨ x = 14 ∨ x = 15 ∨ x = 16 ∨ x = 17 ∨ x = 18 ∨ x = 19 ∨ x = 20 ∨ x = 21 ∨ x = 22 ∨ x = 23 ∨ x = 24 ∨ x = 25 ∨ x = 26 by omega) with rfl | rfl | rfl | rfl | rfl | rfl | rfl | rfl | rfl | rfl | rfl | rfl | rfl | rfl | rfl | rfl | rfl | rfl | rfl | rfl | rfl | rfl | rfl | rfl | rfl | rfl | rfl
    · exact ⟨by simpa [xm_I] using g1 (by decide), by simpa [xm_J] using g2, fun h => absurd h (by decide)⟩
    · exact ⟨by simpa [xm_I] using g1 (by decide), by simpa [xm_J] using g2, fun _ => by rw [hw3]; rfl⟩
    · exact ⟨by simpa [xm_I] using g1 (by decide), by simpa [xm_J] using g2, fun _ => by rw [hw3]; rfl⟩
    · exact ⟨by simpa [xm_I] using g1 (by decide), by simpa [xm_J] using g2, fun _ => by rw [hw3]; rfl⟩
    · exact ⟨by simpa [xm_I] using g1 (by decide), by simpa [xm_J] using g2, fun _ => by rw [hw3]; rfl⟩
    · exact ⟨by simpa [xm_I] using g1 (by decide), by simpa [xm_J] using g2, fun _ => by rw [hw3]; rfl⟩
    · exact ⟨by simpa [xm_I] using g1 (by decide), by simpa [xm_J] using g2, fun _ => by rw [hw3]; rfl⟩
    · exact ⟨by simpa [xm_I] using g1 (by decide), by simpa [xm_J] using g2, fun _ => by rw [hw3]; rfl⟩
    · exact ⟨by simpa [xm_I] using g1 (by decide), by simpa [xm_J] using g2, fun _ => by rw [hw3]; rfl⟩
    · exact ⟨by simpa [xm_I] using g1 (by decide), by simpa [xm_J] using g2, fun _ => by rw [hw3]; rfl⟩
    · exact ⟨by simpa [xm_I] using g1 (by decide), by simpa [xm_J] using g2, fun _ => by rw [hw3]; rfl⟩
    · exact ⟨by simpa [xm_I] using g1 (by decide), by simpa [xm_J] using g2, fun _ => by rw [hw3]; rfl⟩
    · exact ⟨by simpa [xm_I] using g1 (by decide), by simpa [xm_J] using g2, fun _ => by rw [hw3]; rfl⟩
    · exact ⟨by simpa [xm_I] using g1 (by decide), by simpa [xm_J] using g2, fun _ => by rw [hw3]; rfl⟩
    · exact ⟨by simpa [xm_I] using g1 (by decide), by simpa [xm_J] using g2, fun _ => by rw [hw3]; rfl⟩
    · exact ⟨by simpa [xm_I] using g1 (by decide), by simpa [xm_J] using g2, fun _ => by rw [hw3]; rfl⟩
    · exact ⟨by simpa [xm_I] using g1 (by decide), by simpa [xm_J] using g2, fun _ => by rw [hw3]; rfl⟩
    · exact ⟨by simpa [xm_I] using g1 (by decide), by simpa [xm_J] using g2, fun _ => by rw [hw3]; rfl⟩
    · exact ⟨by simpa [xm_I] using g1 (by decide), by simpa [xm_J] using g2, fun _ => by rw [hw3]; rfl⟩
    · exact ⟨by simpa [xm_I] using g1 (by decide), by simpa [xm_J] using g2, fun _ => by rw [hw3]; rfl⟩
    · exact ⟨by rw [I3, if_pos ⟨rfl, rfl, rfl, rfl⟩]; rfl, by simpa [xm_J] using g2, fun h => absurd h (by decide)⟩
    · exact ⟨by simpa [xm_I] using g1 (by decide), by simpa [xm_J] using g2, fun h => absurd h (by decide)⟩
    · exact ⟨by simpa [xm_I] using g1 (by decide), by simpa [xm_J] using g2, fun _ => by rw [hw3]; rfl⟩
    · exact ⟨by simpa [xm_I] using g1 (by decide), by simpa [xm_J] using g2, fun _ => by rw [hw3]; rfl⟩
    · exact ⟨by simpa [xm_I] using g1 (by decide), by simpa [xm_J] using g2, fun _ => by rw [hw3]; rfl⟩
    · exact ⟨by simpa [xm_I] using g1 (by decide), by simpa [xm_J] using g2, fun _ => by rw [hw3]; rfl⟩
    · exact ⟨by simpa [xm_I] using g1 (by decide), by simpa [xm_J] using g2, fun _ => by rw [hw3]; rfl⟩
  have T0 : xm_T w 0 w3 := by
    refine ⟨by rw [hw3]; show w.2.2 + 24 = _; omega, by rw [hw3]; exact hz49, fun k r' i' x hk => ⟨?_, J3 k r' i' x, K3 k r' i' x (by omega)⟩, A21, fun q h1 h2 n35 n43 x hx => ⟨?_, ?_, fun h => xm_nr (xm_kn h1 h2).1 (xm_kn h1 h2).2 h⟩, fun x => ⟨?_, ?_⟩, fun x => ⟨?_, ?_⟩⟩
    · rw [I3, if_neg (by omega)]
    · rw [I3, if_neg (by omega), xm_i0 h1 h2 n35 n43]
      exact (zq q h1 h2 x).1
    · rw [J3, xm_j0 (by omega)]
      exact (zq q h1 h2 x).2.1
    · rw [I3, if_neg (by omega), if_neg (by omega)]
      exact (zq 35 (by omega) (by omega) x).1
    · rw [J3]
      exact (zq 35 (by omega) (by omega) x).2.1
    · rw [I3, if_neg (by omega)]
      exact (zq 43 (by omega) (by omega) x).1
    · rw [J3]
      exact (zq 43 (by omega) (by omega) x).2.1
  have loop : ∀ (n s : Nat) (wc : xj_W), s ≤ 4 → 4 - s < n → xm_T w s wc → xj_X E G (xj_R E G (xm_post w 116 (fun k _ _ => 21 ≤ k) (fun w' => ∀ q, 21 ≤ q → q ≤ 45 → xm_at w' q 0 0)) 24 6440) 24 6440 206 [some (.ref (xj_ad G (21, 0, 0))), some (.int (nI s))] [] wc := by
    intro n
    induction n with
    | zero => intro s wc _ h; omega
    | succ n ih =>
      intro s wc hs hn2 hT
      obtain ⟨m1, m2, m3, m4, m5, m6, m7⟩ := hT
      refine xj_iload_n C a_T_init_206 rfl ?_
      refine xj_iconst (v := nI 4) C a_T_init_207 (by decide) ?_
      refine xj_icmp_ge C a_T_init_208 rfl (fun h208 => ?_) (fun h208 => ?_)
      · rw [nI_leI (by omega) (by omega)] at h208
        have : s = 4 := by omega
        subst this
        have kv : wc.2.1 21 0 0 24 = some (43, 0, 0) := (m4 24 (by decide)).2.2 (Or.inr ⟨rfl, rfl⟩)
        have ok43 : xj_ok (43, 0, 0) wc.2.2 := xj_okn xj_ok43 (show 113 < wc.2.2 by omega)
        refine xj_aload_n C a_T_init_224 rfl ?_
        refine xj_gK (x := 24) (p2 := (43, 0, 0)) C a_T_init_225 cf_T fl_T_79 ⟨rfl, rfl, rfl⟩ (by decide) rfl (xj_okn xj_ok21 (show 91 < wc.2.2 + 0 by omega)) kv ?_
        refine xj_iconst (v := nI 0) C a_T_init_228 (by decide) ?_
        refine xj_iconst (v := -1) C a_T_init_229 (by decide) ?_
        refine xj_iast (k := 43) (r := 0) (i := 0) (j := nI 0) C a_T_init_230 rfl ok43 (vp_in_nI (show 0 < 2 by decide) (by decide)) ?_
        rw [nI_clamp (by omega)]
        refine xj_aload_n C a_T_init_231 rfl ?_
        refine xj_gK (x := 24) (p2 := (43, 0, 0)) C a_T_init_232 cf_T fl_T_79 ⟨rfl, rfl, rfl⟩ (by decide) rfl (xj_okn xj_ok21 (show 91 < wc.2.2 + 0 by omega)) kv ?_
        refine xj_iconst (v := nI 1) C a_T_init_235 (by decide) ?_
        refine xj_iconst (v := -1) C a_T_init_236 (by decide) ?_
        refine xj_iast (k := 43) (r := 0) (i := 0) (j := nI 1) C a_T_init_237 rfl ok43 (vp_in_nI (show 1 < 2 by decide) (by decide)) ?_
        rw [nI_clamp (by omega)]
        refine xj_vret C a_T_init_238 ?_
        have I4 : ∀ k r' i' x, ¬ (k = 43 ∧ r' = 0 ∧ i' = 0) → (xj_uI (xj_uI wc 43 0 0 0 (-1)) 43 0 0 1 (-1)).1.1 k r' i' x = wc.1.1 k r' i' x ∧ (xj_uI (xj_uI wc 43 0 0 0 (-1)) 43 0 0 1 (-1)).1.2 k r' i' x = wc.1.2 k r' i' x ∧ (xj_uI (xj_uI wc 43 0 0 0 (-1)) 43 0 0 1 (-1)).2.1 k r' i' x = wc.2.1 k r' i' x := by
          intro k r' i' x hk
          refine ⟨?_, rfl, rfl⟩
          show (if k = 43 ∧ r' = 0 ∧ i' = 0 ∧ x = 1 then _ else if k = 43 ∧ r' = 0 ∧ i' = 0 ∧ x = 0 then _ else _) = _
          rw [if_neg (by omega), if_neg (by omega)]
        refine ⟨rfl, m1, (m2.uI ok43).uI ok43, fun k r' i' x hk => ?_, fun q h1 h2 => ?_⟩
        · obtain ⟨g1, g2, g3⟩ := I4 k r' i' x (by omega)
          rw [g1, g2, g3]
          exact m3 k r' i' x hk
        · by_cases e21 : q = 21
          · rw [e21]; exact m4.same (fun x => I4 21 0 0 x (by omega))
          by_cases e43 : q = 43
          · subst e43
            intro x hx
            have hx : x < 2 := hx
            refine ⟨?_, (m7 x).2, fun h => xm_nr (by decide) (by decide) h⟩
            show (if 43 = 43 ∧ 0 = 0 ∧ 0 = 0 ∧ x = 1 then -1 else if 43 = 43 ∧ 0 = 0 ∧ 0 = 0 ∧ x = 0 then -1 else _) = -1
            by_cases e : x = 1
            · rw [if_pos ⟨rfl, rfl, rfl, e⟩]
            · rw [if_neg (by omega), if_pos ⟨rfl, rfl, rfl, by omega⟩]
          by_cases e35 : q = 35
          · subst e35
            intro x hx
            have hx : x < 4 := hx
            obtain ⟨g1, g2, g3⟩ := I4 35 0 0 x (by omega)
            rw [g1, g2]
            refine ⟨?_, (m6 x).2, fun h => xm_nr (by decide) (by decide) h⟩
            rw [(m6 x).1, if_pos hx]
            rfl
          · exact (m5 q (by omega) h2 e35 e43).same (fun x => I4 q 0 0 x (by omega))
      · rw [nI_leI (by omega) (by omega)] at h208
        have kv : wc.2.1 21 0 0 14 = some (35, 0, 0) := (m4 14 (by decide)).2.2 (Or.inr ⟨rfl, rfl⟩)
        have ok35 : xj_ok (35, 0, 0) wc.2.2 := xj_okn xj_ok35 (show 105 < wc.2.2 by omega)
        refine xj_aload_n C a_T_init_211 rfl ?_
        refine xj_gK (x := 14) (p2 := (35, 0, 0)) C a_T_init_212 cf_T fl_T_51 ⟨rfl, rfl, rfl⟩ (by decide) rfl (xj_okn xj_ok21 (show 91 < wc.2.2 + 0 by omega)) kv ?_
        refine xj_iload_n C a_T_init_215 rfl ?_
        refine xj_iconst (v := nI 4) C a_T_init_216 (by decide) ?_
        refine xj_iast (k := 35) (r := 0) (i := 0) C a_T_init_217 rfl ok35 (vp_in_nI (show s < 4 by omega) (by decide)) ?_
        rw [nI_clamp (by omega)]
        refine xj_iincN1 C a_T_init_218 rfl ?_
        refine xj_goto C a_T_init_221 rfl ?_
        have I4 : ∀ k r' i' x, ¬ (k = 35 ∧ r' = 0 ∧ i' = 0) → (xj_uI wc 35 0 0 s (nI 4)).1.1 k r' i' x = wc.1.1 k r' i' x ∧ (xj_uI wc 35 0 0 s (nI 4)).1.2 k r' i' x = wc.1.2 k r' i' x ∧ (xj_uI wc 35 0 0 s (nI 4)).2.1 k r' i' x = wc.2.1 k r' i' x := by
          intro k r' i' x hk
          refine ⟨?_, rfl, rfl⟩
          show (if k = 35 ∧ r' = 0 ∧ i' = 0 ∧ x = s then _ else _) = _
          rw [if_neg (by omega)]
        refine ih (s + 1) _ (by omega) (by omega) ⟨m1, m2.uI ok35, fun k r' i' x hk => ?_, m4.same (fun x => I4 21 0 0 x (by omega)), fun q h1 h2 n35 n43 => (m5 q h1 h2 n35 n43).same (fun x => I4 q 0 0 x (by omega)), fun x => ⟨?_, (m6 x).2⟩, fun x => ?_⟩
        · obtain ⟨g1, g2, g3⟩ := I4 k r' i' x (by omega)
          rw [g1, g2, g3]
          exact m3 k r' i' x hk
        · show (if 35 = 35 ∧ 0 = 0 ∧ 0 = 0 ∧ x = s then nI 4 else wc.1.1 35 0 0 x) = _
          by_cases e : x = s
          · rw [if_pos ⟨rfl, rfl, rfl, e⟩, if_pos (by omega)]
          · rw [if_neg (by omega), (m6 x).1]
            by_cases h : x < s
            · rw [if_pos h, if_pos (by omega)]
            · rw [if_neg h, if_neg (by omega)]
        · obtain ⟨g1, g2, g3⟩ := I4 43 0 0 x (by omega)
          rw [g1, g2]
          exact m7 x
  exact loop 5 0 w3 (by omega) (by omega) T0
