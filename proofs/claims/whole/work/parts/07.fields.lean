theorem xj_ok0 : xj_ok (0, 0, 0) 116 := by unfold xj_ok; decide +kernel
theorem xj_ok1 : xj_ok (1, 0, 0) 116 := by unfold xj_ok; decide +kernel
theorem xj_ok2 : xj_ok (2, 0, 0) 116 := by unfold xj_ok; decide +kernel
theorem xj_ok3 : xj_ok (3, 0, 0) 116 := by unfold xj_ok; decide +kernel
theorem xj_ok4 : xj_ok (4, 0, 0) 116 := by unfold xj_ok; decide +kernel
theorem xj_ok5 : xj_ok (5, 0, 0) 116 := by unfold xj_ok; decide +kernel
theorem xj_ok6 : xj_ok (6, 0, 0) 116 := by unfold xj_ok; decide +kernel
theorem xj_ok7 : xj_ok (7, 0, 0) 116 := by unfold xj_ok; decide +kernel
theorem xj_ok8 : xj_ok (8, 0, 0) 116 := by unfold xj_ok; decide +kernel
theorem xj_ok9 : xj_ok (9, 0, 0) 116 := by unfold xj_ok; decide +kernel
theorem xj_ok10 : xj_ok (10, 0, 0) 116 := by unfold xj_ok; decide +kernel
theorem xj_ok11 {r : Nat} (hr : r < 4) : xj_ok (11, r, 0) 116 := by
  have q : ∀ r, r < 4 → (xj_PL[xj_ix (11, r, 0)]? = some (11, r, 0) ∧ xj_ix (11, r, 0) < 116) := by decide +kernel
  exact q r hr
theorem xj_ok12 {r : Nat} (hr : r < 4) : xj_ok (12, r, 0) 116 := by
  have q : ∀ r, r < 4 → (xj_PL[xj_ix (12, r, 0)]? = some (12, r, 0) ∧ xj_ix (12, r, 0) < 116) := by decide +kernel
  exact q r hr
theorem xj_ok13 {r : Nat} {i : Nat} (hr : r < 4) (hi : i < 4) : xj_ok (13, r, i) 116 := by
  have q : ∀ r, r < 4 → ∀ i, i < 4 → (xj_PL[xj_ix (13, r, i)]? = some (13, r, i) ∧ xj_ix (13, r, i) < 116) := by decide +kernel
  exact q r hr i hi
theorem xj_ok14 {r : Nat} {i : Nat} (hr : r < 4) (hi : i < 4) : xj_ok (14, r, i) 116 := by
  have q : ∀ r, r < 4 → ∀ i, i < 4 → (xj_PL[xj_ix (14, r, i)]? = some (14, r, i) ∧ xj_ix (14, r, i) < 116) := by decide +kernel
  exact q r hr i hi
theorem xj_ok15 {r : Nat} {i : Nat} (hr : r < 4) (hi : i < 4) : xj_ok (15, r, i) 116 := by
  have q : ∀ r, r < 4 → ∀ i, i < 4 → (xj_PL[xj_ix (15, r, i)]? = some (15, r, i) ∧ xj_ix (15, r, i) < 116) := by decide +kernel
  exact q r hr i hi
theorem xj_ok16 {r : Nat} {i : Nat} (hr : r < 4) (hi : i < 2) : xj_ok (16, r, i) 116 := by
  have q : ∀ r, r < 4 → ∀ i, i < 2 → (xj_PL[xj_ix (16, r, i)]? = some (16, r, i) ∧ xj_ix (16, r, i) < 116) := by decide +kernel
  exact q r hr i hi
theorem xj_ok17 {r : Nat} {i : Nat} (hr : r < 4) (hi : i < 2) : xj_ok (17, r, i) 116 := by
  have q : ∀ r, r < 4 → ∀ i, i < 2 → (xj_PL[xj_ix (17, r, i)]? = some (17, r, i) ∧ xj_ix (17, r, i) < 116) := by decide +kernel
  exact q r hr i hi
theorem xj_ok18 {r : Nat} (hr : r < 4) : xj_ok (18, r, 0) 116 := by
  have q : ∀ r, r < 4 → (xj_PL[xj_ix (18, r, 0)]? = some (18, r, 0) ∧ xj_ix (18, r, 0) < 116) := by decide +kernel
  exact q r hr
theorem xj_ok19 {r : Nat} (hr : r < 2) : xj_ok (19, r, 0) 116 := by
  have q : ∀ r, r < 2 → (xj_PL[xj_ix (19, r, 0)]? = some (19, r, 0) ∧ xj_ix (19, r, 0) < 116) := by decide +kernel
  exact q r hr
theorem xj_ok20 {r : Nat} (hr : r < 2) : xj_ok (20, r, 0) 116 := by
  have q : ∀ r, r < 2 → (xj_PL[xj_ix (20, r, 0)]? = some (20, r, 0) ∧ xj_ix (20, r, 0) < 116) := by decide +kernel
  exact q r hr
theorem xj_ok21 : xj_ok (21, 0, 0) 116 := by unfold xj_ok; decide +kernel
theorem xj_ok22 : xj_ok (22, 0, 0) 116 := by unfold xj_ok; decide +kernel
theorem xj_ok23 : xj_ok (23, 0, 0) 116 := by unfold xj_ok; decide +kernel
theorem xj_ok24 : xj_ok (24, 0, 0) 116 := by unfold xj_ok; decide +kernel
theorem xj_ok25 : xj_ok (25, 0, 0) 116 := by unfold xj_ok; decide +kernel
theorem xj_ok26 : xj_ok (26, 0, 0) 116 := by unfold xj_ok; decide +kernel
theorem xj_ok27 : xj_ok (27, 0, 0) 116 := by unfold xj_ok; decide +kernel
theorem xj_ok28 : xj_ok (28, 0, 0) 116 := by unfold xj_ok; decide +kernel
theorem xj_ok29 : xj_ok (29, 0, 0) 116 := by unfold xj_ok; decide +kernel
theorem xj_ok30 : xj_ok (30, 0, 0) 116 := by unfold xj_ok; decide +kernel
theorem xj_ok31 : xj_ok (31, 0, 0) 116 := by unfold xj_ok; decide +kernel
theorem xj_ok32 : xj_ok (32, 0, 0) 116 := by unfold xj_ok; decide +kernel
theorem xj_ok33 : xj_ok (33, 0, 0) 116 := by unfold xj_ok; decide +kernel
theorem xj_ok34 : xj_ok (34, 0, 0) 116 := by unfold xj_ok; decide +kernel
theorem xj_ok35 : xj_ok (35, 0, 0) 116 := by unfold xj_ok; decide +kernel
theorem xj_ok36 : xj_ok (36, 0, 0) 116 := by unfold xj_ok; decide +kernel
theorem xj_ok37 : xj_ok (37, 0, 0) 116 := by unfold xj_ok; decide +kernel
theorem xj_ok38 : xj_ok (38, 0, 0) 116 := by unfold xj_ok; decide +kernel
theorem xj_ok39 : xj_ok (39, 0, 0) 116 := by unfold xj_ok; decide +kernel
theorem xj_ok40 : xj_ok (40, 0, 0) 116 := by unfold xj_ok; decide +kernel
theorem xj_ok41 : xj_ok (41, 0, 0) 116 := by unfold xj_ok; decide +kernel
theorem xj_ok42 : xj_ok (42, 0, 0) 116 := by unfold xj_ok; decide +kernel
theorem xj_ok43 : xj_ok (43, 0, 0) 116 := by unfold xj_ok; decide +kernel
theorem xj_ok44 : xj_ok (44, 0, 0) 116 := by unfold xj_ok; decide +kernel
theorem xj_ok45 : xj_ok (45, 0, 0) 116 := by unfold xj_ok; decide +kernel
theorem xn_bool {y : Int32} (h : y = 0 ∨ y = 1) : narrow .boolean (.int y) = .int y := by
  rcases h with rfl | rfl <;> rfl
theorem xn_boolf {y : Int32} (h : y = 0 ∨ y = 1) : fits .boolean (.int y) = true := by
  rcases h with rfl | rfl <;> rfl
section XNF
variable {E : xj_E} {G : xj_G} {cc : ByteArray} {own : String} {nL d q c0 s0 : Nat} {ret : Option FieldType} {Q : State → Prop} {cs sl pc nx : Nat} {L : List (Option Value)} {st rest : List Value} {v : xn_V}
theorem xn_g_G_board (C : xj_C E G cc own nL d q c0 s0 ret) {ix : Nat} (a : xj_At cc pc (.getfield ix) 3 nx) (hl : xj_FL own ix "ThreePhaseGroup" "board" "LThreePhaseGroup$Board;") (kk : xn_X E G Q cs sl nx L (.ref (xj_ad G (1, 0, 0)) :: st) v) : xn_X E G Q cs sl pc L (.ref (xj_ad G (0, 0, 0)) :: st) v :=
  xj_get (x := 0) C a cf_G hl ⟨rfl, rfl, rfl⟩ (by decide) xj_ok0 rfl kk
theorem xn_g_G_replicas (C : xj_C E G cc own nL d q c0 s0 ret) {ix : Nat} (a : xj_At cc pc (.getfield ix) 3 nx) (hl : xj_FL own ix "ThreePhaseGroup" "replicas" "[LThreePhaseGroup$Replica;") (kk : xn_X E G Q cs sl nx L (.ref (xj_ad G (8, 0, 0)) :: st) v) : xn_X E G Q cs sl pc L (.ref (xj_ad G (0, 0, 0)) :: st) v :=
  xj_get (x := 1) C a cf_G hl ⟨rfl, rfl, rfl⟩ (by decide) xj_ok0 rfl kk
theorem xn_g_G_clients (C : xj_C E G cc own nL d q c0 s0 ret) {ix : Nat} (a : xj_At cc pc (.getfield ix) 3 nx) (hl : xj_FL own ix "ThreePhaseGroup" "clients" "[LThreePhaseGroup$Client;") (kk : xn_X E G Q cs sl nx L (.ref (xj_ad G (9, 0, 0)) :: st) v) : xn_X E G Q cs sl pc L (.ref (xj_ad G (0, 0, 0)) :: st) v :=
  xj_get (x := 2) C a cf_G hl ⟨rfl, rfl, rfl⟩ (by decide) xj_ok0 rfl kk
theorem xn_g_G_marks (C : xj_C E G cc own nL d q c0 s0 ret) {ix : Nat} (a : xj_At cc pc (.getfield ix) 3 nx) (hl : xj_FL own ix "ThreePhaseGroup" "marks" "[I") (kk : xn_X E G Q cs sl nx L (.ref (xj_ad G (10, 0, 0)) :: st) v) : xn_X E G Q cs sl pc L (.ref (xj_ad G (0, 0, 0)) :: st) v :=
  xj_get (x := 3) C a cf_G hl ⟨rfl, rfl, rfl⟩ (by decide) xj_ok0 rfl kk
theorem xn_g_G_faulty (C : xj_C E G cc own nL d q c0 s0 ret) {ix : Nat} (a : xj_At cc pc (.getfield ix) 3 nx) (hl : xj_FL own ix "ThreePhaseGroup" "faulty" "I") (kk : xn_X E G Q cs sl nx L (.int (v.1 0 0 0 4) :: st) v) : xn_X E G Q cs sl pc L (.ref (xj_ad G (0, 0, 0)) :: st) v :=
  xj_get (x := 4) C a cf_G hl ⟨rfl, rfl, rfl⟩ (by decide) xj_ok0 rfl kk
theorem xn_p_G_faulty (C : xj_C E G cc own nL d q c0 s0 ret) {ix : Nat} {y : Int32} (a : xj_At cc pc (.putfield ix) 3 nx) (hl : xj_FL own ix "ThreePhaseGroup" "faulty" "I") (kk : xn_X E G Q cs sl nx L st (xn_uI v 0 0 0 4 y)) : xn_X E G Q cs sl pc L (.int y :: .ref (xj_ad G (0, 0, 0)) :: st) v :=
  xj_put (x := 4) (w2 := xn_W (xn_uI v 0 0 0 4 y)) C a cf_G hl ⟨rfl, rfl, rfl⟩ (by decide) xj_ok0 (Or.inl rfl) rfl rfl (xj_setI (w := xn_W v) rfl (by decide) rfl) rfl (xj_uI_oth (w := xn_W v)) kk
theorem xn_g_B_kind (C : xj_C E G cc own nL d q c0 s0 ret) {ix : Nat} (a : xj_At cc pc (.getfield ix) 3 nx) (hl : xj_FL own ix "ThreePhaseGroup$Board" "kind" "[I") (kk : xn_X E G Q cs sl nx L (.ref (xj_ad G (2, 0, 0)) :: st) v) : xn_X E G Q cs sl pc L (.ref (xj_ad G (1, 0, 0)) :: st) v :=
  xj_get (x := 0) C a cf_B hl ⟨rfl, rfl, rfl⟩ (by decide) xj_ok1 rfl kk
theorem xn_g_B_sender (C : xj_C E G cc own nL d q c0 s0 ret) {ix : Nat} (a : xj_At cc pc (.getfield ix) 3 nx) (hl : xj_FL own ix "ThreePhaseGroup$Board" "sender" "[I") (kk : xn_X E G Q cs sl nx L (.ref (xj_ad G (3, 0, 0)) :: st) v) : xn_X E G Q cs sl pc L (.ref (xj_ad G (1, 0, 0)) :: st) v :=
  xj_get (x := 1) C a cf_B hl ⟨rfl, rfl, rfl⟩ (by decide) xj_ok1 rfl kk
theorem xn_g_B_a (C : xj_C E G cc own nL d q c0 s0 ret) {ix : Nat} (a : xj_At cc pc (.getfield ix) 3 nx) (hl : xj_FL own ix "ThreePhaseGroup$Board" "a" "[I") (kk : xn_X E G Q cs sl nx L (.ref (xj_ad G (4, 0, 0)) :: st) v) : xn_X E G Q cs sl pc L (.ref (xj_ad G (1, 0, 0)) :: st) v :=
  xj_get (x := 2) C a cf_B hl ⟨rfl, rfl, rfl⟩ (by decide) xj_ok1 rfl kk
theorem xn_g_B_b (C : xj_C E G cc own nL d q c0 s0 ret) {ix : Nat} (a : xj_At cc pc (.getfield ix) 3 nx) (hl : xj_FL own ix "ThreePhaseGroup$Board" "b" "[J") (kk : xn_X E G Q cs sl nx L (.ref (xj_ad G (5, 0, 0)) :: st) v) : xn_X E G Q cs sl pc L (.ref (xj_ad G (1, 0, 0)) :: st) v :=
  xj_get (x := 3) C a cf_B hl ⟨rfl, rfl, rfl⟩ (by decide) xj_ok1 rfl kk
theorem xn_g_B_c (C : xj_C E G cc own nL d q c0 s0 ret) {ix : Nat} (a : xj_At cc pc (.getfield ix) 3 nx) (hl : xj_FL own ix "ThreePhaseGroup$Board" "c" "[I") (kk : xn_X E G Q cs sl nx L (.ref (xj_ad G (6, 0, 0)) :: st) v) : xn_X E G Q cs sl pc L (.ref (xj_ad G (1, 0, 0)) :: st) v :=
  xj_get (x := 4) C a cf_B hl ⟨rfl, rfl, rfl⟩ (by decide) xj_ok1 rfl kk
theorem xn_g_B_valid (C : xj_C E G cc own nL d q c0 s0 ret) {ix : Nat} (a : xj_At cc pc (.getfield ix) 3 nx) (hl : xj_FL own ix "ThreePhaseGroup$Board" "valid" "[Z") (kk : xn_X E G Q cs sl nx L (.ref (xj_ad G (7, 0, 0)) :: st) v) : xn_X E G Q cs sl pc L (.ref (xj_ad G (1, 0, 0)) :: st) v :=
  xj_get (x := 5) C a cf_B hl ⟨rfl, rfl, rfl⟩ (by decide) xj_ok1 rfl kk
theorem xn_g_B_size (C : xj_C E G cc own nL d q c0 s0 ret) {ix : Nat} (a : xj_At cc pc (.getfield ix) 3 nx) (hl : xj_FL own ix "ThreePhaseGroup$Board" "size" "I") (kk : xn_X E G Q cs sl nx L (.int (v.1 1 0 0 6) :: st) v) : xn_X E G Q cs sl pc L (.ref (xj_ad G (1, 0, 0)) :: st) v :=
  xj_get (x := 6) C a cf_B hl ⟨rfl, rfl, rfl⟩ (by decide) xj_ok1 rfl kk
theorem xn_p_B_size (C : xj_C E G cc own nL d q c0 s0 ret) {ix : Nat} {y : Int32} (a : xj_At cc pc (.putfield ix) 3 nx) (hl : xj_FL own ix "ThreePhaseGroup$Board" "size" "I") (kk : xn_X E G Q cs sl nx L st (xn_uI v 1 0 0 6 y)) : xn_X E G Q cs sl pc L (.int y :: .ref (xj_ad G (1, 0, 0)) :: st) v :=
  xj_put (x := 6) (w2 := xn_W (xn_uI v 1 0 0 6 y)) C a cf_B hl ⟨rfl, rfl, rfl⟩ (by decide) xj_ok1 (Or.inl rfl) rfl rfl (xj_setI (w := xn_W v) rfl (by decide) rfl) rfl (xj_uI_oth (w := xn_W v)) kk
theorem xn_g_B_judged (C : xj_C E G cc own nL d q c0 s0 ret) {ix : Nat} (a : xj_At cc pc (.getfield ix) 3 nx) (hl : xj_FL own ix "ThreePhaseGroup$Board" "judged" "I") (kk : xn_X E G Q cs sl nx L (.int (v.1 1 0 0 7) :: st) v) : xn_X E G Q cs sl pc L (.ref (xj_ad G (1, 0, 0)) :: st) v :=
  xj_get (x := 7) C a cf_B hl ⟨rfl, rfl, rfl⟩ (by decide) xj_ok1 rfl kk
theorem xn_p_B_judged (C : xj_C E G cc own nL d q c0 s0 ret) {ix : Nat} {y : Int32} (a : xj_At cc pc (.putfield ix) 3 nx) (hl : xj_FL own ix "ThreePhaseGroup$Board" "judged" "I") (kk : xn_X E G Q cs sl nx L st (xn_uI v 1 0 0 7 y)) : xn_X E G Q cs sl pc L (.int y :: .ref (xj_ad G (1, 0, 0)) :: st) v :=
  xj_put (x := 7) (w2 := xn_W (xn_uI v 1 0 0 7 y)) C a cf_B hl ⟨rfl, rfl, rfl⟩ (by decide) xj_ok1 (Or.inl rfl) rfl rfl (xj_setI (w := xn_W v) rfl (by decide) rfl) rfl (xj_uI_oth (w := xn_W v)) kk
theorem xn_g_R_self (C : xj_C E G cc own nL d q c0 s0 ret) {ix : Nat} {r : Nat} (a : xj_At cc pc (.getfield ix) 3 nx) (hl : xj_FL own ix "ThreePhaseGroup$Replica" "self" "I") (hr : r < 4) (kk : xn_X E G Q cs sl nx L (.int (v.1 11 r 0 0) :: st) v) : xn_X E G Q cs sl pc L (.ref (xj_ad G (11, r, 0)) :: st) v :=
  xj_get (x := 0) C a cf_R hl ⟨rfl, rfl, rfl⟩ (by decide) (xj_ok11 hr) rfl kk
theorem xn_g_R_board (C : xj_C E G cc own nL d q c0 s0 ret) {ix : Nat} {r : Nat} (a : xj_At cc pc (.getfield ix) 3 nx) (hl : xj_FL own ix "ThreePhaseGroup$Replica" "board" "LThreePhaseGroup$Board;") (hr : r < 4) (kk : xn_X E G Q cs sl nx L (.ref (xj_ad G (1, 0, 0)) :: st) v) : xn_X E G Q cs sl pc L (.ref (xj_ad G (11, r, 0)) :: st) v :=
  xj_get (x := 1) C a cf_R hl ⟨rfl, rfl, rfl⟩ (by decide) (xj_ok11 hr) rfl kk
theorem xn_g_R_slots (C : xj_C E G cc own nL d q c0 s0 ret) {ix : Nat} {r : Nat} (a : xj_At cc pc (.getfield ix) 3 nx) (hl : xj_FL own ix "ThreePhaseGroup$Replica" "slots" "[LThreePhaseGroup$Slot;") (hr : r < 4) (kk : xn_X E G Q cs sl nx L (.ref (xj_ad G (12, r, 0)) :: st) v) : xn_X E G Q cs sl pc L (.ref (xj_ad G (11, r, 0)) :: st) v :=
  xj_get (x := 2) C a cf_R hl ⟨rfl, rfl, rfl⟩ (by decide) (xj_ok11 hr) rfl kk
theorem xn_g_R_known (C : xj_C E G cc own nL d q c0 s0 ret) {ix : Nat} {r : Nat} (a : xj_At cc pc (.getfield ix) 3 nx) (hl : xj_FL own ix "ThreePhaseGroup$Replica" "known" "LThreePhaseGroup$Numbers;") (hr : r < 4) (kk : xn_X E G Q cs sl nx L (.ref (xj_ad G (16, r, 0)) :: st) v) : xn_X E G Q cs sl pc L (.ref (xj_ad G (11, r, 0)) :: st) v :=
  xj_get (x := 3) C a cf_R hl ⟨rfl, rfl, rfl⟩ (by decide) (xj_ok11 hr) rfl kk
theorem xn_g_R_checkpoints (C : xj_C E G cc own nL d q c0 s0 ret) {ix : Nat} {r : Nat} (a : xj_At cc pc (.getfield ix) 3 nx) (hl : xj_FL own ix "ThreePhaseGroup$Replica" "checkpoints" "LThreePhaseGroup$Numbers;") (hr : r < 4) (kk : xn_X E G Q cs sl nx L (.ref (xj_ad G (16, r, 1)) :: st) v) : xn_X E G Q cs sl pc L (.ref (xj_ad G (11, r, 0)) :: st) v :=
  xj_get (x := 4) C a cf_R hl ⟨rfl, rfl, rfl⟩ (by decide) (xj_ok11 hr) rfl kk
theorem xn_g_R_viewChanges (C : xj_C E G cc own nL d q c0 s0 ret) {ix : Nat} {r : Nat} (a : xj_At cc pc (.getfield ix) 3 nx) (hl : xj_FL own ix "ThreePhaseGroup$Replica" "viewChanges" "[I") (hr : r < 4) (kk : xn_X E G Q cs sl nx L (.ref (xj_ad G (18, r, 0)) :: st) v) : xn_X E G Q cs sl pc L (.ref (xj_ad G (11, r, 0)) :: st) v :=
  xj_get (x := 5) C a cf_R hl ⟨rfl, rfl, rfl⟩ (by decide) (xj_ok11 hr) rfl kk
theorem xn_g_R_view (C : xj_C E G cc own nL d q c0 s0 ret) {ix : Nat} {r : Nat} (a : xj_At cc pc (.getfield ix) 3 nx) (hl : xj_FL own ix "ThreePhaseGroup$Replica" "view" "I") (hr : r < 4) (kk : xn_X E G Q cs sl nx L (.int (v.1 11 r 0 6) :: st) v) : xn_X E G Q cs sl pc L (.ref (xj_ad G (11, r, 0)) :: st) v :=
  xj_get (x := 6) C a cf_R hl ⟨rfl, rfl, rfl⟩ (by decide) (xj_ok11 hr) rfl kk
theorem xn_p_R_view (C : xj_C E G cc own nL d q c0 s0 ret) {ix : Nat} {r : Nat} {y : Int32} (a : xj_At cc pc (.putfield ix) 3 nx) (hl : xj_FL own ix "ThreePhaseGroup$Replica" "view" "I") (hr : r < 4) (kk : xn_X E G Q cs sl nx L st (xn_uI v 11 r 0 6 y)) : xn_X E G Q cs sl pc L (.int y :: .ref (xj_ad G (11, r, 0)) :: st) v :=
  xj_put (x := 6) (w2 := xn_W (xn_uI v 11 r 0 6 y)) C a cf_R hl ⟨rfl, rfl, rfl⟩ (by decide) (xj_ok11 hr) (Or.inl rfl) rfl rfl (xj_setI (w := xn_W v) rfl (by decide) rfl) rfl (xj_uI_oth (w := xn_W v)) kk
theorem xn_g_R_changing (C : xj_C E G cc own nL d q c0 s0 ret) {ix : Nat} {r : Nat} (a : xj_At cc pc (.getfield ix) 3 nx) (hl : xj_FL own ix "ThreePhaseGroup$Replica" "changing" "Z") (hr : r < 4) (kk : xn_X E G Q cs sl nx L (.int (v.1 11 r 0 7) :: st) v) : xn_X E G Q cs sl pc L (.ref (xj_ad G (11, r, 0)) :: st) v :=
  xj_get (x := 7) C a cf_R hl ⟨rfl, rfl, rfl⟩ (by decide) (xj_ok11 hr) rfl kk
theorem xn_p_R_changing (C : xj_C E G cc own nL d q c0 s0 ret) {ix : Nat} {r : Nat} {y : Int32} (a : xj_At cc pc (.putfield ix) 3 nx) (hl : xj_FL own ix "ThreePhaseGroup$Replica" "changing" "Z") (hr : r < 4) (hb : y = 0 ∨ y = 1) (kk : xn_X E G Q cs sl nx L st (xn_uI v 11 r 0 7 y)) : xn_X E G Q cs sl pc L (.int y :: .ref (xj_ad G (11, r, 0)) :: st) v :=
  xj_put (x := 7) (w2 := xn_W (xn_uI v 11 r 0 7 y)) C a cf_R hl ⟨rfl, rfl, rfl⟩ (by decide) (xj_ok11 hr) (Or.inl rfl) (xn_bool hb) (xn_boolf hb) (xj_setI (w := xn_W v) rfl (by decide) rfl) rfl (xj_uI_oth (w := xn_W v)) kk
theorem xn_g_R_stable (C : xj_C E G cc own nL d q c0 s0 ret) {ix : Nat} {r : Nat} (a : xj_At cc pc (.getfield ix) 3 nx) (hl : xj_FL own ix "ThreePhaseGroup$Replica" "stable" "I") (hr : r < 4) (kk : xn_X E G Q cs sl nx L (.int (v.1 11 r 0 8) :: st) v) : xn_X E G Q cs sl pc L (.ref (xj_ad G (11, r, 0)) :: st) v :=
  xj_get (x := 8) C a cf_R hl ⟨rfl, rfl, rfl⟩ (by decide) (xj_ok11 hr) rfl kk
theorem xn_p_R_stable (C : xj_C E G cc own nL d q c0 s0 ret) {ix : Nat} {r : Nat} {y : Int32} (a : xj_At cc pc (.putfield ix) 3 nx) (hl : xj_FL own ix "ThreePhaseGroup$Replica" "stable" "I") (hr : r < 4) (kk : xn_X E G Q cs sl nx L st (xn_uI v 11 r 0 8 y)) : xn_X E G Q cs sl pc L (.int y :: .ref (xj_ad G (11, r, 0)) :: st) v :=
  xj_put (x := 8) (w2 := xn_W (xn_uI v 11 r 0 8 y)) C a cf_R hl ⟨rfl, rfl, rfl⟩ (by decide) (xj_ok11 hr) (Or.inl rfl) rfl rfl (xj_setI (w := xn_W v) rfl (by decide) rfl) rfl (xj_uI_oth (w := xn_W v)) kk
theorem xn_g_R_executed (C : xj_C E G cc own nL d q c0 s0 ret) {ix : Nat} {r : Nat} (a : xj_At cc pc (.getfield ix) 3 nx) (hl : xj_FL own ix "ThreePhaseGroup$Replica" "executed" "I") (hr : r < 4) (kk : xn_X E G Q cs sl nx L (.int (v.1 11 r 0 9) :: st) v) : xn_X E G Q cs sl pc L (.ref (xj_ad G (11, r, 0)) :: st) v :=
  xj_get (x := 9) C a cf_R hl ⟨rfl, rfl, rfl⟩ (by decide) (xj_ok11 hr) rfl kk
theorem xn_p_R_executed (C : xj_C E G cc own nL d q c0 s0 ret) {ix : Nat} {r : Nat} {y : Int32} (a : xj_At cc pc (.putfield ix) 3 nx) (hl : xj_FL own ix "ThreePhaseGroup$Replica" "executed" "I") (hr : r < 4) (kk : xn_X E G Q cs sl nx L st (xn_uI v 11 r 0 9 y)) : xn_X E G Q cs sl pc L (.int y :: .ref (xj_ad G (11, r, 0)) :: st) v :=
  xj_put (x := 9) (w2 := xn_W (xn_uI v 11 r 0 9 y)) C a cf_R hl ⟨rfl, rfl, rfl⟩ (by decide) (xj_ok11 hr) (Or.inl rfl) rfl rfl (xj_setI (w := xn_W v) rfl (by decide) rfl) rfl (xj_uI_oth (w := xn_W v)) kk
theorem xn_g_R_state (C : xj_C E G cc own nL d q c0 s0 ret) {ix : Nat} {r : Nat} (a : xj_At cc pc (.getfield ix) 3 nx) (hl : xj_FL own ix "ThreePhaseGroup$Replica" "state" "J") (hr : r < 4) (kk : xn_X E G Q cs sl nx L (.long (v.2 11 r 0 10) :: st) v) : xn_X E G Q cs sl pc L (.ref (xj_ad G (11, r, 0)) :: st) v :=
  xj_get (x := 10) C a cf_R hl ⟨rfl, rfl, rfl⟩ (by decide) (xj_ok11 hr) rfl kk
theorem xn_p_R_state (C : xj_C E G cc own nL d q c0 s0 ret) {ix : Nat} {r : Nat} {y : Int64} (a : xj_At cc pc (.putfield ix) 3 nx) (hl : xj_FL own ix "ThreePhaseGroup$Replica" "state" "J") (hr : r < 4) (kk : xn_X E G Q cs sl nx L st (xn_uJ v 11 r 0 10 y)) : xn_X E G Q cs sl pc L (.long y :: .ref (xj_ad G (11, r, 0)) :: st) v :=
  xj_put (x := 10) (w2 := xn_W (xn_uJ v 11 r 0 10 y)) C a cf_R hl ⟨rfl, rfl, rfl⟩ (by decide) (xj_ok11 hr) (Or.inl rfl) rfl rfl (xj_setJ (w := xn_W v) rfl (by decide) rfl) rfl (xj_uJ_oth (w := xn_W v)) kk
theorem xn_g_R_timer (C : xj_C E G cc own nL d q c0 s0 ret) {ix : Nat} {r : Nat} (a : xj_At cc pc (.getfield ix) 3 nx) (hl : xj_FL own ix "ThreePhaseGroup$Replica" "timer" "I") (hr : r < 4) (kk : xn_X E G Q cs sl nx L (.int (v.1 11 r 0 11) :: st) v) : xn_X E G Q cs sl pc L (.ref (xj_ad G (11, r, 0)) :: st) v :=
  xj_get (x := 11) C a cf_R hl ⟨rfl, rfl, rfl⟩ (by decide) (xj_ok11 hr) rfl kk
theorem xn_p_R_timer (C : xj_C E G cc own nL d q c0 s0 ret) {ix : Nat} {r : Nat} {y : Int32} (a : xj_At cc pc (.putfield ix) 3 nx) (hl : xj_FL own ix "ThreePhaseGroup$Replica" "timer" "I") (hr : r < 4) (kk : xn_X E G Q cs sl nx L st (xn_uI v 11 r 0 11 y)) : xn_X E G Q cs sl pc L (.int y :: .ref (xj_ad G (11, r, 0)) :: st) v :=
  xj_put (x := 11) (w2 := xn_W (xn_uI v 11 r 0 11 y)) C a cf_R hl ⟨rfl, rfl, rfl⟩ (by decide) (xj_ok11 hr) (Or.inl rfl) rfl rfl (xj_setI (w := xn_W v) rfl (by decide) rfl) rfl (xj_uI_oth (w := xn_W v)) kk
theorem xn_g_R_span (C : xj_C E G cc own nL d q c0 s0 ret) {ix : Nat} {r : Nat} (a : xj_At cc pc (.getfield ix) 3 nx) (hl : xj_FL own ix "ThreePhaseGroup$Replica" "span" "I") (hr : r < 4) (kk : xn_X E G Q cs sl nx L (.int (v.1 11 r 0 12) :: st) v) : xn_X E G Q cs sl pc L (.ref (xj_ad G (11, r, 0)) :: st) v :=
  xj_get (x := 12) C a cf_R hl ⟨rfl, rfl, rfl⟩ (by decide) (xj_ok11 hr) rfl kk
theorem xn_p_R_span (C : xj_C E G cc own nL d q c0 s0 ret) {ix : Nat} {r : Nat} {y : Int32} (a : xj_At cc pc (.putfield ix) 3 nx) (hl : xj_FL own ix "ThreePhaseGroup$Replica" "span" "I") (hr : r < 4) (kk : xn_X E G Q cs sl nx L st (xn_uI v 11 r 0 12 y)) : xn_X E G Q cs sl pc L (.int y :: .ref (xj_ad G (11, r, 0)) :: st) v :=
  xj_put (x := 12) (w2 := xn_W (xn_uI v 11 r 0 12 y)) C a cf_R hl ⟨rfl, rfl, rfl⟩ (by decide) (xj_ok11 hr) (Or.inl rfl) rfl rfl (xj_setI (w := xn_W v) rfl (by decide) rfl) rfl (xj_uI_oth (w := xn_W v)) kk
theorem xn_g_R_renewing (C : xj_C E G cc own nL d q c0 s0 ret) {ix : Nat} {r : Nat} (a : xj_At cc pc (.getfield ix) 3 nx) (hl : xj_FL own ix "ThreePhaseGroup$Replica" "renewing" "Z") (hr : r < 4) (kk : xn_X E G Q cs sl nx L (.int (v.1 11 r 0 13) :: st) v) : xn_X E G Q cs sl pc L (.ref (xj_ad G (11, r, 0)) :: st) v :=
  xj_get (x := 13) C a cf_R hl ⟨rfl, rfl, rfl⟩ (by decide) (xj_ok11 hr) rfl kk
theorem xn_p_R_renewing (C : xj_C E G cc own nL d q c0 s0 ret) {ix : Nat} {r : Nat} {y : Int32} (a : xj_At cc pc (.putfield ix) 3 nx) (hl : xj_FL own ix "ThreePhaseGroup$Replica" "renewing" "Z") (hr : r < 4) (hb : y = 0 ∨ y = 1) (kk : xn_X E G Q cs sl nx L st (xn_uI v 11 r 0 13 y)) : xn_X E G Q cs sl pc L (.int y :: .ref (xj_ad G (11, r, 0)) :: st) v :=
  xj_put (x := 13) (w2 := xn_W (xn_uI v 11 r 0 13 y)) C a cf_R hl ⟨rfl, rfl, rfl⟩ (by decide) (xj_ok11 hr) (Or.inl rfl) (xn_bool hb) (xn_boolf hb) (xj_setI (w := xn_W v) rfl (by decide) rfl) rfl (xj_uI_oth (w := xn_W v)) kk
theorem xn_g_S_prepares (C : xj_C E G cc own nL d q c0 s0 ret) {ix : Nat} {r : Nat} {i : Nat} (a : xj_At cc pc (.getfield ix) 3 nx) (hl : xj_FL own ix "ThreePhaseGroup$Slot" "prepares" "[J") (hr : r < 4) (hi : i < 4) (kk : xn_X E G Q cs sl nx L (.ref (xj_ad G (14, r, i)) :: st) v) : xn_X E G Q cs sl pc L (.ref (xj_ad G (13, r, i)) :: st) v :=
  xj_get (x := 0) C a cf_S hl ⟨rfl, rfl, rfl⟩ (by decide) (xj_ok13 hr hi) rfl kk
theorem xn_g_S_commits (C : xj_C E G cc own nL d q c0 s0 ret) {ix : Nat} {r : Nat} {i : Nat} (a : xj_At cc pc (.getfield ix) 3 nx) (hl : xj_FL own ix "ThreePhaseGroup$Slot" "commits" "[J") (hr : r < 4) (hi : i < 4) (kk : xn_X E G Q cs sl nx L (.ref (xj_ad G (15, r, i)) :: st) v) : xn_X E G Q cs sl pc L (.ref (xj_ad G (13, r, i)) :: st) v :=
  xj_get (x := 1) C a cf_S hl ⟨rfl, rfl, rfl⟩ (by decide) (xj_ok13 hr hi) rfl kk
theorem xn_g_S_accepted (C : xj_C E G cc own nL d q c0 s0 ret) {ix : Nat} {r : Nat} {i : Nat} (a : xj_At cc pc (.getfield ix) 3 nx) (hl : xj_FL own ix "ThreePhaseGroup$Slot" "accepted" "I") (hr : r < 4) (hi : i < 4) (kk : xn_X E G Q cs sl nx L (.int (v.1 13 r i 2) :: st) v) : xn_X E G Q cs sl pc L (.ref (xj_ad G (13, r, i)) :: st) v :=
  xj_get (x := 2) C a cf_S hl ⟨rfl, rfl, rfl⟩ (by decide) (xj_ok13 hr hi) rfl kk
theorem xn_p_S_accepted (C : xj_C E G cc own nL d q c0 s0 ret) {ix : Nat} {r : Nat} {i : Nat} {y : Int32} (a : xj_At cc pc (.putfield ix) 3 nx) (hl : xj_FL own ix "ThreePhaseGroup$Slot" "accepted" "I") (hr : r < 4) (hi : i < 4) (kk : xn_X E G Q cs sl nx L st (xn_uI v 13 r i 2 y)) : xn_X E G Q cs sl pc L (.int y :: .ref (xj_ad G (13, r, i)) :: st) v :=
  xj_put (x := 2) (w2 := xn_W (xn_uI v 13 r i 2 y)) C a cf_S hl ⟨rfl, rfl, rfl⟩ (by decide) (xj_ok13 hr hi) (Or.inl rfl) rfl rfl (xj_setI (w := xn_W v) rfl (by decide) rfl) rfl (xj_uI_oth (w := xn_W v)) kk
theorem xn_g_S_decided (C : xj_C E G cc own nL d q c0 s0 ret) {ix : Nat} {r : Nat} {i : Nat} (a : xj_At cc pc (.getfield ix) 3 nx) (hl : xj_FL own ix "ThreePhaseGroup$Slot" "decided" "I") (hr : r < 4) (hi : i < 4) (kk : xn_X E G Q cs sl nx L (.int (v.1 13 r i 3) :: st) v) : xn_X E G Q cs sl pc L (.ref (xj_ad G (13, r, i)) :: st) v :=
  xj_get (x := 3) C a cf_S hl ⟨rfl, rfl, rfl⟩ (by decide) (xj_ok13 hr hi) rfl kk
theorem xn_p_S_decided (C : xj_C E G cc own nL d q c0 s0 ret) {ix : Nat} {r : Nat} {i : Nat} {y : Int32} (a : xj_At cc pc (.putfield ix) 3 nx) (hl : xj_FL own ix "ThreePhaseGroup$Slot" "decided" "I") (hr : r < 4) (hi : i < 4) (kk : xn_X E G Q cs sl nx L st (xn_uI v 13 r i 3 y)) : xn_X E G Q cs sl pc L (.int y :: .ref (xj_ad G (13, r, i)) :: st) v :=
  xj_put (x := 3) (w2 := xn_W (xn_uI v 13 r i 3 y)) C a cf_S hl ⟨rfl, rfl, rfl⟩ (by decide) (xj_ok13 hr hi) (Or.inl rfl) rfl rfl (xj_setI (w := xn_W v) rfl (by decide) rfl) rfl (xj_uI_oth (w := xn_W v)) kk
theorem xn_g_S_claim (C : xj_C E G cc own nL d q c0 s0 ret) {ix : Nat} {r : Nat} {i : Nat} (a : xj_At cc pc (.getfield ix) 3 nx) (hl : xj_FL own ix "ThreePhaseGroup$Slot" "claim" "I") (hr : r < 4) (hi : i < 4) (kk : xn_X E G Q cs sl nx L (.int (v.1 13 r i 4) :: st) v) : xn_X E G Q cs sl pc L (.ref (xj_ad G (13, r, i)) :: st) v :=
  xj_get (x := 4) C a cf_S hl ⟨rfl, rfl, rfl⟩ (by decide) (xj_ok13 hr hi) rfl kk
theorem xn_p_S_claim (C : xj_C E G cc own nL d q c0 s0 ret) {ix : Nat} {r : Nat} {i : Nat} {y : Int32} (a : xj_At cc pc (.putfield ix) 3 nx) (hl : xj_FL own ix "ThreePhaseGroup$Slot" "claim" "I") (hr : r < 4) (hi : i < 4) (kk : xn_X E G Q cs sl nx L st (xn_uI v 13 r i 4 y)) : xn_X E G Q cs sl pc L (.int y :: .ref (xj_ad G (13, r, i)) :: st) v :=
  xj_put (x := 4) (w2 := xn_W (xn_uI v 13 r i 4 y)) C a cf_S hl ⟨rfl, rfl, rfl⟩ (by decide) (xj_ok13 hr hi) (Or.inl rfl) rfl rfl (xj_setI (w := xn_W v) rfl (by decide) rfl) rfl (xj_uI_oth (w := xn_W v)) kk
theorem xn_g_N_at (C : xj_C E G cc own nL d q c0 s0 ret) {ix : Nat} {r : Nat} {i : Nat} (a : xj_At cc pc (.getfield ix) 3 nx) (hl : xj_FL own ix "ThreePhaseGroup$Numbers" "at" "[I") (hr : r < 4) (hi : i < 2) (kk : xn_X E G Q cs sl nx L (.ref (xj_ad G (17, r, i)) :: st) v) : xn_X E G Q cs sl pc L (.ref (xj_ad G (16, r, i)) :: st) v :=
  xj_get (x := 0) C a cf_N hl ⟨rfl, rfl, rfl⟩ (by decide) (xj_ok16 hr hi) rfl kk
theorem xn_g_N_size (C : xj_C E G cc own nL d q c0 s0 ret) {ix : Nat} {r : Nat} {i : Nat} (a : xj_At cc pc (.getfield ix) 3 nx) (hl : xj_FL own ix "ThreePhaseGroup$Numbers" "size" "I") (hr : r < 4) (hi : i < 2) (kk : xn_X E G Q cs sl nx L (.int (v.1 16 r i 1) :: st) v) : xn_X E G Q cs sl pc L (.ref (xj_ad G (16, r, i)) :: st) v :=
  xj_get (x := 1) C a cf_N hl ⟨rfl, rfl, rfl⟩ (by decide) (xj_ok16 hr hi) rfl kk
theorem xn_p_N_size (C : xj_C E G cc own nL d q c0 s0 ret) {ix : Nat} {r : Nat} {i : Nat} {y : Int32} (a : xj_At cc pc (.putfield ix) 3 nx) (hl : xj_FL own ix "ThreePhaseGroup$Numbers" "size" "I") (hr : r < 4) (hi : i < 2) (kk : xn_X E G Q cs sl nx L st (xn_uI v 16 r i 1 y)) : xn_X E G Q cs sl pc L (.int y :: .ref (xj_ad G (16, r, i)) :: st) v :=
  xj_put (x := 1) (w2 := xn_W (xn_uI v 16 r i 1 y)) C a cf_N hl ⟨rfl, rfl, rfl⟩ (by decide) (xj_ok16 hr hi) (Or.inl rfl) rfl rfl (xj_setI (w := xn_W v) rfl (by decide) rfl) rfl (xj_uI_oth (w := xn_W v)) kk
theorem xn_g_C_self (C : xj_C E G cc own nL d q c0 s0 ret) {ix : Nat} {r : Nat} (a : xj_At cc pc (.getfield ix) 3 nx) (hl : xj_FL own ix "ThreePhaseGroup$Client" "self" "I") (hr : r < 2) (kk : xn_X E G Q cs sl nx L (.int (v.1 19 r 0 0) :: st) v) : xn_X E G Q cs sl pc L (.ref (xj_ad G (19, r, 0)) :: st) v :=
  xj_get (x := 0) C a cf_C hl ⟨rfl, rfl, rfl⟩ (by decide) (xj_ok19 hr) rfl kk
theorem xn_g_C_board (C : xj_C E G cc own nL d q c0 s0 ret) {ix : Nat} {r : Nat} (a : xj_At cc pc (.getfield ix) 3 nx) (hl : xj_FL own ix "ThreePhaseGroup$Client" "board" "LThreePhaseGroup$Board;") (hr : r < 2) (kk : xn_X E G Q cs sl nx L (.ref (xj_ad G (1, 0, 0)) :: st) v) : xn_X E G Q cs sl pc L (.ref (xj_ad G (19, r, 0)) :: st) v :=
  xj_get (x := 1) C a cf_C hl ⟨rfl, rfl, rfl⟩ (by decide) (xj_ok19 hr) rfl kk
theorem xn_g_C_replies (C : xj_C E G cc own nL d q c0 s0 ret) {ix : Nat} {r : Nat} (a : xj_At cc pc (.getfield ix) 3 nx) (hl : xj_FL own ix "ThreePhaseGroup$Client" "replies" "[J") (hr : r < 2) (kk : xn_X E G Q cs sl nx L (.ref (xj_ad G (20, r, 0)) :: st) v) : xn_X E G Q cs sl pc L (.ref (xj_ad G (19, r, 0)) :: st) v :=
  xj_get (x := 2) C a cf_C hl ⟨rfl, rfl, rfl⟩ (by decide) (xj_ok19 hr) rfl kk
theorem xn_g_C_submitted (C : xj_C E G cc own nL d q c0 s0 ret) {ix : Nat} {r : Nat} (a : xj_At cc pc (.getfield ix) 3 nx) (hl : xj_FL own ix "ThreePhaseGroup$Client" "submitted" "I") (hr : r < 2) (kk : xn_X E G Q cs sl nx L (.int (v.1 19 r 0 3) :: st) v) : xn_X E G Q cs sl pc L (.ref (xj_ad G (19, r, 0)) :: st) v :=
  xj_get (x := 3) C a cf_C hl ⟨rfl, rfl, rfl⟩ (by decide) (xj_ok19 hr) rfl kk
theorem xn_p_C_submitted (C : xj_C E G cc own nL d q c0 s0 ret) {ix : Nat} {r : Nat} {y : Int32} (a : xj_At cc pc (.putfield ix) 3 nx) (hl : xj_FL own ix "ThreePhaseGroup$Client" "submitted" "I") (hr : r < 2) (kk : xn_X E G Q cs sl nx L st (xn_uI v 19 r 0 3 y)) : xn_X E G Q cs sl pc L (.int y :: .ref (xj_ad G (19, r, 0)) :: st) v :=
  xj_put (x := 3) (w2 := xn_W (xn_uI v 19 r 0 3 y)) C a cf_C hl ⟨rfl, rfl, rfl⟩ (by decide) (xj_ok19 hr) (Or.inl rfl) rfl rfl (xj_setI (w := xn_W v) rfl (by decide) rfl) rfl (xj_uI_oth (w := xn_W v)) kk
theorem xn_g_C_outstanding (C : xj_C E G cc own nL d q c0 s0 ret) {ix : Nat} {r : Nat} (a : xj_At cc pc (.getfield ix) 3 nx) (hl : xj_FL own ix "ThreePhaseGroup$Client" "outstanding" "I") (hr : r < 2) (kk : xn_X E G Q cs sl nx L (.int (v.1 19 r 0 4) :: st) v) : xn_X E G Q cs sl pc L (.ref (xj_ad G (19, r, 0)) :: st) v :=
  xj_get (x := 4) C a cf_C hl ⟨rfl, rfl, rfl⟩ (by decide) (xj_ok19 hr) rfl kk
theorem xn_p_C_outstanding (C : xj_C E G cc own nL d q c0 s0 ret) {ix : Nat} {r : Nat} {y : Int32} (a : xj_At cc pc (.putfield ix) 3 nx) (hl : xj_FL own ix "ThreePhaseGroup$Client" "outstanding" "I") (hr : r < 2) (kk : xn_X E G Q cs sl nx L st (xn_uI v 19 r 0 4 y)) : xn_X E G Q cs sl pc L (.int y :: .ref (xj_ad G (19, r, 0)) :: st) v :=
  xj_put (x := 4) (w2 := xn_W (xn_uI v 19 r 0 4 y)) C a cf_C hl ⟨rfl, rfl, rfl⟩ (by decide) (xj_ok19 hr) (Or.inl rfl) rfl rfl (xj_setI (w := xn_W v) rfl (by decide) rfl) rfl (xj_uI_oth (w := xn_W v)) kk
theorem xn_g_C_latestAnswer (C : xj_C E G cc own nL d q c0 s0 ret) {ix : Nat} {r : Nat} (a : xj_At cc pc (.getfield ix) 3 nx) (hl : xj_FL own ix "ThreePhaseGroup$Client" "latestAnswer" "I") (hr : r < 2) (kk : xn_X E G Q cs sl nx L (.int (v.1 19 r 0 5) :: st) v) : xn_X E G Q cs sl pc L (.ref (xj_ad G (19, r, 0)) :: st) v :=
  xj_get (x := 5) C a cf_C hl ⟨rfl, rfl, rfl⟩ (by decide) (xj_ok19 hr) rfl kk
theorem xn_p_C_latestAnswer (C : xj_C E G cc own nL d q c0 s0 ret) {ix : Nat} {r : Nat} {y : Int32} (a : xj_At cc pc (.putfield ix) 3 nx) (hl : xj_FL own ix "ThreePhaseGroup$Client" "latestAnswer" "I") (hr : r < 2) (kk : xn_X E G Q cs sl nx L st (xn_uI v 19 r 0 5 y)) : xn_X E G Q cs sl pc L (.int y :: .ref (xj_ad G (19, r, 0)) :: st) v :=
  xj_put (x := 5) (w2 := xn_W (xn_uI v 19 r 0 5 y)) C a cf_C hl ⟨rfl, rfl, rfl⟩ (by decide) (xj_ok19 hr) (Or.inl rfl) rfl rfl (xj_setI (w := xn_W v) rfl (by decide) rfl) rfl (xj_uI_oth (w := xn_W v)) kk
theorem xn_g_T_count (C : xj_C E G cc own nL d q c0 s0 ret) {ix : Nat} (a : xj_At cc pc (.getfield ix) 3 nx) (hl : xj_FL own ix "ThreePhaseGroupModel" "count" "I") (kk : xn_X E G Q cs sl nx L (.int (v.1 21 0 0 0) :: st) v) : xn_X E G Q cs sl pc L (.ref (xj_ad G (21, 0, 0)) :: st) v :=
  xj_get (x := 0) C a cf_T hl ⟨rfl, rfl, rfl⟩ (by decide) xj_ok21 rfl kk
theorem xn_p_T_count (C : xj_C E G cc own nL d q c0 s0 ret) {ix : Nat} {y : Int32} (a : xj_At cc pc (.putfield ix) 3 nx) (hl : xj_FL own ix "ThreePhaseGroupModel" "count" "I") (kk : xn_X E G Q cs sl nx L st (xn_uI v 21 0 0 0 y)) : xn_X E G Q cs sl pc L (.int y :: .ref (xj_ad G (21, 0, 0)) :: st) v :=
  xj_put (x := 0) (w2 := xn_W (xn_uI v 21 0 0 0 y)) C a cf_T hl ⟨rfl, rfl, rfl⟩ (by decide) xj_ok21 (Or.inl rfl) rfl rfl (xj_setI (w := xn_W v) rfl (by decide) rfl) rfl (xj_uI_oth (w := xn_W v)) kk
theorem xn_g_T_kind (C : xj_C E G cc own nL d q c0 s0 ret) {ix : Nat} (a : xj_At cc pc (.getfield ix) 3 nx) (hl : xj_FL own ix "ThreePhaseGroupModel" "kind" "[I") (kk : xn_X E G Q cs sl nx L (.ref (xj_ad G (22, 0, 0)) :: st) v) : xn_X E G Q cs sl pc L (.ref (xj_ad G (21, 0, 0)) :: st) v :=
  xj_get (x := 1) C a cf_T hl ⟨rfl, rfl, rfl⟩ (by decide) xj_ok21 rfl kk
theorem xn_g_T_from (C : xj_C E G cc own nL d q c0 s0 ret) {ix : Nat} (a : xj_At cc pc (.getfield ix) 3 nx) (hl : xj_FL own ix "ThreePhaseGroupModel" "from" "[I") (kk : xn_X E G Q cs sl nx L (.ref (xj_ad G (23, 0, 0)) :: st) v) : xn_X E G Q cs sl pc L (.ref (xj_ad G (21, 0, 0)) :: st) v :=
  xj_get (x := 2) C a cf_T hl ⟨rfl, rfl, rfl⟩ (by decide) xj_ok21 rfl kk
theorem xn_g_T_a (C : xj_C E G cc own nL d q c0 s0 ret) {ix : Nat} (a : xj_At cc pc (.getfield ix) 3 nx) (hl : xj_FL own ix "ThreePhaseGroupModel" "a" "[I") (kk : xn_X E G Q cs sl nx L (.ref (xj_ad G (24, 0, 0)) :: st) v) : xn_X E G Q cs sl pc L (.ref (xj_ad G (21, 0, 0)) :: st) v :=
  xj_get (x := 3) C a cf_T hl ⟨rfl, rfl, rfl⟩ (by decide) xj_ok21 rfl kk
theorem xn_g_T_b (C : xj_C E G cc own nL d q c0 s0 ret) {ix : Nat} (a : xj_At cc pc (.getfield ix) 3 nx) (hl : xj_FL own ix "ThreePhaseGroupModel" "b" "[J") (kk : xn_X E G Q cs sl nx L (.ref (xj_ad G (25, 0, 0)) :: st) v) : xn_X E G Q cs sl pc L (.ref (xj_ad G (21, 0, 0)) :: st) v :=
  xj_get (x := 4) C a cf_T hl ⟨rfl, rfl, rfl⟩ (by decide) xj_ok21 rfl kk
theorem xn_g_T_c (C : xj_C E G cc own nL d q c0 s0 ret) {ix : Nat} (a : xj_At cc pc (.getfield ix) 3 nx) (hl : xj_FL own ix "ThreePhaseGroupModel" "c" "[I") (kk : xn_X E G Q cs sl nx L (.ref (xj_ad G (26, 0, 0)) :: st) v) : xn_X E G Q cs sl pc L (.ref (xj_ad G (21, 0, 0)) :: st) v :=
  xj_get (x := 5) C a cf_T hl ⟨rfl, rfl, rfl⟩ (by decide) xj_ok21 rfl kk
theorem xn_g_T_forged (C : xj_C E G cc own nL d q c0 s0 ret) {ix : Nat} (a : xj_At cc pc (.getfield ix) 3 nx) (hl : xj_FL own ix "ThreePhaseGroupModel" "forged" "[Z") (kk : xn_X E G Q cs sl nx L (.ref (xj_ad G (27, 0, 0)) :: st) v) : xn_X E G Q cs sl pc L (.ref (xj_ad G (21, 0, 0)) :: st) v :=
  xj_get (x := 6) C a cf_T hl ⟨rfl, rfl, rfl⟩ (by decide) xj_ok21 rfl kk
theorem xn_g_T_noted (C : xj_C E G cc own nL d q c0 s0 ret) {ix : Nat} (a : xj_At cc pc (.getfield ix) 3 nx) (hl : xj_FL own ix "ThreePhaseGroupModel" "noted" "[Z") (kk : xn_X E G Q cs sl nx L (.ref (xj_ad G (28, 0, 0)) :: st) v) : xn_X E G Q cs sl pc L (.ref (xj_ad G (21, 0, 0)) :: st) v :=
  xj_get (x := 7) C a cf_T hl ⟨rfl, rfl, rfl⟩ (by decide) xj_ok21 rfl kk
theorem xn_g_T_known (C : xj_C E G cc own nL d q c0 s0 ret) {ix : Nat} (a : xj_At cc pc (.getfield ix) 3 nx) (hl : xj_FL own ix "ThreePhaseGroupModel" "known" "[Z") (kk : xn_X E G Q cs sl nx L (.ref (xj_ad G (29, 0, 0)) :: st) v) : xn_X E G Q cs sl pc L (.ref (xj_ad G (21, 0, 0)) :: st) v :=
  xj_get (x := 8) C a cf_T hl ⟨rfl, rfl, rfl⟩ (by decide) xj_ok21 rfl kk
theorem xn_g_T_view (C : xj_C E G cc own nL d q c0 s0 ret) {ix : Nat} (a : xj_At cc pc (.getfield ix) 3 nx) (hl : xj_FL own ix "ThreePhaseGroupModel" "view" "[I") (kk : xn_X E G Q cs sl nx L (.ref (xj_ad G (30, 0, 0)) :: st) v) : xn_X E G Q cs sl pc L (.ref (xj_ad G (21, 0, 0)) :: st) v :=
  xj_get (x := 9) C a cf_T hl ⟨rfl, rfl, rfl⟩ (by decide) xj_ok21 rfl kk
theorem xn_g_T_changing (C : xj_C E G cc own nL d q c0 s0 ret) {ix : Nat} (a : xj_At cc pc (.getfield ix) 3 nx) (hl : xj_FL own ix "ThreePhaseGroupModel" "changing" "[Z") (kk : xn_X E G Q cs sl nx L (.ref (xj_ad G (31, 0, 0)) :: st) v) : xn_X E G Q cs sl pc L (.ref (xj_ad G (21, 0, 0)) :: st) v :=
  xj_get (x := 10) C a cf_T hl ⟨rfl, rfl, rfl⟩ (by decide) xj_ok21 rfl kk
theorem xn_g_T_h (C : xj_C E G cc own nL d q c0 s0 ret) {ix : Nat} (a : xj_At cc pc (.getfield ix) 3 nx) (hl : xj_FL own ix "ThreePhaseGroupModel" "h" "[I") (kk : xn_X E G Q cs sl nx L (.ref (xj_ad G (32, 0, 0)) :: st) v) : xn_X E G Q cs sl pc L (.ref (xj_ad G (21, 0, 0)) :: st) v :=
  xj_get (x := 11) C a cf_T hl ⟨rfl, rfl, rfl⟩ (by decide) xj_ok21 rfl kk
theorem xn_g_T_e (C : xj_C E G cc own nL d q c0 s0 ret) {ix : Nat} (a : xj_At cc pc (.getfield ix) 3 nx) (hl : xj_FL own ix "ThreePhaseGroupModel" "e" "[I") (kk : xn_X E G Q cs sl nx L (.ref (xj_ad G (33, 0, 0)) :: st) v) : xn_X E G Q cs sl pc L (.ref (xj_ad G (21, 0, 0)) :: st) v :=
  xj_get (x := 12) C a cf_T hl ⟨rfl, rfl, rfl⟩ (by decide) xj_ok21 rfl kk
theorem xn_g_T_state (C : xj_C E G cc own nL d q c0 s0 ret) {ix : Nat} (a : xj_At cc pc (.getfield ix) 3 nx) (hl : xj_FL own ix "ThreePhaseGroupModel" "state" "[J") (kk : xn_X E G Q cs sl nx L (.ref (xj_ad G (34, 0, 0)) :: st) v) : xn_X E G Q cs sl pc L (.ref (xj_ad G (21, 0, 0)) :: st) v :=
  xj_get (x := 13) C a cf_T hl ⟨rfl, rfl, rfl⟩ (by decide) xj_ok21 rfl kk
theorem xn_g_T_span (C : xj_C E G cc own nL d q c0 s0 ret) {ix : Nat} (a : xj_At cc pc (.getfield ix) 3 nx) (hl : xj_FL own ix "ThreePhaseGroupModel" "span" "[I") (kk : xn_X E G Q cs sl nx L (.ref (xj_ad G (35, 0, 0)) :: st) v) : xn_X E G Q cs sl pc L (.ref (xj_ad G (21, 0, 0)) :: st) v :=
  xj_get (x := 14) C a cf_T hl ⟨rfl, rfl, rfl⟩ (by decide) xj_ok21 rfl kk
theorem xn_g_T_timer (C : xj_C E G cc own nL d q c0 s0 ret) {ix : Nat} (a : xj_At cc pc (.getfield ix) 3 nx) (hl : xj_FL own ix "ThreePhaseGroupModel" "timer" "[I") (kk : xn_X E G Q cs sl nx L (.ref (xj_ad G (36, 0, 0)) :: st) v) : xn_X E G Q cs sl pc L (.ref (xj_ad G (21, 0, 0)) :: st) v :=
  xj_get (x := 15) C a cf_T hl ⟨rfl, rfl, rfl⟩ (by decide) xj_ok21 rfl kk
theorem xn_g_T_accepted (C : xj_C E G cc own nL d q c0 s0 ret) {ix : Nat} (a : xj_At cc pc (.getfield ix) 3 nx) (hl : xj_FL own ix "ThreePhaseGroupModel" "accepted" "[I") (kk : xn_X E G Q cs sl nx L (.ref (xj_ad G (37, 0, 0)) :: st) v) : xn_X E G Q cs sl pc L (.ref (xj_ad G (21, 0, 0)) :: st) v :=
  xj_get (x := 16) C a cf_T hl ⟨rfl, rfl, rfl⟩ (by decide) xj_ok21 rfl kk
theorem xn_g_T_decided (C : xj_C E G cc own nL d q c0 s0 ret) {ix : Nat} (a : xj_At cc pc (.getfield ix) 3 nx) (hl : xj_FL own ix "ThreePhaseGroupModel" "decided" "[I") (kk : xn_X E G Q cs sl nx L (.ref (xj_ad G (38, 0, 0)) :: st) v) : xn_X E G Q cs sl pc L (.ref (xj_ad G (21, 0, 0)) :: st) v :=
  xj_get (x := 17) C a cf_T hl ⟨rfl, rfl, rfl⟩ (by decide) xj_ok21 rfl kk
theorem xn_g_T_certified (C : xj_C E G cc own nL d q c0 s0 ret) {ix : Nat} (a : xj_At cc pc (.getfield ix) 3 nx) (hl : xj_FL own ix "ThreePhaseGroupModel" "certified" "[I") (kk : xn_X E G Q cs sl nx L (.ref (xj_ad G (39, 0, 0)) :: st) v) : xn_X E G Q cs sl pc L (.ref (xj_ad G (21, 0, 0)) :: st) v :=
  xj_get (x := 18) C a cf_T hl ⟨rfl, rfl, rfl⟩ (by decide) xj_ok21 rfl kk
theorem xn_g_T_certView (C : xj_C E G cc own nL d q c0 s0 ret) {ix : Nat} (a : xj_At cc pc (.getfield ix) 3 nx) (hl : xj_FL own ix "ThreePhaseGroupModel" "certView" "[I") (kk : xn_X E G Q cs sl nx L (.ref (xj_ad G (40, 0, 0)) :: st) v) : xn_X E G Q cs sl pc L (.ref (xj_ad G (21, 0, 0)) :: st) v :=
  xj_get (x := 19) C a cf_T hl ⟨rfl, rfl, rfl⟩ (by decide) xj_ok21 rfl kk
theorem xn_g_T_faulty (C : xj_C E G cc own nL d q c0 s0 ret) {ix : Nat} (a : xj_At cc pc (.getfield ix) 3 nx) (hl : xj_FL own ix "ThreePhaseGroupModel" "faulty" "I") (kk : xn_X E G Q cs sl nx L (.int (v.1 21 0 0 20) :: st) v) : xn_X E G Q cs sl pc L (.ref (xj_ad G (21, 0, 0)) :: st) v :=
  xj_get (x := 20) C a cf_T hl ⟨rfl, rfl, rfl⟩ (by decide) xj_ok21 rfl kk
theorem xn_p_T_faulty (C : xj_C E G cc own nL d q c0 s0 ret) {ix : Nat} {y : Int32} (a : xj_At cc pc (.putfield ix) 3 nx) (hl : xj_FL own ix "ThreePhaseGroupModel" "faulty" "I") (kk : xn_X E G Q cs sl nx L st (xn_uI v 21 0 0 20 y)) : xn_X E G Q cs sl pc L (.int y :: .ref (xj_ad G (21, 0, 0)) :: st) v :=
  xj_put (x := 20) (w2 := xn_W (xn_uI v 21 0 0 20 y)) C a cf_T hl ⟨rfl, rfl, rfl⟩ (by decide) xj_ok21 (Or.inl rfl) rfl rfl (xj_setI (w := xn_W v) rfl (by decide) rfl) rfl (xj_uI_oth (w := xn_W v)) kk
theorem xn_g_T_afresh (C : xj_C E G cc own nL d q c0 s0 ret) {ix : Nat} (a : xj_At cc pc (.getfield ix) 3 nx) (hl : xj_FL own ix "ThreePhaseGroupModel" "afresh" "Z") (kk : xn_X E G Q cs sl nx L (.int (v.1 21 0 0 21) :: st) v) : xn_X E G Q cs sl pc L (.ref (xj_ad G (21, 0, 0)) :: st) v :=
  xj_get (x := 21) C a cf_T hl ⟨rfl, rfl, rfl⟩ (by decide) xj_ok21 rfl kk
theorem xn_p_T_afresh (C : xj_C E G cc own nL d q c0 s0 ret) {ix : Nat} {y : Int32} (a : xj_At cc pc (.putfield ix) 3 nx) (hl : xj_FL own ix "ThreePhaseGroupModel" "afresh" "Z") (hb : y = 0 ∨ y = 1) (kk : xn_X E G Q cs sl nx L st (xn_uI v 21 0 0 21 y)) : xn_X E G Q cs sl pc L (.int y :: .ref (xj_ad G (21, 0, 0)) :: st) v :=
  xj_put (x := 21) (w2 := xn_W (xn_uI v 21 0 0 21 y)) C a cf_T hl ⟨rfl, rfl, rfl⟩ (by decide) xj_ok21 (Or.inl rfl) (xn_bool hb) (xn_boolf hb) (xj_setI (w := xn_W v) rfl (by decide) rfl) rfl (xj_uI_oth (w := xn_W v)) kk
theorem xn_g_T_stamp (C : xj_C E G cc own nL d q c0 s0 ret) {ix : Nat} (a : xj_At cc pc (.getfield ix) 3 nx) (hl : xj_FL own ix "ThreePhaseGroupModel" "stamp" "[I") (kk : xn_X E G Q cs sl nx L (.ref (xj_ad G (41, 0, 0)) :: st) v) : xn_X E G Q cs sl pc L (.ref (xj_ad G (21, 0, 0)) :: st) v :=
  xj_get (x := 22) C a cf_T hl ⟨rfl, rfl, rfl⟩ (by decide) xj_ok21 rfl kk
theorem xn_g_T_open (C : xj_C E G cc own nL d q c0 s0 ret) {ix : Nat} (a : xj_At cc pc (.getfield ix) 3 nx) (hl : xj_FL own ix "ThreePhaseGroupModel" "open" "[I") (kk : xn_X E G Q cs sl nx L (.ref (xj_ad G (42, 0, 0)) :: st) v) : xn_X E G Q cs sl pc L (.ref (xj_ad G (21, 0, 0)) :: st) v :=
  xj_get (x := 23) C a cf_T hl ⟨rfl, rfl, rfl⟩ (by decide) xj_ok21 rfl kk
theorem xn_g_T_reply (C : xj_C E G cc own nL d q c0 s0 ret) {ix : Nat} (a : xj_At cc pc (.getfield ix) 3 nx) (hl : xj_FL own ix "ThreePhaseGroupModel" "reply" "[I") (kk : xn_X E G Q cs sl nx L (.ref (xj_ad G (43, 0, 0)) :: st) v) : xn_X E G Q cs sl pc L (.ref (xj_ad G (21, 0, 0)) :: st) v :=
  xj_get (x := 24) C a cf_T hl ⟨rfl, rfl, rfl⟩ (by decide) xj_ok21 rfl kk
theorem xn_g_T_taken (C : xj_C E G cc own nL d q c0 s0 ret) {ix : Nat} (a : xj_At cc pc (.getfield ix) 3 nx) (hl : xj_FL own ix "ThreePhaseGroupModel" "taken" "[Z") (kk : xn_X E G Q cs sl nx L (.ref (xj_ad G (44, 0, 0)) :: st) v) : xn_X E G Q cs sl pc L (.ref (xj_ad G (21, 0, 0)) :: st) v :=
  xj_get (x := 25) C a cf_T hl ⟨rfl, rfl, rfl⟩ (by decide) xj_ok21 rfl kk
theorem xn_g_T_mark (C : xj_C E G cc own nL d q c0 s0 ret) {ix : Nat} (a : xj_At cc pc (.getfield ix) 3 nx) (hl : xj_FL own ix "ThreePhaseGroupModel" "mark" "[I") (kk : xn_X E G Q cs sl nx L (.ref (xj_ad G (45, 0, 0)) :: st) v) : xn_X E G Q cs sl pc L (.ref (xj_ad G (21, 0, 0)) :: st) v :=
  xj_get (x := 26) C a cf_T hl ⟨rfl, rfl, rfl⟩ (by decide) xj_ok21 rfl kk
theorem xn_ld_2 (C : xj_C E G cc own nL d q c0 s0 ret) {j : Nat} (a : xj_At cc pc .iaload 1 nx) (hj : j < 256) (kk : xn_X E G Q cs sl nx L (.int (v.1 2 0 0 j) :: st) v) : xn_X E G Q cs sl pc L (.int (nI j) :: .ref (xj_ad G (2, 0, 0)) :: st) v := by
  refine xj_iald C a rfl xj_ok2 (vp_in_nI hj (by decide)) ?_
  rw [nI_clamp (by omega)]
  exact kk
theorem xn_st_2 (C : xj_C E G cc own nL d q c0 s0 ret) {j : Nat} {y : Int32} (a : xj_At cc pc .iastore 1 nx) (hj : j < 256) (kk : xn_X E G Q cs sl nx L st (xn_uI v 2 0 0 j y)) : xn_X E G Q cs sl pc L (.int y :: .int (nI j) :: .ref (xj_ad G (2, 0, 0)) :: st) v := by
  refine xj_iast C a rfl xj_ok2 (vp_in_nI hj (by decide)) ?_
  rw [nI_clamp (by omega)]
  exact kk
theorem xn_ld_3 (C : xj_C E G cc own nL d q c0 s0 ret) {j : Nat} (a : xj_At cc pc .iaload 1 nx) (hj : j < 256) (kk : xn_X E G Q cs sl nx L (.int (v.1 3 0 0 j) :: st) v) : xn_X E G Q cs sl pc L (.int (nI j) :: .ref (xj_ad G (3, 0, 0)) :: st) v := by
  refine xj_iald C a rfl xj_ok3 (vp_in_nI hj (by decide)) ?_
  rw [nI_clamp (by omega)]
  exact kk
theorem xn_st_3 (C : xj_C E G cc own nL d q c0 s0 ret) {j : Nat} {y : Int32} (a : xj_At cc pc .iastore 1 nx) (hj : j < 256) (kk : xn_X E G Q cs sl nx L st (xn_uI v 3 0 0 j y)) : xn_X E G Q cs sl pc L (.int y :: .int (nI j) :: .ref (xj_ad G (3, 0, 0)) :: st) v := by
  refine xj_iast C a rfl xj_ok3 (vp_in_nI hj (by decide)) ?_
  rw [nI_clamp (by omega)]
  exact kk
theorem xn_ld_4 (C : xj_C E G cc own nL d q c0 s0 ret) {j : Nat} (a : xj_At cc pc .iaload 1 nx) (hj : j < 256) (kk : xn_X E G Q cs sl nx L (.int (v.1 4 0 0 j) :: st) v) : xn_X E G Q cs sl pc L (.int (nI j) :: .ref (xj_ad G (4, 0, 0)) :: st) v := by
  refine xj_iald C a rfl xj_ok4 (vp_in_nI hj (by decide)) ?_
  rw [nI_clamp (by omega)]
  exact kk
theorem xn_st_4 (C : xj_C E G cc own nL d q c0 s0 ret) {j : Nat} {y : Int32} (a : xj_At cc pc .iastore 1 nx) (hj : j < 256) (kk : xn_X E G Q cs sl nx L st (xn_uI v 4 0 0 j y)) : xn_X E G Q cs sl pc L (.int y :: .int (nI j) :: .ref (xj_ad G (4, 0, 0)) :: st) v := by
  refine xj_iast C a rfl xj_ok4 (vp_in_nI hj (by decide)) ?_
  rw [nI_clamp (by omega)]
  exact kk
theorem xn_ld_5 (C : xj_C E G cc own nL d q c0 s0 ret) {j : Nat} (a : xj_At cc pc .laload 1 nx) (hj : j < 256) (kk : xn_X E G Q cs sl nx L (.long (v.2 5 0 0 j) :: st) v) : xn_X E G Q cs sl pc L (.int (nI j) :: .ref (xj_ad G (5, 0, 0)) :: st) v := by
  refine xj_lald C a rfl xj_ok5 (vp_in_nI hj (by decide)) ?_
  rw [nI_clamp (by omega)]
  exact kk
theorem xn_st_5 (C : xj_C E G cc own nL d q c0 s0 ret) {j : Nat} {y : Int64} (a : xj_At cc pc .lastore 1 nx) (hj : j < 256) (kk : xn_X E G Q cs sl nx L st (xn_uJ v 5 0 0 j y)) : xn_X E G Q cs sl pc L (.long y :: .int (nI j) :: .ref (xj_ad G (5, 0, 0)) :: st) v := by
  refine xj_last C a rfl xj_ok5 (vp_in_nI hj (by decide)) ?_
  rw [nI_clamp (by omega)]
  exact kk
theorem xn_ld_6 (C : xj_C E G cc own nL d q c0 s0 ret) {j : Nat} (a : xj_At cc pc .iaload 1 nx) (hj : j < 256) (kk : xn_X E G Q cs sl nx L (.int (v.1 6 0 0 j) :: st) v) : xn_X E G Q cs sl pc L (.int (nI j) :: .ref (xj_ad G (6, 0, 0)) :: st) v := by
  refine xj_iald C a rfl xj_ok6 (vp_in_nI hj (by decide)) ?_
  rw [nI_clamp (by omega)]
  exact kk
theorem xn_st_6 (C : xj_C E G cc own nL d q c0 s0 ret) {j : Nat} {y : Int32} (a : xj_At cc pc .iastore 1 nx) (hj : j < 256) (kk : xn_X E G Q cs sl nx L st (xn_uI v 6 0 0 j y)) : xn_X E G Q cs sl pc L (.int y :: .int (nI j) :: .ref (xj_ad G (6, 0, 0)) :: st) v := by
  refine xj_iast C a rfl xj_ok6 (vp_in_nI hj (by decide)) ?_
  rw [nI_clamp (by omega)]
  exact kk
theorem xn_ld_7 (C : xj_C E G cc own nL d q c0 s0 ret) {j : Nat} (a : xj_At cc pc .baload 1 nx) (hj : j < 256) (kk : xn_X E G Q cs sl nx L (.int (v.1 7 0 0 j) :: st) v) : xn_X E G Q cs sl pc L (.int (nI j) :: .ref (xj_ad G (7, 0, 0)) :: st) v := by
  refine xj_zald C a rfl xj_ok7 (vp_in_nI hj (by decide)) ?_
  rw [nI_clamp (by omega)]
  exact kk
theorem xn_st_7 (C : xj_C E G cc own nL d q c0 s0 ret) {j : Nat} {y : Int32} (a : xj_At cc pc .bastore 1 nx) (hj : j < 256) (hb : y = 0 ∨ y = 1) (kk : xn_X E G Q cs sl nx L st (xn_uI v 7 0 0 j y)) : xn_X E G Q cs sl pc L (.int y :: .int (nI j) :: .ref (xj_ad G (7, 0, 0)) :: st) v := by
  refine xj_zast C a rfl xj_ok7 (vp_in_nI hj (by decide)) (xn_bool hb) ?_
  rw [nI_clamp (by omega)]
  exact kk
theorem xn_ld_8 (C : xj_C E G cc own nL d q c0 s0 ret) {j : Nat} (a : xj_At cc pc .aaload 1 nx) (hj : j < 4) (kk : xn_X E G Q cs sl nx L (.ref (xj_ad G (11, j, 0)) :: st) v) : xn_X E G Q cs sl pc L (.int (nI j) :: .ref (xj_ad G (8, 0, 0)) :: st) v := by
  refine xj_aald (t0 := 4) (p2 := (11, j, 0)) C a ⟨rfl, rfl⟩ xj_ok8 (vp_in_nI hj (by decide)) ?_ kk
  rw [nI_clamp (by omega)]
  show (if j < 4 then some (11, j, 0) else none) = some (11, j, 0)
  rw [if_pos hj]
theorem xn_ld_9 (C : xj_C E G cc own nL d q c0 s0 ret) {j : Nat} (a : xj_At cc pc .aaload 1 nx) (hj : j < 2) (kk : xn_X E G Q cs sl nx L (.ref (xj_ad G (19, j, 0)) :: st) v) : xn_X E G Q cs sl pc L (.int (nI j) :: .ref (xj_ad G (9, 0, 0)) :: st) v := by
  refine xj_aald (t0 := 5) (p2 := (19, j, 0)) C a ⟨rfl, rfl⟩ xj_ok9 (vp_in_nI hj (by decide)) ?_ kk
  rw [nI_clamp (by omega)]
  show (if j < 2 then some (19, j, 0) else none) = some (19, j, 0)
  rw [if_pos hj]
theorem xn_ld_10 (C : xj_C E G cc own nL d q c0 s0 ret) {j : Nat} (a : xj_At cc pc .iaload 1 nx) (hj : j < 6) (kk : xn_X E G Q cs sl nx L (.int (v.1 10 0 0 j) :: st) v) : xn_X E G Q cs sl pc L (.int (nI j) :: .ref (xj_ad G (10, 0, 0)) :: st) v := by
  refine xj_iald C a rfl xj_ok10 (vp_in_nI hj (by decide)) ?_
  rw [nI_clamp (by omega)]
  exact kk
theorem xn_st_10 (C : xj_C E G cc own nL d q c0 s0 ret) {j : Nat} {y : Int32} (a : xj_At cc pc .iastore 1 nx) (hj : j < 6) (kk : xn_X E G Q cs sl nx L st (xn_uI v 10 0 0 j y)) : xn_X E G Q cs sl pc L (.int y :: .int (nI j) :: .ref (xj_ad G (10, 0, 0)) :: st) v := by
  refine xj_iast C a rfl xj_ok10 (vp_in_nI hj (by decide)) ?_
  rw [nI_clamp (by omega)]
  exact kk
theorem xn_ld_12 (C : xj_C E G cc own nL d q c0 s0 ret) {r : Nat} {j : Nat} (a : xj_At cc pc .aaload 1 nx) (hr : r < 4) (hj : j < 4) (kk : xn_X E G Q cs sl nx L (.ref (xj_ad G (13, r, j)) :: st) v) : xn_X E G Q cs sl pc L (.int (nI j) :: .ref (xj_ad G (12, r, 0)) :: st) v := by
  refine xj_aald (t0 := 3) (p2 := (13, r, j)) C a ⟨rfl, rfl⟩ (xj_ok12 hr) (vp_in_nI hj (by decide)) ?_ kk
  rw [nI_clamp (by omega)]
  show (if j < 4 then some (13, r, j) else none) = some (13, r, j)
  rw [if_pos hj]
theorem xn_ld_14 (C : xj_C E G cc own nL d q c0 s0 ret) {r : Nat} {i : Nat} {j : Nat} (a : xj_At cc pc .laload 1 nx) (hr : r < 4) (hi : i < 4) (hj : j < 4) (kk : xn_X E G Q cs sl nx L (.long (v.2 14 r i j) :: st) v) : xn_X E G Q cs sl pc L (.int (nI j) :: .ref (xj_ad G (14, r, i)) :: st) v := by
  refine xj_lald C a rfl (xj_ok14 hr hi) (vp_in_nI hj (by decide)) ?_
  rw [nI_clamp (by omega)]
  exact kk
theorem xn_st_14 (C : xj_C E G cc own nL d q c0 s0 ret) {r : Nat} {i : Nat} {j : Nat} {y : Int64} (a : xj_At cc pc .lastore 1 nx) (hr : r < 4) (hi : i < 4) (hj : j < 4) (kk : xn_X E G Q cs sl nx L st (xn_uJ v 14 r i j y)) : xn_X E G Q cs sl pc L (.long y :: .int (nI j) :: .ref (xj_ad G (14, r, i)) :: st) v := by
  refine xj_last C a rfl (xj_ok14 hr hi) (vp_in_nI hj (by decide)) ?_
  rw [nI_clamp (by omega)]
  exact kk
theorem xn_ld_15 (C : xj_C E G cc own nL d q c0 s0 ret) {r : Nat} {i : Nat} {j : Nat} (a : xj_At cc pc .laload 1 nx) (hr : r < 4) (hi : i < 4) (hj : j < 4) (kk : xn_X E G Q cs sl nx L (.long (v.2 15 r i j) :: st) v) : xn_X E G Q cs sl pc L (.int (nI j) :: .ref (xj_ad G (15, r, i)) :: st) v := by
  refine xj_lald C a rfl (xj_ok15 hr hi) (vp_in_nI hj (by decide)) ?_
  rw [nI_clamp (by omega)]
  exact kk
theorem xn_st_15 (C : xj_C E G cc own nL d q c0 s0 ret) {r : Nat} {i : Nat} {j : Nat} {y : Int64} (a : xj_At cc pc .lastore 1 nx) (hr : r < 4) (hi : i < 4) (hj : j < 4) (kk : xn_X E G Q cs sl nx L st (xn_uJ v 15 r i j y)) : xn_X E G Q cs sl pc L (.long y :: .int (nI j) :: .ref (xj_ad G (15, r, i)) :: st) v := by
  refine xj_last C a rfl (xj_ok15 hr hi) (vp_in_nI hj (by decide)) ?_
  rw [nI_clamp (by omega)]
  exact kk
theorem xn_ld_17 (C : xj_C E G cc own nL d q c0 s0 ret) {r : Nat} {i : Nat} {j : Nat} (a : xj_At cc pc .iaload 1 nx) (hr : r < 4) (hi : i < 2) (hj : j < 256) (kk : xn_X E G Q cs sl nx L (.int (v.1 17 r i j) :: st) v) : xn_X E G Q cs sl pc L (.int (nI j) :: .ref (xj_ad G (17, r, i)) :: st) v := by
  refine xj_iald C a rfl (xj_ok17 hr hi) (vp_in_nI hj (by decide)) ?_
  rw [nI_clamp (by omega)]
  exact kk
theorem xn_st_17 (C : xj_C E G cc own nL d q c0 s0 ret) {r : Nat} {i : Nat} {j : Nat} {y : Int32} (a : xj_At cc pc .iastore 1 nx) (hr : r < 4) (hi : i < 2) (hj : j < 256) (kk : xn_X E G Q cs sl nx L st (xn_uI v 17 r i j y)) : xn_X E G Q cs sl pc L (.int y :: .int (nI j) :: .ref (xj_ad G (17, r, i)) :: st) v := by
  refine xj_iast C a rfl (xj_ok17 hr hi) (vp_in_nI hj (by decide)) ?_
  rw [nI_clamp (by omega)]
  exact kk
theorem xn_ld_18 (C : xj_C E G cc own nL d q c0 s0 ret) {r : Nat} {j : Nat} (a : xj_At cc pc .iaload 1 nx) (hr : r < 4) (hj : j < 4) (kk : xn_X E G Q cs sl nx L (.int (v.1 18 r 0 j) :: st) v) : xn_X E G Q cs sl pc L (.int (nI j) :: .ref (xj_ad G (18, r, 0)) :: st) v := by
  refine xj_iald C a rfl (xj_ok18 hr) (vp_in_nI hj (by decide)) ?_
  rw [nI_clamp (by omega)]
  exact kk
theorem xn_st_18 (C : xj_C E G cc own nL d q c0 s0 ret) {r : Nat} {j : Nat} {y : Int32} (a : xj_At cc pc .iastore 1 nx) (hr : r < 4) (hj : j < 4) (kk : xn_X E G Q cs sl nx L st (xn_uI v 18 r 0 j y)) : xn_X E G Q cs sl pc L (.int y :: .int (nI j) :: .ref (xj_ad G (18, r, 0)) :: st) v := by
  refine xj_iast C a rfl (xj_ok18 hr) (vp_in_nI hj (by decide)) ?_
  rw [nI_clamp (by omega)]
  exact kk
theorem xn_ld_20 (C : xj_C E G cc own nL d q c0 s0 ret) {r : Nat} {j : Nat} (a : xj_At cc pc .laload 1 nx) (hr : r < 2) (hj : j < 4) (kk : xn_X E G Q cs sl nx L (.long (v.2 20 r 0 j) :: st) v) : xn_X E G Q cs sl pc L (.int (nI j) :: .ref (xj_ad G (20, r, 0)) :: st) v := by
  refine xj_lald C a rfl (xj_ok20 hr) (vp_in_nI hj (by decide)) ?_
  rw [nI_clamp (by omega)]
  exact kk
theorem xn_st_20 (C : xj_C E G cc own nL d q c0 s0 ret) {r : Nat} {j : Nat} {y : Int64} (a : xj_At cc pc .lastore 1 nx) (hr : r < 2) (hj : j < 4) (kk : xn_X E G Q cs sl nx L st (xn_uJ v 20 r 0 j y)) : xn_X E G Q cs sl pc L (.long y :: .int (nI j) :: .ref (xj_ad G (20, r, 0)) :: st) v := by
  refine xj_last C a rfl (xj_ok20 hr) (vp_in_nI hj (by decide)) ?_
  rw [nI_clamp (by omega)]
  exact kk
theorem xn_ld_22 (C : xj_C E G cc own nL d q c0 s0 ret) {j : Nat} (a : xj_At cc pc .iaload 1 nx) (hj : j < 200) (kk : xn_X E G Q cs sl nx L (.int (v.1 22 0 0 j) :: st) v) : xn_X E G Q cs sl pc L (.int (nI j) :: .ref (xj_ad G (22, 0, 0)) :: st) v := by
  refine xj_iald C a rfl xj_ok22 (vp_in_nI hj (by decide)) ?_
  rw [nI_clamp (by omega)]
  exact kk
theorem xn_st_22 (C : xj_C E G cc own nL d q c0 s0 ret) {j : Nat} {y : Int32} (a : xj_At cc pc .iastore 1 nx) (hj : j < 200) (kk : xn_X E G Q cs sl nx L st (xn_uI v 22 0 0 j y)) : xn_X E G Q cs sl pc L (.int y :: .int (nI j) :: .ref (xj_ad G (22, 0, 0)) :: st) v := by
  refine xj_iast C a rfl xj_ok22 (vp_in_nI hj (by decide)) ?_
  rw [nI_clamp (by omega)]
  exact kk
theorem xn_ld_23 (C : xj_C E G cc own nL d q c0 s0 ret) {j : Nat} (a : xj_At cc pc .iaload 1 nx) (hj : j < 200) (kk : xn_X E G Q cs sl nx L (.int (v.1 23 0 0 j) :: st) v) : xn_X E G Q cs sl pc L (.int (nI j) :: .ref (xj_ad G (23, 0, 0)) :: st) v := by
  refine xj_iald C a rfl xj_ok23 (vp_in_nI hj (by decide)) ?_
  rw [nI_clamp (by omega)]
  exact kk
theorem xn_st_23 (C : xj_C E G cc own nL d q c0 s0 ret) {j : Nat} {y : Int32} (a : xj_At cc pc .iastore 1 nx) (hj : j < 200) (kk : xn_X E G Q cs sl nx L st (xn_uI v 23 0 0 j y)) : xn_X E G Q cs sl pc L (.int y :: .int (nI j) :: .ref (xj_ad G (23, 0, 0)) :: st) v := by
  refine xj_iast C a rfl xj_ok23 (vp_in_nI hj (by decide)) ?_
  rw [nI_clamp (by omega)]
  exact kk
theorem xn_ld_24 (C : xj_C E G cc own nL d q c0 s0 ret) {j : Nat} (a : xj_At cc pc .iaload 1 nx) (hj : j < 200) (kk : xn_X E G Q cs sl nx L (.int (v.1 24 0 0 j) :: st) v) : xn_X E G Q cs sl pc L (.int (nI j) :: .ref (xj_ad G (24, 0, 0)) :: st) v := by
  refine xj_iald C a rfl xj_ok24 (vp_in_nI hj (by decide)) ?_
  rw [nI_clamp (by omega)]
  exact kk
theorem xn_st_24 (C : xj_C E G cc own nL d q c0 s0 ret) {j : Nat} {y : Int32} (a : xj_At cc pc .iastore 1 nx) (hj : j < 200) (kk : xn_X E G Q cs sl nx L st (xn_uI v 24 0 0 j y)) : xn_X E G Q cs sl pc L (.int y :: .int (nI j) :: .ref (xj_ad G (24, 0, 0)) :: st) v := by
  refine xj_iast C a rfl xj_ok24 (vp_in_nI hj (by decide)) ?_
  rw [nI_clamp (by omega)]
  exact kk
theorem xn_ld_25 (C : xj_C E G cc own nL d q c0 s0 ret) {j : Nat} (a : xj_At cc pc .laload 1 nx) (hj : j < 200) (kk : xn_X E G Q cs sl nx L (.long (v.2 25 0 0 j) :: st) v) : xn_X E G Q cs sl pc L (.int (nI j) :: .ref (xj_ad G (25, 0, 0)) :: st) v := by
  refine xj_lald C a rfl xj_ok25 (vp_in_nI hj (by decide)) ?_
  rw [nI_clamp (by omega)]
  exact kk
theorem xn_st_25 (C : xj_C E G cc own nL d q c0 s0 ret) {j : Nat} {y : Int64} (a : xj_At cc pc .lastore 1 nx) (hj : j < 200) (kk : xn_X E G Q cs sl nx L st (xn_uJ v 25 0 0 j y)) : xn_X E G Q cs sl pc L (.long y :: .int (nI j) :: .ref (xj_ad G (25, 0, 0)) :: st) v := by
  refine xj_last C a rfl xj_ok25 (vp_in_nI hj (by decide)) ?_
  rw [nI_clamp (by omega)]
  exact kk
theorem xn_ld_26 (C : xj_C E G cc own nL d q c0 s0 ret) {j : Nat} (a : xj_At cc pc .iaload 1 nx) (hj : j < 200) (kk : xn_X E G Q cs sl nx L (.int (v.1 26 0 0 j) :: st) v) : xn_X E G Q cs sl pc L (.int (nI j) :: .ref (xj_ad G (26, 0, 0)) :: st) v := by
  refine xj_iald C a rfl xj_ok26 (vp_in_nI hj (by decide)) ?_
  rw [nI_clamp (by omega)]
  exact kk
theorem xn_st_26 (C : xj_C E G cc own nL d q c0 s0 ret) {j : Nat} {y : Int32} (a : xj_At cc pc .iastore 1 nx) (hj : j < 200) (kk : xn_X E G Q cs sl nx L st (xn_uI v 26 0 0 j y)) : xn_X E G Q cs sl pc L (.int y :: .int (nI j) :: .ref (xj_ad G (26, 0, 0)) :: st) v := by
  refine xj_iast C a rfl xj_ok26 (vp_in_nI hj (by decide)) ?_
  rw [nI_clamp (by omega)]
  exact kk
theorem xn_ld_27 (C : xj_C E G cc own nL d q c0 s0 ret) {j : Nat} (a : xj_At cc pc .baload 1 nx) (hj : j < 200) (kk : xn_X E G Q cs sl nx L (.int (v.1 27 0 0 j) :: st) v) : xn_X E G Q cs sl pc L (.int (nI j) :: .ref (xj_ad G (27, 0, 0)) :: st) v := by
  refine xj_zald C a rfl xj_ok27 (vp_in_nI hj (by decide)) ?_
  rw [nI_clamp (by omega)]
  exact kk
theorem xn_st_27 (C : xj_C E G cc own nL d q c0 s0 ret) {j : Nat} {y : Int32} (a : xj_At cc pc .bastore 1 nx) (hj : j < 200) (hb : y = 0 ∨ y = 1) (kk : xn_X E G Q cs sl nx L st (xn_uI v 27 0 0 j y)) : xn_X E G Q cs sl pc L (.int y :: .int (nI j) :: .ref (xj_ad G (27, 0, 0)) :: st) v := by
  refine xj_zast C a rfl xj_ok27 (vp_in_nI hj (by decide)) (xn_bool hb) ?_
  rw [nI_clamp (by omega)]
  exact kk
theorem xn_ld_28 (C : xj_C E G cc own nL d q c0 s0 ret) {j : Nat} (a : xj_At cc pc .baload 1 nx) (hj : j < 800) (kk : xn_X E G Q cs sl nx L (.int (v.1 28 0 0 j) :: st) v) : xn_X E G Q cs sl pc L (.int (nI j) :: .ref (xj_ad G (28, 0, 0)) :: st) v := by
  refine xj_zald C a rfl xj_ok28 (vp_in_nI hj (by decide)) ?_
  rw [nI_clamp (by omega)]
  exact kk
theorem xn_st_28 (C : xj_C E G cc own nL d q c0 s0 ret) {j : Nat} {y : Int32} (a : xj_At cc pc .bastore 1 nx) (hj : j < 800) (hb : y = 0 ∨ y = 1) (kk : xn_X E G Q cs sl nx L st (xn_uI v 28 0 0 j y)) : xn_X E G Q cs sl pc L (.int y :: .int (nI j) :: .ref (xj_ad G (28, 0, 0)) :: st) v := by
  refine xj_zast C a rfl xj_ok28 (vp_in_nI hj (by decide)) (xn_bool hb) ?_
  rw [nI_clamp (by omega)]
  exact kk
theorem xn_ld_29 (C : xj_C E G cc own nL d q c0 s0 ret) {j : Nat} (a : xj_At cc pc .baload 1 nx) (hj : j < 800) (kk : xn_X E G Q cs sl nx L (.int (v.1 29 0 0 j) :: st) v) : xn_X E G Q cs sl pc L (.int (nI j) :: .ref (xj_ad G (29, 0, 0)) :: st) v := by
  refine xj_zald C a rfl xj_ok29 (vp_in_nI hj (by decide)) ?_
  rw [nI_clamp (by omega)]
  exact kk
theorem xn_st_29 (C : xj_C E G cc own nL d q c0 s0 ret) {j : Nat} {y : Int32} (a : xj_At cc pc .bastore 1 nx) (hj : j < 800) (hb : y = 0 ∨ y = 1) (kk : xn_X E G Q cs sl nx L st (xn_uI v 29 0 0 j y)) : xn_X E G Q cs sl pc L (.int y :: .int (nI j) :: .ref (xj_ad G (29, 0, 0)) :: st) v := by
  refine xj_zast C a rfl xj_ok29 (vp_in_nI hj (by decide)) (xn_bool hb) ?_
  rw [nI_clamp (by omega)]
  exact kk
theorem xn_ld_30 (C : xj_C E G cc own nL d q c0 s0 ret) {j : Nat} (a : xj_At cc pc .iaload 1 nx) (hj : j < 4) (kk : xn_X E G Q cs sl nx L (.int (v.1 30 0 0 j) :: st) v) : xn_X E G Q cs sl pc L (.int (nI j) :: .ref (xj_ad G (30, 0, 0)) :: st) v := by
  refine xj_iald C a rfl xj_ok30 (vp_in_nI hj (by decide)) ?_
  rw [nI_clamp (by omega)]
  exact kk
theorem xn_st_30 (C : xj_C E G cc own nL d q c0 s0 ret) {j : Nat} {y : Int32} (a : xj_At cc pc .iastore 1 nx) (hj : j < 4) (kk : xn_X E G Q cs sl nx L st (xn_uI v 30 0 0 j y)) : xn_X E G Q cs sl pc L (.int y :: .int (nI j) :: .ref (xj_ad G (30, 0, 0)) :: st) v := by
  refine xj_iast C a rfl xj_ok30 (vp_in_nI hj (by decide)) ?_
  rw [nI_clamp (by omega)]
  exact kk
theorem xn_ld_31 (C : xj_C E G cc own nL d q c0 s0 ret) {j : Nat} (a : xj_At cc pc .baload 1 nx) (hj : j < 4) (kk : xn_X E G Q cs sl nx L (.int (v.1 31 0 0 j) :: st) v) : xn_X E G Q cs sl pc L (.int (nI j) :: .ref (xj_ad G (31, 0, 0)) :: st) v := by
  refine xj_zald C a rfl xj_ok31 (vp_in_nI hj (by decide)) ?_
  rw [nI_clamp (by omega)]
  exact kk
theorem xn_st_31 (C : xj_C E G cc own nL d q c0 s0 ret) {j : Nat} {y : Int32} (a : xj_At cc pc .bastore 1 nx) (hj : j < 4) (hb : y = 0 ∨ y = 1) (kk : xn_X E G Q cs sl nx L st (xn_uI v 31 0 0 j y)) : xn_X E G Q cs sl pc L (.int y :: .int (nI j) :: .ref (xj_ad G (31, 0, 0)) :: st) v := by
  refine xj_zast C a rfl xj_ok31 (vp_in_nI hj (by decide)) (xn_bool hb) ?_
  rw [nI_clamp (by omega)]
  exact kk
theorem xn_ld_32 (C : xj_C E G cc own nL d q c0 s0 ret) {j : Nat} (a : xj_At cc pc .iaload 1 nx) (hj : j < 4) (kk : xn_X E G Q cs sl nx L (.int (v.1 32 0 0 j) :: st) v) : xn_X E G Q cs sl pc L (.int (nI j) :: .ref (xj_ad G (32, 0, 0)) :: st) v := by
  refine xj_iald C a rfl xj_ok32 (vp_in_nI hj (by decide)) ?_
  rw [nI_clamp (by omega)]
  exact kk
theorem xn_st_32 (C : xj_C E G cc own nL d q c0 s0 ret) {j : Nat} {y : Int32} (a : xj_At cc pc .iastore 1 nx) (hj : j < 4) (kk : xn_X E G Q cs sl nx L st (xn_uI v 32 0 0 j y)) : xn_X E G Q cs sl pc L (.int y :: .int (nI j) :: .ref (xj_ad G (32, 0, 0)) :: st) v := by
  refine xj_iast C a rfl xj_ok32 (vp_in_nI hj (by decide)) ?_
  rw [nI_clamp (by omega)]
  exact kk
theorem xn_ld_33 (C : xj_C E G cc own nL d q c0 s0 ret) {j : Nat} (a : xj_At cc pc .iaload 1 nx) (hj : j < 4) (kk : xn_X E G Q cs sl nx L (.int (v.1 33 0 0 j) :: st) v) : xn_X E G Q cs sl pc L (.int (nI j) :: .ref (xj_ad G (33, 0, 0)) :: st) v := by
  refine xj_iald C a rfl xj_ok33 (vp_in_nI hj (by decide)) ?_
  rw [nI_clamp (by omega)]
  exact kk
theorem xn_st_33 (C : xj_C E G cc own nL d q c0 s0 ret) {j : Nat} {y : Int32} (a : xj_At cc pc .iastore 1 nx) (hj : j < 4) (kk : xn_X E G Q cs sl nx L st (xn_uI v 33 0 0 j y)) : xn_X E G Q cs sl pc L (.int y :: .int (nI j) :: .ref (xj_ad G (33, 0, 0)) :: st) v := by
  refine xj_iast C a rfl xj_ok33 (vp_in_nI hj (by decide)) ?_
  rw [nI_clamp (by omega)]
  exact kk
theorem xn_ld_34 (C : xj_C E G cc own nL d q c0 s0 ret) {j : Nat} (a : xj_At cc pc .laload 1 nx) (hj : j < 4) (kk : xn_X E G Q cs sl nx L (.long (v.2 34 0 0 j) :: st) v) : xn_X E G Q cs sl pc L (.int (nI j) :: .ref (xj_ad G (34, 0, 0)) :: st) v := by
  refine xj_lald C a rfl xj_ok34 (vp_in_nI hj (by decide)) ?_
  rw [nI_clamp (by omega)]
  exact kk
theorem xn_st_34 (C : xj_C E G cc own nL d q c0 s0 ret) {j : Nat} {y : Int64} (a : xj_At cc pc .lastore 1 nx) (hj : j < 4) (kk : xn_X E G Q cs sl nx L st (xn_uJ v 34 0 0 j y)) : xn_X E G Q cs sl pc L (.long y :: .int (nI j) :: .ref (xj_ad G (34, 0, 0)) :: st) v := by
  refine xj_last C a rfl xj_ok34 (vp_in_nI hj (by decide)) ?_
  rw [nI_clamp (by omega)]
  exact kk
theorem xn_ld_35 (C : xj_C E G cc own nL d q c0 s0 ret) {j : Nat} (a : xj_At cc pc .iaload 1 nx) (hj : j < 4) (kk : xn_X E G Q cs sl nx L (.int (v.1 35 0 0 j) :: st) v) : xn_X E G Q cs sl pc L (.int (nI j) :: .ref (xj_ad G (35, 0, 0)) :: st) v := by
  refine xj_iald C a rfl xj_ok35 (vp_in_nI hj (by decide)) ?_
  rw [nI_clamp (by omega)]
  exact kk
theorem xn_st_35 (C : xj_C E G cc own nL d q c0 s0 ret) {j : Nat} {y : Int32} (a : xj_At cc pc .iastore 1 nx) (hj : j < 4) (kk : xn_X E G Q cs sl nx L st (xn_uI v 35 0 0 j y)) : xn_X E G Q cs sl pc L (.int y :: .int (nI j) :: .ref (xj_ad G (35, 0, 0)) :: st) v := by
  refine xj_iast C a rfl xj_ok35 (vp_in_nI hj (by decide)) ?_
  rw [nI_clamp (by omega)]
  exact kk
theorem xn_ld_36 (C : xj_C E G cc own nL d q c0 s0 ret) {j : Nat} (a : xj_At cc pc .iaload 1 nx) (hj : j < 4) (kk : xn_X E G Q cs sl nx L (.int (v.1 36 0 0 j) :: st) v) : xn_X E G Q cs sl pc L (.int (nI j) :: .ref (xj_ad G (36, 0, 0)) :: st) v := by
  refine xj_iald C a rfl xj_ok36 (vp_in_nI hj (by decide)) ?_
  rw [nI_clamp (by omega)]
  exact kk
theorem xn_st_36 (C : xj_C E G cc own nL d q c0 s0 ret) {j : Nat} {y : Int32} (a : xj_At cc pc .iastore 1 nx) (hj : j < 4) (kk : xn_X E G Q cs sl nx L st (xn_uI v 36 0 0 j y)) : xn_X E G Q cs sl pc L (.int y :: .int (nI j) :: .ref (xj_ad G (36, 0, 0)) :: st) v := by
  refine xj_iast C a rfl xj_ok36 (vp_in_nI hj (by decide)) ?_
  rw [nI_clamp (by omega)]
  exact kk
theorem xn_ld_37 (C : xj_C E G cc own nL d q c0 s0 ret) {j : Nat} (a : xj_At cc pc .iaload 1 nx) (hj : j < 800) (kk : xn_X E G Q cs sl nx L (.int (v.1 37 0 0 j) :: st) v) : xn_X E G Q cs sl pc L (.int (nI j) :: .ref (xj_ad G (37, 0, 0)) :: st) v := by
  refine xj_iald C a rfl xj_ok37 (vp_in_nI hj (by decide)) ?_
  rw [nI_clamp (by omega)]
  exact kk
theorem xn_st_37 (C : xj_C E G cc own nL d q c0 s0 ret) {j : Nat} {y : Int32} (a : xj_At cc pc .iastore 1 nx) (hj : j < 800) (kk : xn_X E G Q cs sl nx L st (xn_uI v 37 0 0 j y)) : xn_X E G Q cs sl pc L (.int y :: .int (nI j) :: .ref (xj_ad G (37, 0, 0)) :: st) v := by
  refine xj_iast C a rfl xj_ok37 (vp_in_nI hj (by decide)) ?_
  rw [nI_clamp (by omega)]
  exact kk
theorem xn_ld_38 (C : xj_C E G cc own nL d q c0 s0 ret) {j : Nat} (a : xj_At cc pc .iaload 1 nx) (hj : j < 800) (kk : xn_X E G Q cs sl nx L (.int (v.1 38 0 0 j) :: st) v) : xn_X E G Q cs sl pc L (.int (nI j) :: .ref (xj_ad G (38, 0, 0)) :: st) v := by
  refine xj_iald C a rfl xj_ok38 (vp_in_nI hj (by decide)) ?_
  rw [nI_clamp (by omega)]
  exact kk
theorem xn_st_38 (C : xj_C E G cc own nL d q c0 s0 ret) {j : Nat} {y : Int32} (a : xj_At cc pc .iastore 1 nx) (hj : j < 800) (kk : xn_X E G Q cs sl nx L st (xn_uI v 38 0 0 j y)) : xn_X E G Q cs sl pc L (.int y :: .int (nI j) :: .ref (xj_ad G (38, 0, 0)) :: st) v := by
  refine xj_iast C a rfl xj_ok38 (vp_in_nI hj (by decide)) ?_
  rw [nI_clamp (by omega)]
  exact kk
theorem xn_ld_39 (C : xj_C E G cc own nL d q c0 s0 ret) {j : Nat} (a : xj_At cc pc .iaload 1 nx) (hj : j < 800) (kk : xn_X E G Q cs sl nx L (.int (v.1 39 0 0 j) :: st) v) : xn_X E G Q cs sl pc L (.int (nI j) :: .ref (xj_ad G (39, 0, 0)) :: st) v := by
  refine xj_iald C a rfl xj_ok39 (vp_in_nI hj (by decide)) ?_
  rw [nI_clamp (by omega)]
  exact kk
theorem xn_st_39 (C : xj_C E G cc own nL d q c0 s0 ret) {j : Nat} {y : Int32} (a : xj_At cc pc .iastore 1 nx) (hj : j < 800) (kk : xn_X E G Q cs sl nx L st (xn_uI v 39 0 0 j y)) : xn_X E G Q cs sl pc L (.int y :: .int (nI j) :: .ref (xj_ad G (39, 0, 0)) :: st) v := by
  refine xj_iast C a rfl xj_ok39 (vp_in_nI hj (by decide)) ?_
  rw [nI_clamp (by omega)]
  exact kk
theorem xn_ld_40 (C : xj_C E G cc own nL d q c0 s0 ret) {j : Nat} (a : xj_At cc pc .iaload 1 nx) (hj : j < 800) (kk : xn_X E G Q cs sl nx L (.int (v.1 40 0 0 j) :: st) v) : xn_X E G Q cs sl pc L (.int (nI j) :: .ref (xj_ad G (40, 0, 0)) :: st) v := by
  refine xj_iald C a rfl xj_ok40 (vp_in_nI hj (by decide)) ?_
  rw [nI_clamp (by omega)]
  exact kk
theorem xn_st_40 (C : xj_C E G cc own nL d q c0 s0 ret) {j : Nat} {y : Int32} (a : xj_At cc pc .iastore 1 nx) (hj : j < 800) (kk : xn_X E G Q cs sl nx L st (xn_uI v 40 0 0 j y)) : xn_X E G Q cs sl pc L (.int y :: .int (nI j) :: .ref (xj_ad G (40, 0, 0)) :: st) v := by
  refine xj_iast C a rfl xj_ok40 (vp_in_nI hj (by decide)) ?_
  rw [nI_clamp (by omega)]
  exact kk
theorem xn_ld_41 (C : xj_C E G cc own nL d q c0 s0 ret) {j : Nat} (a : xj_At cc pc .iaload 1 nx) (hj : j < 2) (kk : xn_X E G Q cs sl nx L (.int (v.1 41 0 0 j) :: st) v) : xn_X E G Q cs sl pc L (.int (nI j) :: .ref (xj_ad G (41, 0, 0)) :: st) v := by
  refine xj_iald C a rfl xj_ok41 (vp_in_nI hj (by decide)) ?_
  rw [nI_clamp (by omega)]
  exact kk
theorem xn_st_41 (C : xj_C E G cc own nL d q c0 s0 ret) {j : Nat} {y : Int32} (a : xj_At cc pc .iastore 1 nx) (hj : j < 2) (kk : xn_X E G Q cs sl nx L st (xn_uI v 41 0 0 j y)) : xn_X E G Q cs sl pc L (.int y :: .int (nI j) :: .ref (xj_ad G (41, 0, 0)) :: st) v := by
  refine xj_iast C a rfl xj_ok41 (vp_in_nI hj (by decide)) ?_
  rw [nI_clamp (by omega)]
  exact kk
theorem xn_ld_42 (C : xj_C E G cc own nL d q c0 s0 ret) {j : Nat} (a : xj_At cc pc .iaload 1 nx) (hj : j < 2) (kk : xn_X E G Q cs sl nx L (.int (v.1 42 0 0 j) :: st) v) : xn_X E G Q cs sl pc L (.int (nI j) :: .ref (xj_ad G (42, 0, 0)) :: st) v := by
  refine xj_iald C a rfl xj_ok42 (vp_in_nI hj (by decide)) ?_
  rw [nI_clamp (by omega)]
  exact kk
theorem xn_st_42 (C : xj_C E G cc own nL d q c0 s0 ret) {j : Nat} {y : Int32} (a : xj_At cc pc .iastore 1 nx) (hj : j < 2) (kk : xn_X E G Q cs sl nx L st (xn_uI v 42 0 0 j y)) : xn_X E G Q cs sl pc L (.int y :: .int (nI j) :: .ref (xj_ad G (42, 0, 0)) :: st) v := by
  refine xj_iast C a rfl xj_ok42 (vp_in_nI hj (by decide)) ?_
  rw [nI_clamp (by omega)]
  exact kk
theorem xn_ld_43 (C : xj_C E G cc own nL d q c0 s0 ret) {j : Nat} (a : xj_At cc pc .iaload 1 nx) (hj : j < 2) (kk : xn_X E G Q cs sl nx L (.int (v.1 43 0 0 j) :: st) v) : xn_X E G Q cs sl pc L (.int (nI j) :: .ref (xj_ad G (43, 0, 0)) :: st) v := by
  refine xj_iald C a rfl xj_ok43 (vp_in_nI hj (by decide)) ?_
  rw [nI_clamp (by omega)]
  exact kk
theorem xn_st_43 (C : xj_C E G cc own nL d q c0 s0 ret) {j : Nat} {y : Int32} (a : xj_At cc pc .iastore 1 nx) (hj : j < 2) (kk : xn_X E G Q cs sl nx L st (xn_uI v 43 0 0 j y)) : xn_X E G Q cs sl pc L (.int y :: .int (nI j) :: .ref (xj_ad G (43, 0, 0)) :: st) v := by
  refine xj_iast C a rfl xj_ok43 (vp_in_nI hj (by decide)) ?_
  rw [nI_clamp (by omega)]
  exact kk
theorem xn_ld_44 (C : xj_C E G cc own nL d q c0 s0 ret) {j : Nat} (a : xj_At cc pc .baload 1 nx) (hj : j < 400) (kk : xn_X E G Q cs sl nx L (.int (v.1 44 0 0 j) :: st) v) : xn_X E G Q cs sl pc L (.int (nI j) :: .ref (xj_ad G (44, 0, 0)) :: st) v := by
  refine xj_zald C a rfl xj_ok44 (vp_in_nI hj (by decide)) ?_
  rw [nI_clamp (by omega)]
  exact kk
theorem xn_st_44 (C : xj_C E G cc own nL d q c0 s0 ret) {j : Nat} {y : Int32} (a : xj_At cc pc .bastore 1 nx) (hj : j < 400) (hb : y = 0 ∨ y = 1) (kk : xn_X E G Q cs sl nx L st (xn_uI v 44 0 0 j y)) : xn_X E G Q cs sl pc L (.int y :: .int (nI j) :: .ref (xj_ad G (44, 0, 0)) :: st) v := by
  refine xj_zast C a rfl xj_ok44 (vp_in_nI hj (by decide)) (xn_bool hb) ?_
  rw [nI_clamp (by omega)]
  exact kk
theorem xn_ld_45 (C : xj_C E G cc own nL d q c0 s0 ret) {j : Nat} (a : xj_At cc pc .iaload 1 nx) (hj : j < 6) (kk : xn_X E G Q cs sl nx L (.int (v.1 45 0 0 j) :: st) v) : xn_X E G Q cs sl pc L (.int (nI j) :: .ref (xj_ad G (45, 0, 0)) :: st) v := by
  refine xj_iald C a rfl xj_ok45 (vp_in_nI hj (by decide)) ?_
  rw [nI_clamp (by omega)]
  exact kk
theorem xn_st_45 (C : xj_C E G cc own nL d q c0 s0 ret) {j : Nat} {y : Int32} (a : xj_At cc pc .iastore 1 nx) (hj : j < 6) (kk : xn_X E G Q cs sl nx L st (xn_uI v 45 0 0 j y)) : xn_X E G Q cs sl pc L (.int y :: .int (nI j) :: .ref (xj_ad G (45, 0, 0)) :: st) v := by
  refine xj_iast C a rfl xj_ok45 (vp_in_nI hj (by decide)) ?_
  rw [nI_clamp (by omega)]
  exact kk
end XNF
