/-! the kinds of places: 0 the group, 1 its board, 2 to 7 the board's rows, 8 9 10 replicas, clients, marks, 11 a replica, 12 its slots, 13 a slot, 14 15 its notes, 16 17 numbers (0 known, 1 checkpoints), 18 view changes, 19 20 a client; 21 the reference, 22 to 45 its rows -/
def xj_knd (k : Nat) : Nat := [4, 4, 0, 0, 0, 2, 0, 1, 3, 3, 0, 4, 3, 4, 2, 2, 4, 0, 0, 4, 2, 4, 0, 0, 0, 2, 0, 1, 1, 1, 0, 1, 0, 0, 2, 0, 0, 0, 0, 0, 0, 0, 0, 0, 1, 0].getD k 9
def xj_len (k : Nat) : Nat := [5, 8, 256, 256, 256, 256, 256, 256, 4, 2, 6, 14, 4, 5, 4, 4, 2, 256, 4, 6, 4, 27, 200, 200, 200, 200, 200, 200, 800, 800, 4, 4, 4, 4, 4, 4, 4, 800, 800, 800, 800, 2, 2, 2, 400, 6].getD k 0
def xj_cls (k : Nat) : Nat := [0, 1, 0, 0, 0, 0, 0, 0, 4, 5, 0, 2, 3, 3, 0, 0, 4, 0, 0, 5, 0, 6, 0, 0, 0, 0, 0, 0, 0, 0, 0, 0, 0, 0, 0, 0, 0, 0, 0, 0, 0, 0, 0, 0, 0, 0].getD k 9
def xj_typ (k x : Nat) : Nat := (([[2, 2, 2, 2, 0], [2, 2, 2, 2, 2, 2, 0, 0], [], [], [], [], [], [], [], [], [], [0, 2, 2, 2, 2, 2, 0, 0, 0, 0, 1, 0, 0, 0], [], [2, 2, 0, 0, 0], [], [], [2, 0], [], [], [0, 2, 2, 0, 0, 0], [], [0, 2, 2, 2, 2, 2, 2, 2, 2, 2, 2, 2, 2, 2, 2, 2, 2, 2, 2, 2, 0, 0, 2, 2, 2, 2, 2], [], [], [], [], [], [], [], [], [], [], [], [], [], [], [], [], [], [], [], [], [], [], [], []] : List (List Nat)).getD k []).getD x 9
def xj_PL : List (Nat × Nat × Nat) := [(0, 0, 0), (1, 0, 0), (2, 0, 0), (3, 0, 0), (4, 0, 0), (5, 0, 0), (6, 0, 0), (7, 0, 0), (8, 0, 0), (9, 0, 0), (10, 0, 0), (11, 0, 0), (12, 0, 0), (16, 0, 0), (17, 0, 0), (16, 0, 1), (17, 0, 1), (18, 0, 0), (13, 0, 0), (14, 0, 0), (15, 0, 0), (13, 0, 1), (14, 0, 1), (15, 0, 1), (13, 0, 2), (14, 0, 2), (15, 0, 2), (13, 0, 3), (14, 0, 3), (15, 0, 3), (11, 1, 0), (12, 1, 0), (16, 1, 0), (17, 1, 0), (16, 1, 1), (17, 1, 1), (18, 1, 0), (13, 1, 0), (14, 1, 0), (15, 1, 0), (13, 1, 1), (14, 1, 1), (15, 1, 1), (13, 1, 2), (14, 1, 2), (15, 1, 2), (13, 1, 3), (14, 1, 3), (15, 1, 3), (11, 2, 0), (12, 2, 0), (16, 2, 0), (17, 2, 0), (16, 2, 1), (17, 2, 1), (18, 2, 0), (13, 2, 0), (14, 2, 0), (15, 2, 0), (13, 2, 1), (14, 2, 1), (15, 2, 1), (13, 2, 2), (14, 2, 2), (15, 2, 2), (13, 2, 3), (14, 2, 3), (15, 2, 3), (11, 3, 0), (12, 3, 0), (16, 3, 0), (17, 3, 0), (16, 3, 1), (17, 3, 1), (18, 3, 0), (13, 3, 0), (14, 3, 0), (15, 3, 0), (13, 3, 1), (14, 3, 1), (15, 3, 1), (13, 3, 2), (14, 3, 2), (15, 3, 2), (13, 3, 3), (14, 3, 3), (15, 3, 3), (19, 0, 0), (20, 0, 0), (19, 1, 0), (20, 1, 0), (21, 0, 0), (22, 0, 0), (23, 0, 0), (24, 0, 0), (25, 0, 0), (26, 0, 0), (27, 0, 0), (28, 0, 0), (29, 0, 0), (30, 0, 0), (31, 0, 0), (32, 0, 0), (33, 0, 0), (34, 0, 0), (35, 0, 0), (36, 0, 0), (37, 0, 0), (38, 0, 0), (39, 0, 0), (40, 0, 0), (41, 0, 0), (42, 0, 0), (43, 0, 0), (44, 0, 0), (45, 0, 0)]
def xj_ix (p : Nat × Nat × Nat) : Nat := match p.1 with
  | 11 => 11 + 19 * p.2.1
  | 12 => 12 + 19 * p.2.1
  | 13 => 18 + 19 * p.2.1 + 3 * p.2.2
  | 14 => 19 + 19 * p.2.1 + 3 * p.2.2
  | 15 => 20 + 19 * p.2.1 + 3 * p.2.2
  | 16 => 13 + 19 * p.2.1 + 2 * p.2.2
  | 17 => 14 + 19 * p.2.1 + 2 * p.2.2
  | 18 => 17 + 19 * p.2.1
  | 19 => 87 + 2 * p.2.1
  | 20 => 88 + 2 * p.2.1
  | k => if k < 11 then k else 70 + k
theorem xj_PL_all : (List.range 116).all (fun q => match xj_PL[q]? with | some p => xj_ix p == q | none => false) = true := by decide +kernel
theorem xj_PL_len : xj_PL.length = 116 := by decide +kernel
theorem xj_PL_ix (q : Nat) (p : Nat × Nat × Nat) (h : xj_PL[q]? = some p) : xj_ix p = q := by
  have hq : q < 116 := by
    have := (List.getElem?_eq_some_iff.mp h).1
    rw [xj_PL_len] at this
    exact this
  have h1 := List.all_eq_true.mp xj_PL_all q (List.mem_range.mpr hq)
  rw [h] at h1
  simpa using h1
/-- the references of the settled world -/
def xj_K0 (k r i x : Nat) : Option (Nat × Nat × Nat) := match k with
  | 0 => if x < 4 then ([some (1, 0, 0), some (8, 0, 0), some (9, 0, 0), some (10, 0, 0)].getD x none) else none
  | 1 => if x < 6 then some (2 + x, 0, 0) else none
  | 8 => if x < 4 then some (11, x, 0) else none
  | 9 => if x < 2 then some (19, x, 0) else none
  | 11 => ([none, some (1, 0, 0), some (12, r, 0), some (16, r, 0), some (16, r, 1), some (18, r, 0)].getD x none)
  | 12 => if x < 4 then some (13, r, x) else none
  | 13 => ([some (14, r, i), some (15, r, i)].getD x none)
  | 16 => ([some (17, r, i)].getD x none)
  | 19 => ([none, some (1, 0, 0), some (20, r, 0)].getD x none)
  | 21 => ([none, some (22, 0, 0), some (23, 0, 0), some (24, 0, 0), some (25, 0, 0), some (26, 0, 0), some (27, 0, 0), some (28, 0, 0), some (29, 0, 0), some (30, 0, 0), some (31, 0, 0), some (32, 0, 0), some (33, 0, 0), some (34, 0, 0), some (35, 0, 0), some (36, 0, 0), some (37, 0, 0), some (38, 0, 0), some (39, 0, 0), some (40, 0, 0), none, none, some (41, 0, 0), some (42, 0, 0), some (43, 0, 0), some (44, 0, 0), some (45, 0, 0)].getD x none)
  | _ => none
def xj_T0 : u_T := fun k => match k with
  | 0 => ("ThreePhaseGroup", "board", "LThreePhaseGroup$Board;", true)
  | 1 => ("ThreePhaseGroup", "replicas", "[LThreePhaseGroup$Replica;", true)
  | 2 => ("ThreePhaseGroup", "clients", "[LThreePhaseGroup$Client;", true)
  | 3 => ("ThreePhaseGroup", "marks", "[I", true)
  | _ => ("ThreePhaseGroup", "faulty", "I", false)
def xj_t0 : Nat → FieldType := fun k => match k with
  | 0 => .object "ThreePhaseGroup$Board"
  | 1 => .array (.object "ThreePhaseGroup$Replica")
  | 2 => .array (.object "ThreePhaseGroup$Client")
  | 3 => .array (.int)
  | _ => .int
def xj_T1 : u_T := fun k => match k with
  | 0 => ("ThreePhaseGroup$Board", "kind", "[I", true)
  | 1 => ("ThreePhaseGroup$Board", "sender", "[I", true)
  | 2 => ("ThreePhaseGroup$Board", "a", "[I", true)
  | 3 => ("ThreePhaseGroup$Board", "b", "[J", true)
  | 4 => ("ThreePhaseGroup$Board", "c", "[I", true)
  | 5 => ("ThreePhaseGroup$Board", "valid", "[Z", true)
  | 6 => ("ThreePhaseGroup$Board", "size", "I", false)
  | _ => ("ThreePhaseGroup$Board", "judged", "I", false)
def xj_t1 : Nat → FieldType := fun k => match k with
  | 0 => .array (.int)
  | 1 => .array (.int)
  | 2 => .array (.int)
  | 3 => .array (.long)
  | 4 => .array (.int)
  | 5 => .array (.boolean)
  | 6 => .int
  | _ => .int
def xj_T2 : u_T := fun k => match k with
  | 0 => ("ThreePhaseGroup$Replica", "self", "I", true)
  | 1 => ("ThreePhaseGroup$Replica", "board", "LThreePhaseGroup$Board;", true)
  | 2 => ("ThreePhaseGroup$Replica", "slots", "[LThreePhaseGroup$Slot;", true)
  | 3 => ("ThreePhaseGroup$Replica", "known", "LThreePhaseGroup$Numbers;", true)
  | 4 => ("ThreePhaseGroup$Replica", "checkpoints", "LThreePhaseGroup$Numbers;", true)
  | 5 => ("ThreePhaseGroup$Replica", "viewChanges", "[I", true)
  | 6 => ("ThreePhaseGroup$Replica", "view", "I", false)
  | 7 => ("ThreePhaseGroup$Replica", "changing", "Z", false)
  | 8 => ("ThreePhaseGroup$Replica", "stable", "I", false)
  | 9 => ("ThreePhaseGroup$Replica", "executed", "I", false)
  | 10 => ("ThreePhaseGroup$Replica", "state", "J", false)
  | 11 => ("ThreePhaseGroup$Replica", "timer", "I", false)
  | 12 => ("ThreePhaseGroup$Replica", "span", "I", false)
  | _ => ("ThreePhaseGroup$Replica", "renewing", "Z", false)
def xj_t2 : Nat → FieldType := fun k => match k with
  | 0 => .int
  | 1 => .object "ThreePhaseGroup$Board"
  | 2 => .array (.object "ThreePhaseGroup$Slot")
  | 3 => .object "ThreePhaseGroup$Numbers"
  | 4 => .object "ThreePhaseGroup$Numbers"
  | 5 => .array (.int)
  | 6 => .int
  | 7 => .boolean
  | 8 => .int
  | 9 => .int
  | 10 => .long
  | 11 => .int
  | 12 => .int
  | _ => .boolean
def xj_T3 : u_T := fun k => match k with
  | 0 => ("ThreePhaseGroup$Slot", "prepares", "[J", true)
  | 1 => ("ThreePhaseGroup$Slot", "commits", "[J", true)
  | 2 => ("ThreePhaseGroup$Slot", "accepted", "I", false)
  | 3 => ("ThreePhaseGroup$Slot", "decided", "I", false)
  | _ => ("ThreePhaseGroup$Slot", "claim", "I", false)
def xj_t3 : Nat → FieldType := fun k => match k with
  | 0 => .array (.long)
  | 1 => .array (.long)
  | 2 => .int
  | 3 => .int
  | _ => .int
def xj_T4 : u_T := fun k => match k with
  | 0 => ("ThreePhaseGroup$Numbers", "at", "[I", true)
  | _ => ("ThreePhaseGroup$Numbers", "size", "I", false)
def xj_t4 : Nat → FieldType := fun k => match k with
  | 0 => .array (.int)
  | _ => .int
def xj_T5 : u_T := fun k => match k with
  | 0 => ("ThreePhaseGroup$Client", "self", "I", true)
  | 1 => ("ThreePhaseGroup$Client", "board", "LThreePhaseGroup$Board;", true)
  | 2 => ("ThreePhaseGroup$Client", "replies", "[J", true)
  | 3 => ("ThreePhaseGroup$Client", "submitted", "I", false)
  | 4 => ("ThreePhaseGroup$Client", "outstanding", "I", false)
  | _ => ("ThreePhaseGroup$Client", "latestAnswer", "I", false)
def xj_t5 : Nat → FieldType := fun k => match k with
  | 0 => .int
  | 1 => .object "ThreePhaseGroup$Board"
  | 2 => .array (.long)
  | 3 => .int
  | 4 => .int
  | _ => .int
def xj_T6 : u_T := fun k => match k with
  | 0 => ("ThreePhaseGroupModel", "count", "I", false)
  | 1 => ("ThreePhaseGroupModel", "kind", "[I", true)
  | 2 => ("ThreePhaseGroupModel", "from", "[I", true)
  | 3 => ("ThreePhaseGroupModel", "a", "[I", true)
  | 4 => ("ThreePhaseGroupModel", "b", "[J", true)
  | 5 => ("ThreePhaseGroupModel", "c", "[I", true)
  | 6 => ("ThreePhaseGroupModel", "forged", "[Z", true)
  | 7 => ("ThreePhaseGroupModel", "noted", "[Z", true)
  | 8 => ("ThreePhaseGroupModel", "known", "[Z", true)
  | 9 => ("ThreePhaseGroupModel", "view", "[I", true)
  | 10 => ("ThreePhaseGroupModel", "changing", "[Z", true)
  | 11 => ("ThreePhaseGroupModel", "h", "[I", true)
  | 12 => ("ThreePhaseGroupModel", "e", "[I", true)
  | 13 => ("ThreePhaseGroupModel", "state", "[J", true)
  | 14 => ("ThreePhaseGroupModel", "span", "[I", true)
  | 15 => ("ThreePhaseGroupModel", "timer", "[I", true)
  | 16 => ("ThreePhaseGroupModel", "accepted", "[I", true)
  | 17 => ("ThreePhaseGroupModel", "decided", "[I", true)
  | 18 => ("ThreePhaseGroupModel", "certified", "[I", true)
  | 19 => ("ThreePhaseGroupModel", "certView", "[I", true)
  | 20 => ("ThreePhaseGroupModel", "faulty", "I", false)
  | 21 => ("ThreePhaseGroupModel", "afresh", "Z", false)
  | 22 => ("ThreePhaseGroupModel", "stamp", "[I", true)
  | 23 => ("ThreePhaseGroupModel", "open", "[I", true)
  | 24 => ("ThreePhaseGroupModel", "reply", "[I", true)
  | 25 => ("ThreePhaseGroupModel", "taken", "[Z", true)
  | _ => ("ThreePhaseGroupModel", "mark", "[I", true)
def xj_t6 : Nat → FieldType := fun k => match k with
  | 0 => .int
  | 1 => .array (.int)
  | 2 => .array (.int)
  | 3 => .array (.int)
  | 4 => .array (.long)
  | 5 => .array (.int)
  | 6 => .array (.boolean)
  | 7 => .array (.boolean)
  | 8 => .array (.boolean)
  | 9 => .array (.int)
  | 10 => .array (.boolean)
  | 11 => .array (.int)
  | 12 => .array (.int)
  | 13 => .array (.long)
  | 14 => .array (.int)
  | 15 => .array (.int)
  | 16 => .array (.int)
  | 17 => .array (.int)
  | 18 => .array (.int)
  | 19 => .array (.int)
  | 20 => .int
  | 21 => .boolean
  | 22 => .array (.int)
  | 23 => .array (.int)
  | 24 => .array (.int)
  | 25 => .array (.boolean)
  | _ => .array (.int)
abbrev xj_cl : List vw_C := [("ThreePhaseGroup", xj_T0, 5), ("ThreePhaseGroup$Board", xj_T1, 8), ("ThreePhaseGroup$Replica", xj_T2, 14), ("ThreePhaseGroup$Slot", xj_T3, 5), ("ThreePhaseGroup$Numbers", xj_T4, 2), ("ThreePhaseGroup$Client", xj_T5, 6), ("ThreePhaseGroupModel", xj_T6, 27)]
abbrev xj_ty (G : va_G × (Nat → ClassId) × Nat) : List (ClassId × FieldType) := [(G.2.1 0, .int), (G.2.1 1, .boolean), (G.2.1 2, .long), (G.2.1 3, .object "ThreePhaseGroup$Slot"), (G.2.1 4, .object "ThreePhaseGroup$Replica"), (G.2.1 5, .object "ThreePhaseGroup$Client")]
/-- the tables' words that every method may use: those that stay, and those of nest mates and of arrays of objects -/
def xj_GW : List Cond := lw_tbl.filter goodWord
def xj_nest (c : Cond) : Bool := match c with
  | .fieldLinkNest .. => true
  | .methodLinkNest .. => true
  | .arrayOver (.object _) => true
  | _ => false
def xj_NW : List Cond := lw_tbl.filter xj_nest
theorem xj_GW_good : ∀ w ∈ xj_GW, (w.onTables && w.keeps) = true ∨ ∃ ty, w = .arrayClass ty := fun w h => good_of_word (List.mem_filter.mp h).2
theorem xj_NW_m (c : Cond) (hc : c ∈ xj_NW) {s U : State} (hW : s.WarmedH U.vm) (h : va_Nw c s) : va_Nw c U := by
  have h2 := (List.mem_filter.mp hc).2
  unfold xj_nest at h2
  split at h2
  · exact va_Nw.warmF hW h
  · exact va_Nw.warmM hW h
  · exact va_AO.moved hW.alike h
  · cases h2
theorem xj_NW_s (c : Cond) (hc : c ∈ xj_NW) {u U : State} (he : u.vm = U.vm) (h : va_Nw c u) : va_Nw c U := by
  have h2 := (List.mem_filter.mp hc).2
  unfold xj_nest at h2
  split at h2
  · exact va_Nw.same rfl he h
  · exact va_Nw.same rfl he h
  · exact va_AO.moved (by rw [he]; exact Vm.Alike.refl _) h
  · cases h2
