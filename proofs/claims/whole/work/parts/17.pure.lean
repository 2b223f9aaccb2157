/-! The group as a mathematical value. The board: how many messages, their kind, sender, fields a, b, c, and which are forged. -/
abbrev pg_B : Type := Nat × (Nat → Nat) × (Nat → Nat) × (Nat → Int32) × (Nat → Int64) × (Nat → Int32) × (Nat → Bool)
abbrev pg_z (B : pg_B) : Nat := B.1
abbrev pg_k (B : pg_B) : Nat → Nat := B.2.1
abbrev pg_f (B : pg_B) : Nat → Nat := B.2.2.1
abbrev pg_a (B : pg_B) : Nat → Int32 := B.2.2.2.1
abbrev pg_b (B : pg_B) : Nat → Int64 := B.2.2.2.2.1
abbrev pg_c (B : pg_B) : Nat → Int32 := B.2.2.2.2.2.1
abbrev pg_g (B : pg_B) : Nat → Bool := B.2.2.2.2.2.2
def pg_send (B : pg_B) (k p : Nat) (x : Int32) (y : Int64) (z : Int32) (g : Bool) : pg_B :=
  (B.1 + 1, va_up (pg_k B) B.1 k, va_up (pg_f B) B.1 p, va_up (pg_a B) B.1 x, va_up (pg_b B) B.1 y, va_up (pg_c B) B.1 z, va_up (pg_g B) B.1 g)
/-- how many replicas but one send such a message below m -/
def pg_cnt (m : Nat) (f : Nat → Nat) (P : Nat → Bool) (but : Nat) : Nat := ((List.range 4).filter (fun s => s != but && (List.range m).any (fun i => f i == s && P i))).length
def pg_cp (B : pg_B) (x : Int32) (y : Int64) (i : Nat) : Bool := pg_k B i == 7 && (pg_a B i == x && pg_b B i == y)
def pg_pr (B : pg_B) (w : Int32) (n : Int64) (i : Nat) : Bool := pg_k B i == 2 && (pg_a B i == w && pg_b B i == n)
/-- the message by which n is certified below m -/
def pg_proof (B : pg_B) (n : Int64) (m : Nat) : Option Nat := (List.range m).find? (fun i => pg_k B i == 7 && ((pg_a B i).toInt64 == n && decide (3 ≤ pg_cnt m (pg_f B) (pg_cp B (pg_a B i) (pg_b B i)) 9)))
/-- the request by which w and n are backed below m; -2 without one -/
def pg_back (B : pg_B) (w : Nat) (n : Int64) (m : Nat) : Int32 := match (List.range m).find? (fun i => pg_pr B (nI w) n i && decide (2 ≤ pg_cnt m (pg_f B) (fun j => pg_pr B (nI w) n j && pg_c B j == pg_c B i) (w % 4))) with
  | some i => pg_c B i
  | none => -2
def pg_cl (c : Int32) (j : Nat) : Nat := c.toBitVec.toNat / 2 ^ (5 * j) % 32
/-- VALID, of a VIEW-CHANGE -/
def pg_gc (B : pg_B) (m : Nat) : Bool :=
  pg_k B m == 5 && (decide (1 ≤ pg_a B m) && (decide (pg_a B m ≤ 15) && ((pg_b B m == 0 || (pg_proof B (pg_b B m) m).isSome) && (decide ((pg_c B m).toBitVec.toNat < 2 ^ 20) &&
    (List.range 4).all (fun j => pg_cl (pg_c B m) j == 0 || (decide (nI (pg_cl (pg_c B m) j) ≤ pg_a B m) && pg_back B (pg_cl (pg_c B m) j - 1) (pg_b B m + 1 + lN j) m != -2))))))
def pg_vt (y : Int64) (k : Nat) : Nat := y.toBitVec.toNat / 2 ^ (8 * k) % 256
def pg_nb (B : pg_B) (x : Nat) : Nat := (pg_b B x).toInt.toNat
/-- START -/
def pg_st (B : pg_B) (y : Int64) : Nat := max (max (pg_nb B (pg_vt y 0)) (pg_nb B (pg_vt y 1))) (pg_nb B (pg_vt y 2))
def pg_cm (B : pg_B) (x n : Nat) : Nat := if pg_nb B x < n ∧ n ≤ pg_nb B x + 4 then pg_cl (pg_c B x) (n - 1 - pg_nb B x) else 0
/-- the greatest claim for n among the votes, and whose it is -/
def pg_tp (B : pg_B) (y : Int64) (n : Nat) : Nat → Nat × Nat
  | 0 => (0, 0)
  | k + 1 => if (pg_tp B y n k).1 < pg_cm B (pg_vt y k) n then (pg_cm B (pg_vt y k) n, pg_vt y k) else pg_tp B y n k
def pg_cd (B : pg_B) (y : Int64) (j : Nat) : Int32 :=
  if 0 < (pg_tp B y (pg_st B y + 1 + j) 3).1 then pg_back B ((pg_tp B y (pg_st B y + 1 + j) 3).1 - 1) (lN (pg_st B y + 1 + j)) (pg_tp B y (pg_st B y + 1 + j) 3).2 + 2
  else if (List.range 4).any (fun i => decide (j < i) && decide (0 < (pg_tp B y (pg_st B y + 1 + i) 3).1)) then 1 else 0
/-- the orders due by the votes -/
def pg_od (B : pg_B) (y : Int64) : Int32 := (((0 ||| pg_cd B y 3 <<< (24 : Int32)) ||| pg_cd B y 2 <<< (16 : Int32)) ||| pg_cd B y 1 <<< (8 : Int32)) ||| pg_cd B y 0 <<< (0 : Int32)
/-- VALID, of a NEW-VIEW -/
def pg_gn (B : pg_B) (m : Nat) : Bool :=
  pg_k B m == 6 && (decide (1 ≤ pg_a B m) && (decide (pg_a B m ≤ 15) && (decide ((pg_b B m).toBitVec.toNat ≤ 16777215) &&
    ((List.range 3).all (fun k => decide (pg_vt (pg_b B m) k < m) && (pg_a B (pg_vt (pg_b B m) k) == pg_a B m && (pg_gc B (pg_vt (pg_b B m) k) && (List.range k).all (fun i => pg_f B (pg_vt (pg_b B m) i) != pg_f B (pg_vt (pg_b B m) k))))) && pg_c B m == pg_od B (pg_b B m)))))
/-! A replica: Nat-valued parts by tag (0 view, 1 changing, 2 h, 3 e, 4 span, 5 timer, 6 accepted, 7 decided, 8 cert, 9 noted, 10 known, 11 afresh), and its state. -/
abbrev pg_R : Type := (Nat → Nat → Nat) × Int64
def pg_u (R : pg_R) (t i x : Nat) : pg_R := (fun t' i' => if t' = t ∧ i' = i then x else R.1 t' i', R.2)
def pg_w (R : pg_R) (t : Nat) (f : Nat → Nat) : pg_R := (fun t' i' => if t' = t then f i' else R.1 t' i', R.2)
def pg_ss (R : pg_R) (x : Int64) : pg_R := (R.1, x)
abbrev pg_vw (R : pg_R) : Nat := R.1 0 0
abbrev pg_ch (R : pg_R) : Nat := R.1 1 0
abbrev pg_h (R : pg_R) : Nat := R.1 2 0
abbrev pg_e (R : pg_R) : Nat := R.1 3 0
abbrev pg_sp (R : pg_R) : Nat := R.1 4 0
abbrev pg_tm (R : pg_R) : Nat := R.1 5 0
abbrev pg_ac (R : pg_R) : Nat → Nat := R.1 6
abbrev pg_de (R : pg_R) : Nat → Nat := R.1 7
abbrev pg_ct (R : pg_R) : Nat → Nat := R.1 8
abbrev pg_no (R : pg_R) : Nat → Nat := R.1 9
abbrev pg_kn (R : pg_R) : Nat → Nat := R.1 10
abbrev pg_af (R : pg_R) : Nat := R.1 11 0
/-! what a replica takes, and its rules, over the board and its own state -/
abbrev pg_S : Type := pg_B × pg_R
/-- it sends: the message lies on the board, and it notes it -/
def pg_own (r : Nat) (S : pg_S) (k : Nat) (x : Int32) (y : Int64) (z : Int32) : pg_S := (pg_send S.1 k r x y z false, pg_u S.2 9 S.1.1 1)
def pg_sent (B : pg_B) (r k w n : Nat) : Bool := (List.range B.1).any (fun i => pg_f B i == r && (!pg_g B i && (pg_k B i == k && (pg_a B i == nI w && pg_b B i == lN n))))
/-- how many replicas' such messages are noted -/
def pg_hr (S : pg_S) (k : Nat) (x : Int32) (y : Int64) (z : Int32) : Nat := pg_cnt S.1.1 (pg_f S.1) (fun i => pg_no S.2 i == 1 && (pg_k S.1 i == k && (pg_a S.1 i == x && (pg_b S.1 i == y && pg_c S.1 i == z)))) 9
/-- whether such a message of s is noted -/
def pg_nts (S : pg_S) (k s : Nat) (x : Int32) (y : Int64) : Bool := (List.range S.1.1).any (fun i => pg_no S.2 i == 1 && (pg_k S.1 i == k && (pg_f S.1 i == s && (pg_a S.1 i == x && (k == 7 || pg_b S.1 i == y)))))
def pg_ts (st : Int64) (c : Nat) : Nat := st.toBitVec.toNat / 2 ^ (16 + 12 * c) % 256
/-- a known request waits -/
def pg_wt (S : pg_S) (m : Nat) : Bool := pg_k S.1 m == 0 && (pg_kn S.2 m == 1 && decide (nI (pg_ts S.2.2 (pg_f S.1 m - 4)) < pg_a S.1 m))
def pg_wn (S : pg_S) : Nat := ((List.range S.1.1).filter (pg_wt S)).length
def pg_win (R : pg_R) (n : Int64) : Bool := decide (lN (pg_h R) < n) && decide (n ≤ lN (pg_h R + 4))
def pg_same (S : pg_S) (m : Nat) : Bool := pg_ch S.2 == 0 && (pg_a S.1 m == nI (pg_vw S.2) && pg_win S.2 (pg_b S.1 m))
def pg_later (S : pg_S) (m : Nat) : Bool := decide (nI (pg_vw S.2) < pg_a S.1 m) || (pg_a S.1 m == nI (pg_vw S.2) && pg_ch S.2 == 1)
def pg_tReq (S : pg_S) (m : Nat) : Option pg_S := if pg_kn S.2 m = 1 then none else if pg_wt (S.1, pg_u S.2 10 m 1) m then some (S.1, pg_u S.2 10 m 1) else none
/-- the code of a request: 0 none, 1 the empty one -/
def pg_cq (q : Int32) : Nat := (q + 2).toInt.toNat
def pg_tOrd (S : pg_S) (m : Nat) : Option pg_S :=
  if pg_ac S.2 (pg_nb S.1 m) ≠ 0 ∨ pg_c S.1 m < -1 ∨ nI m ≤ pg_c S.1 m ∨ (0 ≤ pg_c S.1 m ∧ pg_k S.1 (pg_c S.1 m).toInt.toNat ≠ 0) then none
  else if 0 ≤ pg_c S.1 m then some (S.1, pg_u (pg_u S.2 6 (pg_nb S.1 m) (pg_cq (pg_c S.1 m))) 10 (pg_c S.1 m).toInt.toNat 1)
  else some (S.1, pg_u S.2 6 (pg_nb S.1 m) (pg_cq (pg_c S.1 m)))
def pg_tChg (S : pg_S) (m : Nat) : Option pg_S :=
  if (List.range S.1.1).any (fun i => pg_no S.2 i == 1 && (pg_k S.1 i == 5 && (pg_f S.1 i == pg_f S.1 m && decide (pg_a S.1 m ≤ pg_a S.1 i)))) then none
  else some (S.1, pg_u (pg_w S.2 9 (fun i => if i < S.1.1 ∧ pg_no S.2 i = 1 ∧ pg_k S.1 i = 5 ∧ pg_f S.1 i = pg_f S.1 m then 0 else pg_no S.2 i)) 9 m 1)
/-- it settles at n with a state -/
def pg_set (R : pg_R) (n : Nat) (x : Int64) : pg_R :=
  let cl := fun (f : Nat → Nat) k => if k ≤ n then 0 else f k
  let R1 := pg_w (pg_w (pg_w R 6 (cl (pg_ac R))) 7 (cl (pg_de R))) 8 (cl (pg_ct R))
  if n ≤ pg_e R then pg_u R1 2 0 n else pg_ss (pg_u (pg_u R1 2 0 n) 3 0 n) x
def pg_drop (R : pg_R) : pg_R := pg_w R 6 (fun _ => 0)
/-- the replica's value in another view -/
def pg_mv (R : pg_R) (w : Nat) : pg_R := pg_drop (pg_u (pg_u R 0 0 w) 11 0 1)
def pg_od1 (c : Int32) (j : Nat) : Nat := c.toBitVec.toNat / 2 ^ (8 * j) % 256
/-- one order is accepted -/
def pg_en1 (c : Int32) (st : Nat) (R : pg_R) (j : Nat) : pg_R :=
  if 0 < pg_od1 c j ∧ pg_h R < st + 1 + j then
    (if 1 < pg_od1 c j then pg_u (pg_u R 6 (st + 1 + j) (pg_od1 c j)) 10 (pg_od1 c j - 2) 1 else pg_u R 6 (st + 1 + j) (pg_od1 c j))
  else R
/-- the certified state -/
def pg_bp (B : pg_B) (o : Option Nat) : Int64 := match o with
  | some p => pg_b B p
  | none => 0
/-- it enters by the NEW-VIEW m -/
def pg_ent (S : pg_S) (m : Nat) : pg_R :=
  let st := pg_st S.1 (pg_b S.1 m)
  let R1 := pg_u (pg_mv S.2 (pg_a S.1 m).toInt.toNat) 1 0 0
  let R2 := if pg_h S.2 < st then pg_set R1 st (pg_bp S.1 (pg_proof S.1 (lN st) m)) else R1
  let c := pg_c S.1 m
  pg_en1 c st (pg_en1 c st (pg_en1 c st (pg_en1 c st R2 0) 1) 2) 3
/-- it begins a change to v -/
def pg_beg (r : Nat) (S : pg_S) (v : Nat) : pg_S :=
  let R2 := pg_u (pg_u (pg_mv S.2 v) 1 0 1) 4 0 (min (2 * pg_sp S.2) 32)
  let h := pg_h S.2
  let cl := ((((0 : Int32) ||| nI (pg_ct S.2 (h + 1)) <<< (0 : Int32)) ||| nI (pg_ct S.2 (h + 2)) <<< (5 : Int32)) ||| nI (pg_ct S.2 (h + 3)) <<< (10 : Int32)) ||| nI (pg_ct S.2 (h + 4)) <<< (15 : Int32)
  pg_own r (S.1, R2) 5 (nI v) (lN h) cl
/-- what r takes of the message m -/
def pg_takes (r : Nat) (S : pg_S) (m : Nat) : Option pg_S :=
  if pg_f S.1 m = r then none else
  match pg_k S.1 m with
  | 0 => pg_tReq S m
  | 1 => if pg_same S m && pg_f S.1 m == pg_vw S.2 % 4 then pg_tOrd S m else none
  | 2 => if pg_same S m && (pg_f S.1 m != pg_vw S.2 % 4 && !pg_nts S 2 (pg_f S.1 m) (pg_a S.1 m) (pg_b S.1 m)) then some (S.1, pg_u S.2 9 m 1) else none
  | 3 => if pg_same S m && !pg_nts S 3 (pg_f S.1 m) (pg_a S.1 m) (pg_b S.1 m) then some (S.1, pg_u S.2 9 m 1) else none
  | 5 => if pg_later S m && pg_gc S.1 m then pg_tChg S m else none
  | 6 => if pg_later S m && (decide ((pg_a S.1 m).toInt.toNat % 4 = pg_f S.1 m) && pg_gn S.1 m) then some (S.1, pg_ent S m) else none
  | 7 => if decide ((pg_a S.1 m).toInt % 2 = 0) && (decide (nI (pg_h S.2) < pg_a S.1 m) && !pg_nts S 7 (pg_f S.1 m) (pg_a S.1 m) 0) then some (S.1, pg_u S.2 9 m 1) else none
  | _ => none
/-! the rules -/
def pg_fst (h : Nat) (P : Nat → Bool) : Option Nat := [h + 1, h + 2, h + 3, h + 4].find? P
def pg_r1 (r : Nat) (S : pg_S) : Option pg_S :=
  if pg_ch S.2 = 1 ∨ pg_vw S.2 % 4 = r then none else
  match pg_fst (pg_h S.2) (fun n => pg_ac S.2 n != 0 && !pg_sent S.1 r 2 (pg_vw S.2) n) with
  | some n => some (pg_own r S 2 (nI (pg_vw S.2)) (lN n) (nI (pg_ac S.2 n) - 2))
  | none => none
def pg_r2 (r : Nat) (S : pg_S) : Option pg_S :=
  match pg_fst (pg_h S.2) (fun n => pg_ac S.2 n != 0 && (!pg_sent S.1 r 3 (pg_vw S.2) n && decide (2 ≤ pg_hr S 2 (nI (pg_vw S.2)) (lN n) (nI (pg_ac S.2 n) - 2)))) with
  | some n => some (pg_own r (S.1, pg_u S.2 8 n (1 + pg_vw S.2)) 3 (nI (pg_vw S.2)) (lN n) (nI (pg_ac S.2 n) - 2))
  | none => none
def pg_r3 (r : Nat) (S : pg_S) : Option pg_S :=
  match pg_fst (pg_h S.2) (fun n => pg_ac S.2 n != 0 && (pg_de S.2 n == 0 && (pg_sent S.1 r 3 (pg_vw S.2) n && decide (3 ≤ pg_hr S 3 (nI (pg_vw S.2)) (lN n) (nI (pg_ac S.2 n) - 2))))) with
  | some n => some (S.1, pg_u S.2 7 n (pg_ac S.2 n))
  | none => none
/-- the service's answer to the request q, and the state behind it -/
def pg_vl (st : Int64) (k : Nat) : Nat := st.toBitVec.toNat / 2 ^ (4 * k) % 16
def pg_key (B : pg_B) (q : Nat) : Nat := (pg_c B q).toInt.toNat / 16
def pg_now (B : pg_B) (q : Nat) (st : Int64) : Nat :=
  if pg_b B q = 0 then pg_vl st (pg_key B q) else if pg_b B q = 1 then (pg_c B q).toInt.toNat % 16 else (pg_vl st (pg_key B q) + (pg_c B q).toInt.toNat % 16) % 16
def pg_res (B : pg_B) (q : Nat) (st : Int64) : Nat := if pg_b B q = 2 then pg_now B q st else pg_vl st (pg_key B q)
def pg_nst (B : pg_B) (q : Nat) (st : Int64) : Int64 :=
  let pl := (nI (4 * pg_key B q)).toInt64 &&& 63
  let lo := (nI (16 + 12 * (pg_f B q - 4))).toInt64 &&& 63
  let lo8 := (nI (16 + 12 * (pg_f B q - 4) + 8)).toInt64 &&& 63
  (((st &&& (((15 : Int64) <<< pl) ^^^ (-1)) &&& (((4095 : Int64) <<< lo) ^^^ (-1))) ||| (lN (pg_now B q st)) <<< pl) ||| (pg_a B q).toInt64 <<< lo) ||| (lN (pg_res B q st)) <<< lo8
def pg_srv (r : Nat) (S : pg_S) (q : Nat) : pg_S :=
  let st := S.2.2
  pg_own r (S.1, pg_u (pg_u (pg_ss S.2 (pg_nst S.1 q st)) 4 0 4) 11 0 1) 4 (nI (pg_f S.1 q - 4)) (pg_a S.1 q).toInt64 (nI (pg_res S.1 q st))
def pg_r4 (r : Nat) (S : pg_S) : Option pg_S :=
  let c := pg_de S.2 (pg_e S.2 + 1)
  if c = 0 then none else
  let S1 : pg_S := (S.1, pg_u S.2 3 0 (pg_e S.2 + 1))
  let S2 := if 2 ≤ c ∧ pg_wt S1 (c - 2) = true then pg_srv r S1 (c - 2) else S1
  some (if pg_e S2.2 % 2 = 0 then pg_own r S2 7 (nI (pg_e S2.2)) S2.2.2 0 else S2)
/-- the noted checkpoint that rule 5 settles at -/
def pg_bst (S : pg_S) : Nat → Option Nat
  | 0 => none
  | i + 1 =>
    let b := pg_bst S i
    if pg_no S.2 i == 1 && (pg_k S.1 i == 7 && (decide (nI (pg_h S.2) < pg_a S.1 i) && ((match b with | none => true | some j => decide (pg_a S.1 j < pg_a S.1 i)) && decide (3 ≤ pg_hr S 7 (pg_a S.1 i) (pg_b S.1 i) 0)))) then some i else b
def pg_r5 (S : pg_S) : Option pg_S := match pg_bst S S.1.1 with
  | some i => some (S.1, pg_set S.2 (pg_a S.1 i).toInt.toNat (pg_b S.1 i))
  | none => none
def pg_vcs (S : pg_S) : List Nat := (List.range S.1.1).filter (fun i => pg_no S.2 i == 1 && (pg_k S.1 i == 5 && decide (nI (pg_vw S.2) < pg_a S.1 i)))
def pg_r6 (r : Nat) (S : pg_S) : Option pg_S :=
  if (pg_vcs S).length < 2 then none else some (pg_beg r S ((pg_vcs S).foldl (fun l i => min l (pg_a S.1 i).toInt.toNat) 99))
/-- the noted VIEW-CHANGE of s for the view -/
def pg_vc (S : pg_S) (s : Nat) : Option Nat := ((List.range S.1.1).filter (fun i => pg_no S.2 i == 1 && (pg_k S.1 i == 5 && (pg_a S.1 i == nI (pg_vw S.2) && pg_f S.1 i == s)))).getLast?
/-- the votes that rule 7 takes: votes, others, own -/
def pg_vts (r : Nat) (S : pg_S) : Nat → Int32 × Nat × Bool
  | 0 => (0, 0, false)
  | s + 1 =>
    let t := pg_vts r S s
    match pg_vc S s with
    | none => t
    | some x => if s = r then (t.1 ||| nI x <<< nI (8 * (t.2.1 + (if t.2.2 then 1 else 0))), t.2.1, true)
      else if t.2.1 < 2 then (t.1 ||| nI x <<< nI (8 * (t.2.1 + (if t.2.2 then 1 else 0))), t.2.1 + 1, t.2.2) else t
def pg_r7 (r : Nat) (S : pg_S) : Option pg_S :=
  if pg_ch S.2 = 0 ∨ pg_vw S.2 % 4 ≠ r then none else
  let t := pg_vts r S 4
  if t.2.2 = false ∨ t.2.1 < 2 then none else
  let S2 := pg_own r S 6 (nI (pg_vw S.2)) t.1.toInt64 (pg_od S.1 t.1.toInt64)
  some (S2.1, pg_ent S2 S.1.1)
def pg_nxt (R : pg_R) : Nat :=
  if pg_ac R (pg_h R + 4) ≠ 0 then pg_h R + 5 else if pg_ac R (pg_h R + 3) ≠ 0 then pg_h R + 4 else if pg_ac R (pg_h R + 2) ≠ 0 then pg_h R + 3 else if pg_ac R (pg_h R + 1) ≠ 0 then pg_h R + 2 else pg_h R + 1
def pg_acd (R : pg_R) (m : Nat) : Bool := [pg_h R + 1, pg_h R + 2, pg_h R + 3, pg_h R + 4].any (fun n => pg_ac R n == m + 2)
def pg_r8 (r : Nat) (S : pg_S) : Option pg_S :=
  if pg_ch S.2 = 1 ∨ pg_vw S.2 % 4 ≠ r ∨ pg_h S.2 + 4 < pg_nxt S.2 then none else
  match (List.range S.1.1).find? (fun m => !pg_acd S.2 m && pg_wt S m) with
  | some m => some ((pg_own r S 1 (nI (pg_vw S.2)) (lN (pg_nxt S.2)) (nI m)).1, pg_u (pg_own r S 1 (nI (pg_vw S.2)) (lN (pg_nxt S.2)) (nI m)).2 6 (pg_nxt S.2) (m + 2))
  | none => none
/-- the first rule that applies -/
def pg_rl (r : Nat) (S : pg_S) : Option pg_S :=
  (pg_r1 r S).or ((pg_r2 r S).or ((pg_r3 r S).or ((pg_r4 r S).or ((pg_r5 S).or ((pg_r6 r S).or ((pg_r7 r S).or (pg_r8 r S)))))))
/-- again and again, at most n times -/
def pg_rls (r : Nat) : Nat → pg_S → pg_S
  | 0, S => S
  | n + 1, S => match pg_rl r S with
    | some S2 => pg_rls r n S2
    | none => S
/-- the timer behind the rules -/
def pg_tmr (S : pg_S) : pg_R :=
  if pg_vw S.2 = 15 ∨ (pg_ch S.2 = 0 ∧ pg_wn S = 0) then pg_u S.2 5 0 0 else if pg_tm S.2 = 0 ∨ pg_af S.2 = 1 then pg_u S.2 5 0 (pg_sp S.2) else S.2
/-- the rules, then the timer (the mark 'afresh' is wiped behind it) -/
def pg_run (r : Nat) (S : pg_S) : pg_S := ((pg_rls r 1000 S).1, pg_u (pg_tmr (pg_rls r 1000 S)) 11 0 0)
