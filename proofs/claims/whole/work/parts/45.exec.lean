/-! executing -/
/-- what a REQUEST holds -/
def pg_rq (B : pg_B) : Prop := ∀ m, m < B.1 → pg_k B m = 0 → (∃ t, t < 256 ∧ pg_a B m = nI t) ∧ (∃ o, o < 3 ∧ pg_b B m = lN o) ∧ ∃ c, c < 64 ∧ pg_c B m = nI c
theorem xb_v : ∀ k, k < 4 → ∀ c, c < 2 → ∀ x, x < 16 → ((lN x &&& 15) <<< ((nI (4 * k)).toInt64 &&& 63)) &&& (((4095 : Int64) <<< ((nI (16 + 12 * c)).toInt64 &&& 63)) ^^^ (-1)) = lN x <<< ((nI (4 * k)).toInt64 &&& 63) := by decide +kernel
theorem xb_w0 : ∀ c, c < 2 → ∀ t, t < 256 → ∀ x, x < 16 → (lN (t + 256 * x) &&& 4095) <<< ((nI (16 + 12 * c)).toInt64 &&& 63) = lN t <<< ((nI (16 + 12 * c)).toInt64 &&& 63) ||| lN x <<< ((nI (16 + 12 * c + 8)).toInt64 &&& 63) := by decide +kernel
theorem xb_ad (a b c : Int64) : (a ||| b) &&& c = (a &&& c) ||| (b &&& c) := by
  apply Int64.toBitVec_inj.mp
  simp only [Int64.toBitVec_and, Int64.toBitVec_or]
  exact BitVec.and_or_distrib_right
theorem xb_oa (a b c : Int64) : (a ||| b) ||| c = a ||| (b ||| c) := by
  apply Int64.toBitVec_inj.mp
  simp only [Int64.toBitVec_or]
  exact BitVec.or_assoc ..
theorem xb_st (st : Int64) {k c x t y : Nat} (hk : k < 4) (hc : c < 2) (hx : x < 16) (ht : t < 256) (hy : y < 16) :
    xn_wb (xn_wb st (nI 4 * nI k) 15 (nI x).toInt64) (nI 16 + nI 12 * nI c) 4095 (nI t + nI 256 * nI y).toInt64 = (((st &&& (((15 : Int64) <<< ((nI (4 * k)).toInt64 &&& 63)) ^^^ (-1)) &&& (((4095 : Int64) <<< ((nI (16 + 12 * c)).toInt64 &&& 63)) ^^^ (-1))) ||| (lN x) <<< ((nI (4 * k)).toInt64 &&& 63)) ||| (nI t).toInt64 <<< ((nI (16 + 12 * c)).toInt64 &&& 63)) ||| (lN y) <<< ((nI (16 + 12 * c + 8)).toInt64 &&& 63) := by
  rw [pk_mul, pk_mul, nI_add, pk_mul, nI_add, nI_l (show x < 2 ^ 31 by omega), nI_l (show t + 256 * y < 2 ^ 31 by omega), nI_l (show t < 2 ^ 31 by omega)]
  unfold xn_wb
  rw [xb_ad, xb_v k hk c hc x hx, xb_w0 c hc t ht y hy, ← xb_oa]
