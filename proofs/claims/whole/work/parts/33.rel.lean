/-! how the replica's cells move with its value -/
theorem pg_u_at (R : pg_R) (t i x t' i' : Nat) : (pg_u R t i x).1 t' i' = if t' = t ∧ i' = i then x else R.1 t' i' := rfl
theorem pg_u_st (R : pg_R) (t i x : Nat) : (pg_u R t i x).2 = R.2 := rfl
theorem pg_w_at (R : pg_R) (t : Nat) (f : Nat → Nat) (t' i' : Nat) : (pg_w R t f).1 t' i' = if t' = t then f i' else R.1 t' i' := rfl
theorem pg_w_st (R : pg_R) (t : Nat) (f : Nat → Nat) : (pg_w R t f).2 = R.2 := rfl
/-- only cells of replica r have changed -/
def xf_R (r : Nat) (v v' : xn_V) : Prop := ∀ k r' i x, ¬ (11 ≤ k ∧ k ≤ 18 ∧ r' = r) → v'.1 k r' i x = v.1 k r' i x ∧ v'.2 k r' i x = v.2 k r' i x
theorem xf_R.rf (r : Nat) (v : xn_V) : xf_R r v v := fun _ _ _ _ _ => ⟨rfl, rfl⟩
theorem xf_R.tr {r : Nat} {v v1 v2 : xn_V} (h : xf_R r v v1) (g : xf_R r v1 v2) : xf_R r v v2 := fun k r' i x hk => ⟨(g k r' i x hk).1.trans (h k r' i x hk).1, (g k r' i x hk).2.trans (h k r' i x hk).2⟩
theorem xf_R.uI {r : Nat} {v v1 : xn_V} (h : xf_R r v v1) {k i x : Nat} {y : Int32} (hk : 11 ≤ k ∧ k ≤ 18) : xf_R r v (xn_uI v1 k r i x y) := by
  intro k' r' i' x' hn
  have h2 := h k' r' i' x' hn
  refine ⟨?_, h2.2⟩
  show (if k' = k ∧ r' = r ∧ i' = i ∧ x' = x then y else v1.1 k' r' i' x') = _
  rw [if_neg (by omega)]
  exact h2.1
theorem xf_R.uJ {r : Nat} {v v1 : xn_V} (h : xf_R r v v1) {k i x : Nat} {y : Int64} (hk : 11 ≤ k ∧ k ≤ 18) : xf_R r v (xn_uJ v1 k r i x y) := by
  intro k' r' i' x' hn
  have h2 := h k' r' i' x' hn
  refine ⟨h2.1, ?_⟩
  show (if k' = k ∧ r' = r ∧ i' = i ∧ x' = x then y else v1.2 k' r' i' x') = _
  rw [if_neg (by omega)]
  exact h2.2
theorem xf_R.add {r : Nat} {v v1 : xn_V} (h : xf_R r v v1) {i z : Nat} {m : Int32} : xf_R r v (xn_add v1 r i z m) := by
  unfold xn_add
  split
  · exact (h.uI (by omega)).uI (by omega)
  · exact h
theorem xc_B.R {B : pg_B} {v v' : xn_V} {r : Nat} (h : xc_B B v) (hf : xf_R r v v') : xc_B B v' := by
  obtain ⟨h1, h2, h3, h4⟩ := h
  refine ⟨by rw [(hf 1 0 0 6 (by omega)).1]; exact h1, h2, h3, fun m hm => ?_⟩
  rw [(hf 2 0 0 m (by omega)).1, (hf 3 0 0 m (by omega)).1, (hf 4 0 0 m (by omega)).1, (hf 5 0 0 m (by omega)).2, (hf 6 0 0 m (by omega)).1]
  exact h4 m hm
/-! rows of numbers -/
theorem xc_L.any {r i : Nat} {l : List Nat} {v : xn_V} (h : xc_L r i l v) (hb : ∀ q, q ∈ l → q < 2 ^ 31) {m : Nat} (hm : m < 2 ^ 31) : (List.range l.length).any (fun j => v.1 17 r i j == nI m) = decide (m ∈ l) := by
  rw [Bool.eq_iff_iff, List.any_eq_true, decide_eq_true_eq]
  constructor
  · rintro ⟨j, hj, he⟩
    have hj := List.mem_range.mp hj
    rw [h.at hj] at he
    have he : nI l[j] = nI m := by simpa using he
    rw [nI_eq (hb _ (List.getElem_mem hj)) hm] at he
    rw [← he]
    exact List.getElem_mem hj
  · intro hm2
    obtain ⟨j, hj, he⟩ := List.getElem_of_mem hm2
    refine ⟨j, List.mem_range.mpr hj, ?_⟩
    rw [h.at hj, he]
    simp
theorem xc_L.keep {r i : Nat} {l : List Nat} {v v' : xn_V} (h : xc_L r i l v) (h1 : v'.1 16 r i 1 = v.1 16 r i 1) (h2 : ∀ j, j < 256 → v'.1 17 r i j = v.1 17 r i j) : xc_L r i l v' :=
  ⟨h.1, h.2.1, by rw [h1]; exact h.2.2.1, fun j hj => by rw [h2 j (by have := h.2.1; omega)]; exact h.2.2.2 j hj⟩
theorem xc_L.add {r i : Nat} {l : List Nat} {v : xn_V} (h : xc_L r i l v) (hb : ∀ q, q ∈ l → q < 2 ^ 31) {m : Nat} (hm : m < 2 ^ 31) (hl : m ∈ l ∨ l.length < 256) : xc_L r i (if m ∈ l then l else l ++ [m]) (xn_add v r i l.length (nI m)) := by
  unfold xn_add
  rw [h.any hb hm]
  by_cases e : m ∈ l
  · rw [if_pos e, if_neg (by simp [e])]
    exact h
  · have hl : l.length < 256 := by
      rcases hl with h | h
      · exact absurd h e
      · exact h
    rw [if_neg e, if_pos ⟨hl, by simp [e]⟩]
    refine ⟨?_, by simp; omega, by simp [xn_uI], fun j hj => ?_⟩
    · rw [List.nodup_append]
      refine ⟨h.1, by simp, ?_⟩
      intro a ha b hb2
      simp at hb2
      subst hb2
      exact fun e2 => e (e2 ▸ ha)
    · by_cases e2 : j = l.length
      · subst e2
        simp [xn_uI]
      · have hj2 : j < l.length := by simp at hj; omega
        have := h.2.2.2 j hj2
        rw [List.getElem_append_left hj2]
        simpa [xn_uI, e2] using this
/-- a known request more -/
theorem xc_R.learn {r : Nat} {S : pg_S} {v : xn_V} (hR : xc_R r S v) (hK : pg_kno S) (hz : S.1.1 ≤ 256) {kl : List Nat} (hL : xc_L r 0 kl v) (hk : ∀ q, q ∈ kl ↔ pg_kn S.2 q = 1) {m : Nat} (hm : m < S.1.1) : xc_R r (S.1, pg_u S.2 10 m 1) (xn_add v r 0 kl.length (nI m)) := by
  obtain ⟨hF, -, ⟨cl, hC, hc⟩, hV, hS⟩ := hR
  have hb : ∀ q, q ∈ kl → q < 2 ^ 31 := fun q hq => by have := hK.1 q ((hk q).mp hq); omega
  have hlen : m ∈ kl ∨ kl.length < 256 := by
    by_cases e : m ∈ kl
    · exact Or.inl e
    · right
      have hsub : (m :: kl).length ≤ (List.range S.1.1).length := by
        have hnd : (m :: kl).Nodup := List.nodup_cons.mpr ⟨e, hL.1⟩
        apply List.Nodup.length_le_of_subset hnd
        intro q hq
        rcases List.mem_cons.mp hq with rfl | hq
        · exact List.mem_range.mpr hm
        · exact List.mem_range.mpr (hK.1 q ((hk q).mp hq)).1
      simp at hsub
      omega
  have hf := xf_R.add (xf_R.rf r v) (i := 0) (z := kl.length) (m := nI m)
  have c11 : ∀ x, (xn_add v r 0 kl.length (nI m)).1 11 r 0 x = v.1 11 r 0 x := by intro x; unfold xn_add; split <;> simp [xn_uI]
  have cJ : (xn_add v r 0 kl.length (nI m)).2 = v.2 := by unfold xn_add; split <;> rfl
  have c13 : ∀ i x, (xn_add v r 0 kl.length (nI m)).1 13 r i x = v.1 13 r i x := by intro i x; unfold xn_add; split <;> simp [xn_uI]
  have c18 : ∀ x, (xn_add v r 0 kl.length (nI m)).1 18 r 0 x = v.1 18 r 0 x := by intro x; unfold xn_add; split <;> simp [xn_uI]
  have c16 : ∀ x, (xn_add v r 0 kl.length (nI m)).1 16 r 1 x = v.1 16 r 1 x := by intro x; unfold xn_add; split <;> simp [xn_uI]
  have c17 : ∀ x, (xn_add v r 0 kl.length (nI m)).1 17 r 1 x = v.1 17 r 1 x := by intro x; unfold xn_add; split <;> simp [xn_uI]
  refine ⟨?_, ⟨_, hL.add hb (by omega) hlen, fun q => ?_⟩, ⟨cl, hC.keep (c16 1) (fun j _ => c17 j), fun q => ?_⟩, fun s hs => ?_, fun n h1 h2 => ?_⟩
  · unfold xc_F
    simp only [c11, cJ]
    exact hF
  · show _ ↔ (if 10 = 10 ∧ q = m then 1 else pg_kn S.2 q) = 1
    by_cases e : q = m
    · subst e
      simp
      split
      · assumption
      · simp
    · simp only [e, and_false, if_false]
      rw [← hk]
      split
      · exact Iff.rfl
      · simp [e]
  · exact hc q
  · rw [c18]
    exact hV s hs
  · obtain ⟨a1, a2, a3, a4⟩ := hS n h1 h2
    refine ⟨?_, ?_, ?_, fun s hs => ?_⟩
    · rw [c13]; exact a1
    · rw [c13]; exact a2
    · rw [c13]; exact a3
    · rw [cJ]; exact a4 s hs
