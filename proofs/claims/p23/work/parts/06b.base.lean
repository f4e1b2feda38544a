/-! PURE: numbers, places, leaves -/
theorem oobF {k N : Nat} (h : k < N) (hN : N < 2 ^ 31) : oob (nI k) N = False := eq_false (vp_in_nI h hN)
theorem up_s {σ : St} {k i : Nat} {v : Int32} : up σ k i v k = upd (σ k) i v := if_pos rfl
theorem up_n {σ : St} {k i a : Nat} {v : Int32} (h : a ≠ k) : up σ k i v a = σ a := if_neg h
theorem upd_s {f : Nat → Int32} {i : Nat} {v : Int32} : upd f i v i = v := if_pos rfl
theorem upd_n {f : Nat → Int32} {i a : Nat} {v : Int32} (h : a ≠ i) : upd f i v a = f a := if_neg h
theorem cl {k : Nat} (h : k < 2 ^ 31) : (nI k).toNatClampNeg = k := nI_clamp h
theorem lit_nI (n : Nat) : (OfNat.ofNat n : Int32) = nI n := rfl
theorem nI_nn {k : Nat} (h : k < 2 ^ 31) : ¬ nI k < 0 := nI_pos h
theorem nI_nnT {k : Nat} (h : k < 2 ^ 31) : (0 : Int32) ≤ nI k := nI_pos' h
theorem m1_neg : ((-1 : Int32) < 0) := by decide
theorem nI_inj {a b : Nat} (ha : a < 2 ^ 31) (hb : b < 2 ^ 31) (h : nI a = nI b) : a = b := (nI_eq ha hb).mp h
theorem nI_m1 {k : Nat} (h : k < 2 ^ 31) : ¬ nI k = -1 := fun e => nI_nn h (by rw [e]; exact m1_neg)
/-- a cart, or none -/
theorem knows_in {σ : St} {n k : Nat} (h6 : σ 6 0 = nI n) (hn : n ≤ 24) (hk : k < n) : fX1_knows σ (nI k) = some 1 := by
  unfold fX1_knows
  rw [if_neg (nI_nn (by omega)), h6, if_neg (fun z => by have := (nI_leI (by omega) (by omega)).mp z; omega)]
theorem knows_out {σ : St} {n : Nat} {p : Int32} (h6 : σ 6 0 = nI n) (h : p < 0 ∨ nI n ≤ p) : fX1_knows σ p = some 0 := by
  unfold fX1_knows
  by_cases h0 : p < 0
  · rw [if_pos h0]
  · rw [if_neg h0, h6, if_pos (h.resolve_left h0)]
theorem m1_int {n : Nat} (hn : n ≤ 24) : (nI n - 1).toInt = (n : Int) - 1 := pk_sub_toInt (a := n) (b := 1) (by omega) (by decide)
theorem isCart_in {μ : St} {n k : Nat} (h5 : μ 1 5 = nI n) (hn : n ≤ 24) (hk : k < n) : fX4_isCart μ (nI k) = some 1 := by
  unfold fX4_isCart fX4_in
  have h2 : ¬ (nI n - 1) < nI k := fun z => by
    have z := Int32.lt_iff_toInt_lt.mp z
    rw [m1_int hn, nI_toInt (by omega)] at z
    omega
  rw [if_neg (nI_nn (by omega)), h5, if_neg h2]
  rfl
theorem isCart_out {μ : St} {n : Nat} {p : Int32} (h5 : μ 1 5 = nI n) (hn : n ≤ 24) (h : p < 0 ∨ nI n ≤ p) : fX4_isCart μ p = some 0 := by
  unfold fX4_isCart fX4_in
  by_cases h0 : p < 0
  · rw [if_pos h0]
    rfl
  · have h2 : (nI n - 1) < p := by
      have h := h.resolve_left h0
      have h := Int32.le_iff_toInt_le.mp h
      apply Int32.lt_iff_toInt_lt.mpr
      rw [m1_int hn]
      rw [nI_toInt (by omega)] at h
      omega
    rw [if_neg h0, h5, if_pos h2]
    rfl
theorem in_spec (v a b : Int32) : fX4_in v a b = some (if v < a ∨ b < v then 0 else 1) := by
  unfold fX4_in
  by_cases h : v < a
  · rw [if_pos h, if_pos (Or.inl h)]
  · rw [if_neg h]
    by_cases h2 : b < v
    · rw [if_pos h2, if_pos (Or.inr h2)]
    · rw [if_neg h2, if_neg (fun z => z.elim h h2)]
theorem isSacks_spec (v : Int32) : fX1_isSacks v = some (if v < 0 ∨ 99 < v then 0 else 1) := by
  unfold fX1_isSacks
  by_cases h : v < 0
  · rw [if_pos h, if_pos (Or.inl h)]
  · rw [if_neg h]
    by_cases h2 : (99 : Int32) < v
    · rw [if_pos h2, if_pos (Or.inr h2)]
    · rw [if_neg h2, if_neg (fun z => z.elim h h2)]
/-! the reference's array -/
theorem ix8 (k w : Nat) : (8 + 8 * nI k) + nI w = nI (8 + 8 * k + w) := by
  have h8 : (8 : Int32) = nI 8 := rfl
  rw [h8, pk_mul, nI_add, nI_add]
theorem of_g {μ : St} {k w : Nat} (hk : k < 24) (hw : w < 8) : fX4_of μ (nI k) (nI w) = some (μ 1 (8 + 8 * k + w)) := by
  unfold fX4_of
  rw [ix8, if_neg (vp_in_nI (by omega) (by decide)), cl (by omega)]
theorem lay_g {μ : St} {k w : Nat} {v : Int32} (hk : k < 24) (hw : w < 8) : fX4_lay μ (nI k) (nI w) v = some (up μ 1 (8 + 8 * k + w) v) := by
  unfold fX4_lay
  rw [ix8, if_neg (vp_in_nI (by omega) (by decide)), cl (by omega)]
theorem of0 {μ : St} {k : Nat} (hk : k < 24) : fX4_of μ (nI k) 0 = some (μ 1 (8 + 8 * k)) := of_g (w := 0) hk (by decide)
theorem of1 {μ : St} {k : Nat} (hk : k < 24) : fX4_of μ (nI k) 1 = some (μ 1 (8 + 8 * k + 1)) := of_g (w := 1) hk (by decide)
theorem of2 {μ : St} {k : Nat} (hk : k < 24) : fX4_of μ (nI k) 2 = some (μ 1 (8 + 8 * k + 2)) := of_g (w := 2) hk (by decide)
theorem of3 {μ : St} {k : Nat} (hk : k < 24) : fX4_of μ (nI k) 3 = some (μ 1 (8 + 8 * k + 3)) := of_g (w := 3) hk (by decide)
theorem of4 {μ : St} {k : Nat} (hk : k < 24) : fX4_of μ (nI k) 4 = some (μ 1 (8 + 8 * k + 4)) := of_g (w := 4) hk (by decide)
theorem of5 {μ : St} {k : Nat} (hk : k < 24) : fX4_of μ (nI k) 5 = some (μ 1 (8 + 8 * k + 5)) := of_g (w := 5) hk (by decide)
theorem of6 {μ : St} {k : Nat} (hk : k < 24) : fX4_of μ (nI k) 6 = some (μ 1 (8 + 8 * k + 6)) := of_g (w := 6) hk (by decide)
theorem of7 {μ : St} {k : Nat} (hk : k < 24) : fX4_of μ (nI k) 7 = some (μ 1 (8 + 8 * k + 7)) := of_g (w := 7) hk (by decide)
theorem lay0 {μ : St} {k : Nat} {v : Int32} (hk : k < 24) : fX4_lay μ (nI k) 0 v = some (up μ 1 (8 + 8 * k) v) := lay_g (w := 0) hk (by decide)
theorem lay1 {μ : St} {k : Nat} {v : Int32} (hk : k < 24) : fX4_lay μ (nI k) 1 v = some (up μ 1 (8 + 8 * k + 1) v) := lay_g (w := 1) hk (by decide)
theorem lay2 {μ : St} {k : Nat} {v : Int32} (hk : k < 24) : fX4_lay μ (nI k) 2 v = some (up μ 1 (8 + 8 * k + 2) v) := lay_g (w := 2) hk (by decide)
theorem lay3 {μ : St} {k : Nat} {v : Int32} (hk : k < 24) : fX4_lay μ (nI k) 3 v = some (up μ 1 (8 + 8 * k + 3) v) := lay_g (w := 3) hk (by decide)
theorem lay4 {μ : St} {k : Nat} {v : Int32} (hk : k < 24) : fX4_lay μ (nI k) 4 v = some (up μ 1 (8 + 8 * k + 4) v) := lay_g (w := 4) hk (by decide)
theorem lay5 {μ : St} {k : Nat} {v : Int32} (hk : k < 24) : fX4_lay μ (nI k) 5 v = some (up μ 1 (8 + 8 * k + 5) v) := lay_g (w := 5) hk (by decide)
theorem lay6 {μ : St} {k : Nat} {v : Int32} (hk : k < 24) : fX4_lay μ (nI k) 6 v = some (up μ 1 (8 + 8 * k + 6) v) := lay_g (w := 6) hk (by decide)
theorem lay7 {μ : St} {k : Nat} {v : Int32} (hk : k < 24) : fX4_lay μ (nI k) 7 v = some (up μ 1 (8 + 8 * k + 7) v) := lay_g (w := 7) hk (by decide)
/-! seals: one value for both -/
def sealV (a b m c t k : Int32) : Int32 := (((a * c) + (b * t)) + k) - (((a * c) + (b * t)) + k) / m * m
/-- the seal of the one ahead, in the reference's array -/
def ahS (s : Nat → Int32) (k : Nat) : Int32 := if 0 ≤ s (8 + 8 * k + 2) then s (8 + 8 * (s (8 + 8 * k + 2)).toNatClampNeg + 3) else 0
def sealX (s : Nat → Int32) (k : Nat) (c : Int32) : Int32 := sealV (s 0) (s 1) (s 2) c (ahS s k) (nI k)
def whB (s : Nat → Int32) (k : Nat) : Bool := decide (s (8 + 8 * k + 3) = sealX s k (s (8 + 8 * k)))
def aheadOK (s : Nat → Int32) (k : Nat) : Prop := s (8 + 8 * k + 2) = -1 ∨ ∃ j, j < k ∧ s (8 + 8 * k + 2) = nI j
theorem pos_ne {m : Int32} (h : 0 < m) : ¬ m = 0 := fun e => by rw [e] at h; exact absurd h (by decide)
theorem sealBy_eq {μ : St} {k : Nat} {c : Int32} (hk : k < 24) (hM : 0 < μ 1 2) (ha : aheadOK (μ 1) k) : fX4_sealBy μ (nI k) c = some (sealX (μ 1) k c) := by
  unfold fX4_sealBy sealX ahS
  rw [of2 hk]
  show (if 0 ≤ μ 1 (8 + 8 * k + 2) then _ else _) = _
  rcases ha with h | ⟨j, hj, h⟩
  · rw [h, if_neg (by decide), if_neg (pos_ne hM), if_neg (by decide)]
    rfl
  · rw [h, if_pos (nI_nnT (by omega)), of3 (by omega)]
    show (if μ 1 2 = 0 then _ else _) = _
    rw [if_neg (pos_ne hM), if_pos (nI_nnT (by omega)), cl (by omega)]
    rfl
theorem rightSeal4_eq {μ : St} {k : Nat} (hk : k < 24) (hM : 0 < μ 1 2) (ha : aheadOK (μ 1) k) : fX4_rightSeal μ (nI k) = some (sealX (μ 1) k (μ 1 (8 + 8 * k))) := by
  unfold fX4_rightSeal
  rw [of0 hk]
  show (fX4_sealBy μ (nI k) (μ 1 (8 + 8 * k))).bind _ = _
  rw [sealBy_eq hk hM ha]
  rfl
theorem isWhole4_eq {μ : St} {k : Nat} (hk : k < 24) (hM : 0 < μ 1 2) (ha : aheadOK (μ 1) k) : fX4_isWhole μ (nI k) = some (if whB (μ 1) k then 1 else 0) := by
  unfold fX4_isWhole
  rw [of3 hk]
  show (fX4_rightSeal μ (nI k)).bind _ = _
  rw [rightSeal4_eq hk hM ha]
  show (if μ 1 (8 + 8 * k + 3) = sealX (μ 1) k (μ 1 (8 + 8 * k)) then some 1 else some 0) = _
  unfold whB
  by_cases h : μ 1 (8 + 8 * k + 3) = sealX (μ 1) k (μ 1 (8 + 8 * k))
  · rw [if_pos h, if_pos (decide_eq_true h)]
  · rw [if_neg h, if_neg (by rw [decide_eq_false h]; decide)]
/-- the class's, over its own tables -/
theorem sealFor_eq {σ : St} {k n : Nat} {c : Int32} (hk : k < 24) (hn : n ≤ 24) (h6 : σ 6 0 = nI n) (hM : 0 < σ 0 2) (ha : σ 3 k = -1 ∨ ∃ j, j < n ∧ σ 3 k = nI j) : fX1_sealFor σ (nI k) c = some (sealV (σ 0 0) (σ 0 1) (σ 0 2) c (if 0 ≤ σ 3 k then σ 4 (σ 3 k).toNatClampNeg else 0) (nI k)) := by
  unfold fX1_sealFor
  rw [if_pos hM, if_neg (vp_in_nI hk (by decide))]
  simp only [cl (show k < 2 ^ 31 by omega)]
  rcases ha with h | ⟨j, hj, h⟩
  · rw [h, if_pos m1_neg, if_neg (pos_ne hM), if_neg (by decide)]
    rfl
  · rw [h, if_neg (nI_nn (by omega)), h6, if_neg (fun z => by have := (nI_leI (by omega) (by omega)).mp z; omega), if_neg (vp_in_nI (by omega) (by decide)), if_neg (pos_ne hM), if_pos (nI_nnT (by omega)), cl (by omega)]
    rfl
theorem SI.aheadOK {n k : Nat} {s : Nat → Int32} (h : SI n s) (hk : k < n) : aheadOK s k := h.2.2.2.1 k hk
/-- under the relation, the class's seal is the reference's -/
theorem sealFor_rel {σ : St} {s : Nat → Int32} {n k : Nat} {c : Int32} (I : SI n s) (R : RH n σ s) (hk : k < n) : fX1_sealFor σ (nI k) c = some (sealX s k c) := by
  obtain ⟨hn, -, hM, hF, -⟩ := I
  obtain ⟨h6, h0, -, hC, -⟩ := R
  have hk24 : k < 24 := by omega
  have e3 := (hC k hk).2.2.1
  rw [sealFor_eq hk24 hn h6 (by rw [h0 2 (by decide)]; exact hM) (by
    rw [e3]
    rcases hF k hk with h | ⟨j, hj, h⟩
    · exact Or.inl h
    · exact Or.inr ⟨j, by omega, h⟩)]
  unfold sealX ahS
  rw [h0 0 (by decide), h0 1 (by decide), h0 2 (by decide), e3]
  rcases hF k hk with h | ⟨j, hj, h⟩
  · rw [h, if_neg (by decide), if_neg (by decide)]
  · rw [h, if_pos (nI_nnT (by omega)), if_pos (nI_nnT (by omega)), cl (by omega), (hC j (by omega)).2.2.2.1]
theorem rightSeal_rel {σ : St} {s : Nat → Int32} {n k : Nat} (I : SI n s) (R : RH n σ s) (hk : k < n) : fX1_rightSeal σ (nI k) = some (sealX s k (s (8 + 8 * k))) := by
  have hk24 : k < 24 := by have := I.1; omega
  unfold fX1_rightSeal
  rw [if_neg (vp_in_nI hk24 (by decide)), cl (by omega), sealFor_rel I R hk, (R.2.2.2.1 k hk).1]
  rfl
theorem isWhole_rel {σ : St} {s : Nat → Int32} {n k : Nat} (I : SI n s) (R : RH n σ s) (hk : k < n) : fX1_isWhole σ (nI k) = some (if whB s k then 1 else 0) := by
  have hk24 : k < 24 := by have := I.1; omega
  have hc := R.2.2.2.1 k hk
  unfold fX1_isWhole
  rw [if_neg (vp_in_nI hk24 (by decide)), if_neg (vp_in_nI hk24 (by decide)), cl (by omega), sealFor_rel I R hk, hc.1, hc.2.2.2.1]
  show (if s (8 + 8 * k + 3) = sealX s k (s (8 + 8 * k)) then some 1 else some 0) = _
  unfold whB
  by_cases h : s (8 + 8 * k + 3) = sealX s k (s (8 + 8 * k))
  · rw [if_pos h, if_pos (decide_eq_true h)]
  · rw [if_neg h, if_neg (by rw [decide_eq_false h]; decide)]
