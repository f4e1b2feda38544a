/-! PURE: alter, reseal, set, come, sameSeal -/
theorem SI_upd {n : Nat} {s : Nat → Int32} {j : Nat} {v : Int32} (I : SI n s) (hj : j < 200) (h5 : j ≠ 5) (h2 : j = 2 → 0 < v) (hf : ∀ k, k < 24 → j ≠ 8 + 8 * k + 2 ∧ j ≠ 8 + 8 * k + 4 ∧ j ≠ 8 + 8 * k + 5 ∧ j ≠ 8 + 8 * k + 6 ∧ (n ≤ k → j ≠ 8 + 8 * k + 7)) : SI n (upd s j v) := by
  obtain ⟨i1, i2, i3, i4, i5, i6, i7⟩ := I
  refine ⟨i1, by rw [upd_n (Ne.symm h5)]; exact i2, ?_, fun k hk => ?_, fun k hk => ?_, fun k h0 hk => ?_, fun k hk => ?_⟩
  · by_cases e : j = 2
    · subst e
      rw [upd_s]
      exact h2 rfl
    · rw [upd_n (Ne.symm e)]
      exact i3
  · rw [upd_n (Ne.symm (hf k (by omega)).1)]
    exact i4 k hk
  · have hk9 := hf k hk
    rw [upd_n (Ne.symm hk9.2.1), upd_n (Ne.symm hk9.2.2.1), upd_n (Ne.symm hk9.2.2.2.1)]
    exact i5 k hk
  · have hk9 := hf k hk
    rw [upd_n (Ne.symm hk9.2.1), upd_n (Ne.symm hk9.2.2.1), upd_n (Ne.symm hk9.2.2.2.1), upd_n (Ne.symm (hk9.2.2.2.2 h0))]
    exact i6 k h0 hk
  · have hk9 := hf k (by omega)
    rw [upd_n (Ne.symm hk9.2.1), upd_n (Ne.symm hk9.2.2.2.1)]
    exact i7 k hk
/-- one of the tables of ints changes on both sides -/
theorem RH_claim {n k : Nat} {σ : St} {s : Nat → Int32} {v : Int32} (R : RH n σ s) : RH n (up σ 1 k v) (upd s (8 + 8 * k) v) := by
  obtain ⟨r1, r2, r3, r4, r5⟩ := R
  refine ⟨by rw [up_n (by decide)]; exact r1, fun i hi => ?_, ?_, fun q hq => ?_, fun q hq => ?_⟩
  · rw [up_n (by decide), upd_n (by omega)]
    exact r2 i hi
  · rw [up_n (by decide), upd_n (by omega)]
    exact r3
  · obtain ⟨a, b, c, d, e⟩ := r4 q hq
    rw [up_s, up_n (by decide), up_n (by decide), up_n (by decide), up_n (by decide), upd_n (a := 8 + 8 * q + 1) (by omega), upd_n (a := 8 + 8 * q + 2) (by omega), upd_n (a := 8 + 8 * q + 3) (by omega), upd_n (a := 8 + 8 * q + 7) (by omega)]
    refine ⟨?_, b, c, d, e⟩
    by_cases h : q = k
    · subst h
      rw [upd_s, upd_s]
    · rw [upd_n h, upd_n (by omega)]
      exact a
  · rw [up_n (by decide), up_n (by decide), up_n (by decide), upd_n (a := 8 + 8 * q + 4) (by omega), upd_n (a := 8 + 8 * q + 5) (by omega), upd_n (a := 8 + 8 * q + 6) (by omega)]
    exact r5 q hq
theorem RH_seal {n k : Nat} {σ : St} {s : Nat → Int32} {v : Int32} (R : RH n σ s) : RH n (up σ 4 k v) (upd s (8 + 8 * k + 3) v) := by
  obtain ⟨r1, r2, r3, r4, r5⟩ := R
  refine ⟨by rw [up_n (by decide)]; exact r1, fun i hi => ?_, ?_, fun q hq => ?_, fun q hq => ?_⟩
  · rw [up_n (by decide), upd_n (by omega)]
    exact r2 i hi
  · rw [up_n (by decide), upd_n (by omega)]
    exact r3
  · obtain ⟨a, b, c, d, e⟩ := r4 q hq
    rw [up_s, up_n (by decide), up_n (by decide), up_n (by decide), up_n (by decide), upd_n (a := 8 + 8 * q) (by omega), upd_n (a := 8 + 8 * q + 1) (by omega), upd_n (a := 8 + 8 * q + 2) (by omega), upd_n (a := 8 + 8 * q + 7) (by omega)]
    refine ⟨a, b, c, ?_, e⟩
    by_cases h : q = k
    · subst h
      rw [upd_s, upd_s]
    · rw [upd_n h, upd_n (by omega)]
      exact d
  · rw [up_n (by decide), up_n (by decide), up_n (by decide), upd_n (a := 8 + 8 * q + 4) (by omega), upd_n (a := 8 + 8 * q + 5) (by omega), upd_n (a := 8 + 8 * q + 6) (by omega)]
    exact r5 q hq
theorem RH_fine {n k : Nat} {σ : St} {s : Nat → Int32} {v : Int32} (R : RH n σ s) : RH n (up σ 5 k v) (upd s (8 + 8 * k + 7) v) := by
  obtain ⟨r1, r2, r3, r4, r5⟩ := R
  refine ⟨by rw [up_n (by decide)]; exact r1, fun i hi => ?_, ?_, fun q hq => ?_, fun q hq => ?_⟩
  · rw [up_n (by decide), upd_n (by omega)]
    exact r2 i hi
  · rw [up_n (by decide), upd_n (by omega)]
    exact r3
  · obtain ⟨a, b, c, d, e⟩ := r4 q hq
    rw [up_s, up_n (by decide), up_n (by decide), up_n (by decide), up_n (by decide), upd_n (a := 8 + 8 * q) (by omega), upd_n (a := 8 + 8 * q + 1) (by omega), upd_n (a := 8 + 8 * q + 2) (by omega), upd_n (a := 8 + 8 * q + 3) (by omega)]
    refine ⟨a, b, c, d, ?_⟩
    by_cases h : q = k
    · subst h
      rw [upd_s, upd_s]
    · rw [upd_n h, upd_n (by omega)]
      exact e
  · rw [up_n (by decide), up_n (by decide), up_n (by decide), upd_n (a := 8 + 8 * q + 4) (by omega), upd_n (a := 8 + 8 * q + 5) (by omega), upd_n (a := 8 + 8 * q + 6) (by omega)]
    exact r5 q hq
theorem RH_set {n k : Nat} {σ : St} {s : Nat → Int32} {v : Int32} (hk : k < 5) (R : RH n σ s) : RH n (up σ 0 k v) (upd s k v) := by
  obtain ⟨r1, r2, r3, r4, r5⟩ := R
  refine ⟨by rw [up_n (by decide)]; exact r1, fun i hi => ?_, ?_, fun q hq => ?_, fun q hq => ?_⟩
  · rw [up_s]
    by_cases h : i = k
    · subst h
      rw [upd_s, upd_s]
    · rw [upd_n h, upd_n h]
      exact r2 i hi
  · rw [up_n (by decide), upd_n (by omega)]
    exact r3
  · rw [up_n (by decide), up_n (by decide), up_n (by decide), up_n (by decide), up_n (by decide), upd_n (a := 8 + 8 * q) (by omega), upd_n (a := 8 + 8 * q + 1) (by omega), upd_n (a := 8 + 8 * q + 2) (by omega), upd_n (a := 8 + 8 * q + 3) (by omega), upd_n (a := 8 + 8 * q + 7) (by omega)]
    exact r4 q hq
  · rw [up_n (by decide), up_n (by decide), up_n (by decide), upd_n (a := 8 + 8 * q + 4) (by omega), upd_n (a := 8 + 8 * q + 5) (by omega), upd_n (a := 8 + 8 * q + 6) (by omega)]
    exact r5 q hq
theorem RS.claim {n k : Nat} {σ : St} {s : Nat → Int32} {v : Int32} (I : SI n s) (R : RH n σ s) (hk : k < n) : SI n (upd s (8 + 8 * k) v) ∧ RH n (up σ 1 k v) (upd s (8 + 8 * k) v) := ⟨SI_upd I (by have := I.1; omega) (by omega) (fun e => by omega) (fun q hq => by omega), RH_claim R⟩
theorem RS.seal {n k : Nat} {σ : St} {s : Nat → Int32} {v : Int32} (I : SI n s) (R : RH n σ s) (hk : k < n) : SI n (upd s (8 + 8 * k + 3) v) ∧ RH n (up σ 4 k v) (upd s (8 + 8 * k + 3) v) := ⟨SI_upd I (by have := I.1; omega) (by omega) (fun e => by omega) (fun q hq => by omega), RH_seal R⟩
theorem RS.fine {n k : Nat} {σ : St} {s : Nat → Int32} {v : Int32} (I : SI n s) (R : RH n σ s) (hk : k < n) : SI n (upd s (8 + 8 * k + 7) v) ∧ RH n (up σ 5 k v) (upd s (8 + 8 * k + 7) v) := ⟨SI_upd I (by have := I.1; omega) (by omega) (fun e => by omega) (fun q hq => by omega), RH_fine R⟩
theorem RS.set {n k : Nat} {σ : St} {s : Nat → Int32} {v : Int32} (I : SI n s) (R : RH n σ s) (hk : k < 5) (h2 : k = 2 → 0 < v) : SI n (upd s k v) ∧ RH n (up σ 0 k v) (upd s k v) := ⟨SI_upd I (by omega) (by omega) h2 (fun q hq => by omega), RH_set hk R⟩
/-- bits of the three sets, at carts that are there -/
theorem bt7 {n k : Nat} {σ : St} {s : Nat → Int32} (R : RH n σ s) (hn : n ≤ 24) (hk : k < n) : bt (σ 7 0) k = decide (s (8 + 8 * k + 4) = 1) := by
  rw [(R.2.2.2.2 k (by omega)).1, decide_eq_true hk, Bool.true_and]
theorem bt9 {n k : Nat} {σ : St} {s : Nat → Int32} (R : RH n σ s) (hn : n ≤ 24) (hk : k < n) : bt (σ 9 0) k = decide (s (8 + 8 * k + 5) = 1) := by
  rw [(R.2.2.2.2 k (by omega)).2.1, decide_eq_true hk, Bool.true_and]
theorem bt8 {n k : Nat} {σ : St} {s : Nat → Int32} (R : RH n σ s) (hn : n ≤ 24) (hk : k < n) : bt (σ 8 0) k = decide (s (8 + 8 * k + 6) = 1) := by
  rw [(R.2.2.2.2 k (by omega)).2.2, decide_eq_true hk, Bool.true_and]
theorem in7 {n k : Nat} {σ : St} {s : Nat → Int32} (R : RH n σ s) (hn : n ≤ 24) (hk : k < n) : fX1_isIn (σ 7 0) (nI k) = some (if s (8 + 8 * k + 4) = 1 then 1 else 0) := by
  rw [isIn_spec (by omega), bt7 R hn hk]
  by_cases h : s (8 + 8 * k + 4) = 1
  · rw [if_pos h, if_pos (decide_eq_true h)]
  · rw [if_neg h, if_neg (by rw [decide_eq_false h]; decide)]
theorem in9 {n k : Nat} {σ : St} {s : Nat → Int32} (R : RH n σ s) (hn : n ≤ 24) (hk : k < n) : fX1_isIn (σ 9 0) (nI k) = some (if s (8 + 8 * k + 5) = 1 then 1 else 0) := by
  rw [isIn_spec (by omega), bt9 R hn hk]
  by_cases h : s (8 + 8 * k + 5) = 1
  · rw [if_pos h, if_pos (decide_eq_true h)]
  · rw [if_neg h, if_neg (by rw [decide_eq_false h]; decide)]
theorem in8 {n k : Nat} {σ : St} {s : Nat → Int32} (R : RH n σ s) (hn : n ≤ 24) (hk : k < n) : fX1_isIn (σ 8 0) (nI k) = some (if s (8 + 8 * k + 6) = 1 then 1 else 0) := by
  rw [isIn_spec (by omega), bt8 R hn hk]
  by_cases h : s (8 + 8 * k + 6) = 1
  · rw [if_pos h, if_pos (decide_eq_true h)]
  · rw [if_neg h, if_neg (by rw [decide_eq_false h]; decide)]
theorem cart3 {n : Nat} (hn : n ≤ 24) (p : Int32) : (p < 0 ∨ nI n ≤ p) ∨ ∃ k, k < n ∧ p = nI k := by
  rcases pk_ix p (n := n) (by omega) with h | h | ⟨j, hj, h⟩
  · exact Or.inl (Or.inl h)
  · exact Or.inl (Or.inr h)
  · exact Or.inr ⟨j, hj, h⟩
/-- a sack number that both take -/
theorem sacks_in {v : Int32} (h : ¬ (v < 0 ∨ (99 : Int32) < v)) : ∃ w, w ≤ 99 ∧ v = nI w := by
  obtain ⟨j, hj, e⟩ := nI_of2 (x := v) (M := 99) (n := 99) (by decide) (fun z => h (Or.inl z)) (Int32.not_lt.mp (fun z => h (Or.inr z)))
  exact ⟨j, hj, e⟩
theorem i10 : ((1 : Int32) = 0) = False := eq_false (by decide)
theorem i01 : ((0 : Int32) = 1) = False := eq_false (by decide)
/-- what an order's refusal and what it does have in common, class and reference: alter -/
theorem alter_H {n : Nat} {σ μ : St} (I : SI n (μ 1)) (R : RH n σ (μ 1)) (p1 p2 : Int32) : (∃ r : Int32, r < 0 ∧ fX1_changeClaim σ p1 p2 = some (r, σ) ∧ fX4_refusesAltering μ p1 p2 = some r) ∨ ∃ k w : Nat, k < n ∧ w ≤ 99 ∧ p1 = nI k ∧ p2 = nI w ∧ fX1_changeClaim σ p1 p2 = some (μ 1 (8 + 8 * k), up σ 1 k p2) ∧ fX4_refusesAltering μ p1 p2 = some 0 := by
  have hn := I.1
  have h5 := I.2.1
  unfold fX1_changeClaim fX4_refusesAltering
  rcases cart3 hn p1 with h | ⟨k, hk, rfl⟩
  · refine Or.inl ⟨-1, by decide, ?_, ?_⟩
    · rw [knows_out R.1 h]
      rfl
    · rw [isCart_out h5 hn h]
      rfl
  · rw [knows_in R.1 hn hk, isCart_in h5 hn hk]
    simp only [Option.bind_some, isSacks_spec, in_spec, in7 R hn hk, of4 (show k < 24 by omega), of0 (show k < 24 by omega)]
    have ec := (R.2.2.2.1 k hk).1
    have o : (oob (nI k) 24) = False := oobF (by omega) (by decide)
    by_cases hs : p2 < 0 ∨ (99 : Int32) < p2
    · exact Or.inl ⟨-2, by decide, by simp [hs, i10], by simp [hs, i10]⟩
    · by_cases ho : μ 1 (8 + 8 * k + 4) = 1
      · exact Or.inl ⟨-4, by decide, by simp [hs, ho, i10], by simp [hs, ho, i10]⟩
      · by_cases hc : μ 1 (8 + 8 * k) = p2
        · exact Or.inl ⟨-5, by decide, by simp [hs, ho, i10, o, cl (show k < 2 ^ 31 by omega), ec, hc], by simp [hs, ho, i10, hc]⟩
        · obtain ⟨w, hw, e⟩ := sacks_in hs
          exact Or.inr ⟨k, w, hk, hw, rfl, e, by simp [hs, ho, i10, o, cl (show k < 2 ^ 31 by omega), ec, hc], by simp [hs, ho, i10, hc]⟩
theorem neg_ne {r : Int32} (h : r < 0) : ¬ r = 0 := fun e => by rw [e] at h; exact absurd h (by decide)
/-- bounds stay where one number within them is laid -/
theorem SB_upd {n : Nat} {s : Nat → Int32} {j : Nat} {v : Int32} (Bd : SB n s) (h5 : ∀ i, i < 5 → j ≠ i) (hf : ∀ k, k < n → (j = 8 + 8 * k → ∃ c, c ≤ 99 ∧ v = nI c) ∧ (j = 8 + 8 * k + 3 → ∃ c, c ≤ 998 ∧ v = nI c)) : SB n (upd s j v) := by
  obtain ⟨b1, b2, b3⟩ := Bd
  refine ⟨fun i hi => ?_, ?_, fun k hk => ⟨?_, ?_⟩⟩
  · rw [upd_n (Ne.symm (h5 i hi))]
    exact b1 i hi
  · rw [upd_n (Ne.symm (h5 2 (by decide)))]
    exact b2
  · by_cases e : j = 8 + 8 * k
    · rw [← e, upd_s]
      exact (hf k hk).1 e
    · rw [upd_n (Ne.symm e)]
      exact (b3 k hk).1
  · by_cases e : j = 8 + 8 * k + 3
    · rw [← e, upd_s]
      exact (hf k hk).2 e
    · rw [upd_n (Ne.symm e)]
      exact (b3 k hk).2
theorem rem_bound {a m : Nat} (ha : a < 2 ^ 31) (h0 : 0 < m) (hm : m ≤ 999) : ∃ t, t ≤ 998 ∧ nI a - nI a / nI m * nI m = nI t := ⟨a % m, by have := Nat.mod_lt a h0; omega, pk_rem ha h0 (by omega)⟩
theorem seal_bound {n k w : Nat} {s : Nat → Int32} (I : SI n s) (Bd : SB n s) (hk : k < n) (hw : w ≤ 99) : ∃ t, t ≤ 998 ∧ sealX s k (nI w) = nI t := by
  have hn := I.1
  obtain ⟨b1, ⟨m, hm10, hm9, em⟩, b3⟩ := Bd
  obtain ⟨a, -, ea, ha⟩ := b1 0 (by decide)
  obtain ⟨b, -, eb, hb⟩ := b1 1 (by decide)
  have ha := ha (by decide)
  have hb := hb (by decide)
  have hah : ∃ t, t ≤ 998 ∧ ahS s k = nI t := by
    unfold ahS
    rcases I.aheadOK hk with h | ⟨j, hj, h⟩
    · rw [h, if_neg (by decide)]
      exact ⟨0, by decide, rfl⟩
    · rw [h, if_pos (nI_nnT (by omega)), cl (by omega)]
      exact (b3 j (by omega)).2
  obtain ⟨t, ht, et⟩ := hah
  unfold sealX sealV
  rw [ea, eb, em, et, pk_mul, pk_mul, nI_add, nI_add]
  have h1 : a * w ≤ 99 * 99 := Nat.mul_le_mul ha hw
  have h2 : b * t ≤ 99 * 998 := Nat.mul_le_mul hb ht
  exact rem_bound (by omega) (by omega) hm9
theorem q_alter {x : XS} {μ : St} (hR : RX x μ) (p1 p2 : Int32) : ∃ (r : Int32) (x2 : XS) (μ2 : St), fX3_alter x p1 p2 = some (r, x2) ∧ fX4_alter μ p1 p2 = some (r, μ2) ∧ RX x2 μ2 := by
  obtain ⟨n, I, Bd, R⟩ := hR.1
  have hn := I.1
  rcases alter_H (μ := up μ 0 0 0) I R p1 p2 with ⟨r, hr, e1, e2⟩ | ⟨k, w, hk, hw, rfl, rfl, e1, e2⟩
  · refine ⟨r, _, up μ 0 0 0, ?_, ?_, same_ok hR⟩
    · show (fX1_changeClaim x.2.1 p1 p2).bind _ = _
      rw [e1]
      exact X3_err hr
    · unfold fX4_alter
      rw [e2, Option.bind_some, if_neg (neg_ne hr)]
  · obtain ⟨μ1, er, hs, hc⟩ := chg_ok hR
    have h1 : μ1 1 = μ 1 := hs 1 (by decide) (by decide)
    obtain ⟨c, hc9, ec⟩ := (Bd.2.2 k hk).1
    refine ⟨μ 1 (8 + 8 * k), _, up μ1 1 (8 + 8 * k) (nI w), ?_, ?_, hc (up x.2.1 1 k (nI w)) _ (fun a ha => up_n ha) ?_⟩
    · show (fX1_changeClaim x.2.1 (nI k) (nI w)).bind _ = _
      rw [e1]
      exact X3_rec (r := μ 1 (8 + 8 * k)) (by rw [ec]; exact nI_nn (by omega))
    · unfold fX4_alter
      rw [e2, Option.bind_some, if_pos rfl, er, Option.bind_some, of0 (by omega), Option.bind_some, lay0 (by omega), Option.bind_some, h1]
    · rw [up_s, h1]
      have h9 := RS.claim (v := nI w) I R hk
      exact ⟨n, h9.1, SB_upd Bd (fun i hi => by omega) (fun q hq => ⟨fun _ => ⟨w, hw, rfl⟩, fun e => by omega⟩), h9.2⟩
/-- reseal -/
theorem reseal_H {n : Nat} {σ μ : St} (I : SI n (μ 1)) (R : RH n σ (μ 1)) (p1 : Int32) : (∃ r : Int32, r < 0 ∧ fX1_mendSeal σ p1 = some (r, σ) ∧ fX4_refusesSeal μ p1 = some r) ∨ ∃ k : Nat, k < n ∧ p1 = nI k ∧ fX1_mendSeal σ p1 = some (μ 1 (8 + 8 * k + 3), up σ 4 k (sealX (μ 1) k (μ 1 (8 + 8 * k)))) ∧ fX4_refusesSeal μ p1 = some 0 := by
  have hn := I.1
  have h5 := I.2.1
  unfold fX1_mendSeal fX4_refusesSeal
  rcases cart3 hn p1 with h | ⟨k, hk, rfl⟩
  · refine Or.inl ⟨-1, by decide, ?_, ?_⟩
    · rw [knows_out R.1 h]
      rfl
    · rw [isCart_out h5 hn h]
      rfl
  · have ec := (R.2.2.2.1 k hk).2.2.2.1
    have o : (oob (nI k) 24) = False := oobF (by omega) (by decide)
    rw [knows_in R.1 hn hk, isCart_in h5 hn hk]
    simp only [Option.bind_some, isWhole_rel I R hk, isWhole4_eq (show k < 24 by omega) I.2.2.1 (I.aheadOK hk), rightSeal_rel I R hk]
    by_cases hw : whB (μ 1) k = true
    · exact Or.inl ⟨-5, by decide, by simp [hw, i10], by simp [hw, i10]⟩
    · exact Or.inr ⟨k, hk, rfl, by simp [hw, i10, o, cl (show k < 2 ^ 31 by omega), ec], by simp [hw, i10]⟩
theorem q_reseal {x : XS} {μ : St} (hR : RX x μ) (p1 : Int32) : ∃ (r : Int32) (x2 : XS) (μ2 : St), fX3_reseal x p1 = some (r, x2) ∧ fX4_reseal μ p1 = some (r, μ2) ∧ RX x2 μ2 := by
  obtain ⟨n, I, Bd, R⟩ := hR.1
  have hn := I.1
  rcases reseal_H (μ := up μ 0 0 0) I R p1 with ⟨r, hr, e1, e2⟩ | ⟨k, hk, rfl, e1, e2⟩
  · refine ⟨r, _, up μ 0 0 0, ?_, ?_, same_ok hR⟩
    · show (fX1_mendSeal x.2.1 p1).bind _ = _
      rw [e1]
      exact X3_err hr
    · unfold fX4_reseal
      rw [e2, Option.bind_some, if_neg (neg_ne hr)]
  · obtain ⟨μ1, er, hs, hc⟩ := chg_ok hR
    have h1 : μ1 1 = μ 1 := hs 1 (by decide) (by decide)
    obtain ⟨c, hc9, ec⟩ := (Bd.2.2 k hk).2
    obtain ⟨w, hw, ew⟩ := (Bd.2.2 k hk).1
    refine ⟨μ 1 (8 + 8 * k + 3), _, up μ1 1 (8 + 8 * k + 3) (sealX (μ 1) k (μ 1 (8 + 8 * k))), ?_, ?_, hc (up x.2.1 4 k (sealX (μ 1) k (μ 1 (8 + 8 * k)))) _ (fun a ha => up_n ha) ?_⟩
    · show (fX1_mendSeal x.2.1 (nI k)).bind _ = _
      rw [e1]
      exact X3_rec (r := μ 1 (8 + 8 * k + 3)) (by rw [ec]; exact nI_nn (by omega))
    · unfold fX4_reseal
      rw [e2, Option.bind_some, if_pos rfl, er, Option.bind_some, of3 (by omega), Option.bind_some, rightSeal4_eq (by omega) (by rw [h1]; exact I.2.2.1) (by rw [h1]; exact I.aheadOK hk), Option.bind_some, lay3 (by omega), Option.bind_some, h1]
    · rw [up_s, h1]
      have h9 := RS.seal (v := sealX (μ 1) k (μ 1 (8 + 8 * k))) I R hk
      refine ⟨n, h9.1, SB_upd Bd (fun i hi => by omega) (fun q hq => ⟨fun e => by omega, fun _ => ?_⟩), h9.2⟩
      rw [ew]
      exact seal_bound I Bd hk hw
