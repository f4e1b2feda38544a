/-! PURE: come -/
def s6 (s : Nat → Int32) (n : Nat) (c l v : Int32) : Nat → Int32 := upd (upd (upd s (8 + 8 * n) c) (8 + 8 * n + 1) l) (8 + 8 * n + 2) v
def sC (s : Nat → Int32) (n : Nat) (c l v r : Int32) : Nat → Int32 := upd (upd (upd (s6 s n c l v) (8 + 8 * n + 3) r) 5 (nI (n + 1))) 6 (s 6 + c)
def hC (σ : St) (n : Nat) (c l v r : Int32) : St := up (up (up (up (up (up (up σ 6 0 (nI (n + 1))) 1 n c) 2 n l) 3 n v) 5 n 0) 4 n r) 10 0 (σ 10 0 + c)
theorem come_rel {n w1 w2 t : Nat} {σ : St} {s : Nat → Int32} {v : Int32} (I : SI n s) (Bd : SB n s) (R : RH n σ s) (hn : n < 24) (h1 : w1 ≤ 99) (hv : v = -1 ∨ ∃ j, j < n ∧ v = nI j) (ht : t ≤ 998) : SI (n + 1) (sC s n (nI w1) (nI w2) v (nI t)) ∧ SB (n + 1) (sC s n (nI w1) (nI w2) v (nI t)) ∧ RH (n + 1) (hC σ n (nI w1) (nI w2) v (nI t)) (sC s n (nI w1) (nI w2) v (nI t)) := by
  obtain ⟨i1, i2, i3, i4, i5, i6, i7⟩ := I
  obtain ⟨b1, b2, b3⟩ := Bd
  obtain ⟨r1, r2, r3, r4, r5⟩ := R
  unfold sC s6 hC
  refine ⟨⟨hn, ?_, ?_, fun k hk => ?_, fun k hk => ?_, fun k h0 hk => ?_, fun k hk => ?_⟩, ⟨fun i hi => ?_, ?_, fun k hk => ?_⟩, ⟨?_, fun i hi => ?_, ?_, fun k hk => ?_, fun k hk => ?_⟩⟩
  · simp (disch := omega) only [upd_s, upd_n]
  · simp (disch := omega) only [upd_s, upd_n]
    exact i3
  · by_cases e : k = n
    · subst e
      simp (disch := omega) only [upd_s, upd_n]
      exact hv
    · simp (disch := omega) only [upd_s, upd_n]
      exact i4 k (by omega)
  · simp (disch := omega) only [upd_s, upd_n]
    exact i5 k hk
  · simp (disch := omega) only [upd_s, upd_n]
    exact i6 k (by omega) hk
  · by_cases e : k = n
    · subst e
      simp (disch := omega) only [upd_s, upd_n]
      rw [(i6 k (Nat.le_refl k) hn).2.2.1]
      exact fun z => absurd z (by decide)
    · simp (disch := omega) only [upd_s, upd_n]
      exact i7 k (by omega)
  · simp (disch := omega) only [upd_s, upd_n]
    exact b1 i hi
  · simp (disch := omega) only [upd_s, upd_n]
    exact b2
  · by_cases e : k = n
    · subst e
      simp (disch := omega) only [upd_s, upd_n]
      exact ⟨⟨w1, h1, rfl⟩, t, ht, rfl⟩
    · simp (disch := omega) only [upd_s, upd_n]
      exact b3 k (by omega)
  · simp (disch := omega) only [up_s, up_n, upd_s]
  · simp (disch := omega) only [up_s, up_n, upd_s, upd_n]
    exact r2 i hi
  · simp (disch := omega) only [up_s, up_n, upd_s, upd_n]
    rw [r3]
  · by_cases e : k = n
    · subst e
      simp (disch := omega) only [up_s, up_n, upd_s, upd_n]
      exact ⟨trivial, trivial, trivial, trivial, (i6 k (Nat.le_refl k) hn).2.2.2.symm⟩
    · simp (disch := omega) only [up_s, up_n, upd_s, upd_n]
      exact r4 k (by omega)
  · have h9 := r5 k hk
    simp (disch := omega) only [up_s, up_n, upd_s, upd_n]
    by_cases e : k = n
    · subst e
      have hz := i6 k (Nat.le_refl k) hn
      rw [hz.1, hz.2.1, hz.2.2.1, decide_eq_false (Nat.lt_irrefl k)] at h9
      rw [hz.1, hz.2.1, hz.2.2.1, decide_eq_true (Nat.lt_succ_self k)]
      simpa using h9
    · have e2 : decide (k < n + 1) = decide (k < n) := by
        by_cases h : k < n
        · rw [decide_eq_true h, decide_eq_true (by omega)]
        · rw [decide_eq_false h, decide_eq_false (by omega)]
      rw [e2]
      exact h9
theorem sealV_bound {n w t : Nat} {s : Nat → Int32} (Bd : SB n s) (hn : n < 24) (hw : w ≤ 99) (ht : t ≤ 998) : ∃ q, q ≤ 998 ∧ sealV (s 0) (s 1) (s 2) (nI w) (nI t) (nI n) = nI q := by
  obtain ⟨b1, ⟨m, hm10, hm9, em⟩, b3⟩ := Bd
  obtain ⟨a, -, ea, ha⟩ := b1 0 (by decide)
  obtain ⟨b, -, eb, hb⟩ := b1 1 (by decide)
  have ha := ha (by decide)
  have hb := hb (by decide)
  unfold sealV
  rw [ea, eb, em, pk_mul, pk_mul, nI_add, nI_add]
  have h1 : a * w ≤ 99 * 99 := Nat.mul_le_mul ha hw
  have h2 : b * t ≤ 99 * 998 := Nat.mul_le_mul hb ht
  exact rem_bound (by omega) (by omega) hm9
theorem come_ok {n w1 w2 : Nat} {σ μ : St} {v : Int32} (I : SI n (μ 1)) (Bd : SB n (μ 1)) (R : RH n σ (μ 1)) (hn : n < 24) (h1 : w1 ≤ 99) (h2 : w2 ≤ 99) (hv : v = -1 ∨ ∃ j, j < n ∧ v = nI j) :
    ∃ σ2 μ2 : St, fX1_admit σ (nI w1) (nI w2) v = some (nI n, σ2) ∧ fX4_comes μ (nI w1) (nI w2) v = some (nI n, μ2) ∧ (∀ a, a ≠ 1 → μ2 a = μ a) ∧ SI (n + 1) (μ2 1) ∧ SB (n + 1) (μ2 1) ∧ RH (n + 1) σ2 (μ2 1) := by
  have hM := I.2.2.1
  -- the seal of the one ahead, on both sides
  obtain ⟨t, ht, et, ets⟩ : ∃ t, t ≤ 998 ∧ ahS (s6 (μ 1) n (nI w1) (nI w2) v) n = nI t ∧ (if 0 ≤ v then σ 4 v.toNatClampNeg else 0) = nI t := by
    unfold ahS s6
    rw [upd_s]
    rcases hv with h | ⟨j, hj, h⟩
    · rw [h, if_neg (by decide), if_neg (by decide)]
      exact ⟨0, by decide, rfl, rfl⟩
    · rw [h, if_pos (nI_nnT (by omega)), if_pos (nI_nnT (by omega)), cl (by omega)]
      simp (disch := omega) only [upd_n]
      obtain ⟨t, ht, et⟩ := (Bd.2.2 j hj).2
      exact ⟨t, ht, et, by rw [(R.2.2.2.1 j hj).2.2.2.1]; exact et⟩
  obtain ⟨q, hq, eq⟩ := sealV_bound (n := n) Bd hn h1 ht
  have h9 := come_rel (w2 := w2) (t := q) I Bd R hn h1 hv hq
  have hs : ∀ w : Nat, w ≤ 99 → (nI w < 0 ∨ (99 : Int32) < nI w) = False := fun w hw => eq_false (fun z => z.elim (fun z => nI_nn (by omega) z) (fun z => by have := (nI_ltI (a := 99) (by decide) (by omega)).mp z; omega))
  -- the reference
  have eR : fX4_comes μ (nI w1) (nI w2) v = some (nI n, up (up (up (up (up (up μ 1 (8 + 8 * n) (nI w1)) 1 (8 + 8 * n + 1) (nI w2)) 1 (8 + 8 * n + 2) v) 1 (8 + 8 * n + 3) (nI q)) 1 5 (nI (n + 1))) 1 6 (μ 1 6 + nI w1)) := by
    have e6 : (up (up (up μ 1 (8 + 8 * n) (nI w1)) 1 (8 + 8 * n + 1) (nI w2)) 1 (8 + 8 * n + 2) v) 1 = s6 (μ 1) n (nI w1) (nI w2) v := by
      unfold s6
      rw [up_s, up_s, up_s]
    have er : fX4_rightSeal (up (up (up μ 1 (8 + 8 * n) (nI w1)) 1 (8 + 8 * n + 1) (nI w2)) 1 (8 + 8 * n + 2) v) (nI n) = some (nI q) := by
      rw [rightSeal4_eq hn (by rw [e6]; unfold s6; simp (disch := omega) only [upd_n]; exact hM) (by
        rw [e6]
        unfold aheadOK s6
        rw [upd_s]
        exact hv), e6]
      unfold sealX
      rw [et]
      have f0 : s6 (μ 1) n (nI w1) (nI w2) v 0 = μ 1 0 := by unfold s6; simp (disch := omega) only [upd_n]
      have f1 : s6 (μ 1) n (nI w1) (nI w2) v 1 = μ 1 1 := by unfold s6; simp (disch := omega) only [upd_n]
      have f2 : s6 (μ 1) n (nI w1) (nI w2) v 2 = μ 1 2 := by unfold s6; simp (disch := omega) only [upd_n]
      have f3 : s6 (μ 1) n (nI w1) (nI w2) v (8 + 8 * n) = nI w1 := by unfold s6; simp (disch := omega) only [upd_s, upd_n]
      rw [f0, f1, f2, f3, eq]
    unfold fX4_comes
    rw [I.2.1, lay0 hn, Option.bind_some, lay1 hn, Option.bind_some, lay2 hn, Option.bind_some, er, Option.bind_some, lay3 hn, Option.bind_some]
    have f5 : (up (up (up (up μ 1 (8 + 8 * n) (nI w1)) 1 (8 + 8 * n + 1) (nI w2)) 1 (8 + 8 * n + 2) v) 1 (8 + 8 * n + 3) (nI q)) 1 5 + 1 = nI (n + 1) := by
      simp (disch := omega) only [up_s, upd_s, upd_n]
      rw [I.2.1, nI_1]
    rw [f5]
    have f6 : (up (up (up (up (up μ 1 (8 + 8 * n) (nI w1)) 1 (8 + 8 * n + 1) (nI w2)) 1 (8 + 8 * n + 2) v) 1 (8 + 8 * n + 3) (nI q)) 1 5 (nI (n + 1))) 1 6 = μ 1 6 := by
      simp (disch := omega) only [up_s, upd_s, upd_n]
    rw [f6]
  -- the class
  have eC : fX1_admit σ (nI w1) (nI w2) v = some (nI n, hC σ n (nI w1) (nI w2) v (nI q)) := by
    have o : (oob (nI n) 24) = False := oobF hn (by decide)
    have er : fX1_rightSeal (up (up (up (up (up σ 6 0 (nI (n + 1))) 1 n (nI w1)) 2 n (nI w2)) 3 n v) 5 n 0) (nI n) = some (nI q) := by
      unfold fX1_rightSeal
      rw [if_neg (vp_in_nI hn (by decide)), cl (by omega)]
      have g1 : (up (up (up (up (up σ 6 0 (nI (n + 1))) 1 n (nI w1)) 2 n (nI w2)) 3 n v) 5 n 0) 1 n = nI w1 := by simp (disch := omega) only [up_s, up_n, upd_s]
      have g3 : (up (up (up (up (up σ 6 0 (nI (n + 1))) 1 n (nI w1)) 2 n (nI w2)) 3 n v) 5 n 0) 3 n = v := by simp (disch := omega) only [up_s, up_n, upd_s]
      have g0 : (up (up (up (up (up σ 6 0 (nI (n + 1))) 1 n (nI w1)) 2 n (nI w2)) 3 n v) 5 n 0) 0 = σ 0 := by simp (disch := omega) only [up_n]
      have g4 : (up (up (up (up (up σ 6 0 (nI (n + 1))) 1 n (nI w1)) 2 n (nI w2)) 3 n v) 5 n 0) 4 = σ 4 := by simp (disch := omega) only [up_n]
      have g6 : (up (up (up (up (up σ 6 0 (nI (n + 1))) 1 n (nI w1)) 2 n (nI w2)) 3 n v) 5 n 0) 6 0 = nI (n + 1) := by simp (disch := omega) only [up_s, up_n, upd_s]
      rw [g1, sealFor_eq hn (n := n + 1) hn g6 (by rw [g0, R.2.1 2 (by decide)]; exact hM) (by
        rw [g3]
        rcases hv with h | ⟨j, hj, h⟩
        · exact Or.inl h
        · exact Or.inr ⟨j, by omega, h⟩), g0, g3, g4, ets, R.2.1 0 (by decide), R.2.1 1 (by decide), R.2.1 2 (by decide), eq]
      rfl
    have e10 : (up (up (up (up (up (up σ 6 0 (nI (n + 1))) 1 n (nI w1)) 2 n (nI w2)) 3 n v) 5 n 0) 4 n (nI q)) 10 0 = σ 10 0 := by simp (disch := omega) only [up_n]
    have l24 : (nI n < 24) = True := eq_true (nI_lt (b := 24) hn (by decide))
    unfold fX1_admit
    simp only [R.1, nI_1, cl (show n < 2 ^ 31 by omega), o, if_false, isSacks_spec, hs w1 h1, hs w2 h2, Option.bind_some, i10, er, e10, l24, if_true]
    rcases hv with h | ⟨j, hj, h⟩
    · rw [if_pos h]
      rfl
    · rw [if_neg (by rw [h]; exact nI_m1 (by omega)), h, knows_in R.1 (by omega) hj]
      simp only [Option.bind_some, i10, if_false]
      rfl
  refine ⟨_, _, eC, eR, fun a ha => ?_, ?_⟩
  · simp only [up_n ha]
  · have e1 : (up (up (up (up (up (up μ 1 (8 + 8 * n) (nI w1)) 1 (8 + 8 * n + 1) (nI w2)) 1 (8 + 8 * n + 2) v) 1 (8 + 8 * n + 3) (nI q)) 1 5 (nI (n + 1))) 1 6 (μ 1 6 + nI w1)) 1 = sC (μ 1) n (nI w1) (nI w2) v (nI q) := by
      unfold sC s6
      simp only [up_s]
    rw [e1]
    exact h9
theorem come_H {n : Nat} {σ μ : St} (I : SI n (μ 1)) (R : RH n σ (μ 1)) (p1 p2 p3 : Int32) : (∃ r : Int32, r < 0 ∧ fX1_admit σ p1 p2 p3 = some (r, σ) ∧ fX4_refusesCart μ p1 p2 p3 = some r) ∨ ∃ w1 w2 : Nat, n < 24 ∧ w1 ≤ 99 ∧ w2 ≤ 99 ∧ p1 = nI w1 ∧ p2 = nI w2 ∧ (p3 = -1 ∨ ∃ j, j < n ∧ p3 = nI j) ∧ fX4_refusesCart μ p1 p2 p3 = some 0 := by
  have hn := I.1
  have h5 := I.2.1
  have main : ∀ (hp : p3 = -1 ∨ ∃ j, j < n ∧ p3 = nI j), (∃ r : Int32, r < 0 ∧ fX1_admit σ p1 p2 p3 = some (r, σ) ∧ fX4_refusesCart μ p1 p2 p3 = some r) ∨ ∃ w1 w2 : Nat, n < 24 ∧ w1 ≤ 99 ∧ w2 ≤ 99 ∧ p1 = nI w1 ∧ p2 = nI w2 ∧ (p3 = -1 ∨ ∃ j, j < n ∧ p3 = nI j) ∧ fX4_refusesCart μ p1 p2 p3 = some 0 := by
    intro hp
    have k1 : (p3 = -1) ∨ (¬ p3 = -1 ∧ fX1_knows σ p3 = some 1 ∧ fX4_isCart μ p3 = some 1) := by
      rcases hp with h | ⟨j, hj, h⟩
      · exact Or.inl h
      · exact Or.inr ⟨by rw [h]; exact nI_m1 (by omega), by rw [h]; exact knows_in R.1 hn hj, by rw [h]; exact isCart_in h5 hn hj⟩
    unfold fX1_admit fX4_refusesCart
    simp only [isSacks_spec, in_spec, Option.bind_some]
    by_cases hs1 : p1 < 0 ∨ (99 : Int32) < p1
    · refine Or.inl ⟨-2, by decide, ?_, ?_⟩ <;> rcases k1 with h | ⟨h, ha, hb⟩
      · simp [h, hs1]
      · simp [h, ha, hs1, i10]
      · simp [h, hs1]
      · simp [h, hb, hs1, i10]
    · by_cases hs2 : p2 < 0 ∨ (99 : Int32) < p2
      · refine Or.inl ⟨-2, by decide, ?_, ?_⟩ <;> rcases k1 with h | ⟨h, ha, hb⟩
        · simp [h, hs1, hs2, i10]
        · simp [h, ha, hs1, hs2, i10]
        · simp [h, hs1, hs2, i10]
        · simp [h, hb, hs1, hs2, i10]
      · by_cases h24 : n = 24
        · have l1 : (σ 6 0 < 24) = False := eq_false (by rw [R.1, h24]; decide)
          have l2 : (μ 1 5 = 24) = True := eq_true (by rw [h5, h24]; rfl)
          refine Or.inl ⟨-3, by decide, ?_, ?_⟩ <;> rcases k1 with h | ⟨h, ha, hb⟩
          · simp [h, hs1, hs2, i10, l1]
          · simp [h, ha, hs1, hs2, i10, l1]
          · simp [h, hs1, hs2, i10, l2]
          · simp [h, hb, hs1, hs2, i10, l2]
        · have l2 : (μ 1 5 = 24) = False := eq_false (by rw [h5]; exact fun z => h24 (nI_inj (b := 24) (by omega) (by decide) z))
          obtain ⟨w1, hw1, e1⟩ := sacks_in hs1
          obtain ⟨w2, hw2, e2⟩ := sacks_in hs2
          refine Or.inr ⟨w1, w2, by omega, hw1, hw2, e1, e2, hp, ?_⟩
          rcases k1 with h | ⟨h, ha, hb⟩
          · simp [h, hs1, hs2, i10, l2]
          · simp [h, hb, hs1, hs2, i10, l2]
  by_cases hm : p3 = -1
  · exact main (Or.inl hm)
  · rcases cart3 hn p3 with h | ⟨k, hk, e⟩
    · refine Or.inl ⟨-1, by decide, ?_, ?_⟩
      · unfold fX1_admit
        rw [if_neg hm, knows_out R.1 h]
        rfl
      · unfold fX4_refusesCart
        rw [if_neg hm, isCart_out h5 hn h]
        rfl
    · exact main (Or.inr ⟨k, hk, e⟩)
theorem q_come {x : XS} {μ : St} (hR : RX x μ) (p1 p2 p3 : Int32) : ∃ (r : Int32) (x2 : XS) (μ2 : St), fX3_come x p1 p2 p3 = some (r, x2) ∧ fX4_come μ p1 p2 p3 = some (r, μ2) ∧ RX x2 μ2 := by
  obtain ⟨n, I, Bd, R⟩ := hR.1
  have hn := I.1
  rcases come_H (μ := up μ 0 0 0) I R p1 p2 p3 with ⟨r, hr, e1, e2⟩ | ⟨w1, w2, hn24, h1, h2, rfl, rfl, hv, e2⟩
  · refine ⟨r, _, up μ 0 0 0, ?_, ?_, same_ok hR⟩
    · show (fX1_admit x.2.1 p1 p2 p3).bind _ = _
      rw [e1]
      exact X3_err hr
    · unfold fX4_come
      rw [e2, Option.bind_some, if_neg (neg_ne hr)]
  · obtain ⟨μ1, er, hs, hc⟩ := chg_ok hR
    have hm1 : μ1 1 = μ 1 := hs 1 (by decide) (by decide)
    obtain ⟨σ2, μ2, a1, a2, a3, a4⟩ := come_ok (μ := μ1) (σ := x.2.1) (w1 := w1) (w2 := w2) (v := p3) (n := n) (by rw [hm1]; exact I) (by rw [hm1]; exact Bd) (by rw [hm1]; exact R) hn24 h1 h2 hv
    refine ⟨nI n, _, μ2, ?_, ?_, hc σ2 μ2 a3 ⟨n + 1, a4⟩⟩
    · show (fX1_admit x.2.1 (nI w1) (nI w2) p3).bind _ = _
      rw [a1]
      exact X3_rec (r := nI n) (nI_nn (by omega))
    · unfold fX4_come
      rw [e2, Option.bind_some, if_pos rfl, er, Option.bind_some, a2]
      rfl
