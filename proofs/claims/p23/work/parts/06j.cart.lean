/-! PURE: cart -/
def vc (s : Nat → Int32) (p : Int32) (k : Nat) : Bool := decide (s (8 + 8 * k + 2) = p)
theorem vouchX {n : Nat} {σ : St} {s : Nat → Int32} (I : SI n s) (R : RH n σ s) (p : Int32) : ∃ m : Int32, fX1_vouchers σ p = some m ∧ ∀ j, j < 32 → bt m j = (decide (j < n) && vc s p j) := by
  have hn := I.1
  unfold fX1_vouchers
  refine ⟨foldG (fun i (a : Int32) => if vc s p i then a ||| (1 <<< (nI i &&& 31)) else a) n 0, ?_, fun j hj => fold_mask _ n (by omega) j hj⟩
  exact loopG (fun f a i => fX1_vouchers_4 f σ p a i) (fun a => some a) (fun i (a : Int32) => if vc s p i then a ||| (1 <<< (nI i &&& 31)) else a) n hn 0 (fun f a i hi => by
    have e3 := (R.2.2.2.1 i hi).2.2.1
    show fX1_vouchers_4 (f + 1) σ p a (nI i) = fX1_vouchers_4 f σ p (if vc s p i then a ||| (1 <<< (nI i &&& 31)) else a) (nI (i + 1))
    rw [fX1_vouchers_4_s, R.1, if_neg (ge_n hi hn), if_neg (vp_in_nI (by omega) (by decide)), cl (by omega), e3, bit_spec, Option.bind_some, nI_1]
    unfold vc
    by_cases h : s (8 + 8 * i + 2) = p
    · rw [if_pos h, if_pos (decide_eq_true h)]
    · rw [if_neg h, if_neg (by rw [decide_eq_false h]; decide)]) (fun f a => by
    show fX1_vouchers_4 (f + 1) σ p a (nI n) = _
    rw [fX1_vouchers_4_s, R.1, if_pos (le_rf _)])
theorem vouch4 {n : Nat} {μ : St} (I : SI n (μ 1)) (p : Int32) : fX4_vouchers μ p = some (nI (cnt (vc (μ 1) p) n)) := by
  have hn := I.1
  unfold fX4_vouchers
  exact (loopG (fun f a i => fX4_vouchers_4 f μ p a i) (fun a => some a) (fun i (a : Int32) => if vc (μ 1) p i then a + 1 else a) n hn 0 (fun f a i hi => by
    show fX4_vouchers_4 (f + 1) μ p a (nI i) = fX4_vouchers_4 f μ p (if vc (μ 1) p i then a + 1 else a) (nI (i + 1))
    rw [fX4_vouchers_4_s, I.2.1, if_neg (ge_n hi hn), of2 (by omega), Option.bind_some, nI_1, add0]
    unfold vc
    by_cases h : μ 1 (8 + 8 * i + 2) = p
    · rw [if_pos h, if_pos (decide_eq_true h)]
    · rw [if_neg h, if_neg (by rw [decide_eq_false h]; decide)]) (fun f a => by
    show fX4_vouchers_4 (f + 1) μ p a (nI n) = _
    rw [fX4_vouchers_4_s, I.2.1, if_pos (le_rf _)])).trans (congrArg some (fold_cnt _ n))
theorem chainsX {n k : Nat} {σ : St} {s : Nat → Int32} (I : SI n s) (R : RH n σ s) (hk : k < n) : fX1_countChainsWith σ (nI k) = some (nI (cnt (fun i => inC s 24 i k) n)) := by
  have hn := I.1
  unfold fX1_countChainsWith
  exact (loopG (fun f a i => fX1_countChainsWith_4 f σ (nI k) a i) (fun a => some a) (fun i (a : Int32) => if inC s 24 i k then a + 1 else a) n hn 0 (fun f a i hi => by
    show fX1_countChainsWith_4 (f + 1) σ (nI k) a (nI i) = fX1_countChainsWith_4 f σ (nI k) (if inC s 24 i k then a + 1 else a) (nI (i + 1))
    obtain ⟨m, e1, e2⟩ := chainOf_rel I R hi
    rw [fX1_countChainsWith_4_s, R.1, if_neg (ge_n hi hn), e1, Option.bind_some, isIn_spec (by omega), Option.bind_some, nI_1, e2 k (by omega), decide_eq_true hk, Bool.true_and]
    cases inC s 24 i k
    · rfl
    · rfl) (fun f a => by
    show fX1_countChainsWith_4 (f + 1) σ (nI k) a (nI n) = _
    rw [fX1_countChainsWith_4_s, R.1, if_pos (le_rf _)])).trans (congrArg some (fold_cnt _ n))
theorem chains4 {n k : Nat} {μ : St} (I : SI n (μ 1)) (hk : k < n) : fX4_inChains μ (nI k) = some (nI (cnt (fun i => inC (μ 1) 24 i k) n)) := by
  have hn := I.1
  unfold fX4_inChains
  exact (loopG (fun f a i => fX4_inChains_4 f μ (nI k) a i) (fun a => some a) (fun i (a : Int32) => if inC (μ 1) 24 i k then a + 1 else a) n hn 0 (fun f a i hi => by
    show fX4_inChains_4 (f + 1) μ (nI k) a (nI i) = fX4_inChains_4 f μ (nI k) (if inC (μ 1) 24 i k then a + 1 else a) (nI (i + 1))
    rw [fX4_inChains_4_s, I.2.1, if_neg (ge_n hi hn), isInChain_rel I hk hi, Option.bind_some, nI_1, add0]
    cases inC (μ 1) 24 i k
    · rfl
    · rfl) (fun f a => by
    show fX4_inChains_4 (f + 1) μ (nI k) a (nI n) = _
    rw [fX4_inChains_4_s, I.2.1, if_pos (le_rf _)])).trans (congrArg some (fold_cnt _ n))
theorem nI_z {k : Nat} (h : k < 2 ^ 31) : (nI k = 0) = (k = 0) := propext ⟨fun z => nI_inj (b := 0) h (by decide) z, fun z => by rw [z]; rfl⟩
theorem why_rel {n k : Nat} {σ μ : St} (I : SI n (μ 1)) (R : RH n σ (μ 1)) (hk : k < n) : ∃ r : Int32, fX1_whyNotCleared σ (nI k) = some r ∧ fX4_whyNot μ (nI k) = some r := by
  have hn := I.1
  unfold fX1_whyNotCleared fX4_whyNot
  rw [in9 R hn hk, of5 (by omega), Option.bind_some, Option.bind_some]
  by_cases h5 : μ 1 (8 + 8 * k + 5) = 1
  · rw [if_pos h5, if_pos h5]
    exact ⟨0, rfl, rfl⟩
  · rw [if_neg h5, if_neg h5, if_pos rfl, in8 R hn hk, of6 (by omega), Option.bind_some, Option.bind_some]
    by_cases h6 : μ 1 (8 + 8 * k + 6) = 1
    · rw [if_pos h6, if_pos h6]
      exact ⟨1, rfl, rfl⟩
    · rw [if_neg h6, if_neg h6, if_pos rfl]
      obtain ⟨m, e1, e2⟩ := vouchX I R (nI k)
      have em : ∀ j, j < 32 → bt (m &&& σ 9 0) j = (decide (j < n) && (vc (μ 1) (nI k) j && decide (μ 1 (8 + 8 * j + 5) = 1))) := fun j hj => by
        rw [b_and, e2 j hj, (R.2.2.2.2 j hj).2.1]
        cases decide (j < n) <;> simp
      have z1 := mask_zero hn e2
      have z2 := mask_zero hn em
      have e4 : fX4_whyNot_29 1000 μ (nI k) 0 0 = (if cnt (vc (μ 1) (nI k)) n = 0 then some 2 else if cnt (fun j => vc (μ 1) (nI k) j && decide (μ 1 (8 + 8 * j + 5) = 1)) n = 0 then some 3 else some 4) := by
        have c1 : cnt (vc (μ 1) (nI k)) n < 2 ^ 31 := by have := cnt_le (vc (μ 1) (nI k)) n; omega
        have c2 : cnt (fun j => vc (μ 1) (nI k) j && decide (μ 1 (8 + 8 * j + 5) = 1)) n < 2 ^ 31 := by have := cnt_le (fun j => vc (μ 1) (nI k) j && decide (μ 1 (8 + 8 * j + 5) = 1)) n; omega
        refine (loopG (fun f a i => fX4_whyNot_29 f μ (nI k) a i) (fun a => (fX4_vouchers μ (nI k)).bind (fun r6 => if r6 = 0 then (some 2) else (if a = 0 then (some 3) else (some 4)))) (fun i (a : Int32) => if (vc (μ 1) (nI k) i && decide (μ 1 (8 + 8 * i + 5) = 1)) then a + 1 else a) n hn 0 (fun f a i hi => ?_) (fun f a => ?_)).trans ?_
        · show fX4_whyNot_29 (f + 1) μ (nI k) a (nI i) = fX4_whyNot_29 f μ (nI k) (if (vc (μ 1) (nI k) i && decide (μ 1 (8 + 8 * i + 5) = 1)) then a + 1 else a) (nI (i + 1))
          rw [fX4_whyNot_29_s, I.2.1, if_neg (ge_n hi hn), of2 (by omega), Option.bind_some, of5 (by omega), Option.bind_some, nI_1, add0]
          unfold vc
          by_cases h : μ 1 (8 + 8 * i + 2) = nI k
          · by_cases h2 : μ 1 (8 + 8 * i + 5) = 1
            · simp [h, h2]
            · simp [h, h2]
          · simp [h]
        · show fX4_whyNot_29 (f + 1) μ (nI k) a (nI n) = _
          rw [fX4_whyNot_29_s, I.2.1, if_pos (le_rf _)]
        · show (fX4_vouchers μ (nI k)).bind _ = _
          rw [vouch4 I, Option.bind_some, fold_cnt (fun i => vc (μ 1) (nI k) i && decide (μ 1 (8 + 8 * i + 5) = 1)) n]
          simp only [nI_z c1, nI_z c2]
      rw [e1, Option.bind_some, e4]
      simp only [z1, z2]
      by_cases q1 : cnt (vc (μ 1) (nI k)) n = 0
      · rw [if_pos q1]
        exact ⟨2, rfl, rfl⟩
      · rw [if_neg q1]
        by_cases q2 : cnt (fun j => vc (μ 1) (nI k) j && decide (μ 1 (8 + 8 * j + 5) = 1)) n = 0
        · rw [if_pos q2]
          exact ⟨3, rfl, rfl⟩
        · rw [if_neg q2]
          exact ⟨4, rfl, rfl⟩
theorem q_cart {x : XS} {μ : St} (hR : RX x μ) (p1 p2 : Int32) : ∃ (r : Int32) (μ2 : St), fX3_cart x p1 p2 = some r ∧ fX4_cart μ p1 p2 = some (r, μ2) ∧ RX x μ2 := by
  obtain ⟨n, I, Bd, R⟩ := hR.1
  have hn := I.1
  unfold fX3_cart fX1_tellOfCart fX4_cart
  rcases cart3 hn p1 with h | ⟨k, hk, rfl⟩
  · refine ⟨-1, up μ 0 0 0, ?_, ?_, thrown_ok hR⟩
    · rw [knows_out R.1 h]
      rfl
    · rw [isCart_out (μ := up μ 0 0 0) I.2.1 hn h]
      rfl
  rw [knows_in R.1 hn hk, isCart_in (μ := up μ 0 0 0) I.2.1 hn hk]
  have o : (oob (nI k) 24) = False := oobF (by omega) (by decide)
  have c := cl (show k < 2 ^ 31 by omega)
  obtain ⟨g1, g2, g3, g4, g5⟩ := R.2.2.2.1 k hk
  obtain ⟨s4, s5, s6⟩ := I.2.2.2.2.1 k (by omega)
  have i7 := in7 R hn hk
  have i9 := in9 R hn hk
  have w1 := isWhole_rel I R hk
  have w4 : fX4_isWhole (up μ 0 0 0) (nI k) = some (if whB (μ 1) k then 1 else 0) := isWhole4_eq (μ := up μ 0 0 0) (by omega) I.2.2.1 (I.aheadOK hk)
  have f0 : fX4_of (up μ 0 0 0) (nI k) 0 = some (μ 1 (8 + 8 * k)) := of0 (by omega)
  have f1 : fX4_of (up μ 0 0 0) (nI k) 1 = some (μ 1 (8 + 8 * k + 1)) := of1 (by omega)
  have f2 : fX4_of (up μ 0 0 0) (nI k) 2 = some (μ 1 (8 + 8 * k + 2)) := of2 (by omega)
  have f3 : fX4_of (up μ 0 0 0) (nI k) 3 = some (μ 1 (8 + 8 * k + 3)) := of3 (by omega)
  have f4 : fX4_of (up μ 0 0 0) (nI k) 4 = some (μ 1 (8 + 8 * k + 4)) := of4 (by omega)
  have f5 : fX4_of (up μ 0 0 0) (nI k) 5 = some (μ 1 (8 + 8 * k + 5)) := of5 (by omega)
  have f7 : fX4_of (up μ 0 0 0) (nI k) 7 = some (μ 1 (8 + 8 * k + 7)) := of7 (by omega)
  simp only [Option.bind_some, i10, if_false]
  by_cases e0 : p2 = 0
  · have e0 := eq_true e0
    exact ⟨μ 1 (8 + 8 * k), up μ 0 0 0, by simp only [e0, if_true, if_false, Option.bind_some, o, c, g1], by simp only [e0, if_true, if_false, Option.bind_some, f0], thrown_ok hR⟩
  have e0 := eq_false e0
  by_cases e1 : p2 = 1
  · have e1 := eq_true e1
    rcases s4 with z | z
    · exact ⟨-5, up μ 0 0 0, by simp only [e0, e1, if_true, if_false, Option.bind_some, i7, z, i01], by simp only [e0, e1, if_true, if_false, Option.bind_some, f4, z, i01], thrown_ok hR⟩
    · exact ⟨μ 1 (8 + 8 * k + 1), up μ 0 0 0, by simp only [e0, e1, if_true, if_false, Option.bind_some, i7, z, i10, o, c, g2], by simp only [e0, e1, if_true, if_false, Option.bind_some, f4, z, f1], thrown_ok hR⟩
  have e1 := eq_false e1
  by_cases e2 : p2 = 2
  · have e2 := eq_true e2
    rcases I.aheadOK hk with z | ⟨j, hj, z⟩
    · have z0 : ((0 : Int32) ≤ -1) = False := eq_false (by decide)
      exact ⟨-5, up μ 0 0 0, by simp only [e0, e1, e2, if_true, if_false, Option.bind_some, o, c, g3, z], by simp only [e0, e1, e2, if_true, if_false, Option.bind_some, f2, z, z0], thrown_ok hR⟩
    · have z0 : ((0 : Int32) ≤ nI j) = True := eq_true (nI_nnT (by omega))
      have z1 : (nI j = -1) = False := eq_false (nI_m1 (by omega))
      exact ⟨nI j, up μ 0 0 0, by simp only [e0, e1, e2, if_true, if_false, Option.bind_some, o, c, g3, z, z1], by simp only [e0, e1, e2, if_true, if_false, Option.bind_some, f2, z, z0], thrown_ok hR⟩
  have e2 := eq_false e2
  by_cases e3 : p2 = 3
  · have e3 := eq_true e3
    exact ⟨μ 1 (8 + 8 * k + 3), up μ 0 0 0, by simp only [e0, e1, e2, e3, if_true, if_false, Option.bind_some, o, c, g4], by simp only [e0, e1, e2, e3, if_true, if_false, Option.bind_some, f3], thrown_ok hR⟩
  have e3 := eq_false e3
  by_cases e4 : p2 = 4
  · have e4 := eq_true e4
    have r4 : fX4_rightSeal (up μ 0 0 0) (nI k) = some (sealX (μ 1) k (μ 1 (8 + 8 * k))) := rightSeal4_eq (μ := up μ 0 0 0) (by omega) I.2.2.1 (I.aheadOK hk)
    exact ⟨sealX (μ 1) k (μ 1 (8 + 8 * k)), up μ 0 0 0, by simp only [e0, e1, e2, e3, e4, if_true, if_false, Option.bind_some, rightSeal_rel I R hk], by simp only [e0, e1, e2, e3, e4, if_true, if_false, Option.bind_some, r4], thrown_ok hR⟩
  have e4 := eq_false e4
  by_cases e5 : p2 = 5
  · have e5 := eq_true e5
    by_cases z : whB (μ 1) k = true
    · exact ⟨1, up μ 0 0 0, by simp only [e0, e1, e2, e3, e4, e5, if_true, if_false, Option.bind_some, w1, z, i10], by simp only [e0, e1, e2, e3, e4, e5, if_true, if_false, Option.bind_some, w4, z, i10], thrown_ok hR⟩
    · have z : whB (μ 1) k = false := Bool.not_eq_true _ ▸ z
      exact ⟨0, up μ 0 0 0, by simp [e0, e1, e2, e3, e4, e5, w1, z], by simp [e0, e1, e2, e3, e4, e5, w4, z], thrown_ok hR⟩
  have e5 := eq_false e5
  by_cases e6 : p2 = 6
  · have e6 := eq_true e6
    rcases s4 with z | z
    · exact ⟨0, up μ 0 0 0, by simp only [e0, e1, e2, e3, e4, e5, e6, if_true, if_false, Option.bind_some, i7, z, i01], by simp only [e0, e1, e2, e3, e4, e5, e6, if_true, if_false, Option.bind_some, f4, z], thrown_ok hR⟩
    · exact ⟨1, up μ 0 0 0, by simp only [e0, e1, e2, e3, e4, e5, e6, if_true, if_false, Option.bind_some, i7, z, i10], by simp only [e0, e1, e2, e3, e4, e5, e6, if_true, if_false, Option.bind_some, f4, z], thrown_ok hR⟩
  have e6 := eq_false e6
  by_cases e7 : p2 = 7
  · have e7 := eq_true e7
    rcases s5 with z | z
    · exact ⟨0, up μ 0 0 0, by simp only [e0, e1, e2, e3, e4, e5, e6, e7, if_true, if_false, Option.bind_some, i9, z, i01], by simp only [e0, e1, e2, e3, e4, e5, e6, e7, if_true, if_false, Option.bind_some, f5, z], thrown_ok hR⟩
    · exact ⟨1, up μ 0 0 0, by simp only [e0, e1, e2, e3, e4, e5, e6, e7, if_true, if_false, Option.bind_some, i9, z, i10], by simp only [e0, e1, e2, e3, e4, e5, e6, e7, if_true, if_false, Option.bind_some, f5, z], thrown_ok hR⟩
  have e7 := eq_false e7
  by_cases e8 : p2 = 8
  · have e8 := eq_true e8
    exact ⟨μ 1 (8 + 8 * k + 7), up μ 0 0 0, by simp only [e0, e1, e2, e3, e4, e5, e6, e7, e8, if_true, if_false, Option.bind_some, o, c, g5], by simp only [e0, e1, e2, e3, e4, e5, e6, e7, e8, if_true, if_false, Option.bind_some, f7], thrown_ok hR⟩
  have e8 := eq_false e8
  by_cases e9 : p2 = 9
  · have e9 := eq_true e9
    obtain ⟨m, a1, a2⟩ := chainOf_rel I R hk
    have b1 := bitCount_mask hn a2
    rw [lenC_cnt I 24 k hk (by omega)] at b1
    have b2 : fX4_depth (up μ 0 0 0) (nI k) = some (nI (lenC (μ 1) 24 k)) := depth_rel (μ := up μ 0 0 0) I hk
    exact ⟨nI (lenC (μ 1) 24 k), up μ 0 0 0, by simp only [e0, e1, e2, e3, e4, e5, e6, e7, e8, e9, if_true, if_false, Option.bind_some, a1, b1], by simp only [e0, e1, e2, e3, e4, e5, e6, e7, e8, e9, if_true, if_false, Option.bind_some, b2], thrown_ok hR⟩
  have e9 := eq_false e9
  by_cases e10 : p2 = 10
  · have e10 := eq_true e10
    obtain ⟨m, a1, a2⟩ := vouchX I R (nI k)
    have b1 := bitCount_mask hn a2
    have b2 : fX4_vouchers (up μ 0 0 0) (nI k) = some (nI (cnt (vc (μ 1) (nI k)) n)) := vouch4 (μ := up μ 0 0 0) I (nI k)
    exact ⟨nI (cnt (vc (μ 1) (nI k)) n), up μ 0 0 0, by simp only [e0, e1, e2, e3, e4, e5, e6, e7, e8, e9, e10, if_true, if_false, Option.bind_some, a1, b1], by simp only [e0, e1, e2, e3, e4, e5, e6, e7, e8, e9, e10, if_true, if_false, Option.bind_some, b2], thrown_ok hR⟩
  have e10 := eq_false e10
  by_cases e11 : p2 = 11
  · have e11 := eq_true e11
    have b1 := chainsX I R hk
    have b2 : fX4_inChains (up μ 0 0 0) (nI k) = some (nI (cnt (fun i => inC (μ 1) 24 i k) n)) := chains4 (μ := up μ 0 0 0) I hk
    exact ⟨nI (cnt (fun i => inC (μ 1) 24 i k) n), up μ 0 0 0, by simp only [e0, e1, e2, e3, e4, e5, e6, e7, e8, e9, e10, e11, if_true, if_false, Option.bind_some, b1], by simp only [e0, e1, e2, e3, e4, e5, e6, e7, e8, e9, e10, e11, if_true, if_false, Option.bind_some, b2], thrown_ok hR⟩
  have e11 := eq_false e11
  by_cases e12 : p2 = 12
  · have e12 := eq_true e12
    obtain ⟨r, b1, b2⟩ := why_rel (μ := up μ 0 0 0) I R hk
    exact ⟨r, up μ 0 0 0, by simp only [e0, e1, e2, e3, e4, e5, e6, e7, e8, e9, e10, e11, e12, if_true, if_false, Option.bind_some, b1], by simp only [e0, e1, e2, e3, e4, e5, e6, e7, e8, e9, e10, e11, e12, if_true, if_false, Option.bind_some, b2], thrown_ok hR⟩
  have e12 := eq_false e12
  exact ⟨-2, up μ 0 0 0, by simp only [e0, e1, e2, e3, e4, e5, e6, e7, e8, e9, e10, e11, e12, if_true, if_false, Option.bind_some], by simp only [e0, e1, e2, e3, e4, e5, e6, e7, e8, e9, e10, e11, e12, if_true, if_false, Option.bind_some], thrown_ok hR⟩
