/-! PURE: sets of carts as bits (b_ext .. b_shl: pasted from kit/laws/BITS.to-paste) -/
theorem b_ext {x y : Int32} (h : ∀ i, i < 32 → bt x i = bt y i) : x = y := Int32.toBitVec_inj.mp (BitVec.eq_of_getLsbD_eq (fun i hi => h i hi))
theorem b_or (x y : Int32) (i : Nat) : bt (x ||| y) i = (bt x i || bt y i) := by unfold bt; rw [Int32.toBitVec_or, BitVec.getLsbD_or]
theorem b_and (x y : Int32) (i : Nat) : bt (x &&& y) i = (bt x i && bt y i) := by unfold bt; rw [Int32.toBitVec_and, BitVec.getLsbD_and]
theorem b_xor (x y : Int32) (i : Nat) : bt (x ^^^ y) i = (bt x i ^^ bt y i) := by unfold bt; rw [Int32.toBitVec_xor, BitVec.getLsbD_xor]
theorem b_big {x : Int32} {i : Nat} (h : 32 ≤ i) : bt x i = false := BitVec.getLsbD_of_ge _ _ h
theorem b_m1 : ∀ i, i < 32 → bt (-1) i = true := by decide +kernel
theorem b_0 (i : Nat) : bt 0 i = false := BitVec.getLsbD_zero
theorem s_l : ∀ n, n < 32 → ((nI n &&& 31).toBitVec.smod 32).toNat = n := by decide +kernel
theorem b_shl (n : Nat) (hn : n < 32) (x : Int32) {i : Nat} (hi : i < 32) : bt (x <<< (nI n &&& 31)) i = (decide (n ≤ i) && bt x (i - n)) := by
  unfold bt
  rw [Int32.toBitVec_shiftLeft]
  show (x.toBitVec <<< ((nI n &&& 31).toBitVec.smod 32).toNat).getLsbD i = _
  rw [s_l n hn, BitVec.getLsbD_shiftLeft]
  rcases Nat.lt_or_ge i n with h | h
  · simp [h, Nat.not_le.mpr h]
  · simp [hi, h, Nat.not_lt.mpr h]
theorem nx_and (a b : Nat) : nI a &&& nI b = nI (a &&& b) := by
  apply Int32.toBitVec_inj.1
  show BitVec.ofNat 32 a &&& BitVec.ofNat 32 b = BitVec.ofNat 32 (a &&& b)
  apply BitVec.eq_of_getLsbD_eq
  intro i hi
  simp [hi]
theorem bt_nI {m i : Nat} (hi : i < 32) : bt (nI m) i = m.testBit i := by
  show (BitVec.ofNat 32 m).getLsbD i = _
  rw [BitVec.getLsbD_ofNat, decide_eq_true hi, Bool.true_and]
theorem b_not (x : Int32) {i : Nat} (hi : i < 32) : bt (x ^^^ (-1)) i = !bt x i := by
  rw [b_xor, b_m1 i hi]
  cases bt x i <;> rfl
theorem b_bit {k i : Nat} (hk : k < 32) (hi : i < 32) : bt (1 <<< (nI k &&& 31)) i = decide (i = k) := by
  rw [b_shl k hk 1 hi]
  have h1 : ∀ j, j < 32 → bt 1 j = decide (j = 0) := by decide +kernel
  rw [h1 (i - k) (by omega)]
  by_cases h : i = k
  · subst h
    simp
  · rw [decide_eq_false h]
    by_cases h2 : k ≤ i
    · rw [decide_eq_true h2, decide_eq_false (by omega)]
      rfl
    · rw [decide_eq_false h2]
      rfl
theorem bit_spec {k : Nat} : fX1_bit (nI k) = some (1 <<< (nI k &&& 31)) := rfl
theorem isIn_spec {x : Int32} {k : Nat} (hk : k < 32) : fX1_isIn x (nI k) = some (if bt x k then 1 else 0) := by
  unfold fX1_isIn
  rw [bit_spec]
  show (if x &&& (1 <<< (nI k &&& 31)) = 0 then some (0 : Int32) else some 1) = _
  by_cases h : bt x k = true
  · rw [if_pos h]
    refine if_neg (fun z => ?_)
    have := congrArg (fun y => bt y k) z
    simp only [b_and, b_bit hk hk, b_0, h, decide_true, Bool.and_self] at this
    exact absurd this (by decide)
  · rw [if_neg h]
    have h : bt x k = false := Bool.not_eq_true _ ▸ h
    refine if_pos ?_
    apply b_ext
    intro i hi
    rw [b_and, b_bit hk hi, b_0]
    by_cases e : i = k
    · subst e
      rw [h]
      rfl
    · rw [decide_eq_false e, Bool.and_false]
/-- how many places below n -/
def cnt (p : Nat → Bool) : Nat → Nat
  | 0 => 0
  | n + 1 => cnt p n + (if p n then 1 else 0)
theorem cnt_cong {p q : Nat → Bool} : ∀ {n : Nat}, (∀ k, k < n → p k = q k) → cnt p n = cnt q n
  | 0, _ => rfl
  | n + 1, h => by
    show cnt p n + _ = cnt q n + _
    rw [cnt_cong (fun k hk => h k (by omega)), h n (by omega)]
theorem cnt_le (p : Nat → Bool) : ∀ n, cnt p n ≤ n
  | 0 => Nat.le_refl 0
  | n + 1 => by
    have := cnt_le p n
    show cnt p n + _ ≤ n + 1
    split <;> omega
theorem cnt_ext {p : Nat → Bool} {n : Nat} : ∀ m, (∀ k, n ≤ k → k < n + m → p k = false) → cnt p (n + m) = cnt p n
  | 0, _ => rfl
  | m + 1, h => by
    show cnt p (n + m) + (if p (n + m) then 1 else 0) = _
    rw [cnt_ext m (fun k h1 h2 => h k h1 (by omega)), h (n + m) (by omega) (by omega)]
    rfl
theorem and_by (q d Q D : Nat) (hd : d < 256) (hD : D < 256) : (256 * q + d) &&& (256 * Q + D) = 256 * (q &&& Q) + (d &&& D) := by
  have hdD : d &&& D < 2 ^ 8 := Nat.lt_of_le_of_lt Nat.and_le_left hd
  apply Nat.eq_of_testBit_eq
  intro i
  have e1 : 256 * q + d = 2 ^ 8 * q + d := rfl
  have e2 : 256 * Q + D = 2 ^ 8 * Q + D := rfl
  have e3 : 256 * (q &&& Q) + (d &&& D) = 2 ^ 8 * (q &&& Q) + (d &&& D) := rfl
  rw [Nat.testBit_and, e1, e2, e3, Nat.testBit_two_pow_mul_add q hd, Nat.testBit_two_pow_mul_add Q hD, Nat.testBit_two_pow_mul_add _ hdD]
  by_cases h : i < 8
  · rw [if_pos h, if_pos h, if_pos h, Nat.testBit_and]
  · rw [if_neg h, if_neg h, if_neg h, Nat.testBit_and]
def gA (c : Nat) : Nat := c - ((c / 2) &&& 85)
def gB (c : Nat) : Nat := (gA c &&& 51) + ((gA c / 4) &&& 51)
def gC (c : Nat) : Nat := (gB c + gB c / 16) &&& 15
theorem g_le : ∀ c, c < 256 → (c / 2 &&& 85) ≤ c ∧ gA c < 256 ∧ gB c ≤ 68 ∧ gB c % 16 ≤ 4 ∧ gC c ≤ 8 := by decide +kernel
theorem g_1 : ∀ c, c < 256 → ∀ r, r < 2 → (128 * r + c / 2) &&& 85 = (c / 2) &&& 85 := by decide +kernel
theorem g_2 : ∀ c, c < 256 → ∀ r, r < 4 → (64 * r + c / 4) &&& 51 = (c / 4) &&& 51 := by decide +kernel
theorem g_3 : ∀ c, c < 69 → ∀ r, r < 5 → (c + (16 * r + c / 16)) &&& 15 = (c + c / 16) &&& 15 := by decide +kernel
theorem gC_cnt : ∀ c, c < 256 → gC c = cnt (fun i => c.testBit i) 8 := by decide +kernel
theorem and3 (a b c A B C : Nat) (hb : b < 256) (hc : c < 256) (hB : B < 256) (hC : C < 256) : (256 * (256 * a + b) + c) &&& (256 * (256 * A + B) + C) = 256 * (256 * (a &&& A) + (b &&& B)) + (c &&& C) := by
  rw [and_by _ _ _ _ hc hC, and_by _ _ _ _ hb hB]
theorem and_top {a A D : Nat} (ha : a < 256) (hD : D < 256) : a &&& (256 * A + D) = a &&& D := by
  have h := and_by 0 a A D ha hD
  rw [Nat.zero_and] at h
  simpa using h
theorem andL {a : Nat} (h : a < 2 ^ 32) (A : Nat) (e : A < 2 ^ 32) : nI a &&& nI A = nI (a &&& A) := nx_and a A
theorem pop_end {p q r : Nat} (hp : p ≤ 8) (hq : q ≤ 8) (hr : r ≤ 8) : (256 * (256 * p + q) + r + (256 * (256 * p + q) + r) / 2 ^ 8 + (256 * (256 * p + q) + r + (256 * (256 * p + q) + r) / 2 ^ 8) / 2 ^ 16) % 64 = p + q + r := by
  have d1 : (256 * (256 * p + q) + r) / 2 ^ 8 = 256 * p + q := by omega
  rw [d1]
  have d2 : (256 * (256 * p + q) + r + (256 * p + q)) / 2 ^ 16 = p := by omega
  rw [d2]
  omega
set_option maxHeartbeats 4000000 in
theorem bitCount_nI {a b c : Nat} (ha : a < 256) (hb : b < 256) (hc : c < 256) : fJ6_bitCount_0f7a4 (nI (256 * (256 * a + b) + c)) = some (nI (gC a + gC b + gC c)) := by
  have la := g_le a ha
  have lb := g_le b hb
  have lc := g_le c hc
  have m5 : (1431655765 : Int32) = nI (256 * (256 * (256 * 85 + 85) + 85) + 85) := by decide
  have m3 : (858993459 : Int32) = nI (256 * (256 * (256 * 51 + 51) + 51) + 51) := by decide
  have m0 : (252645135 : Int32) = nI (256 * (256 * (256 * 15 + 15) + 15) + 15) := by decide
  have mm : (63 : Int32) = nI 63 := rfl
  unfold fJ6_bitCount_0f7a4
  rw [pk_ushrN (n := 256 * (256 * a + b) + c) (by omega) (1 : Int32) 1 (by decide), m5, m3, m0, mm]
  have s1 : (256 * (256 * a + b) + c) / 2 ^ 1 = 256 * (256 * (a / 2) + (128 * (a % 2) + b / 2)) + (128 * (b % 2) + c / 2) := by omega
  rw [s1, nx_and, and3 _ _ _ _ _ _ (by omega) (by omega) (by decide) (by decide), and_top (by omega) (by decide), g_1 b hb _ (Nat.mod_lt _ (by decide)), g_1 c hc _ (Nat.mod_lt _ (by decide)), pk_sub (by omega)]
  have s2 : 256 * (256 * a + b) + c - (256 * (256 * (a / 2 &&& 85) + (b / 2 &&& 85)) + (c / 2 &&& 85)) = 256 * (256 * gA a + gA b) + gA c := by
    unfold gA
    omega
  rw [s2, pk_ushrN (n := 256 * (256 * gA a + gA b) + gA c) (by omega) (2 : Int32) 2 (by decide)]
  have s3 : (256 * (256 * gA a + gA b) + gA c) / 2 ^ 2 = 256 * (256 * (gA a / 4) + (64 * (gA a % 4) + gA b / 4)) + (64 * (gA b % 4) + gA c / 4) := by omega
  rw [s3, nx_and, nx_and, and3 _ _ _ _ _ _ (by omega) (by omega) (by decide) (by decide), and3 _ _ _ _ _ _ (by omega) (by omega) (by decide) (by decide), and_top (by omega) (by decide), and_top (by omega) (by decide), g_2 _ lb.2.1 _ (Nat.mod_lt _ (by decide)), g_2 _ lc.2.1 _ (Nat.mod_lt _ (by decide)), nI_add]
  have s4 : 256 * (256 * (gA a &&& 51) + (gA b &&& 51)) + (gA c &&& 51) + (256 * (256 * (gA a / 4 &&& 51) + (gA b / 4 &&& 51)) + (gA c / 4 &&& 51)) = 256 * (256 * gB a + gB b) + gB c := by
    unfold gB
    omega
  rw [s4, pk_ushrN (n := 256 * (256 * gB a + gB b) + gB c) (by omega) (4 : Int32) 4 (by decide), nI_add]
  have s5 : 256 * (256 * gB a + gB b) + gB c + (256 * (256 * gB a + gB b) + gB c) / 2 ^ 4 = 256 * (256 * (gB a + gB a / 16) + (gB b + (16 * (gB a % 16) + gB b / 16))) + (gB c + (16 * (gB b % 16) + gB c / 16)) := by omega
  rw [s5, nx_and, and3 _ _ _ _ _ _ (by omega) (by omega) (by decide) (by decide), and_top (by omega) (by decide), g_3 _ (by omega) _ (by omega), g_3 _ (by omega) _ (by omega)]
  have f : ∀ z, (gB z + gB z / 16) &&& 15 = gC z := fun _ => rfl
  rw [f a, f b, f c]
  rw [pk_ushrN (n := 256 * (256 * gC a + gC b) + gC c) (by omega) (8 : Int32) 8 (by decide), nI_add, pk_ushrN (n := 256 * (256 * gC a + gC b) + gC c + (256 * (256 * gC a + gC b) + gC c) / 2 ^ 8) (by omega) (16 : Int32) 16 (by decide), nI_add, nx_and]
  have s6 : ∀ n : Nat, n &&& 63 = n % 64 := fun n => Nat.and_two_pow_sub_one_eq_mod n 6
  rw [s6, pop_end la.2.2.2.2 lb.2.2.2.2 lc.2.2.2.2]
theorem bitCount_spec {x : Int32} (h : ∀ i, 24 ≤ i → i < 32 → bt x i = false) : fJ6_bitCount_0f7a4 x = some (nI (cnt (bt x) 24)) := by
  obtain ⟨m, hm, e⟩ : ∃ m : Nat, m < 2 ^ 32 ∧ x = nI m := ⟨x.toBitVec.toNat, x.toBitVec.isLt, by
    apply Int32.toBitVec_inj.1
    show x.toBitVec = BitVec.ofNat 32 x.toBitVec.toNat
    rw [BitVec.ofNat_toNat, BitVec.setWidth_eq]⟩
  subst e
  have hm24 : m < 2 ^ 24 := by
    apply Nat.lt_pow_two_of_testBit
    intro i hi
    by_cases h32 : i < 32
    · rw [← bt_nI h32]
      exact h i hi h32
    · exact Nat.testBit_lt_two_pow (Nat.lt_of_lt_of_le hm (Nat.pow_le_pow_right (by decide) (by omega)))
  have e3 : m = 256 * (256 * (m / 65536) + m / 256 % 256) + m % 256 := by omega
  have hb := bitCount_nI (a := m / 65536) (b := m / 256 % 256) (c := m % 256) (by omega) (by omega) (by omega)
  rw [← e3] at hb
  rw [hb, gC_cnt _ (by omega), gC_cnt _ (by omega), gC_cnt _ (by omega)]
  congr 2
  have t0 : ∀ i, i < 8 → (m % 256).testBit i = bt (nI m) i := fun i hi => by
    rw [bt_nI (by omega), show (256 : Nat) = 2 ^ 8 from rfl, Nat.testBit_mod_two_pow, decide_eq_true hi, Bool.true_and]
  have t1 : ∀ i, i < 8 → (m / 256 % 256).testBit i = bt (nI m) (8 + i) := fun i hi => by
    rw [bt_nI (by omega), show (256 : Nat) = 2 ^ 8 from rfl, Nat.testBit_mod_two_pow, decide_eq_true hi, Bool.true_and, Nat.testBit_div_two_pow, Nat.add_comm]
  have t2 : ∀ i, i < 8 → (m / 65536).testBit i = bt (nI m) (16 + i) := fun i hi => by
    rw [bt_nI (by omega), show (65536 : Nat) = 2 ^ 16 from rfl, Nat.testBit_div_two_pow, Nat.add_comm]
  rw [cnt_cong t0, cnt_cong t1, cnt_cong t2]
  simp only [cnt, Nat.reduceAdd]
  omega
