/-! PURE: loops over all carts, chains -/
def foldG {α : Type} (g : Nat → α → α) : Nat → α → α
  | 0, a => a
  | n + 1, a => g n (foldG g n a)
theorem loop_G {α Rt : Type} (F : Nat → α → Int32 → Option Rt) (E : α → Option Rt) (g : Nat → α → α) (n : Nat) (a0 : α) (step : ∀ (f : Nat) (a : α) (i : Nat), i < n → F (f + 1) a (nI i) = F f (g i a) (nI (i + 1))) (stop : ∀ (f : Nat) (a : α), F (f + 1) a (nI n) = E a) : ∀ m f : Nat, m ≤ n → m < f → F f (foldG g (n - m) a0) (nI (n - m)) = E (foldG g n a0) := by
  intro m
  induction m with
  | zero =>
    intro f _ hf
    obtain ⟨f, rfl⟩ : ∃ q, f = q + 1 := ⟨f - 1, by omega⟩
    exact stop f _
  | succ m ih =>
    intro f hm hf
    obtain ⟨f, rfl⟩ : ∃ q, f = q + 1 := ⟨f - 1, by omega⟩
    rw [step f _ (n - (m + 1)) (by omega)]
    have e : n - (m + 1) + 1 = n - m := by omega
    have e2 : g (n - (m + 1)) (foldG g (n - (m + 1)) a0) = foldG g (n - m) a0 := by
      rw [← e]
      rfl
    rw [e, e2]
    exact ih f (by omega) (by omega)
theorem loopG {α Rt : Type} (F : Nat → α → Int32 → Option Rt) (E : α → Option Rt) (g : Nat → α → α) (n : Nat) (hn : n ≤ 24) (a0 : α) (step : ∀ (f : Nat) (a : α) (i : Nat), i < n → F (f + 1) a (nI i) = F f (g i a) (nI (i + 1))) (stop : ∀ (f : Nat) (a : α), F (f + 1) a (nI n) = E a) : F 1000 a0 0 = E (foldG g n a0) := by
  have h := loop_G F E g n a0 step stop n 1000 (Nat.le_refl n) (by omega)
  rw [Nat.sub_self] at h
  exact h
theorem foldG_cong {α : Type} {g g2 : Nat → α → α} : ∀ {n : Nat} (a : α), (∀ i x, i < n → g i x = g2 i x) → foldG g n a = foldG g2 n a
  | 0, _, _ => rfl
  | n + 1, a, h => by
    show g n (foldG g n a) = g2 n (foldG g2 n a)
    rw [foldG_cong a (fun i x hi => h i x (by omega)), h n _ (by omega)]
/-- a count, as both keep it -/
theorem fold_cnt (p : Nat → Bool) : ∀ n, foldG (fun i (a : Int32) => if p i then a + 1 else a) n 0 = nI (cnt p n)
  | 0 => rfl
  | n + 1 => by
    show (if p n then foldG _ n 0 + 1 else foldG _ n 0) = nI (cnt p n + (if p n then 1 else 0))
    rw [fold_cnt p n]
    cases p n
    · rfl
    · exact nI_1 _
theorem ge_n {i n : Nat} (h : i < n) (hn : n ≤ 24) : ¬ nI n ≤ nI i := fun z => by have := (nI_leI (by omega) (by omega)).mp z; omega
theorem le_rf (x : Int32) : x ≤ x := Int32.le_refl x
theorem add0 (x : Int32) : x + 0 = x := Int32.add_zero x
/-- a set of carts, gathered one by one -/
theorem fold_mask (c : Nat → Bool) : ∀ n, n ≤ 32 → ∀ j, j < 32 → bt (foldG (fun i (a : Int32) => if c i then a ||| (1 <<< (nI i &&& 31)) else a) n 0) j = (decide (j < n) && c j)
  | 0, _, j, _ => b_0 j
  | n + 1, hn, j, hj => by
    have ih := fold_mask c n (by omega) j hj
    show bt (if c n then (foldG (fun i (a : Int32) => if c i then a ||| (1 <<< (nI i &&& 31)) else a) n (0 : Int32)) ||| (1 <<< (nI n &&& 31)) else foldG (fun i (a : Int32) => if c i then a ||| (1 <<< (nI i &&& 31)) else a) n (0 : Int32)) j = _
    by_cases e : j = n
    · subst e
      rw [decide_eq_false (Nat.lt_irrefl j), Bool.false_and] at ih
      rw [decide_eq_true (Nat.lt_succ_self j), Bool.true_and]
      by_cases h : c j = true
      · rw [if_pos h, b_or, ih, b_bit hj hj, h]
        simp
      · have h : c j = false := Bool.not_eq_true _ ▸ h
        rw [if_neg (by rw [h]; decide), ih, h]
    · have e2 : decide (j < n + 1) = decide (j < n) := by
        by_cases h : j < n
        · rw [decide_eq_true h, decide_eq_true (by omega)]
        · rw [decide_eq_false h, decide_eq_false (by omega)]
      rw [e2]
      by_cases h : c n = true
      · rw [if_pos h, b_or, ih, b_bit (by omega) hj, decide_eq_false e, Bool.or_false]
      · rw [if_neg h, ih]
theorem cnt_low {c : Nat → Bool} {n : Nat} (hn : n ≤ 24) : cnt (fun j => decide (j < n) && c j) 24 = cnt c n := by
  have h : cnt (fun j => decide (j < n) && c j) (n + (24 - n)) = cnt (fun j => decide (j < n) && c j) n := cnt_ext _ (fun k h1 h2 => by rw [decide_eq_false (by omega)]; rfl)
  rw [show n + (24 - n) = 24 by omega] at h
  rw [h]
  exact cnt_cong (fun k hk => by rw [decide_eq_true hk]; rfl)
theorem bitCount_mask {x : Int32} {c : Nat → Bool} {n : Nat} (hn : n ≤ 24) (h : ∀ j, j < 32 → bt x j = (decide (j < n) && c j)) : fJ6_bitCount_0f7a4 x = some (nI (cnt c n)) := by
  rw [bitCount_spec (fun i h1 h2 => by rw [h i h2, decide_eq_false (by omega)]; rfl)]
  rw [cnt_cong (q := fun j => decide (j < n) && c j) (fun k hk => h k (by omega)), cnt_low hn]
theorem mask_zero {x : Int32} {c : Nat → Bool} {n : Nat} (hn : n ≤ 24) (h : ∀ j, j < 32 → bt x j = (decide (j < n) && c j)) : (x = 0 ↔ cnt c n = 0) := by
  constructor
  · intro e
    have hz : ∀ m, m ≤ n → cnt c m = 0 := by
      intro m
      induction m with
      | zero => intro _; rfl
      | succ m ih =>
        intro hm
        have h1 := h m (by omega)
        rw [e, b_0, decide_eq_true (show m < n by omega), Bool.true_and] at h1
        show cnt c m + (if c m then 1 else 0) = 0
        rw [ih (by omega), ← h1]
        rfl
    exact hz n (Nat.le_refl n)
  · intro e
    apply b_ext
    intro i hi
    rw [h i hi, b_0]
    by_cases hin : i < n
    · have hz : ∀ m, cnt c m = 0 → ∀ i, i < m → c i = false := by
        intro m
        induction m with
        | zero => intro _ i hi; exact absurd hi (Nat.not_lt_zero i)
        | succ m ih =>
          intro hm i hi
          have hm : cnt c m + (if c m then 1 else 0) = 0 := hm
          by_cases e : i = m
          · subst e
            cases hc : c i
            · rfl
            · rw [hc] at hm
              simp at hm
          · exact ih (by omega) i (by omega)
      rw [hz n e i hin, Bool.and_false]
    · rw [decide_eq_false hin]
      rfl
/-! the one for which a cart vouches -/
def nxt (s : Nat → Int32) (k : Nat) : Option Nat := if 0 ≤ s (8 + 8 * k + 2) then some (s (8 + 8 * k + 2)).toNatClampNeg else none
theorem nxt_cases {n k : Nat} {s : Nat → Int32} (I : SI n s) (hk : k < n) : (s (8 + 8 * k + 2) = -1 ∧ nxt s k = none) ∨ ∃ j, j < k ∧ s (8 + 8 * k + 2) = nI j ∧ nxt s k = some j := by
  have hn := I.1
  unfold nxt
  rcases I.aheadOK hk with h | ⟨j, hj, h⟩
  · exact Or.inl ⟨h, by rw [h, if_neg (by decide)]⟩
  · exact Or.inr ⟨j, hj, h, by rw [h, if_pos (nI_nnT (by omega)), cl (by omega)]⟩
/-- j is in the chain of k -/
def inC (s : Nat → Int32) : Nat → Nat → Nat → Bool
  | 0, _, _ => false
  | f + 1, k, j => (j == k) || (match nxt s k with
    | none => false
    | some q => inC s f q j)
def lenC (s : Nat → Int32) : Nat → Nat → Nat
  | 0, _ => 0
  | f + 1, k => 1 + (match nxt s k with
    | none => 0
    | some q => lenC s f q)
theorem knows_m1 {σ : St} : fX1_knows σ (-1) = some 0 := by
  unfold fX1_knows
  rw [if_pos m1_neg]
theorem inC_none {s : Nat → Int32} {f k j : Nat} (h : nxt s k = none) : inC s (f + 1) k j = (j == k) := by
  show ((j == k) || (match nxt s k with
    | none => false
    | some q => inC s f q j)) = _
  rw [h, Bool.or_false]
theorem inC_some {s : Nat → Int32} {f k j q : Nat} (h : nxt s k = some q) : inC s (f + 1) k j = ((j == k) || inC s f q j) := by
  show ((j == k) || (match nxt s k with
    | none => false
    | some q => inC s f q j)) = _
  rw [h]
theorem lenC_none {s : Nat → Int32} {f k : Nat} (h : nxt s k = none) : lenC s (f + 1) k = 1 := by
  show 1 + (match nxt s k with
    | none => 0
    | some q => lenC s f q) = _
  rw [h]
  rfl
theorem lenC_some {s : Nat → Int32} {f k q : Nat} (h : nxt s k = some q) : lenC s (f + 1) k = 1 + lenC s f q := by
  show 1 + (match nxt s k with
    | none => 0
    | some q => lenC s f q) = _
  rw [h]
theorem inC_le {n : Nat} {s : Nat → Int32} (I : SI n s) : ∀ (f k j : Nat), k < n → inC s f k j = true → j ≤ k := by
  intro f
  induction f with
  | zero => intro k j _ h; cases h
  | succ f ih =>
    intro k j hk h
    rcases nxt_cases I hk with ⟨-, e⟩ | ⟨q, hq, -, e⟩
    · rw [inC_none e] at h
      have := beq_iff_eq.mp h
      omega
    · rw [inC_some e, Bool.or_eq_true] at h
      rcases h with h | h
      · have := beq_iff_eq.mp h
        omega
      · have := ih q j (by omega) h
        omega
theorem cnt_or_one {p : Nat → Bool} {k : Nat} (hp : p k = false) : ∀ N, k < N → cnt (fun j => (j == k) || p j) N = 1 + cnt p N
  | 0, h => absurd h (Nat.not_lt_zero k)
  | N + 1, h => by
    show cnt (fun j => (j == k) || p j) N + (if ((N == k) || p N) = true then 1 else 0) = 1 + (cnt p N + (if p N = true then 1 else 0))
    by_cases e : N = k
    · subst e
      rw [hp]
      have h2 : cnt (fun j => (j == N) || p j) N = cnt p N := cnt_cong (fun j hj => by
        have : (j == N) = false := beq_eq_false_iff_ne.mpr (by omega)
        rw [this, Bool.false_or])
      rw [h2]
      simp
      omega
    · have h1 : (N == k) = false := beq_eq_false_iff_ne.mpr e
      rw [cnt_or_one hp N (by omega), h1, Bool.false_or]
      omega
theorem cnt_one {k : Nat} : ∀ N, k < N → cnt (fun j => j == k) N = 1 := fun N h => by
  have := cnt_or_one (p := fun _ => false) (k := k) rfl N h
  have h0 : ∀ M, cnt (fun _ => false) M = 0 := fun M => by
    induction M with
    | zero => rfl
    | succ M ih => show cnt (fun _ => false) M + 0 = 0; rw [ih]
  rw [h0] at this
  simpa using this
theorem lenC_cnt {n : Nat} {s : Nat → Int32} (I : SI n s) : ∀ (f k : Nat), k < n → k < f → cnt (inC s f k) n = lenC s f k := by
  intro f
  induction f with
  | zero => intro k _ h; exact absurd h (Nat.not_lt_zero k)
  | succ f ih =>
    intro k hk hf
    rcases nxt_cases I hk with ⟨-, e⟩ | ⟨q, hq, -, e⟩
    · rw [lenC_none e, cnt_cong (q := fun j => j == k) (fun j _ => inC_none e), cnt_one n hk]
    · rw [lenC_some e, cnt_cong (q := fun j => (j == k) || inC s f q j) (fun j _ => inC_some e), cnt_or_one _ n hk, ih q (by omega) (by omega)]
      cases h : inC s f q k
      · rfl
      · have := inC_le I f q k (by omega) h
        omega
/-- the class's set of a chain -/
theorem chainOf_ok {n : Nat} {σ : St} {s : Nat → Int32} (I : SI n s) (R : RH n σ s) (v1 : Int32) : ∀ (f g k i : Nat) (m : Int32), k < n → k < f → f ≤ g → i + f ≤ 24 → ∃ m2 : Int32, fX1_chainOf_7 (g + 1) σ v1 m (nI k) (nI i) = some m2 ∧ ∀ j, j < 32 → bt m2 j = (bt m j || inC s f k j) := by
  have hn := I.1
  intro f
  induction f with
  | zero => intro g k i m _ h; exact absurd h (Nat.not_lt_zero k)
  | succ f ih =>
    intro g k i m hk hf hg hi
    obtain ⟨g, rfl⟩ : ∃ q, g = q + 1 := ⟨g - 1, by omega⟩
    have e3 := (R.2.2.2.1 k hk).2.2.1
    have h24 : ¬ (24 : Int32) ≤ nI i := nI_ge_lit (N := 24) (by omega) (by decide)
    rw [fX1_chainOf_7_s, if_neg h24, knows_in R.1 hn hk, Option.bind_some, if_neg (by decide), bit_spec, Option.bind_some, if_neg (vp_in_nI (by omega) (by decide)), nI_1]
    simp only [cl (show k < 2 ^ 31 by omega), e3]
    rcases nxt_cases I hk with ⟨h, e⟩ | ⟨q, hq, h, e⟩
    · rw [h]
      refine ⟨m ||| (1 <<< (nI k &&& 31)), ?_, fun j hj => ?_⟩
      · rw [fX1_chainOf_7_s]
        by_cases hz : (24 : Int32) ≤ nI (i + 1)
        · rw [if_pos hz]
        · rw [if_neg hz, knows_m1]
          rfl
      · rw [b_or, b_bit (by omega) hj, inC_none e]
        by_cases hjk : j = k
        · subst hjk
          simp
        · rw [decide_eq_false hjk, beq_eq_false_iff_ne.mpr hjk]
    · rw [h]
      obtain ⟨m2, e1, e2⟩ := ih g q (i + 1) (m ||| (1 <<< (nI k &&& 31))) (by omega) (by omega) (by omega) (by omega)
      refine ⟨m2, e1, fun j hj => ?_⟩
      rw [e2 j hj, b_or, b_bit (by omega) hj, inC_some e]
      by_cases hjk : j = k
      · subst hjk
        simp
      · rw [decide_eq_false hjk, beq_eq_false_iff_ne.mpr hjk, Bool.or_false, Bool.false_or]
theorem chainOf_rel {n k : Nat} {σ : St} {s : Nat → Int32} (I : SI n s) (R : RH n σ s) (hk : k < n) : ∃ m : Int32, fX1_chainOf σ (nI k) = some m ∧ ∀ j, j < 32 → bt m j = (decide (j < n) && inC s 24 k j) := by
  have hn := I.1
  obtain ⟨m, e1, e2⟩ := chainOf_ok I R (nI k) 24 999 k 0 0 hk (by omega) (by decide) (by decide)
  refine ⟨m, e1, fun j hj => ?_⟩
  rw [e2 j hj, b_0, Bool.false_or]
  cases h : inC s 24 k j
  · rw [Bool.and_false]
  · have := inC_le I 24 k j hk h
    rw [decide_eq_true (by omega)]
    rfl
theorem depth_ok {n : Nat} {μ : St} (I : SI n (μ 1)) (v1 : Int32) : ∀ (f g k c : Nat), k < n → k < f → f ≤ g → fX4_depth_4 (g + 1) μ v1 (nI c) (nI k) = some (nI (c + lenC (μ 1) f k)) := by
  have hn := I.1
  intro f
  induction f with
  | zero => intro g k c _ h; exact absurd h (Nat.not_lt_zero k)
  | succ f ih =>
    intro g k c hk hf hg
    obtain ⟨g, rfl⟩ : ∃ q, g = q + 1 := ⟨g - 1, by omega⟩
    rw [fX4_depth_4_s, if_neg (nI_nn (by omega)), of2 (by omega), Option.bind_some, nI_1]
    rcases nxt_cases I hk with ⟨h, e⟩ | ⟨q, hq, h, e⟩
    · rw [h, fX4_depth_4_s, if_pos m1_neg, lenC_none e]
    · rw [h, ih g q (c + 1) (by omega) (by omega) (by omega), lenC_some e]
      congr 2
      omega
theorem depth_rel {n k : Nat} {μ : St} (I : SI n (μ 1)) (hk : k < n) : fX4_depth μ (nI k) = some (nI (lenC (μ 1) 24 k)) := by
  have h := depth_ok I (nI k) 24 999 k 0 hk (by have := I.1; omega) (by decide)
  rw [Nat.zero_add] at h
  exact h
theorem isInChain_ok {n a : Nat} {μ : St} (I : SI n (μ 1)) (v2 : Int32) (ha : a < n) : ∀ (f g k : Nat), k < n → k < f → f ≤ g → fX4_isInChain_2 (g + 1) μ (nI a) v2 (nI k) = some (if inC (μ 1) f k a then 1 else 0) := by
  have hn := I.1
  intro f
  induction f with
  | zero => intro g k _ h; exact absurd h (Nat.not_lt_zero k)
  | succ f ih =>
    intro g k hk hf hg
    obtain ⟨g, rfl⟩ : ∃ q, g = q + 1 := ⟨g - 1, by omega⟩
    rw [fX4_isInChain_2_s, if_neg (nI_nn (by omega))]
    by_cases hka : nI k = nI a
    · have hka2 := nI_inj (by omega) (by omega) hka
      subst hka2
      rw [if_pos rfl, if_pos rfl]
      have : inC (μ 1) (f + 1) k k = true := by
        show ((k == k) || _) = true
        rw [beq_self_eq_true, Bool.true_or]
      rw [this]
      rfl
    · have hne : (a == k) = false := beq_eq_false_iff_ne.mpr (fun z => hka (by rw [z]))
      rw [if_neg hka, of2 (by omega), Option.bind_some]
      rcases nxt_cases I hk with ⟨h, e⟩ | ⟨q, hq, h, e⟩
      · rw [h, fX4_isInChain_2_s, if_pos m1_neg, if_neg (fun z => nI_m1 (k := a) (by omega) z.symm), inC_none e, hne]
        rfl
      · rw [h, ih g q (by omega) (by omega) (by omega), inC_some e, hne, Bool.false_or]
theorem isInChain_rel {n a k : Nat} {μ : St} (I : SI n (μ 1)) (ha : a < n) (hk : k < n) : fX4_isInChain μ (nI a) (nI k) = some (if inC (μ 1) 24 k a then 1 else 0) := isInChain_ok I (nI k) ha 24 999 k hk (by have := I.1; omega) (by decide)
/-! chain, brokenIn -/
theorem chain_ok {n : Nat} {σ μ : St} (I : SI n (μ 1)) (R : RH n σ (μ 1)) (u1 v1 p2 : Int32) : ∀ (f g h k i : Nat), k < n → k < f → f ≤ g → f ≤ h → i + f ≤ 24 → ∃ r : Int32, fX1_cartOfChain_31 (g + 1) σ u1 p2 (nI k) (nI i) = some r ∧ fX4_chain_27 (h + 1) μ v1 p2 (nI k) (nI i) = some (r, μ) := by
  have hn := I.1
  intro f
  induction f with
  | zero => intro g h k i _ z; exact absurd z (Nat.not_lt_zero k)
  | succ f ih =>
    intro g h k i hk hf hg hh hi
    obtain ⟨g, rfl⟩ : ∃ q, g = q + 1 := ⟨g - 1, by omega⟩
    obtain ⟨h, rfl⟩ : ∃ q, h = q + 1 := ⟨h - 1, by omega⟩
    have e3 := (R.2.2.2.1 k hk).2.2.1
    rw [fX1_cartOfChain_31_s, fX4_chain_27_s, knows_in R.1 hn hk]
    simp only [Option.bind_some, i10, if_false, nI_1, cl (show k < 2 ^ 31 by omega), e3, of2 (show k < 24 by omega)]
    by_cases hz : p2 ≤ nI i
    · rw [if_pos hz, if_pos hz, if_pos (nI_nnT (by omega))]
      exact ⟨_, rfl, rfl⟩
    · rw [if_neg hz, if_neg hz, if_neg (vp_in_nI (by omega) (by decide)), if_neg (nI_nn (by omega))]
      rcases nxt_cases I hk with ⟨e, -⟩ | ⟨q, hq, e, -⟩
      · rw [e, fX1_cartOfChain_31_s, fX4_chain_27_s, knows_m1]
        refine ⟨-5, ?_, ?_⟩
        · by_cases hy : p2 ≤ nI (i + 1)
          · rw [if_pos hy]
            rfl
          · rw [if_neg hy]
            rfl
        · by_cases hy : p2 ≤ nI (i + 1)
          · rw [if_pos hy]
            rfl
          · rw [if_neg hy]
            rfl
      · rw [e]
        exact ih g h q (i + 1) (by omega) (by omega) (by omega) (by omega) (by omega)
theorem chain_far {n : Nat} {μ : St} (I : SI n (μ 1)) (v1 : Int32) {p2 : Int32} (hp : (24 : Int32) ≤ p2) : ∀ (f h k i : Nat), k < n → k < f → f ≤ h → i + f ≤ 24 → fX4_chain_27 (h + 1) μ v1 p2 (nI k) (nI i) = some (-5, μ) := by
  have hn := I.1
  intro f
  induction f with
  | zero => intro h k i _ z; exact absurd z (Nat.not_lt_zero k)
  | succ f ih =>
    intro h k i hk hf hh hi
    obtain ⟨h, rfl⟩ : ∃ q, h = q + 1 := ⟨h - 1, by omega⟩
    have hz : ¬ p2 ≤ nI i := fun z => by
      have z2 := Int32.le_trans hp z
      have := (nI_leI (a := 24) (by decide) (by omega)).mp z2
      omega
    rw [fX4_chain_27_s, if_neg hz, if_neg (nI_nn (by omega)), of2 (by omega), Option.bind_some, nI_1]
    rcases nxt_cases I hk with ⟨e, -⟩ | ⟨q, hq, e, -⟩
    · rw [e, fX4_chain_27_s]
      by_cases hy : p2 ≤ nI (i + 1)
      · rw [if_pos hy]
        rfl
      · rw [if_neg hy]
        rfl
    · rw [e]
      exact ih h q (i + 1) (by omega) (by omega) (by omega) (by omega)
theorem q_chain {x : XS} {μ : St} (hR : RX x μ) (p1 p2 : Int32) : ∃ (r : Int32) (μ2 : St), fX3_chain x p1 p2 = some r ∧ fX4_chain μ p1 p2 = some (r, μ2) ∧ RX x μ2 := by
  obtain ⟨n, I, Bd, R⟩ := hR.1
  have hn := I.1
  unfold fX3_chain fX1_cartOfChain fX4_chain
  rcases cart3 hn p1 with h | ⟨k, hk, rfl⟩
  · refine ⟨-1, up μ 0 0 0, ?_, ?_, thrown_ok hR⟩
    · rw [knows_out R.1 h]
      rfl
    · rw [isCart_out (μ := up μ 0 0 0) I.2.1 hn h]
      rfl
  · rw [knows_in R.1 hn hk, isCart_in (μ := up μ 0 0 0) I.2.1 hn hk]
    simp only [Option.bind_some, i10, if_false]
    by_cases h0 : 0 ≤ p2
    · rw [if_pos h0, if_pos h0]
      by_cases h24 : p2 < 24
      · rw [if_pos h24]
        obtain ⟨r, e1, e2⟩ := chain_ok (μ := up μ 0 0 0) I R (nI k) (nI k) p2 24 999 999 k 0 hk (by omega) (by decide) (by decide) (by decide)
        refine ⟨r, up μ 0 0 0, ?_, e2, thrown_ok hR⟩
        rw [show fX1_cartOfChain_31 1000 x.2.1 (nI k) p2 (nI k) 0 = some r from e1]
        rfl
      · rw [if_neg h24]
        exact ⟨-5, up μ 0 0 0, rfl, chain_far (μ := up μ 0 0 0) I (nI k) (Int32.not_lt.mp h24) 24 999 k 0 hk (by omega) (by decide) (by decide), thrown_ok hR⟩
    · rw [if_neg h0, if_neg h0]
      exact ⟨-2, up μ 0 0 0, rfl, rfl, thrown_ok hR⟩
theorem broken_ok {n : Nat} {σ μ : St} (I : SI n (μ 1)) (R : RH n σ (μ 1)) (u1 v1 : Int32) : ∀ (f g h k i : Nat), k < n → k < f → f ≤ g → f ≤ h → i + f ≤ 24 → ∃ r : Int32, fX1_firstBroken_14 (g + 1) σ u1 (nI k) (nI i) = some r ∧ fX4_brokenIn_17 (h + 1) μ v1 (nI k) = some (r, μ) := by
  have hn := I.1
  intro f
  induction f with
  | zero => intro g h k i _ z; exact absurd z (Nat.not_lt_zero k)
  | succ f ih =>
    intro g h k i hk hf hg hh hi
    obtain ⟨g, rfl⟩ : ∃ q, g = q + 1 := ⟨g - 1, by omega⟩
    obtain ⟨h, rfl⟩ : ∃ q, h = q + 1 := ⟨h - 1, by omega⟩
    have e3 := (R.2.2.2.1 k hk).2.2.1
    have h24 : ¬ (24 : Int32) ≤ nI i := nI_ge_lit (N := 24) (by omega) (by decide)
    rw [fX1_firstBroken_14_s, fX4_brokenIn_17_s, if_neg h24, knows_in R.1 hn hk, isWhole_rel I R hk, isWhole4_eq (by omega) I.2.2.1 (I.aheadOK hk), if_neg (nI_nn (by omega))]
    simp only [Option.bind_some, i10, if_false, nI_1, cl (show k < 2 ^ 31 by omega), e3, of2 (show k < 24 by omega)]
    by_cases hw : whB (μ 1) k = true
    · simp only [hw, if_true, i10, if_false]
      rw [if_neg (vp_in_nI (by omega) (by decide))]
      rcases nxt_cases I hk with ⟨e, -⟩ | ⟨q, hq, e, -⟩
      · rw [e, fX1_firstBroken_14_s, fX4_brokenIn_17_s, knows_m1]
        refine ⟨-5, ?_, rfl⟩
        by_cases hy : (24 : Int32) ≤ nI (i + 1)
        · rw [if_pos hy]
        · rw [if_neg hy]
          rfl
      · rw [e]
        exact ih g h q (i + 1) (by omega) (by omega) (by omega) (by omega) (by omega)
    · have hw : whB (μ 1) k = false := Bool.not_eq_true _ ▸ hw
      simp only [hw]
      refine ⟨nI k, by simp, ?_⟩
      have := nI_nnT (k := k) (by omega)
      simp [this]
theorem q_brokenIn {x : XS} {μ : St} (hR : RX x μ) (p1 : Int32) : ∃ (r : Int32) (μ2 : St), fX3_brokenIn x p1 = some r ∧ fX4_brokenIn μ p1 = some (r, μ2) ∧ RX x μ2 := by
  obtain ⟨n, I, Bd, R⟩ := hR.1
  have hn := I.1
  unfold fX3_brokenIn fX1_firstBroken fX4_brokenIn
  rcases cart3 hn p1 with h | ⟨k, hk, rfl⟩
  · refine ⟨-1, up μ 0 0 0, ?_, ?_, thrown_ok hR⟩
    · rw [knows_out R.1 h]
      rfl
    · rw [isCart_out (μ := up μ 0 0 0) I.2.1 hn h]
      rfl
  · rw [knows_in R.1 hn hk, isCart_in (μ := up μ 0 0 0) I.2.1 hn hk]
    simp only [Option.bind_some, i10, if_false]
    obtain ⟨r, e1, e2⟩ := broken_ok (μ := up μ 0 0 0) I R (nI k) (nI k) 24 999 999 k 0 hk (by omega) (by decide) (by decide) (by decide)
    refine ⟨r, up μ 0 0 0, ?_, e2, thrown_ok hR⟩
    rw [show fX1_firstBroken_14 1000 x.2.1 (nI k) (nI k) 0 = some r from e1]
    rfl
