/-! PURE: what an honest opening reaches -/
/-- the head and the first four numbers of each cart agree -/
def AG (s t : Nat → Int32) : Prop := ∀ j, (j < 8 ∨ j % 8 < 4) → t j = s j
theorem AG.refl {s : Nat → Int32} : AG s s := fun _ _ => rfl
theorem AG.trans {s t u : Nat → Int32} (a : AG s t) (b : AG t u) : AG s u := fun j hj => (b j hj).trans (a j hj)
theorem AG_upd {s : Nat → Int32} {j : Nat} {v : Int32} (h : 8 ≤ j ∧ 4 ≤ j % 8) : AG s (upd s j v) := fun i hi => upd_n (by omega)
theorem AG.wh {s t : Nat → Int32} (a : AG s t) (k : Nat) : whB t k = whB s k := by
  unfold whB sealX ahS
  rw [a (8 + 8 * k + 3) (by omega), a (8 + 8 * k) (by omega), a 0 (by omega), a 1 (by omega), a 2 (by omega), a (8 + 8 * k + 2) (by omega), a (8 + 8 * (s (8 + 8 * k + 2)).toNatClampNeg + 3) (by omega)]
theorem AG.nx {s t : Nat → Int32} (a : AG s t) (k : Nat) : nxt t k = nxt s k := by
  unfold nxt
  rw [a (8 + 8 * k + 2) (by omega)]
/-- j is reached from k, going on past whole seals alone -/
def inR (s : Nat → Int32) : Nat → Nat → Nat → Bool
  | 0, _, _ => false
  | f + 1, k, j => (j == k) || (match whB s k, nxt s k with
    | true, some q => inR s f q j
    | _, _ => false)
theorem inR_end {s : Nat → Int32} {f k j : Nat} (h : whB s k = false ∨ nxt s k = none) : inR s (f + 1) k j = (j == k) := by
  unfold inR
  rcases h with h | h
  · rw [h]
    simp
  · rw [h]
    cases whB s k <;> simp
theorem inR_some {s : Nat → Int32} {f k j q : Nat} (hw : whB s k = true) (h : nxt s k = some q) : inR s (f + 1) k j = ((j == k) || inR s f q j) := by
  show ((j == k) || (match whB s k, nxt s k with
    | true, some q => inR s f q j
    | _, _ => false)) = _
  rw [hw, h]
theorem AG.re {s t : Nat → Int32} (a : AG s t) : ∀ (f k j : Nat), inR t f k j = inR s f k j := by
  intro f
  induction f with
  | zero => intro k j; rfl
  | succ f ih =>
    intro k j
    have w := a.wh k
    have x := a.nx k
    cases hw : whB s k
    · rw [hw] at w
      rw [inR_end (Or.inl hw), inR_end (Or.inl w)]
    · rw [hw] at w
      cases hx : nxt s k with
      | none =>
        rw [hx] at x
        rw [inR_end (Or.inr hx), inR_end (Or.inr x)]
      | some q =>
        rw [hx] at x
        rw [inR_some hw hx, inR_some w x, ih]
theorem inR_le {n : Nat} {s : Nat → Int32} (I : SI n s) : ∀ (f k j : Nat), k < n → inR s f k j = true → j ≤ k := by
  intro f
  induction f with
  | zero => intro k j _ h; cases h
  | succ f ih =>
    intro k j hk h
    cases hw : whB s k
    · rw [inR_end (Or.inl hw)] at h
      have := beq_iff_eq.mp h
      omega
    · rcases nxt_cases I hk with ⟨-, e⟩ | ⟨q, hq, -, e⟩
      · rw [inR_end (Or.inr e)] at h
        have := beq_iff_eq.mp h
        omega
      · rw [inR_some hw e, Bool.or_eq_true] at h
        rcases h with h | h
        · have := beq_iff_eq.mp h
          omega
        · have := ih q j (by omega) h
          omega
theorem reach_ok {n : Nat} {σ : St} {s : Nat → Int32} (I : SI n s) (R : RH n σ s) (v1 : Int32) : ∀ (f g k i : Nat) (m : Int32), k < n → k < f → f ≤ g → i + f ≤ 24 → ∃ m2 : Int32, fX1_reachedFrom_7 (g + 1) σ v1 m (nI k) (nI i) = some m2 ∧ ∀ j, j < 32 → bt m2 j = (bt m j || inR s f k j) := by
  have hn := I.1
  intro f
  induction f with
  | zero => intro g k i m _ h; exact absurd h (Nat.not_lt_zero k)
  | succ f ih =>
    intro g k i m hk hf hg hi
    obtain ⟨g, rfl⟩ : ∃ q, g = q + 1 := ⟨g - 1, by omega⟩
    have e3 := (R.2.2.2.1 k hk).2.2.1
    have h24 : ¬ (24 : Int32) ≤ nI i := nI_ge_lit (N := 24) (by omega) (by decide)
    have one : ∀ j, j < 32 → bt (m ||| (1 <<< (nI k &&& 31))) j = (bt m j || (j == k)) := fun j hj => by
      rw [b_or, b_bit (by omega) hj]
      by_cases hjk : j = k
      · subst hjk
        simp
      · rw [decide_eq_false hjk, beq_eq_false_iff_ne.mpr hjk]
    rw [fX1_reachedFrom_7_s, if_neg h24, knows_in R.1 hn hk, Option.bind_some, if_neg (by decide), bit_spec, Option.bind_some, isWhole_rel I R hk, Option.bind_some, if_neg (vp_in_nI (by omega) (by decide)), nI_1]
    simp only [cl (show k < 2 ^ 31 by omega), e3]
    cases hw : whB s k
    · refine ⟨m ||| (1 <<< (nI k &&& 31)), by rw [if_neg (show ¬ (false = true) by decide), if_pos rfl], fun j hj => ?_⟩
      rw [one j hj, inR_end (Or.inl hw)]
    · rw [if_pos rfl, if_neg (by decide)]
      rcases nxt_cases I hk with ⟨h, e⟩ | ⟨q, hq, h, e⟩
      · rw [h]
        refine ⟨m ||| (1 <<< (nI k &&& 31)), ?_, fun j hj => ?_⟩
        · rw [fX1_reachedFrom_7_s]
          by_cases hz : (24 : Int32) ≤ nI (i + 1)
          · rw [if_pos hz]
          · rw [if_neg hz, knows_m1]
            rfl
        · rw [one j hj, inR_end (Or.inr e)]
      · rw [h]
        obtain ⟨m2, e1, e2⟩ := ih g q (i + 1) (m ||| (1 <<< (nI k &&& 31))) (by omega) (by omega) (by omega) (by omega)
        refine ⟨m2, e1, fun j hj => ?_⟩
        rw [e2 j hj, one j hj, inR_some hw e, Bool.or_assoc]
theorem reach_rel {n k : Nat} {σ : St} {s : Nat → Int32} (I : SI n s) (R : RH n σ s) (hk : k < n) : ∃ m : Int32, fX1_reachedFrom σ (nI k) = some m ∧ ∀ j, j < 32 → bt m j = (decide (j < n) && inR s 24 k j) := by
  have hn := I.1
  obtain ⟨m, e1, e2⟩ := reach_ok I R (nI k) 24 999 k 0 0 hk (by omega) (by decide) (by decide)
  refine ⟨m, e1, fun j hj => ?_⟩
  rw [e2 j hj, b_0, Bool.false_or]
  cases h : inR s 24 k j
  · rw [Bool.and_false]
  · have := inR_le I 24 k j hk h
    rw [decide_eq_true (by omega)]
    rfl
/-- neither found out nor cleared -/
def frs (s : Nat → Int32) (j : Nat) : Bool := decide (s (8 + 8 * j + 6) = 0) && decide (s (8 + 8 * j + 5) = 0)
theorem dec01 {v : Int32} (h : v = 0 ∨ v = 1) : decide (v = 0) = !decide (v = 1) := by
  rcases h with h | h <;> rw [h] <;> decide
theorem honest_rel {n k : Nat} {σ : St} {s : Nat → Int32} (I : SI n s) (R : RH n σ s) (hk : k < n) : ∃ m : Int32, fX1_clearedIfHonest σ (nI k) = some m ∧ ∀ j, j < 32 → bt m j = (decide (j < n) && (inR s 24 k j && frs s j)) := by
  have hn := I.1
  obtain ⟨m, e1, e2⟩ := reach_rel I R hk
  refine ⟨(m &&& ((σ 8 0) ^^^ (-1))) &&& ((σ 9 0) ^^^ (-1)), by unfold fX1_clearedIfHonest; rw [e1]; rfl, fun j hj => ?_⟩
  rw [b_and, b_and, e2 j hj, b_not _ hj, b_not _ hj, (R.2.2.2.2 j hj).2.1, (R.2.2.2.2 j hj).2.2]
  unfold frs
  by_cases hjn : j < n
  · obtain ⟨-, s5, s6⟩ := I.2.2.2.2.1 j (by omega)
    rw [dec01 s5, dec01 s6, decide_eq_true hjn]
    simp only [Bool.true_and, Bool.and_assoc]
  · rw [decide_eq_false hjn]
    simp
/-! the reference's clearing -/
def clS (s : Nat → Int32) (p : Nat → Bool) : Nat → Int32 := fun j => if (8 ≤ j ∧ j % 8 = 5) ∧ p ((j - 8) / 8) = true ∧ s (j + 1) = 0 then 1 else s j
theorem clS_o {s : Nat → Int32} {p : Nat → Bool} {j : Nat} (h : j < 8 ∨ j % 8 ≠ 5) : clS s p j = s j := if_neg (fun z => by omega)
theorem clS_5 {s : Nat → Int32} {p : Nat → Bool} {k : Nat} : clS s p (8 + 8 * k + 5) = if p k = true ∧ s (8 + 8 * k + 6) = 0 then 1 else s (8 + 8 * k + 5) := by
  unfold clS
  have e : (8 + 8 * k + 5 - 8) / 8 = k := by omega
  rw [e]
  by_cases h : p k = true ∧ s (8 + 8 * k + 6) = 0
  · rw [if_pos h, if_pos ⟨by omega, h⟩]
  · rw [if_neg h, if_neg (fun z => h z.2)]
theorem AG_clS {s : Nat → Int32} {p : Nat → Bool} : AG s (clS s p) := fun j hj => clS_o (by omega)
theorem ix5 (j : Nat) (h : 8 ≤ j ∧ j % 8 = 5) : ∃ k, j = 8 + 8 * k + 5 := ⟨(j - 8) / 8, by omega⟩
theorem clS_clS {s : Nat → Int32} {p q : Nat → Bool} : clS (clS s p) q = clS s (fun c => p c || q c) := by
  funext j
  by_cases h : 8 ≤ j ∧ j % 8 = 5
  · obtain ⟨k, rfl⟩ := ix5 j h
    rw [clS_5, clS_5, clS_5, clS_o (j := 8 + 8 * k + 6) (by omega)]
    by_cases h6 : s (8 + 8 * k + 6) = 0
    · cases p k <;> cases q k <;> simp [h6]
    · simp [h6]
  · rw [clS_o (by omega), clS_o (by omega), clS_o (by omega)]
theorem clS_lay {s : Nat → Int32} {k : Nat} (h : s (8 + 8 * k + 6) = 0) : upd s (8 + 8 * k + 5) 1 = clS s (fun c => c == k) := by
  funext j
  by_cases hj : 8 ≤ j ∧ j % 8 = 5
  · obtain ⟨c, rfl⟩ := ix5 j hj
    rw [clS_5]
    by_cases e : c = k
    · subst e
      rw [upd_s, if_pos ⟨by simp, h⟩]
    · rw [upd_n (by omega), if_neg (fun z => e (beq_iff_eq.mp z.1))]
  · rw [clS_o (by omega), upd_n (by omega)]
theorem clS_none {s : Nat → Int32} {k : Nat} (h : ¬ s (8 + 8 * k + 6) = 0) : clS s (fun c => c == k) = s := by
  funext j
  by_cases hj : 8 ≤ j ∧ j % 8 = 5
  · obtain ⟨c, rfl⟩ := ix5 j hj
    rw [clS_5]
    by_cases e : c = k
    · subst e
      rw [if_neg (fun z => h z.2)]
    · rw [if_neg (fun z => e (beq_iff_eq.mp z.1))]
  · rw [clS_o (by omega)]
theorem SI_clS {n : Nat} {s : Nat → Int32} {p : Nat → Bool} (I : SI n s) (hp : ∀ c, p c = true → c < n) : SI n (clS s p) := by
  obtain ⟨i1, i2, i3, i4, i5, i6, i7⟩ := I
  refine ⟨i1, by rw [clS_o (by omega)]; exact i2, by rw [clS_o (by omega)]; exact i3, fun k hk => ?_, fun k hk => ?_, fun k h0 hk => ?_, fun k hk => ?_⟩
  · rw [clS_o (by omega)]
    exact i4 k hk
  · rw [clS_o (j := 8 + 8 * k + 4) (by omega), clS_o (j := 8 + 8 * k + 6) (by omega), clS_5]
    obtain ⟨a, b, c⟩ := i5 k hk
    refine ⟨a, ?_, c⟩
    by_cases h : p k = true ∧ s (8 + 8 * k + 6) = 0
    · rw [if_pos h]
      exact Or.inr rfl
    · rw [if_neg h]
      exact b
  · rw [clS_o (j := 8 + 8 * k + 4) (by omega), clS_o (j := 8 + 8 * k + 6) (by omega), clS_o (j := 8 + 8 * k + 7) (by omega), clS_5, if_neg (fun z => by have := hp k z.1; omega)]
    exact i6 k h0 hk
  · rw [clS_o (j := 8 + 8 * k + 4) (by omega), clS_o (j := 8 + 8 * k + 6) (by omega)]
    exact i7 k hk
theorem SB_AG {n : Nat} {s t : Nat → Int32} (a : AG s t) (Bd : SB n s) : SB n t := by
  obtain ⟨b1, b2, b3⟩ := Bd
  refine ⟨fun i hi => ?_, by rw [a 2 (by omega)]; exact b2, fun k hk => ?_⟩
  · rw [a i (by omega)]
    exact b1 i hi
  · rw [a (8 + 8 * k) (by omega), a (8 + 8 * k + 3) (by omega)]
    exact b3 k hk
def st1 (μ : St) (s : Nat → Int32) : St := fun a => if a = 1 then s else μ a
theorem st1_s {μ : St} {s : Nat → Int32} : st1 μ s 1 = s := if_pos rfl
theorem st1_n {μ : St} {s : Nat → Int32} {a : Nat} (h : a ≠ 1) : st1 μ s a = μ a := if_neg h
theorem st1_up {μ : St} {j : Nat} {v : Int32} : up μ 1 j v = st1 μ (upd (μ 1) j v) := by
  funext a
  by_cases h : a = 1
  · subst h
    rw [up_s, st1_s]
  · rw [up_n h, st1_n h]
theorem st1_st1 {μ : St} {s t : Nat → Int32} : st1 (st1 μ s) t = st1 μ t := by
  funext a
  by_cases h : a = 1
  · subst h
    rw [st1_s, st1_s]
  · rw [st1_n h, st1_n h, st1_n h]
theorem st1_id {μ : St} : st1 μ (μ 1) = μ := by
  funext a
  by_cases h : a = 1
  · subst h
    rw [st1_s]
  · rw [st1_n h]
theorem cnt_split {p : Nat → Bool} {k N : Nat} {b : Bool} (hp : p k = false) (hk : k < N) : cnt (fun j => ((j == k) && b) || p j) N = (if b then 1 else 0) + cnt p N := by
  cases b
  · rw [cnt_cong (q := p) (fun j _ => by simp)]
    simp
  · rw [cnt_cong (q := fun j => (j == k) || p j) (fun j _ => by simp), cnt_or_one hp N hk]
    simp
theorem frs_clS {s : Nat → Int32} {j k : Nat} (h : j ≠ k) : frs (clS s (fun c => c == k)) j = frs s j := by
  unfold frs
  rw [clS_o (j := 8 + 8 * j + 6) (by omega), clS_5, if_neg (fun z => h (beq_iff_eq.mp z.1))]
theorem clears_ok {n : Nat} (v1 : Int32) : ∀ (f g k c : Nat) (μ : St), SI n (μ 1) → k < n → k < f → f ≤ g → fX4_clears_7 (g + 1) μ v1 (nI c) (nI k) 1 = some (nI (c + cnt (fun j => inR (μ 1) f k j && frs (μ 1) j) n), st1 μ (clS (μ 1) (inR (μ 1) f k))) := by
  intro f
  induction f with
  | zero => intro g k c μ _ _ h; exact absurd h (Nat.not_lt_zero k)
  | succ f ih =>
    intro g k c μ I hk hf hg
    have hn := I.1
    obtain ⟨g, rfl⟩ : ∃ q, g = q + 1 := ⟨g - 1, by omega⟩
    have hp : ∀ e, (e == k) = true → e < n := fun e z => by have := beq_iff_eq.mp z; omega
    -- the step, whichever way
    have aft : ∀ (μ2 : St) (c2 : Nat), μ2 = st1 μ (clS (μ 1) (fun e => e == k)) → c2 = c + (if frs (μ 1) k then 1 else 0) → ((fX4_isWhole μ2 (nI k)).bind (fun r15 => if r15 = 0 then (fX4_clears_7 (g + 1) μ2 v1 (nI c2) (nI k) 0) else ((fX4_of μ2 (nI k) 2).bind (fun r18 => if r18 < 0 then (fX4_clears_7 (g + 1) μ2 v1 (nI c2) (nI k) 0) else ((fX4_of μ2 (nI k) 2).bind (fun r22 => fX4_clears_7 (g + 1) μ2 v1 (nI c2) r22 1)))))) = some (nI (c + cnt (fun j => inR (μ 1) (f + 1) k j && frs (μ 1) j) n), st1 μ (clS (μ 1) (inR (μ 1) (f + 1) k))) := by
      intro μ2 c2 e2 ec
      have es : μ2 1 = clS (μ 1) (fun e => e == k) := by rw [e2, st1_s]
      have I2 : SI n (μ2 1) := by rw [es]; exact SI_clS I hp
      have A2 : AG (μ 1) (μ2 1) := by rw [es]; exact AG_clS
      have fin : (∀ j, inR (μ 1) (f + 1) k j = (j == k)) → some (nI c2, μ2) = some (nI (c + cnt (fun j => inR (μ 1) (f + 1) k j && frs (μ 1) j) n), st1 μ (clS (μ 1) (inR (μ 1) (f + 1) k))) := by
        intro h
        have hc : cnt (fun j => inR (μ 1) (f + 1) k j && frs (μ 1) j) n = (if frs (μ 1) k then 1 else 0) := by
          rw [cnt_cong (q := fun j => ((j == k) && frs (μ 1) k) || false) (fun j _ => by
            rw [h j]
            by_cases e : j = k
            · subst e
              simp
            · rw [beq_eq_false_iff_ne.mpr e]
              simp), cnt_split (p := fun _ => false) rfl hk]
          have h0 : ∀ M, cnt (fun _ => false) M = 0 := fun M => by
            induction M with
            | zero => rfl
            | succ M ih => show cnt (fun _ => false) M + 0 = 0; rw [ih]
          rw [h0]
          rfl
        have hf2 : inR (μ 1) (f + 1) k = fun e => e == k := funext h
        rw [hc, hf2, ec, e2]
      have stop : fX4_clears_7 (g + 1) μ2 v1 (nI c2) (nI k) 0 = some (nI c2, μ2) := by
        rw [fX4_clears_7_s, if_pos rfl]
      rw [isWhole4_eq (by omega) I2.2.2.1 (I2.aheadOK hk), Option.bind_some, of2 (by omega), Option.bind_some, A2.wh k, A2 (8 + 8 * k + 2) (by omega), stop]
      cases hw : whB (μ 1) k
      · rw [if_neg (show ¬ (false = true) by decide), if_pos rfl]
        exact fin (fun j => inR_end (Or.inl hw))
      · rw [if_pos rfl, if_neg (by decide)]
        rcases nxt_cases I hk with ⟨h, e⟩ | ⟨q, hq, h, e⟩
        · rw [h, if_pos m1_neg]
          exact fin (fun j => inR_end (Or.inr e))
        · rw [h, if_neg (nI_nn (by omega)), Option.bind_some, ih g q c2 μ2 I2 (by omega) (by omega) (by omega)]
          have hq0 : inR (μ 1) f q k = false := by
            cases hz : inR (μ 1) f q k
            · rfl
            · have := inR_le I f q k (by omega) hz
              omega
          have hR2 : inR (μ2 1) f q = inR (μ 1) f q := funext (fun j => A2.re f q j)
          have hc : cnt (fun j => inR (μ 1) (f + 1) k j && frs (μ 1) j) n = (if frs (μ 1) k then 1 else 0) + cnt (fun j => inR (μ 1) f q j && frs (μ2 1) j) n := by
            rw [← cnt_split (p := fun j => inR (μ 1) f q j && frs (μ2 1) j) (by show (inR (μ 1) f q k && _) = false; rw [hq0]; rfl) hk]
            refine cnt_cong (fun j _ => ?_)
            rw [inR_some hw e]
            by_cases ej : j = k
            · subst ej
              rw [hq0]
              simp
            · rw [beq_eq_false_iff_ne.mpr ej, es, frs_clS ej]
              simp
          rw [hR2, hc, ec, e2, st1_st1, st1_s, clS_clS, Nat.add_assoc, ← es, funext (fun j => (inR_some (j := j) hw e).symm)]
    rw [fX4_clears_7_s, if_neg (by decide), of6 (by omega), Option.bind_some]
    obtain ⟨-, s5, s6⟩ := I.2.2.2.2.1 k (by omega)
    by_cases h6 : μ 1 (8 + 8 * k + 6) = 0
    · rw [if_pos h6, of5 (by omega), Option.bind_some, lay5 (by omega), Option.bind_some]
      have hμ : up μ 1 (8 + 8 * k + 5) 1 = st1 μ (clS (μ 1) (fun e => e == k)) := by rw [st1_up, clS_lay h6]
      have hc : nI c + (1 - μ 1 (8 + 8 * k + 5)) = nI (c + (if frs (μ 1) k then 1 else 0)) := by
        unfold frs
        rw [decide_eq_true h6]
        rcases s5 with z | z
        · rw [z]
          exact nI_1 c
        · rw [z]
          exact add0 _
      rw [hc]
      exact aft _ _ hμ rfl
    · rw [if_neg h6]
      have hμ : μ = st1 μ (clS (μ 1) (fun e => e == k)) := by rw [clS_none h6, st1_id]
      have hc : c = c + (if frs (μ 1) k then 1 else 0) := by
        unfold frs
        rw [decide_eq_false h6]
        rfl
      exact aft _ _ hμ hc
theorem clears_rel {n k : Nat} {μ : St} (I : SI n (μ 1)) (hk : k < n) : fX4_clears μ (nI k) = some (nI (cnt (fun j => inR (μ 1) 24 k j && frs (μ 1) j) n), st1 μ (clS (μ 1) (inR (μ 1) 24 k))) := by
  have h := clears_ok (nI k) 24 999 k 0 μ I hk (by have := I.1; omega) (by decide)
  rw [Nat.zero_add] at h
  exact h
