/-! PURE: open, openAll as changes -/
theorem open_H {n : Nat} {σ μ : St} (I : SI n (μ 1)) (R : RH n σ (μ 1)) (p1 : Int32) : (∃ r : Int32, r < 0 ∧ fX1_inspect σ p1 = some (r, σ) ∧ fX4_refusesOpening μ p1 = some r) ∨ ∃ k : Nat, k < n ∧ p1 = nI k ∧ ¬ μ 1 (8 + 8 * k + 4) = 1 ∧ fX4_refusesOpening μ p1 = some 0 := by
  have hn := I.1
  rcases cart3 hn p1 with h | ⟨k, hk, rfl⟩
  · refine Or.inl ⟨-1, by decide, ?_, ?_⟩
    · unfold fX1_inspect
      rw [knows_out R.1 h]
      rfl
    · unfold fX4_refusesOpening
      rw [isCart_out I.2.1 hn h]
      rfl
  · by_cases ho : μ 1 (8 + 8 * k + 4) = 1
    · refine Or.inl ⟨-4, by decide, ?_, ?_⟩
      · unfold fX1_inspect
        rw [knows_in R.1 hn hk, Option.bind_some, if_neg (by decide), in7 R hn hk, Option.bind_some, if_pos ho, if_neg (by decide)]
      · unfold fX4_refusesOpening
        rw [isCart_in I.2.1 hn hk, Option.bind_some, if_neg (by decide), of4 (by omega), Option.bind_some, if_pos ho]
    · refine Or.inr ⟨k, hk, rfl, ho, ?_⟩
      unfold fX4_refusesOpening
      rw [isCart_in I.2.1 hn hk, Option.bind_some, if_neg (by decide), of4 (by omega), Option.bind_some, if_neg ho]
theorem q_open {x : XS} {μ : St} (hR : RX x μ) (p1 : Int32) : ∃ (r : Int32) (x2 : XS) (μ2 : St), fX3_open x p1 = some (r, x2) ∧ fX4_open μ p1 = some (r, μ2) ∧ RX x2 μ2 := by
  obtain ⟨n, I, Bd, R⟩ := hR.1
  have hn := I.1
  rcases open_H (μ := up μ 0 0 0) I R p1 with ⟨r, hr, e1, e2⟩ | ⟨k, hk, rfl, ho, e2⟩
  · refine ⟨r, _, up μ 0 0 0, ?_, ?_, same_ok hR⟩
    · show (fX1_inspect x.2.1 p1).bind _ = _
      rw [e1]
      exact X3_err hr
    · unfold fX4_open
      rw [e2, Option.bind_some, if_neg (neg_ne hr)]
  · obtain ⟨μ1, er, hs, hc⟩ := chg_ok hR
    have h1 : μ1 1 = μ 1 := hs 1 (by decide) (by decide)
    obtain ⟨r, σ2, μ2, hr, a1, a2, a3, a4, a5, a6, -⟩ := opens_rel (σ := x.2.1) (μ := μ1) (n := n) (k := k) (by rw [h1]; exact I) (by rw [h1]; exact Bd) (by rw [h1]; exact R) hk (by rw [h1]; exact ho)
    refine ⟨nI r, _, μ2, ?_, ?_, hc σ2 μ2 a3 ⟨n, a4, a5, a6⟩⟩
    · show (fX1_inspect x.2.1 (nI k)).bind _ = _
      rw [a1]
      exact X3_rec (r := nI r) (nI_nn hr)
    · unfold fX4_open
      rw [e2, Option.bind_some, if_pos rfl, er, Option.bind_some, a2]
      rfl
theorem max_or (p : Nat → Bool) : ∀ n, (∀ j, j < n → p j = false) ∨ ∃ m, m < n ∧ p m = true ∧ ∀ j, m < j → j < n → p j = false
  | 0 => Or.inl (fun j hj => absurd hj (Nat.not_lt_zero j))
  | n + 1 => by
    cases h : p n
    · rcases max_or p n with h1 | ⟨m, h1, h2, h3⟩
      · refine Or.inl (fun j hj => ?_)
        by_cases e : j = n
        · rw [e]
          exact h
        · exact h1 j (by omega)
      · refine Or.inr ⟨m, by omega, h2, fun j h4 h5 => ?_⟩
        by_cases e : j = n
        · rw [e]
          exact h
        · exact h3 j h4 (by omega)
    · exact Or.inr ⟨n, by omega, h, fun j h1 h2 => by omega⟩
theorem none_loop {n : Nat} {σ : St} {s : Nat → Int32} (I : SI n s) (R : RH n σ s) (h : ∀ j, j < n → lf s j = false) : ∀ m f, m ≤ n → m < f → fX1_inspectAll_9 f σ 0 (nI m - 1) = some (-5, σ) := by
  have hn := I.1
  obtain ⟨w, w1, w2⟩ := waits I R
  intro m
  induction m with
  | zero =>
    intro f _ hf
    obtain ⟨f, rfl⟩ : ∃ q, f = q + 1 := ⟨f - 1, by omega⟩
    rw [fX1_inspectAll_9_s, if_pos (show nI 0 - 1 < 0 by decide), if_pos (by decide)]
  | succ m ih =>
    intro f hm hf
    obtain ⟨f, rfl⟩ : ∃ q, f = q + 1 := ⟨f - 1, by omega⟩
    rw [nI_pred, fX1_inspectAll_9_s, if_neg (nI_nn (by omega)), w1, Option.bind_some, isIn_spec (by omega), Option.bind_some, w2 m (by omega), h m (by omega), Bool.and_false, if_neg (show ¬ (false = true) by decide), if_pos rfl, sub1]
    exact ih f (by omega) (by omega)
theorem all_loop {n : Nat} : ∀ (m f g c : Nat) (σ μ : St), m ≤ n → m < f → m < g → c + m < 2 ^ 31 → SI n (μ 1) → SB n (μ 1) → RH n σ (μ 1) → (∀ j, m ≤ j → j < n → lf (μ 1) j = false) → ∃ (q : Nat) (σ2 μ2 : St), c ≤ q ∧ q < 2 ^ 31 ∧ ((∃ j, j < m ∧ lf (μ 1) j = true) → c < q) ∧ fX1_inspectAll_9 f σ (nI c) (nI m - 1) = (if nI q ≤ 0 then some (-5, σ2) else some (nI q, σ2)) ∧ fX4_openAll_23 g μ (nI c) = some (nI q, μ2) ∧ (∀ a, a ≠ 1 → μ2 a = μ a) ∧ SI n (μ2 1) ∧ SB n (μ2 1) ∧ RH n σ2 (μ2 1) := by
  intro m
  induction m with
  | zero =>
    intro f g c σ μ _ hf hg hc I Bd R hl
    obtain ⟨f, rfl⟩ : ∃ q, f = q + 1 := ⟨f - 1, by omega⟩
    obtain ⟨g, rfl⟩ : ∃ q, g = q + 1 := ⟨g - 1, by omega⟩
    refine ⟨c, σ, μ, Nat.le_refl c, by omega, fun ⟨j, hj, _⟩ => absurd hj (Nat.not_lt_zero j), ?_, ?_, fun a _ => rfl, I, Bd, R⟩
    · rw [fX1_inspectAll_9_s, if_pos (show nI 0 - 1 < 0 by decide)]
    · rw [fX4_openAll_23_s, last_no I (fun j hj => hl j (Nat.zero_le j) hj), Option.bind_some, if_pos rfl]
  | succ m ih =>
    intro f g c σ μ hm hf hg hc I Bd R hl
    have hn := I.1
    obtain ⟨w, w1, w2⟩ := waits I R
    obtain ⟨f, rfl⟩ : ∃ q, f = q + 1 := ⟨f - 1, by omega⟩
    have hmn : m < n := by omega
    rw [nI_pred, fX1_inspectAll_9_s, if_neg (nI_nn (by omega)), w1, Option.bind_some, isIn_spec (by omega), Option.bind_some, w2 m (by omega), decide_eq_true hmn, Bool.true_and, sub1, nI_1]
    cases hz : lf (μ 1) m
    · rw [if_neg (show ¬ (false = true) by decide), if_pos rfl]
      obtain ⟨q, σ2, μ2, a1, a2, a3, a4⟩ := ih f g c σ μ (by omega) (by omega) (by omega) (by omega) I Bd R (fun j h1 h2 => by
        by_cases e : j = m
        · rw [e]
          exact hz
        · exact hl j (by omega) h2)
      refine ⟨q, σ2, μ2, a1, a2, fun ⟨j, hj, hlj⟩ => a3 ⟨j, ?_, hlj⟩, a4⟩
      by_cases e : j = m
      · rw [e, hz] at hlj
        cases hlj
      · omega
    · obtain ⟨g, rfl⟩ : ∃ q, g = q + 1 := ⟨g - 1, by omega⟩
      have ho : ¬ μ 1 (8 + 8 * m + 4) = 1 := fun e => by
        unfold lf at hz
        rw [e] at hz
        simp at hz
      obtain ⟨r, σ2, μ2, hr, b1, b2, b3, b4, b5, b6, b7⟩ := opens_rel I Bd R hmn ho
      rw [if_pos rfl, if_neg (by decide), b1, Option.bind_some, fX4_openAll_23_s, last_in I hmn hz (fun j h1 h2 => hl j (by omega) h2), Option.bind_some, if_neg (nI_m5 (by omega)), Option.bind_some, b2, Option.bind_some, nI_1]
      obtain ⟨q, σ3, μ3, a1, a2, a3, a4, a5, a6, a7⟩ := ih f g (c + 1) σ2 μ2 (by omega) (by omega) (by omega) (by omega) b4 b5 b6 (fun j h1 h2 => by
        cases hj : lf (μ2 1) j
        · rfl
        · obtain ⟨c1, c2⟩ := b7 j h2 hj
          rw [hl j (by omega) h2] at c1
          cases c1)
      exact ⟨q, σ3, μ3, by omega, a2, fun _ => by omega, a4, a5, fun a ha => (a6 a ha).trans (b3 a ha), a7⟩
theorem q_openAll {x : XS} {μ : St} (hR : RX x μ) : ∃ (r : Int32) (x2 : XS) (μ2 : St), fX3_openAll x = some (r, x2) ∧ fX4_openAll μ = some (r, μ2) ∧ RX x2 μ2 := by
  obtain ⟨n, I, Bd, R⟩ := hR.1
  have hn := I.1
  rcases max_or (lf (μ 1)) n with h | ⟨m, hm, hl, h⟩
  · refine ⟨-5, _, up μ 0 0 0, ?_, ?_, same_ok hR⟩
    · show (fX1_inspectAll x.2.1).bind _ = _
      unfold fX1_inspectAll
      rw [R.1, none_loop I R h n 1000 (Nat.le_refl n) (by omega)]
      exact X3_err (r := -5) (by decide)
    · unfold fX4_openAll
      rw [last_no (μ := up μ 0 0 0) I h, Option.bind_some, if_pos rfl]
  · obtain ⟨μ1, er, hs, hc⟩ := chg_ok hR
    have h1 : μ1 1 = μ 1 := hs 1 (by decide) (by decide)
    obtain ⟨q, σ2, μ2, a1, a2, a3, a4, a5, a6, a7⟩ := all_loop (n := n) n 1000 1000 0 x.2.1 μ1 (Nat.le_refl n) (by omega) (by omega) (by omega) (by rw [h1]; exact I) (by rw [h1]; exact Bd) (by rw [h1]; exact R) (fun j z1 z2 => by omega)
    have hq : 0 < q := a3 ⟨m, hm, by rw [h1]; exact hl⟩
    have hq2 : ¬ nI q ≤ 0 := fun z => by
      have := (nI_leI (b := 0) a2 (by decide)).mp z
      omega
    rw [if_neg hq2] at a4
    refine ⟨nI q, _, μ2, ?_, ?_, hc σ2 μ2 a6 ⟨n, a7⟩⟩
    · show (fX1_inspectAll x.2.1).bind _ = _
      unfold fX1_inspectAll
      rw [R.1, show fX1_inspectAll_9 1000 x.2.1 0 (nI n - 1) = some (nI q, σ2) from a4]
      exact X3_rec (r := nI q) (nI_nn a2)
    · unfold fX4_openAll
      rw [last_in (μ := up μ 0 0 0) I hm hl h, Option.bind_some, if_neg (nI_m5 (by omega)), er, Option.bind_some]
      exact a5
