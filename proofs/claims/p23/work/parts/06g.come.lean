/-! PURE: set, come, sameSeal -/
theorem set_in : ∀ i, i < 5 → fX4_in (nI i) 0 4 = some 1 ∧ fX4_leastOf (nI i) = some (tLEAST i) ∧ (if nI i = 2 then (999 : Int32) else 99) = tGREATEST i := by decide +kernel
theorem set_nn : ∀ i, i < 5 → ¬ nI i < 0 ∧ nI i < 5 ∧ 0 ≤ tLEAST i ∧ tGREATEST i ≤ 999 ∧ (i ≠ 2 → tGREATEST i ≤ 99) ∧ (i = 2 → 10 ≤ tLEAST i) := by decide +kernel
theorem set4 {μ : St} {i : Nat} (hi : i < 5) (p2 : Int32) : fX4_set μ (nI i) p2 = if p2 < tLEAST i ∨ tGREATEST i < p2 then some (-2, up μ 0 0 0) else if μ 1 i = p2 then some (-5, up μ 0 0 0) else (fX4_records (up μ 0 0 0)).bind (fun σ => some (μ 1 i, up σ 1 i p2)) := by
  obtain ⟨a1, a2, a3⟩ := set_in i hi
  have o : (oob (nI i) 200) = False := oobF (by omega) (by decide)
  unfold fX4_set
  rw [a1, Option.bind_some, if_neg (by decide), a2, Option.bind_some]
  by_cases e : nI i = 2
  · rw [if_pos e] at a3 ⊢
    rw [in_spec, a3]
    by_cases h : p2 < tLEAST i ∨ tGREATEST i < p2
    · simp [h]
    · simp [h, i10, o, cl (show i < 2 ^ 31 by omega)]
      rfl
  · rw [if_neg e] at a3 ⊢
    rw [in_spec, a3]
    by_cases h : p2 < tLEAST i ∨ tGREATEST i < p2
    · simp [h]
    · simp [h, i10, o, cl (show i < 2 ^ 31 by omega)]
      rfl
theorem setC {σ : St} {i : Nat} (hi : i < 5) (p2 : Int32) : fX1_changeSetting σ (nI i) p2 = if p2 < tLEAST i ∨ tGREATEST i < p2 then some (-2, σ) else if σ 0 i = p2 then some (-5, σ) else some (σ 0 i, up σ 0 i p2) := by
  obtain ⟨a1, a2, -⟩ := set_nn i hi
  have o : (oob (nI i) 5) = False := oobF (by omega) (by decide)
  unfold fX1_changeSetting
  rw [if_neg a1, if_pos a2]
  simp only [o, if_false, cl (show i < 2 ^ 31 by omega)]
  by_cases h1 : p2 < tLEAST i
  · rw [if_pos h1, if_pos (Or.inl h1)]
  · rw [if_neg h1]
    by_cases h2 : p2 ≤ tGREATEST i
    · rw [if_pos h2, if_neg (show ¬ (p2 < tLEAST i ∨ tGREATEST i < p2) from fun z => z.elim h1 (fun z => absurd h2 (Int32.not_le.mpr z)))]
    · rw [if_neg h2, if_pos (Or.inr (Int32.not_le.mp h2))]
theorem set_val {i : Nat} (hi : i < 5) {p2 : Int32} (h : ¬ (p2 < tLEAST i ∨ tGREATEST i < p2)) : ∃ v, v ≤ 999 ∧ p2 = nI v ∧ (i ≠ 2 → v ≤ 99) ∧ (i = 2 → 10 ≤ v) := by
  obtain ⟨-, -, b1, b2, b3, b4⟩ := set_nn i hi
  have h1 : tLEAST i ≤ p2 := Int32.not_lt.mp (fun z => h (Or.inl z))
  have h2 : p2 ≤ tGREATEST i := Int32.not_lt.mp (fun z => h (Or.inr z))
  have h0 : ¬ p2 < 0 := Int32.not_lt.mpr (Int32.le_trans b1 h1)
  obtain ⟨v, hv, e⟩ := nI_of2 (x := p2) (M := 999) (n := 999) (by decide) h0 (Int32.le_trans h2 b2)
  refine ⟨v, hv, e, fun hi2 => ?_, fun hi2 => ?_⟩
  · have h3 := Int32.le_trans h2 (b3 hi2)
    rw [e] at h3
    exact (nI_leI (b := 99) (by omega) (by decide)).mp h3
  · have h3 := Int32.le_trans (b4 hi2) h1
    rw [e] at h3
    exact (nI_leI (a := 10) (by decide) (by omega)).mp h3
theorem SB_set {n i v : Nat} {s : Nat → Int32} (Bd : SB n s) (hi : i < 5) (hv : v ≤ 999) (h9 : i ≠ 2 → v ≤ 99) (h10 : i = 2 → 10 ≤ v) : SB n (upd s i (nI v)) := by
  obtain ⟨b1, b2, b3⟩ := Bd
  refine ⟨fun q hq => ?_, ?_, fun k hk => ?_⟩
  · by_cases e : q = i
    · subst e
      rw [upd_s]
      exact ⟨v, hv, rfl, h9⟩
    · rw [upd_n e]
      exact b1 q hq
  · by_cases e : 2 = i
    · subst e
      rw [upd_s]
      exact ⟨v, h10 rfl, hv, rfl⟩
    · rw [upd_n e]
      exact b2
  · rw [upd_n (by omega), upd_n (by omega)]
    exact b3 k hk
theorem q_set {x : XS} {μ : St} (hR : RX x μ) (p1 p2 : Int32) : ∃ (r : Int32) (x2 : XS) (μ2 : St), fX3_set x p1 p2 = some (r, x2) ∧ fX4_set μ p1 p2 = some (r, μ2) ∧ RX x2 μ2 := by
  obtain ⟨n, I, Bd, R⟩ := hR.1
  rcases pk_ix p1 (n := 5) (by decide) with h | h | ⟨i, hi, rfl⟩
  · refine ⟨-1, _, up μ 0 0 0, ?_, ?_, same_ok hR⟩
    · show (fX1_changeSetting x.2.1 p1 p2).bind _ = _
      unfold fX1_changeSetting
      rw [if_pos h]
      exact X3_err (r := -1) (by decide)
    · unfold fX4_set
      rw [in_spec, if_pos (Or.inl h)]
      rfl
  · have h : (5 : Int32) ≤ p1 := h
    have h0 : ¬ p1 < 0 := Int32.not_lt.mpr (Int32.le_trans (by decide) h)
    have h4 : (4 : Int32) < p1 := Int32.lt_of_lt_of_le (by decide) h
    refine ⟨-1, _, up μ 0 0 0, ?_, ?_, same_ok hR⟩
    · show (fX1_changeSetting x.2.1 p1 p2).bind _ = _
      unfold fX1_changeSetting
      rw [if_neg h0, if_neg (Int32.not_lt.mpr h)]
      exact X3_err (r := -1) (by decide)
    · unfold fX4_set
      rw [in_spec, if_pos (Or.inr h4)]
      rfl
  · have e0 : x.2.1 0 i = μ 1 i := R.2.1 i hi
    have hC : ∀ {r : Int32} {σ2 : St}, fX1_changeSetting x.2.1 (nI i) p2 = some (r, σ2) → fX3_set x (nI i) p2 = (fX3_recorded (xH (xB x (x.2.1)) σ2) r).bind (fun q2 => some (q2.1, q2.2)) := fun {r σ2} e => by
      show (fX1_changeSetting x.2.1 (nI i) p2).bind _ = _
      rw [e]
      rfl
    by_cases hv : p2 < tLEAST i ∨ tGREATEST i < p2
    · refine ⟨-2, _, up μ 0 0 0, (hC (by rw [setC hi, if_pos hv])).trans (X3_err (by decide)), by rw [set4 hi, if_pos hv], same_ok hR⟩
    · by_cases he : μ 1 i = p2
      · refine ⟨-5, _, up μ 0 0 0, (hC (by rw [setC hi, if_neg hv, e0, if_pos he])).trans (X3_err (by decide)), by rw [set4 hi, if_neg hv, if_pos he], same_ok hR⟩
      · obtain ⟨μ1, er, hs, hc⟩ := chg_ok hR
        have h1 : μ1 1 = μ 1 := hs 1 (by decide) (by decide)
        obtain ⟨v, hv9, rfl, hv2, hv3⟩ := set_val hi hv
        obtain ⟨c, hc9, ec, -⟩ := Bd.1 i hi
        refine ⟨μ 1 i, _, up μ1 1 i (nI v), (hC (by rw [setC hi, if_neg hv, e0, if_neg he])).trans (X3_rec (r := μ 1 i) (by rw [ec]; exact nI_nn (by omega))), by rw [set4 hi, if_neg hv, if_neg he, er]; rfl, hc (up x.2.1 0 i (nI v)) _ (fun a ha => up_n ha) ?_⟩
        rw [up_s, h1]
        have h9 := RS.set (v := nI v) I R hi (fun e => nI_lt (a := 0) (by have := hv3 e; omega) (by omega))
        exact ⟨n, h9.1, SB_set Bd hi hv9 hv2 hv3, h9.2⟩
/-! sameSeal: both try the same claims -/
theorem same_loop {σ μ : St} {n k : Nat} (I : SI n (μ 1)) (R : RH n σ (μ 1)) (hk : k < n) : ∀ (m f g c : Nat), c + m = 100 → m < f → m < g → ∃ r : Int32, fX1_otherClaimForSeal_18 f σ (nI k) (sealX (μ 1) k (μ 1 (8 + 8 * k))) (nI c) = some r ∧ fX4_sameSeal_17 g μ (nI k) (nI c) = some (r, μ) := by
  have hn := I.1
  intro m
  induction m with
  | zero =>
    intro f g c hc hf hg
    obtain ⟨f, rfl⟩ : ∃ q, f = q + 1 := ⟨f - 1, by omega⟩
    obtain ⟨g, rfl⟩ : ∃ q, g = q + 1 := ⟨g - 1, by omega⟩
    have h : (99 : Int32) < nI c := nI_lt (a := 99) (by omega) (by omega)
    exact ⟨-5, by rw [fX1_otherClaimForSeal_18_s, if_pos h], by rw [fX4_sameSeal_17_s, if_pos h]⟩
  | succ m ih =>
    intro f g c hc hf hg
    obtain ⟨f, rfl⟩ : ∃ q, f = q + 1 := ⟨f - 1, by omega⟩
    obtain ⟨g, rfl⟩ : ∃ q, g = q + 1 := ⟨g - 1, by omega⟩
    have h : ¬ (99 : Int32) < nI c := fun z => by have := (nI_ltI (a := 99) (b := c) (by decide) (by omega)).mp z; omega
    obtain ⟨r, e1, e2⟩ := ih f g (c + 1) (by omega) (by omega) (by omega)
    have o : (oob (nI k) 24) = False := oobF (by omega) (by decide)
    have ec := (R.2.2.2.1 k hk).1
    rw [fX1_otherClaimForSeal_18_s, fX4_sameSeal_17_s, if_neg h, if_neg h, of0 (by omega), Option.bind_some, sealBy_eq (by omega) I.2.2.1 (I.aheadOK hk), Option.bind_some, rightSeal4_eq (by omega) I.2.2.1 (I.aheadOK hk), Option.bind_some, nI_1]
    simp only [o, if_false, cl (show k < 2 ^ 31 by omega), ec, sealFor_rel I R hk, Option.bind_some]
    by_cases h1 : nI c = μ 1 (8 + 8 * k)
    · rw [if_pos h1, if_pos h1]
      exact ⟨r, e1, e2⟩
    · rw [if_neg h1, if_neg h1]
      by_cases h2 : sealX (μ 1) k (nI c) = sealX (μ 1) k (μ 1 (8 + 8 * k))
      · rw [if_pos h2, if_pos h2]
        exact ⟨nI c, rfl, rfl⟩
      · rw [if_neg h2, if_neg h2]
        exact ⟨r, e1, e2⟩
theorem q_sameSeal {x : XS} {μ : St} (hR : RX x μ) (p1 : Int32) : ∃ (r : Int32) (μ2 : St), fX3_sameSeal x p1 = some r ∧ fX4_sameSeal μ p1 = some (r, μ2) ∧ RX x μ2 := by
  obtain ⟨n, I, Bd, R⟩ := hR.1
  have hn := I.1
  unfold fX3_sameSeal fX1_otherClaimForSeal fX4_sameSeal
  rcases cart3 hn p1 with h | ⟨k, hk, rfl⟩
  · refine ⟨-1, up μ 0 0 0, ?_, ?_, thrown_ok hR⟩
    · rw [knows_out R.1 h]
      rfl
    · rw [isCart_out (μ := up μ 0 0 0) I.2.1 hn h]
      rfl
  · obtain ⟨r, e1, e2⟩ := same_loop (μ := up μ 0 0 0) I R hk 100 1000 1000 0 rfl (by decide) (by decide)
    refine ⟨r, up μ 0 0 0, ?_, ?_, thrown_ok hR⟩
    · rw [knows_in R.1 hn hk, Option.bind_some, if_neg (by decide), rightSeal_rel I R hk, Option.bind_some]
      rw [show (0 : Int32) = nI 0 from rfl]
      rw [show fX1_otherClaimForSeal_18 1000 x.2.1 (nI k) (sealX (μ 1) k (μ 1 (8 + 8 * k))) (nI 0) = some r from e1]
      rfl
    · rw [isCart_in (μ := up μ 0 0 0) I.2.1 hn hk, Option.bind_some, if_neg (by decide)]
      exact e2
