/-! PURE: ifOpened, bestOpening -/
theorem RX_cong {x : XS} {μ μ2 : St} (h : ∀ a, a ≠ 0 → a ≠ 2 → a < 9 → μ2 a = μ a) (hR : RX x μ) : RX x μ2 := by
  obtain ⟨hS, hY, hF, hT⟩ := hR
  refine ⟨by rw [h 1 (by decide) (by decide) (by decide)]; exact hS, ?_, ?_, RT_same hT (h 7 (by decide) (by decide) (by decide)) (h 8 (by decide) (by decide) (by decide))⟩
  · rw [h 4 (by decide) (by decide) (by decide), h 3 (by decide) (by decide) (by decide)]
    exact hY
  · rw [h 6 (by decide) (by decide) (by decide), h 5 (by decide) (by decide) (by decide)]
    exact hF
theorem clS_big {n : Nat} {s : Nat → Int32} {p : Nat → Bool} (hn : n ≤ 24) (hp : ∀ c, p c = true → c < n) {j : Nat} (h : 200 ≤ j) : clS s p j = s j := if_neg (fun z => by
  have := hp _ z.2.1
  omega)
theorem inR_lt {n : Nat} {s : Nat → Int32} (I : SI n s) {f k : Nat} (hk : k < n) : ∀ c, inR s f k c = true → c < n := fun c h => by
  have := inR_le I f k c hk h
  omega
theorem would_rel {n k : Nat} {μ : St} (I : SI n (μ 1)) (hk : k < n) : ∃ μ2 : St, fX4_wouldClear μ (nI k) = some (nI (cnt (fun j => inR (μ 1) 24 k j && frs (μ 1) j) n), μ2) ∧ ∀ a, a ≠ 2 → μ2 a = μ a := by
  have hn := I.1
  have e1 : (cpS μ 2 1 0 0 200) 1 = μ 1 := cpS_n (by decide)
  have ec := clears_rel (n := n) (k := k) (μ := cpS μ 2 1 0 0 200) (by rw [e1]; exact I) hk
  rw [e1] at ec
  refine ⟨cpS (st1 (cpS μ 2 1 0 0 200) (clS (μ 1) (inR (μ 1) 24 k))) 1 2 0 0 200, ?_, fun a ha => ?_⟩
  · unfold fX4_wouldClear
    rw [putAside_eq, Option.bind_some, ec, Option.bind_some, takeBack_eq]
    rfl
  · by_cases h : a = 1
    · subst h
      funext j
      by_cases hj : j < 200
      · rw [cpS_in (by omega) (by omega), st1_n (by decide), cpS_in (by omega) (by omega)]
        exact congrArg (μ 1) (by omega)
      · rw [cpS_out (by omega), st1_s]
        exact clS_big hn (inR_lt I hk) (by omega)
    · rw [cpS_n h, st1_n h, cpS_n ha]
def lieF (s : Nat → Int32) (k : Nat) (v : Int32) : Int32 := if 0 ≤ s (8 + 8 * k) - v then s 3 + 2 * (s (8 + 8 * k) - v) else s 3 + 2 * (-(s (8 + 8 * k) - v))
theorem fine4 {μ : St} {k : Nat} {v : Int32} (hk : k < 24) : fX4_fineOfLie μ (nI k) v = some (lieF (μ 1) k v) := by
  unfold fX4_fineOfLie lieF
  rw [of0 hk, Option.bind_some]
  by_cases h : 0 ≤ μ 1 (8 + 8 * k) - v
  · rw [if_pos h, if_pos h]
  · rw [if_neg h, if_neg h]
def ownF (s : Nat → Int32) (k : Nat) (v : Int32) : Int32 := if whB s k then (if s (8 + 8 * k) = v then 0 else 0 + lieF s k v) else (if s (8 + 8 * k) = v then 3 else 3 + lieF s k v)
theorem own_rel {n k : Nat} {σ : St} {s : Nat → Int32} (I : SI n s) (R : RH n σ s) (hk : k < n) (v : Int32) : fX1_ownFine σ (nI k) v = some (ownF s k v) := by
  have hn := I.1
  have o : (oob (nI k) 24) = False := oobF (by omega) (by decide)
  have ec := (R.2.2.2.1 k hk).1
  have e3 := R.2.1 3 (by decide)
  unfold fX1_ownFine fX1_isLie ownF lieF
  simp only [isWhole_rel I R hk, o, if_false, cl (show k < 2 ^ 31 by omega), ec, e3, Option.bind_some]
  cases whB s k
  · simp only [if_true, show (false = true) = False from eq_false (by decide), if_false]
    by_cases h : s (8 + 8 * k) = v
    · rw [if_pos h, if_pos h, Option.bind_some, if_pos rfl]
    · rw [if_neg h, if_neg h, Option.bind_some, if_neg (by decide)]
      by_cases hd : 0 ≤ s (8 + 8 * k) - v
      · rw [if_pos hd, if_pos hd]
      · rw [if_neg hd, if_neg hd, Int32.zero_sub]
  · simp only [if_true, i10, if_false]
    by_cases h : s (8 + 8 * k) = v
    · rw [if_pos h, if_pos h, Option.bind_some, if_pos rfl]
    · rw [if_neg h, if_neg h, Option.bind_some, if_neg (by decide)]
      by_cases hd : 0 ≤ s (8 + 8 * k) - v
      · rw [if_pos hd, if_pos hd]
      · rw [if_neg hd, if_neg hd, Int32.zero_sub]
theorem whvX {n : Nat} {σ : St} {s : Nat → Int32} (I : SI n s) (R : RH n σ s) (p : Int32) : ∃ m : Int32, fX1_wholeVouchers σ p = some m ∧ ∀ j, j < 32 → bt m j = (decide (j < n) && (vc s p j && whB s j)) := by
  have hn := I.1
  unfold fX1_wholeVouchers
  refine ⟨foldG (fun i (a : Int32) => if (vc s p i && whB s i) then a ||| (1 <<< (nI i &&& 31)) else a) n 0, ?_, fun j hj => fold_mask (fun i => vc s p i && whB s i) n (by omega) j hj⟩
  exact loopG (fun f a i => fX1_wholeVouchers_4 f σ p a i) (fun a => some a) (fun i (a : Int32) => if (vc s p i && whB s i) then a ||| (1 <<< (nI i &&& 31)) else a) n hn 0 (fun f a i hi => by
    have e3 := (R.2.2.2.1 i hi).2.2.1
    show fX1_wholeVouchers_4 (f + 1) σ p a (nI i) = fX1_wholeVouchers_4 f σ p (if (vc s p i && whB s i) then a ||| (1 <<< (nI i &&& 31)) else a) (nI (i + 1))
    rw [fX1_wholeVouchers_4_s, R.1, if_neg (ge_n hi hn), if_neg (vp_in_nI (by omega) (by decide)), cl (by omega), e3, isWhole_rel I R hi, Option.bind_some, bit_spec, Option.bind_some, nI_1]
    unfold vc
    by_cases h : s (8 + 8 * i + 2) = p
    · rw [if_pos h, decide_eq_true h, Bool.true_and]
      cases whB s i <;> rfl
    · rw [if_neg h, decide_eq_false h, Bool.false_and]
      rfl) (fun f a => by
    show fX1_wholeVouchers_4 (f + 1) σ p a (nI n) = _
    rw [fX1_wholeVouchers_4_s, R.1, if_pos (le_rf _)])
theorem fold_V (p : Nat → Bool) (V : Int32) : ∀ n, foldG (fun i (a : Int32) => if p i then a + V else a) n 0 = V * nI (cnt p n)
  | 0 => (Int32.mul_zero (a := V)).symm
  | n + 1 => by
    show (if p n then foldG (fun i (a : Int32) => if p i then a + V else a) n 0 + V else foldG (fun i (a : Int32) => if p i then a + V else a) n 0) = V * nI (cnt p n + (if p n then 1 else 0))
    rw [fold_V p V n]
    cases p n
    · rfl
    · rw [if_pos rfl, if_pos rfl, ← nI_1, Int32.mul_succ]
theorem others4 {n : Nat} {μ : St} (I : SI n (μ 1)) (p : Int32) : fX4_finesOfOthers μ p = some (μ 1 4 * nI (cnt (fun i => vc (μ 1) p i && whB (μ 1) i) n)) := by
  have hn := I.1
  unfold fX4_finesOfOthers
  exact (loopG (fun f a i => fX4_finesOfOthers_4 f μ p a i) (fun a => some a) (fun i (a : Int32) => if (vc (μ 1) p i && whB (μ 1) i) then a + μ 1 4 else a) n hn 0 (fun f a i hi => by
    show fX4_finesOfOthers_4 (f + 1) μ p a (nI i) = fX4_finesOfOthers_4 f μ p (if (vc (μ 1) p i && whB (μ 1) i) then a + μ 1 4 else a) (nI (i + 1))
    rw [fX4_finesOfOthers_4_s, I.2.1, if_neg (ge_n hi hn), of2 (by omega), Option.bind_some, isWhole4_eq (by omega) I.2.2.1 (I.aheadOK hi), Option.bind_some, nI_1, add0]
    unfold vc
    by_cases h : μ 1 (8 + 8 * i + 2) = p
    · rw [if_pos h, decide_eq_true h, Bool.true_and]
      cases whB (μ 1) i <;> rfl
    · rw [if_neg h, decide_eq_false h, Bool.false_and]
      rfl) (fun f a => by
    show fX4_finesOfOthers_4 (f + 1) μ p a (nI n) = _
    rw [fX4_finesOfOthers_4_s, I.2.1, if_pos (le_rf _)])).trans (congrArg some (fold_V (fun i => vc (μ 1) p i && whB (μ 1) i) (μ 1 4) n))
theorem le0 {c : Nat} (h : c < 2 ^ 31) : (nI c ≤ 0) = (nI c = 0) := propext ⟨fun z => by
  have := (nI_leI (a := c) (b := 0) h (by decide)).mp z
  rw [Nat.le_zero.mp this]
  rfl, fun z => by rw [z]; decide⟩
theorem q_ifOpened {x : XS} {μ : St} (hR : RX x μ) (p1 p2 : Int32) : ∃ (r : Int32) (μ2 : St), fX3_ifOpened x p1 p2 = some r ∧ fX4_ifOpened μ p1 p2 = some (r, μ2) ∧ RX x μ2 := by
  obtain ⟨n, I, Bd, R⟩ := hR.1
  have hn := I.1
  unfold fX3_ifOpened fX1_foretell fX4_ifOpened
  rcases cart3 hn p1 with h | ⟨k, hk, rfl⟩
  · refine ⟨-1, up μ 0 0 0, ?_, ?_, thrown_ok hR⟩
    · rw [knows_out R.1 h]
      rfl
    · rw [isCart_out (μ := up μ 0 0 0) I.2.1 hn h]
      rfl
  rw [knows_in R.1 hn hk, isCart_in (μ := up μ 0 0 0) I.2.1 hn hk, in_spec]
  by_cases hp : p2 < 0 ∨ (2 : Int32) < p2
  · refine ⟨-2, up μ 0 0 0, ?_, ?_, thrown_ok hR⟩
    · rw [Option.bind_some, if_neg (by decide)]
      by_cases h0 : p2 < 0
      · rw [if_pos h0]
        rfl
      · rw [if_neg h0, if_neg (Int32.not_le.mpr (hp.resolve_left h0))]
        rfl
    · rw [if_pos hp]
      rfl
  have h0 : (p2 < 0) = False := eq_false (fun z => hp (Or.inl z))
  have h2 : (p2 ≤ 2) = True := eq_true (Int32.not_lt.mp (fun z => hp (Or.inr z)))
  rw [if_neg hp]
  have o4 : fX4_of (up μ 0 0 0) (nI k) 4 = some (μ 1 (8 + 8 * k + 4)) := of4 (by omega)
  have o0 : fX4_of (up μ 0 0 0) (nI k) 0 = some (μ 1 (8 + 8 * k)) := of0 (by omega)
  have w4 : fX4_isWhole (up μ 0 0 0) (nI k) = some (if whB (μ 1) k then 1 else 0) := isWhole4_eq (μ := up μ 0 0 0) (by omega) I.2.2.1 (I.aheadOK hk)
  have l4 : fX4_fineOfLie (up μ 0 0 0) (nI k) 0 = some (lieF (μ 1) k 0) := fine4 (μ := up μ 0 0 0) (by omega)
  simp only [Option.bind_some, i10, if_false, h0, h2, if_true, in7 R hn hk, o4, o0, w4, l4, own_rel I R hk]
  by_cases ho : μ 1 (8 + 8 * k + 4) = 1
  · exact ⟨-4, up μ 0 0 0, by rw [if_pos ho]; rfl, by rw [if_pos ho], thrown_ok hR⟩
  rw [if_neg ho, if_neg ho, if_pos rfl]
  obtain ⟨⟨c, hc9, ec⟩, -⟩ := Bd.2.2 k hk
  have hle : (μ 1 (8 + 8 * k) ≤ 0) = (μ 1 (8 + 8 * k) = 0) := by rw [ec]; exact le0 (by omega)
  simp only [hle]
  by_cases e0 : p2 = 0
  · have n1 : ¬ p2 = 1 := by rw [e0]; decide
    obtain ⟨m, a1, a2⟩ := honest_rel I R hk
    have b1 := bitCount_mask hn a2
    obtain ⟨μ2, b2, b3⟩ := would_rel (μ := up μ 0 0 0) I hk
    have b2 : fX4_wouldClear (up μ 0 0 0) (nI k) = some (nI (cnt (fun j => inR (μ 1) 24 k j && frs (μ 1) j) n), μ2) := b2
    have e0 := eq_true e0
    have n1 := eq_false n1
    refine ⟨nI (cnt (fun j => inR (μ 1) 24 k j && frs (μ 1) j) n), μ2, ?_, ?_, RX_cong (μ := up μ 0 0 0) (fun a _ h _ => b3 a h) (thrown_ok hR)⟩
    · simp only [e0, if_true, a1, b1, Option.bind_some]
    · simp only [e0, n1, if_true, if_false, b2, Option.bind_some]
      by_cases hz : μ 1 (8 + 8 * k) = 0
      · rw [if_pos hz]
      · rw [if_neg hz]
  have e0 := eq_false e0
  by_cases e1 : p2 = 1
  · have e1 := eq_true e1
    refine ⟨ownF (μ 1) k 0, up μ 0 0 0, ?_, ?_, thrown_ok hR⟩
    · simp only [e0, e1, if_true, if_false, Option.bind_some]
    · simp only [e1, if_true]
      unfold ownF
      by_cases hz : μ 1 (8 + 8 * k) = 0
      · rw [if_pos hz, if_pos hz, if_pos hz]
        cases whB (μ 1) k <;> rfl
      · rw [if_neg hz, if_neg hz, if_neg hz]
        cases whB (μ 1) k <;> rfl
  · have e1 := eq_false e1
    obtain ⟨m, a1, a2⟩ := whvX I R (nI k)
    have b1 := bitCount_mask hn a2
    have b2 : fX4_finesOfOthers (up μ 0 0 0) (nI k) = some (μ 1 4 * nI (cnt (fun i => vc (μ 1) (nI k) i && whB (μ 1) i) n)) := others4 (μ := up μ 0 0 0) I (nI k)
    have lie : fX1_isLie x.2.1 (nI k) 0 = some (if μ 1 (8 + 8 * k) = 0 then 0 else 1) := by
      unfold fX1_isLie
      rw [if_neg (vp_in_nI (by omega) (by decide)), cl (by omega), (R.2.2.2.1 k hk).1]
      by_cases hz : μ 1 (8 + 8 * k) = 0
      · rw [if_pos hz, if_pos hz]
      · rw [if_neg hz, if_neg hz]
    by_cases hz : μ 1 (8 + 8 * k) = 0
    · have hz := eq_true hz
      exact ⟨0, up μ 0 0 0, by simp only [e0, e1, if_false, if_true, lie, hz, Option.bind_some], by simp only [e0, e1, if_false, if_true, hz], thrown_ok hR⟩
    · have hz := eq_false hz
      exact ⟨μ 1 4 * nI (cnt (fun i => vc (μ 1) (nI k) i && whB (μ 1) i) n), up μ 0 0 0, by simp only [e0, e1, if_false, lie, hz, Option.bind_some, i10, a1, b1, R.2.1 4 (by decide)], by simp only [e0, e1, if_false, hz, b2, Option.bind_some], thrown_ok hR⟩
theorem m1_le {c : Nat} (h : c < 2 ^ 31) : (-1 : Int32) ≤ nI c := Int32.le_trans (by decide) (nI_nnT h)
theorem best_loop {n : Nat} {σ : St} {s : Nat → Int32} (I : SI n s) (R : RH n σ s) : ∀ (m f g i : Nat) (v1 v2 : Int32) (μ : St), i + m = n → m < f → m < g → μ 1 = s → (-1 : Int32) ≤ v2 → ∃ (r : Int32) (μ2 : St), fX1_mostClearing_7 f σ v1 v2 (nI i) = some r ∧ fX4_bestOpening_12 g μ v1 v2 (nI i) = some (r, μ2) ∧ ∀ a, a ≠ 2 → μ2 a = μ a := by
  have hn := I.1
  intro m
  induction m with
  | zero =>
    intro f g i v1 v2 μ him hf hg hμ h1
    obtain ⟨f, rfl⟩ : ∃ q, f = q + 1 := ⟨f - 1, by omega⟩
    obtain ⟨g, rfl⟩ : ∃ q, g = q + 1 := ⟨g - 1, by omega⟩
    have hin : i = n := him
    subst hin
    refine ⟨v1, μ, ?_, ?_, fun a _ => rfl⟩
    · rw [fX1_mostClearing_7_s, R.1, if_pos (le_rf _)]
    · rw [fX4_bestOpening_12_s, hμ, I.2.1, if_pos (le_rf _)]
  | succ m ih =>
    intro f g i v1 v2 μ him hf hg hμ h1
    obtain ⟨f, rfl⟩ : ∃ q, f = q + 1 := ⟨f - 1, by omega⟩
    obtain ⟨g, rfl⟩ : ∃ q, g = q + 1 := ⟨g - 1, by omega⟩
    have hi : i < n := by omega
    obtain ⟨mk, a1, a2⟩ := honest_rel I R hi
    have b1 := bitCount_mask hn a2
    rw [fX1_mostClearing_7_s, fX4_bestOpening_12_s, R.1, if_neg (ge_n hi hn), a1, Option.bind_some, b1, Option.bind_some, in7 R hn hi, Option.bind_some, hμ, I.2.1, if_neg (ge_n hi hn), of4 (by omega), Option.bind_some, nI_1, hμ]
    by_cases ho : s (8 + 8 * i + 4) = 1
    · rw [if_pos ho, if_neg (by decide), if_pos ho, if_pos h1, if_pos h1]
      exact ih f g (i + 1) v1 v2 μ (by omega) (by omega) (by omega) hμ h1
    · obtain ⟨μ2, b2, b3⟩ := would_rel (μ := μ) (n := n) (k := i) (by rw [hμ]; exact I) hi
      rw [hμ] at b2
      rw [if_neg ho, if_pos rfl, if_neg ho, b2, Option.bind_some]
      have hμ2 : μ2 1 = s := (b3 1 (by decide)).trans hμ
      by_cases hle : nI (cnt (fun j => inR s 24 i j && frs s j) n) ≤ v2
      · rw [if_pos hle, if_pos hle, if_pos hle]
        obtain ⟨r, μ3, c1, c2, c3⟩ := ih f g (i + 1) v1 v2 μ2 (by omega) (by omega) (by omega) hμ2 h1
        exact ⟨r, μ3, c1, c2, fun a ha => (c3 a ha).trans (b3 a ha)⟩
      · rw [if_neg hle, if_neg hle, if_neg hle]
        obtain ⟨r, μ3, c1, c2, c3⟩ := ih f g (i + 1) (nI i) (nI (cnt (fun j => inR s 24 i j && frs s j) n)) μ2 (by omega) (by omega) (by omega) hμ2 (m1_le (by have := cnt_le (fun j => inR s 24 i j && frs s j) n; omega))
        exact ⟨r, μ3, c1, c2, fun a ha => (c3 a ha).trans (b3 a ha)⟩
theorem q_bestOpening {x : XS} {μ : St} (hR : RX x μ) : ∃ (r : Int32) (μ2 : St), fX3_bestOpening x = some r ∧ fX4_bestOpening μ = some (r, μ2) ∧ RX x μ2 := by
  obtain ⟨n, I, Bd, R⟩ := hR.1
  have hn := I.1
  obtain ⟨r, μ2, a1, a2, a3⟩ := best_loop I R n 1000 1000 0 (-5) (-1) (up μ 0 0 0) (by omega) (by omega) (by omega) rfl (by decide)
  refine ⟨r, μ2, ?_, a2, RX_cong (μ := up μ 0 0 0) (fun a _ h _ => a3 a h) (thrown_ok hR)⟩
  unfold fX3_bestOpening fX1_mostClearing
  rw [show fX1_mostClearing_7 1000 x.2.1 (-5) (-1) 0 = some r from a1]
  rfl
