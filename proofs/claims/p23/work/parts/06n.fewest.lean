/-! PURE: fewestOpenings -/
/-- still left: neither opened nor cleared -/
def lf (s : Nat → Int32) (j : Nat) : Bool := decide (s (8 + 8 * j + 4) = 0) && decide (s (8 + 8 * j + 5) = 0)
theorem left4 {μ : St} {k : Nat} (hk : k < 24) : fX4_isLeft μ (nI k) = some (if lf (μ 1) k then 1 else 0) := by
  unfold fX4_isLeft lf
  rw [of4 hk, Option.bind_some]
  by_cases h4 : μ 1 (8 + 8 * k + 4) = 0
  · rw [if_pos h4, of5 hk, Option.bind_some, decide_eq_true h4, Bool.true_and]
    by_cases h5 : μ 1 (8 + 8 * k + 5) = 0
    · rw [if_pos h5, if_pos (decide_eq_true h5)]
    · rw [if_neg h5, if_neg (by rw [decide_eq_false h5]; decide)]
  · rw [if_neg h4, decide_eq_false h4, Bool.false_and]
    rfl
theorem all_bits : ∀ n, n ≤ 24 → ∀ j, j < 32 → bt ((1 <<< (nI n &&& 31)) - 1) j = decide (j < n) := by decide +kernel
theorem waits {n : Nat} {σ : St} {s : Nat → Int32} (I : SI n s) (R : RH n σ s) : ∃ m : Int32, fX1_waiting σ = some m ∧ ∀ j, j < 32 → bt m j = (decide (j < n) && lf s j) := by
  have hn := I.1
  refine ⟨(((1 <<< (nI n &&& 31)) - 1) &&& ((σ 9 0) ^^^ (-1))) &&& ((σ 7 0) ^^^ (-1)), ?_, fun j hj => ?_⟩
  · unfold fX1_waiting fX1_all
    rw [R.1, bit_spec]
    rfl
  · rw [b_and, b_and, all_bits n hn j hj, b_not _ hj, b_not _ hj, (R.2.2.2.2 j hj).1, (R.2.2.2.2 j hj).2.1]
    unfold lf
    by_cases hjn : j < n
    · obtain ⟨s4, s5, -⟩ := I.2.2.2.2.1 j (by omega)
      rw [dec01 s4, dec01 s5, decide_eq_true hjn]
      simp only [Bool.true_and]
      exact Bool.and_comm _ _
    · rw [decide_eq_false hjn]
      simp
/-- j is reached from another one that is left, below i -/
def cov (s : Nat → Int32) : Nat → Nat → Bool
  | 0, _ => false
  | i + 1, j => cov s i j || (lf s i && (inR s 24 i j && !(i == j)))
theorem ends_loop {n : Nat} {σ : St} {s : Nat → Int32} (I : SI n s) (R : RH n σ s) {w : Int32} (hw : ∀ j, j < 32 → bt w j = (decide (j < n) && lf s j)) : ∀ (m f i : Nat) (v : Int32), i + m = n → m < f → (∀ j, j < 32 → bt v j = (decide (j < n) && cov s i j)) → fX1_countEnds_9 f σ w v (nI i) = some (nI (cnt (fun j => lf s j && !cov s n j) n)) := by
  have hn := I.1
  intro m
  induction m with
  | zero =>
    intro f i v him hf hv
    obtain ⟨f, rfl⟩ : ∃ q, f = q + 1 := ⟨f - 1, by omega⟩
    have hin : i = n := him
    subst hin
    have hb := bitCount_mask (x := w &&& (v ^^^ (-1))) (c := fun j => lf s j && !cov s i j) hn (fun j hj => by
      rw [b_and, b_not _ hj, hw j hj, hv j hj]
      cases decide (j < i) <;> simp)
    rw [fX1_countEnds_9_s, R.1, if_pos (le_rf _), hb]
    rfl
  | succ m ih =>
    intro f i v him hf hv
    obtain ⟨f, rfl⟩ : ∃ q, f = q + 1 := ⟨f - 1, by omega⟩
    have hi : i < n := by omega
    rw [fX1_countEnds_9_s, R.1, if_neg (ge_n hi hn), isIn_spec (by omega), Option.bind_some, hw i (by omega), decide_eq_true hi, Bool.true_and, nI_1]
    cases hl : lf s i
    · rw [if_neg (show ¬ (false = true) by decide), if_pos rfl]
      refine ih f (i + 1) v (by omega) (by omega) (fun j hj => ?_)
      rw [hv j hj]
      show _ = (decide (j < n) && (cov s i j || (lf s i && (inR s 24 i j && !(i == j)))))
      rw [hl]
      simp
    · obtain ⟨m2, e1, e2⟩ := reach_rel I R hi
      rw [if_pos rfl, if_neg (by decide), e1, Option.bind_some, bit_spec, Option.bind_some]
      refine ih f (i + 1) _ (by omega) (by omega) (fun j hj => ?_)
      rw [b_or, b_and, b_not _ hj, b_bit (by omega) hj, hv j hj, e2 j hj]
      show _ = (decide (j < n) && (cov s i j || (lf s i && (inR s 24 i j && !(i == j)))))
      rw [hl]
      have hij : decide (j = i) = (i == j) := by
        by_cases e : j = i
        · subst e
          simp
        · rw [decide_eq_false e, beq_eq_false_iff_ne.mpr (Ne.symm e)]
      rw [hij]
      cases decide (j < n) <;> simp
theorem reaches_ok {n : Nat} {μ : St} (I : SI n (μ 1)) (e k : Nat) (he : e < n) (hk : k < n) : ∀ (f g c : Nat), c < n → c < f → f ≤ g → fX4_reaches_2 (g + 1) μ (nI e) (nI k) (nI c) = some (if (inR (μ 1) f c k && !(e == k)) then 1 else 0) := by
  have hn := I.1
  have hek : (nI e = nI k) = (e = k) := propext ⟨fun z => nI_inj (by omega) (by omega) z, fun z => by rw [z]⟩
  intro f
  induction f with
  | zero => intro g c _ h; exact absurd h (Nat.not_lt_zero c)
  | succ f ih =>
    intro g c hc hf hg
    obtain ⟨g, rfl⟩ : ∃ q, g = q + 1 := ⟨g - 1, by omega⟩
    have hck : (nI c = nI k) = (c = k) := propext ⟨fun z => nI_inj (by omega) (by omega) z, fun z => by rw [z]⟩
    rw [fX4_reaches_2_s]
    by_cases hle : c ≤ k
    · rw [if_pos ((nI_leI (by omega) (by omega)).mpr hle)]
      by_cases hz : c = k
      · subst hz
        have h1 : inR (μ 1) (f + 1) c c = true := by
          show ((c == c) || _) = true
          rw [beq_self_eq_true, Bool.true_or]
        rw [if_pos rfl, h1, Bool.true_and]
        simp only [hek]
        by_cases h2 : e = c
        · subst h2
          simp
        · rw [if_neg h2, beq_eq_false_iff_ne.mpr h2]
          rfl
      · have h1 : inR (μ 1) (f + 1) c k = false := by
          cases h : inR (μ 1) (f + 1) c k
          · rfl
          · have := inR_le I (f + 1) c k hc h
            omega
        rw [h1, Bool.false_and]
        simp only [hck, hz, if_false]
        rfl
    · have hle2 : ¬ nI c ≤ nI k := fun z => hle ((nI_leI (by omega) (by omega)).mp z)
      have hne : (k == c) = false := beq_eq_false_iff_ne.mpr (by omega)
      have hz : ¬ c = k := by omega
      rw [if_neg hle2, isWhole4_eq (by omega) I.2.2.1 (I.aheadOK hc), Option.bind_some, of2 (by omega), Option.bind_some]
      cases hw : whB (μ 1) c
      · rw [if_neg (show ¬ (false = true) by decide), if_pos rfl, inR_end (Or.inl hw), hne, Bool.false_and]
        simp only [hck, hz, if_false]
        rfl
      · rw [if_pos rfl, if_neg (by decide)]
        rcases nxt_cases I hc with ⟨h, e9⟩ | ⟨q, hq, h, e9⟩
        · rw [h, inR_end (Or.inr e9), hne, Bool.false_and, fX4_reaches_2_s, if_pos (Int32.le_trans (by decide) (nI_nnT (by omega))), if_neg (fun z => nI_m1 (k := k) (by omega) z.symm)]
          rfl
        · rw [h, ih g q (by omega) (by omega) (by omega), inR_some hw e9, hne, Bool.false_or]
theorem reaches_rel {n : Nat} {μ : St} (I : SI n (μ 1)) {e k : Nat} (he : e < n) (hk : k < n) : fX4_reaches μ (nI e) (nI k) = some (if (inR (μ 1) 24 e k && !(e == k)) then 1 else 0) := reaches_ok I e k he hk 24 999 e he (by have := I.1; omega) (by decide)
theorem byEnds_in {n : Nat} {μ : St} (I : SI n (μ 1)) (kk : Int32 → Int32 → Int32 → Int32 → Option Int32) {k : Nat} (hk : k < n) (v1 : Int32) : ∀ (m f i : Nat), i + m = n → m < f → fX4_byEnds_23 kk f μ v1 (nI k) (if (lf (μ 1) k && !cov (μ 1) i k) then 1 else 0) (nI i) = kk v1 (nI k) (if (lf (μ 1) k && !cov (μ 1) n k) then 1 else 0) (nI n) := by
  have hn := I.1
  intro m
  induction m with
  | zero =>
    intro f i him hf
    obtain ⟨f, rfl⟩ : ∃ q, f = q + 1 := ⟨f - 1, by omega⟩
    have hin : i = n := him
    subst hin
    rw [fX4_byEnds_23_s, I.2.1, if_pos (le_rf _)]
  | succ m ih =>
    intro f i him hf
    obtain ⟨f, rfl⟩ : ∃ q, f = q + 1 := ⟨f - 1, by omega⟩
    have hi : i < n := by omega
    have hnx := ih f (i + 1) (by omega) (by omega)
    have hcv : cov (μ 1) (i + 1) k = (cov (μ 1) i k || (lf (μ 1) i && (inR (μ 1) 24 i k && !(i == k)))) := rfl
    rw [fX4_byEnds_23_s, I.2.1, if_neg (ge_n hi hn), left4 (by omega), Option.bind_some, reaches_rel I hi hk, Option.bind_some, nI_1]
    rw [hcv] at hnx
    generalize kk v1 (nI k) (if (lf (μ 1) k && !cov (μ 1) n k) then 1 else 0) (nI n) = T at hnx ⊢
    revert hnx
    cases lf (μ 1) k <;> cases cov (μ 1) i k <;> cases lf (μ 1) i <;> cases (inR (μ 1) 24 i k && !(i == k)) <;> exact fun hnx => hnx
theorem byEnds_rel {n : Nat} {μ : St} (I : SI n (μ 1)) : fX4_byEnds μ = some (nI (cnt (fun j => lf (μ 1) j && !cov (μ 1) n j) n)) := by
  have hn := I.1
  unfold fX4_byEnds
  exact (loopG (fun f a i => fX4_byEnds_4 f μ a i) (fun a => some a) (fun i (a : Int32) => if (lf (μ 1) i && !cov (μ 1) n i) then a + 1 else a) n hn 0 (fun f a i hi => by
    show fX4_byEnds_4 (f + 1) μ a (nI i) = fX4_byEnds_4 f μ (if (lf (μ 1) i && !cov (μ 1) n i) then a + 1 else a) (nI (i + 1))
    have e0 : (if lf (μ 1) i then (1 : Int32) else 0) = (if (lf (μ 1) i && !cov (μ 1) 0 i) then 1 else 0) := by
      show _ = (if (lf (μ 1) i && !false) then (1 : Int32) else 0)
      rw [Bool.not_false, Bool.and_true]
    rw [fX4_byEnds_4_s, I.2.1, if_neg (ge_n hi hn), left4 (by omega), Option.bind_some, e0]
    refine (byEnds_in I _ hi a n 1000 0 (by omega) (by omega)).trans ?_
    show (if (if (lf (μ 1) i && !cov (μ 1) n i) then (1 : Int32) else 0) = 0 then fX4_byEnds_4 f μ (a + 0) (nI i + 1) else fX4_byEnds_4 f μ (a + 1) (nI i + 1)) = _
    rw [nI_1, add0]
    cases (lf (μ 1) i && !cov (μ 1) n i) <;> rfl) (fun f a => by
    show fX4_byEnds_4 (f + 1) μ a (nI n) = _
    rw [fX4_byEnds_4_s, I.2.1, if_pos (le_rf _)])).trans (congrArg some (fold_cnt (fun j => lf (μ 1) j && !cov (μ 1) n j) n))
/-! by opening -/
theorem lastL {n : Nat} {μ : St} (I : SI n (μ 1)) : fX4_lastLeft μ = some (foldG (fun i (a : Int32) => if lf (μ 1) i then nI i else a) n (-5)) := by
  have hn := I.1
  unfold fX4_lastLeft
  exact loopG (fun f a i => fX4_lastLeft_5 f μ a i) (fun a => some a) (fun i (a : Int32) => if lf (μ 1) i then nI i else a) n hn (-5) (fun f a i hi => by
    show fX4_lastLeft_5 (f + 1) μ a (nI i) = fX4_lastLeft_5 f μ (if lf (μ 1) i then nI i else a) (nI (i + 1))
    rw [fX4_lastLeft_5_s, I.2.1, if_neg (ge_n hi hn), left4 (by omega), Option.bind_some, nI_1]
    cases lf (μ 1) i <;> rfl) (fun f a => by
    show fX4_lastLeft_5 (f + 1) μ a (nI n) = _
    rw [fX4_lastLeft_5_s, I.2.1, if_pos (le_rf _)])
theorem last_none {s : Nat → Int32} : ∀ n, (∀ j, j < n → lf s j = false) → foldG (fun i (a : Int32) => if lf s i then nI i else a) n (-5) = -5
  | 0, _ => rfl
  | n + 1, h => by
    show (if lf s n then nI n else foldG (fun i (a : Int32) => if lf s i then nI i else a) n (-5)) = -5
    rw [last_none n (fun j hj => h j (by omega)), h n (by omega)]
    rfl
theorem last_some {s : Nat → Int32} {m : Nat} (hl : lf s m = true) : ∀ n, m < n → (∀ j, m < j → j < n → lf s j = false) → foldG (fun i (a : Int32) => if lf s i then nI i else a) n (-5) = nI m
  | 0, h, _ => absurd h (Nat.not_lt_zero m)
  | n + 1, hm, h => by
    show (if lf s n then nI n else foldG (fun i (a : Int32) => if lf s i then nI i else a) n (-5)) = nI m
    by_cases e : n = m
    · subst e
      rw [hl]
      rfl
    · rw [h n (by omega) (by omega), last_some hl n (by omega) (fun j h1 h2 => h j h1 (by omega))]
      rfl
theorem last_in {n m : Nat} {μ : St} (I : SI n (μ 1)) (hm : m < n) (hl : lf (μ 1) m = true) (h : ∀ j, m < j → j < n → lf (μ 1) j = false) : fX4_lastLeft μ = some (nI m) := by rw [lastL I, last_some hl n hm h]
theorem last_no {n : Nat} {μ : St} (I : SI n (μ 1)) (h : ∀ j, j < n → lf (μ 1) j = false) : fX4_lastLeft μ = some (-5) := by rw [lastL I, last_none n h]
theorem nI_m5 {k : Nat} (h : k < 2 ^ 31) : ¬ nI k = -5 := fun e => nI_nn h (by rw [e]; decide)
theorem SI_open {n k : Nat} {s : Nat → Int32} (I : SI n s) (hk : k < n) : SI n (upd s (8 + 8 * k + 4) 1) := by
  obtain ⟨i1, i2, i3, i4, i5, i6, i7⟩ := I
  refine ⟨i1, by rw [upd_n (by omega)]; exact i2, by rw [upd_n (by omega)]; exact i3, fun q hq => ?_, fun q hq => ?_, fun q h0 hq => ?_, fun q hq => ?_⟩
  · rw [upd_n (by omega)]
    exact i4 q hq
  · rw [upd_n (a := 8 + 8 * q + 5) (by omega), upd_n (a := 8 + 8 * q + 6) (by omega)]
    refine ⟨?_, (i5 q hq).2⟩
    by_cases e : q = k
    · subst e
      rw [upd_s]
      exact Or.inr rfl
    · rw [upd_n (by omega)]
      exact (i5 q hq).1
  · rw [upd_n (a := 8 + 8 * q + 4) (by omega), upd_n (a := 8 + 8 * q + 5) (by omega), upd_n (a := 8 + 8 * q + 6) (by omega), upd_n (a := 8 + 8 * q + 7) (by omega)]
    exact i6 q h0 hq
  · rw [upd_n (a := 8 + 8 * q + 6) (by omega)]
    by_cases e : q = k
    · subst e
      rw [upd_s]
      exact fun _ => rfl
    · rw [upd_n (by omega)]
      exact i7 q hq
theorem lf_step {n m j : Nat} {s : Nat → Int32} {p : Nat → Bool} (I : SI n s) (hj : j < n) (hp : p m = true) : lf (clS (upd s (8 + 8 * m + 4) 1) p) j = (lf s j && !p j) := by
  have hn := I.1
  unfold lf
  rw [clS_o (j := 8 + 8 * j + 4) (by omega), clS_5, upd_n (a := 8 + 8 * j + 6) (by omega), upd_n (a := 8 + 8 * j + 5) (by omega)]
  by_cases e : j = m
  · subst e
    rw [upd_s, hp]
    simp
  · rw [upd_n (by omega)]
    obtain ⟨s4, s5, s6⟩ := I.2.2.2.2.1 j (by omega)
    have i7 := I.2.2.2.2.2.2 j hj
    rcases s4 with z | z
    · have z6 : s (8 + 8 * j + 6) = 0 := by
        rcases s6 with y | y
        · exact y
        · have := i7 y
          rw [z] at this
          exact absurd this (by decide)
      rw [z, z6]
      cases p j
      · simp
      · simp
    · rw [z]
      simp
theorem sub1 (x : Int32) : x + (-1) = x - 1 := (Int32.sub_eq_add_neg x 1).symm
theorem inR_self {s : Nat → Int32} {f k : Nat} : inR s (f + 1) k k = true := by
  show ((k == k) || _) = true
  rw [beq_self_eq_true, Bool.true_or]
theorem hon_loop {n : Nat} {σ : St} {s : Nat → Int32} (I0 : SI n s) (R : RH n σ s) : ∀ (m f g c : Nat) (v : Int32) (μ : St), m ≤ n → m < f → m < g → SI n (μ 1) → AG s (μ 1) → (∀ j, m ≤ j → j < n → lf (μ 1) j = false) → (∀ j, j < 32 → bt v j = (decide (j < n) && lf (μ 1) j)) → ∃ (r : Int32) (μ2 : St), fX1_countHonestOpenings_14 f σ v (nI c) (nI m - 1) = some r ∧ fX4_byOpening_6 g μ (nI c) = some (r, μ2) ∧ (∀ a, a ≠ 1 → μ2 a = μ a) ∧ ∀ j, j < 200 → μ2 1 j = μ 2 j := by
  have hn := I0.1
  intro m
  induction m with
  | zero =>
    intro f g c v μ hm hf hg I A hl hv
    obtain ⟨f, rfl⟩ : ∃ q, f = q + 1 := ⟨f - 1, by omega⟩
    obtain ⟨g, rfl⟩ : ∃ q, g = q + 1 := ⟨g - 1, by omega⟩
    refine ⟨nI c, cpS μ 1 2 0 0 200, ?_, ?_, fun a ha => cpS_n ha, fun j hj => ?_⟩
    · rw [fX1_countHonestOpenings_14_s, if_pos (show nI 0 - 1 < 0 by decide)]
    · rw [fX4_byOpening_6_s, last_no I (fun j hj => hl j (Nat.zero_le j) hj), Option.bind_some, if_pos rfl, takeBack_eq]
      rfl
    · rw [cpS_in (by omega) (by omega)]
      exact congrArg (μ 2) (by omega)
  | succ m ih =>
    intro f g c v μ hm hf hg I A hl hv
    obtain ⟨f, rfl⟩ : ∃ q, f = q + 1 := ⟨f - 1, by omega⟩
    have hmn : m < n := by omega
    rw [nI_pred, fX1_countHonestOpenings_14_s, if_neg (nI_nn (by omega)), isIn_spec (by omega), Option.bind_some, hv m (by omega), decide_eq_true hmn, Bool.true_and, sub1, nI_1]
    cases hz : lf (μ 1) m
    · rw [if_neg (show ¬ (false = true) by decide), if_pos rfl]
      refine ih f g c v μ (by omega) (by omega) (by omega) I A (fun j h1 h2 => ?_) hv
      by_cases e : j = m
      · rw [e]
        exact hz
      · exact hl j (by omega) h2
    · obtain ⟨g, rfl⟩ : ∃ q, g = q + 1 := ⟨g - 1, by omega⟩
      obtain ⟨m2, e1, e2⟩ := reach_rel I0 R hmn
      have u1 : (up μ 1 (8 + 8 * m + 4) 1) 1 = upd (μ 1) (8 + 8 * m + 4) 1 := up_s
      have I1 : SI n ((up μ 1 (8 + 8 * m + 4) 1) 1) := by rw [u1]; exact SI_open I hmn
      have A1 : AG s ((up μ 1 (8 + 8 * m + 4) 1) 1) := by rw [u1]; exact A.trans (AG_upd (by omega))
      have ec := clears_rel I1 hmn
      have er : inR ((up μ 1 (8 + 8 * m + 4) 1) 1) 24 m = inR s 24 m := funext (fun j => A1.re 24 m j)
      have ff : ∀ {j : Nat}, j < n → inR s 24 m m = true → lf (clS (upd (μ 1) (8 + 8 * m + 4) 1) (inR s 24 m)) j = (lf (μ 1) j && !inR s 24 m j) := fun hj hp => lf_step I hj hp
      rw [if_pos rfl, if_neg (by decide), e1, Option.bind_some, fX4_byOpening_6_s, last_in I hmn hz (fun j h1 h2 => hl j (by omega) h2), Option.bind_some, if_neg (nI_m5 (by omega)), Option.bind_some, lay4 (by omega), Option.bind_some, ec, Option.bind_some, er, u1, nI_1]
      obtain ⟨r, μ2, a1, a2, a3, a4⟩ := ih f g (c + 1) (v &&& (m2 ^^^ (-1))) (st1 (up μ 1 (8 + 8 * m + 4) 1) (clS (upd (μ 1) (8 + 8 * m + 4) 1) (inR s 24 m))) (by omega) (by omega) (by omega) (by rw [st1_s]; exact SI_clS (SI_open I hmn) (inR_lt I0 hmn)) (by rw [st1_s]; exact (A.trans (AG_upd (by omega))).trans AG_clS) (fun j h1 h2 => by
        rw [st1_s, ff h2 inR_self]
        by_cases e : j = m
        · subst e
          rw [inR_self, Bool.not_true, Bool.and_false]
        · rw [hl j (by omega) h2, Bool.false_and]) (fun j hj => by
        rw [st1_s, b_and, b_not _ hj, hv j hj, e2 j hj]
        by_cases hjn : j < n
        · rw [ff hjn inR_self, decide_eq_true hjn]
          simp
        · rw [decide_eq_false hjn]
          simp)
      refine ⟨r, μ2, a1, a2, fun a ha => ?_, fun j hj => ?_⟩
      · rw [a3 a ha, st1_n ha, up_n ha]
      · rw [a4 j hj, st1_n (by decide), up_n (by decide)]
theorem RX_cong2 {x : XS} {μ μ2 : St} (h : ∀ a, a ≠ 0 → a ≠ 1 → a ≠ 2 → a < 9 → μ2 a = μ a) (h1 : ∀ j, j < 200 → μ2 1 j = μ 1 j) (hR : RX x μ) : RX x μ2 := by
  obtain ⟨hS, hY, hF, hT⟩ := hR
  refine ⟨RS_cong h1 hS, ?_, ?_, RT_same hT (h 7 (by decide) (by decide) (by decide) (by decide)) (h 8 (by decide) (by decide) (by decide) (by decide))⟩
  · rw [h 4 (by decide) (by decide) (by decide) (by decide), h 3 (by decide) (by decide) (by decide) (by decide)]
    exact hY
  · rw [h 6 (by decide) (by decide) (by decide) (by decide), h 5 (by decide) (by decide) (by decide) (by decide)]
    exact hF
theorem q_fewestOpenings {x : XS} {μ : St} (hR : RX x μ) (p1 : Int32) : ∃ (r : Int32) (μ2 : St), fX3_fewestOpenings x p1 = some r ∧ fX4_fewestOpenings μ p1 = some (r, μ2) ∧ RX x μ2 := by
  obtain ⟨n, I, Bd, R⟩ := hR.1
  have hn := I.1
  obtain ⟨w, w1, w2⟩ := waits I R
  unfold fX3_fewestOpenings fX1_countEnds fX1_countHonestOpenings fX4_fewestOpenings
  by_cases h0 : p1 = 0
  · have b1 := ends_loop I R w2 n 1000 0 0 (by omega) (by omega) (fun j _ => by
      show _ = (decide (j < n) && false)
      rw [b_0, Bool.and_false])
    have b2 : fX4_byEnds (up μ 0 0 0) = some (nI (cnt (fun j => lf (μ 1) j && !cov (μ 1) n j) n)) := byEnds_rel (μ := up μ 0 0 0) I
    refine ⟨nI (cnt (fun j => lf (μ 1) j && !cov (μ 1) n j) n), up μ 0 0 0, ?_, ?_, thrown_ok hR⟩
    · rw [if_pos h0, w1, Option.bind_some, show fX1_countEnds_9 1000 x.2.1 w 0 0 = _ from b1]
      rfl
    · rw [if_pos h0, b2]
      rfl
  · by_cases h1 : p1 = 1
    · have u1 : (cpS (up μ 0 0 0) 2 1 0 0 200) 1 = μ 1 := cpS_n (by decide)
      obtain ⟨r, μ2, a1, a2, a3, a4⟩ := hon_loop I R n 1000 1000 0 w (cpS (up μ 0 0 0) 2 1 0 0 200) (Nat.le_refl n) (by omega) (by omega) (by rw [u1]; exact I) (by rw [u1]; exact AG.refl) (fun j h1 h2 => by omega) (by rw [u1]; exact w2)
      refine ⟨r, μ2, ?_, ?_, RX_cong2 (μ := up μ 0 0 0) (fun a z0 z1 z2 _ => by rw [a3 a z1, cpS_n z2]) (fun j hj => ?_) (thrown_ok hR)⟩
      · rw [if_neg h0, if_pos h1, w1, Option.bind_some, R.1, show fX1_countHonestOpenings_14 1000 x.2.1 w 0 (nI n - 1) = some r from a1]
        rfl
      · unfold fX4_byOpening
        rw [if_neg h0, if_pos h1, putAside_eq, Option.bind_some, show fX4_byOpening_6 1000 (cpS (up μ 0 0 0) 2 1 0 0 200) 0 = some (r, μ2) from a2]
        rfl
      · rw [a4 j hj, cpS_in (by omega) (by omega)]
        exact congrArg ((up μ 0 0 0) 1) (by omega)
    · exact ⟨-2, up μ 0 0 0, by rw [if_neg h0, if_neg h1], by rw [if_neg h0, if_neg h1], thrown_ok hR⟩
