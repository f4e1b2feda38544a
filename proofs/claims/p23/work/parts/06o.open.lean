/-! PURE: open, openAll -/
theorem upd_upd {s : Nat → Int32} {i : Nat} {v w : Int32} : upd (upd s i v) i w = upd s i w := by
  funext j
  by_cases h : j = i
  · subst h
    rw [upd_s, upd_s]
  · rw [upd_n h, upd_n h, upd_n h]
theorem upd_comm {s : Nat → Int32} {i k : Nat} {v w : Int32} (h : i ≠ k) : upd (upd s i v) k w = upd (upd s k w) i v := by
  funext j
  by_cases h1 : j = i
  · subst h1
    rw [upd_s, upd_n h, upd_s]
  · by_cases h2 : j = k
    · subst h2
      rw [upd_s, upd_n h1, upd_s]
    · rw [upd_n h2, upd_n h1, upd_n h1, upd_n h2]
theorem RH_open {n k : Nat} {σ : St} {s : Nat → Int32} (R : RH n σ s) (hn : n ≤ 24) (hk : k < n) : RH n (up σ 7 0 (σ 7 0 ||| (1 <<< (nI k &&& 31)))) (upd s (8 + 8 * k + 4) 1) := by
  obtain ⟨r1, r2, r3, r4, r5⟩ := R
  refine ⟨by rw [up_n (by decide)]; exact r1, fun i hi => ?_, ?_, fun q hq => ?_, fun q hq => ?_⟩
  · rw [up_n (by decide), upd_n (by omega)]
    exact r2 i hi
  · rw [up_n (by decide), upd_n (by omega)]
    exact r3
  · rw [up_n (by decide), up_n (by decide), up_n (by decide), up_n (by decide), up_n (by decide), upd_n (a := 8 + 8 * q) (by omega), upd_n (a := 8 + 8 * q + 1) (by omega), upd_n (a := 8 + 8 * q + 2) (by omega), upd_n (a := 8 + 8 * q + 3) (by omega), upd_n (a := 8 + 8 * q + 7) (by omega)]
    exact r4 q hq
  · obtain ⟨a, b, c⟩ := r5 q hq
    rw [up_s, upd_s, up_n (by decide), up_n (by decide), upd_n (a := 8 + 8 * q + 5) (by omega), upd_n (a := 8 + 8 * q + 6) (by omega)]
    refine ⟨?_, b, c⟩
    rw [b_or, b_bit (by omega) hq, a]
    by_cases e : q = k
    · subst e
      rw [upd_s, decide_eq_true hk]
      simp
    · rw [upd_n (by omega), decide_eq_false e, Bool.or_false]
theorem RH_cl {n : Nat} {σ : St} {s : Nat → Int32} {p : Nat → Bool} {m : Int32} (I : SI n s) (R : RH n σ s) (hm : ∀ j, j < 32 → bt m j = (decide (j < n) && (p j && frs s j))) : RH n (up σ 9 0 (σ 9 0 ||| m)) (clS s p) := by
  obtain ⟨r1, r2, r3, r4, r5⟩ := R
  refine ⟨by rw [up_n (by decide)]; exact r1, fun i hi => ?_, ?_, fun q hq => ?_, fun q hq => ?_⟩
  · rw [up_n (by decide), clS_o (by omega)]
    exact r2 i hi
  · rw [up_n (by decide), clS_o (by omega)]
    exact r3
  · rw [up_n (by decide), up_n (by decide), up_n (by decide), up_n (by decide), up_n (by decide), clS_o (j := 8 + 8 * q) (by omega), clS_o (j := 8 + 8 * q + 1) (by omega), clS_o (j := 8 + 8 * q + 2) (by omega), clS_o (j := 8 + 8 * q + 3) (by omega), clS_o (j := 8 + 8 * q + 7) (by omega)]
    exact r4 q hq
  · obtain ⟨a, b, c⟩ := r5 q hq
    rw [up_s, upd_s, up_n (by decide), up_n (by decide), clS_o (j := 8 + 8 * q + 4) (by omega), clS_o (j := 8 + 8 * q + 6) (by omega)]
    refine ⟨a, ?_, c⟩
    rw [b_or, hm q hq, b, clS_5]
    by_cases hqn : q < n
    · obtain ⟨-, s5, s6⟩ := I.2.2.2.2.1 q (by have := I.1; omega)
      unfold frs
      rw [decide_eq_true hqn]
      rcases s5 with z5 | z5 <;> rcases s6 with z6 | z6 <;> rw [z5, z6] <;> cases p q <;> rfl
    · rw [decide_eq_false hqn]
      simp
theorem RH_lie {n k : Nat} {σ : St} {s : Nat → Int32} (R : RH n σ s) (hn : n ≤ 24) (hk : k < n) : RH n (up (up σ 8 0 (σ 8 0 ||| (1 <<< (nI k &&& 31)))) 9 0 ((up σ 8 0 (σ 8 0 ||| (1 <<< (nI k &&& 31)))) 9 0 &&& ((1 <<< (nI k &&& 31)) ^^^ (-1)))) (upd (upd s (8 + 8 * k + 6) 1) (8 + 8 * k + 5) 0) := by
  obtain ⟨r1, r2, r3, r4, r5⟩ := R
  refine ⟨?_, fun i hi => ?_, ?_, fun q hq => ?_, fun q hq => ?_⟩
  · simp (disch := omega) only [up_n]
    exact r1
  · simp (disch := omega) only [up_n, upd_n]
    exact r2 i hi
  · simp (disch := omega) only [up_n, upd_n]
    exact r3
  · simp (disch := omega) only [up_n, upd_n]
    exact r4 q hq
  · obtain ⟨a, b, c⟩ := r5 q hq
    simp (disch := omega) only [up_s, up_n, upd_s]
    rw [upd_n (a := 8 + 8 * q + 4) (by omega), upd_n (a := 8 + 8 * q + 4) (by omega), upd_n (a := 8 + 8 * q + 6) (i := 8 + 8 * k + 5) (by omega)]
    refine ⟨a, ?_, ?_⟩
    · rw [b_and, b_not _ hq, b_bit (by omega) hq, b]
      by_cases e : q = k
      · subst e
        rw [upd_s, decide_eq_true hk, decide_eq_true rfl]
        simp
      · rw [upd_n (by omega), upd_n (by omega), decide_eq_false e]
        simp
    · rw [b_or, b_bit (by omega) hq, c]
      by_cases e : q = k
      · subst e
        rw [upd_s, decide_eq_true hk]
        simp
      · rw [upd_n (by omega), decide_eq_false e, Bool.or_false]
theorem SI_lie {n k : Nat} {s : Nat → Int32} (I : SI n s) (hk : k < n) (h4 : s (8 + 8 * k + 4) = 1) : SI n (upd (upd s (8 + 8 * k + 6) 1) (8 + 8 * k + 5) 0) := by
  obtain ⟨i1, i2, i3, i4, i5, i6, i7⟩ := I
  refine ⟨i1, ?_, ?_, fun q hq => ?_, fun q hq => ?_, fun q h0 hq => ?_, fun q hq => ?_⟩
  · simp (disch := omega) only [upd_n]
    exact i2
  · simp (disch := omega) only [upd_n]
    exact i3
  · simp (disch := omega) only [upd_n]
    exact i4 q hq
  · obtain ⟨a, b, c⟩ := i5 q hq
    by_cases e : q = k
    · subst e
      simp (disch := omega) only [upd_n, upd_s]
      exact ⟨a, Or.inl trivial, Or.inr trivial⟩
    · simp (disch := omega) only [upd_n]
      exact ⟨a, b, c⟩
  · simp (disch := omega) only [upd_n]
    exact i6 q h0 hq
  · by_cases e : q = k
    · subst e
      simp (disch := omega) only [upd_n, upd_s]
      exact fun _ => h4
    · simp (disch := omega) only [upd_n]
      exact i7 q hq
theorem fines_eq {μ : St} {k : Nat} {v : Int32} (hk : k < 24) : fX4_fines μ (nI k) v = some (up μ 1 (8 + 8 * k + 7) (μ 1 (8 + 8 * k + 7) + v)) := by
  unfold fX4_fines
  rw [of7 hk, Option.bind_some, lay7 hk, Option.bind_some]
theorem lf_u7 {s : Nat → Int32} {k j : Nat} {v : Int32} : lf (upd s (8 + 8 * k + 7) v) j = lf s j := by
  unfold lf
  rw [upd_n (by omega), upd_n (by omega)]
theorem expose_loop {n k : Nat} {s : Nat → Int32} {w : Int32} (hk : k < n) (hw : ∀ j, j < 32 → bt w j = (decide (j < n) && (vc s (nI k) j && whB s j))) : ∀ (m f g i : Nat) (σ μ : St), i + m = n → m < f → m < g → SI n (μ 1) → RH n σ (μ 1) → AG s (μ 1) → ∃ σ2 μ2 : St, fX1_exposeLiar_36 f σ (nI k) w (nI i) = some σ2 ∧ fX4_opens_79 g μ (nI k) (nI i) = some (0, μ2) ∧ (∀ a, a ≠ 1 → μ2 a = μ a) ∧ SI n (μ2 1) ∧ RH n σ2 (μ2 1) ∧ AG s (μ2 1) ∧ ∀ j, lf (μ2 1) j = lf (μ 1) j := by
  intro m
  induction m with
  | zero =>
    intro f g i σ μ him hf hg I R A
    obtain ⟨f, rfl⟩ : ∃ q, f = q + 1 := ⟨f - 1, by omega⟩
    obtain ⟨g, rfl⟩ : ∃ q, g = q + 1 := ⟨g - 1, by omega⟩
    have hin : i = n := him
    subst hin
    refine ⟨σ, μ, ?_, ?_, fun a _ => rfl, I, R, A, fun j => rfl⟩
    · rw [fX1_exposeLiar_36_s, R.1, if_pos (le_rf _)]
    · rw [fX4_opens_79_s, I.2.1, if_pos (le_rf _)]
  | succ m ih =>
    intro f g i σ μ him hf hg I R A
    have hn := I.1
    obtain ⟨f, rfl⟩ : ∃ q, f = q + 1 := ⟨f - 1, by omega⟩
    obtain ⟨g, rfl⟩ : ∃ q, g = q + 1 := ⟨g - 1, by omega⟩
    have hi : i < n := by omega
    rw [fX1_exposeLiar_36_s, fX4_opens_79_s, R.1, if_neg (ge_n hi hn), I.2.1, if_neg (ge_n hi hn), isIn_spec (by omega), Option.bind_some, of2 (by omega), Option.bind_some, isWhole4_eq (by omega) I.2.2.1 (I.aheadOK hi), Option.bind_some, fines_eq (by omega), Option.bind_some, hw i (by omega), decide_eq_true hi, Bool.true_and, nI_1, A (8 + 8 * i + 2) (by omega), A.wh i, A 4 (by omega)]
    unfold vc
    by_cases h : s (8 + 8 * i + 2) = nI k
    · rw [if_pos h, decide_eq_true h, Bool.true_and]
      cases hwh : whB s i
      · rw [if_neg (show ¬ (false = true) by decide), if_pos rfl, if_pos rfl]
        exact ih f g (i + 1) σ μ (by omega) (by omega) (by omega) I R A
      · rw [if_pos rfl, if_neg (show ¬ (1 : Int32) = 0 by decide), if_neg (vp_in_nI (by omega) (by decide)), if_neg (vp_in_nI (by omega) (by decide)), if_neg (show ¬ (1 : Int32) = 0 by decide), cl (by omega), (R.2.2.2.1 i hi).2.2.2.2, R.2.1 4 (by decide), A 4 (by omega)]
        have h9 := RS.fine (v := μ 1 (8 + 8 * i + 7) + s 4) I R hi
        obtain ⟨σ2, μ2, a1, a2, a3, a4, a5, a6, a7⟩ := ih f g (i + 1) (up σ 5 i (μ 1 (8 + 8 * i + 7) + s 4)) (up μ 1 (8 + 8 * i + 7) (μ 1 (8 + 8 * i + 7) + s 4)) (by omega) (by omega) (by omega) (by rw [up_s]; exact h9.1) (by rw [up_s]; exact h9.2) (by rw [up_s]; exact A.trans (AG_upd (by omega)))
        exact ⟨σ2, μ2, a1, a2, fun a ha => by rw [a3 a ha, up_n ha], a4, a5, a6, fun j => by rw [a7 j, up_s, lf_u7]⟩
    · rw [if_neg h, decide_eq_false h, Bool.false_and, if_neg (show ¬ (false = true) by decide), if_pos rfl]
      exact ih f g (i + 1) σ μ (by omega) (by omega) (by omega) I R A
def o1 (σ : St) (k : Nat) : St := up σ 7 0 (σ 7 0 ||| (1 <<< (nI k &&& 31)))
def o2 (σ : St) (k : Nat) (v : Int32) : St := up (o1 σ k) 5 k ((o1 σ k) 5 k + v)
def o3 (σ : St) (k : Nat) : St := up (up σ 8 0 (σ 8 0 ||| (1 <<< (nI k &&& 31)))) 9 0 ((up σ 8 0 (σ 8 0 ||| (1 <<< (nI k &&& 31)))) 9 0 &&& ((1 <<< (nI k &&& 31)) ^^^ (-1)))
theorem inspect_eq {n k : Nat} {σ : St} {s : Nat → Int32} (R : RH n σ s) (hn : n ≤ 24) (hk : k < n) (ho : ¬ s (8 + 8 * k + 4) = 1) : fX1_inspect σ (nI k) = (fX1_ownFine (o1 σ k) (nI k) ((o1 σ k) 2 k)).bind (fun r8 => (fX1_isLie (o2 σ k r8) (nI k) ((o2 σ k r8) 2 k)).bind (fun r11 => if r11 = 0 then ((fX1_clearedIfHonest (o2 σ k r8) (nI k)).bind (fun r13 => (fJ6_bitCount_0f7a4 r13).bind (fun r14 => some (r14, up (o2 σ k r8) 9 0 ((o2 σ k r8) 9 0 ||| r13))))) else ((fX1_exposeLiar (o2 σ k r8) (nI k)).bind (fun σ16 => some (0, σ16))))) := by
  have o : (oob (nI k) 24) = False := oobF (by omega) (by decide)
  unfold fX1_inspect
  simp only [knows_in R.1 hn hk, in7 R hn hk, ho, if_false, if_true, i10, Option.bind_some, bit_spec, o, cl (show k < 2 ^ 31 by omega)]
  rfl
theorem expose_eq {σ : St} {k : Nat} : fX1_exposeLiar σ (nI k) = (fX1_wholeVouchers (o3 σ k) (nI k)).bind (fun r3 => fX1_exposeLiar_36 1000 (o3 σ k) (nI k) r3 0) := by
  unfold fX1_exposeLiar
  rw [bit_spec]
  rfl
/-- what the reference does once the cart is opened and its seal judged -/
def KO (k : Nat) (σ6 : St) : Option (Int32 × St) := (fX4_of σ6 (nI k) 0).bind (fun r7 => (fX4_of σ6 (nI k) 1).bind (fun r8 => if r7 = r8 then ((fX4_clears σ6 (nI k)).bind (fun q27 => some (q27.1, q27.2))) else ((fX4_lay σ6 (nI k) 6 1).bind (fun σ11 => (fX4_lay σ11 (nI k) 5 0).bind (fun σ13 => (fX4_of σ13 (nI k) 1).bind (fun r14 => (fX4_fineOfLie σ13 (nI k) r14).bind (fun r15 => (fX4_fines σ13 (nI k) r15).bind (fun σ17 => fX4_opens_79 1000 σ17 (nI k) 0))))))))
def aF (s : Nat → Int32) (k : Nat) : Int32 := if whB s k then 0 else 3
theorem opens_K {n k : Nat} {μ : St} (I : SI n (μ 1)) (hk : k < n) : fX4_opens μ (nI k) = KO k (st1 μ (upd (upd (μ 1) (8 + 8 * k + 4) 1) (8 + 8 * k + 7) (μ 1 (8 + 8 * k + 7) + aF (μ 1) k))) := by
  have hn := I.1
  have u1 : (up μ 1 (8 + 8 * k + 4) 1) 1 = upd (μ 1) (8 + 8 * k + 4) 1 := up_s
  have I1 : SI n ((up μ 1 (8 + 8 * k + 4) 1) 1) := by rw [u1]; exact SI_open I hk
  have A1 : AG (μ 1) ((up μ 1 (8 + 8 * k + 4) 1) 1) := by rw [u1]; exact AG_upd (by omega)
  have e : ∀ v : Int32, up (up μ 1 (8 + 8 * k + 4) 1) 1 (8 + 8 * k + 7) ((up μ 1 (8 + 8 * k + 4) 1) 1 (8 + 8 * k + 7) + v) = st1 μ (upd (upd (μ 1) (8 + 8 * k + 4) 1) (8 + 8 * k + 7) (μ 1 (8 + 8 * k + 7) + v)) := fun v => by
    rw [st1_up, u1, st1_up, st1_st1, upd_n (by omega)]
  unfold fX4_opens aF
  rw [lay4 (by omega), Option.bind_some, isWhole4_eq (by omega) I1.2.2.1 (I1.aheadOK hk), Option.bind_some, A1.wh k, fines_eq (by omega), fines_eq (by omega), e, e]
  cases whB (μ 1) k <;> rfl
theorem up_st1 {μ : St} {s : Nat → Int32} {j : Nat} {v : Int32} : up (st1 μ s) 1 j v = st1 μ (upd s j v) := by rw [st1_up, st1_s, st1_st1]
theorem lf_clS {s : Nat → Int32} {p : Nat → Bool} {j : Nat} (h : lf (clS s p) j = true) : lf s j = true := by
  unfold lf at h ⊢
  rw [clS_o (j := 8 + 8 * j + 4) (by omega), clS_5] at h
  by_cases z : p j = true ∧ s (8 + 8 * j + 6) = 0
  · rw [if_pos z] at h
    simp at h
  · rw [if_neg z] at h
    exact h
theorem opens_s1 {n k : Nat} {σ1 μ : St} {s1 : Nat → Int32} (I1 : SI n s1) (R1 : RH n σ1 s1) (hk : k < n) (h4 : s1 (8 + 8 * k + 4) = 1) : ∀ σ2 : St, σ2 = up σ1 5 k (σ1 5 k + ownF s1 k (s1 (8 + 8 * k + 1))) → ∃ (r : Nat) (σ3 μ2 : St), r < 2 ^ 31 ∧ ((fX1_isLie σ2 (nI k) (σ2 2 k)).bind (fun r11 => if r11 = 0 then ((fX1_clearedIfHonest σ2 (nI k)).bind (fun r13 => (fJ6_bitCount_0f7a4 r13).bind (fun r14 => some (r14, up σ2 9 0 (σ2 9 0 ||| r13))))) else ((fX1_exposeLiar σ2 (nI k)).bind (fun σ16 => some (0, σ16))))) = some (nI r, σ3) ∧ KO k (st1 μ (upd s1 (8 + 8 * k + 7) (s1 (8 + 8 * k + 7) + aF s1 k))) = some (nI r, μ2) ∧ (∀ a, a ≠ 1 → μ2 a = μ a) ∧ SI n (μ2 1) ∧ RH n σ3 (μ2 1) ∧ AG s1 (μ2 1) ∧ ∀ j, lf (μ2 1) j = true → lf s1 j = true := by
  have hn := I1.1
  intro σ2 eσ2
  have e5 : σ1 5 k = s1 (8 + 8 * k + 7) := (R1.2.2.2.1 k hk).2.2.2.2
  rw [e5] at eσ2
  obtain ⟨I2, R2⟩ := RS.fine (v := s1 (8 + 8 * k + 7) + ownF s1 k (s1 (8 + 8 * k + 1))) I1 R1 hk
  rw [← eσ2] at R2
  have A2 : ∀ v : Int32, AG s1 (upd s1 (8 + 8 * k + 7) v) := fun v => AG_upd (by omega)
  have g0 : σ2 1 k = s1 (8 + 8 * k) := by rw [(R2.2.2.2.1 k hk).1, A2 _ _ (by omega)]
  have g1 : σ2 2 k = s1 (8 + 8 * k + 1) := by rw [(R2.2.2.2.1 k hk).2.1, A2 _ _ (by omega)]
  have lie : fX1_isLie σ2 (nI k) (σ2 2 k) = some (if s1 (8 + 8 * k) = s1 (8 + 8 * k + 1) then 0 else 1) := by
    unfold fX1_isLie
    rw [if_neg (vp_in_nI (by omega) (by decide)), cl (by omega), g0, g1]
    by_cases hz : s1 (8 + 8 * k) = s1 (8 + 8 * k + 1)
    · rw [if_pos hz, if_pos hz]
    · rw [if_neg hz, if_neg hz]
  rw [lie, Option.bind_some]
  unfold KO
  rw [of0 (by omega), Option.bind_some, of1 (by omega), Option.bind_some, st1_s, A2 _ (8 + 8 * k) (by omega), A2 _ (8 + 8 * k + 1) (by omega)]
  by_cases hc : s1 (8 + 8 * k) = s1 (8 + 8 * k + 1)
  · have ho : ownF s1 k (s1 (8 + 8 * k + 1)) = aF s1 k := by
      unfold ownF aF
      rw [if_pos hc, if_pos hc]
    rw [ho] at I2 R2
    obtain ⟨m, a1, a2⟩ := honest_rel I2 R2 hk
    have b1 := bitCount_mask hn a2
    have ec := clears_rel (μ := st1 μ (upd s1 (8 + 8 * k + 7) (s1 (8 + 8 * k + 7) + aF s1 k))) (n := n) (k := k) (by rw [st1_s]; exact I2) hk
    rw [st1_s, st1_st1] at ec
    have cb := cnt_le (fun j => inR (upd s1 (8 + 8 * k + 7) (s1 (8 + 8 * k + 7) + aF s1 k)) 24 k j && frs (upd s1 (8 + 8 * k + 7) (s1 (8 + 8 * k + 7) + aF s1 k)) j) n
    rw [if_pos hc, if_pos rfl, if_pos hc, a1, Option.bind_some, b1, Option.bind_some, ec]
    refine ⟨_, _, st1 μ (clS (upd s1 (8 + 8 * k + 7) (s1 (8 + 8 * k + 7) + aF s1 k)) (inR (upd s1 (8 + 8 * k + 7) (s1 (8 + 8 * k + 7) + aF s1 k)) 24 k)), by omega, rfl, rfl, fun a ha => st1_n ha, ?_, ?_, ?_, fun j h => ?_⟩
    · rw [st1_s]
      exact SI_clS I2 (inR_lt I2 hk)
    · rw [st1_s]
      exact RH_cl I2 R2 a2
    · rw [st1_s]
      exact (A2 _).trans AG_clS
    · rw [st1_s] at h
      have h := lf_clS h
      rw [lf_u7] at h
      exact h
  · have ho : ownF s1 k (s1 (8 + 8 * k + 1)) = aF s1 k + lieF s1 k (s1 (8 + 8 * k + 1)) := by
      unfold ownF aF
      rw [if_neg hc, if_neg hc]
      cases whB s1 k <;> rfl
    rw [ho] at I2 R2
    have h42 : upd s1 (8 + 8 * k + 7) (s1 (8 + 8 * k + 7) + (aF s1 k + lieF s1 k (s1 (8 + 8 * k + 1)))) (8 + 8 * k + 4) = 1 := by rw [upd_n (by omega)]; exact h4
    have I3 := SI_lie I2 hk h42
    have R3 : RH n (o3 σ2 k) _ := RH_lie R2 hn hk
    have A3 : AG s1 (upd (upd (upd s1 (8 + 8 * k + 7) (s1 (8 + 8 * k + 7) + (aF s1 k + lieF s1 k (s1 (8 + 8 * k + 1))))) (8 + 8 * k + 6) 1) (8 + 8 * k + 5) 0) := ((A2 _).trans (AG_upd (by omega))).trans (AG_upd (by omega))
    -- the reference's array comes out the same
    have u : ∀ x : Int32, AG s1 (upd (upd (upd s1 (8 + 8 * k + 7) x) (8 + 8 * k + 6) 1) (8 + 8 * k + 5) 0) := fun x => ((A2 _).trans (AG_upd (by omega))).trans (AG_upd (by omega))
    have eA : upd (upd (upd (upd s1 (8 + 8 * k + 7) (s1 (8 + 8 * k + 7) + aF s1 k)) (8 + 8 * k + 6) 1) (8 + 8 * k + 5) 0) (8 + 8 * k + 7) (s1 (8 + 8 * k + 7) + (aF s1 k + lieF s1 k (s1 (8 + 8 * k + 1)))) = upd (upd (upd s1 (8 + 8 * k + 7) (s1 (8 + 8 * k + 7) + (aF s1 k + lieF s1 k (s1 (8 + 8 * k + 1))))) (8 + 8 * k + 6) 1) (8 + 8 * k + 5) 0 := by
      rw [upd_comm (i := 8 + 8 * k + 5) (k := 8 + 8 * k + 7) (by omega), upd_comm (i := 8 + 8 * k + 6) (k := 8 + 8 * k + 7) (by omega), upd_upd]
    have eK : (fX4_lay (st1 μ (upd s1 (8 + 8 * k + 7) (s1 (8 + 8 * k + 7) + aF s1 k))) (nI k) 6 1).bind (fun σ11 => (fX4_lay σ11 (nI k) 5 0).bind (fun σ13 => (fX4_of σ13 (nI k) 1).bind (fun r14 => (fX4_fineOfLie σ13 (nI k) r14).bind (fun r15 => (fX4_fines σ13 (nI k) r15).bind (fun σ17 => fX4_opens_79 1000 σ17 (nI k) 0))))) = fX4_opens_79 1000 (st1 μ (upd (upd (upd s1 (8 + 8 * k + 7) (s1 (8 + 8 * k + 7) + (aF s1 k + lieF s1 k (s1 (8 + 8 * k + 1))))) (8 + 8 * k + 6) 1) (8 + 8 * k + 5) 0)) (nI k) 0 := by
      have lx : lieF (upd (upd (upd s1 (8 + 8 * k + 7) (s1 (8 + 8 * k + 7) + aF s1 k)) (8 + 8 * k + 6) 1) (8 + 8 * k + 5) 0) k (s1 (8 + 8 * k + 1)) = lieF s1 k (s1 (8 + 8 * k + 1)) := by
        unfold lieF
        rw [u _ (8 + 8 * k) (by omega), u _ 3 (by omega)]
      have l7 : upd (upd (upd s1 (8 + 8 * k + 7) (s1 (8 + 8 * k + 7) + aF s1 k)) (8 + 8 * k + 6) 1) (8 + 8 * k + 5) 0 (8 + 8 * k + 7) = s1 (8 + 8 * k + 7) + aF s1 k := by
        rw [upd_n (by omega), upd_n (by omega), upd_s]
      rw [lay6 (by omega), Option.bind_some, lay5 (by omega), Option.bind_some, up_st1, up_st1, of1 (by omega), Option.bind_some, st1_s, u _ (8 + 8 * k + 1) (by omega), fine4 (by omega), Option.bind_some, st1_s, lx, fines_eq (by omega), Option.bind_some, up_st1, st1_s, l7, Int32.add_assoc, eA]
    obtain ⟨w, w1, w2⟩ := whvX I3 R3 (nI k)
    obtain ⟨σ3, μ2, a1, a2, a3, a4, a5, a6, a7⟩ := expose_loop (μ := st1 μ (upd (upd (upd s1 (8 + 8 * k + 7) (s1 (8 + 8 * k + 7) + (aF s1 k + lieF s1 k (s1 (8 + 8 * k + 1))))) (8 + 8 * k + 6) 1) (8 + 8 * k + 5) 0)) hk w2 n 1000 1000 0 (o3 σ2 k) (by omega) (by omega) (by omega) (by rw [st1_s]; exact I3) (by rw [st1_s]; exact R3) (by rw [st1_s]; exact AG.refl)
    refine ⟨0, σ3, μ2, by decide, ?_, ?_, fun a ha => by rw [a3 a ha, st1_n ha], a4, a5, A3.trans a6, fun j h => ?_⟩
    · rw [if_neg hc, if_neg (by decide), expose_eq, w1, Option.bind_some, show fX1_exposeLiar_36 1000 (o3 σ2 k) (nI k) w 0 = some σ3 from a1]
      rfl
    · rw [if_neg hc, eK]
      exact a2
    · rw [a7 j, st1_s] at h
      unfold lf at h ⊢
      by_cases e : j = k
      · subst e
        rw [upd_n (a := 8 + 8 * j + 4) (by omega), upd_n (a := 8 + 8 * j + 4) (by omega), upd_n (a := 8 + 8 * j + 4) (by omega), h4] at h
        simp at h
      · rw [upd_n (a := 8 + 8 * j + 4) (by omega), upd_n (a := 8 + 8 * j + 4) (by omega), upd_n (a := 8 + 8 * j + 4) (by omega), upd_n (a := 8 + 8 * j + 5) (by omega), upd_n (a := 8 + 8 * j + 5) (by omega), upd_n (a := 8 + 8 * j + 5) (by omega)] at h
        exact h
theorem opens_rel {n k : Nat} {σ μ : St} (I : SI n (μ 1)) (Bd : SB n (μ 1)) (R : RH n σ (μ 1)) (hk : k < n) (ho : ¬ μ 1 (8 + 8 * k + 4) = 1) : ∃ (r : Nat) (σ2 μ2 : St), r < 2 ^ 31 ∧ fX1_inspect σ (nI k) = some (nI r, σ2) ∧ fX4_opens μ (nI k) = some (nI r, μ2) ∧ (∀ a, a ≠ 1 → μ2 a = μ a) ∧ SI n (μ2 1) ∧ SB n (μ2 1) ∧ RH n σ2 (μ2 1) ∧ ∀ j, j < n → lf (μ2 1) j = true → lf (μ 1) j = true ∧ j ≠ k := by
  have hn := I.1
  have I1 := SI_open I hk
  have R1 : RH n (o1 σ k) (upd (μ 1) (8 + 8 * k + 4) 1) := RH_open R hn hk
  have A1 : AG (μ 1) (upd (μ 1) (8 + 8 * k + 4) 1) := AG_upd (by omega)
  have l1 : ∀ j, lf (upd (μ 1) (8 + 8 * k + 4) 1) j = true → lf (μ 1) j = true ∧ j ≠ k := fun j h => by
    unfold lf at h ⊢
    rw [upd_n (a := 8 + 8 * j + 5) (by omega)] at h
    by_cases e : j = k
    · subst e
      rw [upd_s] at h
      simp at h
    · rw [upd_n (by omega)] at h
      exact ⟨h, e⟩
  have hA : aF (upd (μ 1) (8 + 8 * k + 4) 1) k = aF (μ 1) k := by
    unfold aF
    rw [A1.wh k]
  have h7 : upd (μ 1) (8 + 8 * k + 4) 1 (8 + 8 * k + 7) = μ 1 (8 + 8 * k + 7) := upd_n (by omega)
  obtain ⟨r, σ3, μ2, hr, a1, a2, a3, a4, a5, a6, a7⟩ := opens_s1 (μ := μ) I1 R1 hk upd_s (o2 σ k (ownF (upd (μ 1) (8 + 8 * k + 4) 1) k (upd (μ 1) (8 + 8 * k + 4) 1 (8 + 8 * k + 1)))) rfl
  rw [hA, h7] at a2
  refine ⟨r, σ3, μ2, hr, ?_, ?_, a3, a4, SB_AG (A1.trans a6) Bd, a5, fun j _ h => l1 j (a7 j h)⟩
  · rw [inspect_eq R hn hk ho, show (o1 σ k) 2 k = upd (μ 1) (8 + 8 * k + 4) 1 (8 + 8 * k + 1) from (R1.2.2.2.1 k hk).2.1, own_rel I1 R1 hk, Option.bind_some]
    exact a1
  · rw [opens_K I hk]
    exact a2
