/-! PURE: total -/
theorem sum4 {n w : Nat} {μ : St} (I : SI n (μ 1)) (hw : w < 8) : fX4_sumOf μ (nI w) = some (foldG (fun i (a : Int32) => a + μ 1 (8 + 8 * i + w)) n 0) := by
  have hn := I.1
  unfold fX4_sumOf
  exact loopG (fun f a i => fX4_sumOf_4 f μ (nI w) a i) (fun a => some a) (fun i (a : Int32) => a + μ 1 (8 + 8 * i + w)) n hn 0 (fun f a i hi => by
    show fX4_sumOf_4 (f + 1) μ (nI w) a (nI i) = fX4_sumOf_4 f μ (nI w) (a + μ 1 (8 + 8 * i + w)) (nI (i + 1))
    rw [fX4_sumOf_4_s, I.2.1, if_neg (ge_n hi hn), of_g (by omega) hw, Option.bind_some, nI_1]) (fun f a => by
    show fX4_sumOf_4 (f + 1) μ (nI w) a (nI n) = _
    rw [fX4_sumOf_4_s, I.2.1, if_pos (le_rf _)])
theorem fold_flag {n w : Nat} {s : Nat → Int32} (h : ∀ i, i < n → s (8 + 8 * i + w) = 0 ∨ s (8 + 8 * i + w) = 1) : foldG (fun i (a : Int32) => a + s (8 + 8 * i + w)) n 0 = nI (cnt (fun j => decide (s (8 + 8 * j + w) = 1)) n) := by
  rw [foldG_cong (g2 := fun i (a : Int32) => if decide (s (8 + 8 * i + w) = 1) then a + 1 else a) 0 (fun i a hi => by
    rcases h i hi with z | z
    · show a + s (8 + 8 * i + w) = (if decide (s (8 + 8 * i + w) = 1) then a + 1 else a)
      rw [z, add0]
      rfl
    · show a + s (8 + 8 * i + w) = (if decide (s (8 + 8 * i + w) = 1) then a + 1 else a)
      rw [z]
      rfl)]
  exact fold_cnt (fun j => decide (s (8 + 8 * j + w) = 1)) n
theorem brokenX {n : Nat} {σ : St} {s : Nat → Int32} (I : SI n s) (R : RH n σ s) : fX1_countBroken σ = some (foldG (fun i (a : Int32) => if whB s i then a else a + 1) n 0) := by
  have hn := I.1
  unfold fX1_countBroken
  exact loopG (fun f a i => fX1_countBroken_4 f σ a i) (fun a => some a) (fun i (a : Int32) => if whB s i then a else a + 1) n hn 0 (fun f a i hi => by
    show fX1_countBroken_4 (f + 1) σ a (nI i) = fX1_countBroken_4 f σ (if whB s i then a else a + 1) (nI (i + 1))
    rw [fX1_countBroken_4_s, R.1, if_neg (ge_n hi hn), isWhole_rel I R hi, Option.bind_some, nI_1]
    cases whB s i <;> rfl) (fun f a => by
    show fX1_countBroken_4 (f + 1) σ a (nI n) = _
    rw [fX1_countBroken_4_s, R.1, if_pos (le_rf _)])
theorem broken4 {n : Nat} {μ : St} (I : SI n (μ 1)) : fX4_brokenMany μ = some (foldG (fun i (a : Int32) => if whB (μ 1) i then a else a + 1) n 0) := by
  have hn := I.1
  unfold fX4_brokenMany
  exact loopG (fun f a i => fX4_brokenMany_4 f μ a i) (fun a => some a) (fun i (a : Int32) => if whB (μ 1) i then a else a + 1) n hn 0 (fun f a i hi => by
    show fX4_brokenMany_4 (f + 1) μ a (nI i) = fX4_brokenMany_4 f μ (if whB (μ 1) i then a else a + 1) (nI (i + 1))
    rw [fX4_brokenMany_4_s, I.2.1, if_neg (ge_n hi hn), isWhole4_eq (by omega) I.2.2.1 (I.aheadOK hi), Option.bind_some, nI_1, add0]
    cases whB (μ 1) i <;> rfl) (fun f a => by
    show fX4_brokenMany_4 (f + 1) μ a (nI n) = _
    rw [fX4_brokenMany_4_s, I.2.1, if_pos (le_rf _)])
theorem finesX {n : Nat} {σ : St} {s : Nat → Int32} (I : SI n s) (R : RH n σ s) : fX1_finesOfAll σ = some (foldG (fun i (a : Int32) => a + s (8 + 8 * i + 7)) n 0) := by
  have hn := I.1
  unfold fX1_finesOfAll
  exact loopG (fun f a i => fX1_finesOfAll_4 f σ a i) (fun a => some a) (fun i (a : Int32) => a + s (8 + 8 * i + 7)) n hn 0 (fun f a i hi => by
    have e5 := (R.2.2.2.1 i hi).2.2.2.2
    show fX1_finesOfAll_4 (f + 1) σ a (nI i) = fX1_finesOfAll_4 f σ (a + s (8 + 8 * i + 7)) (nI (i + 1))
    rw [fX1_finesOfAll_4_s, R.1, if_neg (ge_n hi hn), if_neg (vp_in_nI (by omega) (by decide)), cl (by omega), e5, nI_1]) (fun f a => by
    show fX1_finesOfAll_4 (f + 1) σ a (nI n) = _
    rw [fX1_finesOfAll_4_s, R.1, if_pos (le_rf _)])
theorem deepX {n : Nat} {σ : St} {s : Nat → Int32} (I : SI n s) (R : RH n σ s) : fX1_greatestDepth σ = some (foldG (fun i (a : Int32) => if a < nI (lenC s 24 i) then nI (lenC s 24 i) else a) n 0) := by
  have hn := I.1
  unfold fX1_greatestDepth
  exact loopG (fun f a i => fX1_greatestDepth_4 f σ a i) (fun a => some a) (fun i (a : Int32) => if a < nI (lenC s 24 i) then nI (lenC s 24 i) else a) n hn 0 (fun f a i hi => by
    show fX1_greatestDepth_4 (f + 1) σ a (nI i) = fX1_greatestDepth_4 f σ (if a < nI (lenC s 24 i) then nI (lenC s 24 i) else a) (nI (i + 1))
    obtain ⟨m, a1, a2⟩ := chainOf_rel I R hi
    have b1 := bitCount_mask hn a2
    rw [lenC_cnt I 24 i hi (by omega)] at b1
    rw [fX1_greatestDepth_4_s, R.1, if_neg (ge_n hi hn), a1, Option.bind_some, b1, Option.bind_some, nI_1]) (fun f a => by
    show fX1_greatestDepth_4 (f + 1) σ a (nI n) = _
    rw [fX1_greatestDepth_4_s, R.1, if_pos (le_rf _)])
theorem deep4 {n : Nat} {μ : St} (I : SI n (μ 1)) : fX4_deepest μ = some (foldG (fun i (a : Int32) => if a < nI (lenC (μ 1) 24 i) then nI (lenC (μ 1) 24 i) else a) n 0) := by
  have hn := I.1
  unfold fX4_deepest
  exact loopG (fun f a i => fX4_deepest_4 f μ a i) (fun a => some a) (fun i (a : Int32) => if a < nI (lenC (μ 1) 24 i) then nI (lenC (μ 1) 24 i) else a) n hn 0 (fun f a i hi => by
    show fX4_deepest_4 (f + 1) μ a (nI i) = fX4_deepest_4 f μ (if a < nI (lenC (μ 1) 24 i) then nI (lenC (μ 1) 24 i) else a) (nI (i + 1))
    rw [fX4_deepest_4_s, I.2.1, if_neg (ge_n hi hn), depth_rel I hi, Option.bind_some, Option.bind_some, nI_1]
    by_cases h : nI (lenC (μ 1) 24 i) ≤ a
    · rw [if_pos h, if_neg (Int32.not_lt.mpr h)]
    · rw [if_neg h, if_pos (Int32.not_le.mp h)]) (fun f a => by
    show fX4_deepest_4 (f + 1) μ a (nI n) = _
    rw [fX4_deepest_4_s, I.2.1, if_pos (le_rf _)])
theorem endsX {n : Nat} {σ : St} {s : Nat → Int32} (I : SI n s) (R : RH n σ s) : fX1_countUnvouched σ = some (foldG (fun i (a : Int32) => if cnt (vc s (nI i)) n = 0 then a + 1 else a) n 0) := by
  have hn := I.1
  unfold fX1_countUnvouched
  exact loopG (fun f a i => fX1_countUnvouched_4 f σ a i) (fun a => some a) (fun i (a : Int32) => if cnt (vc s (nI i)) n = 0 then a + 1 else a) n hn 0 (fun f a i hi => by
    show fX1_countUnvouched_4 (f + 1) σ a (nI i) = fX1_countUnvouched_4 f σ (if cnt (vc s (nI i)) n = 0 then a + 1 else a) (nI (i + 1))
    obtain ⟨m, a1, a2⟩ := vouchX I R (nI i)
    rw [fX1_countUnvouched_4_s, R.1, if_neg (ge_n hi hn), a1, Option.bind_some, nI_1]
    simp only [mask_zero hn a2]
    by_cases h : cnt (vc s (nI i)) n = 0
    · rw [if_pos h, if_pos h]
    · rw [if_neg h, if_neg h]) (fun f a => by
    show fX1_countUnvouched_4 (f + 1) σ a (nI n) = _
    rw [fX1_countUnvouched_4_s, R.1, if_pos (le_rf _)])
theorem ends4 {n : Nat} {μ : St} (I : SI n (μ 1)) : fX4_ends μ = some (foldG (fun i (a : Int32) => if cnt (vc (μ 1) (nI i)) n = 0 then a + 1 else a) n 0) := by
  have hn := I.1
  unfold fX4_ends
  exact loopG (fun f a i => fX4_ends_4 f μ a i) (fun a => some a) (fun i (a : Int32) => if cnt (vc (μ 1) (nI i)) n = 0 then a + 1 else a) n hn 0 (fun f a i hi => by
    have c1 : cnt (vc (μ 1) (nI i)) n < 2 ^ 31 := by have := cnt_le (vc (μ 1) (nI i)) n; omega
    show fX4_ends_4 (f + 1) μ a (nI i) = fX4_ends_4 f μ (if cnt (vc (μ 1) (nI i)) n = 0 then a + 1 else a) (nI (i + 1))
    rw [fX4_ends_4_s, I.2.1, if_neg (ge_n hi hn), vouch4 I, Option.bind_some, nI_1, add0]
    simp only [nI_z c1]
    by_cases h : cnt (vc (μ 1) (nI i)) n = 0
    · rw [if_pos h, if_pos h]
    · rw [if_neg h, if_neg h]) (fun f a => by
    show fX4_ends_4 (f + 1) μ a (nI n) = _
    rw [fX4_ends_4_s, I.2.1, if_pos (le_rf _)])
theorem foundX {n : Nat} {σ : St} {s : Nat → Int32} (I : SI n s) (R : RH n σ s) : fX1_sacksFound σ = some (foldG (fun i (a : Int32) => if s (8 + 8 * i + 4) = 1 then a + s (8 + 8 * i + 1) else a) n 0) := by
  have hn := I.1
  unfold fX1_sacksFound
  exact loopG (fun f a i => fX1_sacksFound_4 f σ a i) (fun a => some a) (fun i (a : Int32) => if s (8 + 8 * i + 4) = 1 then a + s (8 + 8 * i + 1) else a) n hn 0 (fun f a i hi => by
    have e1 := (R.2.2.2.1 i hi).2.1
    show fX1_sacksFound_4 (f + 1) σ a (nI i) = fX1_sacksFound_4 f σ (if s (8 + 8 * i + 4) = 1 then a + s (8 + 8 * i + 1) else a) (nI (i + 1))
    rw [fX1_sacksFound_4_s, R.1, if_neg (ge_n hi hn), in7 R hn hi, Option.bind_some, if_neg (vp_in_nI (by omega) (by decide)), cl (by omega), e1, nI_1]
    by_cases h : s (8 + 8 * i + 4) = 1
    · rw [if_pos h, if_pos h, if_neg (by decide)]
    · rw [if_neg h, if_neg h, if_pos rfl]) (fun f a => by
    show fX1_sacksFound_4 (f + 1) σ a (nI n) = _
    rw [fX1_sacksFound_4_s, R.1, if_pos (le_rf _)])
theorem found4 {n : Nat} {μ : St} (I : SI n (μ 1)) : fX4_found μ = some (foldG (fun i (a : Int32) => if μ 1 (8 + 8 * i + 4) = 1 then a + μ 1 (8 + 8 * i + 1) else a) n 0) := by
  have hn := I.1
  unfold fX4_found
  exact loopG (fun f a i => fX4_found_4 f μ a i) (fun a => some a) (fun i (a : Int32) => if μ 1 (8 + 8 * i + 4) = 1 then a + μ 1 (8 + 8 * i + 1) else a) n hn 0 (fun f a i hi => by
    show fX4_found_4 (f + 1) μ a (nI i) = fX4_found_4 f μ (if μ 1 (8 + 8 * i + 4) = 1 then a + μ 1 (8 + 8 * i + 1) else a) (nI (i + 1))
    rw [fX4_found_4_s, I.2.1, if_neg (ge_n hi hn), of4 (by omega), Option.bind_some, of1 (by omega), Option.bind_some, nI_1, add0]
    by_cases h : μ 1 (8 + 8 * i + 4) = 1
    · rw [if_pos h, if_pos h]
    · rw [if_neg h, if_neg h]) (fun f a => by
    show fX4_found_4 (f + 1) μ a (nI n) = _
    rw [fX4_found_4_s, I.2.1, if_pos (le_rf _)])
theorem ne_out {p : Int32} (h : p < 0 ∨ (16 : Int32) < p) (q : Int32) (h0 : 0 ≤ q) (h1 : q ≤ 16) : (p = q) = False := eq_false (fun e => by
  subst e
  rcases h with z | z
  · exact Int32.lt_irrefl (Int32.lt_of_lt_of_le z h0)
  · exact Int32.lt_irrefl (Int32.lt_of_lt_of_le z h1))
theorem all_neg {σ : St} {p : Int32} (h : p < 0 ∨ (16 : Int32) < p) : fX1_tellOfAll σ p = some (-2) := by
  have ne := ne_out h
  unfold fX1_tellOfAll
  simp only [ne 5 (by decide) (by decide), ne 6 (by decide) (by decide), ne 7 (by decide) (by decide), ne 8 (by decide) (by decide), ne 9 (by decide) (by decide), ne 10 (by decide) (by decide), ne 11 (by decide) (by decide), ne 12 (by decide) (by decide), ne 13 (by decide) (by decide), ne 14 (by decide) (by decide), if_false]
  by_cases h0 : p < 0
  · rw [if_pos h0]
  · rw [if_neg h0, if_pos (Int32.le_of_lt (Int32.lt_of_le_of_lt (by decide : (5 : Int32) ≤ 16) (h.resolve_left h0)))]
theorem lits17 {P : Nat → Prop} (h0 : P 0) (h1 : P 1) (h2 : P 2) (h3 : P 3) (h4 : P 4) (h5 : P 5) (h6 : P 6) (h7 : P 7) (h8 : P 8) (h9 : P 9) (h10 : P 10) (h11 : P 11) (h12 : P 12) (h13 : P 13) (h14 : P 14) (h15 : P 15) (h16 : P 16) : ∀ j, j < 17 → P j := fun j hj => by
  rcases j with _ | _ | _ | _ | _ | _ | _ | _ | _ | _ | _ | _ | _ | _ | _ | _ | _ | j
  · exact h0
  · exact h1
  · exact h2
  · exact h3
  · exact h4
  · exact h5
  · exact h6
  · exact h7
  · exact h8
  · exact h9
  · exact h10
  · exact h11
  · exact h12
  · exact h13
  · exact h14
  · exact h15
  · exact h16
  · omega
theorem q_total {x : XS} {μ : St} (hR : RX x μ) (p1 : Int32) : ∃ (r : Int32) (μ2 : St), fX3_total x p1 = some r ∧ fX4_total μ p1 = some (r, μ2) ∧ RX x μ2 := by
  obtain ⟨n, I, Bd, R⟩ := hR.1
  have hn := I.1
  unfold fX4_total
  rw [in_spec]
  by_cases h : p1 < 0 ∨ (16 : Int32) < p1
  · have ne := ne_out h
    rw [if_pos h]
    refine ⟨-2, up μ 0 0 0, ?_, rfl, thrown_ok hR⟩
    unfold fX3_total
    simp only [ne 15 (by decide) (by decide), ne 16 (by decide) (by decide), if_false, all_neg h, Option.bind_some]
  obtain ⟨j, hj, e⟩ := nI_of2 (x := p1) (M := 16) (n := 16) (by decide) (fun z => h (Or.inl z)) (Int32.not_lt.mp (fun z => h (Or.inr z)))
  rw [if_neg h, Option.bind_some, if_neg (by decide)]
  subst e
  clear h
  unfold fX3_total fX1_tellOfAll fX4_tellsTotal
  replace hj : j < 17 := by omega
  revert j
  refine lits17 ?_ ?_ ?_ ?_ ?_ ?_ ?_ ?_ ?_ ?_ ?_ ?_ ?_ ?_ ?_ ?_ ?_
  · have z9 := hn
    refine ⟨μ 1 0, up μ 0 0 0, ?_, ?_, thrown_ok hR⟩
    · show (if oob (0 : Int32) 5 then none else some (x.2.1 0 0) : Option Int32).bind (fun q3 => some q3) = some _
      rw [if_neg (show ¬ oob (0 : Int32) 5 from vp_in_nI (n := 0) (N := 5) (by decide) (by decide)), R.2.1 0 (by decide)]
      rfl
    · show (if oob (0 : Int32) 200 then none else some ((up μ 0 0 0) 1 0) : Option Int32).bind (fun r3 => some (r3, up μ 0 0 0)) = some (_, _)
      rw [if_neg (show ¬ oob (0 : Int32) 200 from vp_in_nI (n := 0) (N := 200) (by decide) (by decide))]
      rfl
  · have z9 := hn
    refine ⟨μ 1 1, up μ 0 0 0, ?_, ?_, thrown_ok hR⟩
    · show (if oob (1 : Int32) 5 then none else some (x.2.1 0 1) : Option Int32).bind (fun q3 => some q3) = some _
      rw [if_neg (show ¬ oob (1 : Int32) 5 from vp_in_nI (n := 1) (N := 5) (by decide) (by decide)), R.2.1 1 (by decide)]
      rfl
    · show (if oob (1 : Int32) 200 then none else some ((up μ 0 0 0) 1 1) : Option Int32).bind (fun r3 => some (r3, up μ 0 0 0)) = some (_, _)
      rw [if_neg (show ¬ oob (1 : Int32) 200 from vp_in_nI (n := 1) (N := 200) (by decide) (by decide))]
      rfl
  · have z9 := hn
    refine ⟨μ 1 2, up μ 0 0 0, ?_, ?_, thrown_ok hR⟩
    · show (if oob (2 : Int32) 5 then none else some (x.2.1 0 2) : Option Int32).bind (fun q3 => some q3) = some _
      rw [if_neg (show ¬ oob (2 : Int32) 5 from vp_in_nI (n := 2) (N := 5) (by decide) (by decide)), R.2.1 2 (by decide)]
      rfl
    · show (if oob (2 : Int32) 200 then none else some ((up μ 0 0 0) 1 2) : Option Int32).bind (fun r3 => some (r3, up μ 0 0 0)) = some (_, _)
      rw [if_neg (show ¬ oob (2 : Int32) 200 from vp_in_nI (n := 2) (N := 200) (by decide) (by decide))]
      rfl
  · have z9 := hn
    refine ⟨μ 1 3, up μ 0 0 0, ?_, ?_, thrown_ok hR⟩
    · show (if oob (3 : Int32) 5 then none else some (x.2.1 0 3) : Option Int32).bind (fun q3 => some q3) = some _
      rw [if_neg (show ¬ oob (3 : Int32) 5 from vp_in_nI (n := 3) (N := 5) (by decide) (by decide)), R.2.1 3 (by decide)]
      rfl
    · show (if oob (3 : Int32) 200 then none else some ((up μ 0 0 0) 1 3) : Option Int32).bind (fun r3 => some (r3, up μ 0 0 0)) = some (_, _)
      rw [if_neg (show ¬ oob (3 : Int32) 200 from vp_in_nI (n := 3) (N := 200) (by decide) (by decide))]
      rfl
  · have z9 := hn
    refine ⟨μ 1 4, up μ 0 0 0, ?_, ?_, thrown_ok hR⟩
    · show (if oob (4 : Int32) 5 then none else some (x.2.1 0 4) : Option Int32).bind (fun q3 => some q3) = some _
      rw [if_neg (show ¬ oob (4 : Int32) 5 from vp_in_nI (n := 4) (N := 5) (by decide) (by decide)), R.2.1 4 (by decide)]
      rfl
    · show (if oob (4 : Int32) 200 then none else some ((up μ 0 0 0) 1 4) : Option Int32).bind (fun r3 => some (r3, up μ 0 0 0)) = some (_, _)
      rw [if_neg (show ¬ oob (4 : Int32) 200 from vp_in_nI (n := 4) (N := 200) (by decide) (by decide))]
      rfl
  · have z9 := hn
    refine ⟨nI n, up μ 0 0 0, ?_, ?_, thrown_ok hR⟩
    · show (some (x.2.1 6 0) : Option Int32).bind (fun q3 => some q3) = some _
      rw [R.1]
      rfl
    · show (if oob (5 : Int32) 200 then none else some ((up μ 0 0 0) 1 5) : Option Int32).bind (fun r3 => some (r3, up μ 0 0 0)) = some (_, _)
      rw [if_neg (show ¬ oob (5 : Int32) 200 from vp_in_nI (n := 5) (N := 200) (by decide) (by decide)), show (up μ 0 0 0) 1 5 = nI n from I.2.1]
      rfl
  · have b1 := bitCount_mask (x := x.2.1 7 0) (c := fun j => decide (μ 1 (8 + 8 * j + 4) = 1)) hn (fun j hj => (R.2.2.2.2 j hj).1)
    have b2 : fX4_sumOf (up μ 0 0 0) 4 = some (nI (cnt (fun j => decide (μ 1 (8 + 8 * j + 4) = 1)) n)) := (sum4 (μ := up μ 0 0 0) (w := 4) I (by decide)).trans (congrArg some (fold_flag (s := μ 1) (w := 4) (fun i hi => (I.2.2.2.2.1 i (by omega)).1)))
    refine ⟨nI (cnt (fun j => decide (μ 1 (8 + 8 * j + 4) = 1)) n), up μ 0 0 0, ?_, ?_, thrown_ok hR⟩
    · show ((fJ6_bitCount_0f7a4 (x.2.1 7 0)).bind (fun r => some r)).bind (fun q3 => some q3) = some _
      rw [b1]
      rfl
    · show ((fX4_sumOf (up μ 0 0 0) 4).bind (fun r => some r)).bind (fun r3 => some (r3, up μ 0 0 0)) = some (_, _)
      rw [b2]
      rfl
  · have b1 := bitCount_mask (x := x.2.1 9 0) (c := fun j => decide (μ 1 (8 + 8 * j + 5) = 1)) hn (fun j hj => (R.2.2.2.2 j hj).2.1)
    have b2 : fX4_sumOf (up μ 0 0 0) 5 = some (nI (cnt (fun j => decide (μ 1 (8 + 8 * j + 5) = 1)) n)) := (sum4 (μ := up μ 0 0 0) (w := 5) I (by decide)).trans (congrArg some (fold_flag (s := μ 1) (w := 5) (fun i hi => (I.2.2.2.2.1 i (by omega)).2.1)))
    refine ⟨nI (cnt (fun j => decide (μ 1 (8 + 8 * j + 5) = 1)) n), up μ 0 0 0, ?_, ?_, thrown_ok hR⟩
    · show ((fJ6_bitCount_0f7a4 (x.2.1 9 0)).bind (fun r => some r)).bind (fun q3 => some q3) = some _
      rw [b1]
      rfl
    · show ((fX4_sumOf (up μ 0 0 0) 5).bind (fun r => some r)).bind (fun r3 => some (r3, up μ 0 0 0)) = some (_, _)
      rw [b2]
      rfl
  · have b1 := bitCount_mask (x := x.2.1 8 0) (c := fun j => decide (μ 1 (8 + 8 * j + 6) = 1)) hn (fun j hj => (R.2.2.2.2 j hj).2.2)
    have b2 : fX4_sumOf (up μ 0 0 0) 6 = some (nI (cnt (fun j => decide (μ 1 (8 + 8 * j + 6) = 1)) n)) := (sum4 (μ := up μ 0 0 0) (w := 6) I (by decide)).trans (congrArg some (fold_flag (s := μ 1) (w := 6) (fun i hi => (I.2.2.2.2.1 i (by omega)).2.2)))
    refine ⟨nI (cnt (fun j => decide (μ 1 (8 + 8 * j + 6) = 1)) n), up μ 0 0 0, ?_, ?_, thrown_ok hR⟩
    · show ((fJ6_bitCount_0f7a4 (x.2.1 8 0)).bind (fun r => some r)).bind (fun q3 => some q3) = some _
      rw [b1]
      rfl
    · show ((fX4_sumOf (up μ 0 0 0) 6).bind (fun r => some r)).bind (fun r3 => some (r3, up μ 0 0 0)) = some (_, _)
      rw [b2]
      rfl
  · have b1 := brokenX I R
    have b2 := broken4 (μ := up μ 0 0 0) I
    refine ⟨foldG (fun i (a : Int32) => if whB (μ 1) i then a else a + 1) n 0, up μ 0 0 0, ?_, ?_, thrown_ok hR⟩
    · show ((fX1_countBroken x.2.1).bind (fun r => some r)).bind (fun q3 => some q3) = some _
      rw [b1]
      rfl
    · show ((fX4_brokenMany (up μ 0 0 0)).bind (fun r => some r)).bind (fun r3 => some (r3, up μ 0 0 0)) = some (_, _)
      rw [b2]
      rfl
  · have z9 := hn
    refine ⟨μ 1 6, up μ 0 0 0, ?_, ?_, thrown_ok hR⟩
    · show (some (x.2.1 10 0) : Option Int32).bind (fun q3 => some q3) = some _
      rw [R.2.2.1]
      rfl
    · show (some ((up μ 0 0 0) 1 6) : Option Int32).bind (fun r3 => some (r3, up μ 0 0 0)) = some (_, _)
      rfl
  · have b1 := finesX I R
    have b2 := sum4 (μ := up μ 0 0 0) (w := 7) I (by decide)
    have b2 : fX4_sumOf (up μ 0 0 0) 7 = _ := b2
    refine ⟨foldG (fun i (a : Int32) => a + μ 1 (8 + 8 * i + 7)) n 0, up μ 0 0 0, ?_, ?_, thrown_ok hR⟩
    · show ((fX1_finesOfAll x.2.1).bind (fun r => some r)).bind (fun q3 => some q3) = some _
      rw [b1]
      rfl
    · show ((fX4_sumOf (up μ 0 0 0) 7).bind (fun r => some r)).bind (fun r3 => some (r3, up μ 0 0 0)) = some (_, _)
      rw [b2]
      rfl
  · have b1 := deepX I R
    have b2 := deep4 (μ := up μ 0 0 0) I
    refine ⟨foldG (fun i (a : Int32) => if a < nI (lenC (μ 1) 24 i) then nI (lenC (μ 1) 24 i) else a) n 0, up μ 0 0 0, ?_, ?_, thrown_ok hR⟩
    · show ((fX1_greatestDepth x.2.1).bind (fun r => some r)).bind (fun q3 => some q3) = some _
      rw [b1]
      rfl
    · show ((fX4_deepest (up μ 0 0 0)).bind (fun r => some r)).bind (fun r3 => some (r3, up μ 0 0 0)) = some (_, _)
      rw [b2]
      rfl
  · have b1 := endsX I R
    have b2 := ends4 (μ := up μ 0 0 0) I
    refine ⟨foldG (fun i (a : Int32) => if cnt (vc (μ 1) (nI i)) n = 0 then a + 1 else a) n 0, up μ 0 0 0, ?_, ?_, thrown_ok hR⟩
    · show ((fX1_countUnvouched x.2.1).bind (fun r => some r)).bind (fun q3 => some q3) = some _
      rw [b1]
      rfl
    · show ((fX4_ends (up μ 0 0 0)).bind (fun r => some r)).bind (fun r3 => some (r3, up μ 0 0 0)) = some (_, _)
      rw [b2]
      rfl
  · have b1 := foundX I R
    have b2 := found4 (μ := up μ 0 0 0) I
    refine ⟨foldG (fun i (a : Int32) => if μ 1 (8 + 8 * i + 4) = 1 then a + μ 1 (8 + 8 * i + 1) else a) n 0, up μ 0 0 0, ?_, ?_, thrown_ok hR⟩
    · show ((fX1_sacksFound x.2.1).bind (fun r => some r)).bind (fun q3 => some q3) = some _
      rw [b1]
      rfl
    · show ((fX4_found (up μ 0 0 0)).bind (fun r => some r)).bind (fun r3 => some (r3, up μ 0 0 0)) = some (_, _)
      rw [b2]
      rfl
  · have z9 := hn
    refine ⟨nI x.2.2.2.2.1.2.1, up μ 0 0 0, ?_, ?_, thrown_ok hR⟩
    · show some (nI x.2.2.2.2.1.2.1) = some _
      rfl
    · show (some ((up μ 0 0 0) 4 0) : Option Int32).bind (fun r3 => some (r3, up μ 0 0 0)) = some (_, _)
      rw [show (up μ 0 0 0) 4 0 = nI x.2.2.2.2.1.2.1 from hR.2.1.2.1]
      rfl
  · obtain ⟨L, hL, t1, t2, t3⟩ := hR.2.2.2
    refine ⟨nI L, up μ 0 0 0, ?_, ?_, thrown_ok hR⟩
    · show (fX2_length x.2.2.2.2.2).bind (fun q4 => some q4) = some _
      unfold fX2_length
      rw [t1]
      rfl
    · show (some ((up μ 0 0 0) 8 0) : Option Int32).bind (fun r3 => some (r3, up μ 0 0 0)) = some (_, _)
      rw [show (up μ 0 0 0) 8 0 = nI L from t2]
      rfl
