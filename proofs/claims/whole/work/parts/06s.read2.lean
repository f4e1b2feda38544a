/-! PURE: the class reads a whole order -/
theorem kind_eq {T : Nat → Int32} {L p : Nat} {σ : St} (h : TS T L p σ) (hp : p ≤ L) {c : Int32} (hc : isC c) : fX2_takesKind σ c = some (if sg T L c p then (1, up (up σ 2 0 (nI (p + 1))) 3 0 c) else (0, σ)) := by
  unfold fX2_takesKind
  rw [takes_eq h hp, Option.bind_some]
  cases sg T L c p
  · simp only [Bool.false_eq_true, if_false, if_true]
  · simp only [if_true, i10, if_false, if_neg (fun z : ¬ isC c => z hc)]
def FL (σ : St) (k a b c : Int32) : Prop := σ 3 0 = k ∧ ((k = 99 ∧ σ 5 0 = a ∧ σ 6 0 = b ∧ σ 4 0 = c) ∨ ((k = 111 ∨ k = 115) ∧ σ 4 0 = a) ∨ (k = 120 ∧ σ 4 0 = a ∧ σ 5 0 = b))
theorem ro_ok {T : Nat → Int32} {L p : Nat} {σ : St} (h : TS T L p σ) (hp : p ≤ L) : match od T L p with
    | .inl q => ∃ σ2, fX2_readOrder σ = some (0, σ2) ∧ TS T L q σ2
    | .inr (k, a, b, c, q) => ∃ σ2, fX2_readOrder σ = some (1, σ2) ∧ TS T L q σ2 ∧ FL σ2 k a b c := by
  have ta : TS T L p (up σ 4 0 (-1)) := h.field (by decide)
  unfold fX2_readOrder od
  rw [kind_eq ta hp (c := 99) (by decide), Option.bind_some]
  by_cases s1 : sg T L 99 p = true
  · have t1 : TS T L (p + 1) (up (up (up σ 4 0 (-1)) 2 0 (nI (p + 1))) 3 0 99) := (ta.go (p + 1)).field (by decide)
    have hp1 := sg_lt s1
    simp only [s1, if_true, i10, if_false]
    rw [claim_eq t1 hp1]
    unfold odC
    cases h1 : nm T L 99 (p + 1) with
    | none => exact ⟨_, rfl, t1.field (by decide)⟩
    | some x =>
      obtain ⟨a, p1⟩ := x
      have l1 := nm_le h1
      have t2 := (t1.go p1).field (k := 5) (v := a) (by decide)
      simp only [Option.bind_some, i10, if_false]
      rw [takes_eq t2 l1.2, Option.bind_some]
      by_cases s2 : sg T L 47 p1 = true
      · have t3 := t2.go (p1 + 1)
        have hp2 := sg_lt s2
        simp only [s2, if_true, i10, if_false]
        rw [load_eq t3 hp2]
        cases h2 : nm T L 99 (p1 + 1) with
        | none => exact ⟨_, rfl, t3.field (by decide)⟩
        | some y =>
          obtain ⟨b, p2⟩ := y
          have l2 := nm_le h2
          have t4 := (t3.go p2).field (k := 6) (v := b) (by decide)
          simp only [Option.bind_some, i10, if_false]
          rw [takes_eq t4 l2.2, Option.bind_some]
          by_cases s3 : sg T L 62 p2 = true
          · have t5 := t4.go (p2 + 1)
            have hp3 := sg_lt s3
            simp only [s3, if_true, i10, if_false]
            rw [cartn_eq t5 hp3]
            cases h3 : nm T L 23 (p2 + 1) with
            | none => exact ⟨_, rfl, t5.field (by decide)⟩
            | some z =>
              obtain ⟨c, p3⟩ := z
              refine ⟨_, rfl, (t5.go p3).field (k := 4) (v := c) (by decide), ?_, Or.inl ⟨rfl, ?_, ?_, ?_⟩⟩
              all_goals simp (disch := omega) only [up_s, up_n, upd_s]
          · simp only [s3, if_false, Bool.false_eq_true, if_true]
            refine ⟨_, rfl, t4, ?_, Or.inl ⟨rfl, ?_, ?_, ?_⟩⟩
            all_goals simp (disch := omega) only [up_s, up_n, upd_s]
      · simp only [s2, if_false, Bool.false_eq_true, if_true]
        exact ⟨_, rfl, t2⟩
  · simp only [s1, if_false, Bool.false_eq_true, if_true]
    rw [kind_eq ta hp (c := 111) (by decide), Option.bind_some]
    by_cases s2 : sg T L 111 p = true
    · have t1 : TS T L (p + 1) (up (up (up σ 4 0 (-1)) 2 0 (nI (p + 1))) 3 0 111) := (ta.go (p + 1)).field (by decide)
      have hp1 := sg_lt s2
      simp only [s2, if_true, i10, if_false]
      rw [cartn_eq t1 hp1]
      unfold odO
      cases h1 : nm T L 23 (p + 1) with
      | none => exact ⟨_, rfl, t1.field (by decide)⟩
      | some x =>
        obtain ⟨a, p1⟩ := x
        refine ⟨_, rfl, (t1.go p1).field (k := 4) (v := a) (by decide), ?_, Or.inr (Or.inl ⟨Or.inl rfl, ?_⟩)⟩
        all_goals simp (disch := omega) only [up_s, up_n, upd_s]
    · simp only [s2, if_false, Bool.false_eq_true, if_true]
      rw [kind_eq ta hp (c := 115) (by decide), Option.bind_some]
      by_cases s3 : sg T L 115 p = true
      · have t1 : TS T L (p + 1) (up (up (up σ 4 0 (-1)) 2 0 (nI (p + 1))) 3 0 115) := (ta.go (p + 1)).field (by decide)
        have hp1 := sg_lt s3
        simp only [s3, if_true, i10, if_false]
        rw [cartn_eq t1 hp1]
        unfold odO
        cases h1 : nm T L 23 (p + 1) with
        | none => exact ⟨_, rfl, t1.field (by decide)⟩
        | some x =>
          obtain ⟨a, p1⟩ := x
          refine ⟨_, rfl, (t1.go p1).field (k := 4) (v := a) (by decide), ?_, Or.inr (Or.inl ⟨Or.inr rfl, ?_⟩)⟩
          all_goals simp (disch := omega) only [up_s, up_n, upd_s]
      · simp only [s3, if_false, Bool.false_eq_true, if_true]
        rw [kind_eq ta hp (c := 120) (by decide), Option.bind_some]
        by_cases s4 : sg T L 120 p = true
        · have t1 : TS T L (p + 1) (up (up (up σ 4 0 (-1)) 2 0 (nI (p + 1))) 3 0 120) := (ta.go (p + 1)).field (by decide)
          have hp1 := sg_lt s4
          simp only [s4, if_true, i10, if_false]
          rw [cartn_eq t1 hp1]
          unfold odX
          cases h1 : nm T L 23 (p + 1) with
          | none => exact ⟨_, rfl, t1.field (by decide)⟩
          | some x =>
            obtain ⟨a, p1⟩ := x
            have l1 := nm_le h1
            have t2 := (t1.go p1).field (k := 4) (v := a) (by decide)
            simp only [Option.bind_some, i10, if_false]
            rw [takes_eq t2 l1.2, Option.bind_some]
            by_cases s5 : sg T L 61 p1 = true
            · have t3 := t2.go (p1 + 1)
              have hp2 := sg_lt s5
              simp only [s5, if_true, i10, if_false]
              rw [claim_eq t3 hp2]
              cases h2 : nm T L 99 (p1 + 1) with
              | none => exact ⟨_, rfl, t3.field (by decide)⟩
              | some y =>
                obtain ⟨b, p2⟩ := y
                refine ⟨_, rfl, (t3.go p2).field (k := 5) (v := b) (by decide), ?_, Or.inr (Or.inr ⟨rfl, ?_, ?_⟩)⟩
                all_goals simp (disch := omega) only [up_s, up_n, upd_s]
            · simp only [s5, if_false, Bool.false_eq_true, if_true]
              exact ⟨_, rfl, t2⟩
        · simp only [s4, if_false, Bool.false_eq_true, if_true]
          exact ⟨_, rfl, ta⟩
