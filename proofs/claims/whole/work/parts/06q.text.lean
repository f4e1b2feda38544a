/-! PURE: the text, as both read it -/
/-- a digit at p -/
def dg (T : Nat → Int32) (L p : Nat) : Option Int32 := if p < L ∧ ¬ T p < 48 ∧ ¬ (57 : Int32) < T p then some (T p - 48) else none
/-- a number at p, not above m, and the place after it -/
def nm (T : Nat → Int32) (L : Nat) (m : Int32) (p : Nat) : Option (Int32 × Nat) := match dg T L p with
  | none => none
  | some d => if d = 0 then some (d, p + 1) else match dg T L (p + 1) with
    | none => some (d, p + 1)
    | some e => if (d * 10) + e ≤ m then some ((d * 10) + e, p + 2) else some (d, p + 1)
/-- the sign c at p -/
def sg (T : Nat → Int32) (L : Nat) (c : Int32) (p : Nat) : Bool := decide (p < L ∧ T p = c)
/-- an order: where it can't go on, or kind, three numbers, the place after it -/
abbrev OD := Sum Nat (Int32 × Int32 × Int32 × Int32 × Nat)
def odC (T : Nat → Int32) (L p : Nat) : OD := match nm T L 99 p with
  | none => .inl p
  | some (a, p1) => if sg T L 47 p1 then (match nm T L 99 (p1 + 1) with
    | none => .inl (p1 + 1)
    | some (b, p2) => if sg T L 62 p2 then (match nm T L 23 (p2 + 1) with
      | none => .inl (p2 + 1)
      | some (c, p3) => .inr (99, a, b, c, p3)) else .inr (99, a, b, -1, p2)) else .inl p1
def odO (T : Nat → Int32) (L : Nat) (k : Int32) (p : Nat) : OD := match nm T L 23 p with
  | none => .inl p
  | some (a, p1) => .inr (k, a, 0, 0, p1)
def odX (T : Nat → Int32) (L p : Nat) : OD := match nm T L 23 p with
  | none => .inl p
  | some (a, p1) => if sg T L 61 p1 then (match nm T L 99 (p1 + 1) with
    | none => .inl (p1 + 1)
    | some (b, p2) => .inr (120, a, b, 0, p2)) else .inl p1
def od (T : Nat → Int32) (L p : Nat) : OD := if sg T L 99 p then odC T L (p + 1) else if sg T L 111 p then odO T L 111 (p + 1) else if sg T L 115 p then odO T L 115 (p + 1) else if sg T L 120 p then odX T L (p + 1) else .inl p
theorem sg_lt {T : Nat → Int32} {L p : Nat} {c : Int32} (h : sg T L c p = true) : p < L := (of_decide_eq_true h).1
theorem dg_lt {T : Nat → Int32} {L p : Nat} {d : Int32} (h : dg T L p = some d) : p < L := by
  unfold dg at h
  by_cases z : p < L ∧ ¬ T p < 48 ∧ ¬ (57 : Int32) < T p
  · exact z.1
  · rw [if_neg z] at h
    cases h
theorem nm_le {T : Nat → Int32} {L p q : Nat} {m v : Int32} (h : nm T L m p = some (v, q)) : p < q ∧ q ≤ L := by
  unfold nm at h
  cases h1 : dg T L p with
  | none => rw [h1] at h; cases h
  | some d =>
    have hp := dg_lt h1
    rw [h1] at h
    by_cases z : d = 0
    · simp only [z, if_true, Option.some.injEq, Prod.mk.injEq] at h
      omega
    · simp only [z, if_false] at h
      cases h2 : dg T L (p + 1) with
      | none =>
        simp only [h2, Option.some.injEq, Prod.mk.injEq] at h
        omega
      | some e =>
        have hp2 := dg_lt h2
        simp only [h2] at h
        by_cases y : (d * 10) + e ≤ m
        · simp only [y, if_true, Option.some.injEq, Prod.mk.injEq] at h
          omega
        · simp only [y, if_false, Option.some.injEq, Prod.mk.injEq] at h
          omega
/-- an order takes two signs at least -/
theorem od_le {T : Nat → Int32} {L p q : Nat} {k a b c : Int32} (h : od T L p = .inr (k, a, b, c, q)) : p + 2 ≤ q ∧ q ≤ L := by
  have odO_le : ∀ {k' : Int32} {p : Nat}, odO T L k' p = .inr (k, a, b, c, q) → p + 1 ≤ q ∧ q ≤ L := by
    intro k' p h
    unfold odO at h
    cases h1 : nm T L 23 p with
    | none => rw [h1] at h; cases h
    | some x =>
      have := nm_le (v := x.1) (q := x.2) h1
      rw [h1] at h
      cases h
      omega
  unfold od at h
  by_cases s1 : sg T L 99 p = true
  · rw [if_pos s1] at h
    unfold odC at h
    cases h1 : nm T L 99 (p + 1) with
    | none => rw [h1] at h; cases h
    | some x =>
      have l1 := nm_le (v := x.1) (q := x.2) h1
      rw [h1] at h
      obtain ⟨x1, x2⟩ := x
      simp only at h l1
      by_cases s2 : sg T L 47 x2 = true
      · rw [if_pos s2] at h
        cases h2 : nm T L 99 (x2 + 1) with
        | none => rw [h2] at h; cases h
        | some y =>
          have l2 := nm_le (v := y.1) (q := y.2) h2
          rw [h2] at h
          obtain ⟨y1, y2⟩ := y
          simp only at h l2
          by_cases s3 : sg T L 62 y2 = true
          · rw [if_pos s3] at h
            cases h3 : nm T L 23 (y2 + 1) with
            | none => rw [h3] at h; cases h
            | some z =>
              have l3 := nm_le (v := z.1) (q := z.2) h3
              rw [h3] at h
              cases h
              omega
          · rw [if_neg s3] at h
            cases h
            omega
      · rw [if_neg s2] at h
        cases h
  · rw [if_neg s1] at h
    by_cases s2 : sg T L 111 p = true
    · rw [if_pos s2] at h
      have := odO_le h
      omega
    · rw [if_neg s2] at h
      by_cases s3 : sg T L 115 p = true
      · rw [if_pos s3] at h
        have := odO_le h
        omega
      · rw [if_neg s3] at h
        by_cases s4 : sg T L 120 p = true
        · rw [if_pos s4] at h
          unfold odX at h
          cases h1 : nm T L 23 (p + 1) with
          | none => rw [h1] at h; cases h
          | some x =>
            have l1 := nm_le (v := x.1) (q := x.2) h1
            rw [h1] at h
            obtain ⟨x1, x2⟩ := x
            simp only at h l1
            by_cases s5 : sg T L 61 x2 = true
            · rw [if_pos s5] at h
              cases h2 : nm T L 99 (x2 + 1) with
              | none => rw [h2] at h; cases h
              | some y =>
                have l2 := nm_le (v := y.1) (q := y.2) h2
                rw [h2] at h
                cases h
                omega
            · rw [if_neg s5] at h
              cases h
        · rw [if_neg s4] at h
          cases h
