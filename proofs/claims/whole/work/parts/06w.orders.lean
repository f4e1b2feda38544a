/-! PURE: all orders, as both read them -/
def ORD (T : Nat → Int32) (L : Nat) : Nat → List (Int32 × Int32 × Int32 × Int32) → Prop
  | _, [] => False
  | p, (k, a, e, d) :: l => ∃ q, od T L p = .inr (k, a, e, d, q) ∧ ((l = [] ∧ q = L) ∨ (sg T L 59 q = true ∧ ORD T L (q + 1) l))
/-- the table keeps the list from entry c on -/
def ENL (μ : St) : Nat → List (Int32 × Int32 × Int32 × Int32) → Prop
  | _, [] => True
  | c, (k, a, e, d) :: l => EN μ (4 * c) k a e d ∧ ENL μ (c + 1) l
theorem EN_HH {μ μ2 : St} {b b2 : Nat} {k a e d : Int32} (h : EN μ b k a e d) (hH : HH b2 μ μ2) (hb : b + 3 < b2) : EN μ2 b k a e d := by
  unfold EN at h ⊢
  rw [hH.2 b (by omega), hH.2 (b + 1) (by omega), hH.2 (b + 2) (by omega), hH.2 (b + 3) (by omega)]
  exact h
theorem HH.zero {b : Nat} {μ μ2 : St} (h : HH b μ μ2) : HH 0 μ μ2 := h.mono (Nat.zero_le b)
theorem od_inl {T : Nat → Int32} {L p q : Nat} (hp : p ≤ L) (h : od T L p = .inl q) : q ≤ L := by
  have odO_inl : ∀ {k' : Int32} {p : Nat}, p ≤ L → odO T L k' p = .inl q → q ≤ L := by
    intro k' p hp h
    unfold odO at h
    cases h1 : nm T L 23 p with
    | none => rw [h1] at h; cases h; exact hp
    | some x => rw [h1] at h; cases h
  unfold od at h
  by_cases s1 : sg T L 99 p = true
  · rw [if_pos s1] at h
    have l0 := sg_lt s1
    unfold odC at h
    cases h1 : nm T L 99 (p + 1) with
    | none => rw [h1] at h; cases h; exact l0
    | some x =>
      obtain ⟨x1, x2⟩ := x
      have l1 := nm_le h1
      rw [h1] at h
      simp only at h
      by_cases s2 : sg T L 47 x2 = true
      · rw [if_pos s2] at h
        have l2 := sg_lt s2
        cases h2 : nm T L 99 (x2 + 1) with
        | none => rw [h2] at h; cases h; exact l2
        | some y =>
          obtain ⟨y1, y2⟩ := y
          rw [h2] at h
          simp only at h
          by_cases s3 : sg T L 62 y2 = true
          · rw [if_pos s3] at h
            have l3 := sg_lt s3
            cases h3 : nm T L 23 (y2 + 1) with
            | none => rw [h3] at h; cases h; exact l3
            | some z => rw [h3] at h; cases h
          · rw [if_neg s3] at h
            cases h
      · rw [if_neg s2] at h
        cases h
        exact l1.2
  · rw [if_neg s1] at h
    by_cases s2 : sg T L 111 p = true
    · rw [if_pos s2] at h
      exact odO_inl (sg_lt s2) h
    · rw [if_neg s2] at h
      by_cases s3 : sg T L 115 p = true
      · rw [if_pos s3] at h
        exact odO_inl (sg_lt s3) h
      · rw [if_neg s3] at h
        by_cases s4 : sg T L 120 p = true
        · rw [if_pos s4] at h
          have l0 := sg_lt s4
          unfold odX at h
          cases h1 : nm T L 23 (p + 1) with
          | none => rw [h1] at h; cases h; exact l0
          | some x =>
            obtain ⟨x1, x2⟩ := x
            have l1 := nm_le h1
            rw [h1] at h
            simp only at h
            by_cases s5 : sg T L 61 x2 = true
            · rw [if_pos s5] at h
              have l2 := sg_lt s5
              cases h2 : nm T L 99 (x2 + 1) with
              | none => rw [h2] at h; cases h; exact l2
              | some y => rw [h2] at h; cases h
            · rw [if_neg s5] at h
              cases h
              exact l1.2
        · rw [if_neg s4] at h
          cases h
          exact hp
theorem orders_ok {T : Nat → Int32} {L : Nat} : ∀ (m f g c p : Nat) (u : Int32) (σ μ : St), L - p < m → m < f → m < g → p ≤ L → 3 * c ≤ p → TS T L p σ → MS T L p u μ → μ 12 0 = nI c →
    (∃ (q : Nat) (σ2 μ2 : St), q ≤ 60 ∧ fX2_countOrders_6 f σ (nI (c + 1)) = some (-1, σ2) ∧ TS T L q σ2 ∧ (fX4_readsOrder μ).bind (fX4_reads_14 g) = some (nI q, μ2) ∧ HH (4 * c) μ μ2) ∨
    (∃ (l : List (Int32 × Int32 × Int32 × Int32)) (σ2 μ2 : St), ORD T L p l ∧ c + l.length ≤ 20 ∧ fX2_countOrders_6 f σ (nI (c + 1)) = some (nI (c + l.length), σ2) ∧ TS T L L σ2 ∧ (fX4_readsOrder μ).bind (fX4_reads_14 g) = some (-5, μ2) ∧ HH (4 * c) μ μ2 ∧ μ2 12 0 = nI (c + l.length) ∧ ENL μ2 c l) := by
  intro m
  induction m with
  | zero => intro f g c p u σ μ h; omega
  | succ m ih =>
    intro f g c p u σ μ hm hf hg hp h3 hT hM hc
    have hL := hT.1
    obtain ⟨f, rfl⟩ : ∃ q, f = q + 1 := ⟨f - 1, by omega⟩
    obtain ⟨g, rfl⟩ : ∃ q, g = q + 1 := ⟨g - 1, by omega⟩
    have n60 : ¬ (60 : Int32) < nI (c + 1) := fun z => by have := (nI_ltI (a := 60) (by decide) (by omega)).mp z; omega
    have hr := ro_ok hT hp
    have hR := rO_ok (c := c) (by omega) hM hp hc
    rw [fX2_countOrders_6_s, if_neg n60]
    cases ho : od T L p with
    | inl q =>
      rw [ho] at hr hR
      obtain ⟨σ1, e1, t1⟩ := hr
      obtain ⟨μ1, e2, m1, g1⟩ := hR
      refine Or.inl ⟨q, σ1, μ1, ?_, ?_, t1, ?_, g1⟩
      · have := od_inl hp ho
        omega
      · rw [e1, Option.bind_some, if_pos rfl]
      · rw [e2, Option.bind_some, fX4_reads_14_s, if_pos m1.z, if_pos m1.z, m1.2.2.1]
    | inr y =>
      obtain ⟨k, a, e, d, q⟩ := y
      have lq := od_le ho
      rw [ho] at hr hR
      obtain ⟨σ1, e1, t1, -⟩ := hr
      obtain ⟨μ1, e2, m1, g1, c1, n1⟩ := hR
      have z1 : ¬ μ1 10 0 = 0 := by rw [m1.z]; decide
      simp only [e1, Option.bind_some, i10, if_false]
      rw [e2, Option.bind_some, fX4_reads_14_s, if_neg z1, m1.2.1, m1.2.2.1, t1.2.2.2, t1.2.2.1]
      by_cases hq : q = L
      · subst hq
        refine Or.inr ⟨[(k, a, e, d)], σ1, μ1, ⟨q, ho, Or.inl ⟨rfl, rfl⟩⟩, by simp; omega, ?_, t1, ?_, g1, c1, n1, trivial⟩
        · rw [if_pos rfl]
          rfl
        · rw [if_pos (le_rf _), if_neg z1]
      · have nq : ¬ nI q = nI L := fun z => hq (nI_inj (by omega) (by omega) z)
        have nl : ¬ nI L ≤ nI q := fun z => by have := (nI_leI (by omega) (by omega)).mp z; omega
        rw [if_neg nq, takes_eq t1 lq.2, Option.bind_some, if_neg nl]
        obtain ⟨μ2, e3, f3, m3⟩ := wants_good (c := 59) m1 lq.2 (by decide)
        rw [e3, Option.bind_some]
        by_cases s : sg T L 59 q = true
        · rw [if_pos s] at m3
          have t2 := t1.go (q + 1)
          have z3 : ¬ μ2 10 0 = 0 := by rw [m3.z]; decide
          have c2 : μ2 12 0 = nI (c + 1) := by rw [f3 12 (by decide) (by decide)]; exact c1
          have r := ih f g (c + 1) (q + 1) 1 (up σ1 2 0 (nI (q + 1))) μ2 (by omega) (by omega) (by omega) (sg_lt s) (by omega) t2 m3 c2
          simp only [s, if_true, i10, if_false]
          rw [if_neg z3, nI_1]
          have g3 : HH (4 * c) μ μ2 := g1.trans (HH.of (GG.of f3))
          rcases r with ⟨q2, σ3, μ3, b1, b2, b3, b4, b5⟩ | ⟨l, σ3, μ3, b0, b1, b2, b3, b4, b5, b6, b7⟩
          · exact Or.inl ⟨q2, σ3, μ3, b1, b2, b3, b4, g3.trans (b5.mono (by omega))⟩
          · refine Or.inr ⟨(k, a, e, d) :: l, σ3, μ3, ⟨q, ho, Or.inr ⟨s, b0⟩⟩, by simp; omega, ?_, b3, b4, g3.trans (b5.mono (by omega)), ?_, ?_, b7⟩
            · rw [b2]
              simp only [List.length_cons]
              rw [show c + 1 + l.length = c + (l.length + 1) by omega]
            · rw [b6]
              simp only [List.length_cons]
              rw [show c + 1 + l.length = c + (l.length + 1) by omega]
            · have n2 : EN μ2 (4 * c) k a e d := by
                unfold EN at n1 ⊢
                rw [f3 11 (by decide) (by decide)]
                exact n1
              exact EN_HH n2 b5 (by omega)
        · rw [if_neg s] at m3
          simp only [s, if_false, Bool.false_eq_true, if_true]
          refine Or.inl ⟨q, σ1, μ2, by omega, rfl, t1, ?_, g1.trans (HH.of (GG.of f3))⟩
          rw [if_pos m3.z]
          obtain ⟨g, rfl⟩ : ∃ q, g = q + 1 := ⟨g - 1, by omega⟩
          rw [fX4_reads_14_s, if_pos m3.z, if_pos m3.z, m3.2.2.1]
