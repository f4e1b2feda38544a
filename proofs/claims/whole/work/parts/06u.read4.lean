/-! PURE: the reference reads an order -/
/-- the table of orders stays below b, all but place and flag stays -/
def GG (b : Nat) (μ μ2 : St) : Prop := (∀ a, a ≠ 9 → a ≠ 10 → a ≠ 11 → μ2 a = μ a) ∧ ∀ i, i < b → μ2 11 i = μ 11 i
theorem GG.of {b : Nat} {μ μ2 : St} (h : FR μ μ2) : GG b μ μ2 := ⟨fun a h9 h10 _ => h a h9 h10, fun i _ => by rw [h 11 (by decide) (by decide)]⟩
theorem GG.trans {b : Nat} {μ μ2 μ3 : St} (h : GG b μ μ2) (h2 : GG b μ2 μ3) : GG b μ μ3 := ⟨fun a h9 h10 h11 => (h2.1 a h9 h10 h11).trans (h.1 a h9 h10 h11), fun i hi => (h2.2 i hi).trans (h.2 i hi)⟩
theorem GG.mono {b c : Nat} {μ μ2 : St} (h : GG b μ μ2) (hc : c ≤ b) : GG c μ μ2 := ⟨h.1, fun i hi => h.2 i (by omega)⟩
theorem GG.slot {b i : Nat} {v : Int32} {μ : St} (h : b ≤ i) : GG b μ (up μ 11 i v) := ⟨fun a _ _ h11 => up_n h11, fun j hj => by rw [up_s, upd_n (by omega)]⟩
def KC2 (σ : St) (b : Int32) : Option St := if (σ 10 0) = 0 then (some σ) else ((fX4_sign σ).bind (fun r13 => if r13 = 62 then ((fX4_number (up σ 9 0 ((σ 9 0) + 1)) 23).bind (fun q17 => if oob (b + 3) 96 then none else some (up q17.2 11 (b + 3).toNatClampNeg q17.1))) else (some σ)))
def KC1 (σ : St) (b : Int32) : Option St := (fX4_wants σ 47).bind (fun σ6 => (fX4_number σ6 99).bind (fun q9 => if oob (b + 2) 96 then none else if oob (b + 3) 96 then none else KC2 (up (up q9.2 11 (b + 2).toNatClampNeg q9.1) 11 (b + 3).toNatClampNeg (-1)) b))
theorem readsCart_eq {σ : St} {b : Int32} : fX4_readsCart σ b = (fX4_number σ 99).bind (fun q3 => if oob (b + 1) 96 then none else KC1 (up q3.2 11 (b + 1).toNatClampNeg q3.1) b) := rfl
theorem nI_p {b k : Nat} : nI b + nI k = nI (b + k) := nI_add b k
theorem KC2_bad {T : Nat → Int32} {L p : Nat} {σ : St} {b : Int32} (h : MS T L p 0 σ) : KC2 σ b = some σ := by
  unfold KC2
  rw [if_pos h.2.2.2.1]
theorem KC1_bad {T : Nat → Int32} {L p b : Nat} {σ : St} (h : MS T L p 0 σ) (hp : p ≤ L) (hb : b + 3 < 96) : ∃ μ2, KC1 σ (nI b) = some μ2 ∧ MS T L p 0 μ2 ∧ GG (b + 2) σ μ2 := by
  obtain ⟨μ1, e1, f1, m1⟩ := wants_bad (c := 47) h
  obtain ⟨v, μ2, e2, f2, m2⟩ := number_bad (m := 99) m1 hp
  have m3 : MS T L p 0 (up (up μ2 11 (b + 2) v) 11 (b + 3) (-1)) := (m2.slot (by decide)).slot (by decide)
  refine ⟨up (up μ2 11 (b + 2) v) 11 (b + 3) (-1), ?_, m3, ((GG.of (f1.trans f2)).trans (GG.slot (by omega))).trans (GG.slot (by omega))⟩
  unfold KC1
  rw [e1, Option.bind_some, e2, Option.bind_some, show nI b + 2 = nI (b + 2) from nI_p (k := 2), show nI b + 3 = nI (b + 3) from nI_p (k := 3), if_neg (vp_in_nI (by omega) (by decide)), if_neg (vp_in_nI (by omega) (by decide)), cl (by omega), cl (by omega)]
  exact KC2_bad m3
theorem MS.step {T : Nat → Int32} {L p : Nat} {g : Int32} {μ : St} (h : MS T L p g μ) : MS T L (p + 1) g (up μ 9 0 (μ 9 0 + 1)) := by
  obtain ⟨h1, h2, h3, h4, h5⟩ := h
  refine ⟨h1, by rw [up_n (by decide)]; exact h2, ?_, by rw [up_n (by decide)]; exact h4, fun i hi => by rw [up_n (by decide)]; exact h5 i hi⟩
  rw [up_s, upd_s, h3, nI_1]
theorem rC_ok {T : Nat → Int32} {L p b : Nat} {μ : St} (h : MS T L p 1 μ) (hp : p ≤ L) (hb : b + 3 < 96) : match odC T L p with
    | .inl q => ∃ μ2, fX4_readsCart μ (nI b) = some μ2 ∧ MS T L q 0 μ2 ∧ GG (b + 1) μ μ2
    | .inr (k, a, e, d, q) => ∃ μ2, fX4_readsCart μ (nI b) = some μ2 ∧ MS T L q 1 μ2 ∧ GG (b + 1) μ μ2 ∧ k = 99 ∧ μ2 11 (b + 1) = a ∧ μ2 11 (b + 2) = e ∧ μ2 11 (b + 3) = d := by
  obtain ⟨v1, μ1, e1, f1, m1⟩ := number_good (m := 99) h hp
  rw [readsCart_eq, e1, Option.bind_some, show nI b + 1 = nI (b + 1) from nI_p (k := 1), if_neg (vp_in_nI (by omega) (by decide)), cl (by omega)]
  unfold odC
  cases h1 : nm T L 99 p with
  | none =>
    rw [h1] at m1
    obtain ⟨μ2, e2, m2, g2⟩ := KC1_bad (b := b) (m1.slot (k := 11) (i := b + 1) (v := v1) (by decide)) hp hb
    exact ⟨μ2, e2, m2, ((GG.of f1).trans (GG.slot (by omega))).trans (g2.mono (by omega))⟩
  | some x =>
    obtain ⟨a, p1⟩ := x
    have l1 := nm_le h1
    rw [h1] at m1
    obtain ⟨rfl, m1⟩ := m1
    have t1 : MS T L p1 1 (up μ1 11 (b + 1) v1) := m1.slot (by decide)
    obtain ⟨μ2, e2, f2, m2⟩ := wants_good (c := 47) t1 l1.2 (by decide)
    have o2 : ¬ oob (nI (b + 2)) 96 := vp_in_nI (by omega) (by decide)
    have o3 : ¬ oob (nI (b + 3)) 96 := vp_in_nI (by omega) (by decide)
    unfold KC1
    rw [e2, Option.bind_some, show nI b + 2 = nI (b + 2) from nI_p (k := 2), show nI b + 3 = nI (b + 3) from nI_p (k := 3)]
    simp only [o2, o3, if_false, cl (show b + 2 < 2 ^ 31 by omega), cl (show b + 3 < 2 ^ 31 by omega)]
    by_cases s2 : sg T L 47 p1 = true
    · rw [if_pos s2] at m2
      have hp2 := sg_lt s2
      obtain ⟨v2, μ3, e3, f3, m3⟩ := number_good (m := 99) m2 hp2
      rw [e3, Option.bind_some]
      simp only [s2, if_true]
      have g3 : GG (b + 1) μ μ3 := ((GG.of f1).trans (GG.slot (by omega))).trans (GG.of (f2.trans f3))
      have e31 : μ3 11 (b + 1) = v1 := by rw [f3 11 (by decide) (by decide), f2 11 (by decide) (by decide), up_s, upd_s]
      cases h2 : nm T L 99 (p1 + 1) with
      | none =>
        rw [h2] at m3
        have m4 : MS T L (p1 + 1) 0 (up (up μ3 11 (b + 2) v2) 11 (b + 3) (-1)) := (m3.slot (by decide)).slot (by decide)
        exact ⟨_, KC2_bad m4, m4, (g3.trans (GG.slot (by omega))).trans (GG.slot (by omega))⟩
      | some y =>
        obtain ⟨e, p2⟩ := y
        have l2 := nm_le h2
        rw [h2] at m3
        obtain ⟨rfl, m3⟩ := m3
        have m4 : MS T L p2 1 (up (up μ3 11 (b + 2) v2) 11 (b + 3) (-1)) := (m3.slot (by decide)).slot (by decide)
        have g4 : GG (b + 1) μ (up (up μ3 11 (b + 2) v2) 11 (b + 3) (-1)) := (g3.trans (GG.slot (by omega))).trans (GG.slot (by omega))
        have n4 : ¬ (up (up μ3 11 (b + 2) v2) 11 (b + 3) (-1)) 10 0 = 0 := by rw [m4.2.2.2.1]; decide
        unfold KC2
        rw [if_neg n4, sign4 m4 l2.2, Option.bind_some]
        simp only [sg_if (T := T) (L := L) (p := p2) (c := 62) (by decide)]
        by_cases s3 : sg T L 62 p2 = true
        · have hp3 := sg_lt s3
          obtain ⟨v3, μ5, e5, f5, m5⟩ := number_good (m := 23) m4.step hp3
          rw [if_pos s3, e5, Option.bind_some, show nI b + 3 = nI (b + 3) from nI_p (k := 3), if_neg o3, cl (by omega)]
          simp only [s3, if_true]
          have g5 : GG (b + 1) μ μ5 := (g4.trans (GG.of (fun a h9 _ => up_n h9))).trans (GG.of f5)
          cases h3 : nm T L 23 (p2 + 1) with
          | none =>
            rw [h3] at m5
            exact ⟨_, rfl, m5.slot (by decide), g5.trans (GG.slot (by omega))⟩
          | some z =>
            obtain ⟨d, p3⟩ := z
            rw [h3] at m5
            obtain ⟨rfl, m5⟩ := m5
            have e11 : μ5 11 = (up (up μ3 11 (b + 2) v2) 11 (b + 3) (-1)) 11 := by rw [f5 11 (by decide) (by decide), up_n (by decide)]
            refine ⟨_, rfl, m5.slot (by decide), g5.trans (GG.slot (by omega)), rfl, ?_, ?_, ?_⟩
            · rw [up_s, upd_n (by omega), e11, up_s, upd_n (by omega), up_s, upd_n (by omega), e31]
            · rw [up_s, upd_n (by omega), e11, up_s, upd_n (by omega), up_s, upd_s]
            · rw [up_s, upd_s]
        · rw [if_neg s3]
          simp only [s3, if_false, Bool.false_eq_true]
          refine ⟨_, rfl, m4, g4, trivial, ?_, ?_, ?_⟩
          · rw [up_s, upd_n (by omega), up_s, upd_n (by omega), e31]
          · rw [up_s, upd_n (by omega), up_s, upd_s]
          · rw [up_s, upd_s]
    · rw [if_neg s2] at m2
      obtain ⟨v2, μ3, e3, f3, m3⟩ := number_bad (m := 99) m2 l1.2
      rw [e3, Option.bind_some]
      simp only [s2, if_false, Bool.false_eq_true]
      have m4 : MS T L p1 0 (up (up μ3 11 (b + 2) v2) 11 (b + 3) (-1)) := (m3.slot (by decide)).slot (by decide)
      exact ⟨_, KC2_bad m4, m4, ((((GG.of f1).trans (GG.slot (by omega))).trans (GG.of (f2.trans f3))).trans (GG.slot (by omega))).trans (GG.slot (by omega))⟩
