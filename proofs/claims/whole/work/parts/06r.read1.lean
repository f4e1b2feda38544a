/-! PURE: the class reads an order -/
theorem up_up {σ : St} {k i : Nat} {v w : Int32} : up (up σ k i v) k i w = up σ k i w := by
  funext a
  by_cases h : a = k
  · subst h
    rw [up_s, up_s, up_s, upd_upd]
  · rw [up_n h, up_n h, up_n h]
def TS (T : Nat → Int32) (L p : Nat) (σ : St) : Prop := L ≤ 60 ∧ σ 0 = T ∧ σ 1 0 = nI L ∧ σ 2 0 = nI p
theorem TS.go {T : Nat → Int32} {L p : Nat} {σ : St} (h : TS T L p σ) (q : Nat) : TS T L q (up σ 2 0 (nI q)) := ⟨h.1, by rw [up_n (by decide)]; exact h.2.1, by rw [up_n (by decide)]; exact h.2.2.1, by rw [up_s, upd_s]⟩
theorem TS.field {T : Nat → Int32} {L p k : Nat} {σ : St} {v : Int32} (h : TS T L p σ) (hk : 3 ≤ k) : TS T L p (up σ k 0 v) := ⟨h.1, by rw [up_n (by omega)]; exact h.2.1, by rw [up_n (by omega)]; exact h.2.2.1, by rw [up_n (by omega)]; exact h.2.2.2⟩
theorem dg_val {T : Nat → Int32} {L p : Nat} {d : Int32} (h : dg T L p = some d) : ∃ j, j ≤ 9 ∧ d = nI j ∧ T p = nI (j + 48) ∧ p < L := by
  unfold dg at h
  by_cases z : p < L ∧ ¬ T p < 48 ∧ ¬ (57 : Int32) < T p
  · rw [if_pos z] at h
    have hd : T p - 48 = d := Option.some.inj h
    obtain ⟨z1, z2, z3⟩ := z
    have h0 : ¬ T p < 0 := fun y => z2 (Int32.lt_trans y (by decide))
    obtain ⟨w, hw, e⟩ := nI_of2 (x := T p) (M := 57) (n := 57) (by decide) h0 (Int32.not_lt.mp z3)
    have h48 : 48 ≤ w := by
      have y := Int32.not_lt.mp z2
      rw [e] at y
      exact (nI_leI (a := 48) (by decide) (by omega)).mp y
    refine ⟨w - 48, by omega, ?_, ?_, z1⟩
    · rw [← hd, e]
      exact pk_sub h48
    · rw [e]
      exact congrArg nI (by omega)
  · rw [if_neg z] at h
    cases h
theorem dg_m1 {T : Nat → Int32} {L p : Nat} {d : Int32} (h : dg T L p = some d) : ¬ d = -1 := by
  obtain ⟨j, hj, e, -⟩ := dg_val h
  rw [e]
  exact nI_m1 (by omega)
theorem here_eq {T : Nat → Int32} {L p : Nat} {σ : St} (h : TS T L p σ) (hp : p ≤ L) : fX2_digitHere σ = some (match dg T L p with
    | none => -1
    | some d => d) := by
  obtain ⟨hL, h0, h1, h2⟩ := h
  unfold fX2_digitHere dg
  rw [h0, h1, h2]
  by_cases hpL : p < L
  · rw [if_pos (nI_lt hpL (by omega)), if_neg (vp_in_nI (by omega) (by decide)), cl (by omega)]
    by_cases z1 : T p < 48
    · rw [if_pos z1, if_neg (fun z => z.2.1 z1)]
    · rw [if_neg z1]
      by_cases z2 : (57 : Int32) < T p
      · rw [if_pos z2, if_neg (fun z => z.2.2 z2)]
      · rw [if_neg z2, if_pos ⟨hpL, z1, z2⟩]
  · rw [if_neg (fun z => hpL ((nI_ltI (by omega) (by omega)).mp z)), if_neg (fun z => hpL z.1)]
theorem number_eq {T : Nat → Int32} {L p : Nat} {σ : St} (h : TS T L p σ) (hp : p ≤ L) (m : Int32) : fX2_takeNumber σ m = some (match nm T L m p with
    | none => (-1, σ)
    | some (v, q) => (v, up σ 2 0 (nI q))) := by
  unfold fX2_takeNumber nm
  rw [here_eq h hp, h.2.2.2, nI_1]
  cases h1 : dg T L p with
  | none => rfl
  | some d =>
    have hpL := dg_lt h1
    have t1 := h.go (p + 1)
    have e1 : up σ 2 0 (nI (p + 1)) 2 0 + 1 = nI (p + 2) := by rw [up_s, upd_s, nI_1]
    simp only [Option.bind_some, dg_m1 h1, if_false, here_eq t1 hpL, e1, up_up]
    by_cases z : d = 0
    · simp only [z, if_true]
    · simp only [z, if_false]
      cases h2 : dg T L (p + 1) with
      | none => rfl
      | some e =>
        simp only [dg_m1 h2, if_false]
        by_cases y : (d * 10) + e ≤ m
        · simp only [y, if_true]
        · simp only [y, if_false]
theorem takes_eq {T : Nat → Int32} {L p : Nat} {σ : St} (h : TS T L p σ) (hp : p ≤ L) (c : Int32) : fX2_takes σ c = some (if sg T L c p then (1, up σ 2 0 (nI (p + 1))) else (0, σ)) := by
  obtain ⟨hL, h0, h1, h2⟩ := h
  unfold fX2_takes sg
  rw [h0, h1, h2, nI_1]
  by_cases hpL : p < L
  · rw [if_neg (fun z => by have := (nI_leI (by omega) (by omega)).mp z; omega), if_neg (vp_in_nI (by omega) (by decide)), cl (by omega)]
    by_cases z : T p = c
    · rw [if_pos z, if_pos (decide_eq_true ⟨hpL, z⟩)]
    · rw [if_neg z, if_neg (by rw [decide_eq_false (fun y => z y.2)]; decide)]
  · rw [if_pos ((nI_leI (by omega) (by omega)).mpr (by omega)), if_neg (by rw [decide_eq_false (fun y => hpL y.1)]; decide)]
theorem nm_val {T : Nat → Int32} {L p q : Nat} {m v : Int32} (h : nm T L m p = some (v, q)) : ∃ j, j ≤ 99 ∧ v = nI j := by
  unfold nm at h
  cases h1 : dg T L p with
  | none => rw [h1] at h; cases h
  | some d =>
    obtain ⟨j, hj, ej, -⟩ := dg_val h1
    rw [h1] at h
    by_cases z : d = 0
    · simp only [z, if_true, Option.some.injEq, Prod.mk.injEq] at h
      exact ⟨0, by decide, h.1.symm⟩
    · simp only [z, if_false] at h
      cases h2 : dg T L (p + 1) with
      | none =>
        simp only [h2, Option.some.injEq, Prod.mk.injEq] at h
        exact ⟨j, by omega, by rw [← h.1, ej]⟩
      | some e =>
        obtain ⟨i, hi, ei, -⟩ := dg_val h2
        simp only [h2] at h
        by_cases y : (d * 10) + e ≤ m
        · simp only [y, if_true, Option.some.injEq, Prod.mk.injEq] at h
          refine ⟨j * 10 + i, by omega, ?_⟩
          rw [← h.1, ej, ei, show (10 : Int32) = nI 10 from rfl, pk_mul, nI_add]
        · simp only [y, if_false, Option.some.injEq, Prod.mk.injEq] at h
          exact ⟨j, by omega, by rw [← h.1, ej]⟩
theorem nm_m1 {T : Nat → Int32} {L p q : Nat} {m v : Int32} (h : nm T L m p = some (v, q)) : ¬ v = -1 := by
  obtain ⟨j, hj, e⟩ := nm_val h
  rw [e]
  exact nI_m1 (by omega)
theorem claim_eq {T : Nat → Int32} {L p : Nat} {σ : St} (h : TS T L p σ) (hp : p ≤ L) : fX2_readClaim σ = some (match nm T L 99 p with
    | none => (0, up σ 5 0 (-1))
    | some (v, q) => (1, up (up σ 2 0 (nI q)) 5 0 v)) := by
  unfold fX2_readClaim
  rw [number_eq h hp]
  cases h1 : nm T L 99 p with
  | none => simp only [Option.bind_some, up_s, upd_s, if_true]
  | some x => simp only [Option.bind_some, up_s, upd_s, nm_m1 (v := x.1) (q := x.2) h1, if_false]
theorem load_eq {T : Nat → Int32} {L p : Nat} {σ : St} (h : TS T L p σ) (hp : p ≤ L) : fX2_readLoad σ = some (match nm T L 99 p with
    | none => (0, up σ 6 0 (-1))
    | some (v, q) => (1, up (up σ 2 0 (nI q)) 6 0 v)) := by
  unfold fX2_readLoad
  rw [number_eq h hp]
  cases h1 : nm T L 99 p with
  | none => simp only [Option.bind_some, up_s, upd_s, if_true]
  | some x => simp only [Option.bind_some, up_s, upd_s, nm_m1 (v := x.1) (q := x.2) h1, if_false]
theorem cartn_eq {T : Nat → Int32} {L p : Nat} {σ : St} (h : TS T L p σ) (hp : p ≤ L) : fX2_readCart σ = some (match nm T L 23 p with
    | none => (0, up σ 4 0 (-1))
    | some (v, q) => (1, up (up σ 2 0 (nI q)) 4 0 v)) := by
  unfold fX2_readCart
  rw [number_eq h hp]
  cases h1 : nm T L 23 p with
  | none => simp only [Option.bind_some, up_s, upd_s, if_true]
  | some x => simp only [Option.bind_some, up_s, upd_s, nm_m1 (v := x.1) (q := x.2) h1, if_false]
