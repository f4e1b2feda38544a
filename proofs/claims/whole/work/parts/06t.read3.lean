/-! PURE: the reference reads signs and numbers -/
def MS (T : Nat → Int32) (L p : Nat) (g : Int32) (μ : St) : Prop := L ≤ 60 ∧ μ 8 0 = nI L ∧ μ 9 0 = nI p ∧ μ 10 0 = g ∧ ∀ i, i < L → μ 7 i = T i
def FR (μ μ2 : St) : Prop := ∀ a, a ≠ 9 → a ≠ 10 → μ2 a = μ a
theorem FR.refl {μ : St} : FR μ μ := fun _ _ _ => rfl
theorem FR.trans {μ μ2 μ3 : St} (h : FR μ μ2) (h2 : FR μ2 μ3) : FR μ μ3 := fun a h9 h10 => (h2 a h9 h10).trans (h a h9 h10)
theorem FR_go {μ : St} {g v : Int32} : FR μ (up (up μ 10 0 g) 9 0 v) := fun a h9 h10 => by rw [up_n h9, up_n h10]
theorem MS.go {T : Nat → Int32} {L p q : Nat} {g g2 v : Int32} {μ : St} (h : MS T L p g μ) (hv : v = nI q) : MS T L q g2 (up (up μ 10 0 g2) 9 0 v) := by
  obtain ⟨h1, h2, h3, h4, h5⟩ := h
  refine ⟨h1, ?_, ?_, ?_, fun i hi => ?_⟩
  · rw [up_n (by decide), up_n (by decide)]
    exact h2
  · rw [up_s, upd_s, hv]
  · rw [up_n (by decide), up_s, upd_s]
  · rw [up_n (by decide), up_n (by decide)]
    exact h5 i hi
theorem MS.slot {T : Nat → Int32} {L p k i : Nat} {g v : Int32} {μ : St} (h : MS T L p g μ) (hk : 11 ≤ k) : MS T L p g (up μ k i v) := by
  obtain ⟨h1, h2, h3, h4, h5⟩ := h
  refine ⟨h1, ?_, ?_, ?_, fun i hi => ?_⟩
  · rw [up_n (by omega)]
    exact h2
  · rw [up_n (by omega)]
    exact h3
  · rw [up_n (by omega)]
    exact h4
  · rw [up_n (by omega)]
    exact h5 i hi
theorem sign4 {T : Nat → Int32} {L p : Nat} {g : Int32} {μ : St} (h : MS T L p g μ) (hp : p ≤ L) : fX4_sign μ = some (if p < L then T p else 0) := by
  obtain ⟨hL, h8, h9, -, h7⟩ := h
  unfold fX4_sign
  rw [h8, h9]
  by_cases hpL : p < L
  · rw [if_neg (fun z => by have := (nI_leI (by omega) (by omega)).mp z; omega), if_neg (vp_in_nI (by omega) (by decide)), cl (by omega), if_pos hpL, h7 p hpL]
  · rw [if_pos ((nI_leI (by omega) (by omega)).mpr (by omega)), if_neg hpL]
theorem sg_if {T : Nat → Int32} {L p : Nat} {c : Int32} (hc : ¬ c = 0) : ((if p < L then T p else 0) = c) = (sg T L c p = true) := by
  unfold sg
  by_cases h : p < L
  · rw [if_pos h]
    simp [h]
  · rw [if_neg h]
    have : ¬ (0 : Int32) = c := fun e => hc e.symm
    simp [h, this]
theorem wants_good {T : Nat → Int32} {L p : Nat} {μ : St} {c : Int32} (h : MS T L p 1 μ) (hp : p ≤ L) (hc : ¬ c = 0) : ∃ μ2, fX4_wants μ c = some μ2 ∧ FR μ μ2 ∧ (if sg T L c p then MS T L (p + 1) 1 μ2 else MS T L p 0 μ2) := by
  have hz : ¬ μ 10 0 = 0 := by rw [h.2.2.2.1]; decide
  have h9 : ∀ g : Int32, (up μ 10 0 g) 9 0 = nI p := fun g => by rw [up_n (by decide)]; exact h.2.2.1
  unfold fX4_wants
  rw [if_neg hz, sign4 h hp, Option.bind_some]
  simp only [sg_if hc]
  by_cases s : sg T L c p = true
  · rw [if_pos s, if_neg (by rw [up_s, upd_s]; decide)]
    refine ⟨_, rfl, FR_go, ?_⟩
    rw [if_pos s]
    exact h.go (by rw [h9, nI_1])
  · rw [if_neg s, if_pos (by rw [up_s, upd_s])]
    refine ⟨_, rfl, FR_go, ?_⟩
    rw [if_neg s]
    exact h.go (by rw [h9, add0])
theorem wants_bad {T : Nat → Int32} {L p : Nat} {μ : St} {c : Int32} (h : MS T L p 0 μ) : ∃ μ2, fX4_wants μ c = some μ2 ∧ FR μ μ2 ∧ MS T L p 0 μ2 := by
  have h9 : (up μ 10 0 0) 9 0 = nI p := by rw [up_n (by decide)]; exact h.2.2.1
  unfold fX4_wants
  rw [if_pos h.2.2.2.1, if_pos (by rw [up_s, upd_s])]
  exact ⟨_, rfl, FR_go, h.go (by rw [h9, add0])⟩
theorem in_dg {T : Nat → Int32} {L p : Nat} : fX4_in (if p < L then T p else 0) 48 57 = some (match dg T L p with
    | none => 0
    | some _ => 1) := by
  rw [in_spec]
  unfold dg
  by_cases h : p < L
  · simp only [h, if_true, true_and]
    by_cases z : ¬ T p < 48 ∧ ¬ (57 : Int32) < T p
    · rw [if_pos z, if_neg (fun y => y.elim z.1 z.2)]
    · rw [if_neg z, if_pos (by
        by_cases y : T p < 48
        · exact Or.inl y
        · by_cases w : (57 : Int32) < T p
          · exact Or.inr w
          · exact absurd ⟨y, w⟩ z)]
  · simp only [h, if_false, false_and]
    rfl
theorem number_bad {T : Nat → Int32} {L p : Nat} {μ : St} {m : Int32} (h : MS T L p 0 μ) (hp : p ≤ L) : ∃ v μ2, fX4_number μ m = some (v, μ2) ∧ FR μ μ2 ∧ MS T L p 0 μ2 := by
  have h9 : (up μ 10 0 0) 9 0 = nI p := by rw [up_n (by decide)]; exact h.2.2.1
  have t0 : MS T L p 0 (up μ 10 0 0) := by
    obtain ⟨h1, h2, h3, h4, h5⟩ := h
    exact ⟨h1, by rw [up_n (by decide)]; exact h2, by rw [up_n (by decide)]; exact h3, by rw [up_s, upd_s], fun i hi => by rw [up_n (by decide)]; exact h5 i hi⟩
  unfold fX4_number
  rw [if_pos h.2.2.2.1, sign4 t0 hp, Option.bind_some, if_pos (by rw [up_s, upd_s]), if_pos (by rw [up_n (by decide), up_s, upd_s])]
  exact ⟨_, _, rfl, FR_go, h.go (by rw [h9, add0])⟩
theorem number_good {T : Nat → Int32} {L p : Nat} {μ : St} {m : Int32} (h : MS T L p 1 μ) (hp : p ≤ L) : ∃ v' μ2, fX4_number μ m = some (v', μ2) ∧ FR μ μ2 ∧ match nm T L m p with
    | none => MS T L p 0 μ2
    | some (v, q) => v' = v ∧ MS T L q 1 μ2 := by
  have hz : ¬ μ 10 0 = 0 := by rw [h.2.2.2.1]; decide
  have h9 : ∀ g : Int32, (up μ 10 0 g) 9 0 = nI p := fun g => by rw [up_n (by decide)]; exact h.2.2.1
  have t0 : ∀ g : Int32, MS T L p g (up μ 10 0 g) := fun g => by
    obtain ⟨h1, h2, h3, h4, h5⟩ := h
    exact ⟨h1, by rw [up_n (by decide)]; exact h2, by rw [up_n (by decide)]; exact h3, by rw [up_s, upd_s], fun i hi => by rw [up_n (by decide)]; exact h5 i hi⟩
  unfold fX4_number nm
  rw [if_neg hz, sign4 h hp, Option.bind_some, in_dg, Option.bind_some]
  cases h1 : dg T L p with
  | none =>
    simp only [if_true]
    rw [sign4 (t0 0) hp, Option.bind_some, if_pos (by rw [up_s, upd_s]), if_pos (by rw [up_n (by decide), up_s, upd_s])]
    exact ⟨_, _, rfl, FR_go, h.go (by rw [h9, add0])⟩
  | some d =>
    obtain ⟨j, hj, ej, eT, hpL⟩ := dg_val h1
    have e48 : (if p < L then T p else 0) - 48 = nI j := by
      rw [if_pos hpL, eT, show (48 : Int32) = nI 48 from rfl, pk_sub (by omega), Nat.add_sub_cancel]
    have t1 : MS T L (p + 1) 1 (up (up μ 10 0 1) 9 0 ((up μ 10 0 1) 9 0 + 1)) := h.go (by rw [h9, nI_1])
    have n1 : ¬ (up μ 10 0 1) 10 0 = 0 := by rw [up_s, upd_s]; decide
    have n2 : ¬ (up (up μ 10 0 1) 9 0 ((up μ 10 0 1) 9 0 + 1)) 10 0 = 0 := by rw [up_n (by decide), up_s, upd_s]; decide
    simp only [i10, if_false]
    rw [sign4 (t0 1) hp, Option.bind_some, if_neg n1, if_neg n2, e48]
    by_cases z : d = 0
    · have z2 : nI j ≤ 0 := by rw [← ej, z]; decide
      rw [if_pos z2]
      simp only [z, if_true]
      exact ⟨_, _, rfl, FR_go, by rw [← ej, z], t1⟩
    · have z2 : ¬ nI j ≤ 0 := fun y => z (by rw [ej]; exact (le0 (by omega)).mp y)
      rw [if_neg z2, sign4 t1 hpL, Option.bind_some, in_dg, Option.bind_some, Option.bind_some, Option.bind_some]
      simp only [z, if_false]
      cases h2 : dg T L (p + 1) with
      | none =>
        simp only [if_true]
        exact ⟨_, _, rfl, FR_go, ej.symm, t1⟩
      | some e =>
        obtain ⟨i, hi, ei, eT2, hpL2⟩ := dg_val h2
        have ev : ((10 * nI j) + (if p + 1 < L then T (p + 1) else 0)) - 48 = (d * 10) + e := by
          rw [if_pos hpL2, eT2, ej, ei, show (48 : Int32) = nI 48 from rfl, show (10 : Int32) = nI 10 from rfl, pk_mul, pk_mul, nI_add, nI_add, pk_sub (by omega)]
          exact congrArg nI (by omega)
        simp only [i10, if_false, ev]
        by_cases y : (d * 10) + e ≤ m
        · rw [if_neg (Int32.not_lt.mpr y)]
          simp only [y, if_true]
          refine ⟨_, _, rfl, FR_go.trans (fun a h9 _ => up_n h9), rfl, ?_⟩
          obtain ⟨h1, h2, h3, h4, h5⟩ := t1
          refine ⟨h1, by rw [up_n (by decide)]; exact h2, ?_, by rw [up_n (by decide)]; exact h4, fun i hi => by rw [up_n (by decide)]; exact h5 i hi⟩
          rw [up_s, upd_s, h3, nI_1]
        · rw [if_pos (Int32.not_le.mp y)]
          simp only [y, if_false]
          exact ⟨_, _, rfl, FR_go, ej.symm, t1⟩
def KR (σ' : St) (b r1 : Int32) : Option St := if oob b 96 then none else if r1 = 99 then ((fX4_readsCart (up σ' 11 b.toNatClampNeg r1) b).bind (fun σ46 => if r1 = 120 then ((fX4_wants σ46 61).bind (fun σ50 => (fX4_number σ50 99).bind (fun q53 => if oob (b + 2) 96 then none else if ((up q53.2 11 (b + 2).toNatClampNeg q53.1) 10 0) = 0 then (some (up (up q53.2 11 (b + 2).toNatClampNeg q53.1) 12 0 (((up q53.2 11 (b + 2).toNatClampNeg q53.1) 12 0) + 0))) else (some (up (up q53.2 11 (b + 2).toNatClampNeg q53.1) 12 0 (((up q53.2 11 (b + 2).toNatClampNeg q53.1) 12 0) + 1)))))) else (if (σ46 10 0) = 0 then (some (up σ46 12 0 ((σ46 12 0) + 0))) else (some (up σ46 12 0 ((σ46 12 0) + 1)))))) else ((fX4_number (up σ' 11 b.toNatClampNeg r1) 23).bind (fun q34 => if oob (b + 1) 96 then none else if r1 = 120 then ((fX4_wants (up q34.2 11 (b + 1).toNatClampNeg q34.1) 61).bind (fun σ39 => (fX4_number σ39 99).bind (fun q42 => if oob (b + 2) 96 then none else if ((up q42.2 11 (b + 2).toNatClampNeg q42.1) 10 0) = 0 then (some (up (up q42.2 11 (b + 2).toNatClampNeg q42.1) 12 0 (((up q42.2 11 (b + 2).toNatClampNeg q42.1) 12 0) + 0))) else (some (up (up q42.2 11 (b + 2).toNatClampNeg q42.1) 12 0 (((up q42.2 11 (b + 2).toNatClampNeg q42.1) 12 0) + 1)))))) else (if ((up q34.2 11 (b + 1).toNatClampNeg q34.1) 10 0) = 0 then (some (up (up q34.2 11 (b + 1).toNatClampNeg q34.1) 12 0 (((up q34.2 11 (b + 1).toNatClampNeg q34.1) 12 0) + 0))) else (some (up (up q34.2 11 (b + 1).toNatClampNeg q34.1) 12 0 (((up q34.2 11 (b + 1).toNatClampNeg q34.1) 12 0) + 1))))))
theorem readsOrder_eq {μ : St} : fX4_readsOrder μ = (fX4_sign μ).bind (fun r1 => if r1 = 99 then KR (up (up μ 10 0 1) 9 0 ((up μ 10 0 1) 9 0 + 1)) (4 * μ 12 0) r1 else if r1 = 111 then KR (up (up μ 10 0 1) 9 0 ((up μ 10 0 1) 9 0 + 1)) (4 * μ 12 0) r1 else if r1 = 120 then KR (up (up μ 10 0 1) 9 0 ((up μ 10 0 1) 9 0 + 1)) (4 * μ 12 0) r1 else if r1 = 115 then KR (up (up μ 10 0 1) 9 0 ((up μ 10 0 1) 9 0 + 1)) (4 * μ 12 0) r1 else KR (up (up μ 10 0 0) 9 0 ((up μ 10 0 0) 9 0 + 0)) (4 * μ 12 0) r1) := by
  unfold fX4_readsOrder KR
  simp only [up_s, upd_s, i10, if_true, if_false]
