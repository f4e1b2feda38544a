/-! PURE: perform -/
theorem ENL_cong {μ μ2 : St} (h : μ2 11 = μ 11) : ∀ (l : List (Int32 × Int32 × Int32 × Int32)) (c : Nat), ENL μ c l → ENL μ2 c l
  | [], _, _ => trivial
  | (k, a, e, d) :: l, c, hE => by
    refine ⟨?_, ENL_cong h l (c + 1) hE.2⟩
    have h1 := hE.1
    unfold EN at h1 ⊢
    rw [h]
    exact h1
theorem next_ok {T : Nat → Int32} {L p p0 q : Nat} {τ : St} {k a e d : Int32} (hT : TS T L p0 τ) (hp : p0 ≤ L) (hc : (p0 = p ∧ sg T L 59 p = false) ∨ (p = p0 + 1 ∧ sg T L 59 p0 = true)) (ho : od T L p = .inr (k, a, e, d, q)) : ∃ τ2, fX2_nextOrder τ = some τ2 ∧ TS T L q τ2 ∧ FL τ2 k a e d := by
  unfold fX2_nextOrder
  rw [takes_eq hT hp, Option.bind_some]
  rcases hc with ⟨h1, h2⟩ | ⟨h1, h2⟩
  · subst h1
    have r := ro_ok hT hp
    rw [ho] at r
    obtain ⟨τ2, e1, t1, f1⟩ := r
    simp only [h2, Bool.false_eq_true, if_false]
    rw [e1]
    exact ⟨τ2, rfl, t1, f1⟩
  · subst h1
    have r := ro_ok (hT.go (p0 + 1)) (sg_lt h2)
    rw [ho] at r
    obtain ⟨τ2, e1, t1, f1⟩ := r
    simp only [h2, if_true]
    rw [e1]
    exact ⟨τ2, rfl, t1, f1⟩
theorem err_0 {r : Int32} (h : ¬ r < 0) : fX3_isError r = some 0 := by
  unfold fX3_isError
  rw [if_pos (Int32.not_lt.mp h)]
theorem err_5 : fX3_isError (-5) = some 0 := by decide
theorem err_1 {r : Int32} (h : r < 0) (h5 : ¬ r = -5) : fX3_isError r = some 1 := by
  unfold fX3_isError
  rw [if_neg (Int32.not_le.mpr h), if_neg h5]
theorem stop29 {g : Nat} {μ : St} {v1 r v3 : Int32} (h : ¬ r = 0) : fX4_perform_29 (g + 1) μ v1 r v3 = some (r, cpS μ 1 2 0 0 200) := by
  rw [fX4_perform_29_s, takeBack_eq]
  simp only [h, if_false, Option.bind_some, ite_self]
theorem perf_loop {T : Nat → Int32} {L N : Nat} (hN : N ≤ 20) (v1 : Int32) : ∀ (l : List (Int32 × Int32 × Int32 × Int32)) (f g j : Nat) (x : XS) (μ : St), l.length < f → l.length + 1 < g → j + l.length = N → (l = [] ∨ ∃ p p0, TS T L p0 x.2.2.2.2.2 ∧ p0 ≤ L ∧ ORD T L p l ∧ ((p0 = p ∧ sg T L 59 p = false) ∨ (p = p0 + 1 ∧ sg T L 59 p0 = true))) → (x.2.2.2.2.2 0 = T ∧ x.2.2.2.2.2 1 0 = nI L) → ENL μ j l → μ 12 0 = nI N → RS x.2.1 (μ 1) →
    (∃ (r : Int32) (τ2 μ2 : St), r < 0 ∧ fX3_perform_44 f x (nI N) (nI j) = some (r, xT (xH x x.2.2.1) τ2) ∧ fX4_perform_29 g μ v1 0 (nI j) = some (r, cpS μ2 1 2 0 0 200) ∧ (∀ a, a ≠ 1 → μ2 a = μ a) ∧ τ2 0 = T ∧ τ2 1 0 = nI L) ∨
    (∃ (σ2 τ2 μ2 : St), fX3_perform_44 f x (nI N) (nI j) = (fX3_recorded (xT (xH x σ2) τ2) (nI N)).bind (fun q5 => some (q5.1, q5.2)) ∧ fX4_perform_29 g μ v1 0 (nI j) = (fX4_records μ2).bind (fun σ10 => fX4_perform_98 1000 σ10 v1 0 0) ∧ (∀ a, a ≠ 1 → μ2 a = μ a) ∧ RS σ2 (μ2 1) ∧ τ2 0 = T ∧ τ2 1 0 = nI L) := by
  intro l
  induction l with
  | nil =>
    intro f g j x μ hf hg hj _ hT hE h12 hS
    obtain ⟨f, rfl⟩ : ∃ q, f = q + 1 := ⟨f - 1, by omega⟩
    obtain ⟨g, rfl⟩ : ∃ q, g = q + 1 := ⟨g - 1, by omega⟩
    have hj : j = N := hj
    subst hj
    refine Or.inr ⟨x.2.1, x.2.2.2.2.2, μ, ?_, ?_, fun a _ => rfl, hS, hT.1, hT.2⟩
    · rw [fX3_perform_44_s, if_pos (le_rf _)]
      rfl
    · rw [fX4_perform_29_s, h12, if_pos (le_rf _), if_pos rfl]
  | cons y l ih =>
    obtain ⟨k, a, e, d⟩ := y
    intro f g j x μ hf hg hj hp hT hE h12 hS
    obtain ⟨f, rfl⟩ : ∃ q, f = q + 1 := ⟨f - 1, by omega⟩
    obtain ⟨g, rfl⟩ : ∃ q, g = q + 1 := ⟨g - 1, by omega⟩
    simp only [List.length_cons] at hf hg hj
    rcases hp with hp | ⟨p, p0, t0, hp0, hO, hc⟩
    · cases hp
    obtain ⟨q, ho, hl⟩ := hO
    have lq := od_le ho
    obtain ⟨τ1, e1, t1, F⟩ := next_ok t0 hp0 hc ho
    have nN : ¬ nI N ≤ nI j := fun z => by have := (nI_leI (by omega) (by omega)).mp z; omega
    have hnx : l = [] ∨ ∃ p p0, TS T L p0 τ1 ∧ p0 ≤ L ∧ ORD T L p l ∧ ((p0 = p ∧ sg T L 59 p = false) ∨ (p = p0 + 1 ∧ sg T L 59 p0 = true)) := by
      rcases hl with ⟨z, -⟩ | ⟨s, z⟩
      · exact Or.inl z
      · exact Or.inr ⟨q + 1, q, t1, lq.2, z, Or.inr ⟨rfl, s⟩⟩
    have hC := carry_ok (b := 4 * j) (x := xT x τ1) (μ := μ) hS (by omega) F hE.1
    have e4 : (4 : Int32) * nI j = nI (4 * j) := by rw [show (4 : Int32) = nI 4 from rfl, pk_mul]
    rw [fX3_perform_44_s, if_neg nN, e1, Option.bind_some, fX4_perform_29_s, h12, if_neg nN, if_pos rfl, e4, nI_1]
    rcases hC with ⟨r, hr, c1, c2⟩ | ⟨r, σ2, μ2, hr, c1, c2, c3, c4, c5⟩
    · rw [c1, Option.bind_some, c2, Option.bind_some]
      by_cases h5 : r = -5
      · subst h5
        have i := ih f g (j + 1) (xH (xT x τ1) x.2.1) μ (by omega) (by omega) (by omega) hnx ⟨t1.2.1, t1.2.2.1⟩ hE.2 h12 hS
        rw [if_pos rfl, if_neg (show ¬ (-5 : Int32) = 0 by decide)]
        simp only [err_5, Option.bind_some, if_true]
        exact i
      · obtain ⟨g, rfl⟩ : ∃ q, g = q + 1 := ⟨g - 1, by omega⟩
        rw [if_neg h5, if_neg (neg_ne hr), stop29 (neg_ne hr)]
        simp only [err_1 hr h5, Option.bind_some, i10, if_false]
        exact Or.inl ⟨r, τ1, μ, hr, rfl, rfl, fun a _ => rfl, t1.2.1, t1.2.2.1⟩
    · have i := ih f g (j + 1) (xH (xT x τ1) σ2) μ2 (by omega) (by omega) (by omega) hnx ⟨t1.2.1, t1.2.2.1⟩ (ENL_cong (c4 11 (by decide)) l _ hE.2) (by rw [c4 12 (by decide)]; exact h12) c5
      rw [c1, Option.bind_some, c2, Option.bind_some, if_neg (show ¬ (0 : Int32) = -5 by decide), if_pos rfl, c3, Option.bind_some]
      simp only [err_0 hr, Option.bind_some, if_true]
      rcases i with ⟨r2, τ2, μ3, b1, b2, b3, b4, b5⟩ | ⟨σ3, τ2, μ3, b1, b2, b3, b4⟩
      · exact Or.inl ⟨r2, τ2, μ3, b1, b2, b3, fun a ha => (b4 a ha).trans (c4 a ha), b5⟩
      · exact Or.inr ⟨σ3, τ2, μ3, b1, b2, fun a ha => (b3 a ha).trans (c4 a ha), b4⟩
