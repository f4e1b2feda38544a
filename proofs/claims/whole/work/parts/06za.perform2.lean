/-! PURE: perform, whole -/
theorem od_59 {T : Nat → Int32} {L p : Nat} {y : Int32 × Int32 × Int32 × Int32 × Nat} (h : od T L p = .inr y) : sg T L 59 p = false := by
  unfold od at h
  by_cases s1 : sg T L 99 p = true
  · exact sg_ne s1 (by decide)
  · rw [if_neg s1] at h
    by_cases s2 : sg T L 111 p = true
    · exact sg_ne s2 (by decide)
    · rw [if_neg s2] at h
      by_cases s3 : sg T L 115 p = true
      · exact sg_ne s3 (by decide)
      · rw [if_neg s3] at h
        by_cases s4 : sg T L 120 p = true
        · exact sg_ne s4 (by decide)
        · rw [if_neg s4] at h
          cases h
theorem ORD_59 {T : Nat → Int32} {L p : Nat} {l : List (Int32 × Int32 × Int32 × Int32)} (h : ORD T L p l) : sg T L 59 p = false := by
  cases l with
  | nil => exact absurd h id
  | cons y l =>
    obtain ⟨k, a, e, d⟩ := y
    obtain ⟨q, ho, -⟩ := h
    exact od_59 ho
theorem perf98 {μ : St} {k : Nat} (hk : k < 4) (h4 : μ 4 0 = nI (k + 1)) (v1 v2 : Int32) : fX4_perform_98 1000 μ v1 v2 0 = some (μ 12 0, cpS μ 3 2 (200 * k) 0 200) := by
  rw [copy_all (F := fun n σ i => fX4_perform_98 n σ v1 v2 i) (fun σ => some (σ 12 0, σ)) 3 2 (200 * k) 0 200 (by decide) (Or.inl (by decide)) (by decide) (σ := μ) (fun n σ2 i hi e => by
    have e4 : σ2 4 0 - 1 = nI k := by rw [e, h4]; exact nI_pred k
    show fX4_perform_98 (n + 1) σ2 v1 v2 (nI i) = _
    rw [fX4_perform_98_s, if_neg (ge200 hi), if_neg (vp_in_nI hi (by decide)), e4, ix200 hk hi, if_neg (vp_in_nI (by omega) (by decide)), nI_1, cl (by omega), cl (by omega), Nat.zero_add]) (fun n σ2 => by
    show fX4_perform_98 (n + 1) σ2 v1 v2 (nI 200) = _
    rw [fX4_perform_98_s, if_pos (by exact Int32.le_refl _)])]
  show some (cpS μ 3 2 (200 * k) 0 200 12 0, _) = _
  rw [cpS_n (by decide)]
/-- the records, with the state of before in the last one -/
theorem perf_end {μ μ4 : St} {k : Nat} (hk : k ≤ 4) (h4 : μ 4 0 = nI k) (e4 : μ4 4 = μ 4) (e3 : μ4 3 = μ 3) (e2 : ∀ j, j < 200 → μ4 2 j = μ 1 j) (v1 v2 : Int32) : ∃ μ6 : St, (fX4_records μ4).bind (fun σ10 => fX4_perform_98 1000 σ10 v1 v2 0) = some (μ4 12 0, μ6) ∧ (∀ a, a ≠ 3 → a ≠ 4 → μ6 a = μ4 a) ∧ (k < 4 → μ6 4 0 = nI (k + 1) ∧ ∀ i j, j < 200 → i ≤ k → μ6 3 (200 * i + j) = if i = k then μ 1 j else μ 3 (200 * i + j)) ∧ (k = 4 → μ6 4 0 = nI 4 ∧ ∀ i j, j < 200 → i < 4 → μ6 3 (200 * i + j) = if i = 3 then μ 1 j else μ 3 (200 * (i + 1) + j)) := by
  obtain ⟨μ5, r1, r2, r3, r4⟩ := records_ok (μ := μ4) hk (by rw [e4]; exact h4)
  rw [r1, Option.bind_some]
  by_cases hlt : k < 4
  · obtain ⟨a4, a3⟩ := r3 hlt
    refine ⟨cpS μ5 3 2 (200 * k) 0 200, ?_, fun a h3 h4 => ?_, fun _ => ⟨?_, fun i j hj hi => ?_⟩, fun z => by omega⟩
    · rw [perf98 hlt a4, r2 12 (by decide) (by decide)]
    · rw [cpS_n h3, r2 a h3 h4]
    · rw [cpS_n (by decide)]
      exact a4
    · by_cases e : i = k
      · subst e
        rw [cpS_in (by omega) (by omega), if_pos rfl, r2 2 (by decide) (by decide), show 0 + (200 * i + j - 200 * i) = j by omega]
        exact e2 j hj
      · rw [cpS_out (by omega), if_neg e, a3 i j hj hi, if_neg e, e3]
  · obtain ⟨a4, a3⟩ := r4 (by omega)
    refine ⟨cpS μ5 3 2 (200 * 3) 0 200, ?_, fun a h3 h4 => ?_, fun z => absurd z hlt, fun _ => ⟨?_, fun i j hj hi => ?_⟩⟩
    · rw [perf98 (k := 3) (by decide) a4, r2 12 (by decide) (by decide)]
    · rw [cpS_n h3, r2 a h3 h4]
    · rw [cpS_n (by decide)]
      exact a4
    · by_cases e : i = 3
      · subst e
        rw [cpS_in (by omega) (by omega), if_pos rfl, r2 2 (by decide) (by decide), show 0 + (200 * 3 + j - 200 * 3) = j by omega]
        exact e2 j hj
      · rw [cpS_out (by omega), if_neg e, a3 i j hj hi, if_neg e, e3]
theorem RT_of {τ τ2 μ μ2 : St} {L : Nat} (h : RT τ μ) (hL : τ 1 0 = nI L) (hL60 : L ≤ 60) (e0 : τ2 0 = τ 0) (e1 : τ2 1 0 = nI L) (h7 : μ2 7 = μ 7) (h8 : μ2 8 = μ 8) : RT τ2 μ2 := by
  unfold RT at h ⊢
  rw [h7, h8, e0, e1, ← hL]
  exact h
theorem q_perform {x : XS} {μ : St} (hR : RX x μ) : ∃ (r : Int32) (x2 : XS) (μ2 : St), fX3_perform x = some (r, x2) ∧ fX4_perform μ = some (r, μ2) ∧ RX x2 μ2 := by
  obtain ⟨hs, σ, σb, σs, y, τ⟩ := x
  obtain ⟨hS, hY, hF, hT⟩ := hR
  obtain ⟨L, hL, e1, e8, hC⟩ := id hT
  replace e1 : τ 1 0 = nI L := e1
  replace hS : RS σ (μ 1) := hS
  have t0 : TS (τ 0) L 0 (up τ 2 0 0) := ⟨hL, by rw [up_n (by decide)], by rw [up_n (by decide)]; exact e1, by rw [up_s, upd_s]; rfl⟩
  have m0 : MS (τ 0) L 0 (μ 10 0) (up (up (up μ 0 0 0) 9 0 0) 12 0 0) := ⟨hL, e8, rfl, rfl, fun i hi => (hC i hi).1.symm⟩
  have hw : ∀ a, a < 9 → a ≠ 0 → (up (up (up μ 0 0 0) 9 0 0) 12 0 0) a = μ a := fun a h9 h0 => by rw [up_n (by omega), up_n (by omega), up_n h0]
  have eC : fX2_countOrders τ = fX2_countOrders_6 1000 (up τ 2 0 0) (nI (0 + 1)) := by
    unfold fX2_countOrders fX2_rewind
    rw [Option.bind_some]
    rfl
  have eM : fX4_reads (up μ 0 0 0) = (fX4_readsOrder (up (up (up μ 0 0 0) 9 0 0) 12 0 0)).bind (fX4_reads_14 1000) := rfl
  rcases orders_ok 61 1000 1000 0 0 (μ 10 0) _ _ (by omega) (by decide) (by decide) (Nat.zero_le L) (by decide) t0 m0 rfl with ⟨q, τ1, μ1, hq, c1, t1, c2, h2⟩ | ⟨l, τ1, μ1, hO, hl, c1, t1, c2, h2, n2, hE⟩
  · refine ⟨-100 - nI q, (hs, σ, σb, σs, y, τ1), μ1, ?_, ?_, ?_⟩
    · unfold fX3_perform
      show (fX2_countOrders τ).bind _ = _
      rw [eC, c1, Option.bind_some, if_pos rfl]
      show some ((-100) - τ1 2 0, _) = _
      rw [t1.2.2.2]
      rfl
    · unfold fX4_perform
      rw [eM, c2, Option.bind_some, if_neg (fun z => nI_nn (k := q) (by omega) (by rw [show nI q = -5 from z]; decide))]
    · have hk : ∀ a, a < 9 → a ≠ 0 → μ1 a = μ a := fun a h9 h0 => (h2.1 a h9).trans (hw a h9 h0)
      refine ⟨?_, ?_, ?_, RT_of hT e1 hL t1.2.1 t1.2.2.1 (hk 7 (by decide) (by decide)) (hk 8 (by decide) (by decide))⟩
      · rw [hk 1 (by decide) (by decide)]
        exact hS
      · rw [hk 3 (by decide) (by decide), hk 4 (by decide) (by decide)]
        exact hY
      · rw [hk 5 (by decide) (by decide), hk 6 (by decide) (by decide)]
        exact hF
  · have hk1 : ∀ a, a < 9 → a ≠ 0 → μ1 a = μ a := fun a h9 h0 => (h2.1 a h9).trans (hw a h9 h0)
    rw [Nat.zero_add l.length] at c1 n2 hl
    have hk2 : ∀ a, a ≠ 2 → cpS μ1 2 1 0 0 200 a = μ1 a := fun a ha => cpS_n ha
    have h3 : ∀ j, j < 200 → cpS μ1 2 1 0 0 200 2 j = μ 1 j := fun j hj => by rw [cpS_in (by omega) (by omega), hk1 1 (by decide) (by decide), Nat.sub_zero, Nat.zero_add]
    have nN : ¬ nI l.length < 0 := nI_nn (by omega)
    have pC : fX3_perform (hs, σ, σb, σs, y, τ) = fX3_perform_44 1000 (hs, σ, σ, σs, y, up τ1 2 0 0) (nI l.length) (nI 0) := by
      unfold fX3_perform
      show (fX2_countOrders τ).bind _ = _
      rw [eC, c1, Option.bind_some, if_neg (nI_m1 (by omega))]
      unfold fX2_rewind
      rw [Option.bind_some]
      rfl
    have pM : fX4_perform μ = fX4_perform_29 1000 (cpS μ1 2 1 0 0 200) (-5) 0 (nI 0) := by
      unfold fX4_perform
      rw [eM, c2, Option.bind_some, if_pos rfl, putAside_eq, Option.bind_some]
      rfl
    have hE2 : ENL (cpS μ1 2 1 0 0 200) 0 l := ENL_cong (hk2 11 (by decide)) l 0 hE
    have lp := perf_loop (T := τ 0) (L := L) (N := l.length) hl (-5) l 1000 1000 0 (hs, σ, σ, σs, y, up τ1 2 0 0) (cpS μ1 2 1 0 0 200) (by omega) (by omega) (Nat.zero_add _) (Or.inr ⟨0, 0, t1.go 0, Nat.zero_le L, hO, Or.inl ⟨rfl, ORD_59 hO⟩⟩) ⟨(t1.go 0).2.1, (t1.go 0).2.2.1⟩ hE2 (by rw [hk2 12 (by decide)]; exact n2) (by rw [hk2 1 (by decide), hk1 1 (by decide) (by decide)]; exact hS)
    rcases lp with ⟨r, τ2, μ2, hr, b1, b2, b3, b4, b5⟩ | ⟨σ2, τ2, μ2, b1, b2, b3, b4, b5, b6⟩
    · refine ⟨r, _, _, pC.trans b1, pM.trans b2, ?_⟩
      have hk : ∀ a, a < 9 → a ≠ 0 → a ≠ 1 → a ≠ 2 → cpS μ2 1 2 0 0 200 a = μ a := fun a h9 h0 h1 h2 => by rw [cpS_n h1, b3 a h1, hk2 a h2, hk1 a h9 h0]
      refine ⟨?_, ?_, ?_, RT_of hT e1 hL b4 b5 (hk 7 (by decide) (by decide) (by decide) (by decide)) (hk 8 (by decide) (by decide) (by decide) (by decide))⟩
      · show RS σ (cpS μ2 1 2 0 0 200 1)
        exact RS_cong (fun j hj => by rw [cpS_in (by omega) (by omega), b3 2 (by decide), Nat.sub_zero, Nat.zero_add, h3 j hj]) hS
      · rw [hk 3 (by decide) (by decide) (by decide) (by decide), hk 4 (by decide) (by decide) (by decide) (by decide)]
        exact hY
      · rw [hk 5 (by decide) (by decide) (by decide) (by decide), hk 6 (by decide) (by decide) (by decide) (by decide)]
        exact hF
    · have hk : ∀ a, a < 9 → a ≠ 0 → a ≠ 1 → a ≠ 2 → μ2 a = μ a := fun a h9 h0 h1 h2 => by rw [b3 a h1, hk2 a h2, hk1 a h9 h0]
      obtain ⟨μ6, p1, p2, p3⟩ := perf_end (μ := μ) (μ4 := μ2) (k := y.2.1) hY.1 hY.2.1 (hk 4 (by decide) (by decide) (by decide) (by decide)) (hk 3 (by decide) (by decide) (by decide) (by decide)) (fun j hj => by rw [b3 2 (by decide)]; exact h3 j hj) (-5) 0
      have e12 : μ2 12 0 = nI l.length := by rw [b3 12 (by decide), hk2 12 (by decide)]; exact n2
      have hk6 : ∀ a, a < 9 → a ≠ 0 → a ≠ 1 → a ≠ 2 → a ≠ 3 → a ≠ 4 → μ6 a = μ a := fun a h9 h0 h1 h2 h3 h4 => by rw [p2 a h3 h4, hk a h9 h0 h1 h2]
      refine ⟨nI l.length, (hs, σ2, σ, σs, addY y σ, τ2), μ6, ?_, ?_, ?_⟩
      · rw [pC, b1]
        unfold fX3_recorded
        rw [if_neg nN]
        rfl
      · rw [pM, b2, p1, e12]
      · refine ⟨?_, ?_, ?_, RT_of hT e1 hL b5 b6 (hk6 7 (by decide) (by decide) (by decide) (by decide) (by decide) (by decide)) (hk6 8 (by decide) (by decide) (by decide) (by decide) (by decide) (by decide))⟩
        · rw [p2 1 (by decide) (by decide)]
          exact b4
        · exact hist_add (μ := μ) hY hS p3
        · rw [hk6 5 (by decide) (by decide) (by decide) (by decide) (by decide) (by decide), hk6 6 (by decide) (by decide) (by decide) (by decide) (by decide) (by decide)]
          exact hF
