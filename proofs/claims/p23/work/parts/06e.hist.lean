/-! PURE: changes that are recorded; undo, keep, restore; type, clearText -/
theorem X3_rec {x : XS} {r : Int32} {σ2 : St} (hr : ¬ r < 0) : (fX3_recorded (xH (xB x (x.2.1)) σ2) r).bind (fun q2 => some (q2.1, q2.2)) = some (r, xY (xH (xB x (x.2.1)) σ2) (addY x.2.2.2.2.1 x.2.1)) := by
  unfold fX3_recorded
  rw [if_neg hr]
  rfl
theorem X3_err {x : XS} {r : Int32} {σ2 : St} (hr : r < 0) : (fX3_recorded (xH (xB x (x.2.1)) σ2) r).bind (fun q2 => some (q2.1, q2.2)) = some (r, xH (xB x (x.2.1)) σ2) := by
  unfold fX3_recorded
  rw [if_pos hr]
  rfl
theorem same_ok {x : XS} {μ : St} (hR : RX x μ) : RX (xH (xB x (x.2.1)) x.2.1) (up μ 0 0 0) := hR
theorem thrown_ok {x : XS} {μ : St} (hR : RX x μ) : RX x (up μ 0 0 0) := hR
theorem addY_lt {y : YS} {σ : St} (h : y.2.1 < 4) : addY y σ = (y.1, y.2.1 + 1, fun i => if i = y.2.1 then σ else y.2.2 i) := if_pos h
theorem addY_ge {y : YS} {σ : St} (h : ¬ y.2.1 < 4) : addY y σ = (rot y.1, 4, fun i => if i = 3 then σ else y.2.2 (i + 1)) := if_neg h
def HIST (y : YS) (μ : St) : Prop := y.2.1 ≤ 4 ∧ μ 4 0 = nI y.2.1 ∧ ∀ i, i < y.2.1 → RS (y.2.2 i) (fun j => μ 3 (200 * i + j))
theorem hist_add {y : YS} {σ μ μ1 : St} (hY : HIST y μ) (hS : RS σ (μ 1)) (hrec : (y.2.1 < 4 → μ1 4 0 = nI (y.2.1 + 1) ∧ ∀ i j, j < 200 → i ≤ y.2.1 → μ1 3 (200 * i + j) = if i = y.2.1 then μ 1 j else μ 3 (200 * i + j)) ∧ (y.2.1 = 4 → μ1 4 0 = nI 4 ∧ ∀ i j, j < 200 → i < 4 → μ1 3 (200 * i + j) = if i = 3 then μ 1 j else μ 3 (200 * (i + 1) + j))) : HIST (addY y σ) μ1 := by
  obtain ⟨hk, h4, hη⟩ := hY
  by_cases hlt : y.2.1 < 4
  · obtain ⟨e4, e3⟩ := hrec.1 hlt
    rw [addY_lt hlt]
    refine ⟨hlt, e4, fun i hi => ?_⟩
    have hi : i < y.2.1 + 1 := hi
    show RS (if i = y.2.1 then σ else y.2.2 i) _
    by_cases e : i = y.2.1
    · rw [if_pos e]
      exact RS_cong (fun j hj => by rw [e3 i j hj (by omega), if_pos e]) hS
    · rw [if_neg e]
      exact RS_cong (fun j hj => by rw [e3 i j hj (by omega), if_neg e]) (hη i (by omega))
  · have h4' : y.2.1 = 4 := by omega
    obtain ⟨e4, e3⟩ := hrec.2 h4'
    rw [addY_ge hlt]
    refine ⟨Nat.le_refl 4, e4, fun i hi => ?_⟩
    have hi : i < 4 := hi
    show RS (if i = 3 then σ else y.2.2 (i + 1)) _
    by_cases e : i = 3
    · rw [if_pos e]
      exact RS_cong (fun j hj => by rw [e3 i j hj hi, if_pos e]) hS
    · rw [if_neg e]
      exact RS_cong (fun j hj => by rw [e3 i j hj hi, if_neg e]) (hη (i + 1) (by omega))
theorem RT_same {τ μ μ2 : St} (h : RT τ μ) (h7 : μ2 7 = μ 7) (h8 : μ2 8 = μ 8) : RT τ μ2 := by
  unfold RT
  rw [h7, h8]
  exact h
/-- what a recorded change wants: the reference records, and the new states agree -/
theorem chg_ok {x : XS} {μ : St} (hR : RX x μ) : ∃ μ1 : St, fX4_records (up μ 0 0 0) = some μ1 ∧ (∀ a, a ≠ 3 → a ≠ 4 → μ1 a = (up μ 0 0 0) a) ∧ ∀ (σ2 μ2 : St), (∀ a, a ≠ 1 → μ2 a = μ1 a) → RS σ2 (μ2 1) → RX (xY (xH (xB x (x.2.1)) σ2) (addY x.2.2.2.2.1 x.2.1)) μ2 := by
  obtain ⟨hS, ⟨hk, h4, hη⟩, hF, hT⟩ := hR
  obtain ⟨μ1, e, hs, h3⟩ := records_ok (μ := up μ 0 0 0) hk h4
  refine ⟨μ1, e, hs, fun σ2 μ2 h2 hS2 => ⟨hS2, ?_, ?_, ?_⟩⟩
  · have hY : HIST (addY x.2.2.2.2.1 x.2.1) μ1 := hist_add (μ := up μ 0 0 0) ⟨hk, h4, hη⟩ hS h3
    obtain ⟨a1, a2, a3⟩ := hY
    refine ⟨a1, by rw [h2 4 (by decide)]; exact a2, fun i hi => ?_⟩
    rw [h2 3 (by decide)]
    exact a3 i hi
  · rw [h2 6 (by decide), h2 5 (by decide), hs 6 (by decide) (by decide), hs 5 (by decide) (by decide)]
    exact hF
  · exact RT_same hT (by rw [h2 7 (by decide), hs 7 (by decide) (by decide)]; rfl) (by rw [h2 8 (by decide), hs 8 (by decide) (by decide)]; rfl)
theorem q_undo {x : XS} {μ : St} (hR : RX x μ) : ∃ (r : Int32) (x2 : XS) (μ2 : St), fX3_undo x = some (r, x2) ∧ fX4_undo μ = some (r, μ2) ∧ RX x2 μ2 := by
  obtain ⟨hs, σ, σb, σs, ⟨ρ, k, η⟩, τ⟩ := x
  obtain ⟨hS, ⟨hk, h4, hη⟩, hF, hT⟩ := hR
  replace hk : k ≤ 4 := hk
  replace h4 : μ 4 0 = nI k := h4
  cases k with
  | zero =>
    refine ⟨-5, _, up μ 0 0 0, rfl, ?_, ⟨hS, ⟨hk, h4, hη⟩, hF, hT⟩⟩
    unfold fX4_undo
    rw [if_pos (show (up μ 0 0 0) 4 0 = 0 from h4)]
  | succ k =>
    have hk4 : k < 4 := by omega
    have hne : ¬ (up μ 0 0 0) 4 0 = 0 := fun z => by
      have z : nI (k + 1) = nI 0 := h4.symm.trans z
      have := nI_inj (by omega) (by decide) z
      omega
    have e4 : (up μ 0 0 0) 4 0 - 1 = nI k := by
      show μ 4 0 - 1 = nI k
      rw [h4]
      exact nI_pred k
    refine ⟨nI k, (hs, η k, σb, σs, (ρ, k, η), τ), cpS (up (up μ 0 0 0) 4 0 (nI k)) 1 3 0 (200 * k) 200, rfl, ?_, ?_⟩
    · unfold fX4_undo
      rw [if_neg hne, e4, copy_all (F := fX4_undo_27) (fun σ => some (σ 4 0, σ)) 1 3 0 (200 * k) 200 (by decide) (Or.inl (by decide)) (by decide) (fun n σ2 i hi e => by
        have e : σ2 4 0 = nI k := e.trans (by rw [up_s, upd_s])
        rw [fX4_undo_27_s, if_neg (ge200 hi), e, ix200 hk4 hi, if_neg (vp_in_nI (by omega) (by decide)), if_neg (vp_in_nI (by omega) (by decide)), nI_1, cl (by omega), cl (by omega), Nat.zero_add]) (fun n σ2 => by rw [fX4_undo_27_s, if_pos (by exact Int32.le_refl _)])]
      show some (cpS (up (up μ 0 0 0) 4 0 (nI k)) 1 3 0 (200 * k) 200 4 0, _) = _
      rw [cpS_n (by decide), up_s, upd_s]
    · have hs2 : ∀ a, a ≠ 1 → a ≠ 4 → cpS (up (up μ 0 0 0) 4 0 (nI k)) 1 3 0 (200 * k) 200 a = (up μ 0 0 0) a := fun a h1 h4 => by rw [cpS_n h1, up_n h4]
      refine ⟨?_, ⟨Nat.le_of_lt hk4, ?_, fun i hi => ?_⟩, ?_, RT_same hT (hs2 7 (by decide) (by decide)) (hs2 8 (by decide) (by decide))⟩
      · refine RS_cong (fun j hj => ?_) (hη k (Nat.lt_succ_self k))
        rw [cpS_in (by omega) (by omega), up_n (by decide), Nat.sub_zero]
        rfl
      · show cpS _ 1 3 0 (200 * k) 200 4 0 = nI k
        rw [cpS_n (by decide), up_s, upd_s]
      · rw [hs2 3 (by decide) (by decide)]
        exact hη i (Nat.lt_succ_of_lt hi)
      · rw [hs2 6 (by decide) (by decide), hs2 5 (by decide) (by decide)]
        exact hF
theorem q_keep {x : XS} {μ : St} (hR : RX x μ) : ∃ (r : Int32) (x2 : XS) (μ2 : St), fX3_keep x = some (r, x2) ∧ fX4_keep μ = some (r, μ2) ∧ RX x2 μ2 := by
  obtain ⟨hs, σ, σb, σs, y, τ⟩ := x
  obtain ⟨hS, hY, hF, hT⟩ := hR
  obtain ⟨n, I, Bd, R⟩ := id hS
  refine ⟨nI n, (1, σ, σb, σ, y, τ), up (cpS (up μ 0 0 0) 5 1 0 0 200) 6 0 1, ?_, ?_, ?_⟩
  · show some (σ 6 0, _) = _
    rw [show σ 6 0 = nI n from R.1]
    rfl
  · unfold fX4_keep
    rw [copy_all (F := fX4_keep_7) (fun σ => some ((up σ 6 0 1) 1 5, up σ 6 0 1)) 5 1 0 0 200 (by decide) (Or.inl (by decide)) (by decide) (fun n σ2 i hi e => by
      rw [fX4_keep_7_s, if_neg (ge200 hi), if_neg (vp_in_nI hi (by decide)), if_neg (vp_in_nI hi (by decide)), nI_1, cl (by omega), Nat.zero_add]) (fun n σ2 => by rw [fX4_keep_7_s, if_pos (by exact Int32.le_refl _)])]
    have e5 : (up (cpS (up μ 0 0 0) 5 1 0 0 200) 6 0 1) 1 5 = nI n := by
      rw [up_n (by decide), cpS_n (by decide)]
      exact I.2.1
    show some (_, _) = _
    rw [e5]
  · have hs2 : ∀ a, a ≠ 5 → a ≠ 6 → up (cpS (up μ 0 0 0) 5 1 0 0 200) 6 0 1 a = (up μ 0 0 0) a := fun a h1 h4 => by rw [up_n h4, cpS_n h1]
    refine ⟨?_, ?_, ⟨?_, Or.inr ⟨?_, ?_⟩⟩, RT_same hT (hs2 7 (by decide) (by decide)) (hs2 8 (by decide) (by decide))⟩
    · rw [hs2 1 (by decide) (by decide)]
      exact hS
    · rw [hs2 4 (by decide) (by decide), hs2 3 (by decide) (by decide)]
      exact hY
    · rw [up_s, upd_s]
    · rw [up_s, upd_s]
    · rw [up_n (by decide)]
      exact RS_cong (fun j hj => by rw [cpS_in (by omega) (by omega), Nat.zero_add, Nat.sub_zero]; rfl) hS
theorem nn_not {n : Nat} (h : n < 2 ^ 31) : ¬ nI n < 0 := nI_nn h
theorem q_restore {x : XS} {μ : St} (hR : RX x μ) : ∃ (r : Int32) (x2 : XS) (μ2 : St), fX3_restore x = some (r, x2) ∧ fX4_restore μ = some (r, μ2) ∧ RX x2 μ2 := by
  obtain ⟨μ1, e1, hs1, hc⟩ := chg_ok hR
  obtain ⟨hS, hY, ⟨hf, hF⟩, hT⟩ := id hR
  rcases hF with h0 | ⟨h1, hSn⟩
  · refine ⟨-5, x, up μ 0 0 0, ?_, ?_, hR⟩
    · unfold fX3_restore
      rw [if_pos (hf.trans h0)]
    · unfold fX4_restore
      rw [if_pos (show (up μ 0 0 0) 6 0 = 0 from h0)]
  · obtain ⟨n, I, Bd, R⟩ := id hSn
    have hn31 : n < 2 ^ 31 := by have := I.1; omega
    have e5 : μ1 5 = μ 5 := hs1 5 (by decide) (by decide)
    refine ⟨nI n, _, cpS μ1 1 5 0 0 200, ?_, ?_, hc x.2.2.2.1 (cpS μ1 1 5 0 0 200) (fun a ha => cpS_n ha) ?_⟩
    · unfold fX3_restore
      rw [if_neg (by rw [hf, h1]; decide)]
      show (fX3_recorded (xH (xB x x.2.1) x.2.2.2.1) (x.2.2.2.1 6 0)).bind _ = _
      rw [R.1]
      exact X3_rec (nn_not hn31)
    · unfold fX4_restore
      rw [if_neg (show ¬ (up μ 0 0 0) 6 0 = 0 from fun z => by rw [show (up μ 0 0 0) 6 0 = 1 from h1] at z; exact absurd z (by decide)), e1, Option.bind_some, copy_all (F := fX4_restore_21) (fun σ => some (σ 1 5, σ)) 1 5 0 0 200 (by decide) (Or.inl (by decide)) (by decide) (fun n σ2 i hi e => by
        rw [fX4_restore_21_s, if_neg (ge200 hi), if_neg (vp_in_nI hi (by decide)), if_neg (vp_in_nI hi (by decide)), nI_1, cl (by omega), Nat.zero_add]) (fun n σ2 => by rw [fX4_restore_21_s, if_pos (by exact Int32.le_refl _)])]
      show some (cpS μ1 1 5 0 0 200 1 5, _) = _
      rw [cpS_in (by omega) (by omega), e5, Nat.sub_zero, Nat.zero_add, I.2.1]
    · exact RS_cong (fun j hj => by rw [cpS_in (by omega) (by omega), Nat.zero_add, Nat.sub_zero, e5]) hSn
theorem at5 {P : Nat → Prop} (h0 : P 0) (h1 : P 1) (h2 : P 2) (h3 : P 3) (h4 : P 4) : ∀ j, j < 5 → P j := fun j hj => by
  rcases j with _ | _ | _ | _ | _ | j
  · exact h0
  · exact h1
  · exact h2
  · exact h3
  · exact h4
  · omega
theorem RX_start (B : Nat) : RX (x0 B) m0 := by
  refine ⟨⟨0, ⟨by decide, rfl, by decide, fun k hk => absurd hk (Nat.not_lt_zero k), ?_, ?_, fun k hk => absurd hk (Nat.not_lt_zero k)⟩, ⟨?_, ⟨97, by decide, by decide, rfl⟩, fun k hk => absurd hk (Nat.not_lt_zero k)⟩, ⟨rfl, ?_, rfl, fun k hk => absurd hk (Nat.not_lt_zero k), ?_⟩⟩, ⟨Nat.zero_le 4, rfl, fun i hi => absurd hi (Nat.not_lt_zero i)⟩, ⟨rfl, Or.inl rfl⟩, ⟨0, by decide, rfl, rfl, fun i hi => absurd hi (Nat.not_lt_zero i)⟩⟩
  · decide +kernel
  · have h : ∀ k, k < 24 → m0 1 (8 + 8 * k + 4) = 0 ∧ m0 1 (8 + 8 * k + 5) = 0 ∧ m0 1 (8 + 8 * k + 6) = 0 ∧ m0 1 (8 + 8 * k + 7) = 0 := by decide +kernel
    exact fun k _ hk => h k hk
  · exact at5 ⟨31, by decide, rfl, fun _ => by decide⟩ ⟨17, by decide, rfl, fun _ => by decide⟩ ⟨97, by decide, rfl, fun z => absurd rfl z⟩ ⟨10, by decide, rfl, fun _ => by decide⟩ ⟨5, by decide, rfl, fun _ => by decide⟩
  · exact (by decide +kernel : ∀ i, i < 5 → h0 0 i = m0 1 i)
  · exact (by decide +kernel : ∀ k, k < 32 → bt (h0 7 0) k = (decide (k < 0) && decide (m0 1 (8 + 8 * k + 4) = 1)) ∧ bt (h0 9 0) k = (decide (k < 0) && decide (m0 1 (8 + 8 * k + 5) = 1)) ∧ bt (h0 8 0) k = (decide (k < 0) && decide (m0 1 (8 + 8 * k + 6) = 1)))
