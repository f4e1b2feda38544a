/-! PURE: the reference's copying loops, its history -/
def cpS (σ : St) (d c base sb i : Nat) : St := fun a => if a = d then (fun j => if base ≤ j ∧ j < base + i then σ c (sb + (j - base)) else σ d j) else σ a
theorem cpS_0 {σ : St} {d c base sb : Nat} : cpS σ d c base sb 0 = σ := by
  funext a
  unfold cpS
  by_cases h : a = d
  · subst h
    rw [if_pos rfl]
    funext j
    rw [if_neg (by omega)]
  · rw [if_neg h]
theorem cpS_n {σ : St} {d c base sb i a : Nat} (h : a ≠ d) : cpS σ d c base sb i a = σ a := if_neg h
theorem cpS_in {σ : St} {d c base sb i j : Nat} (h1 : base ≤ j) (h2 : j < base + i) : cpS σ d c base sb i d j = σ c (sb + (j - base)) := by
  unfold cpS
  rw [if_pos rfl]
  exact if_pos ⟨h1, h2⟩
theorem cpS_out {σ : St} {d c base sb i j : Nat} (h : j < base ∨ base + i ≤ j) : cpS σ d c base sb i d j = σ d j := by
  unfold cpS
  rw [if_pos rfl]
  exact if_neg (by omega)
theorem cpS_step {σ : St} {d c base sb i : Nat} (hc : c ≠ d ∨ base ≤ sb) : up (cpS σ d c base sb i) d (base + i) (cpS σ d c base sb i c (sb + i)) = cpS σ d c base sb (i + 1) := by
  have hv : cpS σ d c base sb i c (sb + i) = σ c (sb + i) := by
    by_cases h : c = d
    · subst h
      exact cpS_out (Or.inr (by have := hc.resolve_left (fun z => z rfl); omega))
    · rw [cpS_n h]
  rw [hv]
  funext a
  by_cases h : a = d
  · subst h
    rw [up_s]
    funext j
    by_cases hj : j = base + i
    · subst hj
      rw [upd_s, cpS_in (by omega) (by omega)]
      congr 1
      omega
    · rw [upd_n hj]
      by_cases h2 : base ≤ j ∧ j < base + i
      · rw [cpS_in h2.1 h2.2, cpS_in h2.1 (by omega)]
      · rw [cpS_out (by omega), cpS_out (by omega)]
  · rw [up_n h, cpS_n h, cpS_n h]
theorem copy_loop {Rt : Type} (F : Nat → St → Int32 → Option Rt) (E : St → Option Rt) (d c base sb N : Nat) (hc : c ≠ d ∨ base ≤ sb) (h4 : d ≠ 4) (σ : St) (step : ∀ (n : Nat) (σ2 : St) (i : Nat), i < N → σ2 4 0 = σ 4 0 → F (n + 1) σ2 (nI i) = F n (up σ2 d (base + i) (σ2 c (sb + i))) (nI (i + 1))) (stop : ∀ (n : Nat) (σ2 : St), F (n + 1) σ2 (nI N) = E σ2) :
    ∀ m n : Nat, m ≤ N → m < n → F n (cpS σ d c base sb (N - m)) (nI (N - m)) = E (cpS σ d c base sb N) := by
  intro m
  induction m with
  | zero =>
    intro n _ hn
    obtain ⟨n, rfl⟩ : ∃ q, n = q + 1 := ⟨n - 1, by omega⟩
    exact stop n _
  | succ m ih =>
    intro n hm hn
    obtain ⟨n, rfl⟩ : ∃ q, n = q + 1 := ⟨n - 1, by omega⟩
    rw [step n _ (N - (m + 1)) (by omega) (by rw [cpS_n (Ne.symm h4)]), cpS_step hc]
    have e : N - (m + 1) + 1 = N - m := by omega
    rw [e]
    exact ih n (by omega) (by omega)
theorem copy_all {Rt : Type} {F : Nat → St → Int32 → Option Rt} (E : St → Option Rt) (d c base sb N : Nat) (hN : N < 1000) (hc : c ≠ d ∨ base ≤ sb) (h4 : d ≠ 4) {σ : St} (step : ∀ (n : Nat) (σ2 : St) (i : Nat), i < N → σ2 4 0 = σ 4 0 → F (n + 1) σ2 (nI i) = F n (up σ2 d (base + i) (σ2 c (sb + i))) (nI (i + 1))) (stop : ∀ (n : Nat) (σ2 : St), F (n + 1) σ2 (nI N) = E σ2) : F 1000 σ 0 = E (cpS σ d c base sb N) := by
  have h := copy_loop F E d c base sb N hc h4 σ step stop N 1000 (Nat.le_refl _) hN
  rw [Nat.sub_self, cpS_0] at h
  exact h
theorem nI_ge_lit {i N : Nat} (h : i < N) (hN : N < 2 ^ 31) : ¬ nI N ≤ nI i := fun z => by have := (nI_leI (by omega) (by omega)).mp z; omega
theorem ge200 {i : Nat} (h : i < 200) : ¬ (200 : Int32) ≤ nI i := nI_ge_lit (N := 200) h (by decide)
theorem ge600 {i : Nat} (h : i < 600) : ¬ (600 : Int32) ≤ nI i := nI_ge_lit (N := 600) h (by decide)
theorem ix200 {k i : Nat} (hk : k < 4) (hi : i < 200) : (200 * nI k) + nI i = nI (200 * k + i) := by
  have h8 : (200 : Int32) = nI 200 := rfl
  rw [h8, pk_mul, nI_add]
theorem rec51 {μ : St} {k : Nat} (hk : k < 4) (h : μ 4 0 = nI k) : fX4_records_51 1000 μ 0 = some (up (cpS μ 3 1 (200 * k) 0 200) 4 0 (nI (k + 1))) := by
  rw [copy_all (F := fX4_records_51) (fun σ => some (up σ 4 0 ((σ 4 0) + 1))) 3 1 (200 * k) 0 200 (by decide) (Or.inl (by decide)) (by decide) (σ := μ) (fun n σ2 i hi e => by
    rw [fX4_records_51_s, if_neg (ge200 hi), if_neg (vp_in_nI hi (by decide)), e, h, ix200 hk hi, if_neg (vp_in_nI (by omega) (by decide)), nI_1, cl (by omega), cl (by omega), Nat.zero_add]) (fun n σ2 => by rw [fX4_records_51_s, if_pos (by exact Int32.le_refl _)])]
  show some (up (cpS μ 3 1 (200 * k) 0 200) 4 0 (cpS μ 3 1 (200 * k) 0 200 4 0 + 1)) = _
  rw [cpS_n (by decide), h, nI_1]
theorem rec10 {μ : St} (h : μ 4 0 = nI 4) : fX4_records_10 1000 μ 0 = fX4_records_51 1000 (up (cpS μ 3 3 0 200 600) 4 0 (nI 3)) 0 := by
  rw [copy_all (F := fX4_records_10) (fun σ => fX4_records_51 1000 (up σ 4 0 ((σ 4 0) - 1)) 0) 3 3 0 200 600 (by decide) (Or.inr (by decide)) (by decide) (σ := μ) (fun n σ2 i hi e => by
    have e2 : nI i + 200 = nI (200 + i) := by rw [lit_nI, nI_add, Nat.add_comm]
    rw [fX4_records_10_s, if_neg (ge600 hi), e2, if_neg (vp_in_nI (by omega) (by decide)), if_neg (vp_in_nI (by omega) (by decide)), nI_1, cl (by omega), cl (by omega), Nat.zero_add]) (fun n σ2 => by rw [fX4_records_10_s, if_pos (by exact Int32.le_refl _)])]
  show fX4_records_51 1000 (up (cpS μ 3 3 0 200 600) 4 0 (cpS μ 3 3 0 200 600 4 0 - 1)) 0 = _
  rw [cpS_n (by decide), h]
  rfl
theorem records_ok {μ : St} {k : Nat} (hk : k ≤ 4) (h : μ 4 0 = nI k) : ∃ μ2 : St, fX4_records μ = some μ2 ∧ (∀ a, a ≠ 3 → a ≠ 4 → μ2 a = μ a) ∧ (k < 4 → μ2 4 0 = nI (k + 1) ∧ ∀ i j, j < 200 → i ≤ k → μ2 3 (200 * i + j) = if i = k then μ 1 j else μ 3 (200 * i + j)) ∧ (k = 4 → μ2 4 0 = nI 4 ∧ ∀ i j, j < 200 → i < 4 → μ2 3 (200 * i + j) = if i = 3 then μ 1 j else μ 3 (200 * (i + 1) + j)) := by
  unfold fX4_records
  by_cases h4 : k = 4
  · subst h4
    rw [if_pos (show μ 4 0 = 4 from h), rec10 h, rec51 (k := 3) (by decide) (by rw [up_s, upd_s])]
    refine ⟨_, rfl, fun a h3 h4 => ?_, fun z => absurd z (by decide), fun _ => ⟨by rw [up_s, upd_s], fun i j hj hi => ?_⟩⟩
    · rw [up_n h4, cpS_n h3, up_n h4, cpS_n h3]
    · rw [up_n (by decide)]
      by_cases h3 : i = 3
      · subst h3
        rw [cpS_in (by omega) (by omega), if_pos rfl, up_n (by decide), cpS_n (by decide)]
        exact congrArg (μ 1) (by omega)
      · rw [cpS_out (by omega), if_neg h3, up_n (by decide), cpS_in (by omega) (by omega)]
        exact congrArg (μ 3) (by omega)
  · have hlt : k < 4 := by omega
    rw [if_neg (show ¬ μ 4 0 = 4 from fun z => h4 (nI_inj (b := 4) (by omega) (by decide) (h.symm.trans z))), rec51 hlt h]
    refine ⟨_, rfl, fun a h3 h4 => ?_, fun _ => ⟨by rw [up_s, upd_s], fun i j hj hi => ?_⟩, fun z => absurd z h4⟩
    · rw [up_n h4, cpS_n h3]
    · rw [up_n (by decide)]
      by_cases hik : i = k
      · subst hik
        rw [cpS_in (by omega) (by omega), if_pos rfl]
        exact congrArg (μ 1) (by omega)
      · rw [cpS_out (by omega), if_neg hik]
theorem putAside_eq {μ : St} : fX4_putAside μ = some (cpS μ 2 1 0 0 200) := by
  unfold fX4_putAside
  rw [copy_all (F := fX4_putAside_2) (fun σ => some σ) 2 1 0 0 200 (by decide) (Or.inl (by decide)) (by decide) (σ := μ) (fun n σ2 i hi e => by
    rw [fX4_putAside_2_s, if_neg (ge200 hi), if_neg (vp_in_nI hi (by decide)), if_neg (vp_in_nI hi (by decide)), nI_1, cl (by omega), Nat.zero_add]) (fun n σ2 => by rw [fX4_putAside_2_s, if_pos (by exact Int32.le_refl _)])]
theorem takeBack_eq {μ : St} : fX4_takeBack μ = some (cpS μ 1 2 0 0 200) := by
  unfold fX4_takeBack
  rw [copy_all (F := fX4_takeBack_2) (fun σ => some σ) 1 2 0 0 200 (by decide) (Or.inl (by decide)) (by decide) (σ := μ) (fun n σ2 i hi e => by
    rw [fX4_takeBack_2_s, if_neg (ge200 hi), if_neg (vp_in_nI hi (by decide)), if_neg (vp_in_nI hi (by decide)), nI_1, cl (by omega), Nat.zero_add]) (fun n σ2 => by rw [fX4_takeBack_2_s, if_pos (by exact Int32.le_refl _)])]
/-! the relation sees the reference's array below 200 alone -/
theorem SI_cong {n : Nat} {s s2 : Nat → Int32} (h : ∀ j, j < 200 → s2 j = s j) (I : SI n s) : SI n s2 := by
  obtain ⟨h1, h2, h3, h4, h5, h6, h7⟩ := I
  refine ⟨h1, by rw [h 5 (by decide)]; exact h2, by rw [h 2 (by decide)]; exact h3, fun k hk => ?_, fun k hk => ?_, fun k h0 hk => ?_, fun k hk => ?_⟩
  · rw [h _ (by omega)]
    exact h4 k hk
  · rw [h _ (by omega), h _ (by omega), h _ (by omega)]
    exact h5 k hk
  · rw [h _ (by omega), h _ (by omega), h _ (by omega), h _ (by omega)]
    exact h6 k h0 hk
  · rw [h _ (by omega), h _ (by omega)]
    exact h7 k hk
theorem RH_cong {n : Nat} {σ : St} {s s2 : Nat → Int32} (hn : n ≤ 24) (h : ∀ j, j < 200 → s2 j = s j) (R : RH n σ s) : RH n σ s2 := by
  obtain ⟨h1, h2, h3, h4, h5⟩ := R
  refine ⟨h1, fun i hi => ?_, by rw [h 6 (by decide)]; exact h3, fun k hk => ?_, fun k hk => ?_⟩
  · rw [h i (by omega)]
    exact h2 i hi
  · rw [h _ (by omega), h _ (by omega), h _ (by omega), h _ (by omega), h _ (by omega)]
    exact h4 k hk
  · by_cases hkn : k < n
    · rw [h _ (by omega), h _ (by omega), h _ (by omega)]
      exact h5 k hk
    · have h9 := h5 k hk
      rw [decide_eq_false hkn] at h9 ⊢
      simpa using h9
theorem SB_cong {n : Nat} {s s2 : Nat → Int32} (hn : n ≤ 24) (h : ∀ j, j < 200 → s2 j = s j) (I : SB n s) : SB n s2 := by
  obtain ⟨h1, h2, h3⟩ := I
  refine ⟨fun i hi => ?_, by rw [h 2 (by decide)]; exact h2, fun k hk => ?_⟩
  · rw [h i (by omega)]
    exact h1 i hi
  · rw [h _ (by omega), h _ (by omega)]
    exact h3 k hk
theorem RS_cong {σ : St} {s s2 : Nat → Int32} (h : ∀ j, j < 200 → s2 j = s j) (R : RS σ s) : RS σ s2 := by
  obtain ⟨n, I, Bd, R⟩ := R
  exact ⟨n, SI_cong h I, SB_cong I.1 h Bd, RH_cong I.1 h R⟩
