/-! PURE: the reference reads a whole order -/
/-- all below slot 9 stays, the table of orders stays below b -/
def HH (b : Nat) (μ μ2 : St) : Prop := (∀ a, a < 9 → μ2 a = μ a) ∧ ∀ i, i < b → μ2 11 i = μ 11 i
theorem HH.of {b : Nat} {μ μ2 : St} (h : GG b μ μ2) : HH b μ μ2 := ⟨fun a ha => h.1 a (by omega) (by omega) (by omega), h.2⟩
theorem HH.trans {b : Nat} {μ μ2 μ3 : St} (h : HH b μ μ2) (h2 : HH b μ2 μ3) : HH b μ μ3 := ⟨fun a ha => (h2.1 a ha).trans (h.1 a ha), fun i hi => (h2.2 i hi).trans (h.2 i hi)⟩
theorem HH.mono {b c : Nat} {μ μ2 : St} (h : HH b μ μ2) (hc : c ≤ b) : HH c μ μ2 := ⟨h.1, fun i hi => h.2 i (by omega)⟩
theorem HH.n12 {b : Nat} {v : Int32} {μ : St} : HH b μ (up μ 12 0 v) := ⟨fun a ha => up_n (by omega), fun i _ => by rw [up_n (by decide)]⟩
theorem HH.refl {b : Nat} {μ : St} : HH b μ μ := ⟨fun _ _ => rfl, fun _ _ => rfl⟩
/-- what the table keeps of an order at b -/
def EN (μ : St) (b : Nat) (k a e d : Int32) : Prop := μ 11 b = k ∧ ((k = 99 ∧ μ 11 (b + 1) = a ∧ μ 11 (b + 2) = e ∧ μ 11 (b + 3) = d) ∨ ((k = 111 ∨ k = 115) ∧ μ 11 (b + 1) = a) ∨ (k = 120 ∧ μ 11 (b + 1) = a ∧ μ 11 (b + 2) = e))
def KT (σ : St) : Option St := if (σ 10 0) = 0 then (some (up σ 12 0 ((σ 12 0) + 0))) else (some (up σ 12 0 ((σ 12 0) + 1)))
theorem KT_bad {σ : St} (h : σ 10 0 = 0) : KT σ = some (up σ 12 0 ((σ 12 0) + 0)) := if_pos h
theorem KT_good {σ : St} (h : σ 10 0 = 1) : KT σ = some (up σ 12 0 ((σ 12 0) + 1)) := if_neg (by rw [h]; decide)
theorem MS.z {T : Nat → Int32} {L p : Nat} {g : Int32} {μ : St} (h : MS T L p g μ) : μ 10 0 = g := h.2.2.2.1
theorem KR_c {σ : St} {b : Nat} (hb : b + 3 < 96) : KR σ (nI b) 99 = (fX4_readsCart (up σ 11 b 99) (nI b)).bind KT := by
  unfold KR
  rw [if_neg (vp_in_nI (by omega) (by decide)), if_pos rfl, cl (by omega)]
  rfl
theorem KR_o {σ : St} {b : Nat} (hb : b + 3 < 96) {k : Int32} (h1 : ¬ k = 99) (h2 : ¬ k = 120) : KR σ (nI b) k = (fX4_number (up σ 11 b k) 23).bind (fun q => KT (up q.2 11 (b + 1) q.1)) := by
  unfold KR
  have o1 : (oob (nI (b + 1)) 96) = False := oobF (by omega) (by decide)
  rw [if_neg (vp_in_nI (by omega) (by decide)), if_neg h1, show nI b + 1 = nI (b + 1) from nI_p (k := 1)]
  simp only [h2, o1, if_false, cl (show b < 2 ^ 31 by omega), cl (show b + 1 < 2 ^ 31 by omega)]
  rfl
theorem KR_x {σ : St} {b : Nat} (hb : b + 3 < 96) : KR σ (nI b) 120 = (fX4_number (up σ 11 b 120) 23).bind (fun q => (fX4_wants (up q.2 11 (b + 1) q.1) 61).bind (fun σ39 => (fX4_number σ39 99).bind (fun q42 => KT (up q42.2 11 (b + 2) q42.1)))) := by
  unfold KR
  have o1 : (oob (nI (b + 1)) 96) = False := oobF (by omega) (by decide)
  have o2 : (oob (nI (b + 2)) 96) = False := oobF (by omega) (by decide)
  rw [if_neg (vp_in_nI (by omega) (by decide)), if_neg (by decide), show nI b + 1 = nI (b + 1) from nI_p (k := 1), show nI b + 2 = nI (b + 2) from nI_p (k := 2)]
  simp only [o1, o2, if_false, if_true, cl (show b < 2 ^ 31 by omega), cl (show b + 1 < 2 ^ 31 by omega), cl (show b + 2 < 2 ^ 31 by omega)]
  rfl
theorem sg_ne {T : Nat → Int32} {L p : Nat} {c e : Int32} (h : sg T L c p = true) (hce : ¬ c = e) : sg T L e p = false := by
  unfold sg at h ⊢
  have h := of_decide_eq_true h
  exact decide_eq_false (fun z => hce (h.2.symm.trans z.2))
theorem KRo_ok {T : Nat → Int32} {L p c : Nat} {σ μ : St} {k : Int32} (hk : k = 111 ∨ k = 115) (hb : 4 * c + 3 < 96) (h : MS T L p 1 σ) (hp : p ≤ L) (hc : σ 12 0 = nI c) (hH : HH (4 * c) μ σ) : match odO T L k p with
    | .inl q => ∃ μ2, KR σ (nI (4 * c)) k = some μ2 ∧ MS T L q 0 μ2 ∧ HH (4 * c) μ μ2
    | .inr (k2, a, e, d, q) => ∃ μ2, KR σ (nI (4 * c)) k = some μ2 ∧ MS T L q 1 μ2 ∧ HH (4 * c) μ μ2 ∧ μ2 12 0 = nI (c + 1) ∧ EN μ2 (4 * c) k2 a e d := by
  have n1 : ¬ k = 99 := by rcases hk with e | e <;> rw [e] <;> decide
  have n2 : ¬ k = 120 := by rcases hk with e | e <;> rw [e] <;> decide
  have t0 : MS T L p 1 (up σ 11 (4 * c) k) := h.slot (by decide)
  obtain ⟨v, μ1, e1, f1, m1⟩ := number_good (m := 23) t0 hp
  have g1 : HH (4 * c) μ (up μ1 11 (4 * c + 1) v) := hH.trans (HH.of (((GG.slot (Nat.le_refl _)).trans (GG.of f1)).trans (GG.slot (by omega))))
  have e12 : (up μ1 11 (4 * c + 1) v) 12 0 = nI c := by rw [up_n (by decide), f1 12 (by decide) (by decide), up_n (by decide)]; exact hc
  unfold odO
  cases h1 : nm T L 23 p with
  | none =>
    rw [h1] at m1
    have m2 : MS T L p 0 (up μ1 11 (4 * c + 1) v) := m1.slot (by decide)
    refine ⟨_, by rw [KR_o hb n1 n2, e1, Option.bind_some]; exact KT_bad m2.z, m2.slot (by decide), g1.trans HH.n12⟩
  | some x =>
    obtain ⟨a, q⟩ := x
    rw [h1] at m1
    obtain ⟨rfl, m1⟩ := m1
    have m2 : MS T L q 1 (up μ1 11 (4 * c + 1) v) := m1.slot (by decide)
    refine ⟨_, by rw [KR_o hb n1 n2, e1, Option.bind_some]; exact KT_good m2.z, m2.slot (by decide), g1.trans HH.n12, by rw [up_s, upd_s, e12, nI_1], ?_, Or.inr (Or.inl ⟨hk, ?_⟩)⟩
    · rw [up_n (by decide), up_s, upd_n (by omega), f1 11 (by decide) (by decide), up_s, upd_s]
    · rw [up_n (by decide), up_s, upd_s]
theorem KRx_ok {T : Nat → Int32} {L p c : Nat} {σ μ : St} (hb : 4 * c + 3 < 96) (h : MS T L p 1 σ) (hp : p ≤ L) (hc : σ 12 0 = nI c) (hH : HH (4 * c) μ σ) : match odX T L p with
    | .inl q => ∃ μ2, KR σ (nI (4 * c)) 120 = some μ2 ∧ MS T L q 0 μ2 ∧ HH (4 * c) μ μ2
    | .inr (k, a, e, d, q) => ∃ μ2, KR σ (nI (4 * c)) 120 = some μ2 ∧ MS T L q 1 μ2 ∧ HH (4 * c) μ μ2 ∧ μ2 12 0 = nI (c + 1) ∧ EN μ2 (4 * c) k a e d := by
  have t0 : MS T L p 1 (up σ 11 (4 * c) 120) := h.slot (by decide)
  obtain ⟨v, μ1, e1, f1, m1⟩ := number_good (m := 23) t0 hp
  have g1 : HH (4 * c) μ (up μ1 11 (4 * c + 1) v) := hH.trans (HH.of (((GG.slot (Nat.le_refl _)).trans (GG.of f1)).trans (GG.slot (by omega))))
  rw [KR_x hb, e1, Option.bind_some]
  unfold odX
  have bad : ∀ q, q ≤ L → MS T L q 0 (up μ1 11 (4 * c + 1) v) → ∃ μ2, (fX4_wants (up μ1 11 (4 * c + 1) v) 61).bind (fun σ39 => (fX4_number σ39 99).bind (fun q42 => KT (up q42.2 11 (4 * c + 2) q42.1))) = some μ2 ∧ MS T L q 0 μ2 ∧ HH (4 * c) μ μ2 := by
    intro q hq m2
    obtain ⟨μ3, e3, f3, m3⟩ := wants_bad (c := 61) m2
    obtain ⟨v4, μ4, e4, f4, m4⟩ := number_bad (m := 99) m3 hq
    have m5 : MS T L q 0 (up μ4 11 (4 * c + 2) v4) := m4.slot (by decide)
    rw [e3, Option.bind_some, e4, Option.bind_some]
    exact ⟨_, KT_bad m5.z, m5.slot (by decide), (g1.trans (HH.of ((GG.of (f3.trans f4)).trans (GG.slot (by omega))))).trans HH.n12⟩
  cases h1 : nm T L 23 p with
  | none =>
    rw [h1] at m1
    exact bad p hp (m1.slot (by decide))
  | some x =>
    obtain ⟨a, p1⟩ := x
    have l1 := nm_le h1
    rw [h1] at m1
    obtain ⟨rfl, m1⟩ := m1
    have m2 : MS T L p1 1 (up μ1 11 (4 * c + 1) v) := m1.slot (by decide)
    obtain ⟨μ3, e3, f3, m3⟩ := wants_good (c := 61) m2 l1.2 (by decide)
    by_cases s2 : sg T L 61 p1 = true
    · rw [if_pos s2] at m3
      have hp2 := sg_lt s2
      obtain ⟨v4, μ4, e4, f4, m4⟩ := number_good (m := 99) m3 hp2
      simp only [s2, if_true]
      rw [e3, Option.bind_some, e4, Option.bind_some]
      have g4 : HH (4 * c) μ (up μ4 11 (4 * c + 2) v4) := g1.trans (HH.of ((GG.of (f3.trans f4)).trans (GG.slot (by omega))))
      cases h2 : nm T L 99 (p1 + 1) with
      | none =>
        rw [h2] at m4
        have m5 : MS T L (p1 + 1) 0 (up μ4 11 (4 * c + 2) v4) := m4.slot (by decide)
        exact ⟨_, KT_bad m5.z, m5.slot (by decide), g4.trans HH.n12⟩
      | some y =>
        obtain ⟨e, p2⟩ := y
        rw [h2] at m4
        obtain ⟨rfl, m4⟩ := m4
        have m5 : MS T L p2 1 (up μ4 11 (4 * c + 2) v4) := m4.slot (by decide)
        have e12 : (up μ4 11 (4 * c + 2) v4) 12 0 = nI c := by rw [up_n (by decide), f4 12 (by decide) (by decide), f3 12 (by decide) (by decide), up_n (by decide), f1 12 (by decide) (by decide), up_n (by decide)]; exact hc
        have e11 : μ4 11 = (up μ1 11 (4 * c + 1) v) 11 := by rw [f4 11 (by decide) (by decide), f3 11 (by decide) (by decide)]
        refine ⟨up (up μ4 11 (4 * c + 2) v4) 12 0 ((up μ4 11 (4 * c + 2) v4) 12 0 + 1), KT_good m5.z, m5.slot (by decide), g4.trans HH.n12, by rw [up_s, upd_s, e12, nI_1], ?_, Or.inr (Or.inr ⟨rfl, ?_, ?_⟩)⟩
        · rw [up_n (by decide), up_s, upd_n (by omega), e11, up_s, upd_n (by omega), f1 11 (by decide) (by decide), up_s, upd_s]
        · rw [up_n (by decide), up_s, upd_n (by omega), e11, up_s, upd_s]
        · rw [up_n (by decide), up_s, upd_s]
    · rw [if_neg s2] at m3
      obtain ⟨v4, μ4, e4, f4, m4⟩ := number_bad (m := 99) m3 l1.2
      simp only [s2, if_false, Bool.false_eq_true]
      rw [e3, Option.bind_some, e4, Option.bind_some]
      have m5 : MS T L p1 0 (up μ4 11 (4 * c + 2) v4) := m4.slot (by decide)
      exact ⟨_, KT_bad m5.z, m5.slot (by decide), (g1.trans (HH.of ((GG.of (f3.trans f4)).trans (GG.slot (by omega))))).trans HH.n12⟩
theorem KRc_ok {T : Nat → Int32} {L p c : Nat} {σ μ : St} (hb : 4 * c + 3 < 96) (h : MS T L p 1 σ) (hp : p ≤ L) (hc : σ 12 0 = nI c) (hH : HH (4 * c) μ σ) : match odC T L p with
    | .inl q => ∃ μ2, KR σ (nI (4 * c)) 99 = some μ2 ∧ MS T L q 0 μ2 ∧ HH (4 * c) μ μ2
    | .inr (k, a, e, d, q) => ∃ μ2, KR σ (nI (4 * c)) 99 = some μ2 ∧ MS T L q 1 μ2 ∧ HH (4 * c) μ μ2 ∧ μ2 12 0 = nI (c + 1) ∧ EN μ2 (4 * c) k a e d := by
  have t0 : MS T L p 1 (up σ 11 (4 * c) 99) := h.slot (by decide)
  have r := rC_ok (b := 4 * c) t0 hp hb
  have g0 : HH (4 * c) μ (up σ 11 (4 * c) 99) := hH.trans (HH.of (GG.slot (Nat.le_refl _)))
  rw [KR_c hb]
  cases ho : odC T L p with
  | inl q =>
    rw [ho] at r
    obtain ⟨μ1, e1, m1, g1⟩ := r
    exact ⟨_, by rw [e1, Option.bind_some]; exact KT_bad m1.z, m1.slot (by decide), (g0.trans (HH.of (g1.mono (by omega)))).trans HH.n12⟩
  | inr y =>
    obtain ⟨k, a, e, d, q⟩ := y
    rw [ho] at r
    obtain ⟨μ1, e1, m1, g1, hk, a1, a2, a3⟩ := r
    have e12 : μ1 12 0 = nI c := by rw [g1.1 12 (by decide) (by decide) (by decide), up_n (by decide)]; exact hc
    refine ⟨_, by rw [e1, Option.bind_some]; exact KT_good m1.z, m1.slot (by decide), (g0.trans (HH.of (g1.mono (by omega)))).trans HH.n12, by rw [up_s, upd_s, e12, nI_1], ?_, Or.inl ⟨hk, ?_, ?_, ?_⟩⟩
    · rw [up_n (by decide), g1.2 (4 * c) (by omega), up_s, upd_s, hk]
    · rw [up_n (by decide)]
      exact a1
    · rw [up_n (by decide)]
      exact a2
    · rw [up_n (by decide)]
      exact a3
theorem rO_ok {T : Nat → Int32} {L p c : Nat} {g : Int32} {μ : St} (hb : 4 * c + 3 < 96) (h : MS T L p g μ) (hp : p ≤ L) (hc : μ 12 0 = nI c) : match od T L p with
    | .inl q => ∃ μ2, fX4_readsOrder μ = some μ2 ∧ MS T L q 0 μ2 ∧ HH (4 * c) μ μ2
    | .inr (k, a, e, d, q) => ∃ μ2, fX4_readsOrder μ = some μ2 ∧ MS T L q 1 μ2 ∧ HH (4 * c) μ μ2 ∧ μ2 12 0 = nI (c + 1) ∧ EN μ2 (4 * c) k a e d := by
  have h9 : ∀ g : Int32, (up μ 10 0 g) 9 0 = nI p := fun g => by rw [up_n (by decide)]; exact h.2.2.1
  have t1 : MS T L (p + 1) 1 (up (up μ 10 0 1) 9 0 ((up μ 10 0 1) 9 0 + 1)) := h.go (by rw [h9, nI_1])
  have t0 : MS T L p 0 (up (up μ 10 0 0) 9 0 ((up μ 10 0 0) 9 0 + 0)) := h.go (by rw [h9, add0])
  have hH : ∀ g v : Int32, HH (4 * c) μ (up (up μ 10 0 g) 9 0 v) := fun g v => HH.of (GG.of FR_go)
  have c1 : ∀ g v : Int32, (up (up μ 10 0 g) 9 0 v) 12 0 = nI c := fun g v => by rw [up_n (by decide), up_n (by decide)]; exact hc
  have e4 : (4 : Int32) * μ 12 0 = nI (4 * c) := by rw [hc, show (4 : Int32) = nI 4 from rfl, pk_mul]
  have r99 := sg_if (T := T) (L := L) (p := p) (c := 99) (by decide)
  have r111 := sg_if (T := T) (L := L) (p := p) (c := 111) (by decide)
  have r115 := sg_if (T := T) (L := L) (p := p) (c := 115) (by decide)
  have r120 := sg_if (T := T) (L := L) (p := p) (c := 120) (by decide)
  rw [readsOrder_eq, sign4 h hp, Option.bind_some, e4]
  unfold od
  by_cases s1 : sg T L 99 p = true
  · have q := r99.mpr s1
    rw [q, if_pos rfl, if_pos s1]
    exact KRc_ok hb t1 (sg_lt s1) (c1 _ _) (hH _ _)
  · rw [if_neg s1]
    by_cases s2 : sg T L 111 p = true
    · have q := r111.mpr s2
      rw [q, if_pos s2, if_neg (show ¬ (111 : Int32) = 99 by decide), if_pos rfl]
      exact KRo_ok (Or.inl rfl) hb t1 (sg_lt s2) (c1 _ _) (hH _ _)
    · rw [if_neg s2]
      by_cases s4 : sg T L 120 p = true
      · have q := r120.mpr s4
        have s3 : ¬ sg T L 115 p = true := by rw [sg_ne s4 (by decide)]; decide
        rw [q, if_neg s3, if_pos s4, if_neg (show ¬ (120 : Int32) = 99 by decide), if_neg (show ¬ (120 : Int32) = 111 by decide), if_pos rfl]
        exact KRx_ok hb t1 (sg_lt s4) (c1 _ _) (hH _ _)
      · by_cases s3 : sg T L 115 p = true
        · have q := r115.mpr s3
          rw [q, if_pos s3, if_neg (show ¬ (115 : Int32) = 99 by decide), if_neg (show ¬ (115 : Int32) = 111 by decide), if_neg (show ¬ (115 : Int32) = 120 by decide), if_pos rfl]
          exact KRo_ok (Or.inr rfl) hb t1 (sg_lt s3) (c1 _ _) (hH _ _)
        · have n1 : ¬ (if p < L then T p else 0) = 99 := fun z => s1 (r99.mp z)
          have n2 : ¬ (if p < L then T p else 0) = 111 := fun z => s2 (r111.mp z)
          have n3 : ¬ (if p < L then T p else 0) = 115 := fun z => s3 (r115.mp z)
          have n4 : ¬ (if p < L then T p else 0) = 120 := fun z => s4 (r120.mp z)
          rw [if_neg n1, if_neg n2, if_neg n4, if_neg n3, if_neg s3, if_neg s4, KR_o hb n1 n4]
          obtain ⟨v, μ1, e1, f1, m1⟩ := number_bad (m := 23) (t0.slot (k := 11) (i := 4 * c) (v := (if p < L then T p else 0)) (by decide)) hp
          have m2 : MS T L p 0 (up μ1 11 (4 * c + 1) v) := m1.slot (by decide)
          exact ⟨_, by rw [e1, Option.bind_some]; exact KT_bad m2.z, m2.slot (by decide), ((hH _ _).trans (HH.of (((GG.slot (Nat.le_refl _)).trans (GG.of f1)).trans (GG.slot (by omega))))).trans HH.n12⟩
