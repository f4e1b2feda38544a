/-! PURE: each change, over the house -/
section HL
variable {x : XS} {μ : St}
theorem hl_come (hR : RX x μ) (a b c : Int32) : ∃ (r : Int32) (σ2 : St), fX1_admit x.2.1 a b c = some (r, σ2) ∧ (r < 0 → σ2 = x.2.1) := by
  obtain ⟨n, I, Bd, R⟩ := hR.1
  have hn := I.1
  rcases come_H I R a b c with ⟨r, hr, e1, e2⟩ | ⟨w1, w2, hn24, h1, h2, rfl, rfl, hv, e2⟩
  · exact ⟨r, _, e1, fun _ => rfl⟩
  · obtain ⟨σ2, μ2, a1, -⟩ := come_ok I Bd R hn24 h1 h2 hv
    exact ⟨nI n, σ2, a1, fun z => absurd z (nI_nn (by omega))⟩
theorem hl_alter (hR : RX x μ) (a b : Int32) : ∃ (r : Int32) (σ2 : St), fX1_changeClaim x.2.1 a b = some (r, σ2) ∧ (r < 0 → σ2 = x.2.1) := by
  obtain ⟨n, I, Bd, R⟩ := hR.1
  have hn := I.1
  rcases alter_H I R a b with ⟨r, hr, e1, -⟩ | ⟨k, w, hk, hw, rfl, rfl, e1, -⟩
  · exact ⟨r, _, e1, fun _ => rfl⟩
  · obtain ⟨c, hc, ec⟩ := (Bd.2.2 k hk).1
    exact ⟨_, _, e1, fun z => absurd z (by rw [ec]; exact nI_nn (by omega))⟩
theorem hl_reseal (hR : RX x μ) (a : Int32) : ∃ (r : Int32) (σ2 : St), fX1_mendSeal x.2.1 a = some (r, σ2) ∧ (r < 0 → σ2 = x.2.1) := by
  obtain ⟨n, I, Bd, R⟩ := hR.1
  have hn := I.1
  rcases reseal_H I R a with ⟨r, hr, e1, -⟩ | ⟨k, hk, rfl, e1, -⟩
  · exact ⟨r, _, e1, fun _ => rfl⟩
  · obtain ⟨c, hc, ec⟩ := (Bd.2.2 k hk).2
    exact ⟨_, _, e1, fun z => absurd z (by rw [ec]; exact nI_nn (by omega))⟩
theorem hl_open (hR : RX x μ) (a : Int32) : ∃ (r : Int32) (σ2 : St), fX1_inspect x.2.1 a = some (r, σ2) ∧ (r < 0 → σ2 = x.2.1) := by
  obtain ⟨n, I, Bd, R⟩ := hR.1
  rcases open_H I R a with ⟨r, hr, e1, -⟩ | ⟨k, hk, rfl, ho, -⟩
  · exact ⟨r, _, e1, fun _ => rfl⟩
  · obtain ⟨r, σ2, μ2, hr, a1, -⟩ := opens_rel I Bd R hk ho
    exact ⟨nI r, σ2, a1, fun z => absurd z (nI_nn hr)⟩
theorem hl_openAll (hR : RX x μ) : ∃ (r : Int32) (σ2 : St), fX1_inspectAll x.2.1 = some (r, σ2) ∧ (r < 0 → σ2 = x.2.1) := by
  obtain ⟨n, I, Bd, R⟩ := hR.1
  have hn := I.1
  unfold fX1_inspectAll
  rw [R.1]
  rcases max_or (lf (μ 1)) n with h | ⟨m, hm, hl, h⟩
  · exact ⟨-5, _, none_loop I R h n 1000 (Nat.le_refl n) (by omega), fun _ => rfl⟩
  · obtain ⟨q, σ2, μ2, a1, a2, a3, a4, -⟩ := all_loop (n := n) n 1000 1000 0 x.2.1 μ (Nat.le_refl n) (by omega) (by omega) (by omega) I Bd R (fun j z1 z2 => by omega)
    have hq : 0 < q := a3 ⟨m, hm, hl⟩
    have hq2 : ¬ nI q ≤ 0 := fun z => by
      have := (nI_leI (b := 0) a2 (by decide)).mp z
      omega
    rw [if_neg hq2] at a4
    exact ⟨nI q, σ2, a4, fun z => absurd z (nI_nn a2)⟩
theorem hl_set (hR : RX x μ) (p1 p2 : Int32) : ∃ (r : Int32) (σ2 : St), fX1_changeSetting x.2.1 p1 p2 = some (r, σ2) ∧ (r < 0 → σ2 = x.2.1) := by
  obtain ⟨n, I, Bd, R⟩ := hR.1
  rcases pk_ix p1 (n := 5) (by decide) with h | h | ⟨i, hi, rfl⟩
  · exact ⟨-1, x.2.1, by unfold fX1_changeSetting; rw [if_pos h], fun _ => rfl⟩
  · have h : (5 : Int32) ≤ p1 := h
    have h0 : ¬ p1 < 0 := Int32.not_lt.mpr (Int32.le_trans (by decide) h)
    exact ⟨-1, x.2.1, by unfold fX1_changeSetting; rw [if_neg h0, if_neg (Int32.not_lt.mpr h)], fun _ => rfl⟩
  · have e0 : x.2.1 0 i = μ 1 i := R.2.1 i hi
    by_cases hv : p2 < tLEAST i ∨ tGREATEST i < p2
    · exact ⟨-2, x.2.1, by rw [setC hi, if_pos hv], fun _ => rfl⟩
    · by_cases he : μ 1 i = p2
      · exact ⟨-5, x.2.1, by rw [setC hi, if_neg hv, e0, if_pos he], fun _ => rfl⟩
      · obtain ⟨c, hc9, ec, -⟩ := Bd.1 i hi
        exact ⟨μ 1 i, _, by rw [setC hi, if_neg hv, e0, if_neg he], fun z => absurd z (by rw [ec]; exact nI_nn (by omega))⟩
end HL
section OPS
variable {x : XS}
theorem res_come (hI : Inv x) (a b c : Int32) : RES (fun y => fX3_come y a b c) x := by
  obtain ⟨μ, hR⟩ := hI
  obtain ⟨r, σ2, e, hr⟩ := hl_come hR a b c
  obtain ⟨r9, x9, μ9, e9, -, h9⟩ := q_come hR a b c
  exact RES_chg (fun y => fX1_admit y.2.1 a b c) (fun y _ => rfl) (fun y hy => by rw [core_h hy]) e hr ⟨r9, x9, e9, μ9, h9⟩
theorem res_alter (hI : Inv x) (a b : Int32) : RES (fun y => fX3_alter y a b) x := by
  obtain ⟨μ, hR⟩ := hI
  obtain ⟨r, σ2, e, hr⟩ := hl_alter hR a b
  obtain ⟨r9, x9, μ9, e9, -, h9⟩ := q_alter hR a b
  exact RES_chg (fun y => fX1_changeClaim y.2.1 a b) (fun y _ => rfl) (fun y hy => by rw [core_h hy]) e hr ⟨r9, x9, e9, μ9, h9⟩
theorem res_reseal (hI : Inv x) (a : Int32) : RES (fun y => fX3_reseal y a) x := by
  obtain ⟨μ, hR⟩ := hI
  obtain ⟨r, σ2, e, hr⟩ := hl_reseal hR a
  obtain ⟨r9, x9, μ9, e9, -, h9⟩ := q_reseal hR a
  exact RES_chg (fun y => fX1_mendSeal y.2.1 a) (fun y _ => rfl) (fun y hy => by rw [core_h hy]) e hr ⟨r9, x9, e9, μ9, h9⟩
theorem res_open (hI : Inv x) (a : Int32) : RES (fun y => fX3_open y a) x := by
  obtain ⟨μ, hR⟩ := hI
  obtain ⟨r, σ2, e, hr⟩ := hl_open hR a
  obtain ⟨r9, x9, μ9, e9, -, h9⟩ := q_open hR a
  exact RES_chg (fun y => fX1_inspect y.2.1 a) (fun y _ => rfl) (fun y hy => by rw [core_h hy]) e hr ⟨r9, x9, e9, μ9, h9⟩
theorem res_openAll (hI : Inv x) : RES fX3_openAll x := by
  obtain ⟨μ, hR⟩ := hI
  obtain ⟨r, σ2, e, hr⟩ := hl_openAll hR
  obtain ⟨r9, x9, μ9, e9, -, h9⟩ := q_openAll hR
  exact RES_chg (fun y => fX1_inspectAll y.2.1) (fun y _ => rfl) (fun y hy => by rw [core_h hy]) e hr ⟨r9, x9, e9, μ9, h9⟩
theorem res_set (hI : Inv x) (a b : Int32) : RES (fun y => fX3_set y a b) x := by
  obtain ⟨μ, hR⟩ := hI
  obtain ⟨r, σ2, e, hr⟩ := hl_set hR a b
  obtain ⟨r9, x9, μ9, e9, -, h9⟩ := q_set hR a b
  exact RES_chg (fun y => fX1_changeSetting y.2.1 a b) (fun y _ => rfl) (fun y hy => by rw [core_h hy]) e hr ⟨r9, x9, e9, μ9, h9⟩
theorem res_restore (hI : Inv x) : RES fX3_restore x := by
  obtain ⟨μ, hR⟩ := id hI
  by_cases h0 : x.1 = 0
  · exact RES_of (fun y hy => by
      unfold fX3_restore
      rw [if_pos ((core_1 hy).trans h0)]) (RES_same (r := -5) hI (by decide))
  · obtain ⟨r9, x9, μ9, e9, -, h9⟩ := q_restore hR
    obtain ⟨hf, hF⟩ := hR.2.2.1
    rcases hF with z | ⟨z, n, I, Bd, R⟩
    · exact absurd (hf.trans z) h0
    · have hn := I.1
      refine RES_chg (fun y => some (y.2.2.2.1 6 0, y.2.2.2.1)) (fun y hy => ?_) (fun y hy => by rw [core_s hy]) rfl (fun z => ?_) ⟨r9, x9, e9, μ9, h9⟩
      · unfold fX3_restore
        rw [if_neg (fun z => h0 ((core_1 hy).symm.trans z))]
        rfl
      · have z : x.2.2.2.1 6 0 < 0 := z
        rw [R.1] at z
        exact absurd z (nI_nn (by omega))
/-- another claim with the same seal -/
theorem other_loop {n k : Nat} {σ : St} {s : Nat → Int32} (I : SI n s) (R : RH n σ s) (hk : k < n) : ∀ (m f c : Nat), c + m = 100 → m < f → ∃ r : Int32, fX1_otherClaimForSeal_18 f σ (nI k) (sealX s k (s (8 + 8 * k))) (nI c) = some r ∧ (r = -5 ∨ ∃ w, w ≤ 99 ∧ r = nI w ∧ ¬ nI w = s (8 + 8 * k) ∧ sealX s k (nI w) = sealX s k (s (8 + 8 * k))) := by
  have hn := I.1
  intro m
  induction m with
  | zero =>
    intro f c hc hf
    obtain ⟨f, rfl⟩ : ∃ q, f = q + 1 := ⟨f - 1, by omega⟩
    have h : (99 : Int32) < nI c := nI_lt (a := 99) (by omega) (by omega)
    exact ⟨-5, by rw [fX1_otherClaimForSeal_18_s, if_pos h], Or.inl rfl⟩
  | succ m ih =>
    intro f c hc hf
    obtain ⟨f, rfl⟩ : ∃ q, f = q + 1 := ⟨f - 1, by omega⟩
    have h : ¬ (99 : Int32) < nI c := fun z => by have := (nI_ltI (a := 99) (b := c) (by decide) (by omega)).mp z; omega
    obtain ⟨r, e1, e2⟩ := ih f (c + 1) (by omega) (by omega)
    have o : (oob (nI k) 24) = False := oobF (by omega) (by decide)
    have ec := (R.2.2.2.1 k hk).1
    rw [fX1_otherClaimForSeal_18_s, if_neg h, nI_1]
    simp only [o, if_false, cl (show k < 2 ^ 31 by omega), ec, sealFor_rel I R hk, Option.bind_some]
    by_cases h1 : nI c = s (8 + 8 * k)
    · rw [if_pos h1]
      exact ⟨r, e1, e2⟩
    · rw [if_neg h1]
      by_cases h2 : sealX s k (nI c) = sealX s k (s (8 + 8 * k))
      · rw [if_pos h2]
        exact ⟨nI c, rfl, Or.inr ⟨c, by omega, rfl, h1, h2⟩⟩
      · rw [if_neg h2]
        exact ⟨r, e1, e2⟩
theorem other_in {n k : Nat} {σ : St} {s : Nat → Int32} (I : SI n s) (R : RH n σ s) (hk : k < n) : ∃ r : Int32, fX1_otherClaimForSeal σ (nI k) = some r ∧ (r = -5 ∨ ∃ w, w ≤ 99 ∧ r = nI w ∧ ¬ nI w = s (8 + 8 * k) ∧ sealX s k (nI w) = sealX s k (s (8 + 8 * k))) := by
  unfold fX1_otherClaimForSeal
  rw [knows_in R.1 I.1 hk, Option.bind_some, if_neg (by decide), rightSeal_rel I R hk, Option.bind_some]
  exact other_loop I R hk 100 1000 0 rfl (by decide)
theorem other_out {n : Nat} {σ : St} {p : Int32} (h6 : σ 6 0 = nI n) (h : p < 0 ∨ nI n ≤ p) : fX1_otherClaimForSeal σ p = some (-1) := by
  unfold fX1_otherClaimForSeal
  rw [knows_out h6 h]
  rfl
theorem Inv.same {x : XS} (h : Inv x) (p : Int32) : ∃ r : Int32, ∀ y, core y = core x → fX3_sameSeal y p = some r := by
  obtain ⟨μ, hR⟩ := h
  obtain ⟨r, -, e, -⟩ := q_sameSeal hR p
  refine ⟨r, fun y hy => ?_⟩
  rw [sameSeal_eq] at e ⊢
  rw [core_h hy]
  exact e
theorem lowE {v b : Int32} (h : ¬ b = 0) : ∃ a, fL_low v b = some a := ⟨_, if_neg h⟩
theorem lowL {x : XS} {v b : Int32} (h : ¬ b = 0) : ∃ a, ∀ y : XS, core y = core x → fL_low v b = some a := ⟨_, fun _ _ => if_neg h⟩
theorem Inv.many {x : XS} (h : Inv x) : ∃ n, n ≤ 24 ∧ ∀ y, core y = core x → fX3_total y 5 = some (nI n) := by
  obtain ⟨μ, hR⟩ := h
  obtain ⟨n, I, Bd, R⟩ := hR.1
  refine ⟨n, I.1, fun y hy => ?_⟩
  rw [total_eq y 5 (by decide) (by decide), core_h hy]
  exact ta5 R
theorem act_come {x : XS} (hI : Inv x) {n : Nat} (hn : n ≤ 24) (w : Int32) : RES (fun y => (fL_low w 20).bind (fun q4 => (if ((w >>> ((5 : Int32) &&& 31)) &&& 3) ≤ 0 then ((fL_low (w >>> ((7 : Int32) &&& 31)) 102).bind (fun q7 => some q7)) else (some q4)).bind (fun w5 => (if ((w >>> ((19 : Int32) &&& 31)) &&& 3) ≤ 0 then ((fL_low (w >>> ((12 : Int32) &&& 31)) (nI n + 2)).bind (fun q10 => some (q10 - 1))) else (some (nI n - 1))).bind (fun w8 => (fX3_come y q4 w5 w8).bind (fun q11 => some (q11.1, q11.2)))))) x := by
  refine RES_lk (lowL (by decide)) (fun q4 => RES_lk ?_ (fun w5 => RES_lk ?_ (fun w8 => RES_eta (res_come hI q4 w5 w8))))
  · by_cases h : ((w >>> ((5 : Int32) &&& 31)) &&& 3) ≤ 0
    · obtain ⟨a, e⟩ := lowE (v := w >>> ((7 : Int32) &&& 31)) (b := 102) (by decide)
      exact ⟨a, fun _ _ => by rw [if_pos h, e]; rfl⟩
    · exact ⟨q4, fun _ _ => if_neg h⟩
  · by_cases h : ((w >>> ((19 : Int32) &&& 31)) &&& 3) ≤ 0
    · obtain ⟨a, e⟩ := lowE (v := w >>> ((12 : Int32) &&& 31)) (b := nI n + 2) (fun z => by
        have z : nI n + nI 2 = nI 0 := z
        rw [nI_add] at z
        have := nI_inj (by omega) (by decide) z
        omega)
      exact ⟨a - 1, fun _ _ => by rw [if_pos h, e]; rfl⟩
    · exact ⟨nI n - 1, fun _ _ => if_neg h⟩
theorem act_alter {x : XS} (hI : Inv x) (k w : Int32) : RES (fun y => (if ((w >>> ((20 : Int32) &&& 31)) &&& 1) = 0 then (some (20 : Int32)) else (some 102)).bind (fun w49 => (fL_low w w49).bind (fun q51 => (fX3_alter y k q51).bind (fun q52 => some (q52.1, q52.2))))) x := by
  by_cases h : ((w >>> ((20 : Int32) &&& 31)) &&& 1) = 0
  · exact RES_look (fun _ _ => if_pos h) (RES_lk (lowL (by decide)) (fun q => RES_eta (res_alter hI k q)))
  · exact RES_look (fun _ _ => if_neg h) (RES_lk (lowL (by decide)) (fun q => RES_eta (res_alter hI k q)))
theorem act_res {x : XS} (hI : Inv x) (v w : Int32) : RES (fun y => fL_act y v w) x := by
  obtain ⟨n, hn, e5⟩ := hI.many
  have hz : ¬ nI n + 1 = 0 := fun z => by
    have z : nI n + nI 1 = nI 0 := z
    rw [nI_add] at z
    have := nI_inj (by omega) (by decide) z
    omega
  unfold fL_act
  refine RES_look e5 (RES_lk (lowL hz) (fun k => ?_))
  refine RES_ite (fun _ => act_come hI hn w) (fun _ => RES_ite (fun _ => act_come hI hn w) (fun _ => RES_ite (fun _ => act_come hI hn w) (fun _ => RES_ite (fun _ => act_come hI hn w) (fun _ => RES_ite (fun _ => act_come hI hn w) (fun _ => ?_)))))
  refine RES_ite (fun _ => act_alter hI k w) (fun _ => RES_ite (fun _ => act_alter hI k w) (fun _ => ?_))
  refine RES_ite (fun _ => RES_ite (fun _ => RES_eta (res_restore hI)) (fun _ => RES_eta (res_reseal hI k))) (fun _ => ?_)
  refine RES_ite (fun _ => RES_eta (res_reseal hI k)) (fun _ => RES_ite (fun _ => RES_eta (res_reseal hI k)) (fun _ => ?_))
  refine RES_ite (fun _ => RES_eta (res_open hI k)) (fun _ => RES_ite (fun _ => RES_eta (res_open hI k)) (fun _ => RES_ite (fun _ => RES_eta (res_open hI k)) (fun _ => ?_)))
  refine RES_ite (fun _ => RES_lk (lowL (by decide)) (fun q73 => RES_lk (lowL (by decide)) (fun q74 => RES_eta (res_set hI q73 q74)))) (fun _ => ?_)
  refine RES_ite (fun _ => RES_ite (fun _ => RES_eta (res_openAll hI)) (fun _ => RES_same hI (by decide))) (fun _ => ?_)
  exact RES_lk (hI.same k) (fun q => RES_ite (fun _ => RES_eta (res_alter hI k q)) (fun h => RES_same hI (Int32.not_le.mp h)))
end OPS
