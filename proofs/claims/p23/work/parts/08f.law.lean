/-! PURE: the law answers 1 -/
theorem cmp_self (t : Int64) : lg_cmp t t = 0 := by
  unfold lg_cmp
  rw [if_neg (by simp), if_pos rfl]
/-- undo gives back what the last change found -/
theorem take_add (y : YS) (σ τ : St) (h : y.2.1 ≤ 4) : (takeY (addY y σ) τ).1 = nI ((addY y σ).2.1 - 1) ∧ (takeY (addY y σ) τ).2.2 = σ ∧ (addY y σ).2.1 = (if y.2.1 < 4 then y.2.1 + 1 else 4) := by
  by_cases h4 : y.2.1 < 4
  · rw [addY_lt h4]
    unfold takeY
    rw [if_neg (show ¬ y.2.1 + 1 = 0 by omega), if_pos h4]
    refine ⟨rfl, ?_, rfl⟩
    show (if y.2.1 + 1 - 1 = y.2.1 then σ else _) = σ
    rw [if_pos (by omega)]
  · rw [addY_ge h4]
    unfold takeY
    rw [if_neg (show ¬ 4 = 0 by decide), if_neg h4]
    exact ⟨rfl, rfl, rfl⟩
theorem undo_core {x2 : XS} {y : YS} {σ : St} (hy : y.2.1 ≤ 4) (h : histO x2 = addY y σ) : ∃ x3, fX3_undo x2 = some (nI ((addY y σ).2.1 - 1), x3) ∧ x3.1 = x2.1 ∧ x3.2.1 = σ ∧ x3.2.2.2.1 = x2.2.2.2.1 := by
  obtain ⟨t1, t2, -⟩ := take_add y σ x2.2.1 hy
  have h : x2.2.2.2.2.1 = addY y σ := h
  refine ⟨xH (xY x2 (takeY x2.2.2.2.2.1 x2.2.1).2.1) (takeY x2.2.2.2.2.1 x2.2.1).2.2, ?_, rfl, ?_, rfl⟩
  · exact congrArg (fun q => some (q, xH (xY x2 (takeY x2.2.2.2.2.1 x2.2.1).2.1) (takeY x2.2.2.2.2.1 x2.2.1).2.2)) (by rw [h]; exact t1)
  · show (takeY x2.2.2.2.2.1 x2.2.1).2.2 = σ
    rw [h]
    exact t2
theorem Inv.undo {x : XS} (h : Inv x) {r : Int32} {x2 : XS} (e : fX3_undo x = some (r, x2)) : Inv x2 := by
  obtain ⟨μ, hR⟩ := h
  obtain ⟨r9, x9, μ9, e9, -, h9⟩ := q_undo hR
  have h2 := pr (e.symm.trans e9)
  rw [h2.2]
  exact ⟨μ9, h9⟩
theorem alter_eq {n k w : Nat} {σ : St} {s : Nat → Int32} (I : SI n s) (R : RH n σ s) (hk : k < n) (hw : w ≤ 99) (ho : ¬ s (8 + 8 * k + 4) = 1) (hc : ¬ nI w = s (8 + 8 * k)) : fX1_changeClaim σ (nI k) (nI w) = some (s (8 + 8 * k), up σ 1 k (nI w)) := by
  have hn := I.1
  have ec := (R.2.2.2.1 k hk).1
  have o : (oob (nI k) 24) = False := oobF (by omega) (by decide)
  have hs : ¬ (nI w < 0 ∨ (99 : Int32) < nI w) := by
    rintro (z | z)
    · exact nI_nn (by omega) z
    · have := (nI_ltI (a := 99) (by decide) (by omega)).mp z; omega
  have hc2 : ¬ s (8 + 8 * k) = nI w := fun z => hc z.symm
  unfold fX1_changeClaim
  rw [knows_in R.1 hn hk]
  simp only [Option.bind_some, isSacks_spec, in7 R hn hk]
  simp [hs, ho, i10, o, cl (show k < 2 ^ 31 by omega), ec, hc2]
theorem wh_claim {s : Nat → Int32} {k j : Nat} {v : Int32} (h : sealX s k v = sealX s k (s (8 + 8 * k))) : whB (upd s (8 + 8 * k) v) j = whB s j := by
  have hs : ∀ c, sealX (upd s (8 + 8 * k) v) j c = sealX s j c := fun c => by
    unfold sealX ahS
    rw [upd_n (show 0 ≠ 8 + 8 * k by omega), upd_n (show 1 ≠ 8 + 8 * k by omega), upd_n (show 2 ≠ 8 + 8 * k by omega), upd_n (show 8 + 8 * j + 2 ≠ 8 + 8 * k by omega), upd_n (show 8 + 8 * (s (8 + 8 * j + 2)).toNatClampNeg + 3 ≠ 8 + 8 * k by omega)]
  unfold whB
  rw [hs, upd_n (show 8 + 8 * j + 3 ≠ 8 + 8 * k by omega)]
  by_cases e : j = k
  · subst e
    rw [upd_s, h]
  · rw [upd_n (show 8 + 8 * j ≠ 8 + 8 * k by omega)]
theorem same_ok2 {x : XS} (hI : Inv x) (p : Int32) : ∃ x2, fL_isSame x p = some (1, x2) ∧ Inv x2 := by
  obtain ⟨μ, hR⟩ := id hI
  obtain ⟨n, I, Bd, R⟩ := hR.1
  have hn := I.1
  unfold fL_isSame
  rw [sameSeal_eq]
  rcases cart3 hn p with h | ⟨k, hk, rfl⟩
  · rw [other_out R.1 h, Option.bind_some, if_pos (by decide)]
    exact ⟨x, rfl, hI⟩
  · obtain ⟨r, e, hr⟩ := other_in I R hk
    rw [e, Option.bind_some]
    rcases hr with rfl | ⟨w, hw, rfl, hne, hse⟩
    · rw [if_pos (by decide)]
      exact ⟨x, rfl, hI⟩
    · rw [if_neg (nI_nn (by omega)), cart_eq, tc6 I R hk, Option.bind_some]
      by_cases ho : μ 1 (8 + 8 * k + 4) = 1
      · rw [if_pos ho, if_pos rfl]
        exact ⟨x, rfl, hI⟩
      · rw [if_neg ho, if_neg (by decide)]
        obtain ⟨t, et⟩ := told_ok hI
        have e9 : fX3_total x 9 = _ := (total_eq x 9 (by decide) (by decide)).trans (ta9 I R)
        rw [et, Option.bind_some, e9, Option.bind_some, cart_eq, tc0 I R hk, Option.bind_some, if_neg hne]
        -- the claim is altered
        obtain ⟨c, hc, ec⟩ := (Bd.2.2 k hk).1
        have hge : ¬ μ 1 (8 + 8 * k) < 0 := by rw [ec]; exact nI_nn (by omega)
        have ea : fX3_alter x (nI k) (nI w) = some (μ 1 (8 + 8 * k), xY (xH (xB x (x.2.1)) (up x.2.1 1 k (nI w))) (addY x.2.2.2.2.1 x.2.1)) := by
          show (fX1_changeClaim x.2.1 (nI k) (nI w)).bind (chg x) = _
          rw [alter_eq I R hk hw ho hne]
          exact chg_ge hge
        obtain ⟨r9, x9, μ9, e10, -, h10⟩ := q_alter hR (nI k) (nI w)
        have h11 := pr (ea.symm.trans e10)
        have hI2 : Inv (xY (xH (xB x (x.2.1)) (up x.2.1 1 k (nI w))) (addY x.2.2.2.2.1 x.2.1)) := ⟨μ9, by rw [h11.2]; exact h10⟩
        rw [ea, Option.bind_some]
        obtain ⟨I2, R2⟩ := RS.claim (v := nI w) I R hk
        have e92 : fX3_total (xY (xH (xB x (x.2.1)) (up x.2.1 1 k (nI w))) (addY x.2.2.2.2.1 x.2.1)) 9 = some (foldG (fun i (a : Int32) => if whB (μ 1) i then a else a + 1) n 0) := by
          refine ((total_eq _ 9 (by decide) (by decide)).trans (ta9 I2 R2)).trans (congrArg some (foldG_cong 0 (fun i a _ => ?_)))
          rw [wh_claim hse]
        rw [if_pos rfl, e92, Option.bind_some, if_pos rfl, Option.bind_some, if_neg (by decide)]
        obtain ⟨x3, u1, u2, u3, u4⟩ := undo_core (x2 := xY (xH (xB x (x.2.1)) (up x.2.1 1 k (nI w))) (addY x.2.2.2.2.1 x.2.1)) (y := x.2.2.2.2.1) (σ := x.2.1) hI.hist rfl
        have hI3 := hI2.undo u1
        have hsz := (take_add x.2.2.2.2.1 x.2.1 x.2.1 hI.hist).2.2
        have hh := hI.hist
        rw [u1, Option.bind_some, if_neg (nI_nn (by split at hsz <;> omega)), told_house (x := x3) (y := x) u3, et, Option.bind_some, cmp_self, if_pos rfl]
        exact ⟨x3, rfl, hI3⟩
theorem tail_ok {x : XS} (hI : Inv x) (xs : Nat → Int32) (L : Nat) (k : XS → Int32 → Option Int32) (v2 v4 : Int32) (hk : ∀ y, Inv y → k y (v2 + 1) = some 1) : fL_law_253 xs L k x v2 v4 = some 1 := by
  unfold fL_law_253
  obtain ⟨n, hn, e5⟩ := hI.many
  have e5 := e5 x rfl
  rw [holds_ok hI, Option.bind_some, if_neg (by decide), e5, Option.bind_some]
  by_cases h0 : nI n ≤ 0
  · rw [if_pos h0]
    exact hk x hI
  · have hz : ¬ nI n = 0 := fun z => h0 (by rw [z]; decide)
    obtain ⟨a, ea⟩ := lowE (v := v4 >>> ((2 : Int32) &&& 31)) (b := nI n) hz
    obtain ⟨x2, e2, hI2⟩ := same_ok2 hI a
    rw [if_neg h0, Option.bind_some, ea, Option.bind_some, e2, Option.bind_some, if_neg (show ¬ (1 : Int32) = 0 by decide)]
    exact hk x2 hI2
theorem mid_ok {x x2 : XS} (hI : Inv x) (hI2 : Inv x2) (xs : Nat → Int32) (L : Nat) (k : XS → Int32 → Option Int32) (v2 v3 v4 r : Int32) (t t2 : Int64) (et : fL_told x = some t) (et2 : fL_told x2 = some t2) (hc : (r < 0) ∨ (¬ r < 0 ∧ x2.1 = x.1 ∧ x2.2.2.2.1 = x.2.2.2.1 ∧ histO x2 = addY (histO x) x.2.1)) (hy : ∀ y : XS, core y = core x → ∃ y2 : XS, fL_act y v3 v4 = some (r, y2) ∧ core y2 = core x2) (hk : ∀ y, Inv y → k y (v2 + 1) = some 1) : fL_law_186 xs L k x2 v2 v3 v4 t r t2 = some 1 := by
  unfold fL_law_186
  rcases hc with hr | ⟨hr, c1, c2, c3⟩
  · rw [if_pos hr]
    exact tail_ok hI2 xs L k v2 v4 hk
  · rw [if_neg hr]
    by_cases hb : ((v3 >>> ((10 : Int32) &&& 31)) &&& 1) = 0
    · rw [if_pos hb, total15, Option.bind_some]
      obtain ⟨x3, u1, u2, u3, u4⟩ := undo_core (x2 := x2) (y := histO x) (σ := x.2.1) hI.hist c3
      have hI3 := hI2.undo u1
      have hh : (histO x).2.1 ≤ 4 := hI.hist
      have hsz := (take_add (histO x) x.2.1 x.2.1 hh).2.2
      have hs1 : 1 ≤ (addY (histO x) x.2.1).2.1 := by split at hsz <;> omega
      have e1 : nI (x2.2.2.2.2.1.2.1) - 1 = nI ((addY (histO x) x.2.1).2.1 - 1) := by
        rw [show x2.2.2.2.2.1 = addY (histO x) x.2.1 from c3]
        exact pk_sub (b := 1) hs1
      rw [u1, Option.bind_some, if_pos e1.symm, told_house (x := x3) (y := x) u3, et, Option.bind_some, cmp_self, if_pos rfl]
      have hcore : core x3 = core x := by
        show (x3.1, x3.2.1, x3.2.2.2.1) = (x.1, x.2.1, x.2.2.2.1)
        rw [u2, u3, u4, c1, c2]
      obtain ⟨y2, a1, a2⟩ := hy x3 hcore
      obtain ⟨r9, x9, a3, hI9, -, -⟩ := act_res hI3 v3 v4
      have h11 := pr (a1.symm.trans a3)
      have hIy : Inv y2 := by rw [h11.2]; exact hI9
      rw [a1, Option.bind_some, if_pos rfl, told_house (x := y2) (y := x2) (core_h a2), et2, Option.bind_some, cmp_self, if_pos rfl]
      exact tail_ok hIy xs L k v2 v4 hk
    · rw [if_neg hb]
      exact tail_ok hI2 xs L k v2 v4 hk
theorem turn_ok {x : XS} (hI : Inv x) (xs : Nat → Int32) (L : Nat) (k : XS → Int32 → Option Int32) (v2 v3 v4 : Int32) (hk : ∀ y, Inv y → k y (v2 + 1) = some 1) : fL_law_105 xs L k x v2 v3 v4 = some 1 := by
  unfold fL_law_105
  obtain ⟨t, et⟩ := told_ok hI
  obtain ⟨r, x2, ea, hI2, hc, hy⟩ := act_res hI v3 v4
  obtain ⟨t2, et2⟩ := told_ok hI2
  have hh : (histO x).2.1 ≤ 4 := hI.hist
  have hsz := (take_add (histO x) x.2.1 x.2.1 hh).2.2
  have ea : fL_act x v3 v4 = some (r, x2) := ea
  rw [et, Option.bind_some, total15, Option.bind_some, ea, Option.bind_some, et2, Option.bind_some]
  rcases hc with ⟨hr, c1, c2⟩ | ⟨hr, c1, c2, c3⟩
  · have e2 : t2 = t := by
      have h9 := told_house (x := x2) (y := x) (core_h c1)
      rw [et, et2] at h9
      exact Option.some.inj h9
    rw [if_neg (Int32.not_le.mpr hr), e2, cmp_self, if_pos rfl, total15, Option.bind_some, if_pos (by rw [show x2.2.2.2.2.1 = x.2.2.2.2.1 from c2])]
    exact mid_ok hI hI2 xs L k v2 v3 v4 r t t et (by rw [et2, e2]) (Or.inl hr) hy hk
  · rw [if_pos (Int32.not_lt.mp hr), total15, Option.bind_some]
    have hs : (if 4 ≤ nI x.2.2.2.2.1.2.1 then (some (4 : Int32)) else (some (nI x.2.2.2.2.1.2.1 + 1))) = some (nI (addY (histO x) x.2.1).2.1) := by
      rw [hsz]
      by_cases h4 : (histO x).2.1 < 4
      · have h4' : ¬ (4 : Int32) ≤ nI x.2.2.2.2.1.2.1 := nI_ge (b := 4) h4 (by decide)
        rw [if_pos h4, if_neg h4', nI_1]
        rfl
      · have h5 : 4 ≤ (histO x).2.1 := by omega
        have h6 : (histO x).2.1 < 2 ^ 31 := by omega
        have h4' : (4 : Int32) ≤ nI x.2.2.2.2.1.2.1 := nI_le (a := 4) h5 h6
        rw [if_neg h4, if_pos h4']
        rfl
    rw [hs, Option.bind_some, if_pos (by rw [show x2.2.2.2.2.1 = addY (histO x) x.2.1 from c3])]
    exact mid_ok hI hI2 xs L k v2 v3 v4 r t t2 et et2 (Or.inr ⟨hr, c1, c2, c3⟩) hy hk
theorem loop_ok (xs : Nat → Int32) (L : Nat) : ∀ (m f c : Nat) (x : XS), c + m = 44 → m < f → Inv x → fL_law_55 xs L f x (nI c) = some 1 := by
  intro m
  induction m with
  | zero =>
    intro f c x hc hf hI
    obtain ⟨f, rfl⟩ : ∃ q, f = q + 1 := ⟨f - 1, by omega⟩
    have h : (44 : Int32) ≤ nI c := nI_le (a := 44) (by omega) (by omega)
    rw [fL_law_55_s, if_pos h]
  | succ m ih =>
    intro f c x hc hf hI
    obtain ⟨f, rfl⟩ : ∃ q, f = q + 1 := ⟨f - 1, by omega⟩
    have h : ¬ (44 : Int32) ≤ nI c := nI_ge (b := 44) (by omega) (by decide)
    have e2 : (2 : Int32) * nI c = nI (2 * c) := pk_mul 2 c
    have hk : ∀ y, Inv y → fL_law_55 xs L f y (nI c + 1) = some 1 := fun y hy => by
      rw [nI_1]
      exact ih f (c + 1) y (by omega) (by omega) hy
    rw [fL_law_55_s, if_neg h, e2, if_neg (nI_nn (by omega))]
    have hw : ∃ w, (if 4 ≤ nI c then (some (cellV xs L (nI (2 * c)))) else (some ((cellV xs L (nI (2 * c))) &&& (-16)))) = some w := by
      by_cases h4 : (4 : Int32) ≤ nI c
      · exact ⟨_, if_pos h4⟩
      · exact ⟨_, if_neg h4⟩
    obtain ⟨w, ew⟩ := hw
    rw [ew, Option.bind_some, nI_1, if_neg (nI_nn (by omega))]
    by_cases h10 : nI c = 10
    · obtain ⟨μ, hR⟩ := hI
      obtain ⟨r9, x9, μ9, e9, -, h9⟩ := q_keep hR
      rw [if_pos h10, e9, Option.bind_some]
      exact turn_ok ⟨μ9, h9⟩ xs L _ _ _ _ hk
    · rw [if_neg h10]
      exact turn_ok hI xs L _ _ _ _ hk
theorem law_ok (xs : Nat → Int32) (L B : Nat) : fL_law_8 xs L (x0 B) = some 1 := by
  unfold fL_law_8
  have hR := RX_start B
  have hI0 : Inv (x0 B) := ⟨m0, hR⟩
  have u0 : fX3_undo (x0 B) = some (-5, x0 B) := rfl
  have r0 : fX3_restore (x0 B) = some (-5, x0 B) := rfl
  have a0 : fX1_inspectAll h0 = some (-5, h0) := by
    show fX1_inspectAll_9 (999 + 1) h0 0 (0 - 1) = _
    rw [fX1_inspectAll_9_s, if_pos (by decide), if_pos (by decide)]
  obtain ⟨r1, x1, μ1, e1, -, h1⟩ := q_openAll hR
  have o0 : fX3_openAll (x0 B) = some (-5, xH (xB (x0 B) h0) h0) := by
    show (fX1_inspectAll h0).bind (chg (x0 B)) = _
    rw [a0]
    exact chg_lt (x := x0 B) (r := -5) (σ2 := h0) (by decide)
  have h11 := pr (o0.symm.trans e1)
  rw [← h11.2] at h1
  obtain ⟨r2, x2, μ2, e2, -, h2⟩ := q_keep h1
  have k0 : fX3_keep (xH (xB (x0 B) h0) h0) = some (0, xF (xS (xH (xB (x0 B) h0) h0) h0) 1) := rfl
  have h12 := pr (k0.symm.trans e2)
  rw [← h12.2] at h2
  have b0 : fX3_bestOpening (xF (xS (xH (xB (x0 B) h0) h0) h0) 1) = some (-5) := by
    show (fX1_mostClearing_7 (999 + 1) h0 (-5) (-1) 0).bind (fun q => some q) = _
    rw [fX1_mostClearing_7_s, if_pos (show h0 6 0 ≤ 0 by decide)]
    rfl
  rw [u0, Option.bind_some, if_pos rfl, r0, Option.bind_some, if_pos rfl, o0, Option.bind_some, if_pos rfl, k0, Option.bind_some, if_pos rfl, b0, Option.bind_some, if_pos rfl]
  exact loop_ok xs L 44 1000 0 _ rfl (by decide) ⟨μ2, h2⟩
