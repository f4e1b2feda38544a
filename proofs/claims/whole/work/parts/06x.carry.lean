/-! PURE: an order is carried out -/
theorem kind_ok {τ : St} {k : Int32} (h : τ 3 0 = k) (hk : isC k) : fX2_kind τ = some k := by
  unfold fX2_kind
  rw [h, if_neg (fun z => z hk)]
theorem lit_ne : ((111 : Int32) = 99) = False ∧ ((120 : Int32) = 99) = False ∧ ((120 : Int32) = 111) = False ∧ ((115 : Int32) = 99) = False ∧ ((115 : Int32) = 111) = False ∧ ((115 : Int32) = 120) = False := ⟨eq_false (by decide), eq_false (by decide), eq_false (by decide), eq_false (by decide), eq_false (by decide), eq_false (by decide)⟩
def CAR (x : XS) (μ : St) (b : Nat) : Prop := (∃ r : Int32, r < 0 ∧ fX3_carryOutOrder x = some (r, xH x x.2.1) ∧ fX4_refuses μ (nI b) = some r) ∨ ∃ (r : Int32) (σ2 μ2 : St), ¬ r < 0 ∧ fX3_carryOutOrder x = some (r, xH x σ2) ∧ fX4_refuses μ (nI b) = some 0 ∧ fX4_does μ (nI b) = some μ2 ∧ (∀ a, a ≠ 1 → μ2 a = μ a) ∧ RS σ2 (μ2 1)
theorem carry_c {n b : Nat} {x : XS} {μ : St} {a e d : Int32} (I : SI n (μ 1)) (Bd : SB n (μ 1)) (R : RH n x.2.1 (μ 1)) (hb : b + 3 < 96) (f3 : x.2.2.2.2.2 3 0 = 99) (f5 : x.2.2.2.2.2 5 0 = a) (f6 : x.2.2.2.2.2 6 0 = e) (f4 : x.2.2.2.2.2 4 0 = d) (g0 : μ 11 b = 99) (g1 : μ 11 (b + 1) = a) (g2 : μ 11 (b + 2) = e) (g3 : μ 11 (b + 3) = d) : CAR x μ b := by
  have o0 : (oob (nI b) 96) = False := oobF (by omega) (by decide)
  have o1 : (oob (nI (b + 1)) 96) = False := oobF (by omega) (by decide)
  have o2 : (oob (nI (b + 2)) 96) = False := oobF (by omega) (by decide)
  have o3 : (oob (nI (b + 3)) 96) = False := oobF (by omega) (by decide)
  have eC : fX3_carryOutOrder x = (fX1_admit x.2.1 a e d).bind (fun q15 => some (q15.1, xH x q15.2)) := by
    unfold fX3_carryOutOrder fX2_claim fX2_load fX2_cartNumber
    simp only [kind_ok f3 (by decide), Option.bind_some, if_true, f5, f6, f4]
  have eR : fX4_refuses μ (nI b) = fX4_refusesCart μ a e d := by
    unfold fX4_refuses
    rw [show nI b + 1 = nI (b + 1) from nI_p (k := 1), show nI b + 2 = nI (b + 2) from nI_p (k := 2), show nI b + 3 = nI (b + 3) from nI_p (k := 3)]
    simp only [o0, o1, o2, o3, if_false, cl (show b < 2 ^ 31 by omega), cl (show b + 1 < 2 ^ 31 by omega), cl (show b + 2 < 2 ^ 31 by omega), cl (show b + 3 < 2 ^ 31 by omega), g0, g1, g2, g3, if_true, Option.bind_fun_some]
  have eD : fX4_does μ (nI b) = (fX4_comes μ a e d).bind (fun q8 => some q8.2) := by
    unfold fX4_does
    rw [show nI b + 1 = nI (b + 1) from nI_p (k := 1), show nI b + 2 = nI (b + 2) from nI_p (k := 2), show nI b + 3 = nI (b + 3) from nI_p (k := 3)]
    simp only [o0, o1, o2, o3, if_false, cl (show b < 2 ^ 31 by omega), cl (show b + 1 < 2 ^ 31 by omega), cl (show b + 2 < 2 ^ 31 by omega), cl (show b + 3 < 2 ^ 31 by omega), g0, g1, g2, g3, if_true]
  rcases come_H I R a e d with ⟨r, hr, e1, e2⟩ | ⟨w1, w2, hn24, h1, h2, rfl, rfl, hv, e2⟩
  · exact Or.inl ⟨r, hr, by rw [eC, e1]; rfl, by rw [eR, e2]⟩
  · obtain ⟨σ2, μ2, a1, a2, a3, a4⟩ := come_ok I Bd R hn24 h1 h2 hv
    exact Or.inr ⟨nI n, σ2, μ2, nI_nn (by omega), by rw [eC, a1]; rfl, by rw [eR, e2], by rw [eD, a2]; rfl, a3, n + 1, a4⟩
theorem carry_o {n b : Nat} {x : XS} {μ : St} {a : Int32} (I : SI n (μ 1)) (Bd : SB n (μ 1)) (R : RH n x.2.1 (μ 1)) (hb : b + 3 < 96) (f3 : x.2.2.2.2.2 3 0 = 111) (f4 : x.2.2.2.2.2 4 0 = a) (g0 : μ 11 b = 111) (g1 : μ 11 (b + 1) = a) : CAR x μ b := by
  have o0 : (oob (nI b) 96) = False := oobF (by omega) (by decide)
  have o1 : (oob (nI (b + 1)) 96) = False := oobF (by omega) (by decide)
  obtain ⟨l1, l2, l3, l4, l5, l6⟩ := lit_ne
  have eC : fX3_carryOutOrder x = (fX1_inspect x.2.1 a).bind (fun q15 => some (q15.1, xH x q15.2)) := by
    have hk : isC (111 : Int32) := by decide
    unfold fX3_carryOutOrder
    rw [kind_ok f3 hk, Option.bind_some, if_neg (show ¬ (111 : Int32) = 99 by decide), if_pos rfl]
    unfold fX2_cartNumber
    rw [Option.bind_some, f4]
  have n1 : ¬ (111 : Int32) = 99 := by decide
  have p1 : ¬ oob (nI b) 96 := vp_in_nI (by omega) (by decide)
  have p2 : ¬ oob (nI (b + 1)) 96 := vp_in_nI (by omega) (by decide)
  have eR : fX4_refuses μ (nI b) = fX4_refusesOpening μ a := by
    unfold fX4_refuses
    rw [if_neg p1, cl (show b < 2 ^ 31 by omega), g0, if_neg n1, if_pos rfl, show nI b + 1 = nI (b + 1) from nI_p (k := 1), if_neg p2, cl (show b + 1 < 2 ^ 31 by omega), g1, Option.bind_fun_some]
  have eD : fX4_does μ (nI b) = (fX4_opens μ a).bind (fun q8 => some q8.2) := by
    unfold fX4_does
    rw [if_neg p1, cl (show b < 2 ^ 31 by omega), g0, if_neg n1, if_pos rfl, show nI b + 1 = nI (b + 1) from nI_p (k := 1), if_neg p2, cl (show b + 1 < 2 ^ 31 by omega), g1]
  rcases open_H I R a with ⟨r, hr, e1, e2⟩ | ⟨k, hk, rfl, ho, e2⟩
  · exact Or.inl ⟨r, hr, by rw [eC, e1]; rfl, by rw [eR, e2]⟩
  · obtain ⟨r, σ2, μ2, hr, a1, a2, a3, a4, a5, a6, -⟩ := opens_rel I Bd R hk ho
    exact Or.inr ⟨nI r, σ2, μ2, nI_nn hr, by rw [eC, a1]; rfl, by rw [eR, e2], by rw [eD, a2]; rfl, a3, n, a4, a5, a6⟩
theorem carry_x {n b : Nat} {x : XS} {μ : St} {a e : Int32} (I : SI n (μ 1)) (Bd : SB n (μ 1)) (R : RH n x.2.1 (μ 1)) (hb : b + 3 < 96) (f3 : x.2.2.2.2.2 3 0 = 120) (f4 : x.2.2.2.2.2 4 0 = a) (f5 : x.2.2.2.2.2 5 0 = e) (g0 : μ 11 b = 120) (g1 : μ 11 (b + 1) = a) (g2 : μ 11 (b + 2) = e) : CAR x μ b := by
  have hn := I.1
  have o0 : (oob (nI b) 96) = False := oobF (by omega) (by decide)
  have o1 : (oob (nI (b + 1)) 96) = False := oobF (by omega) (by decide)
  have o2 : (oob (nI (b + 2)) 96) = False := oobF (by omega) (by decide)
  obtain ⟨l1, l2, l3, l4, l5, l6⟩ := lit_ne
  have eC : fX3_carryOutOrder x = (fX1_changeClaim x.2.1 a e).bind (fun q15 => some (q15.1, xH x q15.2)) := by
    unfold fX3_carryOutOrder fX2_cartNumber fX2_claim
    simp only [kind_ok f3 (by decide), Option.bind_some, if_true, l2, l3, if_false, f4, f5]
  have eR : fX4_refuses μ (nI b) = fX4_refusesAltering μ a e := by
    unfold fX4_refuses
    rw [show nI b + 1 = nI (b + 1) from nI_p (k := 1), show nI b + 2 = nI (b + 2) from nI_p (k := 2)]
    simp only [o0, o1, o2, if_false, cl (show b < 2 ^ 31 by omega), cl (show b + 1 < 2 ^ 31 by omega), cl (show b + 2 < 2 ^ 31 by omega), g0, g1, g2, l2, l3, if_true, Option.bind_fun_some]
  have eD : fX4_does μ (nI b) = (fX4_lay μ a 0 e).bind (fun q8 => some q8) := by
    unfold fX4_does
    rw [show nI b + 1 = nI (b + 1) from nI_p (k := 1), show nI b + 2 = nI (b + 2) from nI_p (k := 2)]
    simp only [o0, o1, o2, if_false, cl (show b < 2 ^ 31 by omega), cl (show b + 1 < 2 ^ 31 by omega), cl (show b + 2 < 2 ^ 31 by omega), g0, g1, g2, l2, l3, if_true]
  rcases alter_H I R a e with ⟨r, hr, e1, e2⟩ | ⟨k, w, hk, hw, rfl, rfl, e1, e2⟩
  · exact Or.inl ⟨r, hr, by rw [eC, e1]; rfl, by rw [eR, e2]⟩
  · obtain ⟨c, hc9, ec⟩ := (Bd.2.2 k hk).1
    have h9 := RS.claim (v := nI w) I R hk
    refine Or.inr ⟨μ 1 (8 + 8 * k), up x.2.1 1 k (nI w), up μ 1 (8 + 8 * k) (nI w), by rw [ec]; exact nI_nn (by omega), by rw [eC, e1]; rfl, by rw [eR, e2], by rw [eD, lay0 (by omega)]; rfl, fun a ha => up_n ha, n, ?_⟩
    rw [up_s]
    exact ⟨h9.1, SB_upd Bd (fun i hi => by omega) (fun q hq => ⟨fun _ => ⟨w, hw, rfl⟩, fun e => by omega⟩), h9.2⟩
theorem carry_s {n b : Nat} {x : XS} {μ : St} {a : Int32} (I : SI n (μ 1)) (Bd : SB n (μ 1)) (R : RH n x.2.1 (μ 1)) (hb : b + 3 < 96) (f3 : x.2.2.2.2.2 3 0 = 115) (f4 : x.2.2.2.2.2 4 0 = a) (g0 : μ 11 b = 115) (g1 : μ 11 (b + 1) = a) : CAR x μ b := by
  have hn := I.1
  have o0 : (oob (nI b) 96) = False := oobF (by omega) (by decide)
  have o1 : (oob (nI (b + 1)) 96) = False := oobF (by omega) (by decide)
  obtain ⟨l1, l2, l3, l4, l5, l6⟩ := lit_ne
  have eC : fX3_carryOutOrder x = (fX1_mendSeal x.2.1 a).bind (fun q15 => some (q15.1, xH x q15.2)) := by
    have hk : isC (115 : Int32) := by decide
    unfold fX3_carryOutOrder
    rw [kind_ok f3 hk, Option.bind_some, if_neg (show ¬ (115 : Int32) = 99 by decide), if_neg (show ¬ (115 : Int32) = 111 by decide), if_neg (show ¬ (115 : Int32) = 120 by decide)]
    unfold fX2_cartNumber
    rw [Option.bind_some, f4]
  have n1 : ¬ (115 : Int32) = 99 := by decide
  have n2 : ¬ (115 : Int32) = 111 := by decide
  have n3 : ¬ (115 : Int32) = 120 := by decide
  have p1 : ¬ oob (nI b) 96 := vp_in_nI (by omega) (by decide)
  have p2 : ¬ oob (nI (b + 1)) 96 := vp_in_nI (by omega) (by decide)
  have eR : fX4_refuses μ (nI b) = fX4_refusesSeal μ a := by
    unfold fX4_refuses
    rw [if_neg p1, cl (show b < 2 ^ 31 by omega), g0, if_neg n1, if_neg n2, if_neg n3, show nI b + 1 = nI (b + 1) from nI_p (k := 1), if_neg p2, cl (show b + 1 < 2 ^ 31 by omega), g1, Option.bind_fun_some]
  have eD : fX4_does μ (nI b) = (fX4_rightSeal μ a).bind (fun r21 => (fX4_lay μ a 3 r21).bind (fun σ23 => some σ23)) := by
    unfold fX4_does
    rw [if_neg p1, cl (show b < 2 ^ 31 by omega), g0, if_neg n1, if_neg n2, if_neg n3, show nI b + 1 = nI (b + 1) from nI_p (k := 1), if_neg p2, if_neg p2, cl (show b + 1 < 2 ^ 31 by omega), g1]
  rcases reseal_H I R a with ⟨r, hr, e1, e2⟩ | ⟨k, hk, rfl, e1, e2⟩
  · exact Or.inl ⟨r, hr, by rw [eC, e1]; rfl, by rw [eR, e2]⟩
  · obtain ⟨c, hc9, ec⟩ := (Bd.2.2 k hk).2
    obtain ⟨w, hw, ew⟩ := (Bd.2.2 k hk).1
    have h9 := RS.seal (v := sealX (μ 1) k (μ 1 (8 + 8 * k))) I R hk
    refine Or.inr ⟨μ 1 (8 + 8 * k + 3), up x.2.1 4 k (sealX (μ 1) k (μ 1 (8 + 8 * k))), up μ 1 (8 + 8 * k + 3) (sealX (μ 1) k (μ 1 (8 + 8 * k))), by rw [ec]; exact nI_nn (by omega), by rw [eC, e1]; rfl, by rw [eR, e2], by rw [eD, rightSeal4_eq (by omega) I.2.2.1 (I.aheadOK hk), Option.bind_some, lay3 (by omega)]; rfl, fun a ha => up_n ha, n, ?_⟩
    rw [up_s]
    refine ⟨h9.1, SB_upd Bd (fun i hi => by omega) (fun q hq => ⟨fun e => by omega, fun _ => ?_⟩), h9.2⟩
    rw [ew]
    exact seal_bound I Bd hk hw
theorem carry_ok {b : Nat} {x : XS} {μ : St} {k a e d : Int32} (hS : RS x.2.1 (μ 1)) (hb : b + 3 < 96) (F : FL x.2.2.2.2.2 k a e d) (E : EN μ b k a e d) : CAR x μ b := by
  obtain ⟨n, I, Bd, R⟩ := hS
  obtain ⟨f3, F⟩ := F
  obtain ⟨g0, E⟩ := E
  rcases F with ⟨hk, f5, f6, f4⟩ | ⟨hk, f4⟩ | ⟨hk, f4, f5⟩
  · subst hk
    rcases E with ⟨-, g1, g2, g3⟩ | ⟨h, -⟩ | ⟨h, -⟩
    · exact carry_c I Bd R hb f3 f5 f6 f4 g0 g1 g2 g3
    · exact absurd h (by decide)
    · exact absurd h (by decide)
  · rcases E with ⟨h, -⟩ | ⟨-, g1⟩ | ⟨h, -⟩
    · subst h
      exact absurd hk (by decide)
    · rcases hk with hk | hk
      · subst hk
        exact carry_o I Bd R hb f3 f4 g0 g1
      · subst hk
        exact carry_s I Bd R hb f3 f4 g0 g1
    · subst h
      exact absurd hk (by decide)
  · subst hk
    rcases E with ⟨h, -⟩ | ⟨h, -⟩ | ⟨-, g1, g2⟩
    · exact absurd h (by decide)
    · exact absurd h (by decide)
    · exact carry_x I Bd R hb f3 f4 f5 g0 g1 g2
