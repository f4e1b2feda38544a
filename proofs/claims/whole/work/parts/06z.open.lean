theorem q_come {x : XS} {μ : St} (hR : RX x μ) (p1 : Int32) (p2 : Int32) (p3 : Int32) : ∃ (r : Int32) (x2 : XS) (μ2 : St), fX3_come x p1 p2 p3 = some (r, x2) ∧ fX4_come μ p1 p2 p3 = some (r, μ2) ∧ RX x2 μ2 := by
  sorry
theorem q_alter {x : XS} {μ : St} (hR : RX x μ) (p1 : Int32) (p2 : Int32) : ∃ (r : Int32) (x2 : XS) (μ2 : St), fX3_alter x p1 p2 = some (r, x2) ∧ fX4_alter μ p1 p2 = some (r, μ2) ∧ RX x2 μ2 := by
  sorry
theorem q_reseal {x : XS} {μ : St} (hR : RX x μ) (p1 : Int32) : ∃ (r : Int32) (x2 : XS) (μ2 : St), fX3_reseal x p1 = some (r, x2) ∧ fX4_reseal μ p1 = some (r, μ2) ∧ RX x2 μ2 := by
  sorry
theorem q_open {x : XS} {μ : St} (hR : RX x μ) (p1 : Int32) : ∃ (r : Int32) (x2 : XS) (μ2 : St), fX3_open x p1 = some (r, x2) ∧ fX4_open μ p1 = some (r, μ2) ∧ RX x2 μ2 := by
  sorry
theorem q_openAll {x : XS} {μ : St} (hR : RX x μ) : ∃ (r : Int32) (x2 : XS) (μ2 : St), fX3_openAll x = some (r, x2) ∧ fX4_openAll μ = some (r, μ2) ∧ RX x2 μ2 := by
  sorry
theorem q_set {x : XS} {μ : St} (hR : RX x μ) (p1 : Int32) (p2 : Int32) : ∃ (r : Int32) (x2 : XS) (μ2 : St), fX3_set x p1 p2 = some (r, x2) ∧ fX4_set μ p1 p2 = some (r, μ2) ∧ RX x2 μ2 := by
  sorry
theorem q_type {x : XS} {μ : St} (hR : RX x μ) (p1 : Int32) (hc : ∃ w, w < 65536 ∧ p1 = nI w) : ∃ (r : Int32) (x2 : XS) (μ2 : St), fX3_type x p1 = some (r, x2) ∧ fX4_type μ p1 = some (r, μ2) ∧ RX x2 μ2 := by
  sorry
theorem q_clearText {x : XS} {μ : St} (hR : RX x μ) : ∃ (r : Int32) (x2 : XS) (μ2 : St), fX3_clearText x = some (r, x2) ∧ fX4_clearText μ = some (r, μ2) ∧ RX x2 μ2 := by
  sorry
theorem q_perform {x : XS} {μ : St} (hR : RX x μ) : ∃ (r : Int32) (x2 : XS) (μ2 : St), fX3_perform x = some (r, x2) ∧ fX4_perform μ = some (r, μ2) ∧ RX x2 μ2 := by
  sorry
theorem q_undo {x : XS} {μ : St} (hR : RX x μ) : ∃ (r : Int32) (x2 : XS) (μ2 : St), fX3_undo x = some (r, x2) ∧ fX4_undo μ = some (r, μ2) ∧ RX x2 μ2 := by
  sorry
theorem q_keep {x : XS} {μ : St} (hR : RX x μ) : ∃ (r : Int32) (x2 : XS) (μ2 : St), fX3_keep x = some (r, x2) ∧ fX4_keep μ = some (r, μ2) ∧ RX x2 μ2 := by
  sorry
theorem q_restore {x : XS} {μ : St} (hR : RX x μ) : ∃ (r : Int32) (x2 : XS) (μ2 : St), fX3_restore x = some (r, x2) ∧ fX4_restore μ = some (r, μ2) ∧ RX x2 μ2 := by
  sorry
theorem q_cart {x : XS} {μ : St} (hR : RX x μ) (p1 : Int32) (p2 : Int32) : ∃ (r : Int32) (μ2 : St), fX3_cart x p1 p2 = some r ∧ fX4_cart μ p1 p2 = some (r, μ2) ∧ RX x μ2 := by
  sorry
theorem q_chain {x : XS} {μ : St} (hR : RX x μ) (p1 : Int32) (p2 : Int32) : ∃ (r : Int32) (μ2 : St), fX3_chain x p1 p2 = some r ∧ fX4_chain μ p1 p2 = some (r, μ2) ∧ RX x μ2 := by
  sorry
theorem q_brokenIn {x : XS} {μ : St} (hR : RX x μ) (p1 : Int32) : ∃ (r : Int32) (μ2 : St), fX3_brokenIn x p1 = some r ∧ fX4_brokenIn μ p1 = some (r, μ2) ∧ RX x μ2 := by
  sorry
theorem q_total {x : XS} {μ : St} (hR : RX x μ) (p1 : Int32) : ∃ (r : Int32) (μ2 : St), fX3_total x p1 = some r ∧ fX4_total μ p1 = some (r, μ2) ∧ RX x μ2 := by
  sorry
theorem q_ifOpened {x : XS} {μ : St} (hR : RX x μ) (p1 : Int32) (p2 : Int32) : ∃ (r : Int32) (μ2 : St), fX3_ifOpened x p1 p2 = some r ∧ fX4_ifOpened μ p1 p2 = some (r, μ2) ∧ RX x μ2 := by
  sorry
theorem q_fewestOpenings {x : XS} {μ : St} (hR : RX x μ) (p1 : Int32) : ∃ (r : Int32) (μ2 : St), fX3_fewestOpenings x p1 = some r ∧ fX4_fewestOpenings μ p1 = some (r, μ2) ∧ RX x μ2 := by
  sorry
theorem q_bestOpening {x : XS} {μ : St} (hR : RX x μ) : ∃ (r : Int32) (μ2 : St), fX3_bestOpening x = some r ∧ fX4_bestOpening μ = some (r, μ2) ∧ RX x μ2 := by
  sorry
theorem q_sameSeal {x : XS} {μ : St} (hR : RX x μ) (p1 : Int32) : ∃ (r : Int32) (μ2 : St), fX3_sameSeal x p1 = some r ∧ fX4_sameSeal μ p1 = some (r, μ2) ∧ RX x μ2 := by
  sorry
theorem RX_start (B : Nat) : RX (x0 B) m0 := by
  sorry
