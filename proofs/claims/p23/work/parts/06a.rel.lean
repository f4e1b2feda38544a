/-! PURE: what ties the class's state to the reference's (the reference's array s is the common value) -/
def bt (x : Int32) (i : Nat) : Bool := x.toBitVec.getLsbD i
/-- what the reference's array keeps at n carts -/
def SI (n : Nat) (s : Nat → Int32) : Prop := n ≤ 24 ∧ s 5 = nI n ∧ 0 < s 2 ∧ (∀ k, k < n → s (8 + 8 * k + 2) = -1 ∨ ∃ j, j < k ∧ s (8 + 8 * k + 2) = nI j) ∧ (∀ k, k < 24 → (s (8 + 8 * k + 4) = 0 ∨ s (8 + 8 * k + 4) = 1) ∧ (s (8 + 8 * k + 5) = 0 ∨ s (8 + 8 * k + 5) = 1) ∧ (s (8 + 8 * k + 6) = 0 ∨ s (8 + 8 * k + 6) = 1)) ∧ (∀ k, n ≤ k → k < 24 → s (8 + 8 * k + 4) = 0 ∧ s (8 + 8 * k + 5) = 0 ∧ s (8 + 8 * k + 6) = 0 ∧ s (8 + 8 * k + 7) = 0) ∧ (∀ k, k < n → s (8 + 8 * k + 6) = 1 → s (8 + 8 * k + 4) = 1)
def RH (n : Nat) (σ : St) (s : Nat → Int32) : Prop := σ 6 0 = nI n ∧ (∀ i, i < 5 → σ 0 i = s i) ∧ σ 10 0 = s 6 ∧ (∀ k, k < n → σ 1 k = s (8 + 8 * k) ∧ σ 2 k = s (8 + 8 * k + 1) ∧ σ 3 k = s (8 + 8 * k + 2) ∧ σ 4 k = s (8 + 8 * k + 3) ∧ σ 5 k = s (8 + 8 * k + 7)) ∧ (∀ k, k < 32 → bt (σ 7 0) k = (decide (k < n) && decide (s (8 + 8 * k + 4) = 1)) ∧ bt (σ 9 0) k = (decide (k < n) && decide (s (8 + 8 * k + 5) = 1)) ∧ bt (σ 8 0) k = (decide (k < n) && decide (s (8 + 8 * k + 6) = 1)))
/-- bounds of numbers, by which no answer of a change is negative -/
def SB (n : Nat) (s : Nat → Int32) : Prop := (∀ i, i < 5 → ∃ v, v ≤ 999 ∧ s i = nI v ∧ (i ≠ 2 → v ≤ 99)) ∧ (∃ m, 10 ≤ m ∧ m ≤ 999 ∧ s 2 = nI m) ∧ ∀ k, k < n → (∃ c, c ≤ 99 ∧ s (8 + 8 * k) = nI c) ∧ ∃ t, t ≤ 998 ∧ s (8 + 8 * k + 3) = nI t
def RS (σ : St) (s : Nat → Int32) : Prop := ∃ n, SI n s ∧ SB n s ∧ RH n σ s
def RT (τ : St) (μ : St) : Prop := ∃ L, L ≤ 60 ∧ τ 1 0 = nI L ∧ μ 8 0 = nI L ∧ ∀ i, i < L → τ 0 i = μ 7 i ∧ ∃ w, w < 65536 ∧ μ 7 i = nI w
def RX (x : XS) (μ : St) : Prop := RS x.2.1 (μ 1) ∧ (x.2.2.2.2.1.2.1 ≤ 4 ∧ μ 4 0 = nI x.2.2.2.2.1.2.1 ∧ ∀ i, i < x.2.2.2.2.1.2.1 → RS (x.2.2.2.2.1.2.2 i) (fun j => μ 3 (200 * i + j))) ∧ (x.1 = μ 6 0 ∧ (μ 6 0 = 0 ∨ (μ 6 0 = 1 ∧ RS x.2.2.2.1 (μ 5)))) ∧ RT x.2.2.2.2.2 μ
