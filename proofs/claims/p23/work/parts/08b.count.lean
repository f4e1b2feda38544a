/-! PURE: counting -/
theorem cnt_mono {p q : Nat → Bool} : ∀ {n : Nat}, (∀ k, k < n → p k = true → q k = true) → cnt p n ≤ cnt q n
  | 0, _ => Nat.le_refl 0
  | n + 1, h => by
    have h1 := cnt_mono (p := p) (q := q) (n := n) (fun k hk => h k (by omega))
    show cnt p n + (if p n then 1 else 0) ≤ cnt q n + (if q n then 1 else 0)
    by_cases hp : p n = true
    · rw [if_pos hp, if_pos (h n (by omega) hp)]
      omega
    · rw [if_neg hp]
      split <;> omega
theorem cnt_zero {p : Nat → Bool} : ∀ {n : Nat}, cnt p n = 0 → ∀ k, k < n → p k = false
  | 0, _, k, hk => absurd hk (Nat.not_lt_zero k)
  | n + 1, h, k, hk => by
    have h : cnt p n + (if p n then 1 else 0) = 0 := h
    by_cases hp : p n = true
    · rw [if_pos hp] at h; omega
    · by_cases e : k = n
      · subst e; exact Bool.not_eq_true _ ▸ hp
      · exact cnt_zero (n := n) (by omega) k (by omega)
theorem cnt_pos {p : Nat → Bool} {n k : Nat} (hk : k < n) (hp : p k = true) : 0 < cnt p n := by
  rcases Nat.eq_zero_or_pos (cnt p n) with h | h
  · exact absurd (cnt_zero h k hk) (by rw [hp]; decide)
  · exact h
theorem cnt_false : ∀ n, cnt (fun _ => false) n = 0
  | 0 => rfl
  | n + 1 => by
    show cnt (fun _ => false) n + 0 = 0
    rw [cnt_false n]
/-- a sum below n -/
def sumN (g : Nat → Nat) : Nat → Nat
  | 0 => 0
  | n + 1 => sumN g n + g n
theorem sumN_cong {g h : Nat → Nat} : ∀ {n : Nat}, (∀ k, k < n → g k = h k) → sumN g n = sumN h n
  | 0, _ => rfl
  | n + 1, e => by
    show sumN g n + g n = sumN h n + h n
    rw [sumN_cong (fun k hk => e k (by omega)), e n (by omega)]
theorem sumN_add {g : Nat → Nat} {p : Nat → Bool} : ∀ n, sumN (fun j => g j + (if p j then 1 else 0)) n = sumN g n + cnt p n
  | 0 => rfl
  | n + 1 => by
    show sumN (fun j => g j + (if p j then 1 else 0)) n + (g n + (if p n then 1 else 0)) = sumN g n + g n + (cnt p n + (if p n then 1 else 0))
    rw [sumN_add n]
    omega
theorem sumN_zero : ∀ n, sumN (fun _ => 0) n = 0
  | 0 => rfl
  | n + 1 => by
    show sumN (fun _ => 0) n + 0 = 0
    rw [sumN_zero n]
/-- pairs are counted by rows or by columns -/
theorem sum_swap (P : Nat → Nat → Bool) (n : Nat) : ∀ m, sumN (fun k => cnt (P k) n) m = sumN (fun j => cnt (fun k => P k j) m) n
  | 0 => (sumN_zero n).symm
  | m + 1 => by
    show sumN (fun k => cnt (P k) n) m + cnt (P m) n = sumN (fun j => cnt (fun k => P k j) m + (if P m j then 1 else 0)) n
    rw [sum_swap P n m, sumN_add n]
section COUNT
variable {n : Nat} {s : Nat → Int32}
/-- depths add up to how many carts have each in their chains -/
theorem depths_all (I : SI n s) : sumN (fun k => lenC s 24 k) n = sumN (fun k => cnt (fun i => inC s 24 i k) n) n := by
  have hn := I.1
  rw [← sum_swap (fun k j => inC s 24 k j) n n]
  exact sumN_cong (fun k hk => (lenC_cnt I 24 k hk (by omega)).symm)
theorem inC_self {f k : Nat} : inC s (f + 1) k k = true := by
  show ((k == k) || _) = true
  rw [beq_self_eq_true, Bool.true_or]
/-- those that vouch for a cart have it in their chains, and so has the cart itself -/
theorem vouch_lt (I : SI n s) {k : Nat} (hk : k < n) : cnt (vc s (nI k)) n + 1 ≤ cnt (fun i => inC s 24 i k) n := by
  have hn := I.1
  have hself : vc s (nI k) k = false := by
    unfold vc
    apply decide_eq_false
    rcases nxt_cases I hk with ⟨e, -⟩ | ⟨q, hq, e, -⟩
    · rw [e]; exact fun z => nI_m1 (by omega) z.symm
    · rw [e]; exact fun z => by have := nI_inj (by omega) (by omega) z; omega
  have h1 := cnt_or_one (p := vc s (nI k)) (k := k) hself n hk
  have h2 : cnt (fun j => (j == k) || vc s (nI k) j) n ≤ cnt (fun i => inC s 24 i k) n := cnt_mono (fun i hi h => by
    rcases (Bool.or_eq_true _ _ ▸ h : (i == k) = true ∨ vc s (nI k) i = true) with h | h
    · have e : i = k := eq_of_beq h
      rw [e]
      exact inC_self
    · have h : s (8 + 8 * i + 2) = nI k := of_decide_eq_true h
      rcases nxt_cases I hi with ⟨e, -⟩ | ⟨q, hq, e, e2⟩
      · rw [e] at h; exact absurd h.symm (nI_m1 (by omega))
      · rw [e] at h
        have hqk := nI_inj (by omega) (by omega) h
        subst hqk
        rw [inC_some e2, inC_self, Bool.or_true])
  omega
/-! what an honest opening reaches -/
theorem inR_fuel (I : SI n s) : ∀ (f g k j : Nat), k < n → k < f → k < g → inR s f k j = inR s g k j := by
  intro f
  induction f with
  | zero => intro g k j _ z; exact absurd z (Nat.not_lt_zero k)
  | succ f ih =>
    intro g k j hk hf hg
    obtain ⟨g, rfl⟩ : ∃ q, g = q + 1 := ⟨g - 1, by omega⟩
    by_cases hw : whB s k = true
    · rcases nxt_cases I hk with ⟨-, e⟩ | ⟨q, hq, -, e⟩
      · rw [inR_end (Or.inr e), inR_end (Or.inr e)]
      · rw [inR_some hw e, inR_some hw e, ih g q j (by omega) (by omega) (by omega)]
    · have hw : whB s k = false := Bool.not_eq_true _ ▸ hw
      rw [inR_end (Or.inl hw), inR_end (Or.inl hw)]
theorem inR_trans (I : SI n s) {e j : Nat} (hj : inR s 24 e j = true) : ∀ (f d : Nat), d < n → d < f → inR s f d e = true → inR s f d j = true := by
  have hn := I.1
  intro f
  induction f with
  | zero => intro d _ z; exact absurd z (Nat.not_lt_zero d)
  | succ f ih =>
    intro d hd hf h
    by_cases ed : e = d
    · subst ed
      rw [inR_fuel I (f + 1) 24 e j hd hf (by omega)]
      exact hj
    · have eb : (e == d) = false := by simpa using ed
      by_cases hw : whB s d = true
      · rcases nxt_cases I hd with ⟨-, e1⟩ | ⟨q, hq, -, e1⟩
        · rw [inR_end (Or.inr e1), eb] at h; exact absurd h (by decide)
        · rw [inR_some hw e1, eb, Bool.false_or] at h
          rw [inR_some hw e1, ih q (by omega) (by omega) h, Bool.or_true]
      · have hw : whB s d = false := Bool.not_eq_true _ ▸ hw
        rw [inR_end (Or.inl hw), eb] at h
        exact absurd h (by decide)
/-- reached by a waiting cart from m on (below n) -/
def tk (s : Nat → Int32) (n : Nat) : Nat → Nat → Nat → Bool
  | 0, _, _ => false
  | f + 1, m, j => (lf s m && inR s 24 m j) || tk s n f (m + 1) j
def tkm (s : Nat → Int32) (n m j : Nat) : Bool := tk s n (n - m) m j
theorem tkm_n {j : Nat} : tkm s n n j = false := by
  unfold tkm
  rw [Nat.sub_self]
  rfl
theorem tkm_s {m j : Nat} (h : m < n) : tkm s n m j = ((lf s m && inR s 24 m j) || tkm s n (m + 1) j) := by
  unfold tkm
  obtain ⟨f, hf⟩ : ∃ f, n - m = f + 1 := ⟨n - m - 1, by omega⟩
  rw [hf, show n - (m + 1) = f by omega]
  rfl
theorem tkm_iff {j : Nat} : ∀ (f m : Nat), m + f = n → (tkm s n m j = true ↔ ∃ e, m ≤ e ∧ e < n ∧ lf s e = true ∧ inR s 24 e j = true) := by
  intro f
  induction f with
  | zero =>
    intro m hm
    have e : m = n := by omega
    subst e
    rw [tkm_n]
    exact ⟨fun z => absurd z (by decide), fun ⟨e, h1, h2, _⟩ => by omega⟩
  | succ f ih =>
    intro m hm
    rw [tkm_s (by omega), Bool.or_eq_true, Bool.and_eq_true, ih (m + 1) (by omega)]
    refine ⟨fun z => ?_, fun ⟨e, h1, h2, h3, h4⟩ => ?_⟩
    · rcases z with ⟨h3, h4⟩ | ⟨e, h1, h2, h3, h4⟩
      · exact ⟨m, Nat.le_refl m, by omega, h3, h4⟩
      · exact ⟨e, by omega, h2, h3, h4⟩
    · by_cases em : e = m
      · subst em; exact Or.inl ⟨h3, h4⟩
      · exact Or.inr ⟨e, by omega, h2, h3, h4⟩
theorem cov_iff {j : Nat} : ∀ m, (cov s m j = true ↔ ∃ e, e < m ∧ lf s e = true ∧ inR s 24 e j = true ∧ e ≠ j) := by
  intro m
  induction m with
  | zero => exact ⟨fun z => absurd (show false = true from z) (by decide), fun ⟨e, h, _⟩ => absurd h (Nat.not_lt_zero e)⟩
  | succ m ih =>
    have h9 : cov s (m + 1) j = (cov s m j || (lf s m && (inR s 24 m j && !(m == j)))) := rfl
    rw [h9, Bool.or_eq_true, ih, Bool.and_eq_true, Bool.and_eq_true]
    refine ⟨fun z => ?_, fun ⟨e, h1, h2, h3, h4⟩ => ?_⟩
    · rcases z with ⟨e, h1, h2⟩ | ⟨h1, h2, h3⟩
      · exact ⟨e, by omega, h2⟩
      · exact ⟨m, by omega, h1, h2, fun e => by subst e; simp at h3⟩
    · by_cases em : e = m
      · subst em; exact Or.inr ⟨h2, h3, by simpa using h4⟩
      · exact Or.inl ⟨e, by omega, h2, h3, h4⟩
/-- reached by another waiting cart: by one that came later -/
theorem cov_tk (I : SI n s) {k : Nat} (hk : k < n) : cov s n k = tkm s n (k + 1) k := by
  rw [Bool.eq_iff_iff, cov_iff, tkm_iff (n - (k + 1)) (k + 1) (by omega)]
  refine ⟨fun ⟨e, h1, h2, h3, h4⟩ => ⟨e, ?_, h1, h2, h3⟩, fun ⟨e, h1, h2, h3, h4⟩ => ⟨e, h2, h3, h4, by omega⟩⟩
  have := inR_le I 24 e k h1 h3
  omega
/-- a cart that opens by the greedy way -/
def gr (s : Nat → Int32) (n k : Nat) : Bool := lf s k && !cov s n k
theorem hon_count {σ : St} (I : SI n s) (R : RH n σ s) : ∀ (m f c : Nat) (v : Int32), m ≤ n → m < f → (∀ j, j < 32 → bt v j = (decide (j < n) && (lf s j && !tkm s n m j))) → fX1_countHonestOpenings_14 f σ v (nI c) (nI m - 1) = some (nI (c + cnt (gr s n) m)) := by
  have hn := I.1
  intro m
  induction m with
  | zero =>
    intro f c v hm hf hv
    obtain ⟨f, rfl⟩ : ∃ q, f = q + 1 := ⟨f - 1, by omega⟩
    rw [fX1_countHonestOpenings_14_s, if_pos (show nI 0 - 1 < 0 by decide)]
    rfl
  | succ m ih =>
    intro f c v hm hf hv
    obtain ⟨f, rfl⟩ : ∃ q, f = q + 1 := ⟨f - 1, by omega⟩
    have h31 : m < 2 ^ 31 := by omega
    rw [fX1_countHonestOpenings_14_s, nI_pred, if_neg (nI_nn h31), isIn_spec (show m < 32 by omega), Option.bind_some, hv m (by omega), decide_eq_true (show m < n by omega), Bool.true_and, ← cov_tk I (show m < n by omega), sub1]
    have hc : cnt (gr s n) (m + 1) = cnt (gr s n) m + (if gr s n m then 1 else 0) := rfl
    have hg : gr s n m = (lf s m && !cov s n m) := rfl
    rw [hc]
    by_cases h : (lf s m && !cov s n m) = true
    · rw [if_pos h, if_neg (by decide), hg, if_pos h]
      obtain ⟨w, a1, a2⟩ := reach_rel I R (show m < n by omega)
      rw [a1, Option.bind_some, nI_1, show c + (cnt (gr s n) m + 1) = (c + 1) + cnt (gr s n) m by omega]
      refine ih f (c + 1) _ (by omega) (by omega) (fun j hj => ?_)
      have hl : lf s m = true := (Bool.and_eq_true _ _ ▸ h : _ ∧ _).1
      rw [b_and, b_not _ hj, hv j hj, a2 j hj, tkm_s (show m < n by omega), hl, Bool.true_and]
      cases decide (j < n) <;> cases lf s j <;> cases inR s 24 m j <;> cases tkm s n (m + 1) j <;> rfl
    · rw [if_neg h, if_pos rfl, hg, if_neg h, Nat.add_zero]
      refine ih f c v (by omega) (by omega) (fun j hj => ?_)
      rw [hv j hj, tkm_s (show m < n by omega)]
      by_cases hl : lf s m = true
      · have hcv : cov s n m = true := by
          cases hx : cov s n m
          · rw [hl, hx] at h; exact absurd rfl h
          · rfl
        by_cases hr : inR s 24 m j = true
        · have ht : tkm s n (m + 1) j = true := by
            obtain ⟨d, h1, h2, h3, h4⟩ := cov_iff n |>.mp hcv
            have h5 := inR_le I 24 d m h1 h3
            exact (tkm_iff (n - (m + 1)) (m + 1) (by omega)).mpr ⟨d, by omega, h1, h2, inR_trans I hr 24 d h1 (by omega) h3⟩
          rw [hl, hr, ht]
          rfl
        · have hr : inR s 24 m j = false := Bool.not_eq_true _ ▸ hr
          rw [hr, Bool.and_false, Bool.false_or]
      · have hl : lf s m = false := Bool.not_eq_true _ ▸ hl
        rw [hl, Bool.false_and, Bool.false_or]
/-- the two ways agree -/
theorem ends_rel {σ : St} (I : SI n s) (R : RH n σ s) : fX1_countEnds σ = some (nI (cnt (gr s n) n)) := by
  have hn := I.1
  obtain ⟨w, w1, w2⟩ := waits I R
  unfold fX1_countEnds
  rw [w1, Option.bind_some]
  exact ends_loop I R w2 n 1000 0 0 (by omega) (by omega) (fun j _ => by
    show _ = (decide (j < n) && false)
    rw [b_0, Bool.and_false])
theorem hon_rel {σ : St} (I : SI n s) (R : RH n σ s) : fX1_countHonestOpenings σ = some (nI (cnt (gr s n) n)) := by
  have hn := I.1
  obtain ⟨w, w1, w2⟩ := waits I R
  unfold fX1_countHonestOpenings
  rw [w1, Option.bind_some, R.1]
  have h := hon_count I R n 1000 0 w (Nat.le_refl n) (by omega) (fun j hj => by rw [w2 j hj, tkm_n]; cases lf s j <;> rfl)
  rw [Nat.zero_add] at h
  exact h
theorem few_le : cnt (gr s n) n ≤ cnt (lf s) n := cnt_mono (fun k _ h => (Bool.and_eq_true _ _ ▸ h : _ ∧ _).1)
theorem few_zero (I : SI n s) : cnt (gr s n) n = 0 ↔ cnt (lf s) n = 0 := by
  refine ⟨fun h => ?_, fun h => by have := few_le (s := s) (n := n); omega⟩
  rcases max_or (lf s) n with h0 | ⟨m, hm, hl, ha⟩
  · exact (cnt_cong h0).trans (cnt_false n)
  · exfalso
    have hp : gr s n m = true := by
      show (lf s m && !cov s n m) = true
      have hc : cov s n m = false := by
        cases hx : cov s n m
        · rfl
        · obtain ⟨d, h1, h2, h3, h4⟩ := cov_iff n |>.mp hx
          have h5 := inR_le I 24 d m h1 h3
          have h6 := ha d (by omega) h1
          rw [h2] at h6
          exact absurd h6 (by decide)
      rw [hl, hc]
      rfl
    have := cnt_pos hm hp
    omega
end COUNT
