/-! PURE: what the looks answer, over the array s -/
theorem ob1 {α : Type} (o : Option α) : o.bind (fun q => some q) = o := by cases o <;> rfl
theorem cart_eq (x : XS) (a b : Int32) : fX3_cart x a b = fX1_tellOfCart x.2.1 a b := ob1 _
theorem chain_eq (x : XS) (a b : Int32) : fX3_chain x a b = fX1_cartOfChain x.2.1 a b := ob1 _
theorem broken_eq (x : XS) (a : Int32) : fX3_brokenIn x a = fX1_firstBroken x.2.1 a := ob1 _
theorem ifOpened_eq (x : XS) (a b : Int32) : fX3_ifOpened x a b = fX1_foretell x.2.1 a b := ob1 _
theorem sameSeal_eq (x : XS) (a : Int32) : fX3_sameSeal x a = fX1_otherClaimForSeal x.2.1 a := ob1 _
theorem total_eq (x : XS) (a : Int32) (h1 : ¬ a = 15) (h2 : ¬ a = 16) : fX3_total x a = fX1_tellOfAll x.2.1 a := by
  unfold fX3_total
  rw [if_neg h1, if_neg h2]
  exact ob1 _
theorem total15 (x : XS) : fX3_total x 15 = some (nI x.2.2.2.2.1.2.1) := rfl
section TELL
variable {n k : Nat} {σ : St} {s : Nat → Int32}
theorem tc0 (I : SI n s) (R : RH n σ s) (hk : k < n) : fX1_tellOfCart σ (nI k) 0 = some (s (8 + 8 * k)) := by
  have hn := I.1
  unfold fX1_tellOfCart
  rw [knows_in R.1 hn hk]
  show (if oob (nI k) 24 then none else some (σ 1 (nI k).toNatClampNeg)) = _
  rw [if_neg (vp_in_nI (by omega) (by decide)), cl (by omega), (R.2.2.2.1 k hk).1]
theorem tc2 (I : SI n s) (R : RH n σ s) (hk : k < n) : fX1_tellOfCart σ (nI k) 2 = some (if s (8 + 8 * k + 2) = -1 then -5 else s (8 + 8 * k + 2)) := by
  have hn := I.1
  unfold fX1_tellOfCart
  rw [knows_in R.1 hn hk]
  show (if oob (nI k) 24 then none else if σ 3 (nI k).toNatClampNeg = -1 then some (-5) else if oob (nI k) 24 then none else some (σ 3 (nI k).toNatClampNeg)) = _
  rw [if_neg (vp_in_nI (by omega) (by decide)), if_neg (vp_in_nI (by omega) (by decide)), cl (by omega), (R.2.2.2.1 k hk).2.2.1]
  split <;> rfl
theorem tc3 (I : SI n s) (R : RH n σ s) (hk : k < n) : fX1_tellOfCart σ (nI k) 3 = some (s (8 + 8 * k + 3)) := by
  have hn := I.1
  unfold fX1_tellOfCart
  rw [knows_in R.1 hn hk]
  show (if oob (nI k) 24 then none else some (σ 4 (nI k).toNatClampNeg)) = _
  rw [if_neg (vp_in_nI (by omega) (by decide)), cl (by omega), (R.2.2.2.1 k hk).2.2.2.1]
theorem tc4 (I : SI n s) (R : RH n σ s) (hk : k < n) : fX1_tellOfCart σ (nI k) 4 = some (sealX s k (s (8 + 8 * k))) := by
  have hn := I.1
  unfold fX1_tellOfCart
  rw [knows_in R.1 hn hk]
  show (fX1_rightSeal σ (nI k)).bind (fun r16 => some r16) = _
  rw [rightSeal_rel I R hk]
  rfl
theorem tc5 (I : SI n s) (R : RH n σ s) (hk : k < n) : fX1_tellOfCart σ (nI k) 5 = some (if whB s k then 1 else 0) := by
  have hn := I.1
  unfold fX1_tellOfCart
  rw [knows_in R.1 hn hk]
  show (fX1_isWhole σ (nI k)).bind (fun r18 => if r18 = 0 then (some 0) else (some 1)) = _
  rw [isWhole_rel I R hk]
  cases whB s k <;> rfl
theorem tc6 (I : SI n s) (R : RH n σ s) (hk : k < n) : fX1_tellOfCart σ (nI k) 6 = some (if s (8 + 8 * k + 4) = 1 then 1 else 0) := by
  have hn := I.1
  unfold fX1_tellOfCart
  rw [knows_in R.1 hn hk]
  show (fX1_isIn (σ 7 0) (nI k)).bind (fun r18 => if r18 = 0 then (some 0) else (some 1)) = _
  rw [in7 R hn hk]
  by_cases h : s (8 + 8 * k + 4) = 1
  · rw [if_pos h]; rfl
  · rw [if_neg h]; rfl
theorem tc7 (I : SI n s) (R : RH n σ s) (hk : k < n) : fX1_tellOfCart σ (nI k) 7 = some (if s (8 + 8 * k + 5) = 1 then 1 else 0) := by
  have hn := I.1
  unfold fX1_tellOfCart
  rw [knows_in R.1 hn hk]
  show (fX1_isIn (σ 9 0) (nI k)).bind (fun r18 => if r18 = 0 then (some 0) else (some 1)) = _
  rw [in9 R hn hk]
  by_cases h : s (8 + 8 * k + 5) = 1
  · rw [if_pos h]; rfl
  · rw [if_neg h]; rfl
theorem tc9 (I : SI n s) (R : RH n σ s) (hk : k < n) : fX1_tellOfCart σ (nI k) 9 = some (nI (lenC s 24 k)) := by
  have hn := I.1
  obtain ⟨m, a1, a2⟩ := chainOf_rel I R hk
  have b1 := bitCount_mask hn a2
  rw [lenC_cnt I 24 k hk (by omega)] at b1
  unfold fX1_tellOfCart
  rw [knows_in R.1 hn hk]
  show (fX1_chainOf σ (nI k)).bind (fun r29 => (fJ6_bitCount_0f7a4 r29).bind (fun r30 => some r30)) = _
  rw [a1, Option.bind_some, b1]
  rfl
theorem tc10 (I : SI n s) (R : RH n σ s) (hk : k < n) : fX1_tellOfCart σ (nI k) 10 = some (nI (cnt (vc s (nI k)) n)) := by
  have hn := I.1
  obtain ⟨m, a1, a2⟩ := vouchX I R (nI k)
  have b1 := bitCount_mask hn a2
  unfold fX1_tellOfCart
  rw [knows_in R.1 hn hk]
  show (fX1_vouchers σ (nI k)).bind (fun r29 => (fJ6_bitCount_0f7a4 r29).bind (fun r30 => some r30)) = _
  rw [a1, Option.bind_some, b1]
  rfl
theorem tc11 (I : SI n s) (R : RH n σ s) (hk : k < n) : fX1_tellOfCart σ (nI k) 11 = some (nI (cnt (fun i => inC s 24 i k) n)) := by
  have hn := I.1
  unfold fX1_tellOfCart
  rw [knows_in R.1 hn hk]
  show (fX1_countChainsWith σ (nI k)).bind (fun r29 => some r29) = _
  rw [chainsX I R hk]
  rfl
theorem tc12 (I : SI n s) (R : RH n σ s) (hk : k < n) : ∃ r : Int32, fX1_tellOfCart σ (nI k) 12 = some r ∧ (r = 0 ↔ s (8 + 8 * k + 5) = 1) := by
  have hn := I.1
  unfold fX1_tellOfCart
  rw [knows_in R.1 hn hk]
  show ∃ r : Int32, (fX1_whyNotCleared σ (nI k)).bind (fun r29 => some r29) = some r ∧ (r = 0 ↔ s (8 + 8 * k + 5) = 1)
  rw [ob1]
  unfold fX1_whyNotCleared
  rw [in9 R hn hk, Option.bind_some]
  by_cases h5 : s (8 + 8 * k + 5) = 1
  · rw [if_pos h5]
    exact ⟨0, rfl, fun _ => h5, fun _ => rfl⟩
  · rw [if_neg h5, if_pos rfl, in8 R hn hk, Option.bind_some]
    by_cases h6 : s (8 + 8 * k + 6) = 1
    · rw [if_pos h6]
      exact ⟨1, rfl, fun z => absurd z (by decide), fun z => absurd z h5⟩
    · rw [if_neg h6, if_pos rfl]
      obtain ⟨m, e1, -⟩ := vouchX I R (nI k)
      rw [e1, Option.bind_some]
      by_cases q1 : m = 0
      · rw [if_pos q1]
        exact ⟨2, rfl, fun z => absurd z (by decide), fun z => absurd z h5⟩
      · rw [if_neg q1]
        by_cases q2 : m &&& σ 9 0 = 0
        · rw [if_pos q2]
          exact ⟨3, rfl, fun z => absurd z (by decide), fun z => absurd z h5⟩
        · rw [if_neg q2]
          exact ⟨4, rfl, fun z => absurd z (by decide), fun z => absurd z h5⟩
/-- what an opening would bring is refused just for those that were opened -/
theorem foretell0 (I : SI n s) (R : RH n σ s) (hk : k < n) : ∃ r : Int32, fX1_foretell σ (nI k) 0 = some r ∧ (r = -4 ↔ s (8 + 8 * k + 4) = 1) := by
  have hn := I.1
  unfold fX1_foretell
  rw [knows_in R.1 hn hk]
  show ∃ r : Int32, (fX1_isIn (σ 7 0) (nI k)).bind (fun r5 => if r5 = 0 then ((fX1_clearedIfHonest σ (nI k)).bind (fun r14 => (fJ6_bitCount_0f7a4 r14).bind (fun r15 => some r15))) else some (-4)) = some r ∧ (r = -4 ↔ s (8 + 8 * k + 4) = 1)
  rw [in7 R hn hk, Option.bind_some]
  by_cases h : s (8 + 8 * k + 4) = 1
  · rw [if_pos h]
    exact ⟨-4, rfl, fun _ => h, fun _ => rfl⟩
  · rw [if_neg h, if_pos rfl]
    obtain ⟨m, a1, a2⟩ := honest_rel I R hk
    rw [a1, Option.bind_some, bitCount_mask (c := fun j => inR s 24 k j && frs s j) hn a2, Option.bind_some]
    refine ⟨_, rfl, fun z => ?_, fun z => absurd z h⟩
    have := cnt_le (fun j => inR s 24 k j && frs s j) n
    exact absurd z (fun e => nI_nn (k := cnt (fun j => inR s 24 k j && frs s j) n) (by omega) (by rw [e]; decide))
theorem ta5 (R : RH n σ s) : fX1_tellOfAll σ 5 = some (nI n) := by
  show some (σ 6 0) = _
  rw [R.1]
theorem ta6 (I : SI n s) (R : RH n σ s) : fX1_tellOfAll σ 6 = some (nI (cnt (fun j => decide (s (8 + 8 * j + 4) = 1)) n)) := by
  show (fJ6_bitCount_0f7a4 (σ 7 0)).bind (fun r => some r) = _
  rw [bitCount_mask (x := σ 7 0) (c := fun j => decide (s (8 + 8 * j + 4) = 1)) I.1 (fun j hj => (R.2.2.2.2 j hj).1)]
  rfl
theorem ta7 (I : SI n s) (R : RH n σ s) : fX1_tellOfAll σ 7 = some (nI (cnt (fun j => decide (s (8 + 8 * j + 5) = 1)) n)) := by
  show (fJ6_bitCount_0f7a4 (σ 9 0)).bind (fun r => some r) = _
  rw [bitCount_mask (x := σ 9 0) (c := fun j => decide (s (8 + 8 * j + 5) = 1)) I.1 (fun j hj => (R.2.2.2.2 j hj).2.1)]
  rfl
theorem ta9 (I : SI n s) (R : RH n σ s) : fX1_tellOfAll σ 9 = some (foldG (fun i (a : Int32) => if whB s i then a else a + 1) n 0) := by
  show (fX1_countBroken σ).bind (fun r => some r) = _
  rw [brokenX I R]
  rfl
/-- a cart for which none vouches -/
def noV (s : Nat → Int32) (n k : Nat) : Bool := decide (cnt (vc s (nI k)) n = 0)
theorem ta13 (I : SI n s) (R : RH n σ s) : fX1_tellOfAll σ 13 = some (nI (cnt (noV s n) n)) := by
  show (fX1_countUnvouched σ).bind (fun r => some r) = _
  rw [endsX I R, ← fold_cnt (noV s n) n]
  show some _ = some _
  congr 1
  refine foldG_cong 0 (fun i a _ => ?_)
  unfold noV
  by_cases h : cnt (vc s (nI i)) n = 0
  · rw [if_pos h, if_pos (decide_eq_true h)]
  · rw [if_neg h, if_neg (by rw [decide_eq_false h]; decide)]
/-! chains -/
theorem lenC_fuel (I : SI n s) : ∀ (f g k : Nat), k < n → k < f → k < g → lenC s f k = lenC s g k := by
  intro f
  induction f with
  | zero => intro g k _ z; exact absurd z (Nat.not_lt_zero k)
  | succ f ih =>
    intro g k hk hf hg
    obtain ⟨g, rfl⟩ : ∃ q, g = q + 1 := ⟨g - 1, by omega⟩
    rcases nxt_cases I hk with ⟨-, e⟩ | ⟨q, hq, -, e⟩
    · rw [lenC_none e, lenC_none e]
    · rw [lenC_some e, lenC_some e, ih g q (by omega) (by omega) (by omega)]
theorem lenC_le (I : SI n s) : ∀ (f k : Nat), k < n → lenC s f k ≤ k + 1 := by
  intro f
  induction f with
  | zero => intro k _; exact Nat.zero_le _
  | succ f ih =>
    intro k hk
    rcases nxt_cases I hk with ⟨-, e⟩ | ⟨q, hq, -, e⟩
    · rw [lenC_none e]; omega
    · rw [lenC_some e]; have := ih q (by omega); omega
theorem lenC_pos {f : Nat} : 0 < lenC s (f + 1) k := by
  show 0 < 1 + _
  omega
/-- the cart of a rank in a chain -/
def wk (s : Nat → Int32) : Nat → Nat → Nat
  | 0, k => k
  | r + 1, k => match nxt s k with
    | none => 0
    | some q => wk s r q
theorem wk_some {r q : Nat} (h : nxt s k = some q) : wk s (r + 1) k = wk s r q := by
  show (match nxt s k with | none => 0 | some q => wk s r q) = _
  rw [h]
theorem wk_lt (I : SI n s) : ∀ (f r k : Nat), k < n → r < lenC s f k → wk s r k < n := by
  intro f
  induction f with
  | zero => intro r k _ z; exact absurd z (Nat.not_lt_zero r)
  | succ f ih =>
    intro r k hk hr
    rcases r with _ | r
    · exact hk
    · rcases nxt_cases I hk with ⟨-, e⟩ | ⟨q, hq, -, e⟩
      · rw [lenC_none e] at hr; omega
      · rw [lenC_some e] at hr
        rw [wk_some e]
        exact ih r q (by omega) (by omega)
theorem walk_ok (I : SI n s) (R : RH n σ s) (u1 : Int32) : ∀ (f g k i r : Nat), k < n → k < f → f ≤ g → i + f ≤ 24 → i + r ≤ 24 → fX1_cartOfChain_31 (g + 1) σ u1 (nI (i + r)) (nI k) (nI i) = some (if r < lenC s f k then nI (wk s r k) else -5) := by
  have hn := I.1
  intro f
  induction f with
  | zero => intro g k i r _ z; exact absurd z (Nat.not_lt_zero k)
  | succ f ih =>
    intro g k i r hk hf hg hi hr
    obtain ⟨g, rfl⟩ : ∃ q, g = q + 1 := ⟨g - 1, by omega⟩
    have e3 := (R.2.2.2.1 k hk).2.2.1
    rw [fX1_cartOfChain_31_s, knows_in R.1 hn hk]
    simp only [Option.bind_some, i10, if_false, nI_1, cl (show k < 2 ^ 31 by omega), e3]
    rcases r with _ | r
    · rw [if_pos (by exact Int32.le_refl _), if_pos lenC_pos]
      rfl
    · rw [if_neg (nI_ge (by omega) (by omega)), if_neg (vp_in_nI (by omega) (by decide))]
      rcases nxt_cases I hk with ⟨e, e2⟩ | ⟨q, hq, e, e2⟩
      · rw [e, fX1_cartOfChain_31_s, knows_m1, lenC_none e2, if_neg (show ¬ r + 1 < 1 by omega)]
        by_cases hy : nI (i + (r + 1)) ≤ nI (i + 1)
        · rw [if_pos hy]
          rfl
        · rw [if_neg hy]
          rfl
      · rw [e, show i + (r + 1) = (i + 1) + r by omega, ih g q (i + 1) r (by omega) (by omega) (by omega) (by omega) (by omega), lenC_some e2, wk_some e2]
        by_cases h : r < lenC s f q
        · rw [if_pos h, if_pos (by omega)]
        · rw [if_neg h, if_neg (by omega)]
theorem chain_rel (I : SI n s) (R : RH n σ s) (hk : k < n) {r : Nat} (hr : r ≤ 24) : fX1_cartOfChain σ (nI k) (nI r) = some (if r < lenC s 24 k then nI (wk s r k) else -5) := by
  have hn := I.1
  have hl := lenC_le I 24 k hk
  unfold fX1_cartOfChain
  rw [knows_in R.1 hn hk]
  show (if 0 ≤ nI r then if nI r < 24 then fX1_cartOfChain_31 1000 σ (nI k) (nI r) (nI k) 0 else some (-5) else some (-2)) = _
  rw [if_pos (nI_nnT (by omega))]
  by_cases h : r < 24
  · have h1 : nI r < 24 := nI_lt (b := 24) h (by decide)
    rw [if_pos h1]
    have w := walk_ok I R (nI k) 24 999 k 0 r hk (by omega) (by decide) (by decide) (by omega)
    rw [Nat.zero_add] at w
    exact w
  · have h1 : ¬ nI r < 24 := fun z => by have := (nI_ltI (b := 24) (by omega) (by decide)).mp z; omega
    rw [if_neg h1, if_neg (by omega)]
/-- a chain has a broken rope -/
def brk (s : Nat → Int32) : Nat → Nat → Bool
  | 0, _ => false
  | f + 1, k => (!whB s k) || (match nxt s k with
    | none => false
    | some q => brk s f q)
/-- a broken rope among the first r carts of a chain -/
def bb (s : Nat → Int32) : Nat → Nat → Bool
  | 0, _ => false
  | r + 1, k => bb s r k || !whB s (wk s r k)
theorem bb_shift {q : Nat} (h : nxt s k = some q) : ∀ r, bb s (r + 1) k = (!whB s k || bb s r q) := by
  intro r
  induction r with
  | zero =>
    show (false || !whB s k) = (!whB s k || false)
    rw [Bool.false_or, Bool.or_false]
  | succ r ih =>
    show (bb s (r + 1) k || !whB s (wk s (r + 1) k)) = (!whB s k || (bb s r q || !whB s (wk s r q)))
    rw [ih, wk_some h, Bool.or_assoc]
theorem bb_brk (I : SI n s) : ∀ (f k : Nat), k < n → k < f → bb s (lenC s f k) k = brk s f k := by
  intro f
  induction f with
  | zero => intro k _ z; exact absurd z (Nat.not_lt_zero k)
  | succ f ih =>
    intro k hk hf
    rcases nxt_cases I hk with ⟨-, e⟩ | ⟨q, hq, -, e⟩
    · rw [lenC_none e]
      show (false || !whB s k) = (!whB s k || (match nxt s k with | none => false | some q => brk s f q))
      rw [e, Bool.false_or, Bool.or_false]
    · rw [lenC_some e, Nat.add_comm, bb_shift e, ih q (by omega) (by omega)]
      show _ = (!whB s k || (match nxt s k with | none => false | some q => brk s f q))
      rw [e]
theorem brk_walk (I : SI n s) (R : RH n σ s) (u1 : Int32) : ∀ (f g k i : Nat), k < n → k < f → f ≤ g → i + f ≤ 24 → ∃ r : Int32, fX1_firstBroken_14 (g + 1) σ u1 (nI k) (nI i) = some r ∧ (0 ≤ r ↔ brk s f k = true) := by
  have hn := I.1
  intro f
  induction f with
  | zero => intro g k i _ z; exact absurd z (Nat.not_lt_zero k)
  | succ f ih =>
    intro g k i hk hf hg hi
    obtain ⟨g, rfl⟩ : ∃ q, g = q + 1 := ⟨g - 1, by omega⟩
    have e3 := (R.2.2.2.1 k hk).2.2.1
    have h24 : ¬ (24 : Int32) ≤ nI i := nI_ge_lit (N := 24) (by omega) (by decide)
    rw [fX1_firstBroken_14_s, if_neg h24, knows_in R.1 hn hk, isWhole_rel I R hk]
    simp only [Option.bind_some, i10, if_false, nI_1, cl (show k < 2 ^ 31 by omega), e3]
    have hb : brk s (f + 1) k = (!whB s k || (match nxt s k with | none => false | some q => brk s f q)) := rfl
    rw [hb]
    by_cases hw : whB s k = true
    · simp only [hw, if_true, i10, if_false, Bool.not_true, Bool.false_or]
      rw [if_neg (vp_in_nI (by omega) (by decide))]
      rcases nxt_cases I hk with ⟨e, e2⟩ | ⟨q, hq, e, e2⟩
      · rw [e, fX1_firstBroken_14_s, knows_m1, e2]
        refine ⟨-5, ?_, fun z => absurd z (by decide), fun z => absurd (show false = true from z) (by decide)⟩
        by_cases hy : (24 : Int32) ≤ nI (i + 1)
        · rw [if_pos hy]
        · rw [if_neg hy]
          rfl
      · rw [e, e2]
        exact ih g q (i + 1) (by omega) (by omega) (by omega) (by omega)
    · have hw : whB s k = false := Bool.not_eq_true _ ▸ hw
      simp only [hw]
      exact ⟨nI k, by simp, fun _ => by simp, fun _ => nI_nnT (by omega)⟩
theorem broken_rel (I : SI n s) (R : RH n σ s) (hk : k < n) : ∃ r : Int32, fX1_firstBroken σ (nI k) = some r ∧ (0 ≤ r ↔ bb s (lenC s 24 k) k = true) := by
  have hn := I.1
  rw [bb_brk I 24 k hk (by omega)]
  unfold fX1_firstBroken
  rw [knows_in R.1 hn hk, Option.bind_some, if_neg (by decide)]
  exact brk_walk I R (nI k) 24 999 k 0 hk (by omega) (by decide) (by decide)
end TELL
