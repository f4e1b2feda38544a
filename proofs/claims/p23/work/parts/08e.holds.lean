/-! PURE: what the law checks of every state -/
section HOLDS
variable {n : Nat} {x : XS} {s : Nat → Int32}
theorem fi {c d : Prop} [Decidable c] [Decidable d] (h : c ↔ d) : (if c then (1 : Int32) else 0) = (if d then 1 else 0) := by
  by_cases hc : c
  · rw [if_pos hc, if_pos (h.mp hc)]
  · rw [if_neg hc, if_neg (fun z => hc (h.mpr z))]
theorem ife {c : Prop} [Decidable c] : (if c then (some (1 : Int32)) else (some 0)) = some (if c then 1 else 0) := by split <;> rfl
theorem ife0 {c : Prop} [Decidable c] : (if c then (some (0 : Int32)) else (some 1)) = some (if c then 0 else 1) := by split <;> rfl
theorem flag1 {c : Prop} [Decidable c] : ((if c then (1 : Int32) else 0) = 1) ↔ c := by
  by_cases h : c
  · rw [if_pos h]; exact ⟨fun _ => h, fun _ => rfl⟩
  · rw [if_neg h]; exact ⟨fun z => absurd z (by decide), fun z => absurd z h⟩
theorem flag0 {c : Prop} [Decidable c] : ((if c then (1 : Int32) else 0) = 0) ↔ ¬ c := by
  by_cases h : c
  · rw [if_pos h]; exact ⟨fun z => absurd z (by decide), fun z => absurd h z⟩
  · rw [if_neg h]; exact ⟨fun _ => h, fun _ => rfl⟩
/-- the inner loop: is a rope of the chain broken -/
theorem inner_ok (I : SI n s) (R : RH n x.2.1 s) {k : Nat} (hk : k < n) (kk : Int32 → Int32 → Int32 → Int32 → Int32 → Int32 → Int32 → Int32 → Int32 → Int32 → Int32 → Int32 → Int32 → Option Int32) (v1 v2 v3 v4 v5 v6 v7 v9 v11 : Int32) : ∀ (m f r : Nat), r + m = lenC s 24 k → m < f → fL_holds_167 kk f x v1 v2 v3 v4 v5 v6 v7 (nI k) v9 (nI (lenC s 24 k)) v11 (if bb s r k then 1 else 0) (nI r) = kk v1 v2 v3 v4 v5 v6 v7 (nI k) v9 (nI (lenC s 24 k)) v11 (if bb s (lenC s 24 k) k then 1 else 0) (nI (lenC s 24 k)) := by
  have hn := I.1
  have hl := lenC_le I 24 k hk
  intro m
  induction m with
  | zero =>
    intro f r hr hf
    obtain ⟨f, rfl⟩ : ∃ q, f = q + 1 := ⟨f - 1, by omega⟩
    rw [Nat.add_zero] at hr
    rw [fL_holds_167_s, hr, if_pos (Int32.le_refl _)]
  | succ m ih =>
    intro f r hr hf
    obtain ⟨f, rfl⟩ : ∃ q, f = q + 1 := ⟨f - 1, by omega⟩
    rw [fL_holds_167_s, if_neg (nI_ge (by omega) (by omega)), nI_1, ← ih f (r + 1) (by omega) (by omega)]
    have hb : bb s (r + 1) k = (bb s r k || !whB s (wk s r k)) := rfl
    rw [hb]
    by_cases h : bb s r k = true
    · rw [h]
      rfl
    · have h : bb s r k = false := Bool.not_eq_true _ ▸ h
      rw [h, chain_eq, chain_rel I R hk (show r ≤ 24 by omega), if_pos (show r < lenC s 24 k by omega)]
      show ((fX3_cart x (nI (wk s r k)) 5).bind (fun q40 => if q40 = 0 then (some (1 : Int32)) else (some 0))).bind _ = _
      rw [cart_eq, tc5 I R (wk_lt I 24 r k hk (by omega))]
      cases whB s (wk s r k) <;> rfl
end HOLDS
/-- the sums at the k-th turn -/
def opC (s : Nat → Int32) (k : Nat) : Nat := cnt (fun j => decide (s (8 + 8 * j + 4) = 1)) k
def clC (s : Nat → Int32) (k : Nat) : Nat := cnt (fun j => decide (s (8 + 8 * j + 5) = 1)) k
def dpC (s : Nat → Int32) (k : Nat) : Nat := sumN (fun j => lenC s 24 j) k
def alC (s : Nat → Int32) (n k : Nat) : Nat := sumN (fun j => cnt (fun i => inC s 24 i j) n) k
section HOLDS2
variable {n : Nat} {x : XS} {s : Nat → Int32}
theorem step01 {p : Nat → Bool} {k : Nat} {c : Prop} [Decidable c] (h : p k = true ↔ c) : nI (cnt p k) + (if c then 1 else 0) = nI (cnt p (k + 1)) := by
  show _ = nI (cnt p k + (if p k then 1 else 0))
  by_cases hc : c
  · rw [if_pos hc, if_pos (h.mpr hc), nI_1]
  · rw [if_neg hc, if_neg (fun z => hc (h.mp z)), add0]
    rfl
theorem end_ok (I : SI n s) (R : RH n x.2.1 s) : ((fX3_fewestOpenings x 0).bind (fun q3 => (fX3_total x 6).bind (fun q4 => (if q4 = nI (opC s n) then ((fX3_total x 7).bind (fun q7 => if q7 = nI (clC s n) then (if nI (dpC s n) = nI (alC s n n) then ((fX3_total x 13).bind (fun q10 => if q10 = nI (cnt (noV s n) n) then (some 1) else (some 0))) else (some 0)) else (some 0))) else (some 0)).bind (fun w5 : Int32 => if w5 = 0 then (some 0) else ((fX3_fewestOpenings x 1).bind (fun q13 => if q3 = q13 then ((if q3 = 0 then (some 1) else (some 0)).bind (fun w15 : Int32 => (if nI (cnt (lf s) n) = 0 then (some 1) else (some 0)).bind (fun w17 : Int32 => if w15 = w17 then (if nI (cnt (lf s) n) < q3 then (some 0) else (some 1)) else (some 0)))) else (some 0)))))) : Option Int32) = some 1 := by
  have hn := I.1
  have f0 : fX3_fewestOpenings x 0 = some (nI (cnt (gr s n) n)) := by
    show (fX1_countEnds x.2.1).bind (fun q => some q) = _
    rw [ends_rel I R]
    rfl
  have f1 : fX3_fewestOpenings x 1 = some (nI (cnt (gr s n) n)) := by
    show (fX1_countHonestOpenings x.2.1).bind (fun q => some q) = _
    rw [hon_rel I R]
    rfl
  have e6 : fX3_total x 6 = some (nI (opC s n)) := (total_eq x 6 (by decide) (by decide)).trans (ta6 I R)
  have e7 : fX3_total x 7 = some (nI (clC s n)) := (total_eq x 7 (by decide) (by decide)).trans (ta7 I R)
  have e13 : fX3_total x 13 = some (nI (cnt (noV s n) n)) := (total_eq x 13 (by decide) (by decide)).trans (ta13 I R)
  have ed : dpC s n = alC s n n := depths_all I
  have g1 := cnt_le (gr s n) n
  have g2 := cnt_le (lf s) n
  have g3 := few_le (s := s) (n := n)
  have z1 : (nI (cnt (gr s n) n) = 0) = (cnt (gr s n) n = 0) := nI_z (by omega)
  have z2 : (nI (cnt (lf s) n) = 0) = (cnt (lf s) n = 0) := nI_z (by omega)
  have z3 : ¬ nI (cnt (lf s) n) < nI (cnt (gr s n) n) := nI_nlt g3 (by omega)
  rw [f0, Option.bind_some, e6, Option.bind_some, if_pos rfl, e7, Option.bind_some, if_pos rfl, ed, if_pos rfl, e13, Option.bind_some, if_pos rfl, Option.bind_some, if_neg (by decide), f1, Option.bind_some, if_pos rfl, ife, ife, Option.bind_some, Option.bind_some, if_pos (fi (by rw [z1, z2]; exact few_zero I)), if_neg z3]
set_option maxHeartbeats 1000000 in
theorem holds_loop (I : SI n s) (R : RH n x.2.1 s) : ∀ (m f k : Nat), k + m = n → m < f → fL_holds_25 f x (nI n) (nI (opC s k)) (nI (clC s k)) (nI (dpC s k)) (nI (alC s n k)) (nI (cnt (noV s n) k)) (nI (cnt (lf s) k)) (nI k) = some 1 := by
  have hn := I.1
  intro m
  induction m with
  | zero =>
    intro f k hk hf
    obtain ⟨f, rfl⟩ : ∃ q, f = q + 1 := ⟨f - 1, by omega⟩
    rw [Nat.add_zero] at hk
    subst hk
    rw [fL_holds_25_s, if_pos (Int32.le_refl _)]
    exact end_ok I R
  | succ m ih =>
    intro f k hkm hf
    obtain ⟨f, rfl⟩ : ∃ q, f = q + 1 := ⟨f - 1, by omega⟩
    have hk : k < n := by omega
    have hl := lenC_le I 24 k hk
    have c2 : fX3_cart x (nI k) 2 = _ := (cart_eq x _ _).trans (tc2 I R hk)
    have c3 : fX3_cart x (nI k) 3 = _ := (cart_eq x _ _).trans (tc3 I R hk)
    have c4 : fX3_cart x (nI k) 4 = _ := (cart_eq x _ _).trans (tc4 I R hk)
    have c5 : fX3_cart x (nI k) 5 = _ := (cart_eq x _ _).trans (tc5 I R hk)
    have c6 : fX3_cart x (nI k) 6 = _ := (cart_eq x _ _).trans (tc6 I R hk)
    have c7 : fX3_cart x (nI k) 7 = _ := (cart_eq x _ _).trans (tc7 I R hk)
    have c9 : fX3_cart x (nI k) 9 = _ := (cart_eq x _ _).trans (tc9 I R hk)
    have c10 : fX3_cart x (nI k) 10 = _ := (cart_eq x _ _).trans (tc10 I R hk)
    have c11 : fX3_cart x (nI k) 11 = _ := (cart_eq x _ _).trans (tc11 I R hk)
    obtain ⟨r12, t12, h12⟩ := tc12 I R hk
    have c12 : fX3_cart x (nI k) 12 = some r12 := (cart_eq x _ _).trans t12
    obtain ⟨rF, tF, hF⟩ := foretell0 I R hk
    have cF : fX3_ifOpened x (nI k) 0 = some rF := (ifOpened_eq x _ _).trans tF
    obtain ⟨rB, tB, hB⟩ := broken_rel I R hk
    have cB : fX3_brokenIn x (nI k) = some rB := (broken_eq x _).trans tB
    have cC : fX3_chain x (nI k) (nI (lenC s 24 k)) = some (-5) := by
      rw [chain_eq, chain_rel I R hk (by omega), if_neg (Nat.lt_irrefl _)]
    obtain ⟨s4, s5, s6⟩ := I.2.2.2.2.1 k (by omega)
    have q24 : (if (if whB s k then (1 : Int32) else 0) = 1 then (some (1 : Int32)) else some 0) = some (if whB s k then 1 else 0) := by cases whB s k <;> rfl
    have hlf : lf s k = true ↔ (if s (8 + 8 * k + 4) = 1 then (1 : Int32) else 0) + (if s (8 + 8 * k + 5) = 1 then 1 else 0) = 0 := by
      unfold lf
      rcases s4 with z | z <;> rcases s5 with z' | z' <;> rw [z, z'] <;> decide
    have hnv : noV s n k = true ↔ nI (cnt (vc s (nI k)) n) = 0 := by
      have := cnt_le (vc s (nI k)) n
      rw [nI_z (by omega)]
      unfold noV
      exact decide_eq_true_iff
    rw [fL_holds_25_s, if_neg (nI_ge hk (by omega)), c2, Option.bind_some, c9, Option.bind_some, c5, Option.bind_some, q24, Option.bind_some, c6, Option.bind_some, c7, Option.bind_some, c11, Option.bind_some, c10, Option.bind_some, ife, Option.bind_some, Option.bind_some, Option.bind_some, ife, Option.bind_some]
    have hi := fun kk v1 v2 v3 v4 v5 v6 v7 v9 v11 => inner_ok I R hk kk v1 v2 v3 v4 v5 v6 v7 v9 v11 (lenC s 24 k) 1000 0 (by omega) (by omega)
    have hi : ∀ kk v1 v2 v3 v4 v5 v6 v7 v9 v11, fL_holds_167 kk 1000 x v1 v2 v3 v4 v5 v6 v7 (nI k) v9 (nI (lenC s 24 k)) v11 0 0 = kk v1 v2 v3 v4 v5 v6 v7 (nI k) v9 (nI (lenC s 24 k)) v11 (if bb s (lenC s 24 k) k then 1 else 0) (nI (lenC s 24 k)) := hi
    rw [hi]
    rw [c3, Option.bind_some, c4, Option.bind_some, ife, Option.bind_some]
    have w1 : (if whB s k then (1 : Int32) else 0) = (if s (8 + 8 * k + 3) = sealX s k (s (8 + 8 * k)) then 1 else 0) := fi (by unfold whB; exact decide_eq_true_iff)
    rw [if_pos w1]
    -- the one ahead
    have ha : ¬ nI k ≤ (if s (8 + 8 * k + 2) = -1 then -5 else s (8 + 8 * k + 2)) := by
      rcases nxt_cases I hk with ⟨e, -⟩ | ⟨q, hq, e, -⟩
      · rw [e, if_pos rfl]
        exact fun z => absurd (Int32.le_trans (nI_nnT (k := k) (by omega)) z) (by decide)
      · rw [e, if_neg (nI_m1 (by omega))]
        exact nI_ge hq (by omega)
    rw [if_neg ha]
    have hd : (if 0 ≤ (if s (8 + 8 * k + 2) = -1 then -5 else s (8 + 8 * k + 2)) then ((fX3_cart x (if s (8 + 8 * k + 2) = -1 then -5 else s (8 + 8 * k + 2)) 9).bind (fun q50 => some (1 + q50))) else (some 1)) = some (nI (lenC s 24 k)) := by
      rcases nxt_cases I hk with ⟨e, e2⟩ | ⟨q, hq, e, e2⟩
      · rw [e, if_pos rfl, if_neg (by decide), lenC_none (f := 23) e2]
        rfl
      · rw [e, if_neg (nI_m1 (by omega)), if_pos (nI_nnT (by omega)), cart_eq, tc9 I R (show q < n by omega), Option.bind_some, lenC_some (f := 23) e2, lenC_fuel I 23 24 q (by omega) (by omega) (by omega)]
        exact congrArg some (nI_add 1 _)
    rw [hd, Option.bind_some, if_pos rfl, cC, Option.bind_some, if_pos rfl, cB, Option.bind_some, ife0, Option.bind_some]
    have hb : ¬ (if 0 ≤ rB then (0 : Int32) else 1) = (if bb s (lenC s 24 k) k then 1 else 0) := by
      by_cases z : bb s (lenC s 24 k) k = true
      · rw [if_pos z, if_pos (hB.mpr z)]
        decide
      · rw [if_neg z, if_neg (fun y => z (hB.mp y))]
        decide
    rw [if_neg hb, c10, Option.bind_some, c11, Option.bind_some]
    have hv := vouch_lt I hk
    have hcl := cnt_le (fun i => inC s 24 i k) n
    have hv2 : ¬ nI (cnt (fun i => inC s 24 i k) n) - 1 < nI (cnt (vc s (nI k)) n) := by
      have e1 : nI (cnt (fun i => inC s 24 i k) n) - 1 = nI (cnt (fun i => inC s 24 i k) n - 1) := pk_sub (b := 1) (by omega)
      rw [e1]
      exact nI_nlt (by omega) (by omega)
    rw [if_neg hv2, c12, Option.bind_some, ife, Option.bind_some, c7, Option.bind_some, ife, Option.bind_some, if_pos (fi (h12.trans flag1.symm)), cF, Option.bind_some, ife, Option.bind_some, c6, Option.bind_some, ife, Option.bind_some, if_pos (fi (hF.trans flag1.symm)), nI_1]
    have t1 : nI (opC s k) + (if s (8 + 8 * k + 4) = 1 then 1 else 0) = nI (opC s (k + 1)) := step01 (p := fun j => decide (s (8 + 8 * j + 4) = 1)) decide_eq_true_iff
    have t2 : nI (clC s k) + (if s (8 + 8 * k + 5) = 1 then 1 else 0) = nI (clC s (k + 1)) := step01 (p := fun j => decide (s (8 + 8 * j + 5) = 1)) decide_eq_true_iff
    have t3 : nI (dpC s k) + nI (lenC s 24 k) = nI (dpC s (k + 1)) := nI_add _ _
    have t4 : nI (alC s n k) + nI (cnt (fun i => inC s 24 i k) n) = nI (alC s n (k + 1)) := nI_add _ _
    have t5 := step01 (k := k) hnv
    have t6 := step01 (k := k) hlf
    rw [t1, t2, t3, t4, t5, t6]
    exact ih f (k + 1) (by omega) (by omega)
theorem holds_ok (hI : Inv x) : fL_holds x = some 1 := by
  obtain ⟨μ, hR⟩ := hI
  obtain ⟨n, I, Bd, R⟩ := hR.1
  have hn := I.1
  unfold fL_holds
  rw [(total_eq x 5 (by decide) (by decide)).trans (ta5 R), Option.bind_some]
  exact holds_loop I R n 1000 0 (by omega) (by omega)
end HOLDS2
