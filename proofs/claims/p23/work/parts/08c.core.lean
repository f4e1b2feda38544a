/-! PURE: told rests on the house alone -/
section TOLD
variable {x y : XS}
theorem total_house (h : x.2.1 = y.2.1) {a : Int32} (h1 : ¬ a = 15) (h2 : ¬ a = 16) : fX3_total x a = fX3_total y a := by rw [total_eq x a h1 h2, total_eq y a h1 h2, h]
theorem cart_house (h : x.2.1 = y.2.1) (a b : Int32) : fX3_cart x a b = fX3_cart y a b := by rw [cart_eq, cart_eq, h]
theorem told45_house (h : x.2.1 = y.2.1) {k1 k2 : Int64 → Int32 → Int32 → Option Int64} (hk : ∀ a b c, k1 a b c = k2 a b c) : ∀ (f : Nat) (v1 : Int64) (v3 v4 : Int32), fL_told_45 k1 f x v1 v3 v4 = fL_told_45 k2 f y v1 v3 v4 := by
  intro f
  induction f with
  | zero => intro v1 v3 v4; rw [fL_told_45_0, fL_told_45_0]
  | succ f ih =>
    intro v1 v3 v4
    rw [fL_told_45_s, fL_told_45_s]
    by_cases h9 : (9 : Int32) ≤ v4
    · rw [if_pos h9, if_pos h9]
      exact hk _ _ _
    · rw [if_neg h9, if_neg h9, cart_house h]
      exact congrArg _ (funext fun q => ih _ _ _)
theorem told33_house (h : x.2.1 = y.2.1) : ∀ (f : Nat) (v1 : Int64) (v3 : Int32), fL_told_33 f x v1 v3 = fL_told_33 f y v1 v3 := by
  intro f
  induction f with
  | zero => intro v1 v3; rw [fL_told_33_0, fL_told_33_0]
  | succ f ih =>
    intro v1 v3
    rw [fL_told_33_s, fL_told_33_s, total_house h (by decide) (by decide)]
    refine congrArg _ (funext fun q => ?_)
    by_cases h9 : q ≤ v3
    · rw [if_pos h9, if_pos h9]
    · rw [if_neg h9, if_neg h9]
      exact told45_house h (fun a b c => ih _ _) _ _ _ _
theorem told6_house (h : x.2.1 = y.2.1) : ∀ (f : Nat) (v1 : Int64) (v3 : Int32), fL_told_6 f x v1 v3 = fL_told_6 f y v1 v3 := by
  intro f
  induction f with
  | zero => intro v1 v3; rw [fL_told_6_0, fL_told_6_0]
  | succ f ih =>
    intro v1 v3
    rw [fL_told_6_s, fL_told_6_s]
    by_cases h9 : (15 : Int32) ≤ v3
    · rw [if_pos h9, if_pos h9]
      exact told33_house h _ _ _
    · rw [if_neg h9, if_neg h9, total_house h (fun z => h9 (by rw [z]; decide)) (fun z => h9 (by rw [z]; decide))]
      exact congrArg _ (funext fun q => ih _ _)
theorem told_house (h : x.2.1 = y.2.1) : fL_told x = fL_told y := told6_house h _ _ _
end TOLD
def Inv (x : XS) : Prop := ∃ μ, RX x μ
theorem Inv.total {x : XS} (h : Inv x) (a : Int32) : ∃ r : Int32, fX3_total x a = some r := by
  obtain ⟨μ, hR⟩ := h
  obtain ⟨r, -, e, -⟩ := q_total hR a
  exact ⟨r, e⟩
theorem Inv.cart {x : XS} (h : Inv x) (a b : Int32) : ∃ r : Int32, fX3_cart x a b = some r := by
  obtain ⟨μ, hR⟩ := h
  obtain ⟨r, -, e, -⟩ := q_cart hR a b
  exact ⟨r, e⟩
theorem Inv.hist {x : XS} (h : Inv x) : x.2.2.2.2.1.2.1 ≤ 4 := by
  obtain ⟨μ, hR⟩ := h
  exact hR.2.1.1
theorem told33_ok {x : XS} (h : Inv x) {n : Nat} (hn : n ≤ 24) (e5 : fX3_total x 5 = some (nI n)) : ∀ (m f c : Nat) (v1 : Int64), c + m = n → m < f → ∃ t, fL_told_33 f x v1 (nI c) = some t := by
  intro m
  induction m with
  | zero =>
    intro f c v1 hc hf
    obtain ⟨f, rfl⟩ : ∃ q, f = q + 1 := ⟨f - 1, by omega⟩
    rw [fL_told_33_s, e5, Option.bind_some, if_pos (nI_le (by omega) (by omega))]
    exact ⟨_, rfl⟩
  | succ m ih =>
    intro f c v1 hc hf
    obtain ⟨f, rfl⟩ : ∃ q, f = q + 1 := ⟨f - 1, by omega⟩
    rw [fL_told_33_s, e5, Option.bind_some, if_neg (nI_ge (by omega) (by omega))]
    suffices hs : ∀ v1 : Int64, ∃ t, fL_told_33 f x v1 (nI (c + 1)) = some t by
      have fu : ∀ (g d : Nat) (w : Int64), d + g = 9 → ∀ F, g < F → ∃ t, fL_told_45 (fun v1 v3 v4 => fL_told_33 f x v1 (v3 + 1)) F x w (nI c) (nI d) = some t := by
        intro g
        induction g with
        | zero =>
          intro d w hd F hF
          obtain ⟨F, rfl⟩ : ∃ q, F = q + 1 := ⟨F - 1, by omega⟩
          have h9 : (9 : Int32) ≤ nI d := nI_le (a := 9) (by omega) (by omega)
          rw [fL_told_45_s, if_pos h9, nI_1]
          exact hs _
        | succ g ihg =>
          intro d w hd F hF
          obtain ⟨F, rfl⟩ : ∃ q, F = q + 1 := ⟨F - 1, by omega⟩
          have h9 : ¬ (9 : Int32) ≤ nI d := nI_ge (b := 9) (by omega) (by decide)
          obtain ⟨r, e⟩ := h.cart (nI c) (nI d)
          rw [fL_told_45_s, if_neg h9, e, Option.bind_some, nI_1]
          exact ihg (d + 1) _ (by omega) F (by omega)
      exact fu 9 0 v1 rfl 1000 (by decide)
    intro v1
    exact ih f (c + 1) v1 (by omega) (by omega)
theorem told6_ok {x : XS} (h : Inv x) {n : Nat} (hn : n ≤ 24) (e5 : fX3_total x 5 = some (nI n)) : ∀ (m f c : Nat) (v1 : Int64), c + m = 15 → m < f → ∃ t, fL_told_6 f x v1 (nI c) = some t := by
  intro m
  induction m with
  | zero =>
    intro f c v1 hc hf
    obtain ⟨f, rfl⟩ : ∃ q, f = q + 1 := ⟨f - 1, by omega⟩
    have h9 : (15 : Int32) ≤ nI c := nI_le (a := 15) (by omega) (by omega)
    rw [fL_told_6_s, if_pos h9]
    exact told33_ok h hn e5 n 1000 0 _ (by omega) (by omega)
  | succ m ih =>
    intro f c v1 hc hf
    obtain ⟨f, rfl⟩ : ∃ q, f = q + 1 := ⟨f - 1, by omega⟩
    have h9 : ¬ (15 : Int32) ≤ nI c := nI_ge (b := 15) (by omega) (by decide)
    obtain ⟨r, e⟩ := h.total (nI c)
    rw [fL_told_6_s, if_neg h9, e, Option.bind_some, nI_1]
    exact ih f (c + 1) _ (by omega) (by omega)
theorem told_ok {x : XS} (h : Inv x) : ∃ t, fL_told x = some t := by
  obtain ⟨μ, hR⟩ := id h
  obtain ⟨n, I, Bd, R⟩ := hR.1
  exact told6_ok h I.1 (by rw [total_eq x 5 (by decide) (by decide)]; exact ta5 R) 15 1000 0 3 rfl (by decide)
/-! PURE: changes -/
def core (x : XS) : Int32 × St × St := (x.1, x.2.1, x.2.2.2.1)
def histO (x : XS) : YS := x.2.2.2.2.1
theorem core_1 {x y : XS} (h : core y = core x) : y.1 = x.1 := congrArg (fun q : Int32 × St × St => q.1) h
theorem core_h {x y : XS} (h : core y = core x) : y.2.1 = x.2.1 := congrArg (fun q : Int32 × St × St => q.2.1) h
theorem core_s {x y : XS} (h : core y = core x) : y.2.2.2.1 = x.2.2.2.1 := congrArg (fun q : Int32 × St × St => q.2.2) h
def chg (x : XS) (q : Int32 × St) : Option (Int32 × XS) := (fX3_recorded (xH (xB x (x.2.1)) q.2) q.1).bind (fun q2 => some (q2.1, q2.2))
theorem chg_lt {x : XS} {r : Int32} {σ2 : St} (h : r < 0) : chg x (r, σ2) = some (r, xH (xB x (x.2.1)) σ2) := X3_err h
theorem chg_ge {x : XS} {r : Int32} {σ2 : St} (h : ¬ r < 0) : chg x (r, σ2) = some (r, xY (xH (xB x (x.2.1)) σ2) (addY x.2.2.2.2.1 x.2.1)) := X3_rec h
/-- one step: its answer; an error leaves all; else the state before joins the history; the same core, the same step -/
def RES (f : XS → Option (Int32 × XS)) (x : XS) : Prop := ∃ (r : Int32) (x2 : XS), f x = some (r, x2) ∧ Inv x2 ∧ ((r < 0 ∧ core x2 = core x ∧ histO x2 = histO x) ∨ (¬ r < 0 ∧ x2.1 = x.1 ∧ x2.2.2.2.1 = x.2.2.2.1 ∧ histO x2 = addY (histO x) x.2.1)) ∧ ∀ y : XS, core y = core x → ∃ y2 : XS, f y = some (r, y2) ∧ core y2 = core x2
theorem RES_chg {f : XS → Option (Int32 × XS)} {x : XS} (h : XS → Option (Int32 × St)) (hf : ∀ y, core y = core x → f y = (h y).bind (chg y)) (hd : ∀ y, core y = core x → h y = h x) {r : Int32} {σ2 : St} (e : h x = some (r, σ2)) (hr : r < 0 → σ2 = x.2.1) (hI : ∃ (r2 : Int32) (x2 : XS), f x = some (r2, x2) ∧ Inv x2) : RES f x := by
  obtain ⟨r9, x9, e9, hI⟩ := hI
  by_cases h0 : r < 0
  · have fx : f x = some (r, xH (xB x (x.2.1)) σ2) := by
      rw [hf x rfl, e]
      exact chg_lt h0
    have h2 := pr (fx.symm.trans e9)
    rw [← h2.2] at hI
    refine ⟨r, _, fx, hI, Or.inl ⟨h0, ?_, rfl⟩, fun y hy => ⟨_, by rw [hf y hy, hd y hy, e]; exact chg_lt h0, ?_⟩⟩
    · rw [hr h0]
      rfl
    · show (y.1, σ2, y.2.2.2.1) = (x.1, σ2, x.2.2.2.1)
      rw [core_1 hy, core_s hy]
  · have fx : f x = some (r, xY (xH (xB x (x.2.1)) σ2) (addY x.2.2.2.2.1 x.2.1)) := by
      rw [hf x rfl, e]
      exact chg_ge h0
    have h2 := pr (fx.symm.trans e9)
    rw [← h2.2] at hI
    refine ⟨r, _, fx, hI, Or.inr ⟨h0, rfl, rfl, rfl⟩, fun y hy => ⟨_, by rw [hf y hy, hd y hy, e]; exact chg_ge h0, ?_⟩⟩
    show (y.1, σ2, y.2.2.2.1) = (x.1, σ2, x.2.2.2.1)
    rw [core_1 hy, core_s hy]
theorem RES_of {f g : XS → Option (Int32 × XS)} {x : XS} (hfg : ∀ y, core y = core x → f y = g y) (h : RES g x) : RES f x := by
  obtain ⟨r, x2, e, hI, hc, hy⟩ := h
  refine ⟨r, x2, (hfg x rfl).trans e, hI, hc, fun y hy2 => ?_⟩
  obtain ⟨y2, e2, c2⟩ := hy y hy2
  exact ⟨y2, (hfg y hy2).trans e2, c2⟩
theorem RES_ite {c : Prop} [Decidable c] {f g : XS → Option (Int32 × XS)} {x : XS} (hf : c → RES f x) (hg : ¬ c → RES g x) : RES (fun y => if c then f y else g y) x := by
  by_cases h : c
  · exact RES_of (fun y _ => if_pos h) (hf h)
  · exact RES_of (fun y _ => if_neg h) (hg h)
theorem RES_look {α : Type} {L : XS → Option α} {F : α → XS → Option (Int32 × XS)} {x : XS} {a : α} (e : ∀ y, core y = core x → L y = some a) (h : RES (F a) x) : RES (fun y => (L y).bind (fun q => F q y)) x := RES_of (fun y hy => by rw [e y hy]; rfl) h
theorem RES_lk {α : Type} {L : XS → Option α} {F : α → XS → Option (Int32 × XS)} {x : XS} (e : ∃ a, ∀ y, core y = core x → L y = some a) (h : ∀ a, RES (F a) x) : RES (fun y => (L y).bind (fun q => F q y)) x := by
  obtain ⟨a, e⟩ := e
  exact RES_look e (h a)
theorem RES_eta {f : XS → Option (Int32 × XS)} {x : XS} (h : RES f x) : RES (fun y => (f y).bind (fun q => some (q.1, q.2))) x := RES_of (fun y _ => ob1 _) h
theorem RES_same {x : XS} {r : Int32} (hI : Inv x) (hr : r < 0) : RES (fun y => some (r, y)) x := ⟨r, x, rfl, hI, Or.inl ⟨hr, rfl, rfl⟩, fun y hy => ⟨y, rfl, hy⟩⟩
