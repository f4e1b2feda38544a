/-! my words: a state of an object is a table (slot, place) of ints; a spec is an Option: none where the machine would leave the road -/
abbrev St : Type := Nat → Nat → Int32
def up (σ : St) (k i : Nat) (v : Int32) : St := fun a => if a = k then upd (σ a) i v else σ a
abbrev oob (i : Int32) (n : Nat) : Prop := i < 0 ∨ n ≤ i.toNatClampNeg
theorem og {α : Type} {c : Prop} [Decidable c] {x : Option α} {o : α} (h : (if c then none else x) = some o) : ¬ c ∧ x = some o := by
  by_cases hc : c
  · rw [if_pos hc] at h; cases h
  · rw [if_neg hc] at h; exact ⟨hc, h⟩
theorem ot {α : Type} {c : Prop} [Decidable c] {x : Option α} {o : α} (h : (if c then x else none) = some o) : c ∧ x = some o := by
  by_cases hc : c
  · rw [if_pos hc] at h; exact ⟨hc, h⟩
  · rw [if_neg hc] at h; cases h
theorem ob {α β : Type} {x : Option α} {f : α → Option β} {o : β} (h : x.bind f = some o) : ∃ r, x = some r ∧ f r = some o := by
  cases x with
  | none => cases h
  | some r => exact ⟨r, rfl, h⟩
theorem ip {α : Type} {c : Prop} [Decidable c] {x y o : α} (h : (if c then x else y) = o) (hc : c) : x = o := by rw [if_pos hc] at h; exact h
theorem iq {α : Type} {c : Prop} [Decidable c] {x y o : α} (h : (if c then x else y) = o) (hc : ¬ c) : y = o := by rw [if_neg hc] at h; exact h
theorem so {α : Type} {a b : α} (h : some a = some b) : a = b := Option.some.inj h
theorem pr {α β : Type} {a c : α} {b d : β} (h : some (a, b) = some (c, d)) : a = c ∧ b = d := by
  have h := Option.some.inj h
  exact ⟨congrArg Prod.fst h, congrArg Prod.snd h⟩
abbrev Gx : Type := va_G × (Nat → ClassId)
def gK (G : Gx) (U : State) : Prop := va_K G.1 vwCl [(G.2 0, .int), (G.2 1, .char), (G.2 2, .object RX1)] U
theorem gK.moved {G : Gx} {u U : State} (hvm : u.vm.Alike U.vm) (h : gK G u) : gK G U := va_K.moved hvm h
def pre (G : Gx) (av : List Value) (B : Heap → Prop) : Array Value → State → Prop := va_Pc av (fun U => B U.heap ∧ gK G U)
def QcW (lo hi : Nat) (B : Heap → Prop) (v : Option Value) : Array Value → State → Outcome → State → Prop := fun _ st o t => o = .returned v ∧ B t.heap ∧ va_F (lw_Fr lo hi) st t
theorem pre_blind {G : Gx} {av : List Value} {B : Heap → Prop} : FrameBlind (pre G av B) := fun a U g mk q => ⟨q.1, q.2.1, gK.moved (u := U) (U := U.calling g mk a) (Vm.Alike.refl U.vm) q.2.2⟩
def Cx (p : Program) (m : MethodId) (c : Code) (cc : ByteArray) (nL : Nat) (s : State) (args : Array Value) (Ts : List Cond) (own : String) (G : Gx) : Prop := CallFix p m c cc nL s args Ts own ∧ gK G s
abbrev rmN (k : Nat) : Room := { frames := k, cells := 0, slots := 0, locals := 40 * k }
section MYR
variable {p : Program} {l : Launch} {e : Env} {R : Room} {s : State} {m : MethodId} {args : Array Value} {below : List Frame} {meth : Method} {c : Code} {H : Heap} {locs : List Loc} {cells slots : Nat} {Q : State → Prop}
variable {cc bytes : ByteArray} {pc nL index n maxL : Nat} {ls : Array Slot} {rest st0 As : List Value} {G : Gx} {Ts ws : List Cond} {A : Nat → Prop} {b lo hi : Nat} {own Cn : String} {y : MethodName} {ret : Option FieldType} {rm : Room} {B B2 : Heap → Prop} {r : Int32}
/-- a call of a method that only reads -/
theorem rowV (C : Cx p m c cc nL s args Ts own G) (hM : Met l y ws rm (pre G (.ref b :: As) B) (QcRead r) 0 0 (fun _ => False)) (cw : CallW R s args own Cn index y bytes maxL ret ws rm 0 0 n)
    (hrecv : ∃ cell : Cell, H[b]? = some cell ∧ cell.vm.isStatics = false ∧ s.vm.findClass Cn = some cell.cls) (hB : B H) (hn : As.length = n) (hsz : ls.size = nL) (hst : st0 = As.reverse ++ .ref b :: rest) (hW : (rest.map fun v => v.category).sum ≤ 8)
    (hdg : decode cc pc = .ok (.invokevirtual index, 3)) (hf : cells + 0 ≤ R.cells ∧ slots + 0 ≤ R.slots)
    (kk : W p l e R s m args below meth c H locs cells slots Q (F0 m (pc + 3) ls (.int r :: rest))) : W p l e R s m args below meth c H locs cells slots Q (F0 m pc ls st0) :=
  W.callR (W.runV C.1 hM cw ⟨pre_blind, hrecv, fun U hU hW => ⟨rfl, by rw [hU]; exact hB, gK.moved hW.alike C.2⟩⟩ rfl hn hsz hst (lv_room hW) hdg hf) kk
/-- a call of a static method that only reads -/
theorem rowS (C : Cx p m c cc nL s args Ts own G) (hM : Met l y ws rm (pre G As B) (QcRead r) 0 0 (fun _ => False)) (cw : CallB R s args own index y bytes maxL ret ws rm 0 0 n ∧ (Cond.static y).before args s = true)
    (hB : B H) (hn : As.length = n) (hsz : ls.size = nL) (hst : st0 = As.reverse ++ rest) (hW : (rest.map fun v => v.category).sum ≤ 8)
    (hdg : decode cc pc = .ok (.invokestatic index, 3)) (hf : cells + 0 ≤ R.cells ∧ slots + 0 ≤ R.slots)
    (kk : W p l e R s m args below meth c H locs cells slots Q (F0 m (pc + 3) ls (.int r :: rest))) : W p l e R s m args below meth c H locs cells slots Q (F0 m pc ls st0) :=
  W.callR (W.runS C.1 hM cw ⟨pre_blind, fun U hU hW => ⟨rfl, by rw [hU]; exact hB, gK.moved hW.alike C.2⟩⟩ rfl hn hsz hst (lv_room hW) hdg hf) kk
/-- a call of a method that writes: its cells are those from lo to hi -/
theorem rowW {v : Option Value} (C : Cx p m c cc nL s args Ts own G) (hM : Met l y ws rm (pre G (.ref b :: As) B) (QcW lo hi B2 v) 0 0 (lw_Fr lo hi)) (cw : CallW R s args own Cn index y bytes maxL ret ws rm 0 0 n)
    (hrecv : ∃ cell : Cell, H[b]? = some cell ∧ cell.vm.isStatics = false ∧ s.vm.findClass Cn = some cell.cls) (hB : B H) (hS : va_S A s.heap H locs) (hA : ∀ q, lw_Fr lo hi q → A q) (hn : As.length = n) (hsz : ls.size = nL) (hst : st0 = As.reverse ++ .ref b :: rest) (hW : (rest.map fun v => v.category).sum ≤ 8)
    (hdg : decode cc pc = .ok (.invokevirtual index, 3)) (hf : cells + 0 ≤ R.cells ∧ slots + 0 ≤ R.slots)
    (kk : ∀ (H1 : Heap) (locs1 : List Loc), B2 H1 → va_S A s.heap H1 locs1 → H.size ≤ H1.size → (∀ q : Nat, q < H.size → ¬ lw_Fr lo hi q → H1[q]? = H[q]?) → W p l e R s m args below meth c H1 locs1 cells slots Q (F0 m (pc + 3) ls (v.toList ++ rest))) : W p l e R s m args below meth c H locs cells slots Q (F0 m pc ls st0) := by
  intro T hT X
  obtain ⟨v1, st₀, t, T', L, h0, X', hL, e1, ⟨hv, hb2, hz, hk⟩, st⟩ := W.runV (H := H) (cells := cells) (slots := slots) (locs := locs) C.1 hM cw ⟨pre_blind, hrecv, fun U hU hW => ⟨rfl, by rw [hU]; exact hB, gK.moved hW.alike C.2⟩⟩ rfl hn hsz hst (lv_room hW) hdg hf T hT X
  cases hv
  rw [h0] at hz hk
  obtain ⟨t2, a1, b1⟩ := kk T'.heap (locs ++ L) (by rw [e1]; exact hb2) ⟨Nat.le_trans hS.1 (by rw [e1]; exact hz), fun q h1 h2 => by rw [e1, hk q (Nat.lt_of_lt_of_le h1 hS.1) (fun z => h2 (hA q z))]; exact hS.2.1 q h1 h2, fun q hq => by
      rcases List.mem_append.mp hq with h | h
      · exact hS.2.2 q h
      · exact hA _ (hL q h)⟩ (by rw [e1]; exact hz) (fun q h1 h2 => by rw [e1]; exact hk q h1 h2) T' rfl X'
  exact ⟨t2, st t2 a1, b1⟩
end MYR
/-! the objects: House (7 cells), OrderText (2 cells), the reference (7 cells), one behind the other from b on -/
abbrev hWs (G : Gx) (b : Nat) (σ : St) : va_W := [(b, .inr (1, [.ref (b + 1), .ref (b + 2), .ref (b + 3), .ref (b + 4), .ref (b + 5), .ref (b + 6), .int (σ 6 0), .int (σ 7 0), .int (σ 8 0), .int (σ 9 0), .int (σ 10 0)])), (b + 1, .inl (G.2 0, 5, .inl (σ 0))), (b + 2, .inl (G.2 0, 24, .inl (σ 1))), (b + 3, .inl (G.2 0, 24, .inl (σ 2))), (b + 4, .inl (G.2 0, 24, .inl (σ 3))), (b + 5, .inl (G.2 0, 24, .inl (σ 4))), (b + 6, .inl (G.2 0, 24, .inl (σ 5)))]
abbrev tWs (G : Gx) (b : Nat) (σ : St) : va_W := [(b, .inr (2, [.ref (b + 1), .int (σ 1 0), .int (σ 2 0), .int (σ 3 0), .int (σ 4 0), .int (σ 5 0), .int (σ 6 0)])), (b + 1, .inl (G.2 1, 60, .inl (σ 0)))]
def hAt (G : Gx) (b : Nat) (σ : St) (H : Heap) : Prop := va_P G.1 vwCl (hWs G b σ) H
def tAt (G : Gx) (b : Nat) (σ : St) (H : Heap) : Prop := va_P G.1 vwCl (tWs G b σ) H
theorem ws_D {ws : va_W} {b n : Nat} (h : ∀ (k : Nat) (q : Nat × va_E), ws[k]? = some q → q.1 = b + k ∧ k < n) : va_D (lw_Fr b (b + n)) ws :=
  ⟨fun i j p q hi hj e => by have h1 := (h i p hi).1; have h2 := (h j q hj).1; omega, fun k q hk => by
    obtain ⟨h1, h2⟩ := h k q hk
    show b ≤ q.1 ∧ q.1 < b + n
    rw [h1]
    exact ⟨Nat.le_add_right b k, Nat.add_lt_add_left h2 b⟩⟩
theorem hWs_D (G : Gx) (b : Nat) (σ : St) : va_D (lw_Fr b (b + 7)) (hWs G b σ) := ws_D (fun k q h => by
  rcases k with _ | _ | _ | _ | _ | _ | _ | k <;> simp [hWs] at h <;> subst h <;> exact ⟨rfl, by decide⟩)
theorem tWs_D (G : Gx) (b : Nat) (σ : St) : va_D (lw_Fr b (b + 2)) (tWs G b σ) := ws_D (fun k q h => by
  rcases k with _ | _ | k <;> simp [tWs] at h <;> subst h <;> exact ⟨rfl, by decide⟩)
