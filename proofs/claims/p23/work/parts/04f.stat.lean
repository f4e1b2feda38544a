/-! the two static tables of House -/
def tLEAST : Nat → Int32 := fun j => if j = 0 then 1 else if j = 1 then 1 else if j = 2 then 10 else 0
def tGREATEST : Nat → Int32 := fun j => if j = 2 then 999 else 99
def stA (A : Nat → Prop) (U : State) (H : Heap) : Prop := ∃ t1 t2 : Nat, va_Z RX1 "LEAST" "[I" (.ref t1) A U H ∧ va_T .int t1 5 (fun j => .int (tLEAST j)) A U H ∧ va_Z RX1 "GREATEST" "[I" (.ref t2) A U H ∧ va_T .int t2 5 (fun j => .int (tGREATEST j)) A U H
theorem stA.moved {A : Nat → Prop} {u U : State} {H : Heap} (hvm : u.vm.Alike U.vm) (h : stA A u H) : stA A U H := by
  obtain ⟨t1, t2, h1, h2, h3, h4⟩ := h
  exact ⟨t1, t2, h1.moved hvm, h2.moved hvm, h3.moved hvm, h4.moved hvm⟩
theorem stA.kept {A : Nat → Prop} {U : State} {H H1 : Heap} (h : stA A U H) (hq : ∀ a : Nat, a < H.size → ¬ A a → H1[a]? = H[a]?) : stA A U H1 := by
  obtain ⟨t1, t2, h1, h2, h3, h4⟩ := h
  exact ⟨t1, t2, h1.kept hq, h2.kept hq, h3.kept hq, h4.kept hq⟩
theorem stA.narrow {A A2 : Nat → Prop} {U : State} {H : Heap} (h : stA A U H) (hA : ∀ q, A2 q → A q) : stA A2 U H := by
  obtain ⟨t1, t2, h1, h2, h3, h4⟩ := h
  exact ⟨t1, t2, h1.narrow hA, h2.narrow hA, h3.narrow hA, h4.narrow hA⟩
def preS (G : Gx) (av : List Value) (B : Heap → Prop) (A : Nat → Prop) : Array Value → State → Prop := va_Pc av (fun U => B U.heap ∧ gK G U ∧ stA A U U.heap)
theorem preS_blind {G : Gx} {av : List Value} {B : Heap → Prop} {A : Nat → Prop} : FrameBlind (preS G av B A) := fun a U g mk q => ⟨q.1, q.2.1, gK.moved (u := U) (U := U.calling g mk a) (Vm.Alike.refl U.vm) q.2.2.1, stA.moved (u := U) (U := U.calling g mk a) (Vm.Alike.refl U.vm) q.2.2.2⟩
section MYS
variable {p : Program} {l : Launch} {e : Env} {R : Room} {s : State} {m : MethodId} {args : Array Value} {below : List Frame} {meth : Method} {c : Code} {H : Heap} {locs : List Loc} {cells slots : Nat} {Q : State → Prop}
variable {cc bytes : ByteArray} {pc nL index n maxL : Nat} {ls : Array Slot} {rest st0 As : List Value} {G : Gx} {Ts ws : List Cond} {A A0 : Nat → Prop} {b lo hi : Nat} {own Cn : String} {y : MethodName} {ret : Option FieldType} {rm : Room} {B B2 : Heap → Prop}
theorem rowWs {v : Option Value} (C : Cx p m c cc nL s args Ts own G) (hM : Met l y ws rm (preS G (.ref b :: As) B A0) (QcW lo hi B2 v) 0 0 (lw_Fr lo hi)) (cw : CallW R s args own Cn index y bytes maxL ret ws rm 0 0 n)
    (hrecv : ∃ cell : Cell, H[b]? = some cell ∧ cell.vm.isStatics = false ∧ s.vm.findClass Cn = some cell.cls) (hB : B H) (hst0 : stA A0 s H) (hS : va_S A s.heap H locs) (hA : ∀ q, lw_Fr lo hi q → A q) (hn : As.length = n) (hsz : ls.size = nL) (hst : st0 = As.reverse ++ .ref b :: rest) (hW : (rest.map fun v => v.category).sum ≤ 8)
    (hdg : decode cc pc = .ok (.invokevirtual index, 3)) (hf : cells + 0 ≤ R.cells ∧ slots + 0 ≤ R.slots)
    (kk : ∀ (H1 : Heap) (locs1 : List Loc), B2 H1 → va_S A s.heap H1 locs1 → H.size ≤ H1.size → (∀ q : Nat, q < H.size → ¬ lw_Fr lo hi q → H1[q]? = H[q]?) → W p l e R s m args below meth c H1 locs1 cells slots Q (F0 m (pc + 3) ls (v.toList ++ rest))) : W p l e R s m args below meth c H locs cells slots Q (F0 m pc ls st0) := by
  intro T hT X
  obtain ⟨v1, st₀, t, T', L, h0, X', hL, e1, ⟨hv, hb2, hz, hk⟩, st⟩ := W.runV (H := H) (cells := cells) (slots := slots) (locs := locs) C.1 hM cw ⟨preS_blind, hrecv, fun U hU hW => ⟨rfl, by rw [hU]; exact hB, gK.moved hW.alike C.2, by rw [hU]; exact hst0.moved hW.alike⟩⟩ rfl hn hsz hst (lv_room hW) hdg hf T hT X
  cases hv
  rw [h0] at hz hk
  obtain ⟨t2, a1, b1⟩ := kk T'.heap (locs ++ L) (by rw [e1]; exact hb2) ⟨Nat.le_trans hS.1 (by rw [e1]; exact hz), fun q h1 h2 => by rw [e1, hk q (Nat.lt_of_lt_of_le h1 hS.1) (fun z => h2 (hA q z))]; exact hS.2.1 q h1 h2, fun q hq => by
      rcases List.mem_append.mp hq with h | h
      · exact hS.2.2 q h
      · exact hA _ (hL q h)⟩ (by rw [e1]; exact hz) (fun q h1 h2 => by rw [e1]; exact hk q h1 h2) T' rfl X'
  exact ⟨t2, st t2 a1, b1⟩
end MYS
theorem in_x {B i n q : Nat} (h : i + n ≤ 54) (z : lw_Fr (B + i) (B + i + n) q) : lw_Fr B (B + 54) q := fr_iff.mpr (by have := fr_iff.mp z; omega)
theorem in_x2 {B i j q : Nat} (hi : i + 7 ≤ 54) (hj : j + 7 ≤ 54) (z : fr2 (B + i) (B + j) q) : lw_Fr B (B + 54) q := z.elim (in_x hi) (in_x hj)
theorem in_xY {B j q : Nat} (hj : j + 7 ≤ 54) (z : frY (B + 22) (B + j) q) : lw_Fr B (B + 54) q := z.elim (in_x (by decide)) (in_x hj)
