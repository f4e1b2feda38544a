/-! several objects at once: calls whose cells are of any kind A1; copies between two Houses -/
def QcA (A : Nat → Prop) (B : Heap → Prop) (v : Option Value) : Array Value → State → Outcome → State → Prop := fun _ st o t => o = .returned v ∧ B t.heap ∧ va_F A st t
section MYA
variable {p : Program} {l : Launch} {e : Env} {R : Room} {s : State} {m : MethodId} {args : Array Value} {below : List Frame} {meth : Method} {c : Code} {H : Heap} {locs : List Loc} {cells slots : Nat} {Q : State → Prop}
variable {cc bytes : ByteArray} {pc nL index n maxL : Nat} {ls : Array Slot} {rest st0 As : List Value} {G : Gx} {Ts ws : List Cond} {A A1 : Nat → Prop} {b : Nat} {own Cn : String} {y : MethodName} {ret : Option FieldType} {rm : Room} {B B2 : Heap → Prop}
theorem rowA {v : Option Value} (C : Cx p m c cc nL s args Ts own G) (hM : Met l y ws rm (pre G (.ref b :: As) B) (QcA A1 B2 v) 0 0 A1) (cw : CallW R s args own Cn index y bytes maxL ret ws rm 0 0 n)
    (hrecv : ∃ cell : Cell, H[b]? = some cell ∧ cell.vm.isStatics = false ∧ s.vm.findClass Cn = some cell.cls) (hB : B H) (hS : va_S A s.heap H locs) (hA : ∀ q, A1 q → A q) (hn : As.length = n) (hsz : ls.size = nL) (hst : st0 = As.reverse ++ .ref b :: rest) (hW : (rest.map fun v => v.category).sum ≤ 8)
    (hdg : decode cc pc = .ok (.invokevirtual index, 3)) (hf : cells + 0 ≤ R.cells ∧ slots + 0 ≤ R.slots)
    (kk : ∀ (H1 : Heap) (locs1 : List Loc), B2 H1 → va_S A s.heap H1 locs1 → H.size ≤ H1.size → (∀ q : Nat, q < H.size → ¬ A1 q → H1[q]? = H[q]?) → W p l e R s m args below meth c H1 locs1 cells slots Q (F0 m (pc + 3) ls (v.toList ++ rest))) : W p l e R s m args below meth c H locs cells slots Q (F0 m pc ls st0) := by
  intro T hT X
  obtain ⟨v1, st₀, t, T', L, h0, X', hL, e1, ⟨hv, hb2, hz, hk⟩, st⟩ := W.runV (H := H) (cells := cells) (slots := slots) (locs := locs) C.1 hM cw ⟨pre_blind, hrecv, fun U hU hW => ⟨rfl, by rw [hU]; exact hB, gK.moved hW.alike C.2⟩⟩ rfl hn hsz hst (lv_room hW) hdg hf T hT X
  cases hv
  rw [h0] at hz hk
  obtain ⟨t2, a1, b1⟩ := kk T'.heap (locs ++ L) (by rw [e1]; exact hb2) ⟨Nat.le_trans hS.1 (by rw [e1]; exact hz), fun q h1 h2 => by rw [e1, hk q (Nat.lt_of_lt_of_le h1 hS.1) (fun z => h2 (hA q z))]; exact hS.2.1 q h1 h2, fun q hq => by
      rcases List.mem_append.mp hq with h | h
      · exact hS.2.2 q h
      · exact hA _ (hL q h)⟩ (by rw [e1]; exact hz) (fun q h1 h2 => by rw [e1]; exact hk q h1 h2) T' rfl X'
  exact ⟨t2, st t2 a1, b1⟩
end MYA
/-- a world whose cells lie within [b, b + n) stays, where those cells stay -/
theorem P_kept {G : Gx} {ws : va_W} {b n : Nat} {A : Nat → Prop} {H H1 : Heap} (h : va_P G.1 vwCl ws H) (hD : va_D (lw_Fr b (b + n)) ws) (hk : ∀ q : Nat, q < H.size → ¬ A q → H1[q]? = H[q]?) (hd : ∀ q, b ≤ q → q < b + n → ¬ A q) : va_P G.1 vwCl ws H1 :=
  h.kept (fun k q hq => hk q.1 ((h k q hq).lt) (hd q.1 (hD.2 k q hq).1 (hD.2 k q hq).2))
theorem hAt.keep {G : Gx} {b : Nat} {σ : St} {A : Nat → Prop} {H H1 : Heap} (h : hAt G b σ H) (hk : ∀ q : Nat, q < H.size → ¬ A q → H1[q]? = H[q]?) (hd : ∀ q, b ≤ q → q < b + 7 → ¬ A q) : hAt G b σ H1 := P_kept h (hWs_D G b σ) hk hd
theorem tAt.keep {G : Gx} {b : Nat} {σ : St} {A : Nat → Prop} {H H1 : Heap} (h : tAt G b σ H) (hk : ∀ q : Nat, q < H.size → ¬ A q → H1[q]? = H[q]?) (hd : ∀ q, b ≤ q → q < b + 2 → ¬ A q) : tAt G b σ H1 := P_kept h (tWs_D G b σ) hk hd
/-- an array's cell shows its places below its length alone -/
theorem arrV_ext {cI : ClassId} {N : Nat} {f g : Nat → Value} (h : ∀ j, j < N → f j = g j) : arrV cI N f = arrV cI N g := by
  unfold arrV
  congr 2
  funext j
  exact h j.val j.isLt
theorem cellI_ext {cI : ClassId} {N : Nat} {f g : Nat → Int32} (h : ∀ j, j < N → f j = g j) : vp_cell cI (N, .inl f) = vp_cell cI (N, .inl g) := by
  rw [vp_cell_i, vp_cell_i]
  exact arrV_ext (fun j hj => by rw [h j hj])
theorem cpy_low {f g : Nat → Int32} {n j : Nat} (h : j < n) : va_cpy f g 0 0 n j = f j := by
  unfold va_cpy
  rw [if_pos ⟨Nat.zero_le j, by omega⟩]
  congr 1
  omega
theorem fr_iff {lo hi q : Nat} : lw_Fr lo hi q ↔ (lo ≤ q ∧ q < hi) := Iff.rfl
def fr2 (b b2 : Nat) : Nat → Prop := fun q => lw_Fr b (b + 7) q ∨ lw_Fr b2 (b2 + 7) q
def mix (j : Nat) (σ2 σ : St) : St := fun a => if a < j then σ2 a else σ a
abbrev h2Ws (G : Gx) (b : Nat) (σ : St) (b2 : Nat) (σ2 : St) : va_W := hWs G b σ ++ hWs G b2 σ2
theorem h2_D {G : Gx} {b b2 : Nat} {σ σ2 : St} (hd : b + 7 ≤ b2 ∨ b2 + 7 ≤ b) : va_D (fr2 b b2) (h2Ws G b σ b2 σ2) :=
  va_D.app ((hWs_D G b σ).weaken (fun _ _ _ h => Or.inl h)) ((hWs_D G b2 σ2).weaken (fun _ _ _ h => Or.inr h)) (fun i j p q hi hj e => by
    have h1 := (hWs_D G b σ).2 i p hi
    have h2 := (hWs_D G b2 σ2).2 j q hj
    rw [fr_iff] at h1 h2
    omega)
theorem h2_set {G : Gx} {n x : Nat} {ws ws2 : va_W} {k : Nat} {cI : ClassId} {f g : Nat → Int32} {H : Heap} (h : va_P G.1 vwCl (ws.set k (x, .inl (cI, n, .inl (va_cpy f g (0 : Int32).toNatClampNeg (0 : Int32).toNatClampNeg n)))) H)
    (e : ws2 = ws.set k (x, .inl (cI, n, .inl f))) : va_P G.1 vwCl ws2 H := by
  subst e
  intro i q hq
  by_cases hi : i = k
  · subst hi
    by_cases hl : i < ws.length
    · rw [List.getElem?_set_self hl] at hq
      cases hq
      have h9 := h i (x, .inl (cI, n, .inl (va_cpy f g (0 : Int32).toNatClampNeg (0 : Int32).toNatClampNeg n))) (by rw [List.getElem?_set_self hl])
      show H[x]? = some (vp_cell cI (n, .inl f))
      rw [cellI_ext (f := f) (g := va_cpy f g 0 0 n) (fun j hj => (cpy_low hj).symm)]
      exact h9
    · rw [List.getElem?_eq_none (by rw [List.length_set]; omega)] at hq
      cases hq
  · rw [List.getElem?_set_ne (Ne.symm hi)] at hq
    exact h i q (by rw [List.getElem?_set_ne (Ne.symm hi)]; exact hq)
