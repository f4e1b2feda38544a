/-! rows of constructors: what is made lies behind all that was there, its address is the heap's size -/
def QcN (b n : Nat) (P : Heap → Prop) : Array Value → State → Outcome → State → Prop := fun _ st o t => o = .returned none ∧ P t.heap ∧ t.heap.size = b + n ∧ va_F (fun q => b ≤ q) st t
def nwS (U : State) : Prop := va_Nw (.methodLinkNest RX0 21 yX1_init RX3) U ∧ va_Nw (.methodLinkNest RX3 9 yX1_init RX3) U ∧ va_Nw (.methodLinkNest RX3 35 yX2_init RX3) U ∧ va_AO RX1 U
theorem nwS.warm {s U : State} (hW : s.WarmedH U.vm) (h : nwS s) : nwS U := ⟨h.1.warmM hW, h.2.1.warmM hW, h.2.2.1.warmM hW, va_AO.moved hW.alike h.2.2.2⟩
def preN (G : Gx) (av : List Value) (b ci : Nat) (fs : List Value) : Array Value → State → Prop := va_Pc av (fun U => (va_P G.1 vwCl [(b, .inr (ci, fs))] U.heap ∧ U.heap.size = b + 1) ∧ gK G U)
def preN2 (G : Gx) (av : List Value) (b ci : Nat) (fs : List Value) : Array Value → State → Prop := va_Pc av (fun U => (va_P G.1 vwCl [(b, .inr (ci, fs))] U.heap ∧ U.heap.size = b + 1) ∧ gK G U ∧ nwS U)
theorem preN_blind {G : Gx} {av : List Value} {b ci : Nat} {fs : List Value} : FrameBlind (preN G av b ci fs) := fun a U g mk q => ⟨q.1, q.2.1, gK.moved (u := U) (U := U.calling g mk a) (Vm.Alike.refl U.vm) q.2.2⟩
theorem preN2_blind {G : Gx} {av : List Value} {b ci : Nat} {fs : List Value} : FrameBlind (preN2 G av b ci fs) := fun a U g mk q => ⟨q.1, q.2.1, gK.moved (u := U) (U := U.calling g mk a) (Vm.Alike.refl U.vm) q.2.2.1, va_Nw.same rfl rfl q.2.2.2.1, va_Nw.same rfl rfl q.2.2.2.2.1, va_Nw.same rfl rfl q.2.2.2.2.2.1, q.2.2.2.2.2.2⟩
theorem lD {ws : va_W} {b : Nat} (n : Nat) (h : ws.map Prod.fst = (List.range n).map (b + ·)) : va_D (fun q => b ≤ q) ws := by
  have key : ∀ (k : Nat) (q : Nat × va_E), ws[k]? = some q → q.1 = b + k := by
    intro k q hk
    have h1 : (ws.map Prod.fst)[k]? = some q.1 := by rw [List.getElem?_map, hk]; rfl
    rw [h, List.getElem?_map] at h1
    cases hr : (List.range n)[k]? with
    | none => rw [hr] at h1; cases h1
    | some j =>
      rw [hr] at h1
      have hj : j = k := by
        have h2 := List.getElem?_eq_some_iff.mp hr
        obtain ⟨h3, h4⟩ := h2
        rw [List.getElem_range] at h4
        exact h4.symm
      have h5 : b + j = q.1 := Option.some.inj h1
      omega
  exact ⟨fun i j p q hi hj e => by have h1 := key i p hi; have h2 := key j q hj; omega, fun k q hk => by
    show b ≤ q.1
    rw [key k q hk]
    exact Nat.le_add_right b k⟩
section NEWS
variable {p : Program} {l : Launch} {e : Env} {R : Room} {s : State} {m : MethodId} {args : Array Value} {below : List Frame} {meth : Method} {c : Code} {H : Heap} {locs : List Loc} {cells slots : Nat} {Q : State → Prop}
variable {cc : ByteArray} {pc nL index h N k v j mc ms b nn : Nat} {ls : Array Slot} {rest st0 : List Value} {A A1 : Nat → Prop} {G : Gx} {Ts : List Cond} {own : String} {ws : va_W} {i n x : Int32} {a : Nat} {P : Heap → Prop}
theorem S_new {H1 : Heap} (hS : va_S A s.heap H locs) (hsz : H.size = h) (z1 : H1.size = h + 1) (o1 : ∀ q, q < h → H1[q]? = H[q]?) : va_S A s.heap H1 locs := ⟨Nat.le_trans hS.1 (by omega), fun y h1 h2 => (o1 y (by have := hS.1; omega)).trans (hS.2.1 y h1 h2), hS.2.2⟩
theorem newI (C : Cx p m c cc nL s args Ts own G) (harr : (Cond.arrayClass .int).before args s = true) (hP : va_P G.1 vwCl ws H) (hsz : H.size = h) (hS : va_S A s.heap H locs) (hn : ¬ n < 0) (hN : n.toNatClampNeg = N) (hby : N * 4 ≤ 536870912) (hc : cells + 1 ≤ R.cells) (hs : slots + N ≤ R.slots) (hdg : decode cc pc = .ok (.newarray .int, 2))
    (kk : ∀ H1 : Heap, va_P G.1 vwCl (ws ++ [(h, .inl (G.2 0, N, .inl (fun _ => 0)))]) H1 → H1.size = h + 1 → (∀ q, q < h → H1[q]? = H[q]?) → va_S A s.heap H1 locs → W p l e R s m args below meth c H1 locs (cells + 1) (slots + N) Q (F0 m (pc + 2) ls (.ref h :: rest))) : W p l e R s m args below meth c H locs cells slots Q (F0 m pc ls (.int n :: rest)) := by
  refine va_newaK C.1.1 C.1.2.1 (atype := .int) harr rfl hdg rfl hn hN hby hc hs hsz fun H1 cA e1 z1 o1 hAr hNm => ?_
  have hcA : cA = G.2 0 := Option.some.inj (hNm.symm.trans (C.2.2 0 _ rfl).2)
  rw [hcA] at e1
  refine kk H1 ((hP.kept (fun k y hy => o1 y.1 (by have := (hP k y hy).lt; omega))).app (fun k y hy => ?_)) z1 o1 (S_new hS hsz z1 o1)
  rcases k with _ | k
  · cases hy
    exact e1
  · cases hy
theorem newC (C : Cx p m c cc nL s args Ts own G) (harr : (Cond.arrayClass .char).before args s = true) (hP : va_P G.1 vwCl ws H) (hsz : H.size = h) (hS : va_S A s.heap H locs) (hn : ¬ n < 0) (hN : n.toNatClampNeg = N) (hby : N * 2 ≤ 536870912) (hc : cells + 1 ≤ R.cells) (hs : slots + N ≤ R.slots) (hdg : decode cc pc = .ok (.newarray .char, 2))
    (kk : ∀ H1 : Heap, va_P G.1 vwCl (ws ++ [(h, .inl (G.2 1, N, .inl (fun _ => 0)))]) H1 → H1.size = h + 1 → (∀ q, q < h → H1[q]? = H[q]?) → va_S A s.heap H1 locs → W p l e R s m args below meth c H1 locs (cells + 1) (slots + N) Q (F0 m (pc + 2) ls (.ref h :: rest))) : W p l e R s m args below meth c H locs cells slots Q (F0 m pc ls (.int n :: rest)) := by
  refine va_newaK C.1.1 C.1.2.1 (atype := .char) harr rfl hdg rfl hn hN hby hc hs hsz fun H1 cA e1 z1 o1 hAr hNm => ?_
  have hcA : cA = G.2 1 := Option.some.inj (hNm.symm.trans (C.2.2 1 _ rfl).2)
  rw [hcA] at e1
  refine kk H1 ((hP.kept (fun k y hy => o1 y.1 (by have := (hP k y hy).lt; omega))).app (fun k y hy => ?_)) z1 o1 (S_new hS hsz z1 o1)
  rcases k with _ | k
  · cases hy
    exact e1
  · cases hy
theorem newQ (C : Cx p m c cc nL s args Ts own G) (hclink : (Cond.classLink own index RX1).before args s = true) (hover : va_AO RX1 s) (hP : va_P G.1 vwCl ws H) (hsz : H.size = h) (hS : va_S A s.heap H locs) (hn : ¬ n < 0) (hN : n.toNatClampNeg = N) (hby : N * 4 ≤ 536870912) (hc : cells + 1 ≤ R.cells) (hs : slots + N ≤ R.slots) (hdg : decode cc pc = .ok (.anewarray index, 3))
    (kk : ∀ H1 : Heap, va_P G.1 vwCl (ws ++ [(h, .inl (G.2 2, N, .inr (.inr (.inr (.inr (fun _ => none))))))]) H1 → H1.size = h + 1 → (∀ q, q < h → H1[q]? = H[q]?) → va_S A s.heap H1 locs → W p l e R s m args below meth c H1 locs (cells + 1) (slots + N) Q (F0 m (pc + 3) ls (.ref h :: rest))) : W p l e R s m args below meth c H locs cells slots Q (F0 m pc ls (.int n :: rest)) := by
  subst hN
  subst hsz
  refine W.anew C.1.1 C.1.2.1 C.1.2.2.2.1 hclink (va_AO.use hover) rfl hdg rfl hn hby hc hs fun cA kA comp f1 f2 f3 f4 => ?_
  generalize hH1 : H.push ({ cls := cA, slots := Array.replicate n.toNatClampNeg .null, vm := .none } : Cell) = H1
  have z1 : H1.size = H.size + 1 := by rw [← hH1, Array.size_push]
  have e1 : H1[H.size]? = some (arrV cA n.toNatClampNeg (fun _ => .null)) := by rw [← hH1, Array.getElem?_push_size, ← arrV_new]
  have o1 : ∀ q : Nat, q < H.size → H1[q]? = H[q]? := fun q hq => by rw [← hH1, Array.getElem?_push, if_neg (Nat.ne_of_lt hq)]
  obtain ⟨kB, comp2, k1, k2, k3, k4⟩ := (C.2.2 2 _ rfl).2
  have hcA : cA = G.2 2 := by first | exact Option.some.inj (f1.symm.trans k4) | exact Option.some.inj (f4.symm.trans k4)
  rw [hcA] at e1
  refine kk H1 ((hP.kept (fun k y hy => o1 y.1 ((hP k y hy).lt))).app (fun k y hy => ?_)) z1 o1 (S_new hS rfl z1 o1)
  rcases k with _ | k
  · cases hy
    show H1[H.size]? = some (vp_cell _ _)
    rw [vp_cell_q]
    exact e1
  · cases hy
theorem newO (C : Cx p m c cc nL s args Ts own G) {Cn : String} {T : u_T} {ci : Nat} (hin : ∀ w ∈ u_ws Cn T N, w ∈ Ts) (ty : Nat → FieldType) (hty : ∀ k, k < N → parseFieldDescriptor (T k).2.2.1 = some (ty k)) (hcl : (Cond.classLink own index Cn).before args s = true) (hinst : (Cond.instantiable Cn N).before args s = true) (hini : (Cond.initialized Cn).before args s = true)
    (hsz : H.size = h) (hS : va_S A s.heap H locs) (hci : vwCl[ci]? = some (Cn, T, N)) {fs : List Value} (hfs : ∀ j, j < N → defaultValue (ty j) = vp_V fs j) (hc : cells + 1 ≤ R.cells) (hs : slots + N ≤ R.slots) (hdg : decode cc pc = .ok (.new index, 3))
    (kk : ∀ H1 : Heap, va_P G.1 vwCl [(h, .inr (ci, fs))] H1 → H1.size = h + 1 → (∀ q, q < h → H1[q]? = H[q]?) → va_S A s.heap H1 locs → W p l e R s m args below meth c H1 locs (cells + 1) (slots + N) Q (F0 m (pc + 3) ls (.ref h :: rest))) : W p l e R s m args below meth c H locs cells slots Q (F0 m pc ls rest) := by
  have hKn := C.2.1 ci _ hci
  refine W.newcK C.1.1 C.1.2.1 C.1.2.2.2.1 hcl hinst hini rfl hdg hc hs hKn.2.1 hsz fun H1 kC hkC e1 z1 o1 => ?_
  refine kk H1 (fun k y hy => ?_) z1 o1 (S_new hS hsz z1 o1)
  rcases k with _ | k
  · cases hy
    exact ⟨_, hci, (u_born ty C.1.2.2.2.2 hin hKn hkC e1 hty).to hfs⟩
  · cases hy
/-- stores, with size and frame -/
theorem putZ {Cn : String} {T : u_T} {ci : Nat} (C : Cx p m c cc nL s args Ts own G) (hin : ∀ w ∈ u_ws Cn T N, w ∈ Ts) (ty0 : Nat → FieldType) (hty : ∀ k, k < N → parseFieldDescriptor (T k).2.2.1 = some (ty0 k)) (hnm : ∀ a, a < N → ∀ b, b < N → a ≠ b → (T a).2.1 ≠ (T b).2.1) (hP : va_P G.1 vwCl ws H) (hD : va_D A1 ws) (hS : va_S A s.heap H locs) (hA : A a) (q0 : Nat) {fs : List Value} (he : ws[q0]? = some (a, .inr (ci, fs))) (hc : vwCl[ci]? = some (Cn, T, N)) (k : Nat) (hk : k < N)
    (hlink : (Cond.fieldLink own index (T k).1 (T k).2.1 (T k).2.2.1).before args s = true) (hfin : (T k).2.2.2 = false) {ty : FieldType} {v : Value} (hd : parseFieldDescriptor (T k).2.2.1 = some ty) (hn : narrow ty v = v) (hfit : fits ty v = true) (hl : k < fs.length) (hdg : decode cc pc = .ok (.putfield index, 3))
    (kk : ∀ (H1 : Heap) (locs1 : List Loc), va_P G.1 vwCl (ws.set q0 (a, .inr (ci, fs.set k v))) H1 → H1.size = H.size → (∀ q : Nat, q ≠ a → H1[q]? = H[q]?) → va_S A s.heap H1 locs1 → W p l e R s m args below meth c H1 locs1 cells slots Q (F0 m (pc + 3) ls rest)) : W p l e R s m args below meth c H locs cells slots Q (F0 m pc ls (v :: .ref a :: rest)) := by
  obtain ⟨r, h1, cell, q1, q2, q3, q4⟩ := hP q0 _ he
  cases h1.symm.trans hc
  obtain ⟨hSl, hfc, kC, hkC, hkind⟩ := C.2.1 ci _ hc
  obtain ⟨cf, kf, fi, f, hi, hsl⟩ := hSl k hk
  have hts := C.1.2.2.2.2
  have hlay := hts _ (hin _ (u_in_lay hk))
  unfold u_lay at hlay
  rw [if_neg (by rw [hfin]; decide)] at hlay
  refine W.putK C.1.1 C.1.2.1 (f := f) ⟨C.1.2.2.2.1, hlink, ⟨_, _, _, hi⟩, (u_facts hfc hkC (u_lays hts hin hk) hi).1⟩ (by rw [q2]; exact u_store hfc hkC hkind hlay hi hd hn hfit) q1 q3 (by rw [hsl]; exact k2_hasslot (q4 k hk)) rfl rfl hdg fun H' e1 e2 e3 => ?_
  rw [hsl] at e1 ⊢
  exact kk H' _ (hP.set hD he ⟨_, hc, t_OB.to (V := updV (vp_V fs) k v) ⟨_, e1, q2, q3, t_set q4 (va_apart (own := own) hts hin ty0 hty hnm C.2 hc) hk v⟩ (fun j _ => vp_updV_set hl v j)⟩ e3) e2 e3 (hS.put e2 e3 hA)
theorem putFZ {Cn : String} {T : u_T} {ci : Nat} (C : Cx p m c cc nL s args Ts own G) (hin : ∀ w ∈ u_ws Cn T N, w ∈ Ts) (ty0 : Nat → FieldType) (hty : ∀ k, k < N → parseFieldDescriptor (T k).2.2.1 = some (ty0 k)) (hnm : ∀ a, a < N → ∀ b, b < N → a ≠ b → (T a).2.1 ≠ (T b).2.1) (hP : va_P G.1 vwCl ws H) (hD : va_D A1 ws) (hS : va_S A s.heap H locs) (hA : A a) (q0 : Nat) {fs : List Value} (he : ws[q0]? = some (a, .inr (ci, fs))) (hc : vwCl[ci]? = some (Cn, T, N)) (k : Nat) (hk : k < N)
    (hlink : (Cond.fieldLink own index (T k).1 (T k).2.1 (T k).2.2.1).before args s = true) (hfin : (T k).2.2.2 = true) (hin2 : meth.name = "<init>") (hdecl : (T k).1 = own) {ty : FieldType} {v : Value} (hd : parseFieldDescriptor (T k).2.2.1 = some ty) (hn : narrow ty v = v) (hfit : fits ty v = true) (hl : k < fs.length) (hdg : decode cc pc = .ok (.putfield index, 3))
    (kk : ∀ (H1 : Heap) (locs1 : List Loc), va_P G.1 vwCl (ws.set q0 (a, .inr (ci, fs.set k v))) H1 → H1.size = H.size → (∀ q : Nat, q ≠ a → H1[q]? = H[q]?) → va_S A s.heap H1 locs1 → W p l e R s m args below meth c H1 locs1 cells slots Q (F0 m (pc + 3) ls rest)) : W p l e R s m args below meth c H locs cells slots Q (F0 m pc ls (v :: .ref a :: rest)) := by
  obtain ⟨r, h1, cell, q1, q2, q3, q4⟩ := hP q0 _ he
  cases h1.symm.trans hc
  obtain ⟨hSl, hfc, kC, hkC, hkind⟩ := C.2.1 ci _ hc
  obtain ⟨cf, kf, fi, f, hi, hsl⟩ := hSl k hk
  have hts := C.1.2.2.2.2
  have hlay := hts _ (hin _ (u_in_lay hk))
  unfold u_lay at hlay
  rw [if_pos hfin] at hlay
  have hcf : m.cls = cf := by
    obtain ⟨_, _, c', _, _, _, -, -, hf', -, -, -, hown2, -⟩ := Cond.laysFinal_spec hlay
    have e1 : c' = cf := by have := hi.symm.trans hf'; simp at this; exact this.1.symm
    rw [hdecl] at hown2
    rw [← e1]
    exact Option.some.inj (C.1.2.2.2.1.symm.trans hown2)
  refine W.putFinK C.1.1 C.1.2.1 C.1.2.2.2.1 hlink hi (u_facts hfc hkC (u_lays hts hin hk) hi).1 hcf hin2 (by rw [q2]; exact u_fits hfc hkC hkind (Or.inr hlay) hi hd hn hfit) q1 q3 (by rw [hsl]; exact k2_hasslot (q4 k hk)) rfl rfl hdg fun H' e1 e2 e3 => ?_
  rw [hsl] at e1 ⊢
  exact kk H' _ (hP.set hD he ⟨_, hc, t_OB.to (V := updV (vp_V fs) k v) ⟨_, e1, q2, q3, t_set q4 (va_apart (own := own) hts hin ty0 hty hnm C.2 hc) hk v⟩ (fun j _ => vp_updV_set hl v j)⟩ e3) e2 e3 (hS.put e2 e3 hA)
theorem iastZ {f : Nat → Int32} (C : Cx p m c cc nL s args Ts own G) (hP : va_P G.1 vwCl ws H) (hD : va_D A1 ws) (hS : va_S A s.heap H locs) (hA : A a) (q0 : Nat) (ha : ws[q0]? = some (a, .inl (G.2 0, N, .inl f))) (hj : i.toNatClampNeg = j) (hi : ¬ oob i N) (hdg : decode cc pc = .ok (.iastore, 1))
    (kk : ∀ (H1 : Heap) (locs1 : List Loc), va_P G.1 vwCl (ws.set q0 (a, .inl (G.2 0, N, .inl (upd f j x)))) H1 → H1.size = H.size → (∀ q : Nat, q ≠ a → H1[q]? = H[q]?) → va_S A s.heap H1 locs1 → W p l e R s m args below meth c H1 locs1 cells slots Q (F0 m (pc + 1) ls rest)) : W p l e R s m args below meth c H locs cells slots Q (F0 m pc ls (.int x :: .int i :: .ref a :: rest)) := by
  subst hj
  refine W.iast C.1.1 C.1.2.1 (hP q0 _ ha) ((C.2.2 0 _ rfl).1 N (fun j => .int (f j))) (fun q => by cases q) (by show ¬ (i < 0 ∨ (arrV _ _ _).slots.size ≤ _); rw [arrV_size]; exact hi) rfl rfl hdg fun H1 e z oq => ?_
  refine kk H1 _ (hP.set hD ha ?_ oq) z oq (hS.put z oq hA)
  show H1[a]? = some (vp_cell _ _)
  rw [e, vp_cell_i, vp_cell_i, arrV_store]
  congr 2
  funext q
  by_cases hq : q = i.toNatClampNeg
  · subst hq
    simp [updV, upd]
  · simp [updV, upd, hq]
theorem aastZ {f : Nat → Option Nat} {σv : St} (C : Cx p m c cc nL s args Ts own G) (hP : va_P G.1 vwCl ws H) (hD : va_D A1 ws) (V : hAt G v σv H) (hS : va_S A s.heap H locs) (hA : A a) (q0 : Nat) (ha : ws[q0]? = some (a, .inl (G.2 2, N, .inr (.inr (.inr (.inr f)))))) (hj : i.toNatClampNeg = j) (hi : ¬ oob i N) (hdg : decode cc pc = .ok (.aastore, 1))
    (kk : ∀ (H1 : Heap) (locs1 : List Loc), va_P G.1 vwCl (ws.set q0 (a, .inl (G.2 2, N, .inr (.inr (.inr (.inr (va_up f j (some v)))))))) H1 → H1.size = H.size → (∀ q : Nat, q ≠ a → H1[q]? = H[q]?) → va_S A s.heap H1 locs1 → W p l e R s m args below meth c H1 locs1 cells slots Q (F0 m (pc + 1) ls rest)) : W p l e R s m args below meth c H locs cells slots Q (F0 m pc ls (.ref v :: .int i :: .ref a :: rest)) := by
  subst hj
  have hlt : i.toNatClampNeg < N := Nat.not_le.mp fun q => hi (Or.inr q)
  obtain ⟨r', hr', cellV, g1, g2, g3, -⟩ := V 0 _ rfl
  have hcls := (C.2.1 1 _ rfl).2
  obtain ⟨kA, comp, k1, k2, k3, -⟩ := (C.2.2 2 _ rfl).2
  have hcomp : comp = G.1.1 1 := Option.some.inj (k3.symm.trans hcls.1)
  subst hcomp
  obtain ⟨kC, hkC, -⟩ := hcls.2
  refine W.aast C.1.1 C.1.2.1 (hP q0 _ ha) (fun q h => by cases h) (fun h => by cases h) k1 k2 rfl hkC ⟨fun q => hi (Or.inl q), by show _ < (arrV _ _ _).slots.size; rw [arrV_size]; exact hlt⟩ g1 (fun q h => by rw [g3] at h; cases h) (by rw [g2]; exact hkC) (by rw [g2]; exact va_assign hcls) rfl rfl hdg fun H1 e z oq => ?_
  refine kk H1 _ (hP.set hD ha ?_ oq) z oq (hS.put z oq hA)
  show H1[a]? = some (vp_cell _ _)
  rw [e, vp_cell_q, vp_cell_q, arrV_store]
  congr 2
  funext q
  by_cases hq : q = i.toNatClampNeg
  · subst hq
    simp [updV, va_up, va_rf]
  · simp [updV, va_up, hq]
/-- behind a constructor's call -/
theorem rowN {a : Array Value} (run : va_Run p l e R s m args below meth c H locs cells slots mc ms (F0 m pc ls st0) rest (QcN b nn P a) (fun q => b ≤ q)) (hS : va_S A s.heap H locs) (hA : ∀ q, b ≤ q → A q)
    (kk : ∀ (H1 : Heap) (locs1 : List Loc), P H1 → H1.size = b + nn → (∀ q : Nat, q < H.size → ¬ b ≤ q → H1[q]? = H[q]?) → va_S A s.heap H1 locs1 → W p l e R s m args below meth c H1 locs1 (cells + mc) (slots + ms) Q (F0 m (pc + 3) ls rest)) : W p l e R s m args below meth c H locs cells slots Q (F0 m pc ls st0) := by
  intro T hT X
  obtain ⟨v1, st₀, t, T', L, h0, X', hL, e1, e2, ⟨hv, hp, hn, hz, hk⟩, st⟩ := run T hT X
  cases hv
  rw [h0] at hz hk
  obtain ⟨t2, a1, b1⟩ := kk T'.heap (locs ++ L) (by rw [e1]; exact hp) (by rw [e1]; exact hn) (fun q h1 h2 => by rw [e1]; exact hk q h1 h2) ⟨Nat.le_trans hS.1 (by rw [e1]; exact hz), fun q h1 h2 => by rw [e1, hk q (Nat.lt_of_lt_of_le h1 hS.1) (fun z => h2 (hA q z))]; exact hS.2.1 q h1 h2, fun q hq => by
      rcases List.mem_append.mp hq with h | h
      · exact hS.2.2 q h
      · exact hA _ (hL q h)⟩ T' rfl X'
  exact ⟨t2, st t2 a1, b1⟩
end NEWS
