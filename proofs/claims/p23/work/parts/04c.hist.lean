/-! the history: an object, its row of four references, and the four Houses that they are -/
section MYP
variable {p : Program} {l : Launch} {e : Env} {R : Room} {s : State} {m : MethodId} {args : Array Value} {below : List Frame} {meth : Method} {c : Code} {H : Heap} {locs : List Loc} {cells slots : Nat} {Q : State → Prop}
variable {cc : ByteArray} {pc nL : Nat} {ls : Array Slot} {rest : List Value} {D : va_G} {cl : List vw_C} {A A1 : Nat → Prop} {a : Nat} {tys : List (ClassId × FieldType)} {ws : va_W} {H0 : Heap} {G : Gx}
/-- a store into a field, with what it leaves as it was -/
theorem putO (hx : p.tables.exec = Jvm.exec) (hb : c.code = cc) {own C : String} {T : u_T} {N ci index : Nat} {Ts : List Cond} (hts : ∀ w ∈ Ts, w.before args s = true) (hin : ∀ w ∈ u_ws C T N, w ∈ Ts) (ty0 : Nat → FieldType) (hty : ∀ k, k < N → parseFieldDescriptor (T k).2.2.1 = some (ty0 k)) (hnm : ∀ a, a < N → ∀ b, b < N → a ≠ b → (T a).2.1 ≠ (T b).2.1) (hown : s.vm.findClass own = some m.cls) (hK : va_K D cl tys s) (hP : va_P D cl ws H) (hD : va_D A1 ws) (hS : va_S A H0 H locs) (hA : A a) (q0 : Nat) {fs : List Value} (he : ws[q0]? = some (a, .inr (ci, fs))) (hc : cl[ci]? = some (C, T, N)) (k : Nat) (hk : k < N)
    (hlink : (Cond.fieldLink own index (T k).1 (T k).2.1 (T k).2.2.1).before args s = true) (hfin : (T k).2.2.2 = false) {ty : FieldType} {v : Value} (hd : parseFieldDescriptor (T k).2.2.1 = some ty) (hn : narrow ty v = v) (hfit : fits ty v = true) (hl : k < fs.length) (hdg : decode cc pc = .ok (.putfield index, 3))
    (kk : ∀ (H1 : Heap) (locs1 : List Loc), va_P D cl (ws.set q0 (a, .inr (ci, fs.set k v))) H1 → va_S A H0 H1 locs1 → (∀ q : Nat, q ≠ a → H1[q]? = H[q]?) → W p l e R s m args below meth c H1 locs1 cells slots Q (F0 m (pc + 3) ls rest)) : W p l e R s m args below meth c H locs cells slots Q (F0 m pc ls (v :: .ref a :: rest)) := by
  obtain ⟨r, h1, cell, q1, q2, q3, q4⟩ := hP q0 _ he
  cases h1.symm.trans hc
  obtain ⟨hSl, hfc, kC, hkC, hkind⟩ := hK.1 ci _ hc
  obtain ⟨cf, kf, fi, f, hi, hsl⟩ := hSl k hk
  have hlay := hts _ (hin _ (u_in_lay hk))
  unfold u_lay at hlay
  rw [if_neg (by rw [hfin]; decide)] at hlay
  refine W.putK hx hb (f := f) ⟨hown, hlink, ⟨_, _, _, hi⟩, (u_facts hfc hkC (u_lays hts hin hk) hi).1⟩ (by rw [q2]; exact u_store hfc hkC hkind hlay hi hd hn hfit) q1 q3 (by rw [hsl]; exact k2_hasslot (q4 k hk)) rfl rfl hdg fun H' e1 e2 e3 => ?_
  rw [hsl] at e1 ⊢
  exact kk H' _ (hP.set hD he ⟨_, hc, t_OB.to (V := updV (vp_V fs) k v) ⟨_, e1, q2, q3, t_set q4 (va_apart (own := own) hts hin ty0 hty hnm hK hc) hk v⟩ (fun j _ => vp_updV_set hl v j)⟩ e3) (hS.put e2 e3 hA) e3
end MYP
def upN (r : Nat → Nat) (j v : Nat) : Nat → Nat := fun i => if i = j then v else r i
abbrev yWs (G : Gx) (hb : Nat) (r : Nat → Nat) (k : Nat) : va_W := [(hb, .inr (0, [.ref (hb + 1), .int (nI k)])), (hb + 1, .inl (G.2 2, 4, .inr (.inr (.inr (.inr (fun i => some (r i)))))))]
theorem yWs_D (G : Gx) (hb : Nat) (r : Nat → Nat) (k : Nat) : va_D (lw_Fr hb (hb + 2)) (yWs G hb r k) := ws_D (fun k q h => by
  rcases k with _ | _ | k <;> simp [yWs] at h <;> subst h <;> exact ⟨rfl, by decide⟩)
theorem cellQ_ext {cI : ClassId} {N : Nat} {f g : Nat → Option Nat} (h : ∀ j, j < N → f j = g j) : vp_cell cI (N, .inr (.inr (.inr (.inr f)))) = vp_cell cI (N, .inr (.inr (.inr (.inr g)))) := by
  rw [vp_cell_q, vp_cell_q]
  exact arrV_ext (fun j hj => by rw [h j hj])
theorem yWs_ext {G : Gx} {hb k : Nat} {r r2 : Nat → Nat} {H : Heap} (h : va_P G.1 vwCl (yWs G hb r k) H) (e : ∀ i, i < 4 → r i = r2 i) : va_P G.1 vwCl (yWs G hb r2 k) H := by
  intro i q hq
  rcases i with _ | _ | i
  · exact h 0 q hq
  · have h1 := h 1 _ rfl
    simp [yWs] at hq
    subst hq
    show H[hb + 1]? = some (vp_cell _ _)
    rw [cellQ_ext (f := fun i => some (r2 i)) (g := fun i => some (r i)) (fun j hj => by rw [e j hj])]
    exact h1
  · simp [yWs] at hq
theorem up_some (r : Nat → Nat) (j v : Nat) : va_up (fun i => some (r i)) j (some v) = fun i => some (upN r j v i) := by
  funext i
  unfold va_up upN
  split <;> rfl
section MYY
variable {p : Program} {l : Launch} {e : Env} {R : Room} {s : State} {m : MethodId} {args : Array Value} {below : List Frame} {meth : Method} {c : Code} {H : Heap} {locs : List Loc} {cells slots : Nat} {Q : State → Prop}
variable {cc : ByteArray} {pc nL index hb k v j : Nat} {ls : Array Slot} {rest : List Value} {A : Nat → Prop} {G : Gx} {Ts : List Cond} {own : String} {r : Nat → Nat} {i : Int32} {σv : St}
theorem rcv_X0 (Y : va_P G.1 vwCl (yWs G hb r k) H) (hK : gK G s) : ∃ cell : Cell, H[hb]? = some cell ∧ cell.vm.isStatics = false ∧ s.vm.findClass RX0 = some cell.cls := va_recv hK Y (ci := 0) (q0 := 0) rfl rfl
theorem gtY0 (C : Cx p m c cc nL s args Ts own G) (hin : ∀ w ∈ wsX00, w ∈ Ts) (Y : va_P G.1 vwCl (yWs G hb r k) H) (iw : Nat) (hl : Ts[iw]? = some (.fieldLink own index "RopeSeals$History" "rows" "[LRopeSeals$House;")) (hdg : decode cc pc = .ok (.getfield index, 3)) (kk : W p l e R s m args below meth c H locs cells slots Q (F0 m (pc + 3) ls (.ref (hb + 1) :: rest))) : W p l e R s m args below meth c H locs cells slots Q (F0 m pc ls (.ref hb :: rest)) :=
  va_get C.1.1 C.1.2.1 C.1.2.2.2.2 hin C.1.2.2.2.1 C.2 Y 0 rfl rfl 0 (by decide) (C.1.2.2.2.2 _ (List.mem_of_getElem? hl)) (fun _ h => h) rfl hdg kk
theorem gtY1 (C : Cx p m c cc nL s args Ts own G) (hin : ∀ w ∈ wsX00, w ∈ Ts) (Y : va_P G.1 vwCl (yWs G hb r k) H) (iw : Nat) (hl : Ts[iw]? = some (.fieldLink own index "RopeSeals$History" "size" "I")) (hdg : decode cc pc = .ok (.getfield index, 3)) (kk : W p l e R s m args below meth c H locs cells slots Q (F0 m (pc + 3) ls (.int (nI k) :: rest))) : W p l e R s m args below meth c H locs cells slots Q (F0 m pc ls (.ref hb :: rest)) :=
  va_get C.1.1 C.1.2.1 C.1.2.2.2.2 hin C.1.2.2.2.1 C.2 Y 0 rfl rfl 1 (by decide) (C.1.2.2.2.2 _ (List.mem_of_getElem? hl)) (fun _ h => h) rfl hdg kk
theorem ptY1 {k2 : Nat} {x : Int32} (C : Cx p m c cc nL s args Ts own G) (hin : ∀ w ∈ wsX00, w ∈ Ts) (Y : va_P G.1 vwCl (yWs G hb r k) H) (hS : va_S A s.heap H locs) (hA : A hb) (hx2 : x = nI k2) (iw : Nat) (hl : Ts[iw]? = some (.fieldLink own index "RopeSeals$History" "size" "I")) (hdg : decode cc pc = .ok (.putfield index, 3)) (kk : ∀ (H1 : Heap) (locs1 : List Loc), va_P G.1 vwCl (yWs G hb r k2) H1 → va_S A s.heap H1 locs1 → (∀ q : Nat, q ≠ hb → H1[q]? = H[q]?) → W p l e R s m args below meth c H1 locs1 cells slots Q (F0 m (pc + 3) ls rest)) : W p l e R s m args below meth c H locs cells slots Q (F0 m pc ls (.int x :: .ref hb :: rest)) := by
  subst hx2
  exact putO C.1.1 C.1.2.1 C.1.2.2.2.2 hin tyX0 tyX0_ok nmX0 C.1.2.2.2.1 C.2 Y (yWs_D G hb r k) hS hA 0 rfl rfl 1 (by decide) (C.1.2.2.2.2 _ (List.mem_of_getElem? hl)) rfl (ty := .int) (by decide +kernel) rfl rfl (Nat.le_of_ble_eq_true rfl) hdg (fun H1 locs1 hP hS o => kk H1 locs1 hP hS o)
theorem alY (C : Cx p m c cc nL s args Ts own G) (Y : va_P G.1 vwCl (yWs G hb r k) H) (hj : i.toNatClampNeg = j) (hi : ¬ oob i 4) (hdg : decode cc pc = .ok (.aaload, 1)) (kk : W p l e R s m args below meth c H locs cells slots Q (F0 m (pc + 1) ls (.ref (r j) :: rest))) : W p l e R s m args below meth c H locs cells slots Q (F0 m pc ls (.int i :: .ref (hb + 1) :: rest)) := by
  subst hj
  exact va_aldq C.1.1 C.1.2.1 C.2 Y 1 2 rfl rfl hi hdg kk
theorem asY (C : Cx p m c cc nL s args Ts own G) (Y : va_P G.1 vwCl (yWs G hb r k) H) (V : hAt G v σv H) (hS : va_S A s.heap H locs) (hA : A (hb + 1)) (hj : i.toNatClampNeg = j) (hi : ¬ oob i 4) (hdg : decode cc pc = .ok (.aastore, 1)) (kk : ∀ (H1 : Heap) (locs1 : List Loc), va_P G.1 vwCl (yWs G hb (upN r j v) k) H1 → va_S A s.heap H1 locs1 → (∀ q : Nat, q ≠ hb + 1 → H1[q]? = H[q]?) → W p l e R s m args below meth c H1 locs1 cells slots Q (F0 m (pc + 1) ls rest)) : W p l e R s m args below meth c H locs cells slots Q (F0 m pc ls (.ref v :: .int i :: .ref (hb + 1) :: rest)) := by
  subst hj
  have hlt : i.toNatClampNeg < 4 := Nat.not_le.mp fun q => hi (Or.inr q)
  obtain ⟨r', hr', cellV, g1, g2, g3, -⟩ := V 0 _ rfl
  have hcls := (C.2.1 1 _ rfl).2
  obtain ⟨kA, comp, k1, k2, k3, -⟩ := (C.2.2 2 _ rfl).2
  have hcomp : comp = G.1.1 1 := Option.some.inj (k3.symm.trans hcls.1)
  subst hcomp
  obtain ⟨kC, hkC, -⟩ := hcls.2
  refine W.aast C.1.1 C.1.2.1 (Y 1 _ rfl) (fun q h => by cases h) (fun h => by cases h) k1 k2 rfl hkC ⟨fun q => hi (Or.inl q), by show _ < (arrV _ _ _).slots.size; rw [arrV_size]; exact hlt⟩ g1 (fun q h => by rw [g3] at h; cases h) (by rw [g2]; exact hkC) (by rw [g2]; exact va_assign hcls) rfl rfl hdg fun H1 e z oq => ?_
  refine kk H1 _ ?_ (hS.put z oq hA) oq
  have h9 := Y.set (p := 1) (e := .inl (G.2 2, 4, .inr (.inr (.inr (.inr (va_up (fun i => some (r i)) i.toNatClampNeg (some v))))))) (yWs_D G hb r k) rfl (by
    show H1[hb + 1]? = some (vp_cell _ _)
    rw [e, vp_cell_q, vp_cell_q, arrV_store]
    congr 2
    funext q
    by_cases hq : q = i.toNatClampNeg
    · subst hq
      simp [updV, va_up, va_rf]
    · simp [updV, va_up, hq]) oq
  rw [up_some] at h9
  exact h9
end MYY
theorem in_X0_states : ∀ w ∈ wsX00, w ∈ wsX0_states := by decide +kernel
theorem in_X0_dropOldest : ∀ w ∈ wsX00, w ∈ wsX0_dropOldest := by decide +kernel
theorem in_X0_add : ∀ w ∈ wsX00, w ∈ wsX0_add := by decide +kernel
theorem in_X0_takeLatest : ∀ w ∈ wsX00, w ∈ wsX0_takeLatest := by decide +kernel
def rot (r : Nat → Nat) : Nat → Nat := fun i => if i = 3 then r 0 else r (i + 1)
