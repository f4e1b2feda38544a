/-! the whole object of the class: 54 cells from B on -/
abbrev XS : Type := Int32 × St × St × St × YS × St
def xH (x : XS) (σ : St) : XS := (x.1, σ, x.2.2)
def xB (x : XS) (σ : St) : XS := (x.1, x.2.1, σ, x.2.2.2)
def xS (x : XS) (σ : St) : XS := (x.1, x.2.1, x.2.2.1, σ, x.2.2.2.2)
def xY (x : XS) (y : YS) : XS := (x.1, x.2.1, x.2.2.1, x.2.2.2.1, y, x.2.2.2.2.2)
def xT (x : XS) (τ : St) : XS := (x.1, x.2.1, x.2.2.1, x.2.2.2.1, x.2.2.2.2.1, τ)
def xF (x : XS) (v : Int32) : XS := (v, x.2)
abbrev xWs (B : Nat) (hs : Int32) : va_W := [(B, .inr (3, [.ref (B + 1), .ref (B + 8), .ref (B + 15), .int hs, .ref (B + 22), .ref (B + 52)]))]
theorem xWs_D (B : Nat) (hs : Int32) : va_D (lw_Fr B (B + 1)) (xWs B hs) := ws_D (fun k q h => by
  rcases k with _ | k <;> simp [xWs] at h <;> subst h <;> exact ⟨rfl, by decide⟩)
def xAt (G : Gx) (B : Nat) (x : XS) (H : Heap) : Prop := va_P G.1 vwCl (xWs B x.1) H ∧ hAt G (B + 1) x.2.1 H ∧ hAt G (B + 8) x.2.2.1 H ∧ hAt G (B + 15) x.2.2.2.1 H ∧ yAt G (B + 22) x.2.2.2.2.1 H ∧ tAt G (B + 52) x.2.2.2.2.2 H
theorem yAt.keep {G : Gx} {hb : Nat} {y : YS} {A : Nat → Prop} {H H1 : Heap} (h : yAt G hb y H) (hk : ∀ q : Nat, q < H.size → ¬ A q → H1[q]? = H[q]?) (hd : ∀ q, hb ≤ q → q < hb + 30 → ¬ A q) : yAt G hb y H1 :=
  ⟨P_kept h.1 (yWs_D G hb _ _) hk (fun q h1 h2 => hd q h1 (by omega)), h.2.1, h.2.2.1, fun i hi => (h.2.2.2 i hi).keep hk (fun q h1 h2 => hd q (by have := h.2.1.ge hi; omega) (by have := h.2.1.ge hi; omega))⟩
section XKEEP
variable {G : Gx} {B : Nat} {x : XS} {H H1 : Heap} {σ τ : St} {y : YS}
theorem out2 {b b2 q : Nat} (h : ¬ (b ≤ q ∧ q < b + 7)) (h2 : ¬ (b2 ≤ q ∧ q < b2 + 7)) : ¬ fr2 b b2 q := fun z => z.elim (fun z => h (fr_iff.mp z)) (fun z => h2 (fr_iff.mp z))
theorem outY {b b2 q : Nat} (h : ¬ (b ≤ q ∧ q < b + 30)) (h2 : ¬ (b2 ≤ q ∧ q < b2 + 7)) : ¬ frY b b2 q := fun z => z.elim (fun z => h (fr_iff.mp z)) (fun z => h2 (fr_iff.mp z))
theorem outF {lo hi q : Nat} (h : ¬ (lo ≤ q ∧ q < hi)) : ¬ lw_Fr lo hi q := fun z => h (fr_iff.mp z)
theorem xAt.house (X : xAt G B x H) (h : hAt G (B + 1) σ H1) (hk : ∀ q : Nat, q < H.size → ¬ lw_Fr (B + 1) (B + 1 + 7) q → H1[q]? = H[q]?) : xAt G B (xH x σ) H1 := by
  obtain ⟨X0, X1, X2, X3, X4, X5⟩ := X
  exact ⟨P_kept X0 (xWs_D B _) hk (fun q h1 h2 => outF (by omega)), h, X2.keep hk (fun q h1 h2 => outF (by omega)), X3.keep hk (fun q h1 h2 => outF (by omega)), X4.keep hk (fun q h1 h2 => outF (by omega)), X5.keep hk (fun q h1 h2 => outF (by omega))⟩
theorem xAt.text (X : xAt G B x H) (h : tAt G (B + 52) τ H1) (hk : ∀ q : Nat, q < H.size → ¬ lw_Fr (B + 52) (B + 52 + 2) q → H1[q]? = H[q]?) : xAt G B (xT x τ) H1 := by
  obtain ⟨X0, X1, X2, X3, X4, X5⟩ := X
  exact ⟨P_kept X0 (xWs_D B _) hk (fun q h1 h2 => outF (by omega)), X1.keep hk (fun q h1 h2 => outF (by omega)), X2.keep hk (fun q h1 h2 => outF (by omega)), X3.keep hk (fun q h1 h2 => outF (by omega)), X4.keep hk (fun q h1 h2 => outF (by omega)), h⟩
/-- before becomes house -/
theorem xAt.cpB (X : xAt G B x H) (h : hAt G (B + 8) x.2.1 H1 ∧ hAt G (B + 1) x.2.1 H1) (hk : ∀ q : Nat, q < H.size → ¬ fr2 (B + 8) (B + 1) q → H1[q]? = H[q]?) : xAt G B (xB x x.2.1) H1 := by
  obtain ⟨X0, X1, X2, X3, X4, X5⟩ := X
  exact ⟨P_kept X0 (xWs_D B _) hk (fun q h1 h2 => out2 (by omega) (by omega)), h.2, h.1, X3.keep hk (fun q h1 h2 => out2 (by omega) (by omega)), X4.keep hk (fun q h1 h2 => out2 (by omega) (by omega)), X5.keep hk (fun q h1 h2 => out2 (by omega) (by omega))⟩
/-- house becomes before -/
theorem xAt.cpHB (X : xAt G B x H) (h : hAt G (B + 1) x.2.2.1 H1 ∧ hAt G (B + 8) x.2.2.1 H1) (hk : ∀ q : Nat, q < H.size → ¬ fr2 (B + 1) (B + 8) q → H1[q]? = H[q]?) : xAt G B (xH x x.2.2.1) H1 := by
  obtain ⟨X0, X1, X2, X3, X4, X5⟩ := X
  exact ⟨P_kept X0 (xWs_D B _) hk (fun q h1 h2 => out2 (by omega) (by omega)), h.1, h.2, X3.keep hk (fun q h1 h2 => out2 (by omega) (by omega)), X4.keep hk (fun q h1 h2 => out2 (by omega) (by omega)), X5.keep hk (fun q h1 h2 => out2 (by omega) (by omega))⟩
/-- snapshot becomes house -/
theorem xAt.cpS (X : xAt G B x H) (h : hAt G (B + 15) x.2.1 H1 ∧ hAt G (B + 1) x.2.1 H1) (hk : ∀ q : Nat, q < H.size → ¬ fr2 (B + 15) (B + 1) q → H1[q]? = H[q]?) : xAt G B (xS x x.2.1) H1 := by
  obtain ⟨X0, X1, X2, X3, X4, X5⟩ := X
  exact ⟨P_kept X0 (xWs_D B _) hk (fun q h1 h2 => out2 (by omega) (by omega)), h.2, X2.keep hk (fun q h1 h2 => out2 (by omega) (by omega)), h.1, X4.keep hk (fun q h1 h2 => out2 (by omega) (by omega)), X5.keep hk (fun q h1 h2 => out2 (by omega) (by omega))⟩
/-- house becomes snapshot -/
theorem xAt.cpHS (X : xAt G B x H) (h : hAt G (B + 1) x.2.2.2.1 H1 ∧ hAt G (B + 15) x.2.2.2.1 H1) (hk : ∀ q : Nat, q < H.size → ¬ fr2 (B + 1) (B + 15) q → H1[q]? = H[q]?) : xAt G B (xH x x.2.2.2.1) H1 := by
  obtain ⟨X0, X1, X2, X3, X4, X5⟩ := X
  exact ⟨P_kept X0 (xWs_D B _) hk (fun q h1 h2 => out2 (by omega) (by omega)), h.1, X2.keep hk (fun q h1 h2 => out2 (by omega) (by omega)), h.2, X4.keep hk (fun q h1 h2 => out2 (by omega) (by omega)), X5.keep hk (fun q h1 h2 => out2 (by omega) (by omega))⟩
/-- the history, with before read -/
theorem xAt.add (X : xAt G B x H) (h : yAt G (B + 22) y H1 ∧ hAt G (B + 8) x.2.2.1 H1) (hk : ∀ q : Nat, q < H.size → ¬ frY (B + 22) (B + 8) q → H1[q]? = H[q]?) : xAt G B (xY x y) H1 := by
  obtain ⟨X0, X1, X2, X3, X4, X5⟩ := X
  exact ⟨P_kept X0 (xWs_D B _) hk (fun q h1 h2 => outY (by omega) (by omega)), X1.keep hk (fun q h1 h2 => outY (by omega) (by omega)), h.2, X3.keep hk (fun q h1 h2 => outY (by omega) (by omega)), h.1, X5.keep hk (fun q h1 h2 => outY (by omega) (by omega))⟩
/-- the history and house -/
theorem xAt.take (X : xAt G B x H) (h : yAt G (B + 22) y H1 ∧ hAt G (B + 1) σ H1) (hk : ∀ q : Nat, q < H.size → ¬ frY (B + 22) (B + 1) q → H1[q]? = H[q]?) : xAt G B (xH (xY x y) σ) H1 := by
  obtain ⟨X0, X1, X2, X3, X4, X5⟩ := X
  exact ⟨P_kept X0 (xWs_D B _) hk (fun q h1 h2 => outY (by omega) (by omega)), h.2, X2.keep hk (fun q h1 h2 => outY (by omega) (by omega)), X3.keep hk (fun q h1 h2 => outY (by omega) (by omega)), h.1, X5.keep hk (fun q h1 h2 => outY (by omega) (by omega))⟩
end XKEEP
section XROWS
variable {p : Program} {l : Launch} {e : Env} {R : Room} {s : State} {m : MethodId} {args : Array Value} {below : List Frame} {meth : Method} {c : Code} {H : Heap} {locs : List Loc} {cells slots : Nat} {Q : State → Prop}
variable {cc : ByteArray} {pc nL index B : Nat} {ls : Array Slot} {rest : List Value} {A : Nat → Prop} {G : Gx} {Ts : List Cond} {own : String} {x : XS} {v : Int32}
theorem rcv_X3 (X : xAt G B x H) (hK : gK G s) : ∃ cell : Cell, H[B]? = some cell ∧ cell.vm.isStatics = false ∧ s.vm.findClass RX3 = some cell.cls := va_recv hK X.1 (ci := 3) (q0 := 0) rfl rfl
theorem gt_X3_0 (C : Cx p m c cc nL s args Ts own G) (hin : ∀ w ∈ wsX30, w ∈ Ts) (X : xAt G B x H) (iw : Nat) (hl : Ts[iw]? = some (.fieldLink own index "RopeSeals" "house" "LRopeSeals$House;")) (hdg : decode cc pc = .ok (.getfield index, 3)) (kk : W p l e R s m args below meth c H locs cells slots Q (F0 m (pc + 3) ls (.ref (B + 1) :: rest))) : W p l e R s m args below meth c H locs cells slots Q (F0 m pc ls (.ref B :: rest)) :=
  va_get C.1.1 C.1.2.1 C.1.2.2.2.2 hin C.1.2.2.2.1 C.2 X.1 0 rfl rfl 0 (by decide) (C.1.2.2.2.2 _ (List.mem_of_getElem? hl)) (fun _ h => h) rfl hdg kk
theorem gt_X3_1 (C : Cx p m c cc nL s args Ts own G) (hin : ∀ w ∈ wsX30, w ∈ Ts) (X : xAt G B x H) (iw : Nat) (hl : Ts[iw]? = some (.fieldLink own index "RopeSeals" "before" "LRopeSeals$House;")) (hdg : decode cc pc = .ok (.getfield index, 3)) (kk : W p l e R s m args below meth c H locs cells slots Q (F0 m (pc + 3) ls (.ref (B + 8) :: rest))) : W p l e R s m args below meth c H locs cells slots Q (F0 m pc ls (.ref B :: rest)) :=
  va_get C.1.1 C.1.2.1 C.1.2.2.2.2 hin C.1.2.2.2.1 C.2 X.1 0 rfl rfl 1 (by decide) (C.1.2.2.2.2 _ (List.mem_of_getElem? hl)) (fun _ h => h) rfl hdg kk
theorem gt_X3_2 (C : Cx p m c cc nL s args Ts own G) (hin : ∀ w ∈ wsX30, w ∈ Ts) (X : xAt G B x H) (iw : Nat) (hl : Ts[iw]? = some (.fieldLink own index "RopeSeals" "snapshot" "LRopeSeals$House;")) (hdg : decode cc pc = .ok (.getfield index, 3)) (kk : W p l e R s m args below meth c H locs cells slots Q (F0 m (pc + 3) ls (.ref (B + 15) :: rest))) : W p l e R s m args below meth c H locs cells slots Q (F0 m pc ls (.ref B :: rest)) :=
  va_get C.1.1 C.1.2.1 C.1.2.2.2.2 hin C.1.2.2.2.1 C.2 X.1 0 rfl rfl 2 (by decide) (C.1.2.2.2.2 _ (List.mem_of_getElem? hl)) (fun _ h => h) rfl hdg kk
theorem gt_X3_3 (C : Cx p m c cc nL s args Ts own G) (hin : ∀ w ∈ wsX30, w ∈ Ts) (X : xAt G B x H) (iw : Nat) (hl : Ts[iw]? = some (.fieldLink own index "RopeSeals" "hasSnapshot" "Z")) (hdg : decode cc pc = .ok (.getfield index, 3)) (kk : W p l e R s m args below meth c H locs cells slots Q (F0 m (pc + 3) ls (.int x.1 :: rest))) : W p l e R s m args below meth c H locs cells slots Q (F0 m pc ls (.ref B :: rest)) :=
  va_get C.1.1 C.1.2.1 C.1.2.2.2.2 hin C.1.2.2.2.1 C.2 X.1 0 rfl rfl 3 (by decide) (C.1.2.2.2.2 _ (List.mem_of_getElem? hl)) (fun _ h => h) rfl hdg kk
theorem gt_X3_4 (C : Cx p m c cc nL s args Ts own G) (hin : ∀ w ∈ wsX30, w ∈ Ts) (X : xAt G B x H) (iw : Nat) (hl : Ts[iw]? = some (.fieldLink own index "RopeSeals" "history" "LRopeSeals$History;")) (hdg : decode cc pc = .ok (.getfield index, 3)) (kk : W p l e R s m args below meth c H locs cells slots Q (F0 m (pc + 3) ls (.ref (B + 22) :: rest))) : W p l e R s m args below meth c H locs cells slots Q (F0 m pc ls (.ref B :: rest)) :=
  va_get C.1.1 C.1.2.1 C.1.2.2.2.2 hin C.1.2.2.2.1 C.2 X.1 0 rfl rfl 4 (by decide) (C.1.2.2.2.2 _ (List.mem_of_getElem? hl)) (fun _ h => h) rfl hdg kk
theorem gt_X3_5 (C : Cx p m c cc nL s args Ts own G) (hin : ∀ w ∈ wsX30, w ∈ Ts) (X : xAt G B x H) (iw : Nat) (hl : Ts[iw]? = some (.fieldLink own index "RopeSeals" "text" "LRopeSeals$OrderText;")) (hdg : decode cc pc = .ok (.getfield index, 3)) (kk : W p l e R s m args below meth c H locs cells slots Q (F0 m (pc + 3) ls (.ref (B + 52) :: rest))) : W p l e R s m args below meth c H locs cells slots Q (F0 m pc ls (.ref B :: rest)) :=
  va_get C.1.1 C.1.2.1 C.1.2.2.2.2 hin C.1.2.2.2.1 C.2 X.1 0 rfl rfl 5 (by decide) (C.1.2.2.2.2 _ (List.mem_of_getElem? hl)) (fun _ h => h) rfl hdg kk
theorem pt_X3_3 (C : Cx p m c cc nL s args Ts own G) (hin : ∀ w ∈ wsX30, w ∈ Ts) (X : xAt G B x H) (hS : va_S A s.heap H locs) (hA : A B) (iw : Nat) (hl : Ts[iw]? = some (.fieldLink own index "RopeSeals" "hasSnapshot" "Z")) (hn : narrow .boolean (.int v) = .int v) (hf : fits .boolean (.int v) = true) (hdg : decode cc pc = .ok (.putfield index, 3)) (kk : ∀ (H1 : Heap) (locs1 : List Loc), xAt G B (xF x v) H1 → va_S A s.heap H1 locs1 → W p l e R s m args below meth c H1 locs1 cells slots Q (F0 m (pc + 3) ls rest)) : W p l e R s m args below meth c H locs cells slots Q (F0 m pc ls (.int v :: .ref B :: rest)) := by
  refine putO C.1.1 C.1.2.1 C.1.2.2.2.2 hin tyX3 tyX3_ok nmX3 C.1.2.2.2.1 C.2 X.1 (xWs_D B x.1) hS hA 0 rfl rfl 3 (by decide) (C.1.2.2.2.2 _ (List.mem_of_getElem? hl)) rfl (ty := .boolean) (v := .int v) (by decide +kernel) hn hf (Nat.le_of_ble_eq_true rfl) hdg (fun H1 locs1 hP hS o => kk H1 locs1 ?_ hS)
  obtain ⟨X0, X1, X2, X3, X4, X5⟩ := X
  have hk : ∀ q : Nat, q < H.size → ¬ (q = B) → H1[q]? = H[q]? := fun q _ h2 => o q h2
  exact ⟨hP, X1.keep hk (fun q h1 h2 => by omega), X2.keep hk (fun q h1 h2 => by omega), X3.keep hk (fun q h1 h2 => by omega), X4.keep hk (fun q h1 h2 => by omega), X5.keep hk (fun q h1 h2 => by omega)⟩
end XROWS
