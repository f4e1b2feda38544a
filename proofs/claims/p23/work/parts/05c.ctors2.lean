def y0 (hb : Nat) : YS := (fun i => hb + 2 + 7 * i, 0, fun _ => h0)
theorem y0_ok (hb : Nat) : rOK hb (y0 hb).1 := ⟨fun i hi => ⟨i, hi, rfl⟩, fun i j _ _ e => by
  have e : hb + 2 + 7 * i = hb + 2 + 7 * j := e
  omega⟩
theorem y0_ws {G : Gx} {b : Nat} {H : Heap} (h : va_P G.1 vwCl [(b, .inr (0, [.ref (b + 1), .int 0])), (b + 1, .inl (G.2 2, 4, .inr (.inr (.inr (.inr (va_up (va_up (va_up (va_up (fun _ => none) 0 (some (b + 2))) 1 (some (b + 9))) 2 (some (b + 16))) 3 (some (b + 23))))))))] H) : va_P G.1 vwCl (yWs G b (fun i => b + 2 + 7 * i) 0) H := by
  intro i q hq
  rcases i with _ | _ | i
  · exact h 0 q hq
  · have h1 := h 1 _ rfl
    simp [yWs] at hq
    subst hq
    show H[b + 1]? = some (vp_cell _ _)
    rw [cellQ_ext (g := va_up (va_up (va_up (va_up (fun _ => none) 0 (some (b + 2))) 1 (some (b + 9))) 2 (some (b + 16))) 3 (some (b + 23))) (fun j hj => by rcases j with _ | _ | _ | _ | j <;> first | rfl | omega)]
    exact h1
  · simp [yWs] at hq
def x0 (B : Nat) : XS := (0, h0, h0, h0, y0 (B + 22), t0)

theorem inX0_X0_init : ∀ w ∈ wsX00, w ∈ wsX0_init := by decide +kernel
theorem inX1_X0_init : ∀ w ∈ wsX10, w ∈ wsX0_init := by decide +kernel
set_option maxHeartbeats 4000000 in
set_option maxRecDepth 100000 in
theorem kX0_init (l : Launch) (G : Gx) (b : Nat) : Met l yX0_init wsX0_init { frames := 2, cells := 29, slots := 548, locals := 80 } (preN2 G [.ref b] b 0 [.null, .int 0]) (QcN b 30 (yAt G b (y0 b))) 29 548 (fun q => b ≤ q) := by
  refine Met.ofW (cc := cX0_init) (maxL := 2) (ret := none) (by decide) rfl ?_
  intro p e s m args below meth c s₁ B hml hv
  obtain ⟨rfl, ⟨X, sz⟩, hK, hnw⟩ := hv
  have hx := B.exec
  have hbb := B.bytes
  have hr := B.returns
  have hts := atoms_spec (ws := wsX0_init) B.pre
  have hown : s.vm.findClass RX0 = some m.cls := findClass_of_methodNamed B.named
  have hlocks := B.notSynchronized
  have hinit : meth.name = "<init>" := (name_of_methodNamed B.named B.method).1
  have C : Cx p m c cX0_init 2 s _ wsX0_init RX0 G := ⟨⟨hx, hbb, hml, hown, hts⟩, hK⟩
  have hS : va_S (fun q => b ≤ q) s.heap s.heap [] := va_S.rf
  have hl := lv_entry ([.ref b]) (n := 2) (Nat.le_of_ble_eq_true rfl)
  rw [lg_entry_eq]
  generalize (lg_sl ([.ref b]) ++ List.replicate (2 - (lg_sl ([.ref b])).length) Slot.unset).toArray = ls at hl ⊢
  have hl : lv_has ls 2 [(0, .ref b)] := hl
  refine lv_aload_n hx hbb dX0_init_0 rfl (lv_at hl 0 rfl) ?_
  refine W.objInit hx hbb hown (hts _ (List.mem_of_getElem? (i := 1) rfl)) (hts _ (List.mem_of_getElem? (i := 2) rfl)) (hts _ (List.mem_of_getElem? (i := 3) rfl)) rfl (by rw [hml]; exact hl.1) rfl dX0_init_1 (Nat.le_of_ble_eq_true rfl) (Nat.le_of_ble_eq_true rfl) ?_
  refine W.eq (g2 := F0 m 4 ls []) rfl ?_
  refine lv_aload_n hx hbb dX0_init_4 rfl (lv_at hl 0 rfl) ?_
  refine lv_iconst (v := 4) hx hbb dX0_init_5 (by decide) ?_
  refine newQ (h := b + 1) (N := 4) C (hts _ (List.mem_of_getElem? (i := 4) rfl)) hnw.2.2.2 X sz hS (by decide) (by decide) (by decide) (Nat.le_of_ble_eq_true rfl) (Nat.le_of_ble_eq_true rfl) dX0_init_6 (fun H X sz _ hS => ?_)
  have X : va_P G.1 vwCl [(b, .inr (0, [.null, .int 0])), (b + 1, .inl (G.2 2, 4, .inr (.inr (.inr (.inr (fun _ => none))))))] H := X
  refine putFZ (v := .ref (b + 1)) (ty := .array (.object "RopeSeals$House")) C inX0_X0_init tyX0 tyX0_ok nmX0 X (lD 2 rfl) hS (by show b ≤ b; omega) 0 rfl rfl 0 (by decide) (hts _ (List.mem_of_getElem? (i := 5) rfl)) rfl hinit rfl (by decide +kernel) rfl rfl (Nat.le_of_ble_eq_true rfl) dX0_init_9 (fun H locs X z oq hS => ?_)
  have sz := z.trans sz
  have X : va_P G.1 vwCl [(b, .inr (0, [.ref (b + 1), .int 0])), (b + 1, .inl (G.2 2, 4, .inr (.inr (.inr (.inr (fun _ => none))))))] H := X
  refine lv_aload_n hx hbb dX0_init_12 rfl (lv_at hl 0 rfl) ?_
  refine lv_iconst (v := 0) hx hbb dX0_init_13 (by decide) ?_
  refine putZ (v := .int 0) (ty := .int) C inX0_X0_init tyX0 tyX0_ok nmX0 X (lD 2 rfl) hS (by show b ≤ b; omega) 0 rfl rfl 1 (by decide) (hts _ (List.mem_of_getElem? (i := 6) rfl)) rfl (by decide +kernel) rfl rfl (Nat.le_of_ble_eq_true rfl) dX0_init_14 (fun H locs X z oq hS => ?_)
  have sz := z.trans sz
  have X : va_P G.1 vwCl [(b, .inr (0, [.ref (b + 1), .int 0])), (b + 1, .inl (G.2 2, 4, .inr (.inr (.inr (.inr (fun _ => none))))))] H := X
  refine lv_iconst (v := 0) hx hbb dX0_init_17 (by decide) ?_
  refine lv_istore_n (lv' := [(1, .int 0), (0, .ref b)]) hx hbb dX0_init_18 rfl hl (by decide) rfl (fun ls hl => ?_)
  refine lv_iload_n hx hbb dX0_init_19 rfl (lv_at hl 0 rfl) ?_
  refine lv_iconst (v := 4) hx hbb dX0_init_20 (by decide) ?_
  refine lv_icmp_ge (tgt := 43) hx hbb dX0_init_21 (by decide) (fun c9 => absurd c9 (by decide)) (fun _ => ?_)
  refine lv_aload_n hx hbb dX0_init_24 rfl (lv_at hl 1 rfl) ?_
  refine va_get hx hbb hts inX0_X0_init hown hK X 0 rfl rfl 0 (by decide) (hts _ (List.mem_of_getElem? (i := 5) rfl)) (fun _ h => h) rfl dX0_init_25 ?_
  refine lv_iload_n hx hbb dX0_init_28 rfl (lv_at hl 0 rfl) ?_
  have sz1 := sz
  have X1 := X
  refine newO (h := b + 2) (ci := 1) (fs := [.null, .null, .null, .null, .null, .null, .int 0, .int 0, .int 0, .int 0, .int 0]) C inX1_X0_init tyX1 tyX1_ok (hts _ (List.mem_of_getElem? (i := 4) rfl)) (hts _ (List.mem_of_getElem? (i := 7) rfl)) (hts _ (List.mem_of_getElem? (i := 8) rfl)) sz hS rfl (fun j hj => by rcases (show j = 0 ∨ j = 1 ∨ j = 2 ∨ j = 3 ∨ j = 4 ∨ j = 5 ∨ j = 6 ∨ j = 7 ∨ j = 8 ∨ j = 9 ∨ j = 10 by omega) with rfl | rfl | rfl | rfl | rfl | rfl | rfl | rfl | rfl | rfl | rfl <;> rfl) (Nat.le_of_ble_eq_true rfl) (Nat.le_of_ble_eq_true rfl) dX0_init_29 (fun H Z sz o1 hS => ?_)
  refine lv_dup hx hbb dX0_init_32 rfl ?_
  refine rowN (va_runIN (As := []) (rest := [.ref (b + 2), .int 0, .ref (b + 1)]) C.1 (kX1_init l G (b + 2)) ⟨va_cnB 0 hts gX0_init_X1_init_n21 rfl rfl rfl hnw.1 (hts _ (List.mem_of_getElem? (i := 8) rfl)) (by decide +kernel) ⟨Nat.le_of_ble_eq_true rfl, Nat.le_of_ble_eq_true rfl⟩, rfl, (hts _ (List.mem_of_getElem? (i := 9) rfl))⟩ ⟨preN_blind, fun U hU hW => ⟨rfl, ⟨by rw [hU]; exact Z, by rw [hU]; exact sz⟩, gK.moved hW.alike hK⟩⟩ rfl rfl hl.1 rfl (lv_room (Nat.le_of_ble_eq_true rfl)) dX0_init_33 ⟨Nat.le_of_ble_eq_true rfl, Nat.le_of_ble_eq_true rfl⟩) hS (fun q z => by have z : b + 2 ≤ q := z; show b ≤ q; omega) (fun H locs V1 sz f1 hS => ?_)
  have fr1 : ∀ q : Nat, q < b + 2 → H[q]? = _ := fun q h1 => (f1 q (by omega) (by omega)).trans (o1 q h1)
  have X : va_P G.1 vwCl [(b, .inr (0, [.ref (b + 1), .int 0])), (b + 1, .inl (G.2 2, 4, .inr (.inr (.inr (.inr (fun _ => none))))))] H := va_P.kept X1 (fun k y hy => fr1 y.1 (by have := (X1 k y hy).lt; omega))
  have sz : H.size = b + 9 := sz
  refine aastZ (j := 0) (v := b + 2) (σv := h0) C X (lD 2 rfl) V1 hS (by show b ≤ b + 1; omega) 1 rfl (by decide) (by decide) dX0_init_36 (fun H locs X z oq hS => ?_)
  have sz := z.trans sz
  have X : va_P G.1 vwCl [(b, .inr (0, [.ref (b + 1), .int 0])), (b + 1, .inl (G.2 2, 4, .inr (.inr (.inr (.inr (va_up (fun _ => none) 0 (some (b + 2))))))))] H := X
  have V1 := V1.keep (A := fun q => q = b + 1) (fun q _ h2 => oq q h2) (fun q h1 h2 z => by omega)
  refine lv_iinc (v := 1) (lv' := [(1, .int 1), (0, .ref b)]) hx hbb dX0_init_37 hl (k := 0) rfl (by decide) (by decide) rfl (fun ls hl => ?_)
  refine lv_goto (tgt := 19) hx hbb dX0_init_40 (by decide) ?_
  refine lv_iload_n hx hbb dX0_init_19 rfl (lv_at hl 0 rfl) ?_
  refine lv_iconst (v := 4) hx hbb dX0_init_20 (by decide) ?_
  refine lv_icmp_ge (tgt := 43) hx hbb dX0_init_21 (by decide) (fun c9 => absurd c9 (by decide)) (fun _ => ?_)
  refine lv_aload_n hx hbb dX0_init_24 rfl (lv_at hl 1 rfl) ?_
  refine va_get hx hbb hts inX0_X0_init hown hK X 0 rfl rfl 0 (by decide) (hts _ (List.mem_of_getElem? (i := 5) rfl)) (fun _ h => h) rfl dX0_init_25 ?_
  refine lv_iload_n hx hbb dX0_init_28 rfl (lv_at hl 0 rfl) ?_
  have sz2 := sz
  have X2 := X
  refine newO (h := b + 9) (ci := 1) (fs := [.null, .null, .null, .null, .null, .null, .int 0, .int 0, .int 0, .int 0, .int 0]) C inX1_X0_init tyX1 tyX1_ok (hts _ (List.mem_of_getElem? (i := 4) rfl)) (hts _ (List.mem_of_getElem? (i := 7) rfl)) (hts _ (List.mem_of_getElem? (i := 8) rfl)) sz hS rfl (fun j hj => by rcases (show j = 0 ∨ j = 1 ∨ j = 2 ∨ j = 3 ∨ j = 4 ∨ j = 5 ∨ j = 6 ∨ j = 7 ∨ j = 8 ∨ j = 9 ∨ j = 10 by omega) with rfl | rfl | rfl | rfl | rfl | rfl | rfl | rfl | rfl | rfl | rfl <;> rfl) (Nat.le_of_ble_eq_true rfl) (Nat.le_of_ble_eq_true rfl) dX0_init_29 (fun H Z sz o2 hS => ?_)
  refine lv_dup hx hbb dX0_init_32 rfl ?_
  refine rowN (va_runIN (As := []) (rest := [.ref (b + 9), .int 1, .ref (b + 1)]) C.1 (kX1_init l G (b + 9)) ⟨va_cnB 0 hts gX0_init_X1_init_n21 rfl rfl rfl hnw.1 (hts _ (List.mem_of_getElem? (i := 8) rfl)) (by decide +kernel) ⟨Nat.le_of_ble_eq_true rfl, Nat.le_of_ble_eq_true rfl⟩, rfl, (hts _ (List.mem_of_getElem? (i := 9) rfl))⟩ ⟨preN_blind, fun U hU hW => ⟨rfl, ⟨by rw [hU]; exact Z, by rw [hU]; exact sz⟩, gK.moved hW.alike hK⟩⟩ rfl rfl hl.1 rfl (lv_room (Nat.le_of_ble_eq_true rfl)) dX0_init_33 ⟨Nat.le_of_ble_eq_true rfl, Nat.le_of_ble_eq_true rfl⟩) hS (fun q z => by have z : b + 9 ≤ q := z; show b ≤ q; omega) (fun H locs V2 sz f2 hS => ?_)
  have fr2 : ∀ q : Nat, q < b + 9 → H[q]? = _ := fun q h1 => (f2 q (by omega) (by omega)).trans (o2 q h1)
  have X : va_P G.1 vwCl [(b, .inr (0, [.ref (b + 1), .int 0])), (b + 1, .inl (G.2 2, 4, .inr (.inr (.inr (.inr (va_up (fun _ => none) 0 (some (b + 2))))))))] H := va_P.kept X2 (fun k y hy => fr2 y.1 (by have := (X2 k y hy).lt; omega))
  have V1 := V1.keep (A := fun q => b + 9 ≤ q) (fun q h1 h2 => fr2 q (by omega)) (fun q h1 h2 => by omega)
  have sz : H.size = b + 16 := sz
  refine aastZ (j := 1) (v := b + 9) (σv := h0) C X (lD 2 rfl) V2 hS (by show b ≤ b + 1; omega) 1 rfl (by decide) (by decide) dX0_init_36 (fun H locs X z oq hS => ?_)
  have sz := z.trans sz
  have X : va_P G.1 vwCl [(b, .inr (0, [.ref (b + 1), .int 0])), (b + 1, .inl (G.2 2, 4, .inr (.inr (.inr (.inr (va_up (va_up (fun _ => none) 0 (some (b + 2))) 1 (some (b + 9))))))))] H := X
  have V1 := V1.keep (A := fun q => q = b + 1) (fun q _ h2 => oq q h2) (fun q h1 h2 z => by omega)
  have V2 := V2.keep (A := fun q => q = b + 1) (fun q _ h2 => oq q h2) (fun q h1 h2 z => by omega)
  refine lv_iinc (v := 2) (lv' := [(1, .int 2), (0, .ref b)]) hx hbb dX0_init_37 hl (k := 0) rfl (by decide) (by decide) rfl (fun ls hl => ?_)
  refine lv_goto (tgt := 19) hx hbb dX0_init_40 (by decide) ?_
  refine lv_iload_n hx hbb dX0_init_19 rfl (lv_at hl 0 rfl) ?_
  refine lv_iconst (v := 4) hx hbb dX0_init_20 (by decide) ?_
  refine lv_icmp_ge (tgt := 43) hx hbb dX0_init_21 (by decide) (fun c9 => absurd c9 (by decide)) (fun _ => ?_)
  refine lv_aload_n hx hbb dX0_init_24 rfl (lv_at hl 1 rfl) ?_
  refine va_get hx hbb hts inX0_X0_init hown hK X 0 rfl rfl 0 (by decide) (hts _ (List.mem_of_getElem? (i := 5) rfl)) (fun _ h => h) rfl dX0_init_25 ?_
  refine lv_iload_n hx hbb dX0_init_28 rfl (lv_at hl 0 rfl) ?_
  have sz3 := sz
  have X3 := X
  refine newO (h := b + 16) (ci := 1) (fs := [.null, .null, .null, .null, .null, .null, .int 0, .int 0, .int 0, .int 0, .int 0]) C inX1_X0_init tyX1 tyX1_ok (hts _ (List.mem_of_getElem? (i := 4) rfl)) (hts _ (List.mem_of_getElem? (i := 7) rfl)) (hts _ (List.mem_of_getElem? (i := 8) rfl)) sz hS rfl (fun j hj => by rcases (show j = 0 ∨ j = 1 ∨ j = 2 ∨ j = 3 ∨ j = 4 ∨ j = 5 ∨ j = 6 ∨ j = 7 ∨ j = 8 ∨ j = 9 ∨ j = 10 by omega) with rfl | rfl | rfl | rfl | rfl | rfl | rfl | rfl | rfl | rfl | rfl <;> rfl) (Nat.le_of_ble_eq_true rfl) (Nat.le_of_ble_eq_true rfl) dX0_init_29 (fun H Z sz o3 hS => ?_)
  refine lv_dup hx hbb dX0_init_32 rfl ?_
  refine rowN (va_runIN (As := []) (rest := [.ref (b + 16), .int 2, .ref (b + 1)]) C.1 (kX1_init l G (b + 16)) ⟨va_cnB 0 hts gX0_init_X1_init_n21 rfl rfl rfl hnw.1 (hts _ (List.mem_of_getElem? (i := 8) rfl)) (by decide +kernel) ⟨Nat.le_of_ble_eq_true rfl, Nat.le_of_ble_eq_true rfl⟩, rfl, (hts _ (List.mem_of_getElem? (i := 9) rfl))⟩ ⟨preN_blind, fun U hU hW => ⟨rfl, ⟨by rw [hU]; exact Z, by rw [hU]; exact sz⟩, gK.moved hW.alike hK⟩⟩ rfl rfl hl.1 rfl (lv_room (Nat.le_of_ble_eq_true rfl)) dX0_init_33 ⟨Nat.le_of_ble_eq_true rfl, Nat.le_of_ble_eq_true rfl⟩) hS (fun q z => by have z : b + 16 ≤ q := z; show b ≤ q; omega) (fun H locs V3 sz f3 hS => ?_)
  have fr3 : ∀ q : Nat, q < b + 16 → H[q]? = _ := fun q h1 => (f3 q (by omega) (by omega)).trans (o3 q h1)
  have X : va_P G.1 vwCl [(b, .inr (0, [.ref (b + 1), .int 0])), (b + 1, .inl (G.2 2, 4, .inr (.inr (.inr (.inr (va_up (va_up (fun _ => none) 0 (some (b + 2))) 1 (some (b + 9))))))))] H := va_P.kept X3 (fun k y hy => fr3 y.1 (by have := (X3 k y hy).lt; omega))
  have V1 := V1.keep (A := fun q => b + 16 ≤ q) (fun q h1 h2 => fr3 q (by omega)) (fun q h1 h2 => by omega)
  have V2 := V2.keep (A := fun q => b + 16 ≤ q) (fun q h1 h2 => fr3 q (by omega)) (fun q h1 h2 => by omega)
  have sz : H.size = b + 23 := sz
  refine aastZ (j := 2) (v := b + 16) (σv := h0) C X (lD 2 rfl) V3 hS (by show b ≤ b + 1; omega) 1 rfl (by decide) (by decide) dX0_init_36 (fun H locs X z oq hS => ?_)
  have sz := z.trans sz
  have X : va_P G.1 vwCl [(b, .inr (0, [.ref (b + 1), .int 0])), (b + 1, .inl (G.2 2, 4, .inr (.inr (.inr (.inr (va_up (va_up (va_up (fun _ => none) 0 (some (b + 2))) 1 (some (b + 9))) 2 (some (b + 16))))))))] H := X
  have V1 := V1.keep (A := fun q => q = b + 1) (fun q _ h2 => oq q h2) (fun q h1 h2 z => by omega)
  have V2 := V2.keep (A := fun q => q = b + 1) (fun q _ h2 => oq q h2) (fun q h1 h2 z => by omega)
  have V3 := V3.keep (A := fun q => q = b + 1) (fun q _ h2 => oq q h2) (fun q h1 h2 z => by omega)
  refine lv_iinc (v := 3) (lv' := [(1, .int 3), (0, .ref b)]) hx hbb dX0_init_37 hl (k := 0) rfl (by decide) (by decide) rfl (fun ls hl => ?_)
  refine lv_goto (tgt := 19) hx hbb dX0_init_40 (by decide) ?_
  refine lv_iload_n hx hbb dX0_init_19 rfl (lv_at hl 0 rfl) ?_
  refine lv_iconst (v := 4) hx hbb dX0_init_20 (by decide) ?_
  refine lv_icmp_ge (tgt := 43) hx hbb dX0_init_21 (by decide) (fun c9 => absurd c9 (by decide)) (fun _ => ?_)
  refine lv_aload_n hx hbb dX0_init_24 rfl (lv_at hl 1 rfl) ?_
  refine va_get hx hbb hts inX0_X0_init hown hK X 0 rfl rfl 0 (by decide) (hts _ (List.mem_of_getElem? (i := 5) rfl)) (fun _ h => h) rfl dX0_init_25 ?_
  refine lv_iload_n hx hbb dX0_init_28 rfl (lv_at hl 0 rfl) ?_
  have sz4 := sz
  have X4 := X
  refine newO (h := b + 23) (ci := 1) (fs := [.null, .null, .null, .null, .null, .null, .int 0, .int 0, .int 0, .int 0, .int 0]) C inX1_X0_init tyX1 tyX1_ok (hts _ (List.mem_of_getElem? (i := 4) rfl)) (hts _ (List.mem_of_getElem? (i := 7) rfl)) (hts _ (List.mem_of_getElem? (i := 8) rfl)) sz hS rfl (fun j hj => by rcases (show j = 0 ∨ j = 1 ∨ j = 2 ∨ j = 3 ∨ j = 4 ∨ j = 5 ∨ j = 6 ∨ j = 7 ∨ j = 8 ∨ j = 9 ∨ j = 10 by omega) with rfl | rfl | rfl | rfl | rfl | rfl | rfl | rfl | rfl | rfl | rfl <;> rfl) (Nat.le_of_ble_eq_true rfl) (Nat.le_of_ble_eq_true rfl) dX0_init_29 (fun H Z sz o4 hS => ?_)
  refine lv_dup hx hbb dX0_init_32 rfl ?_
  refine rowN (va_runIN (As := []) (rest := [.ref (b + 23), .int 3, .ref (b + 1)]) C.1 (kX1_init l G (b + 23)) ⟨va_cnB 0 hts gX0_init_X1_init_n21 rfl rfl rfl hnw.1 (hts _ (List.mem_of_getElem? (i := 8) rfl)) (by decide +kernel) ⟨Nat.le_of_ble_eq_true rfl, Nat.le_of_ble_eq_true rfl⟩, rfl, (hts _ (List.mem_of_getElem? (i := 9) rfl))⟩ ⟨preN_blind, fun U hU hW => ⟨rfl, ⟨by rw [hU]; exact Z, by rw [hU]; exact sz⟩, gK.moved hW.alike hK⟩⟩ rfl rfl hl.1 rfl (lv_room (Nat.le_of_ble_eq_true rfl)) dX0_init_33 ⟨Nat.le_of_ble_eq_true rfl, Nat.le_of_ble_eq_true rfl⟩) hS (fun q z => by have z : b + 23 ≤ q := z; show b ≤ q; omega) (fun H locs V4 sz f4 hS => ?_)
  have fr4 : ∀ q : Nat, q < b + 23 → H[q]? = _ := fun q h1 => (f4 q (by omega) (by omega)).trans (o4 q h1)
  have X : va_P G.1 vwCl [(b, .inr (0, [.ref (b + 1), .int 0])), (b + 1, .inl (G.2 2, 4, .inr (.inr (.inr (.inr (va_up (va_up (va_up (fun _ => none) 0 (some (b + 2))) 1 (some (b + 9))) 2 (some (b + 16))))))))] H := va_P.kept X4 (fun k y hy => fr4 y.1 (by have := (X4 k y hy).lt; omega))
  have V1 := V1.keep (A := fun q => b + 23 ≤ q) (fun q h1 h2 => fr4 q (by omega)) (fun q h1 h2 => by omega)
  have V2 := V2.keep (A := fun q => b + 23 ≤ q) (fun q h1 h2 => fr4 q (by omega)) (fun q h1 h2 => by omega)
  have V3 := V3.keep (A := fun q => b + 23 ≤ q) (fun q h1 h2 => fr4 q (by omega)) (fun q h1 h2 => by omega)
  have sz : H.size = b + 30 := sz
  refine aastZ (j := 3) (v := b + 23) (σv := h0) C X (lD 2 rfl) V4 hS (by show b ≤ b + 1; omega) 1 rfl (by decide) (by decide) dX0_init_36 (fun H locs X z oq hS => ?_)
  have sz := z.trans sz
  have X : va_P G.1 vwCl [(b, .inr (0, [.ref (b + 1), .int 0])), (b + 1, .inl (G.2 2, 4, .inr (.inr (.inr (.inr (va_up (va_up (va_up (va_up (fun _ => none) 0 (some (b + 2))) 1 (some (b + 9))) 2 (some (b + 16))) 3 (some (b + 23))))))))] H := X
  have V1 := V1.keep (A := fun q => q = b + 1) (fun q _ h2 => oq q h2) (fun q h1 h2 z => by omega)
  have V2 := V2.keep (A := fun q => q = b + 1) (fun q _ h2 => oq q h2) (fun q h1 h2 z => by omega)
  have V3 := V3.keep (A := fun q => q = b + 1) (fun q _ h2 => oq q h2) (fun q h1 h2 z => by omega)
  have V4 := V4.keep (A := fun q => q = b + 1) (fun q _ h2 => oq q h2) (fun q h1 h2 z => by omega)
  refine lv_iinc (v := 4) (lv' := [(1, .int 4), (0, .ref b)]) hx hbb dX0_init_37 hl (k := 0) rfl (by decide) (by decide) rfl (fun ls hl => ?_)
  refine lv_goto (tgt := 19) hx hbb dX0_init_40 (by decide) ?_
  refine lv_iload_n hx hbb dX0_init_19 rfl (lv_at hl 0 rfl) ?_
  refine lv_iconst (v := 4) hx hbb dX0_init_20 (by decide) ?_
  refine lv_icmp_ge (tgt := 43) hx hbb dX0_init_21 (by decide) (fun _ => ?_) (fun c9 => absurd (by decide) c9)
  refine W.widen (k := 29) (n := 548) (by decide) (by decide) ?_
  exact W.vret hx hbb hr (fun t ht _ => ⟨rfl, by rw [ht]; exact ⟨yWs_ext (r := fun i => b + 2 + 7 * i) (y0_ws X) (fun _ _ => rfl), y0_ok b, Nat.zero_le 4, fun i hi => by rcases i with _ | _ | _ | _ | i <;> first | exact V1 | exact V2 | exact V3 | exact V4 | omega⟩, by rw [ht]; exact sz, hS.F ht⟩) hS.2.2 dX0_init_43

theorem inX0_X3_init : ∀ w ∈ wsX00, w ∈ wsX3_init := by decide +kernel
theorem inX1_X3_init : ∀ w ∈ wsX10, w ∈ wsX3_init := by decide +kernel
theorem inX2_X3_init : ∀ w ∈ wsX20, w ∈ wsX3_init := by decide +kernel
theorem inX3_X3_init : ∀ w ∈ wsX30, w ∈ wsX3_init := by decide +kernel
set_option maxHeartbeats 4000000 in
set_option maxRecDepth 100000 in
theorem kX3_init (l : Launch) (G : Gx) (b : Nat) : Met l yX3_init wsX3_init { frames := 3, cells := 53, slots := 1025, locals := 120 } (preN2 G [.ref b] b 3 [.null, .null, .null, .int 0, .null, .null]) (QcN b 54 (xAt G b (x0 b))) 53 1025 (fun q => b ≤ q) := by
  refine Met.ofW (cc := cX3_init) (maxL := 1) (ret := none) (by decide) rfl ?_
  intro p e s m args below meth c s₁ B hml hv
  obtain ⟨rfl, ⟨X, sz⟩, hK, hnw⟩ := hv
  have hx := B.exec
  have hbb := B.bytes
  have hr := B.returns
  have hts := atoms_spec (ws := wsX3_init) B.pre
  have hown : s.vm.findClass RX3 = some m.cls := findClass_of_methodNamed B.named
  have hlocks := B.notSynchronized
  have hinit : meth.name = "<init>" := (name_of_methodNamed B.named B.method).1
  have C : Cx p m c cX3_init 1 s _ wsX3_init RX3 G := ⟨⟨hx, hbb, hml, hown, hts⟩, hK⟩
  have hS : va_S (fun q => b ≤ q) s.heap s.heap [] := va_S.rf
  have hl := lv_entry ([.ref b]) (n := 1) (Nat.le_of_ble_eq_true rfl)
  rw [lg_entry_eq]
  generalize (lg_sl ([.ref b]) ++ List.replicate (1 - (lg_sl ([.ref b])).length) Slot.unset).toArray = ls at hl ⊢
  have hl : lv_has ls 1 [(0, .ref b)] := hl
  refine lv_aload_n hx hbb dX3_init_0 rfl (lv_at hl 0 rfl) ?_
  refine W.objInit hx hbb hown (hts _ (List.mem_of_getElem? (i := 1) rfl)) (hts _ (List.mem_of_getElem? (i := 2) rfl)) (hts _ (List.mem_of_getElem? (i := 3) rfl)) rfl (by rw [hml]; exact hl.1) rfl dX3_init_1 (Nat.le_of_ble_eq_true rfl) (Nat.le_of_ble_eq_true rfl) ?_
  refine W.eq (g2 := F0 m 4 ls []) rfl ?_
  refine lv_aload_n hx hbb dX3_init_4 rfl (lv_at hl 0 rfl) ?_
  have sz1 := sz
  have X1 := X
  refine newO (h := b + 1) (ci := 1) (fs := [.null, .null, .null, .null, .null, .null, .int 0, .int 0, .int 0, .int 0, .int 0]) C inX1_X3_init tyX1 tyX1_ok (hts _ (List.mem_of_getElem? (i := 4) rfl)) (hts _ (List.mem_of_getElem? (i := 5) rfl)) (hts _ (List.mem_of_getElem? (i := 6) rfl)) sz hS rfl (fun j hj => by rcases (show j = 0 ∨ j = 1 ∨ j = 2 ∨ j = 3 ∨ j = 4 ∨ j = 5 ∨ j = 6 ∨ j = 7 ∨ j = 8 ∨ j = 9 ∨ j = 10 by omega) with rfl | rfl | rfl | rfl | rfl | rfl | rfl | rfl | rfl | rfl | rfl <;> rfl) (Nat.le_of_ble_eq_true rfl) (Nat.le_of_ble_eq_true rfl) dX3_init_5 (fun H Z sz o1 hS => ?_)
  refine lv_dup hx hbb dX3_init_8 rfl ?_
  refine rowN (va_runIN (As := []) (rest := [.ref (b + 1), .ref b]) C.1 (kX1_init l G (b + 1)) ⟨va_cnB 0 hts gX3_init_X1_init_n9 rfl rfl rfl hnw.2.1 (hts _ (List.mem_of_getElem? (i := 6) rfl)) (by decide +kernel) ⟨Nat.le_of_ble_eq_true rfl, Nat.le_of_ble_eq_true rfl⟩, rfl, (hts _ (List.mem_of_getElem? (i := 19) rfl))⟩ ⟨preN_blind, fun U hU hW => ⟨rfl, ⟨by rw [hU]; exact Z, by rw [hU]; exact sz⟩, gK.moved hW.alike hK⟩⟩ rfl rfl hl.1 rfl (lv_room (Nat.le_of_ble_eq_true rfl)) dX3_init_9 ⟨Nat.le_of_ble_eq_true rfl, Nat.le_of_ble_eq_true rfl⟩) hS (fun q z => by have z : b + 1 ≤ q := z; show b ≤ q; omega) (fun H locs V1 sz f1 hS => ?_)
  have fr1 : ∀ q : Nat, q < b + 1 → H[q]? = _ := fun q h1 => (f1 q (by omega) (by omega)).trans (o1 q h1)
  have X : va_P G.1 vwCl [(b, .inr (3, [.null, .null, .null, .int 0, .null, .null]))] H := va_P.kept X1 (fun k y hy => fr1 y.1 (by have := (X1 k y hy).lt; omega))
  have sz : H.size = b + 8 := sz
  refine putFZ (v := .ref (b + 1)) (ty := .object "RopeSeals$House") C inX3_X3_init tyX3 tyX3_ok nmX3 X (lD 1 rfl) hS (by show b ≤ b; omega) 0 rfl rfl 0 (by decide) (hts _ (List.mem_of_getElem? (i := 7) rfl)) rfl hinit rfl (by decide +kernel) rfl rfl (Nat.le_of_ble_eq_true rfl) dX3_init_12 (fun H locs X z oq hS => ?_)
  have sz := z.trans sz
  have X : va_P G.1 vwCl [(b, .inr (3, [.ref (b + 1), .null, .null, .int 0, .null, .null]))] H := X
  have V1 := V1.keep (A := fun q => q = b) (fun q _ h2 => oq q h2) (fun q h1 h2 z => by omega)
  refine lv_aload_n hx hbb dX3_init_15 rfl (lv_at hl 0 rfl) ?_
  have sz2 := sz
  have X2 := X
  refine newO (h := b + 8) (ci := 1) (fs := [.null, .null, .null, .null, .null, .null, .int 0, .int 0, .int 0, .int 0, .int 0]) C inX1_X3_init tyX1 tyX1_ok (hts _ (List.mem_of_getElem? (i := 4) rfl)) (hts _ (List.mem_of_getElem? (i := 5) rfl)) (hts _ (List.mem_of_getElem? (i := 6) rfl)) sz hS rfl (fun j hj => by rcases (show j = 0 ∨ j = 1 ∨ j = 2 ∨ j = 3 ∨ j = 4 ∨ j = 5 ∨ j = 6 ∨ j = 7 ∨ j = 8 ∨ j = 9 ∨ j = 10 by omega) with rfl | rfl | rfl | rfl | rfl | rfl | rfl | rfl | rfl | rfl | rfl <;> rfl) (Nat.le_of_ble_eq_true rfl) (Nat.le_of_ble_eq_true rfl) dX3_init_16 (fun H Z sz o2 hS => ?_)
  refine lv_dup hx hbb dX3_init_19 rfl ?_
  refine rowN (va_runIN (As := []) (rest := [.ref (b + 8), .ref b]) C.1 (kX1_init l G (b + 8)) ⟨va_cnB 0 hts gX3_init_X1_init_n9 rfl rfl rfl hnw.2.1 (hts _ (List.mem_of_getElem? (i := 6) rfl)) (by decide +kernel) ⟨Nat.le_of_ble_eq_true rfl, Nat.le_of_ble_eq_true rfl⟩, rfl, (hts _ (List.mem_of_getElem? (i := 19) rfl))⟩ ⟨preN_blind, fun U hU hW => ⟨rfl, ⟨by rw [hU]; exact Z, by rw [hU]; exact sz⟩, gK.moved hW.alike hK⟩⟩ rfl rfl hl.1 rfl (lv_room (Nat.le_of_ble_eq_true rfl)) dX3_init_20 ⟨Nat.le_of_ble_eq_true rfl, Nat.le_of_ble_eq_true rfl⟩) hS (fun q z => by have z : b + 8 ≤ q := z; show b ≤ q; omega) (fun H locs V2 sz f2 hS => ?_)
  have fr2 : ∀ q : Nat, q < b + 8 → H[q]? = _ := fun q h1 => (f2 q (by omega) (by omega)).trans (o2 q h1)
  have X : va_P G.1 vwCl [(b, .inr (3, [.ref (b + 1), .null, .null, .int 0, .null, .null]))] H := va_P.kept X2 (fun k y hy => fr2 y.1 (by have := (X2 k y hy).lt; omega))
  have V1 := V1.keep (A := fun q => b + 8 ≤ q) (fun q h1 h2 => fr2 q (by omega)) (fun q h1 h2 => by omega)
  have sz : H.size = b + 15 := sz
  refine putFZ (v := .ref (b + 8)) (ty := .object "RopeSeals$House") C inX3_X3_init tyX3 tyX3_ok nmX3 X (lD 1 rfl) hS (by show b ≤ b; omega) 0 rfl rfl 1 (by decide) (hts _ (List.mem_of_getElem? (i := 8) rfl)) rfl hinit rfl (by decide +kernel) rfl rfl (Nat.le_of_ble_eq_true rfl) dX3_init_23 (fun H locs X z oq hS => ?_)
  have sz := z.trans sz
  have X : va_P G.1 vwCl [(b, .inr (3, [.ref (b + 1), .ref (b + 8), .null, .int 0, .null, .null]))] H := X
  have V1 := V1.keep (A := fun q => q = b) (fun q _ h2 => oq q h2) (fun q h1 h2 z => by omega)
  have V2 := V2.keep (A := fun q => q = b) (fun q _ h2 => oq q h2) (fun q h1 h2 z => by omega)
  refine lv_aload_n hx hbb dX3_init_26 rfl (lv_at hl 0 rfl) ?_
  have sz3 := sz
  have X3 := X
  refine newO (h := b + 15) (ci := 1) (fs := [.null, .null, .null, .null, .null, .null, .int 0, .int 0, .int 0, .int 0, .int 0]) C inX1_X3_init tyX1 tyX1_ok (hts _ (List.mem_of_getElem? (i := 4) rfl)) (hts _ (List.mem_of_getElem? (i := 5) rfl)) (hts _ (List.mem_of_getElem? (i := 6) rfl)) sz hS rfl (fun j hj => by rcases (show j = 0 ∨ j = 1 ∨ j = 2 ∨ j = 3 ∨ j = 4 ∨ j = 5 ∨ j = 6 ∨ j = 7 ∨ j = 8 ∨ j = 9 ∨ j = 10 by omega) with rfl | rfl | rfl | rfl | rfl | rfl | rfl | rfl | rfl | rfl | rfl <;> rfl) (Nat.le_of_ble_eq_true rfl) (Nat.le_of_ble_eq_true rfl) dX3_init_27 (fun H Z sz o3 hS => ?_)
  refine lv_dup hx hbb dX3_init_30 rfl ?_
  refine rowN (va_runIN (As := []) (rest := [.ref (b + 15), .ref b]) C.1 (kX1_init l G (b + 15)) ⟨va_cnB 0 hts gX3_init_X1_init_n9 rfl rfl rfl hnw.2.1 (hts _ (List.mem_of_getElem? (i := 6) rfl)) (by decide +kernel) ⟨Nat.le_of_ble_eq_true rfl, Nat.le_of_ble_eq_true rfl⟩, rfl, (hts _ (List.mem_of_getElem? (i := 19) rfl))⟩ ⟨preN_blind, fun U hU hW => ⟨rfl, ⟨by rw [hU]; exact Z, by rw [hU]; exact sz⟩, gK.moved hW.alike hK⟩⟩ rfl rfl hl.1 rfl (lv_room (Nat.le_of_ble_eq_true rfl)) dX3_init_31 ⟨Nat.le_of_ble_eq_true rfl, Nat.le_of_ble_eq_true rfl⟩) hS (fun q z => by have z : b + 15 ≤ q := z; show b ≤ q; omega) (fun H locs V3 sz f3 hS => ?_)
  have fr3 : ∀ q : Nat, q < b + 15 → H[q]? = _ := fun q h1 => (f3 q (by omega) (by omega)).trans (o3 q h1)
  have X : va_P G.1 vwCl [(b, .inr (3, [.ref (b + 1), .ref (b + 8), .null, .int 0, .null, .null]))] H := va_P.kept X3 (fun k y hy => fr3 y.1 (by have := (X3 k y hy).lt; omega))
  have V1 := V1.keep (A := fun q => b + 15 ≤ q) (fun q h1 h2 => fr3 q (by omega)) (fun q h1 h2 => by omega)
  have V2 := V2.keep (A := fun q => b + 15 ≤ q) (fun q h1 h2 => fr3 q (by omega)) (fun q h1 h2 => by omega)
  have sz : H.size = b + 22 := sz
  refine putFZ (v := .ref (b + 15)) (ty := .object "RopeSeals$House") C inX3_X3_init tyX3 tyX3_ok nmX3 X (lD 1 rfl) hS (by show b ≤ b; omega) 0 rfl rfl 2 (by decide) (hts _ (List.mem_of_getElem? (i := 9) rfl)) rfl hinit rfl (by decide +kernel) rfl rfl (Nat.le_of_ble_eq_true rfl) dX3_init_34 (fun H locs X z oq hS => ?_)
  have sz := z.trans sz
  have X : va_P G.1 vwCl [(b, .inr (3, [.ref (b + 1), .ref (b + 8), .ref (b + 15), .int 0, .null, .null]))] H := X
  have V1 := V1.keep (A := fun q => q = b) (fun q _ h2 => oq q h2) (fun q h1 h2 z => by omega)
  have V2 := V2.keep (A := fun q => q = b) (fun q _ h2 => oq q h2) (fun q h1 h2 z => by omega)
  have V3 := V3.keep (A := fun q => q = b) (fun q _ h2 => oq q h2) (fun q h1 h2 z => by omega)
  refine lv_aload_n hx hbb dX3_init_37 rfl (lv_at hl 0 rfl) ?_
  refine lv_iconst (v := 0) hx hbb dX3_init_38 (by decide) ?_
  refine putZ (v := .int 0) (ty := .boolean) C inX3_X3_init tyX3 tyX3_ok nmX3 X (lD 1 rfl) hS (by show b ≤ b; omega) 0 rfl rfl 3 (by decide) (hts _ (List.mem_of_getElem? (i := 10) rfl)) rfl (by decide +kernel) rfl (by decide) (Nat.le_of_ble_eq_true rfl) dX3_init_39 (fun H locs X z oq hS => ?_)
  have sz := z.trans sz
  have X : va_P G.1 vwCl [(b, .inr (3, [.ref (b + 1), .ref (b + 8), .ref (b + 15), .int 0, .null, .null]))] H := X
  have V1 := V1.keep (A := fun q => q = b) (fun q _ h2 => oq q h2) (fun q h1 h2 z => by omega)
  have V2 := V2.keep (A := fun q => q = b) (fun q _ h2 => oq q h2) (fun q h1 h2 z => by omega)
  have V3 := V3.keep (A := fun q => q = b) (fun q _ h2 => oq q h2) (fun q h1 h2 z => by omega)
  refine lv_aload_n hx hbb dX3_init_42 rfl (lv_at hl 0 rfl) ?_
  have sz4 := sz
  have X4 := X
  refine newO (h := b + 22) (ci := 0) (fs := [.null, .int 0]) C inX0_X3_init tyX0 tyX0_ok (hts _ (List.mem_of_getElem? (i := 11) rfl)) (hts _ (List.mem_of_getElem? (i := 12) rfl)) (hts _ (List.mem_of_getElem? (i := 13) rfl)) sz hS rfl (fun j hj => by rcases (show j = 0 ∨ j = 1 by omega) with rfl | rfl <;> rfl) (Nat.le_of_ble_eq_true rfl) (Nat.le_of_ble_eq_true rfl) dX3_init_43 (fun H Z sz o4 hS => ?_)
  refine lv_dup hx hbb dX3_init_46 rfl ?_
  refine rowN (va_runI (As := []) (rest := [.ref (b + 22), .ref b]) C.1 (kX0_init l G (b + 22)) (cwI 0 hts gX3_init_X0_init rfl rfl rfl (hts _ (List.mem_of_getElem? (i := 13) rfl)) (hts _ (List.mem_of_getElem? (i := 34) rfl)) (hts _ (List.mem_of_getElem? (i := 35) rfl)) rfl (by decide +kernel) ⟨Nat.le_of_ble_eq_true rfl, Nat.le_of_ble_eq_true rfl⟩) ⟨preN2_blind, fun U hU hW => ⟨rfl, ⟨by rw [hU]; exact Z, by rw [hU]; exact sz⟩, gK.moved hW.alike hK, hnw.warm hW⟩⟩ rfl rfl hl.1 rfl (lv_room (Nat.le_of_ble_eq_true rfl)) dX3_init_47 ⟨Nat.le_of_ble_eq_true rfl, Nat.le_of_ble_eq_true rfl⟩) hS (fun q z => by have z : b + 22 ≤ q := z; show b ≤ q; omega) (fun H locs V4 sz f4 hS => ?_)
  have fr4 : ∀ q : Nat, q < b + 22 → H[q]? = _ := fun q h1 => (f4 q (by omega) (by omega)).trans (o4 q h1)
  have X : va_P G.1 vwCl [(b, .inr (3, [.ref (b + 1), .ref (b + 8), .ref (b + 15), .int 0, .null, .null]))] H := va_P.kept X4 (fun k y hy => fr4 y.1 (by have := (X4 k y hy).lt; omega))
  have V1 := V1.keep (A := fun q => b + 22 ≤ q) (fun q h1 h2 => fr4 q (by omega)) (fun q h1 h2 => by omega)
  have V2 := V2.keep (A := fun q => b + 22 ≤ q) (fun q h1 h2 => fr4 q (by omega)) (fun q h1 h2 => by omega)
  have V3 := V3.keep (A := fun q => b + 22 ≤ q) (fun q h1 h2 => fr4 q (by omega)) (fun q h1 h2 => by omega)
  have sz : H.size = b + 52 := sz
  refine putFZ (v := .ref (b + 22)) (ty := .object "RopeSeals$History") C inX3_X3_init tyX3 tyX3_ok nmX3 X (lD 1 rfl) hS (by show b ≤ b; omega) 0 rfl rfl 4 (by decide) (hts _ (List.mem_of_getElem? (i := 14) rfl)) rfl hinit rfl (by decide +kernel) rfl rfl (Nat.le_of_ble_eq_true rfl) dX3_init_50 (fun H locs X z oq hS => ?_)
  have sz := z.trans sz
  have X : va_P G.1 vwCl [(b, .inr (3, [.ref (b + 1), .ref (b + 8), .ref (b + 15), .int 0, .ref (b + 22), .null]))] H := X
  have V1 := V1.keep (A := fun q => q = b) (fun q _ h2 => oq q h2) (fun q h1 h2 z => by omega)
  have V2 := V2.keep (A := fun q => q = b) (fun q _ h2 => oq q h2) (fun q h1 h2 z => by omega)
  have V3 := V3.keep (A := fun q => q = b) (fun q _ h2 => oq q h2) (fun q h1 h2 z => by omega)
  have V4 := V4.keep (A := fun q => q = b) (fun q _ h2 => oq q h2) (fun q h1 h2 z => by omega)
  refine lv_aload_n hx hbb dX3_init_53 rfl (lv_at hl 0 rfl) ?_
  have sz5 := sz
  have X5 := X
  refine newO (h := b + 52) (ci := 2) (fs := [.null, .int 0, .int 0, .int 0, .int 0, .int 0, .int 0]) C inX2_X3_init tyX2 tyX2_ok (hts _ (List.mem_of_getElem? (i := 15) rfl)) (hts _ (List.mem_of_getElem? (i := 16) rfl)) (hts _ (List.mem_of_getElem? (i := 17) rfl)) sz hS rfl (fun j hj => by rcases (show j = 0 ∨ j = 1 ∨ j = 2 ∨ j = 3 ∨ j = 4 ∨ j = 5 ∨ j = 6 by omega) with rfl | rfl | rfl | rfl | rfl | rfl | rfl <;> rfl) (Nat.le_of_ble_eq_true rfl) (Nat.le_of_ble_eq_true rfl) dX3_init_54 (fun H Z sz o5 hS => ?_)
  refine lv_dup hx hbb dX3_init_57 rfl ?_
  refine rowN (va_runIN (As := []) (rest := [.ref (b + 52), .ref b]) C.1 (kX2_init l G (b + 52)) ⟨va_cnB 0 hts gX3_init_X2_init_n35 rfl rfl rfl hnw.2.2.1 (hts _ (List.mem_of_getElem? (i := 17) rfl)) (by decide +kernel) ⟨Nat.le_of_ble_eq_true rfl, Nat.le_of_ble_eq_true rfl⟩, rfl, (hts _ (List.mem_of_getElem? (i := 41) rfl))⟩ ⟨preN_blind, fun U hU hW => ⟨rfl, ⟨by rw [hU]; exact Z, by rw [hU]; exact sz⟩, gK.moved hW.alike hK⟩⟩ rfl rfl hl.1 rfl (lv_room (Nat.le_of_ble_eq_true rfl)) dX3_init_58 ⟨Nat.le_of_ble_eq_true rfl, Nat.le_of_ble_eq_true rfl⟩) hS (fun q z => by have z : b + 52 ≤ q := z; show b ≤ q; omega) (fun H locs V5 sz f5 hS => ?_)
  have fr5 : ∀ q : Nat, q < b + 52 → H[q]? = _ := fun q h1 => (f5 q (by omega) (by omega)).trans (o5 q h1)
  have X : va_P G.1 vwCl [(b, .inr (3, [.ref (b + 1), .ref (b + 8), .ref (b + 15), .int 0, .ref (b + 22), .null]))] H := va_P.kept X5 (fun k y hy => fr5 y.1 (by have := (X5 k y hy).lt; omega))
  have V1 := V1.keep (A := fun q => b + 52 ≤ q) (fun q h1 h2 => fr5 q (by omega)) (fun q h1 h2 => by omega)
  have V2 := V2.keep (A := fun q => b + 52 ≤ q) (fun q h1 h2 => fr5 q (by omega)) (fun q h1 h2 => by omega)
  have V3 := V3.keep (A := fun q => b + 52 ≤ q) (fun q h1 h2 => fr5 q (by omega)) (fun q h1 h2 => by omega)
  have V4 := V4.keep (A := fun q => b + 52 ≤ q) (fun q h1 h2 => fr5 q (by omega)) (fun q h1 h2 => by omega)
  have sz : H.size = b + 54 := sz
  refine putFZ (v := .ref (b + 52)) (ty := .object "RopeSeals$OrderText") C inX3_X3_init tyX3 tyX3_ok nmX3 X (lD 1 rfl) hS (by show b ≤ b; omega) 0 rfl rfl 5 (by decide) (hts _ (List.mem_of_getElem? (i := 18) rfl)) rfl hinit rfl (by decide +kernel) rfl rfl (Nat.le_of_ble_eq_true rfl) dX3_init_61 (fun H locs X z oq hS => ?_)
  have sz := z.trans sz
  have X : va_P G.1 vwCl [(b, .inr (3, [.ref (b + 1), .ref (b + 8), .ref (b + 15), .int 0, .ref (b + 22), .ref (b + 52)]))] H := X
  have V1 := V1.keep (A := fun q => q = b) (fun q _ h2 => oq q h2) (fun q h1 h2 z => by omega)
  have V2 := V2.keep (A := fun q => q = b) (fun q _ h2 => oq q h2) (fun q h1 h2 z => by omega)
  have V3 := V3.keep (A := fun q => q = b) (fun q _ h2 => oq q h2) (fun q h1 h2 z => by omega)
  have V4 := V4.keep (A := fun q => q = b) (fun q _ h2 => oq q h2) (fun q h1 h2 z => by omega)
  have V5 := V5.keep (A := fun q => q = b) (fun q _ h2 => oq q h2) (fun q h1 h2 z => by omega)
  refine W.widen (k := 53) (n := 1025) (by decide) (by decide) ?_
  exact W.vret hx hbb hr (fun t ht _ => ⟨rfl, by rw [ht]; exact ⟨X, V1, V2, V3, V4, V5⟩, by rw [ht]; exact sz, hS.F ht⟩) hS.2.2 dX3_init_64
