def h0 : St := fun k => if k = 0 then (upd (upd (upd (upd (upd (fun _ => 0) 0 31) 1 17) 2 97) 3 10) 4 5) else fun _ => 0
def t0 : St := fun k => if k = 3 then (fun _ => 32) else if k = 4 then (fun _ => (-1)) else fun _ => 0
def m0 : St := fun k => if k = 1 then (upd (upd (upd (upd (upd (fun _ => 0) 0 31) 1 17) 2 97) 3 10) 4 5) else fun _ => 0

theorem in_X1_init : ∀ w ∈ wsX10, w ∈ wsX1_init := by decide +kernel
set_option maxHeartbeats 4000000 in
set_option maxRecDepth 100000 in
theorem kX1_init (l : Launch) (G : Gx) (b : Nat) : Met l yX1_init wsX1_init { frames := 1, cells := 6, slots := 125, locals := 40 } (preN G [.ref b] b 1 [.null, .null, .null, .null, .null, .null, .int 0, .int 0, .int 0, .int 0, .int 0]) (QcN b 7 (hAt G b h0)) 6 125 (fun q => b ≤ q) := by
  refine Met.ofW (cc := cX1_init) (maxL := 1) (ret := none) (by decide) rfl ?_
  intro p e s m args below meth c s₁ B hml hv
  obtain ⟨rfl, ⟨X, sz⟩, hK⟩ := hv
  have hx := B.exec
  have hbb := B.bytes
  have hr := B.returns
  have hts := atoms_spec (ws := wsX1_init) B.pre
  have hown : s.vm.findClass RX1 = some m.cls := findClass_of_methodNamed B.named
  have hlocks := B.notSynchronized
  have hinit : meth.name = "<init>" := (name_of_methodNamed B.named B.method).1
  have C : Cx p m c cX1_init 1 s _ wsX1_init RX1 G := ⟨⟨hx, hbb, hml, hown, hts⟩, hK⟩
  have hin := in_X1_init
  have hS : va_S (fun q => b ≤ q) s.heap s.heap [] := va_S.rf
  have hl := lv_entry ([.ref b]) (n := 1) (Nat.le_of_ble_eq_true rfl)
  rw [lg_entry_eq]
  generalize (lg_sl ([.ref b]) ++ List.replicate (1 - (lg_sl ([.ref b])).length) Slot.unset).toArray = ls at hl ⊢
  have hl : lv_has ls 1 [(0, .ref b)] := hl
  refine lv_aload_n hx hbb dX1_init_0 rfl (lv_at hl 0 rfl) ?_
  refine W.objInit hx hbb hown (hts _ (List.mem_of_getElem? (i := 1) rfl)) (hts _ (List.mem_of_getElem? (i := 2) rfl)) (hts _ (List.mem_of_getElem? (i := 3) rfl)) rfl (by rw [hml]; exact hl.1) rfl dX1_init_1 (Nat.le_of_ble_eq_true rfl) (Nat.le_of_ble_eq_true rfl) ?_
  refine W.eq (g2 := F0 m 4 ls []) rfl ?_
  refine lv_aload_n hx hbb dX1_init_4 rfl (lv_at hl 0 rfl) ?_
  refine lv_iconst (v := 5) hx hbb dX1_init_5 (by decide) ?_
  refine newI (h := b + 1) (N := 5) C (hts _ (List.mem_of_getElem? (i := 4) rfl)) X sz hS (by decide) (by decide) (by decide) (Nat.le_of_ble_eq_true rfl) (Nat.le_of_ble_eq_true rfl) dX1_init_6 (fun H X sz _ hS => ?_)
  have X : va_P G.1 vwCl [(b, .inr (1, [.null, .null, .null, .null, .null, .null, .int 0, .int 0, .int 0, .int 0, .int 0])), (b + 1, .inl (G.2 0, 5, .inl (fun _ => 0)))] H := X
  refine lv_dup hx hbb dX1_init_8 rfl ?_
  refine lv_iconst (v := 0) hx hbb dX1_init_9 (by decide) ?_
  refine lv_bipush (v := 31) hx hbb dX1_init_10 (by decide) ?_
  refine iastZ (j := 0) C X (lD 2 rfl) hS (by show b ≤ b + 1; omega) 1 rfl (by decide) (by decide) dX1_init_12 (fun H locs X z _ hS => ?_)
  have sz := z.trans sz
  have X : va_P G.1 vwCl [(b, .inr (1, [.null, .null, .null, .null, .null, .null, .int 0, .int 0, .int 0, .int 0, .int 0])), (b + 1, .inl (G.2 0, 5, .inl (upd (fun _ => 0) 0 31)))] H := X
  refine lv_dup hx hbb dX1_init_13 rfl ?_
  refine lv_iconst (v := 1) hx hbb dX1_init_14 (by decide) ?_
  refine lv_bipush (v := 17) hx hbb dX1_init_15 (by decide) ?_
  refine iastZ (j := 1) C X (lD 2 rfl) hS (by show b ≤ b + 1; omega) 1 rfl (by decide) (by decide) dX1_init_17 (fun H locs X z _ hS => ?_)
  have sz := z.trans sz
  have X : va_P G.1 vwCl [(b, .inr (1, [.null, .null, .null, .null, .null, .null, .int 0, .int 0, .int 0, .int 0, .int 0])), (b + 1, .inl (G.2 0, 5, .inl (upd (upd (fun _ => 0) 0 31) 1 17)))] H := X
  refine lv_dup hx hbb dX1_init_18 rfl ?_
  refine lv_iconst (v := 2) hx hbb dX1_init_19 (by decide) ?_
  refine lv_bipush (v := 97) hx hbb dX1_init_20 (by decide) ?_
  refine iastZ (j := 2) C X (lD 2 rfl) hS (by show b ≤ b + 1; omega) 1 rfl (by decide) (by decide) dX1_init_22 (fun H locs X z _ hS => ?_)
  have sz := z.trans sz
  have X : va_P G.1 vwCl [(b, .inr (1, [.null, .null, .null, .null, .null, .null, .int 0, .int 0, .int 0, .int 0, .int 0])), (b + 1, .inl (G.2 0, 5, .inl (upd (upd (upd (fun _ => 0) 0 31) 1 17) 2 97)))] H := X
  refine lv_dup hx hbb dX1_init_23 rfl ?_
  refine lv_iconst (v := 3) hx hbb dX1_init_24 (by decide) ?_
  refine lv_bipush (v := 10) hx hbb dX1_init_25 (by decide) ?_
  refine iastZ (j := 3) C X (lD 2 rfl) hS (by show b ≤ b + 1; omega) 1 rfl (by decide) (by decide) dX1_init_27 (fun H locs X z _ hS => ?_)
  have sz := z.trans sz
  have X : va_P G.1 vwCl [(b, .inr (1, [.null, .null, .null, .null, .null, .null, .int 0, .int 0, .int 0, .int 0, .int 0])), (b + 1, .inl (G.2 0, 5, .inl (upd (upd (upd (upd (fun _ => 0) 0 31) 1 17) 2 97) 3 10)))] H := X
  refine lv_dup hx hbb dX1_init_28 rfl ?_
  refine lv_iconst (v := 4) hx hbb dX1_init_29 (by decide) ?_
  refine lv_iconst (v := 5) hx hbb dX1_init_30 (by decide) ?_
  refine iastZ (j := 4) C X (lD 2 rfl) hS (by show b ≤ b + 1; omega) 1 rfl (by decide) (by decide) dX1_init_31 (fun H locs X z _ hS => ?_)
  have sz := z.trans sz
  have X : va_P G.1 vwCl [(b, .inr (1, [.null, .null, .null, .null, .null, .null, .int 0, .int 0, .int 0, .int 0, .int 0])), (b + 1, .inl (G.2 0, 5, .inl (upd (upd (upd (upd (upd (fun _ => 0) 0 31) 1 17) 2 97) 3 10) 4 5)))] H := X
  refine putFZ (v := .ref (b + 1)) (ty := .array .int) C hin tyX1 tyX1_ok nmX1 X (lD 2 rfl) hS (by show b ≤ b; omega) 0 rfl rfl 0 (by decide) (hts _ (List.mem_of_getElem? (i := 5) rfl)) rfl hinit rfl (by decide +kernel) rfl rfl (Nat.le_of_ble_eq_true rfl) dX1_init_32 (fun H locs X z _ hS => ?_)
  have sz := z.trans sz
  have X : va_P G.1 vwCl [(b, .inr (1, [.ref (b + 1), .null, .null, .null, .null, .null, .int 0, .int 0, .int 0, .int 0, .int 0])), (b + 1, .inl (G.2 0, 5, .inl (upd (upd (upd (upd (upd (fun _ => 0) 0 31) 1 17) 2 97) 3 10) 4 5)))] H := X
  refine lv_aload_n hx hbb dX1_init_35 rfl (lv_at hl 0 rfl) ?_
  refine lv_bipush (v := 24) hx hbb dX1_init_36 (by decide) ?_
  refine newI (h := b + 2) (N := 24) C (hts _ (List.mem_of_getElem? (i := 4) rfl)) X sz hS (by decide) (by decide) (by decide) (Nat.le_of_ble_eq_true rfl) (Nat.le_of_ble_eq_true rfl) dX1_init_38 (fun H X sz _ hS => ?_)
  have X : va_P G.1 vwCl [(b, .inr (1, [.ref (b + 1), .null, .null, .null, .null, .null, .int 0, .int 0, .int 0, .int 0, .int 0])), (b + 1, .inl (G.2 0, 5, .inl (upd (upd (upd (upd (upd (fun _ => 0) 0 31) 1 17) 2 97) 3 10) 4 5))), (b + 2, .inl (G.2 0, 24, .inl (fun _ => 0)))] H := X
  refine putFZ (v := .ref (b + 2)) (ty := .array .int) C hin tyX1 tyX1_ok nmX1 X (lD 3 rfl) hS (by show b ≤ b; omega) 0 rfl rfl 1 (by decide) (hts _ (List.mem_of_getElem? (i := 6) rfl)) rfl hinit rfl (by decide +kernel) rfl rfl (Nat.le_of_ble_eq_true rfl) dX1_init_40 (fun H locs X z _ hS => ?_)
  have sz := z.trans sz
  have X : va_P G.1 vwCl [(b, .inr (1, [.ref (b + 1), .ref (b + 2), .null, .null, .null, .null, .int 0, .int 0, .int 0, .int 0, .int 0])), (b + 1, .inl (G.2 0, 5, .inl (upd (upd (upd (upd (upd (fun _ => 0) 0 31) 1 17) 2 97) 3 10) 4 5))), (b + 2, .inl (G.2 0, 24, .inl (fun _ => 0)))] H := X
  refine lv_aload_n hx hbb dX1_init_43 rfl (lv_at hl 0 rfl) ?_
  refine lv_bipush (v := 24) hx hbb dX1_init_44 (by decide) ?_
  refine newI (h := b + 3) (N := 24) C (hts _ (List.mem_of_getElem? (i := 4) rfl)) X sz hS (by decide) (by decide) (by decide) (Nat.le_of_ble_eq_true rfl) (Nat.le_of_ble_eq_true rfl) dX1_init_46 (fun H X sz _ hS => ?_)
  have X : va_P G.1 vwCl [(b, .inr (1, [.ref (b + 1), .ref (b + 2), .null, .null, .null, .null, .int 0, .int 0, .int 0, .int 0, .int 0])), (b + 1, .inl (G.2 0, 5, .inl (upd (upd (upd (upd (upd (fun _ => 0) 0 31) 1 17) 2 97) 3 10) 4 5))), (b + 2, .inl (G.2 0, 24, .inl (fun _ => 0))), (b + 3, .inl (G.2 0, 24, .inl (fun _ => 0)))] H := X
  refine putFZ (v := .ref (b + 3)) (ty := .array .int) C hin tyX1 tyX1_ok nmX1 X (lD 4 rfl) hS (by show b ≤ b; omega) 0 rfl rfl 2 (by decide) (hts _ (List.mem_of_getElem? (i := 7) rfl)) rfl hinit rfl (by decide +kernel) rfl rfl (Nat.le_of_ble_eq_true rfl) dX1_init_48 (fun H locs X z _ hS => ?_)
  have sz := z.trans sz
  have X : va_P G.1 vwCl [(b, .inr (1, [.ref (b + 1), .ref (b + 2), .ref (b + 3), .null, .null, .null, .int 0, .int 0, .int 0, .int 0, .int 0])), (b + 1, .inl (G.2 0, 5, .inl (upd (upd (upd (upd (upd (fun _ => 0) 0 31) 1 17) 2 97) 3 10) 4 5))), (b + 2, .inl (G.2 0, 24, .inl (fun _ => 0))), (b + 3, .inl (G.2 0, 24, .inl (fun _ => 0)))] H := X
  refine lv_aload_n hx hbb dX1_init_51 rfl (lv_at hl 0 rfl) ?_
  refine lv_bipush (v := 24) hx hbb dX1_init_52 (by decide) ?_
  refine newI (h := b + 4) (N := 24) C (hts _ (List.mem_of_getElem? (i := 4) rfl)) X sz hS (by decide) (by decide) (by decide) (Nat.le_of_ble_eq_true rfl) (Nat.le_of_ble_eq_true rfl) dX1_init_54 (fun H X sz _ hS => ?_)
  have X : va_P G.1 vwCl [(b, .inr (1, [.ref (b + 1), .ref (b + 2), .ref (b + 3), .null, .null, .null, .int 0, .int 0, .int 0, .int 0, .int 0])), (b + 1, .inl (G.2 0, 5, .inl (upd (upd (upd (upd (upd (fun _ => 0) 0 31) 1 17) 2 97) 3 10) 4 5))), (b + 2, .inl (G.2 0, 24, .inl (fun _ => 0))), (b + 3, .inl (G.2 0, 24, .inl (fun _ => 0))), (b + 4, .inl (G.2 0, 24, .inl (fun _ => 0)))] H := X
  refine putFZ (v := .ref (b + 4)) (ty := .array .int) C hin tyX1 tyX1_ok nmX1 X (lD 5 rfl) hS (by show b ≤ b; omega) 0 rfl rfl 3 (by decide) (hts _ (List.mem_of_getElem? (i := 8) rfl)) rfl hinit rfl (by decide +kernel) rfl rfl (Nat.le_of_ble_eq_true rfl) dX1_init_56 (fun H locs X z _ hS => ?_)
  have sz := z.trans sz
  have X : va_P G.1 vwCl [(b, .inr (1, [.ref (b + 1), .ref (b + 2), .ref (b + 3), .ref (b + 4), .null, .null, .int 0, .int 0, .int 0, .int 0, .int 0])), (b + 1, .inl (G.2 0, 5, .inl (upd (upd (upd (upd (upd (fun _ => 0) 0 31) 1 17) 2 97) 3 10) 4 5))), (b + 2, .inl (G.2 0, 24, .inl (fun _ => 0))), (b + 3, .inl (G.2 0, 24, .inl (fun _ => 0))), (b + 4, .inl (G.2 0, 24, .inl (fun _ => 0)))] H := X
  refine lv_aload_n hx hbb dX1_init_59 rfl (lv_at hl 0 rfl) ?_
  refine lv_bipush (v := 24) hx hbb dX1_init_60 (by decide) ?_
  refine newI (h := b + 5) (N := 24) C (hts _ (List.mem_of_getElem? (i := 4) rfl)) X sz hS (by decide) (by decide) (by decide) (Nat.le_of_ble_eq_true rfl) (Nat.le_of_ble_eq_true rfl) dX1_init_62 (fun H X sz _ hS => ?_)
  have X : va_P G.1 vwCl [(b, .inr (1, [.ref (b + 1), .ref (b + 2), .ref (b + 3), .ref (b + 4), .null, .null, .int 0, .int 0, .int 0, .int 0, .int 0])), (b + 1, .inl (G.2 0, 5, .inl (upd (upd (upd (upd (upd (fun _ => 0) 0 31) 1 17) 2 97) 3 10) 4 5))), (b + 2, .inl (G.2 0, 24, .inl (fun _ => 0))), (b + 3, .inl (G.2 0, 24, .inl (fun _ => 0))), (b + 4, .inl (G.2 0, 24, .inl (fun _ => 0))), (b + 5, .inl (G.2 0, 24, .inl (fun _ => 0)))] H := X
  refine putFZ (v := .ref (b + 5)) (ty := .array .int) C hin tyX1 tyX1_ok nmX1 X (lD 6 rfl) hS (by show b ≤ b; omega) 0 rfl rfl 4 (by decide) (hts _ (List.mem_of_getElem? (i := 9) rfl)) rfl hinit rfl (by decide +kernel) rfl rfl (Nat.le_of_ble_eq_true rfl) dX1_init_64 (fun H locs X z _ hS => ?_)
  have sz := z.trans sz
  have X : va_P G.1 vwCl [(b, .inr (1, [.ref (b + 1), .ref (b + 2), .ref (b + 3), .ref (b + 4), .ref (b + 5), .null, .int 0, .int 0, .int 0, .int 0, .int 0])), (b + 1, .inl (G.2 0, 5, .inl (upd (upd (upd (upd (upd (fun _ => 0) 0 31) 1 17) 2 97) 3 10) 4 5))), (b + 2, .inl (G.2 0, 24, .inl (fun _ => 0))), (b + 3, .inl (G.2 0, 24, .inl (fun _ => 0))), (b + 4, .inl (G.2 0, 24, .inl (fun _ => 0))), (b + 5, .inl (G.2 0, 24, .inl (fun _ => 0)))] H := X
  refine lv_aload_n hx hbb dX1_init_67 rfl (lv_at hl 0 rfl) ?_
  refine lv_bipush (v := 24) hx hbb dX1_init_68 (by decide) ?_
  refine newI (h := b + 6) (N := 24) C (hts _ (List.mem_of_getElem? (i := 4) rfl)) X sz hS (by decide) (by decide) (by decide) (Nat.le_of_ble_eq_true rfl) (Nat.le_of_ble_eq_true rfl) dX1_init_70 (fun H X sz _ hS => ?_)
  have X : va_P G.1 vwCl [(b, .inr (1, [.ref (b + 1), .ref (b + 2), .ref (b + 3), .ref (b + 4), .ref (b + 5), .null, .int 0, .int 0, .int 0, .int 0, .int 0])), (b + 1, .inl (G.2 0, 5, .inl (upd (upd (upd (upd (upd (fun _ => 0) 0 31) 1 17) 2 97) 3 10) 4 5))), (b + 2, .inl (G.2 0, 24, .inl (fun _ => 0))), (b + 3, .inl (G.2 0, 24, .inl (fun _ => 0))), (b + 4, .inl (G.2 0, 24, .inl (fun _ => 0))), (b + 5, .inl (G.2 0, 24, .inl (fun _ => 0))), (b + 6, .inl (G.2 0, 24, .inl (fun _ => 0)))] H := X
  refine putFZ (v := .ref (b + 6)) (ty := .array .int) C hin tyX1 tyX1_ok nmX1 X (lD 7 rfl) hS (by show b ≤ b; omega) 0 rfl rfl 5 (by decide) (hts _ (List.mem_of_getElem? (i := 10) rfl)) rfl hinit rfl (by decide +kernel) rfl rfl (Nat.le_of_ble_eq_true rfl) dX1_init_72 (fun H locs X z _ hS => ?_)
  have sz := z.trans sz
  have X : va_P G.1 vwCl [(b, .inr (1, [.ref (b + 1), .ref (b + 2), .ref (b + 3), .ref (b + 4), .ref (b + 5), .ref (b + 6), .int 0, .int 0, .int 0, .int 0, .int 0])), (b + 1, .inl (G.2 0, 5, .inl (upd (upd (upd (upd (upd (fun _ => 0) 0 31) 1 17) 2 97) 3 10) 4 5))), (b + 2, .inl (G.2 0, 24, .inl (fun _ => 0))), (b + 3, .inl (G.2 0, 24, .inl (fun _ => 0))), (b + 4, .inl (G.2 0, 24, .inl (fun _ => 0))), (b + 5, .inl (G.2 0, 24, .inl (fun _ => 0))), (b + 6, .inl (G.2 0, 24, .inl (fun _ => 0)))] H := X
  refine lv_aload_n hx hbb dX1_init_75 rfl (lv_at hl 0 rfl) ?_
  refine lv_iconst (v := 0) hx hbb dX1_init_76 (by decide) ?_
  refine putZ (v := .int 0) (ty := .int) C hin tyX1 tyX1_ok nmX1 X (lD 7 rfl) hS (by show b ≤ b; omega) 0 rfl rfl 6 (by decide) (hts _ (List.mem_of_getElem? (i := 11) rfl)) rfl (by decide +kernel) rfl rfl (Nat.le_of_ble_eq_true rfl) dX1_init_77 (fun H locs X z _ hS => ?_)
  have sz := z.trans sz
  have X : va_P G.1 vwCl [(b, .inr (1, [.ref (b + 1), .ref (b + 2), .ref (b + 3), .ref (b + 4), .ref (b + 5), .ref (b + 6), .int 0, .int 0, .int 0, .int 0, .int 0])), (b + 1, .inl (G.2 0, 5, .inl (upd (upd (upd (upd (upd (fun _ => 0) 0 31) 1 17) 2 97) 3 10) 4 5))), (b + 2, .inl (G.2 0, 24, .inl (fun _ => 0))), (b + 3, .inl (G.2 0, 24, .inl (fun _ => 0))), (b + 4, .inl (G.2 0, 24, .inl (fun _ => 0))), (b + 5, .inl (G.2 0, 24, .inl (fun _ => 0))), (b + 6, .inl (G.2 0, 24, .inl (fun _ => 0)))] H := X
  refine lv_aload_n hx hbb dX1_init_80 rfl (lv_at hl 0 rfl) ?_
  refine lv_iconst (v := 0) hx hbb dX1_init_81 (by decide) ?_
  refine putZ (v := .int 0) (ty := .int) C hin tyX1 tyX1_ok nmX1 X (lD 7 rfl) hS (by show b ≤ b; omega) 0 rfl rfl 7 (by decide) (hts _ (List.mem_of_getElem? (i := 12) rfl)) rfl (by decide +kernel) rfl rfl (Nat.le_of_ble_eq_true rfl) dX1_init_82 (fun H locs X z _ hS => ?_)
  have sz := z.trans sz
  have X : va_P G.1 vwCl [(b, .inr (1, [.ref (b + 1), .ref (b + 2), .ref (b + 3), .ref (b + 4), .ref (b + 5), .ref (b + 6), .int 0, .int 0, .int 0, .int 0, .int 0])), (b + 1, .inl (G.2 0, 5, .inl (upd (upd (upd (upd (upd (fun _ => 0) 0 31) 1 17) 2 97) 3 10) 4 5))), (b + 2, .inl (G.2 0, 24, .inl (fun _ => 0))), (b + 3, .inl (G.2 0, 24, .inl (fun _ => 0))), (b + 4, .inl (G.2 0, 24, .inl (fun _ => 0))), (b + 5, .inl (G.2 0, 24, .inl (fun _ => 0))), (b + 6, .inl (G.2 0, 24, .inl (fun _ => 0)))] H := X
  refine lv_aload_n hx hbb dX1_init_85 rfl (lv_at hl 0 rfl) ?_
  refine lv_iconst (v := 0) hx hbb dX1_init_86 (by decide) ?_
  refine putZ (v := .int 0) (ty := .int) C hin tyX1 tyX1_ok nmX1 X (lD 7 rfl) hS (by show b ≤ b; omega) 0 rfl rfl 8 (by decide) (hts _ (List.mem_of_getElem? (i := 13) rfl)) rfl (by decide +kernel) rfl rfl (Nat.le_of_ble_eq_true rfl) dX1_init_87 (fun H locs X z _ hS => ?_)
  have sz := z.trans sz
  have X : va_P G.1 vwCl [(b, .inr (1, [.ref (b + 1), .ref (b + 2), .ref (b + 3), .ref (b + 4), .ref (b + 5), .ref (b + 6), .int 0, .int 0, .int 0, .int 0, .int 0])), (b + 1, .inl (G.2 0, 5, .inl (upd (upd (upd (upd (upd (fun _ => 0) 0 31) 1 17) 2 97) 3 10) 4 5))), (b + 2, .inl (G.2 0, 24, .inl (fun _ => 0))), (b + 3, .inl (G.2 0, 24, .inl (fun _ => 0))), (b + 4, .inl (G.2 0, 24, .inl (fun _ => 0))), (b + 5, .inl (G.2 0, 24, .inl (fun _ => 0))), (b + 6, .inl (G.2 0, 24, .inl (fun _ => 0)))] H := X
  refine lv_aload_n hx hbb dX1_init_90 rfl (lv_at hl 0 rfl) ?_
  refine lv_iconst (v := 0) hx hbb dX1_init_91 (by decide) ?_
  refine putZ (v := .int 0) (ty := .int) C hin tyX1 tyX1_ok nmX1 X (lD 7 rfl) hS (by show b ≤ b; omega) 0 rfl rfl 9 (by decide) (hts _ (List.mem_of_getElem? (i := 14) rfl)) rfl (by decide +kernel) rfl rfl (Nat.le_of_ble_eq_true rfl) dX1_init_92 (fun H locs X z _ hS => ?_)
  have sz := z.trans sz
  have X : va_P G.1 vwCl [(b, .inr (1, [.ref (b + 1), .ref (b + 2), .ref (b + 3), .ref (b + 4), .ref (b + 5), .ref (b + 6), .int 0, .int 0, .int 0, .int 0, .int 0])), (b + 1, .inl (G.2 0, 5, .inl (upd (upd (upd (upd (upd (fun _ => 0) 0 31) 1 17) 2 97) 3 10) 4 5))), (b + 2, .inl (G.2 0, 24, .inl (fun _ => 0))), (b + 3, .inl (G.2 0, 24, .inl (fun _ => 0))), (b + 4, .inl (G.2 0, 24, .inl (fun _ => 0))), (b + 5, .inl (G.2 0, 24, .inl (fun _ => 0))), (b + 6, .inl (G.2 0, 24, .inl (fun _ => 0)))] H := X
  refine lv_aload_n hx hbb dX1_init_95 rfl (lv_at hl 0 rfl) ?_
  refine lv_iconst (v := 0) hx hbb dX1_init_96 (by decide) ?_
  refine putZ (v := .int 0) (ty := .int) C hin tyX1 tyX1_ok nmX1 X (lD 7 rfl) hS (by show b ≤ b; omega) 0 rfl rfl 10 (by decide) (hts _ (List.mem_of_getElem? (i := 15) rfl)) rfl (by decide +kernel) rfl rfl (Nat.le_of_ble_eq_true rfl) dX1_init_97 (fun H locs X z _ hS => ?_)
  have sz := z.trans sz
  have X : va_P G.1 vwCl [(b, .inr (1, [.ref (b + 1), .ref (b + 2), .ref (b + 3), .ref (b + 4), .ref (b + 5), .ref (b + 6), .int 0, .int 0, .int 0, .int 0, .int 0])), (b + 1, .inl (G.2 0, 5, .inl (upd (upd (upd (upd (upd (fun _ => 0) 0 31) 1 17) 2 97) 3 10) 4 5))), (b + 2, .inl (G.2 0, 24, .inl (fun _ => 0))), (b + 3, .inl (G.2 0, 24, .inl (fun _ => 0))), (b + 4, .inl (G.2 0, 24, .inl (fun _ => 0))), (b + 5, .inl (G.2 0, 24, .inl (fun _ => 0))), (b + 6, .inl (G.2 0, 24, .inl (fun _ => 0)))] H := X
  refine W.widen (k := 6) (n := 125) (by decide) (by decide) ?_
  exact W.vret hx hbb hr (fun t ht _ => ⟨rfl, by rw [ht]; exact X, by rw [ht]; exact sz, hS.F ht⟩) hS.2.2 dX1_init_100

theorem in_X2_init : ∀ w ∈ wsX20, w ∈ wsX2_init := by decide +kernel
set_option maxHeartbeats 4000000 in
set_option maxRecDepth 100000 in
theorem kX2_init (l : Launch) (G : Gx) (b : Nat) : Met l yX2_init wsX2_init { frames := 1, cells := 1, slots := 60, locals := 40 } (preN G [.ref b] b 2 [.null, .int 0, .int 0, .int 0, .int 0, .int 0, .int 0]) (QcN b 2 (tAt G b t0)) 1 60 (fun q => b ≤ q) := by
  refine Met.ofW (cc := cX2_init) (maxL := 1) (ret := none) (by decide) rfl ?_
  intro p e s m args below meth c s₁ B hml hv
  obtain ⟨rfl, ⟨X, sz⟩, hK⟩ := hv
  have hx := B.exec
  have hbb := B.bytes
  have hr := B.returns
  have hts := atoms_spec (ws := wsX2_init) B.pre
  have hown : s.vm.findClass RX2 = some m.cls := findClass_of_methodNamed B.named
  have hlocks := B.notSynchronized
  have hinit : meth.name = "<init>" := (name_of_methodNamed B.named B.method).1
  have C : Cx p m c cX2_init 1 s _ wsX2_init RX2 G := ⟨⟨hx, hbb, hml, hown, hts⟩, hK⟩
  have hin := in_X2_init
  have hS : va_S (fun q => b ≤ q) s.heap s.heap [] := va_S.rf
  have hl := lv_entry ([.ref b]) (n := 1) (Nat.le_of_ble_eq_true rfl)
  rw [lg_entry_eq]
  generalize (lg_sl ([.ref b]) ++ List.replicate (1 - (lg_sl ([.ref b])).length) Slot.unset).toArray = ls at hl ⊢
  have hl : lv_has ls 1 [(0, .ref b)] := hl
  refine lv_aload_n hx hbb dX2_init_0 rfl (lv_at hl 0 rfl) ?_
  refine W.objInit hx hbb hown (hts _ (List.mem_of_getElem? (i := 1) rfl)) (hts _ (List.mem_of_getElem? (i := 2) rfl)) (hts _ (List.mem_of_getElem? (i := 3) rfl)) rfl (by rw [hml]; exact hl.1) rfl dX2_init_1 (Nat.le_of_ble_eq_true rfl) (Nat.le_of_ble_eq_true rfl) ?_
  refine W.eq (g2 := F0 m 4 ls []) rfl ?_
  refine lv_aload_n hx hbb dX2_init_4 rfl (lv_at hl 0 rfl) ?_
  refine lv_bipush (v := 60) hx hbb dX2_init_5 (by decide) ?_
  refine newC (h := b + 1) (N := 60) C (hts _ (List.mem_of_getElem? (i := 4) rfl)) X sz hS (by decide) (by decide) (by decide) (Nat.le_of_ble_eq_true rfl) (Nat.le_of_ble_eq_true rfl) dX2_init_7 (fun H X sz _ hS => ?_)
  have X : va_P G.1 vwCl [(b, .inr (2, [.null, .int 0, .int 0, .int 0, .int 0, .int 0, .int 0])), (b + 1, .inl (G.2 1, 60, .inl (fun _ => 0)))] H := X
  refine putFZ (v := .ref (b + 1)) (ty := .array .char) C hin tyX2 tyX2_ok nmX2 X (lD 2 rfl) hS (by show b ≤ b; omega) 0 rfl rfl 0 (by decide) (hts _ (List.mem_of_getElem? (i := 5) rfl)) rfl hinit rfl (by decide +kernel) rfl rfl (Nat.le_of_ble_eq_true rfl) dX2_init_9 (fun H locs X z _ hS => ?_)
  have sz := z.trans sz
  have X : va_P G.1 vwCl [(b, .inr (2, [.ref (b + 1), .int 0, .int 0, .int 0, .int 0, .int 0, .int 0])), (b + 1, .inl (G.2 1, 60, .inl (fun _ => 0)))] H := X
  refine lv_aload_n hx hbb dX2_init_12 rfl (lv_at hl 0 rfl) ?_
  refine lv_iconst (v := 0) hx hbb dX2_init_13 (by decide) ?_
  refine putZ (v := .int 0) (ty := .int) C hin tyX2 tyX2_ok nmX2 X (lD 2 rfl) hS (by show b ≤ b; omega) 0 rfl rfl 1 (by decide) (hts _ (List.mem_of_getElem? (i := 6) rfl)) rfl (by decide +kernel) rfl rfl (Nat.le_of_ble_eq_true rfl) dX2_init_14 (fun H locs X z _ hS => ?_)
  have sz := z.trans sz
  have X : va_P G.1 vwCl [(b, .inr (2, [.ref (b + 1), .int 0, .int 0, .int 0, .int 0, .int 0, .int 0])), (b + 1, .inl (G.2 1, 60, .inl (fun _ => 0)))] H := X
  refine lv_aload_n hx hbb dX2_init_17 rfl (lv_at hl 0 rfl) ?_
  refine lv_iconst (v := 0) hx hbb dX2_init_18 (by decide) ?_
  refine putZ (v := .int 0) (ty := .int) C hin tyX2 tyX2_ok nmX2 X (lD 2 rfl) hS (by show b ≤ b; omega) 0 rfl rfl 2 (by decide) (hts _ (List.mem_of_getElem? (i := 7) rfl)) rfl (by decide +kernel) rfl rfl (Nat.le_of_ble_eq_true rfl) dX2_init_19 (fun H locs X z _ hS => ?_)
  have sz := z.trans sz
  have X : va_P G.1 vwCl [(b, .inr (2, [.ref (b + 1), .int 0, .int 0, .int 0, .int 0, .int 0, .int 0])), (b + 1, .inl (G.2 1, 60, .inl (fun _ => 0)))] H := X
  refine lv_aload_n hx hbb dX2_init_22 rfl (lv_at hl 0 rfl) ?_
  refine lv_bipush (v := 32) hx hbb dX2_init_23 (by decide) ?_
  refine putZ (v := .int 32) (ty := .char) C hin tyX2 tyX2_ok nmX2 X (lD 2 rfl) hS (by show b ≤ b; omega) 0 rfl rfl 3 (by decide) (hts _ (List.mem_of_getElem? (i := 8) rfl)) rfl (by decide +kernel) rfl (by decide) (Nat.le_of_ble_eq_true rfl) dX2_init_25 (fun H locs X z _ hS => ?_)
  have sz := z.trans sz
  have X : va_P G.1 vwCl [(b, .inr (2, [.ref (b + 1), .int 0, .int 0, .int 32, .int 0, .int 0, .int 0])), (b + 1, .inl (G.2 1, 60, .inl (fun _ => 0)))] H := X
  refine lv_aload_n hx hbb dX2_init_28 rfl (lv_at hl 0 rfl) ?_
  refine lv_iconst (v := (-1)) hx hbb dX2_init_29 (by decide) ?_
  refine putZ (v := .int (-1)) (ty := .int) C hin tyX2 tyX2_ok nmX2 X (lD 2 rfl) hS (by show b ≤ b; omega) 0 rfl rfl 4 (by decide) (hts _ (List.mem_of_getElem? (i := 9) rfl)) rfl (by decide +kernel) rfl rfl (Nat.le_of_ble_eq_true rfl) dX2_init_30 (fun H locs X z _ hS => ?_)
  have sz := z.trans sz
  have X : va_P G.1 vwCl [(b, .inr (2, [.ref (b + 1), .int 0, .int 0, .int 32, .int (-1), .int 0, .int 0])), (b + 1, .inl (G.2 1, 60, .inl (fun _ => 0)))] H := X
  refine lv_aload_n hx hbb dX2_init_33 rfl (lv_at hl 0 rfl) ?_
  refine lv_iconst (v := 0) hx hbb dX2_init_34 (by decide) ?_
  refine putZ (v := .int 0) (ty := .int) C hin tyX2 tyX2_ok nmX2 X (lD 2 rfl) hS (by show b ≤ b; omega) 0 rfl rfl 5 (by decide) (hts _ (List.mem_of_getElem? (i := 10) rfl)) rfl (by decide +kernel) rfl rfl (Nat.le_of_ble_eq_true rfl) dX2_init_35 (fun H locs X z _ hS => ?_)
  have sz := z.trans sz
  have X : va_P G.1 vwCl [(b, .inr (2, [.ref (b + 1), .int 0, .int 0, .int 32, .int (-1), .int 0, .int 0])), (b + 1, .inl (G.2 1, 60, .inl (fun _ => 0)))] H := X
  refine lv_aload_n hx hbb dX2_init_38 rfl (lv_at hl 0 rfl) ?_
  refine lv_iconst (v := 0) hx hbb dX2_init_39 (by decide) ?_
  refine putZ (v := .int 0) (ty := .int) C hin tyX2 tyX2_ok nmX2 X (lD 2 rfl) hS (by show b ≤ b; omega) 0 rfl rfl 6 (by decide) (hts _ (List.mem_of_getElem? (i := 11) rfl)) rfl (by decide +kernel) rfl rfl (Nat.le_of_ble_eq_true rfl) dX2_init_40 (fun H locs X z _ hS => ?_)
  have sz := z.trans sz
  have X : va_P G.1 vwCl [(b, .inr (2, [.ref (b + 1), .int 0, .int 0, .int 32, .int (-1), .int 0, .int 0])), (b + 1, .inl (G.2 1, 60, .inl (fun _ => 0)))] H := X
  refine W.widen (k := 1) (n := 60) (by decide) (by decide) ?_
  exact W.vret hx hbb hr (fun t ht _ => ⟨rfl, by rw [ht]; exact X, by rw [ht]; exact sz, hS.F ht⟩) hS.2.2 dX2_init_43
