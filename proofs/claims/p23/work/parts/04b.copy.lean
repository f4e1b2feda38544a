theorem in_X1_copyFrom : ∀ w ∈ wsX10, w ∈ wsX1_copyFrom := by decide +kernel
set_option maxHeartbeats 4000000 in
set_option maxRecDepth 100000 in
/-- this House becomes what the other one is; the other one stays -/
theorem kX1_copyFrom (l : Launch) (G : Gx) (b b2 : Nat) (σ σ2 : St) (hd : b + 7 ≤ b2 ∨ b2 + 7 ≤ b) : Met l yX1_copyFrom wsX1_copyFrom (rmN 1) (pre G [.ref b, .ref b2] (fun H => hAt G b σ H ∧ hAt G b2 σ2 H)) (QcA (fr2 b b2) (fun H => hAt G b σ2 H ∧ hAt G b2 σ2 H) none) 0 0 (fr2 b b2) := by
  refine Met.ofW (cc := cX1_copyFrom) (maxL := 2) (ret := none) (by decide) rfl ?_
  intro p e s m args below meth c s₁ B hml hv
  obtain ⟨rfl, ⟨X1, X2⟩, hK⟩ := hv
  have hx := B.exec
  have hb := B.bytes
  have hr := B.returns
  have hts := atoms_spec (ws := wsX1_copyFrom) B.pre
  have hown : s.vm.findClass RX1 = some m.cls := findClass_of_methodNamed B.named
  have hlocks := B.notSynchronized
  have hin := in_X1_copyFrom
  have hS : va_S (fr2 b b2) s.heap s.heap [] := va_S.rf
  have X : va_P G.1 vwCl (h2Ws G b (mix 0 σ2 σ) b2 σ2) s.heap := va_P.app X1 X2
  have hl := lv_entry ([.ref b, .ref b2]) (n := 2) (Nat.le_of_ble_eq_true rfl)
  rw [lg_entry_eq]
  generalize (lg_sl ([.ref b, .ref b2]) ++ List.replicate (2 - (lg_sl ([.ref b, .ref b2])).length) Slot.unset).toArray = ls at hl ⊢
  have hl : lv_has ls 2 [(0, .ref b), (1, .ref b2)] := hl
  refine lv_aload_n hx hb dX1_copyFrom_0 rfl (lv_at hl 1 rfl) ?_
  refine lv_ifnonnull (tgt := 5) hx hb dX1_copyFrom_1 (by decide) ?_
  refine lv_aload_n hx hb dX1_copyFrom_5 rfl (lv_at hl 1 rfl) ?_
  refine va_get hx hb hts hin hown hK X 7 rfl rfl 0 (by decide) (hts _ (List.mem_of_getElem? (i := 1) rfl)) (fun _ h => h) rfl dX1_copyFrom_6 ?_
  refine lv_iconst (v := 0) hx hb dX1_copyFrom_9 (by decide) ?_
  refine lv_aload_n hx hb dX1_copyFrom_10 rfl (lv_at hl 0 rfl) ?_
  refine va_get hx hb hts hin hown hK X 0 rfl rfl 0 (by decide) (hts _ (List.mem_of_getElem? (i := 1) rfl)) (fun _ h => h) rfl dX1_copyFrom_11 ?_
  refine lv_iconst (v := 0) hx hb dX1_copyFrom_14 (by decide) ?_
  refine lv_iconst (v := 5) hx hb dX1_copyFrom_15 (by decide) ?_
  refine va_copyi hx hb (hml.trans hl.1.symm) hown (hts _ (List.mem_of_getElem? (i := 2) rfl)) (hts _ (List.mem_of_getElem? (i := 3) rfl)) (hts _ (List.mem_of_getElem? (i := 4) rfl)) (hts _ (List.mem_of_getElem? (i := 5) rfl)) hK X (h2_D hd) hS 8 1 0 0 rfl rfl rfl rfl rfl (by decide) (by decide) (by decide) (by decide) (by decide) (fun _ _ => rfl) (by decide) (by decide) dX1_copyFrom_16 (fun H locs X _ hS => ?_)
  have X : va_P G.1 vwCl (h2Ws G b (mix 1 σ2 σ) b2 σ2) H := h2_set X rfl
  refine lv_aload_n hx hb dX1_copyFrom_19 rfl (lv_at hl 1 rfl) ?_
  refine va_get hx hb hts hin hown hK X 7 rfl rfl 1 (by decide) (hts _ (List.mem_of_getElem? (i := 6) rfl)) (fun _ h => h) rfl dX1_copyFrom_20 ?_
  refine lv_iconst (v := 0) hx hb dX1_copyFrom_23 (by decide) ?_
  refine lv_aload_n hx hb dX1_copyFrom_24 rfl (lv_at hl 0 rfl) ?_
  refine va_get hx hb hts hin hown hK X 0 rfl rfl 1 (by decide) (hts _ (List.mem_of_getElem? (i := 6) rfl)) (fun _ h => h) rfl dX1_copyFrom_25 ?_
  refine lv_iconst (v := 0) hx hb dX1_copyFrom_28 (by decide) ?_
  refine lv_bipush (v := 24) hx hb dX1_copyFrom_29 (by decide) ?_
  refine va_copyi hx hb (hml.trans hl.1.symm) hown (hts _ (List.mem_of_getElem? (i := 2) rfl)) (hts _ (List.mem_of_getElem? (i := 3) rfl)) (hts _ (List.mem_of_getElem? (i := 4) rfl)) (hts _ (List.mem_of_getElem? (i := 5) rfl)) hK X (h2_D hd) hS 9 2 0 0 rfl rfl rfl rfl rfl (by decide) (by decide) (by decide) (by decide) (by decide) (fun _ _ => rfl) (by decide) (by decide) dX1_copyFrom_31 (fun H locs X _ hS => ?_)
  have X : va_P G.1 vwCl (h2Ws G b (mix 2 σ2 σ) b2 σ2) H := h2_set X rfl
  refine lv_aload_n hx hb dX1_copyFrom_34 rfl (lv_at hl 1 rfl) ?_
  refine va_get hx hb hts hin hown hK X 7 rfl rfl 2 (by decide) (hts _ (List.mem_of_getElem? (i := 7) rfl)) (fun _ h => h) rfl dX1_copyFrom_35 ?_
  refine lv_iconst (v := 0) hx hb dX1_copyFrom_38 (by decide) ?_
  refine lv_aload_n hx hb dX1_copyFrom_39 rfl (lv_at hl 0 rfl) ?_
  refine va_get hx hb hts hin hown hK X 0 rfl rfl 2 (by decide) (hts _ (List.mem_of_getElem? (i := 7) rfl)) (fun _ h => h) rfl dX1_copyFrom_40 ?_
  refine lv_iconst (v := 0) hx hb dX1_copyFrom_43 (by decide) ?_
  refine lv_bipush (v := 24) hx hb dX1_copyFrom_44 (by decide) ?_
  refine va_copyi hx hb (hml.trans hl.1.symm) hown (hts _ (List.mem_of_getElem? (i := 2) rfl)) (hts _ (List.mem_of_getElem? (i := 3) rfl)) (hts _ (List.mem_of_getElem? (i := 4) rfl)) (hts _ (List.mem_of_getElem? (i := 5) rfl)) hK X (h2_D hd) hS 10 3 0 0 rfl rfl rfl rfl rfl (by decide) (by decide) (by decide) (by decide) (by decide) (fun _ _ => rfl) (by decide) (by decide) dX1_copyFrom_46 (fun H locs X _ hS => ?_)
  have X : va_P G.1 vwCl (h2Ws G b (mix 3 σ2 σ) b2 σ2) H := h2_set X rfl
  refine lv_aload_n hx hb dX1_copyFrom_49 rfl (lv_at hl 1 rfl) ?_
  refine va_get hx hb hts hin hown hK X 7 rfl rfl 3 (by decide) (hts _ (List.mem_of_getElem? (i := 8) rfl)) (fun _ h => h) rfl dX1_copyFrom_50 ?_
  refine lv_iconst (v := 0) hx hb dX1_copyFrom_53 (by decide) ?_
  refine lv_aload_n hx hb dX1_copyFrom_54 rfl (lv_at hl 0 rfl) ?_
  refine va_get hx hb hts hin hown hK X 0 rfl rfl 3 (by decide) (hts _ (List.mem_of_getElem? (i := 8) rfl)) (fun _ h => h) rfl dX1_copyFrom_55 ?_
  refine lv_iconst (v := 0) hx hb dX1_copyFrom_58 (by decide) ?_
  refine lv_bipush (v := 24) hx hb dX1_copyFrom_59 (by decide) ?_
  refine va_copyi hx hb (hml.trans hl.1.symm) hown (hts _ (List.mem_of_getElem? (i := 2) rfl)) (hts _ (List.mem_of_getElem? (i := 3) rfl)) (hts _ (List.mem_of_getElem? (i := 4) rfl)) (hts _ (List.mem_of_getElem? (i := 5) rfl)) hK X (h2_D hd) hS 11 4 0 0 rfl rfl rfl rfl rfl (by decide) (by decide) (by decide) (by decide) (by decide) (fun _ _ => rfl) (by decide) (by decide) dX1_copyFrom_61 (fun H locs X _ hS => ?_)
  have X : va_P G.1 vwCl (h2Ws G b (mix 4 σ2 σ) b2 σ2) H := h2_set X rfl
  refine lv_aload_n hx hb dX1_copyFrom_64 rfl (lv_at hl 1 rfl) ?_
  refine va_get hx hb hts hin hown hK X 7 rfl rfl 4 (by decide) (hts _ (List.mem_of_getElem? (i := 9) rfl)) (fun _ h => h) rfl dX1_copyFrom_65 ?_
  refine lv_iconst (v := 0) hx hb dX1_copyFrom_68 (by decide) ?_
  refine lv_aload_n hx hb dX1_copyFrom_69 rfl (lv_at hl 0 rfl) ?_
  refine va_get hx hb hts hin hown hK X 0 rfl rfl 4 (by decide) (hts _ (List.mem_of_getElem? (i := 9) rfl)) (fun _ h => h) rfl dX1_copyFrom_70 ?_
  refine lv_iconst (v := 0) hx hb dX1_copyFrom_73 (by decide) ?_
  refine lv_bipush (v := 24) hx hb dX1_copyFrom_74 (by decide) ?_
  refine va_copyi hx hb (hml.trans hl.1.symm) hown (hts _ (List.mem_of_getElem? (i := 2) rfl)) (hts _ (List.mem_of_getElem? (i := 3) rfl)) (hts _ (List.mem_of_getElem? (i := 4) rfl)) (hts _ (List.mem_of_getElem? (i := 5) rfl)) hK X (h2_D hd) hS 12 5 0 0 rfl rfl rfl rfl rfl (by decide) (by decide) (by decide) (by decide) (by decide) (fun _ _ => rfl) (by decide) (by decide) dX1_copyFrom_76 (fun H locs X _ hS => ?_)
  have X : va_P G.1 vwCl (h2Ws G b (mix 5 σ2 σ) b2 σ2) H := h2_set X rfl
  refine lv_aload_n hx hb dX1_copyFrom_79 rfl (lv_at hl 1 rfl) ?_
  refine va_get hx hb hts hin hown hK X 7 rfl rfl 5 (by decide) (hts _ (List.mem_of_getElem? (i := 10) rfl)) (fun _ h => h) rfl dX1_copyFrom_80 ?_
  refine lv_iconst (v := 0) hx hb dX1_copyFrom_83 (by decide) ?_
  refine lv_aload_n hx hb dX1_copyFrom_84 rfl (lv_at hl 0 rfl) ?_
  refine va_get hx hb hts hin hown hK X 0 rfl rfl 5 (by decide) (hts _ (List.mem_of_getElem? (i := 10) rfl)) (fun _ h => h) rfl dX1_copyFrom_85 ?_
  refine lv_iconst (v := 0) hx hb dX1_copyFrom_88 (by decide) ?_
  refine lv_bipush (v := 24) hx hb dX1_copyFrom_89 (by decide) ?_
  refine va_copyi hx hb (hml.trans hl.1.symm) hown (hts _ (List.mem_of_getElem? (i := 2) rfl)) (hts _ (List.mem_of_getElem? (i := 3) rfl)) (hts _ (List.mem_of_getElem? (i := 4) rfl)) (hts _ (List.mem_of_getElem? (i := 5) rfl)) hK X (h2_D hd) hS 13 6 0 0 rfl rfl rfl rfl rfl (by decide) (by decide) (by decide) (by decide) (by decide) (fun _ _ => rfl) (by decide) (by decide) dX1_copyFrom_91 (fun H locs X _ hS => ?_)
  have X : va_P G.1 vwCl (h2Ws G b (mix 6 σ2 σ) b2 σ2) H := h2_set X rfl
  refine lv_aload_n hx hb dX1_copyFrom_94 rfl (lv_at hl 0 rfl) ?_
  refine lv_aload_n hx hb dX1_copyFrom_95 rfl (lv_at hl 1 rfl) ?_
  refine va_get hx hb hts hin hown hK X 7 rfl rfl 6 (by decide) (hts _ (List.mem_of_getElem? (i := 11) rfl)) (fun _ h => h) rfl dX1_copyFrom_96 ?_
  refine va_put hx hb hts hin tyX1 tyX1_ok nmX1 hown hK X (h2_D hd) hS 0 rfl rfl 6 (by decide) (hts _ (List.mem_of_getElem? (i := 11) rfl)) (fun _ h => h) rfl (ty := .int) (by decide +kernel) rfl rfl (Nat.le_of_ble_eq_true rfl) dX1_copyFrom_99 (fun H locs X _ hS => ?_)
  have X : va_P G.1 vwCl (h2Ws G b (mix 7 σ2 σ) b2 σ2) H := X
  refine lv_aload_n hx hb dX1_copyFrom_102 rfl (lv_at hl 0 rfl) ?_
  refine lv_aload_n hx hb dX1_copyFrom_103 rfl (lv_at hl 1 rfl) ?_
  refine va_get hx hb hts hin hown hK X 7 rfl rfl 7 (by decide) (hts _ (List.mem_of_getElem? (i := 12) rfl)) (fun _ h => h) rfl dX1_copyFrom_104 ?_
  refine va_put hx hb hts hin tyX1 tyX1_ok nmX1 hown hK X (h2_D hd) hS 0 rfl rfl 7 (by decide) (hts _ (List.mem_of_getElem? (i := 12) rfl)) (fun _ h => h) rfl (ty := .int) (by decide +kernel) rfl rfl (Nat.le_of_ble_eq_true rfl) dX1_copyFrom_107 (fun H locs X _ hS => ?_)
  have X : va_P G.1 vwCl (h2Ws G b (mix 8 σ2 σ) b2 σ2) H := X
  refine lv_aload_n hx hb dX1_copyFrom_110 rfl (lv_at hl 0 rfl) ?_
  refine lv_aload_n hx hb dX1_copyFrom_111 rfl (lv_at hl 1 rfl) ?_
  refine va_get hx hb hts hin hown hK X 7 rfl rfl 8 (by decide) (hts _ (List.mem_of_getElem? (i := 13) rfl)) (fun _ h => h) rfl dX1_copyFrom_112 ?_
  refine va_put hx hb hts hin tyX1 tyX1_ok nmX1 hown hK X (h2_D hd) hS 0 rfl rfl 8 (by decide) (hts _ (List.mem_of_getElem? (i := 13) rfl)) (fun _ h => h) rfl (ty := .int) (by decide +kernel) rfl rfl (Nat.le_of_ble_eq_true rfl) dX1_copyFrom_115 (fun H locs X _ hS => ?_)
  have X : va_P G.1 vwCl (h2Ws G b (mix 9 σ2 σ) b2 σ2) H := X
  refine lv_aload_n hx hb dX1_copyFrom_118 rfl (lv_at hl 0 rfl) ?_
  refine lv_aload_n hx hb dX1_copyFrom_119 rfl (lv_at hl 1 rfl) ?_
  refine va_get hx hb hts hin hown hK X 7 rfl rfl 9 (by decide) (hts _ (List.mem_of_getElem? (i := 14) rfl)) (fun _ h => h) rfl dX1_copyFrom_120 ?_
  refine va_put hx hb hts hin tyX1 tyX1_ok nmX1 hown hK X (h2_D hd) hS 0 rfl rfl 9 (by decide) (hts _ (List.mem_of_getElem? (i := 14) rfl)) (fun _ h => h) rfl (ty := .int) (by decide +kernel) rfl rfl (Nat.le_of_ble_eq_true rfl) dX1_copyFrom_123 (fun H locs X _ hS => ?_)
  have X : va_P G.1 vwCl (h2Ws G b (mix 10 σ2 σ) b2 σ2) H := X
  refine lv_aload_n hx hb dX1_copyFrom_126 rfl (lv_at hl 0 rfl) ?_
  refine lv_aload_n hx hb dX1_copyFrom_127 rfl (lv_at hl 1 rfl) ?_
  refine va_get hx hb hts hin hown hK X 7 rfl rfl 10 (by decide) (hts _ (List.mem_of_getElem? (i := 15) rfl)) (fun _ h => h) rfl dX1_copyFrom_128 ?_
  refine va_put hx hb hts hin tyX1 tyX1_ok nmX1 hown hK X (h2_D hd) hS 0 rfl rfl 10 (by decide) (hts _ (List.mem_of_getElem? (i := 15) rfl)) (fun _ h => h) rfl (ty := .int) (by decide +kernel) rfl rfl (Nat.le_of_ble_eq_true rfl) dX1_copyFrom_131 (fun H locs X _ hS => ?_)
  have X : va_P G.1 vwCl (h2Ws G b (mix 11 σ2 σ) b2 σ2) H := X
  exact W.vret hx hb hr (fun t ht _ => ⟨rfl, by rw [ht]; exact ⟨va_P.sub X [0, 1, 2, 3, 4, 5, 6] rfl, va_P.sub X [7, 8, 9, 10, 11, 12, 13] rfl⟩, hS.F ht⟩) hS.2.2 dX1_copyFrom_134
