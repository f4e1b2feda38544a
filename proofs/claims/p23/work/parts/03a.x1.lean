def fJ6_bitCount_0f7a4 (p1 : Int32) : Option (Int32) := some ((((((((p1 - (((p1.toUInt32 >>> ((1 : Int32).toUInt32 &&& Int32.toUInt32 31)).toInt32) &&& 1431655765)) &&& 858993459) + ((((p1 - (((p1.toUInt32 >>> ((1 : Int32).toUInt32 &&& Int32.toUInt32 31)).toInt32) &&& 1431655765)).toUInt32 >>> ((2 : Int32).toUInt32 &&& Int32.toUInt32 31)).toInt32) &&& 858993459)) + (((((p1 - (((p1.toUInt32 >>> ((1 : Int32).toUInt32 &&& Int32.toUInt32 31)).toInt32) &&& 1431655765)) &&& 858993459) + ((((p1 - (((p1.toUInt32 >>> ((1 : Int32).toUInt32 &&& Int32.toUInt32 31)).toInt32) &&& 1431655765)).toUInt32 >>> ((2 : Int32).toUInt32 &&& Int32.toUInt32 31)).toInt32) &&& 858993459)).toUInt32 >>> ((4 : Int32).toUInt32 &&& Int32.toUInt32 31)).toInt32)) &&& 252645135) + (((((((p1 - (((p1.toUInt32 >>> ((1 : Int32).toUInt32 &&& Int32.toUInt32 31)).toInt32) &&& 1431655765)) &&& 858993459) + ((((p1 - (((p1.toUInt32 >>> ((1 : Int32).toUInt32 &&& Int32.toUInt32 31)).toInt32) &&& 1431655765)).toUInt32 >>> ((2 : Int32).toUInt32 &&& Int32.toUInt32 31)).toInt32) &&& 858993459)) + (((((p1 - (((p1.toUInt32 >>> ((1 : Int32).toUInt32 &&& Int32.toUInt32 31)).toInt32) &&& 1431655765)) &&& 858993459) + ((((p1 - (((p1.toUInt32 >>> ((1 : Int32).toUInt32 &&& Int32.toUInt32 31)).toInt32) &&& 1431655765)).toUInt32 >>> ((2 : Int32).toUInt32 &&& Int32.toUInt32 31)).toInt32) &&& 858993459)).toUInt32 >>> ((4 : Int32).toUInt32 &&& Int32.toUInt32 31)).toInt32)) &&& 252645135).toUInt32 >>> ((8 : Int32).toUInt32 &&& Int32.toUInt32 31)).toInt32)) + ((((((((p1 - (((p1.toUInt32 >>> ((1 : Int32).toUInt32 &&& Int32.toUInt32 31)).toInt32) &&& 1431655765)) &&& 858993459) + ((((p1 - (((p1.toUInt32 >>> ((1 : Int32).toUInt32 &&& Int32.toUInt32 31)).toInt32) &&& 1431655765)).toUInt32 >>> ((2 : Int32).toUInt32 &&& Int32.toUInt32 31)).toInt32) &&& 858993459)) + (((((p1 - (((p1.toUInt32 >>> ((1 : Int32).toUInt32 &&& Int32.toUInt32 31)).toInt32) &&& 1431655765)) &&& 858993459) + ((((p1 - (((p1.toUInt32 >>> ((1 : Int32).toUInt32 &&& Int32.toUInt32 31)).toInt32) &&& 1431655765)).toUInt32 >>> ((2 : Int32).toUInt32 &&& Int32.toUInt32 31)).toInt32) &&& 858993459)).toUInt32 >>> ((4 : Int32).toUInt32 &&& Int32.toUInt32 31)).toInt32)) &&& 252645135) + (((((((p1 - (((p1.toUInt32 >>> ((1 : Int32).toUInt32 &&& Int32.toUInt32 31)).toInt32) &&& 1431655765)) &&& 858993459) + ((((p1 - (((p1.toUInt32 >>> ((1 : Int32).toUInt32 &&& Int32.toUInt32 31)).toInt32) &&& 1431655765)).toUInt32 >>> ((2 : Int32).toUInt32 &&& Int32.toUInt32 31)).toInt32) &&& 858993459)) + (((((p1 - (((p1.toUInt32 >>> ((1 : Int32).toUInt32 &&& Int32.toUInt32 31)).toInt32) &&& 1431655765)) &&& 858993459) + ((((p1 - (((p1.toUInt32 >>> ((1 : Int32).toUInt32 &&& Int32.toUInt32 31)).toInt32) &&& 1431655765)).toUInt32 >>> ((2 : Int32).toUInt32 &&& Int32.toUInt32 31)).toInt32) &&& 858993459)).toUInt32 >>> ((4 : Int32).toUInt32 &&& Int32.toUInt32 31)).toInt32)) &&& 252645135).toUInt32 >>> ((8 : Int32).toUInt32 &&& Int32.toUInt32 31)).toInt32)).toUInt32 >>> ((16 : Int32).toUInt32 &&& Int32.toUInt32 31)).toInt32)) &&& 63)
set_option maxHeartbeats 4000000 in
set_option maxRecDepth 100000 in
theorem kJ6_bitCount_0f7a4 (l : Launch) (G : Gx) (p1 : Int32) (r : Int32) (h : fJ6_bitCount_0f7a4 p1 = some r) : Met l yJ6_bitCount_0f7a4 wsJ6_bitCount_0f7a4 (rmN 0) (pre G [.int p1] (fun _ => True)) (QcRead r) 0 0 (fun _ => False) := by
  refine Met.ofW (cc := cJ6_bitCount_0f7a4) (maxL := 1) (ret := (some .int)) (by decide) rfl ?_
  intro p e s m args below meth c s₁ B hml hv
  obtain ⟨rfl, -, hK⟩ := hv
  have hx := B.exec
  have hb := B.bytes
  have hr := B.returns
  have hts := atoms_spec (ws := wsJ6_bitCount_0f7a4) B.pre
  have hown : s.vm.findClass RJ6 = some m.cls := findClass_of_methodNamed B.named
  have hlocks := B.notSynchronized
  have C : Cx p m c cJ6_bitCount_0f7a4 1 s _ wsJ6_bitCount_0f7a4 RJ6 G := ⟨⟨hx, hb, hml, hown, hts⟩, hK⟩
  have hl := lv_entry ([.int p1]) (n := 1) (Nat.le_of_ble_eq_true rfl)
  rw [lg_entry_eq]
  generalize (lg_sl ([.int p1]) ++ List.replicate (1 - (lg_sl ([.int p1])).length) Slot.unset).toArray = ls at hl ⊢
  have hl : lv_has ls 1 [(0, .int p1)] := hl
  unfold fJ6_bitCount_0f7a4 at h
  refine lv_iload_n hx hb dJ6_bitCount_0f7a4_0 rfl (lv_at hl 0 rfl) ?_
  refine lv_iload_n hx hb dJ6_bitCount_0f7a4_1 rfl (lv_at hl 0 rfl) ?_
  refine lv_iconst (v := 1) hx hb dJ6_bitCount_0f7a4_2 (by decide) ?_
  refine lv_iushr (v := (p1.toUInt32 >>> ((1 : Int32).toUInt32 &&& Int32.toUInt32 31)).toInt32) hx hb dJ6_bitCount_0f7a4_3 rfl ?_
  refine lv_ldcw hx hb hown (hts _ (List.mem_of_getElem? (i := 1) rfl)) dJ6_bitCount_0f7a4_4 ?_
  refine lv_iand hx hb dJ6_bitCount_0f7a4_7 ?_
  refine lv_isub hx hb dJ6_bitCount_0f7a4_8 ?_
  refine lv_istore_n (lv' := [(0, .int (p1 - (((p1.toUInt32 >>> ((1 : Int32).toUInt32 &&& Int32.toUInt32 31)).toInt32) &&& 1431655765)))]) hx hb dJ6_bitCount_0f7a4_9 rfl hl (by decide) rfl (fun ls hl => ?_)
  refine lv_iload_n hx hb dJ6_bitCount_0f7a4_10 rfl (lv_at hl 0 rfl) ?_
  refine lv_ldcw hx hb hown (hts _ (List.mem_of_getElem? (i := 2) rfl)) dJ6_bitCount_0f7a4_11 ?_
  refine lv_iand hx hb dJ6_bitCount_0f7a4_14 ?_
  refine lv_iload_n hx hb dJ6_bitCount_0f7a4_15 rfl (lv_at hl 0 rfl) ?_
  refine lv_iconst (v := 2) hx hb dJ6_bitCount_0f7a4_16 (by decide) ?_
  refine lv_iushr (v := ((p1 - (((p1.toUInt32 >>> ((1 : Int32).toUInt32 &&& Int32.toUInt32 31)).toInt32) &&& 1431655765)).toUInt32 >>> ((2 : Int32).toUInt32 &&& Int32.toUInt32 31)).toInt32) hx hb dJ6_bitCount_0f7a4_17 rfl ?_
  refine lv_ldcw hx hb hown (hts _ (List.mem_of_getElem? (i := 2) rfl)) dJ6_bitCount_0f7a4_18 ?_
  refine lv_iand hx hb dJ6_bitCount_0f7a4_21 ?_
  refine lv_iadd hx hb dJ6_bitCount_0f7a4_22 ?_
  refine lv_istore_n (lv' := [(0, .int (((p1 - (((p1.toUInt32 >>> ((1 : Int32).toUInt32 &&& Int32.toUInt32 31)).toInt32) &&& 1431655765)) &&& 858993459) + ((((p1 - (((p1.toUInt32 >>> ((1 : Int32).toUInt32 &&& Int32.toUInt32 31)).toInt32) &&& 1431655765)).toUInt32 >>> ((2 : Int32).toUInt32 &&& Int32.toUInt32 31)).toInt32) &&& 858993459)))]) hx hb dJ6_bitCount_0f7a4_23 rfl hl (by decide) rfl (fun ls hl => ?_)
  refine lv_iload_n hx hb dJ6_bitCount_0f7a4_24 rfl (lv_at hl 0 rfl) ?_
  refine lv_iload_n hx hb dJ6_bitCount_0f7a4_25 rfl (lv_at hl 0 rfl) ?_
  refine lv_iconst (v := 4) hx hb dJ6_bitCount_0f7a4_26 (by decide) ?_
  refine lv_iushr (v := ((((p1 - (((p1.toUInt32 >>> ((1 : Int32).toUInt32 &&& Int32.toUInt32 31)).toInt32) &&& 1431655765)) &&& 858993459) + ((((p1 - (((p1.toUInt32 >>> ((1 : Int32).toUInt32 &&& Int32.toUInt32 31)).toInt32) &&& 1431655765)).toUInt32 >>> ((2 : Int32).toUInt32 &&& Int32.toUInt32 31)).toInt32) &&& 858993459)).toUInt32 >>> ((4 : Int32).toUInt32 &&& Int32.toUInt32 31)).toInt32) hx hb dJ6_bitCount_0f7a4_27 rfl ?_
  refine lv_iadd hx hb dJ6_bitCount_0f7a4_28 ?_
  refine lv_ldcw hx hb hown (hts _ (List.mem_of_getElem? (i := 3) rfl)) dJ6_bitCount_0f7a4_29 ?_
  refine lv_iand hx hb dJ6_bitCount_0f7a4_32 ?_
  refine lv_istore_n (lv' := [(0, .int (((((p1 - (((p1.toUInt32 >>> ((1 : Int32).toUInt32 &&& Int32.toUInt32 31)).toInt32) &&& 1431655765)) &&& 858993459) + ((((p1 - (((p1.toUInt32 >>> ((1 : Int32).toUInt32 &&& Int32.toUInt32 31)).toInt32) &&& 1431655765)).toUInt32 >>> ((2 : Int32).toUInt32 &&& Int32.toUInt32 31)).toInt32) &&& 858993459)) + (((((p1 - (((p1.toUInt32 >>> ((1 : Int32).toUInt32 &&& Int32.toUInt32 31)).toInt32) &&& 1431655765)) &&& 858993459) + ((((p1 - (((p1.toUInt32 >>> ((1 : Int32).toUInt32 &&& Int32.toUInt32 31)).toInt32) &&& 1431655765)).toUInt32 >>> ((2 : Int32).toUInt32 &&& Int32.toUInt32 31)).toInt32) &&& 858993459)).toUInt32 >>> ((4 : Int32).toUInt32 &&& Int32.toUInt32 31)).toInt32)) &&& 252645135))]) hx hb dJ6_bitCount_0f7a4_33 rfl hl (by decide) rfl (fun ls hl => ?_)
  refine lv_iload_n hx hb dJ6_bitCount_0f7a4_34 rfl (lv_at hl 0 rfl) ?_
  refine lv_iload_n hx hb dJ6_bitCount_0f7a4_35 rfl (lv_at hl 0 rfl) ?_
  refine lv_bipush (v := 8) hx hb dJ6_bitCount_0f7a4_36 (by decide) ?_
  refine lv_iushr (v := ((((((p1 - (((p1.toUInt32 >>> ((1 : Int32).toUInt32 &&& Int32.toUInt32 31)).toInt32) &&& 1431655765)) &&& 858993459) + ((((p1 - (((p1.toUInt32 >>> ((1 : Int32).toUInt32 &&& Int32.toUInt32 31)).toInt32) &&& 1431655765)).toUInt32 >>> ((2 : Int32).toUInt32 &&& Int32.toUInt32 31)).toInt32) &&& 858993459)) + (((((p1 - (((p1.toUInt32 >>> ((1 : Int32).toUInt32 &&& Int32.toUInt32 31)).toInt32) &&& 1431655765)) &&& 858993459) + ((((p1 - (((p1.toUInt32 >>> ((1 : Int32).toUInt32 &&& Int32.toUInt32 31)).toInt32) &&& 1431655765)).toUInt32 >>> ((2 : Int32).toUInt32 &&& Int32.toUInt32 31)).toInt32) &&& 858993459)).toUInt32 >>> ((4 : Int32).toUInt32 &&& Int32.toUInt32 31)).toInt32)) &&& 252645135).toUInt32 >>> ((8 : Int32).toUInt32 &&& Int32.toUInt32 31)).toInt32) hx hb dJ6_bitCount_0f7a4_38 rfl ?_
  refine lv_iadd hx hb dJ6_bitCount_0f7a4_39 ?_
  refine lv_istore_n (lv' := [(0, .int ((((((p1 - (((p1.toUInt32 >>> ((1 : Int32).toUInt32 &&& Int32.toUInt32 31)).toInt32) &&& 1431655765)) &&& 858993459) + ((((p1 - (((p1.toUInt32 >>> ((1 : Int32).toUInt32 &&& Int32.toUInt32 31)).toInt32) &&& 1431655765)).toUInt32 >>> ((2 : Int32).toUInt32 &&& Int32.toUInt32 31)).toInt32) &&& 858993459)) + (((((p1 - (((p1.toUInt32 >>> ((1 : Int32).toUInt32 &&& Int32.toUInt32 31)).toInt32) &&& 1431655765)) &&& 858993459) + ((((p1 - (((p1.toUInt32 >>> ((1 : Int32).toUInt32 &&& Int32.toUInt32 31)).toInt32) &&& 1431655765)).toUInt32 >>> ((2 : Int32).toUInt32 &&& Int32.toUInt32 31)).toInt32) &&& 858993459)).toUInt32 >>> ((4 : Int32).toUInt32 &&& Int32.toUInt32 31)).toInt32)) &&& 252645135) + (((((((p1 - (((p1.toUInt32 >>> ((1 : Int32).toUInt32 &&& Int32.toUInt32 31)).toInt32) &&& 1431655765)) &&& 858993459) + ((((p1 - (((p1.toUInt32 >>> ((1 : Int32).toUInt32 &&& Int32.toUInt32 31)).toInt32) &&& 1431655765)).toUInt32 >>> ((2 : Int32).toUInt32 &&& Int32.toUInt32 31)).toInt32) &&& 858993459)) + (((((p1 - (((p1.toUInt32 >>> ((1 : Int32).toUInt32 &&& Int32.toUInt32 31)).toInt32) &&& 1431655765)) &&& 858993459) + ((((p1 - (((p1.toUInt32 >>> ((1 : Int32).toUInt32 &&& Int32.toUInt32 31)).toInt32) &&& 1431655765)).toUInt32 >>> ((2 : Int32).toUInt32 &&& Int32.toUInt32 31)).toInt32) &&& 858993459)).toUInt32 >>> ((4 : Int32).toUInt32 &&& Int32.toUInt32 31)).toInt32)) &&& 252645135).toUInt32 >>> ((8 : Int32).toUInt32 &&& Int32.toUInt32 31)).toInt32)))]) hx hb dJ6_bitCount_0f7a4_40 rfl hl (by decide) rfl (fun ls hl => ?_)
  refine lv_iload_n hx hb dJ6_bitCount_0f7a4_41 rfl (lv_at hl 0 rfl) ?_
  refine lv_iload_n hx hb dJ6_bitCount_0f7a4_42 rfl (lv_at hl 0 rfl) ?_
  refine lv_bipush (v := 16) hx hb dJ6_bitCount_0f7a4_43 (by decide) ?_
  refine lv_iushr (v := (((((((p1 - (((p1.toUInt32 >>> ((1 : Int32).toUInt32 &&& Int32.toUInt32 31)).toInt32) &&& 1431655765)) &&& 858993459) + ((((p1 - (((p1.toUInt32 >>> ((1 : Int32).toUInt32 &&& Int32.toUInt32 31)).toInt32) &&& 1431655765)).toUInt32 >>> ((2 : Int32).toUInt32 &&& Int32.toUInt32 31)).toInt32) &&& 858993459)) + (((((p1 - (((p1.toUInt32 >>> ((1 : Int32).toUInt32 &&& Int32.toUInt32 31)).toInt32) &&& 1431655765)) &&& 858993459) + ((((p1 - (((p1.toUInt32 >>> ((1 : Int32).toUInt32 &&& Int32.toUInt32 31)).toInt32) &&& 1431655765)).toUInt32 >>> ((2 : Int32).toUInt32 &&& Int32.toUInt32 31)).toInt32) &&& 858993459)).toUInt32 >>> ((4 : Int32).toUInt32 &&& Int32.toUInt32 31)).toInt32)) &&& 252645135) + (((((((p1 - (((p1.toUInt32 >>> ((1 : Int32).toUInt32 &&& Int32.toUInt32 31)).toInt32) &&& 1431655765)) &&& 858993459) + ((((p1 - (((p1.toUInt32 >>> ((1 : Int32).toUInt32 &&& Int32.toUInt32 31)).toInt32) &&& 1431655765)).toUInt32 >>> ((2 : Int32).toUInt32 &&& Int32.toUInt32 31)).toInt32) &&& 858993459)) + (((((p1 - (((p1.toUInt32 >>> ((1 : Int32).toUInt32 &&& Int32.toUInt32 31)).toInt32) &&& 1431655765)) &&& 858993459) + ((((p1 - (((p1.toUInt32 >>> ((1 : Int32).toUInt32 &&& Int32.toUInt32 31)).toInt32) &&& 1431655765)).toUInt32 >>> ((2 : Int32).toUInt32 &&& Int32.toUInt32 31)).toInt32) &&& 858993459)).toUInt32 >>> ((4 : Int32).toUInt32 &&& Int32.toUInt32 31)).toInt32)) &&& 252645135).toUInt32 >>> ((8 : Int32).toUInt32 &&& Int32.toUInt32 31)).toInt32)).toUInt32 >>> ((16 : Int32).toUInt32 &&& Int32.toUInt32 31)).toInt32) hx hb dJ6_bitCount_0f7a4_45 rfl ?_
  refine lv_iadd hx hb dJ6_bitCount_0f7a4_46 ?_
  refine lv_istore_n (lv' := [(0, .int (((((((p1 - (((p1.toUInt32 >>> ((1 : Int32).toUInt32 &&& Int32.toUInt32 31)).toInt32) &&& 1431655765)) &&& 858993459) + ((((p1 - (((p1.toUInt32 >>> ((1 : Int32).toUInt32 &&& Int32.toUInt32 31)).toInt32) &&& 1431655765)).toUInt32 >>> ((2 : Int32).toUInt32 &&& Int32.toUInt32 31)).toInt32) &&& 858993459)) + (((((p1 - (((p1.toUInt32 >>> ((1 : Int32).toUInt32 &&& Int32.toUInt32 31)).toInt32) &&& 1431655765)) &&& 858993459) + ((((p1 - (((p1.toUInt32 >>> ((1 : Int32).toUInt32 &&& Int32.toUInt32 31)).toInt32) &&& 1431655765)).toUInt32 >>> ((2 : Int32).toUInt32 &&& Int32.toUInt32 31)).toInt32) &&& 858993459)).toUInt32 >>> ((4 : Int32).toUInt32 &&& Int32.toUInt32 31)).toInt32)) &&& 252645135) + (((((((p1 - (((p1.toUInt32 >>> ((1 : Int32).toUInt32 &&& Int32.toUInt32 31)).toInt32) &&& 1431655765)) &&& 858993459) + ((((p1 - (((p1.toUInt32 >>> ((1 : Int32).toUInt32 &&& Int32.toUInt32 31)).toInt32) &&& 1431655765)).toUInt32 >>> ((2 : Int32).toUInt32 &&& Int32.toUInt32 31)).toInt32) &&& 858993459)) + (((((p1 - (((p1.toUInt32 >>> ((1 : Int32).toUInt32 &&& Int32.toUInt32 31)).toInt32) &&& 1431655765)) &&& 858993459) + ((((p1 - (((p1.toUInt32 >>> ((1 : Int32).toUInt32 &&& Int32.toUInt32 31)).toInt32) &&& 1431655765)).toUInt32 >>> ((2 : Int32).toUInt32 &&& Int32.toUInt32 31)).toInt32) &&& 858993459)).toUInt32 >>> ((4 : Int32).toUInt32 &&& Int32.toUInt32 31)).toInt32)) &&& 252645135).toUInt32 >>> ((8 : Int32).toUInt32 &&& Int32.toUInt32 31)).toInt32)) + ((((((((p1 - (((p1.toUInt32 >>> ((1 : Int32).toUInt32 &&& Int32.toUInt32 31)).toInt32) &&& 1431655765)) &&& 858993459) + ((((p1 - (((p1.toUInt32 >>> ((1 : Int32).toUInt32 &&& Int32.toUInt32 31)).toInt32) &&& 1431655765)).toUInt32 >>> ((2 : Int32).toUInt32 &&& Int32.toUInt32 31)).toInt32) &&& 858993459)) + (((((p1 - (((p1.toUInt32 >>> ((1 : Int32).toUInt32 &&& Int32.toUInt32 31)).toInt32) &&& 1431655765)) &&& 858993459) + ((((p1 - (((p1.toUInt32 >>> ((1 : Int32).toUInt32 &&& Int32.toUInt32 31)).toInt32) &&& 1431655765)).toUInt32 >>> ((2 : Int32).toUInt32 &&& Int32.toUInt32 31)).toInt32) &&& 858993459)).toUInt32 >>> ((4 : Int32).toUInt32 &&& Int32.toUInt32 31)).toInt32)) &&& 252645135) + (((((((p1 - (((p1.toUInt32 >>> ((1 : Int32).toUInt32 &&& Int32.toUInt32 31)).toInt32) &&& 1431655765)) &&& 858993459) + ((((p1 - (((p1.toUInt32 >>> ((1 : Int32).toUInt32 &&& Int32.toUInt32 31)).toInt32) &&& 1431655765)).toUInt32 >>> ((2 : Int32).toUInt32 &&& Int32.toUInt32 31)).toInt32) &&& 858993459)) + (((((p1 - (((p1.toUInt32 >>> ((1 : Int32).toUInt32 &&& Int32.toUInt32 31)).toInt32) &&& 1431655765)) &&& 858993459) + ((((p1 - (((p1.toUInt32 >>> ((1 : Int32).toUInt32 &&& Int32.toUInt32 31)).toInt32) &&& 1431655765)).toUInt32 >>> ((2 : Int32).toUInt32 &&& Int32.toUInt32 31)).toInt32) &&& 858993459)).toUInt32 >>> ((4 : Int32).toUInt32 &&& Int32.toUInt32 31)).toInt32)) &&& 252645135).toUInt32 >>> ((8 : Int32).toUInt32 &&& Int32.toUInt32 31)).toInt32)).toUInt32 >>> ((16 : Int32).toUInt32 &&& Int32.toUInt32 31)).toInt32)))]) hx hb dJ6_bitCount_0f7a4_47 rfl hl (by decide) rfl (fun ls hl => ?_)
  refine lv_iload_n hx hb dJ6_bitCount_0f7a4_48 rfl (lv_at hl 0 rfl) ?_
  refine lv_bipush (v := 63) hx hb dJ6_bitCount_0f7a4_49 (by decide) ?_
  refine lv_iand hx hb dJ6_bitCount_0f7a4_51 ?_
  have h := so h
  subst h
  exact W.iret hx hb hr (fun t ht _ => ⟨rfl, ht⟩) (fun q h => absurd h List.not_mem_nil) dJ6_bitCount_0f7a4_52

theorem in_X1_carts : ∀ w ∈ wsX10, w ∈ wsX1_carts := by decide +kernel
def fX1_carts (σ : St) : Option (Int32) := some (σ 6 0)
set_option maxHeartbeats 4000000 in
set_option maxRecDepth 100000 in
theorem kX1_carts (l : Launch) (G : Gx) (b : Nat) (σ : St) (r : Int32) (h : fX1_carts σ = some r) : Met l yX1_carts wsX1_carts (rmN 0) (pre G [.ref b] (hAt G b σ)) (QcRead r) 0 0 (fun _ => False) := by
  refine Met.ofW (cc := cX1_carts) (maxL := 1) (ret := (some .int)) (by decide) rfl ?_
  intro p e s m args below meth c s₁ B hml hv
  obtain ⟨rfl, X, hK⟩ := hv
  have hx := B.exec
  have hb := B.bytes
  have hr := B.returns
  have hts := atoms_spec (ws := wsX1_carts) B.pre
  have hown : s.vm.findClass RX1 = some m.cls := findClass_of_methodNamed B.named
  have hlocks := B.notSynchronized
  have C : Cx p m c cX1_carts 1 s _ wsX1_carts RX1 G := ⟨⟨hx, hb, hml, hown, hts⟩, hK⟩
  have hin : ∀ w ∈ wsX10, w ∈ wsX1_carts := in_X1_carts
  have hl := lv_entry ([.ref b]) (n := 1) (Nat.le_of_ble_eq_true rfl)
  rw [lg_entry_eq]
  generalize (lg_sl ([.ref b]) ++ List.replicate (1 - (lg_sl ([.ref b])).length) Slot.unset).toArray = ls at hl ⊢
  have hl : lv_has ls 1 [(0, .ref b)] := hl
  unfold fX1_carts at h
  refine lv_aload_n hx hb dX1_carts_0 rfl (lv_at hl 0 rfl) ?_
  refine gt_X1_6 C hin X 1 rfl dX1_carts_1 ?_
  have h := so h
  subst h
  exact W.iret hx hb hr (fun t ht _ => ⟨rfl, ht⟩) (fun q h => absurd h List.not_mem_nil) dX1_carts_4

theorem in_X1_knows : ∀ w ∈ wsX10, w ∈ wsX1_knows := by decide +kernel
def fX1_knows (σ : St) (p1 : Int32) : Option (Int32) := if p1 < 0 then (some 0) else (if (σ 6 0) ≤ p1 then (some 0) else (some 1))
set_option maxHeartbeats 4000000 in
set_option maxRecDepth 100000 in
theorem kX1_knows (l : Launch) (G : Gx) (b : Nat) (σ : St) (p1 : Int32) (r : Int32) (h : fX1_knows σ p1 = some r) : Met l yX1_knows wsX1_knows (rmN 0) (pre G [.ref b, .int p1] (hAt G b σ)) (QcRead r) 0 0 (fun _ => False) := by
  refine Met.ofW (cc := cX1_knows) (maxL := 2) (ret := (some .boolean)) (by decide) rfl ?_
  intro p e s m args below meth c s₁ B hml hv
  obtain ⟨rfl, X, hK⟩ := hv
  have hx := B.exec
  have hb := B.bytes
  have hr := B.returns
  have hts := atoms_spec (ws := wsX1_knows) B.pre
  have hown : s.vm.findClass RX1 = some m.cls := findClass_of_methodNamed B.named
  have hlocks := B.notSynchronized
  have C : Cx p m c cX1_knows 2 s _ wsX1_knows RX1 G := ⟨⟨hx, hb, hml, hown, hts⟩, hK⟩
  have hin : ∀ w ∈ wsX10, w ∈ wsX1_knows := in_X1_knows
  have hl := lv_entry ([.ref b, .int p1]) (n := 2) (Nat.le_of_ble_eq_true rfl)
  rw [lg_entry_eq]
  generalize (lg_sl ([.ref b, .int p1]) ++ List.replicate (2 - (lg_sl ([.ref b, .int p1])).length) Slot.unset).toArray = ls at hl ⊢
  have hl : lv_has ls 2 [(0, .ref b), (1, .int p1)] := hl
  unfold fX1_knows at h
  refine lv_iload_n hx hb dX1_knows_0 rfl (lv_at hl 1 rfl) ?_
  refine lv_if_lt (tgt := 16) hx hb dX1_knows_1 (by decide) (fun c1 => ?_) (fun c1 => ?_)
  · have h := ip h c1
    refine lv_iconst (v := 0) hx hb dX1_knows_16 (by decide) ?_
    have h := so h
    subst h
    exact W.zret hx hb hr rfl (fun t ht _ => ⟨rfl, ht⟩) (fun q h => absurd h List.not_mem_nil) dX1_knows_17
  · have h := iq h c1
    refine lv_iload_n hx hb dX1_knows_4 rfl (lv_at hl 1 rfl) ?_
    refine lv_aload_n hx hb dX1_knows_5 rfl (lv_at hl 0 rfl) ?_
    refine gt_X1_6 C hin X 1 rfl dX1_knows_6 ?_
    refine lv_icmp_ge (tgt := 16) hx hb dX1_knows_9 (by decide) (fun c2 => ?_) (fun c2 => ?_)
    · have h := ip h c2
      refine lv_iconst (v := 0) hx hb dX1_knows_16 (by decide) ?_
      have h := so h
      subst h
      exact W.zret hx hb hr rfl (fun t ht _ => ⟨rfl, ht⟩) (fun q h => absurd h List.not_mem_nil) dX1_knows_17
    · have h := iq h c2
      refine lv_iconst (v := 1) hx hb dX1_knows_12 (by decide) ?_
      refine lv_goto (tgt := 17) hx hb dX1_knows_13 (by decide) ?_
      have h := so h
      subst h
      exact W.zret hx hb hr rfl (fun t ht _ => ⟨rfl, ht⟩) (fun q h => absurd h List.not_mem_nil) dX1_knows_17

def fX1_isSacks (p1 : Int32) : Option (Int32) := if p1 < 0 then (some 0) else (if 99 < p1 then (some 0) else (some 1))
set_option maxHeartbeats 4000000 in
set_option maxRecDepth 100000 in
theorem kX1_isSacks (l : Launch) (G : Gx) (p1 : Int32) (r : Int32) (h : fX1_isSacks p1 = some r) : Met l yX1_isSacks wsX1_isSacks (rmN 0) (pre G [.int p1] (fun _ => True)) (QcRead r) 0 0 (fun _ => False) := by
  refine Met.ofW (cc := cX1_isSacks) (maxL := 1) (ret := (some .boolean)) (by decide) rfl ?_
  intro p e s m args below meth c s₁ B hml hv
  obtain ⟨rfl, -, hK⟩ := hv
  have hx := B.exec
  have hb := B.bytes
  have hr := B.returns
  have hts := atoms_spec (ws := wsX1_isSacks) B.pre
  have hown : s.vm.findClass RX1 = some m.cls := findClass_of_methodNamed B.named
  have hlocks := B.notSynchronized
  have C : Cx p m c cX1_isSacks 1 s _ wsX1_isSacks RX1 G := ⟨⟨hx, hb, hml, hown, hts⟩, hK⟩
  have hl := lv_entry ([.int p1]) (n := 1) (Nat.le_of_ble_eq_true rfl)
  rw [lg_entry_eq]
  generalize (lg_sl ([.int p1]) ++ List.replicate (1 - (lg_sl ([.int p1])).length) Slot.unset).toArray = ls at hl ⊢
  have hl : lv_has ls 1 [(0, .int p1)] := hl
  unfold fX1_isSacks at h
  refine lv_iload_n hx hb dX1_isSacks_0 rfl (lv_at hl 0 rfl) ?_
  refine lv_if_lt (tgt := 14) hx hb dX1_isSacks_1 (by decide) (fun c1 => ?_) (fun c1 => ?_)
  · have h := ip h c1
    refine lv_iconst (v := 0) hx hb dX1_isSacks_14 (by decide) ?_
    have h := so h
    subst h
    exact W.zret hx hb hr rfl (fun t ht _ => ⟨rfl, ht⟩) (fun q h => absurd h List.not_mem_nil) dX1_isSacks_15
  · have h := iq h c1
    refine lv_iload_n hx hb dX1_isSacks_4 rfl (lv_at hl 0 rfl) ?_
    refine lv_bipush (v := 99) hx hb dX1_isSacks_5 (by decide) ?_
    refine lv_icmp_gt (tgt := 14) hx hb dX1_isSacks_7 (by decide) (fun c2 => ?_) (fun c2 => ?_)
    · have h := ip h c2
      refine lv_iconst (v := 0) hx hb dX1_isSacks_14 (by decide) ?_
      have h := so h
      subst h
      exact W.zret hx hb hr rfl (fun t ht _ => ⟨rfl, ht⟩) (fun q h => absurd h List.not_mem_nil) dX1_isSacks_15
    · have h := iq h c2
      refine lv_iconst (v := 1) hx hb dX1_isSacks_10 (by decide) ?_
      refine lv_goto (tgt := 15) hx hb dX1_isSacks_11 (by decide) ?_
      have h := so h
      subst h
      exact W.zret hx hb hr rfl (fun t ht _ => ⟨rfl, ht⟩) (fun q h => absurd h List.not_mem_nil) dX1_isSacks_15

theorem in_X1_sealFor : ∀ w ∈ wsX10, w ∈ wsX1_sealFor := by decide +kernel
def fX1_sealFor (σ : St) (p1 : Int32) (p2 : Int32) : Option (Int32) := if 0 < (σ 0 2) then (if oob p1 24 then none else if (σ 3 p1.toNatClampNeg) < 0 then (if (σ 0 2) = 0 then none else some (((((σ 0 0) * p2) + ((σ 0 1) * 0)) + p1) - ((((σ 0 0) * p2) + ((σ 0 1) * 0)) + p1) / (σ 0 2) * (σ 0 2))) else (if (σ 6 0) ≤ (σ 3 p1.toNatClampNeg) then (if (σ 0 2) = 0 then none else some (((((σ 0 0) * p2) + ((σ 0 1) * 0)) + p1) - ((((σ 0 0) * p2) + ((σ 0 1) * 0)) + p1) / (σ 0 2) * (σ 0 2))) else (if oob (σ 3 p1.toNatClampNeg) 24 then none else if (σ 0 2) = 0 then none else some (((((σ 0 0) * p2) + ((σ 0 1) * (σ 4 (σ 3 p1.toNatClampNeg).toNatClampNeg))) + p1) - ((((σ 0 0) * p2) + ((σ 0 1) * (σ 4 (σ 3 p1.toNatClampNeg).toNatClampNeg))) + p1) / (σ 0 2) * (σ 0 2))))) else (some 0)
set_option maxHeartbeats 4000000 in
set_option maxRecDepth 100000 in
theorem kX1_sealFor (l : Launch) (G : Gx) (b : Nat) (σ : St) (p1 : Int32) (p2 : Int32) (r : Int32) (h : fX1_sealFor σ p1 p2 = some r) : Met l yX1_sealFor wsX1_sealFor (rmN 0) (pre G [.ref b, .int p1, .int p2] (hAt G b σ)) (QcRead r) 0 0 (fun _ => False) := by
  refine Met.ofW (cc := cX1_sealFor) (maxL := 6) (ret := (some .int)) (by decide) rfl ?_
  intro p e s m args below meth c s₁ B hml hv
  obtain ⟨rfl, X, hK⟩ := hv
  have hx := B.exec
  have hb := B.bytes
  have hr := B.returns
  have hts := atoms_spec (ws := wsX1_sealFor) B.pre
  have hown : s.vm.findClass RX1 = some m.cls := findClass_of_methodNamed B.named
  have hlocks := B.notSynchronized
  have C : Cx p m c cX1_sealFor 6 s _ wsX1_sealFor RX1 G := ⟨⟨hx, hb, hml, hown, hts⟩, hK⟩
  have hin : ∀ w ∈ wsX10, w ∈ wsX1_sealFor := in_X1_sealFor
  have hl := lv_entry ([.ref b, .int p1, .int p2]) (n := 6) (Nat.le_of_ble_eq_true rfl)
  rw [lg_entry_eq]
  generalize (lg_sl ([.ref b, .int p1, .int p2]) ++ List.replicate (6 - (lg_sl ([.ref b, .int p1, .int p2])).length) Slot.unset).toArray = ls at hl ⊢
  have hl : lv_has ls 6 [(0, .ref b), (1, .int p1), (2, .int p2)] := hl
  unfold fX1_sealFor at h
  refine lv_aload_n hx hb dX1_sealFor_0 rfl (lv_at hl 0 rfl) ?_
  refine gt_X1_0 C hin X 1 rfl dX1_sealFor_1 ?_
  refine lv_iconst (v := 2) hx hb dX1_sealFor_4 (by decide) ?_
  refine al_X1_0 (j := 2) C X rfl (by decide) dX1_sealFor_5 ?_
  refine lv_istore_n (lv' := [(3, .int (σ 0 2)), (0, .ref b), (1, .int p1), (2, .int p2)]) hx hb dX1_sealFor_6 rfl hl (by decide) rfl (fun ls hl => ?_)
  refine lv_iload_n hx hb dX1_sealFor_7 rfl (lv_at hl 0 rfl) ?_
  refine lv_if_gt (tgt := 13) hx hb dX1_sealFor_8 (by decide) (fun c1 => ?_) (fun c1 => ?_)
  · have h := ip h c1
    refine lv_aload_n hx hb dX1_sealFor_13 rfl (lv_at hl 1 rfl) ?_
    refine gt_X1_3 C hin X 2 rfl dX1_sealFor_14 ?_
    refine lv_iload_n hx hb dX1_sealFor_17 rfl (lv_at hl 2 rfl) ?_
    obtain ⟨c2, h⟩ := og h
    refine al_X1_3 C X rfl c2 dX1_sealFor_18 ?_
    refine lv_istore (lv' := [(4, .int (σ 3 p1.toNatClampNeg)), (3, .int (σ 0 2)), (0, .ref b), (1, .int p1), (2, .int p2)]) hx hb dX1_sealFor_19 hl (by decide) rfl (fun ls hl => ?_)
    refine lv_iload hx hb dX1_sealFor_21 (lv_at hl 0 rfl) ?_
    refine lv_if_lt (tgt := 45) hx hb dX1_sealFor_23 (by decide) (fun c3 => ?_) (fun c3 => ?_)
    · have h := ip h c3
      refine lv_iconst (v := 0) hx hb dX1_sealFor_45 (by decide) ?_
      refine lv_istore (lv' := [(5, .int 0), (4, .int (σ 3 p1.toNatClampNeg)), (3, .int (σ 0 2)), (0, .ref b), (1, .int p1), (2, .int p2)]) hx hb dX1_sealFor_46 hl (by decide) rfl (fun ls hl => ?_)
      refine lv_aload_n hx hb dX1_sealFor_48 rfl (lv_at hl 3 rfl) ?_
      refine gt_X1_0 C hin X 1 rfl dX1_sealFor_49 ?_
      refine lv_iconst (v := 0) hx hb dX1_sealFor_52 (by decide) ?_
      refine al_X1_0 (j := 0) C X rfl (by decide) dX1_sealFor_53 ?_
      refine lv_iload_n hx hb dX1_sealFor_54 rfl (lv_at hl 5 rfl) ?_
      refine lv_imul hx hb dX1_sealFor_55 ?_
      refine lv_aload_n hx hb dX1_sealFor_56 rfl (lv_at hl 3 rfl) ?_
      refine gt_X1_0 C hin X 1 rfl dX1_sealFor_57 ?_
      refine lv_iconst (v := 1) hx hb dX1_sealFor_60 (by decide) ?_
      refine al_X1_0 (j := 1) C X rfl (by decide) dX1_sealFor_61 ?_
      refine lv_iload hx hb dX1_sealFor_62 (lv_at hl 0 rfl) ?_
      refine lv_imul hx hb dX1_sealFor_64 ?_
      refine lv_iadd hx hb dX1_sealFor_65 ?_
      refine lv_iload_n hx hb dX1_sealFor_66 rfl (lv_at hl 4 rfl) ?_
      refine lv_iadd hx hb dX1_sealFor_67 ?_
      refine lv_iload_n hx hb dX1_sealFor_68 rfl (lv_at hl 2 rfl) ?_
      obtain ⟨c4, h⟩ := og h
      refine lv_irem hx hb dX1_sealFor_69 c4 ?_
      have h := so h
      subst h
      exact W.iret hx hb hr (fun t ht _ => ⟨rfl, ht⟩) (fun q h => absurd h List.not_mem_nil) dX1_sealFor_70
    · have h := iq h c3
      refine lv_iload hx hb dX1_sealFor_26 (lv_at hl 0 rfl) ?_
      refine lv_aload_n hx hb dX1_sealFor_28 rfl (lv_at hl 2 rfl) ?_
      refine gt_X1_6 C hin X 3 rfl dX1_sealFor_29 ?_
      refine lv_icmp_ge (tgt := 45) hx hb dX1_sealFor_32 (by decide) (fun c5 => ?_) (fun c5 => ?_)
      · have h := ip h c5
        refine lv_iconst (v := 0) hx hb dX1_sealFor_45 (by decide) ?_
        refine lv_istore (lv' := [(5, .int 0), (4, .int (σ 3 p1.toNatClampNeg)), (3, .int (σ 0 2)), (0, .ref b), (1, .int p1), (2, .int p2)]) hx hb dX1_sealFor_46 hl (by decide) rfl (fun ls hl => ?_)
        refine lv_aload_n hx hb dX1_sealFor_48 rfl (lv_at hl 3 rfl) ?_
        refine gt_X1_0 C hin X 1 rfl dX1_sealFor_49 ?_
        refine lv_iconst (v := 0) hx hb dX1_sealFor_52 (by decide) ?_
        refine al_X1_0 (j := 0) C X rfl (by decide) dX1_sealFor_53 ?_
        refine lv_iload_n hx hb dX1_sealFor_54 rfl (lv_at hl 5 rfl) ?_
        refine lv_imul hx hb dX1_sealFor_55 ?_
        refine lv_aload_n hx hb dX1_sealFor_56 rfl (lv_at hl 3 rfl) ?_
        refine gt_X1_0 C hin X 1 rfl dX1_sealFor_57 ?_
        refine lv_iconst (v := 1) hx hb dX1_sealFor_60 (by decide) ?_
        refine al_X1_0 (j := 1) C X rfl (by decide) dX1_sealFor_61 ?_
        refine lv_iload hx hb dX1_sealFor_62 (lv_at hl 0 rfl) ?_
        refine lv_imul hx hb dX1_sealFor_64 ?_
        refine lv_iadd hx hb dX1_sealFor_65 ?_
        refine lv_iload_n hx hb dX1_sealFor_66 rfl (lv_at hl 4 rfl) ?_
        refine lv_iadd hx hb dX1_sealFor_67 ?_
        refine lv_iload_n hx hb dX1_sealFor_68 rfl (lv_at hl 2 rfl) ?_
        obtain ⟨c6, h⟩ := og h
        refine lv_irem hx hb dX1_sealFor_69 c6 ?_
        have h := so h
        subst h
        exact W.iret hx hb hr (fun t ht _ => ⟨rfl, ht⟩) (fun q h => absurd h List.not_mem_nil) dX1_sealFor_70
      · have h := iq h c5
        refine lv_aload_n hx hb dX1_sealFor_35 rfl (lv_at hl 2 rfl) ?_
        refine gt_X1_4 C hin X 4 rfl dX1_sealFor_36 ?_
        refine lv_iload hx hb dX1_sealFor_39 (lv_at hl 0 rfl) ?_
        obtain ⟨c7, h⟩ := og h
        refine al_X1_4 C X rfl c7 dX1_sealFor_41 ?_
        refine lv_goto (tgt := 46) hx hb dX1_sealFor_42 (by decide) ?_
        refine lv_istore (lv' := [(5, .int (σ 4 (σ 3 p1.toNatClampNeg).toNatClampNeg)), (4, .int (σ 3 p1.toNatClampNeg)), (3, .int (σ 0 2)), (0, .ref b), (1, .int p1), (2, .int p2)]) hx hb dX1_sealFor_46 hl (by decide) rfl (fun ls hl => ?_)
        refine lv_aload_n hx hb dX1_sealFor_48 rfl (lv_at hl 3 rfl) ?_
        refine gt_X1_0 C hin X 1 rfl dX1_sealFor_49 ?_
        refine lv_iconst (v := 0) hx hb dX1_sealFor_52 (by decide) ?_
        refine al_X1_0 (j := 0) C X rfl (by decide) dX1_sealFor_53 ?_
        refine lv_iload_n hx hb dX1_sealFor_54 rfl (lv_at hl 5 rfl) ?_
        refine lv_imul hx hb dX1_sealFor_55 ?_
        refine lv_aload_n hx hb dX1_sealFor_56 rfl (lv_at hl 3 rfl) ?_
        refine gt_X1_0 C hin X 1 rfl dX1_sealFor_57 ?_
        refine lv_iconst (v := 1) hx hb dX1_sealFor_60 (by decide) ?_
        refine al_X1_0 (j := 1) C X rfl (by decide) dX1_sealFor_61 ?_
        refine lv_iload hx hb dX1_sealFor_62 (lv_at hl 0 rfl) ?_
        refine lv_imul hx hb dX1_sealFor_64 ?_
        refine lv_iadd hx hb dX1_sealFor_65 ?_
        refine lv_iload_n hx hb dX1_sealFor_66 rfl (lv_at hl 4 rfl) ?_
        refine lv_iadd hx hb dX1_sealFor_67 ?_
        refine lv_iload_n hx hb dX1_sealFor_68 rfl (lv_at hl 2 rfl) ?_
        obtain ⟨c8, h⟩ := og h
        refine lv_irem hx hb dX1_sealFor_69 c8 ?_
        have h := so h
        subst h
        exact W.iret hx hb hr (fun t ht _ => ⟨rfl, ht⟩) (fun q h => absurd h List.not_mem_nil) dX1_sealFor_70
  · have h := iq h c1
    refine lv_iconst (v := 0) hx hb dX1_sealFor_11 (by decide) ?_
    have h := so h
    subst h
    exact W.iret hx hb hr (fun t ht _ => ⟨rfl, ht⟩) (fun q h => absurd h List.not_mem_nil) dX1_sealFor_12

theorem in_X1_rightSeal : ∀ w ∈ wsX10, w ∈ wsX1_rightSeal := by decide +kernel
def fX1_rightSeal (σ : St) (p1 : Int32) : Option (Int32) := if oob p1 24 then none else (fX1_sealFor σ p1 (σ 1 p1.toNatClampNeg)).bind (fun r2 => some r2)
set_option maxHeartbeats 4000000 in
set_option maxRecDepth 100000 in
theorem kX1_rightSeal (l : Launch) (G : Gx) (b : Nat) (σ : St) (p1 : Int32) (r : Int32) (h : fX1_rightSeal σ p1 = some r) : Met l yX1_rightSeal wsX1_rightSeal (rmN 1) (pre G [.ref b, .int p1] (hAt G b σ)) (QcRead r) 0 0 (fun _ => False) := by
  refine Met.ofW (cc := cX1_rightSeal) (maxL := 2) (ret := (some .int)) (by decide) rfl ?_
  intro p e s m args below meth c s₁ B hml hv
  obtain ⟨rfl, X, hK⟩ := hv
  have hx := B.exec
  have hb := B.bytes
  have hr := B.returns
  have hts := atoms_spec (ws := wsX1_rightSeal) B.pre
  have hown : s.vm.findClass RX1 = some m.cls := findClass_of_methodNamed B.named
  have hlocks := B.notSynchronized
  have C : Cx p m c cX1_rightSeal 2 s _ wsX1_rightSeal RX1 G := ⟨⟨hx, hb, hml, hown, hts⟩, hK⟩
  have hin : ∀ w ∈ wsX10, w ∈ wsX1_rightSeal := in_X1_rightSeal
  have hl := lv_entry ([.ref b, .int p1]) (n := 2) (Nat.le_of_ble_eq_true rfl)
  rw [lg_entry_eq]
  generalize (lg_sl ([.ref b, .int p1]) ++ List.replicate (2 - (lg_sl ([.ref b, .int p1])).length) Slot.unset).toArray = ls at hl ⊢
  have hl : lv_has ls 2 [(0, .ref b), (1, .int p1)] := hl
  unfold fX1_rightSeal at h
  refine lv_aload_n hx hb dX1_rightSeal_0 rfl (lv_at hl 0 rfl) ?_
  refine lv_iload_n hx hb dX1_rightSeal_1 rfl (lv_at hl 1 rfl) ?_
  refine lv_aload_n hx hb dX1_rightSeal_2 rfl (lv_at hl 0 rfl) ?_
  refine gt_X1_1 C hin X 1 rfl dX1_rightSeal_3 ?_
  refine lv_iload_n hx hb dX1_rightSeal_6 rfl (lv_at hl 1 rfl) ?_
  obtain ⟨c1, h⟩ := og h
  refine al_X1_1 C X rfl c1 dX1_rightSeal_7 ?_
  obtain ⟨r2, hr2, h⟩ := ob h
  refine rowV (As := [.int p1, .int (σ 1 p1.toNatClampNeg)]) (rest := []) C (kX1_sealFor l G b σ p1 (σ 1 p1.toNatClampNeg) r2 hr2) (cwV 2 hts gX1_rightSeal_X1_sealFor rfl rfl rfl (by decide +kernel) ⟨Nat.le_of_ble_eq_true rfl, Nat.le_of_ble_eq_true rfl⟩) (rcv_X1 X hK) X rfl hl.1 rfl (Nat.le_of_ble_eq_true rfl) dX1_rightSeal_8 ⟨Nat.zero_le _, Nat.zero_le _⟩ ?_
  have h := so h
  subst h
  exact W.iret hx hb hr (fun t ht _ => ⟨rfl, ht⟩) (fun q h => absurd h List.not_mem_nil) dX1_rightSeal_11

theorem in_X1_admit : ∀ w ∈ wsX10, w ∈ wsX1_admit := by decide +kernel
def fX1_admit (σ : St) (p1 : Int32) (p2 : Int32) (p3 : Int32) : Option (Int32 × St) := if p3 = (-1) then ((fX1_isSacks p1).bind (fun r2 => if r2 = 0 then (some ((-2), σ)) else ((fX1_isSacks p2).bind (fun r4 => if r4 = 0 then (some ((-2), σ)) else (if (σ 6 0) < 24 then (if oob (σ 6 0) 24 then none else if oob (σ 6 0) 24 then none else if oob (σ 6 0) 24 then none else if oob (σ 6 0) 24 then none else (fX1_rightSeal (up (up (up (up (up σ 6 0 ((σ 6 0) + 1)) 1 (σ 6 0).toNatClampNeg p1) 2 (σ 6 0).toNatClampNeg p2) 3 (σ 6 0).toNatClampNeg p3) 5 (σ 6 0).toNatClampNeg 0) (σ 6 0)).bind (fun r11 => if oob (σ 6 0) 24 then none else some (σ 6 0, up (up (up (up (up (up (up σ 6 0 ((σ 6 0) + 1)) 1 (σ 6 0).toNatClampNeg p1) 2 (σ 6 0).toNatClampNeg p2) 3 (σ 6 0).toNatClampNeg p3) 5 (σ 6 0).toNatClampNeg 0) 4 (σ 6 0).toNatClampNeg r11) 10 0 (((up (up (up (up (up (up σ 6 0 ((σ 6 0) + 1)) 1 (σ 6 0).toNatClampNeg p1) 2 (σ 6 0).toNatClampNeg p2) 3 (σ 6 0).toNatClampNeg p3) 5 (σ 6 0).toNatClampNeg 0) 4 (σ 6 0).toNatClampNeg r11) 10 0) + p1)))) else (some ((-3), σ))))))) else ((fX1_knows σ p3).bind (fun r13 => if r13 = 0 then (some ((-1), σ)) else ((fX1_isSacks p1).bind (fun r15 => if r15 = 0 then (some ((-2), σ)) else ((fX1_isSacks p2).bind (fun r17 => if r17 = 0 then (some ((-2), σ)) else (if (σ 6 0) < 24 then (if oob (σ 6 0) 24 then none else if oob (σ 6 0) 24 then none else if oob (σ 6 0) 24 then none else if oob (σ 6 0) 24 then none else (fX1_rightSeal (up (up (up (up (up σ 6 0 ((σ 6 0) + 1)) 1 (σ 6 0).toNatClampNeg p1) 2 (σ 6 0).toNatClampNeg p2) 3 (σ 6 0).toNatClampNeg p3) 5 (σ 6 0).toNatClampNeg 0) (σ 6 0)).bind (fun r24 => if oob (σ 6 0) 24 then none else some (σ 6 0, up (up (up (up (up (up (up σ 6 0 ((σ 6 0) + 1)) 1 (σ 6 0).toNatClampNeg p1) 2 (σ 6 0).toNatClampNeg p2) 3 (σ 6 0).toNatClampNeg p3) 5 (σ 6 0).toNatClampNeg 0) 4 (σ 6 0).toNatClampNeg r24) 10 0 (((up (up (up (up (up (up σ 6 0 ((σ 6 0) + 1)) 1 (σ 6 0).toNatClampNeg p1) 2 (σ 6 0).toNatClampNeg p2) 3 (σ 6 0).toNatClampNeg p3) 5 (σ 6 0).toNatClampNeg 0) 4 (σ 6 0).toNatClampNeg r24) 10 0) + p1)))) else (some ((-3), σ)))))))))
set_option maxHeartbeats 4000000 in
set_option maxRecDepth 100000 in
theorem kX1_admit (l : Launch) (G : Gx) (b : Nat) (σ : St) (p1 : Int32) (p2 : Int32) (p3 : Int32) (r : Int32) (σ' : St) (h : fX1_admit σ p1 p2 p3 = some (r, σ')) : Met l yX1_admit wsX1_admit (rmN 2) (pre G [.ref b, .int p1, .int p2, .int p3] (hAt G b σ)) (QcW b (b + 7) (hAt G b σ') (some (.int r))) 0 0 (lw_Fr b (b + 7)) := by
  refine Met.ofW (cc := cX1_admit) (maxL := 5) (ret := (some .int)) (by decide) rfl ?_
  intro p e s m args below meth c s₁ B hml hv
  obtain ⟨rfl, X, hK⟩ := hv
  have hx := B.exec
  have hb := B.bytes
  have hr := B.returns
  have hts := atoms_spec (ws := wsX1_admit) B.pre
  have hown : s.vm.findClass RX1 = some m.cls := findClass_of_methodNamed B.named
  have hlocks := B.notSynchronized
  have C : Cx p m c cX1_admit 5 s _ wsX1_admit RX1 G := ⟨⟨hx, hb, hml, hown, hts⟩, hK⟩
  have hin : ∀ w ∈ wsX10, w ∈ wsX1_admit := in_X1_admit
  have hS : va_S (lw_Fr b (b + 7)) s.heap s.heap [] := va_S.rf
  have hl := lv_entry ([.ref b, .int p1, .int p2, .int p3]) (n := 5) (Nat.le_of_ble_eq_true rfl)
  rw [lg_entry_eq]
  generalize (lg_sl ([.ref b, .int p1, .int p2, .int p3]) ++ List.replicate (5 - (lg_sl ([.ref b, .int p1, .int p2, .int p3])).length) Slot.unset).toArray = ls at hl ⊢
  have hl : lv_has ls 5 [(0, .ref b), (1, .int p1), (2, .int p2), (3, .int p3)] := hl
  unfold fX1_admit at h
  refine lv_iload_n hx hb dX1_admit_0 rfl (lv_at hl 3 rfl) ?_
  refine lv_iconst (v := (-1)) hx hb dX1_admit_1 (by decide) ?_
  refine lv_icmp_eq (tgt := 15) hx hb dX1_admit_2 (by decide) (fun c1 => ?_) (fun c1 => ?_)
  · have h := ip h c1
    refine lv_iload_n hx hb dX1_admit_15 rfl (lv_at hl 1 rfl) ?_
    obtain ⟨r2, hr2, h⟩ := ob h
    refine rowS (As := [.int p1]) (rest := []) (B := fun _ => True) C (kX1_isSacks l G p1 r2 hr2) (va_cwS 1 hts gX1_admit_X1_isSacks rfl rfl rfl (by decide +kernel) ⟨Nat.le_of_ble_eq_true rfl, Nat.le_of_ble_eq_true rfl⟩) trivial rfl hl.1 rfl (Nat.le_of_ble_eq_true rfl) dX1_admit_16 ⟨Nat.zero_le _, Nat.zero_le _⟩ ?_
    refine lv_if_eq (tgt := 29) hx hb dX1_admit_19 (by decide) (fun c3 => ?_) (fun c3 => ?_)
    · have h := ip h c3
      refine lv_bipush (v := (-2)) hx hb dX1_admit_29 (by decide) ?_
      obtain ⟨h, h9⟩ := pr h
      subst h
      subst h9
      exact W.iret hx hb hr (fun t ht _ => ⟨rfl, by rw [ht]; exact X, hS.F ht⟩) hS.2.2 dX1_admit_31
    · have h := iq h c3
      refine lv_iload_n hx hb dX1_admit_22 rfl (lv_at hl 2 rfl) ?_
      obtain ⟨r4, hr4, h⟩ := ob h
      refine rowS (As := [.int p2]) (rest := []) (B := fun _ => True) C (kX1_isSacks l G p2 r4 hr4) (va_cwS 1 hts gX1_admit_X1_isSacks rfl rfl rfl (by decide +kernel) ⟨Nat.le_of_ble_eq_true rfl, Nat.le_of_ble_eq_true rfl⟩) trivial rfl hl.1 rfl (Nat.le_of_ble_eq_true rfl) dX1_admit_23 ⟨Nat.zero_le _, Nat.zero_le _⟩ ?_
      refine lv_if_ne (tgt := 32) hx hb dX1_admit_26 (by decide) (fun c5 => ?_) (fun c5 => ?_)
      · have h := iq h c5
        refine lv_aload_n hx hb dX1_admit_32 rfl (lv_at hl 0 rfl) ?_
        refine gt_X1_6 C hin X 1 rfl dX1_admit_33 ?_
        refine lv_bipush (v := 24) hx hb dX1_admit_36 (by decide) ?_
        refine lv_icmp_lt (tgt := 44) hx hb dX1_admit_38 (by decide) (fun c6 => ?_) (fun c6 => ?_)
        · have h := ip h c6
          refine lv_aload_n hx hb dX1_admit_44 rfl (lv_at hl 0 rfl) ?_
          refine gt_X1_6 C hin X 1 rfl dX1_admit_45 ?_
          refine lv_istore (lv' := [(4, .int (σ 6 0)), (0, .ref b), (1, .int p1), (2, .int p2), (3, .int p3)]) hx hb dX1_admit_48 hl (by decide) rfl (fun ls hl => ?_)
          refine lv_aload_n hx hb dX1_admit_50 rfl (lv_at hl 1 rfl) ?_
          refine lv_dup hx hb dX1_admit_51 rfl ?_
          refine gt_X1_6 C hin X 1 rfl dX1_admit_52 ?_
          refine lv_iconst (v := 1) hx hb dX1_admit_55 (by decide) ?_
          refine lv_iadd hx hb dX1_admit_56 ?_
          refine pt_X1_6 C hin X hS 1 rfl dX1_admit_57 (fun H locs X hS => ?_)
          refine lv_aload_n hx hb dX1_admit_60 rfl (lv_at hl 1 rfl) ?_
          refine gt_X1_1 C hin X 2 rfl dX1_admit_61 ?_
          refine lv_iload hx hb dX1_admit_64 (lv_at hl 0 rfl) ?_
          refine lv_iload_n hx hb dX1_admit_66 rfl (lv_at hl 2 rfl) ?_
          obtain ⟨c7, h⟩ := og h
          refine as_X1_1 C X hS rfl c7 dX1_admit_67 (fun H locs X hS => ?_)
          refine lv_aload_n hx hb dX1_admit_68 rfl (lv_at hl 1 rfl) ?_
          refine gt_X1_2 C hin X 3 rfl dX1_admit_69 ?_
          refine lv_iload hx hb dX1_admit_72 (lv_at hl 0 rfl) ?_
          refine lv_iload_n hx hb dX1_admit_74 rfl (lv_at hl 3 rfl) ?_
          obtain ⟨c8, h⟩ := og h
          refine as_X1_2 C X hS rfl c8 dX1_admit_75 (fun H locs X hS => ?_)
          refine lv_aload_n hx hb dX1_admit_76 rfl (lv_at hl 1 rfl) ?_
          refine gt_X1_3 C hin X 4 rfl dX1_admit_77 ?_
          refine lv_iload hx hb dX1_admit_80 (lv_at hl 0 rfl) ?_
          refine lv_iload_n hx hb dX1_admit_82 rfl (lv_at hl 4 rfl) ?_
          obtain ⟨c9, h⟩ := og h
          refine as_X1_3 C X hS rfl c9 dX1_admit_83 (fun H locs X hS => ?_)
          refine lv_aload_n hx hb dX1_admit_84 rfl (lv_at hl 1 rfl) ?_
          refine gt_X1_5 C hin X 5 rfl dX1_admit_85 ?_
          refine lv_iload hx hb dX1_admit_88 (lv_at hl 0 rfl) ?_
          refine lv_iconst (v := 0) hx hb dX1_admit_90 (by decide) ?_
          obtain ⟨c10, h⟩ := og h
          refine as_X1_5 C X hS rfl c10 dX1_admit_91 (fun H locs X hS => ?_)
          refine lv_aload_n hx hb dX1_admit_92 rfl (lv_at hl 1 rfl) ?_
          refine gt_X1_4 C hin X 6 rfl dX1_admit_93 ?_
          refine lv_iload hx hb dX1_admit_96 (lv_at hl 0 rfl) ?_
          refine lv_aload_n hx hb dX1_admit_98 rfl (lv_at hl 1 rfl) ?_
          refine lv_iload hx hb dX1_admit_99 (lv_at hl 0 rfl) ?_
          obtain ⟨r11, hr11, h⟩ := ob h
          refine rowV (As := [.int (σ 6 0)]) (rest := [.int (σ 6 0), .ref (b + 5)]) C (kX1_rightSeal l G b (up (up (up (up (up σ 6 0 ((σ 6 0) + 1)) 1 (σ 6 0).toNatClampNeg p1) 2 (σ 6 0).toNatClampNeg p2) 3 (σ 6 0).toNatClampNeg p3) 5 (σ 6 0).toNatClampNeg 0) (σ 6 0) r11 hr11) (cwV 1 hts gX1_admit_X1_rightSeal rfl rfl rfl (by decide +kernel) ⟨Nat.le_of_ble_eq_true rfl, Nat.le_of_ble_eq_true rfl⟩) (rcv_X1 X hK) X rfl hl.1 rfl (Nat.le_of_ble_eq_true rfl) dX1_admit_101 ⟨Nat.zero_le _, Nat.zero_le _⟩ ?_
          obtain ⟨c12, h⟩ := og h
          refine as_X1_4 C X hS rfl c12 dX1_admit_104 (fun H locs X hS => ?_)
          refine lv_aload_n hx hb dX1_admit_105 rfl (lv_at hl 1 rfl) ?_
          refine lv_dup hx hb dX1_admit_106 rfl ?_
          refine gt_X1_10 C hin X 7 rfl dX1_admit_107 ?_
          refine lv_iload_n hx hb dX1_admit_110 rfl (lv_at hl 2 rfl) ?_
          refine lv_iadd hx hb dX1_admit_111 ?_
          refine pt_X1_10 C hin X hS 7 rfl dX1_admit_112 (fun H locs X hS => ?_)
          refine lv_iload hx hb dX1_admit_115 (lv_at hl 0 rfl) ?_
          obtain ⟨h, h9⟩ := pr h
          subst h
          subst h9
          exact W.iret hx hb hr (fun t ht _ => ⟨rfl, by rw [ht]; exact X, hS.F ht⟩) hS.2.2 dX1_admit_117
        · have h := iq h c6
          refine lv_bipush (v := (-3)) hx hb dX1_admit_41 (by decide) ?_
          obtain ⟨h, h9⟩ := pr h
          subst h
          subst h9
          exact W.iret hx hb hr (fun t ht _ => ⟨rfl, by rw [ht]; exact X, hS.F ht⟩) hS.2.2 dX1_admit_43
      · have h := ip h c5
        refine lv_bipush (v := (-2)) hx hb dX1_admit_29 (by decide) ?_
        obtain ⟨h, h9⟩ := pr h
        subst h
        subst h9
        exact W.iret hx hb hr (fun t ht _ => ⟨rfl, by rw [ht]; exact X, hS.F ht⟩) hS.2.2 dX1_admit_31
  · have h := iq h c1
    refine lv_aload_n hx hb dX1_admit_5 rfl (lv_at hl 0 rfl) ?_
    refine lv_iload_n hx hb dX1_admit_6 rfl (lv_at hl 3 rfl) ?_
    obtain ⟨r13, hr13, h⟩ := ob h
    refine rowV (As := [.int p3]) (rest := []) C (kX1_knows l G b σ p3 r13 hr13) (cwV 1 hts gX1_admit_X1_knows rfl rfl rfl (by decide +kernel) ⟨Nat.le_of_ble_eq_true rfl, Nat.le_of_ble_eq_true rfl⟩) (rcv_X1 X hK) X rfl hl.1 rfl (Nat.le_of_ble_eq_true rfl) dX1_admit_7 ⟨Nat.zero_le _, Nat.zero_le _⟩ ?_
    refine lv_if_ne (tgt := 15) hx hb dX1_admit_10 (by decide) (fun c14 => ?_) (fun c14 => ?_)
    · have h := iq h c14
      refine lv_iload_n hx hb dX1_admit_15 rfl (lv_at hl 1 rfl) ?_
      obtain ⟨r15, hr15, h⟩ := ob h
      refine rowS (As := [.int p1]) (rest := []) (B := fun _ => True) C (kX1_isSacks l G p1 r15 hr15) (va_cwS 1 hts gX1_admit_X1_isSacks rfl rfl rfl (by decide +kernel) ⟨Nat.le_of_ble_eq_true rfl, Nat.le_of_ble_eq_true rfl⟩) trivial rfl hl.1 rfl (Nat.le_of_ble_eq_true rfl) dX1_admit_16 ⟨Nat.zero_le _, Nat.zero_le _⟩ ?_
      refine lv_if_eq (tgt := 29) hx hb dX1_admit_19 (by decide) (fun c16 => ?_) (fun c16 => ?_)
      · have h := ip h c16
        refine lv_bipush (v := (-2)) hx hb dX1_admit_29 (by decide) ?_
        obtain ⟨h, h9⟩ := pr h
        subst h
        subst h9
        exact W.iret hx hb hr (fun t ht _ => ⟨rfl, by rw [ht]; exact X, hS.F ht⟩) hS.2.2 dX1_admit_31
      · have h := iq h c16
        refine lv_iload_n hx hb dX1_admit_22 rfl (lv_at hl 2 rfl) ?_
        obtain ⟨r17, hr17, h⟩ := ob h
        refine rowS (As := [.int p2]) (rest := []) (B := fun _ => True) C (kX1_isSacks l G p2 r17 hr17) (va_cwS 1 hts gX1_admit_X1_isSacks rfl rfl rfl (by decide +kernel) ⟨Nat.le_of_ble_eq_true rfl, Nat.le_of_ble_eq_true rfl⟩) trivial rfl hl.1 rfl (Nat.le_of_ble_eq_true rfl) dX1_admit_23 ⟨Nat.zero_le _, Nat.zero_le _⟩ ?_
        refine lv_if_ne (tgt := 32) hx hb dX1_admit_26 (by decide) (fun c18 => ?_) (fun c18 => ?_)
        · have h := iq h c18
          refine lv_aload_n hx hb dX1_admit_32 rfl (lv_at hl 0 rfl) ?_
          refine gt_X1_6 C hin X 1 rfl dX1_admit_33 ?_
          refine lv_bipush (v := 24) hx hb dX1_admit_36 (by decide) ?_
          refine lv_icmp_lt (tgt := 44) hx hb dX1_admit_38 (by decide) (fun c19 => ?_) (fun c19 => ?_)
          · have h := ip h c19
            refine lv_aload_n hx hb dX1_admit_44 rfl (lv_at hl 0 rfl) ?_
            refine gt_X1_6 C hin X 1 rfl dX1_admit_45 ?_
            refine lv_istore (lv' := [(4, .int (σ 6 0)), (0, .ref b), (1, .int p1), (2, .int p2), (3, .int p3)]) hx hb dX1_admit_48 hl (by decide) rfl (fun ls hl => ?_)
            refine lv_aload_n hx hb dX1_admit_50 rfl (lv_at hl 1 rfl) ?_
            refine lv_dup hx hb dX1_admit_51 rfl ?_
            refine gt_X1_6 C hin X 1 rfl dX1_admit_52 ?_
            refine lv_iconst (v := 1) hx hb dX1_admit_55 (by decide) ?_
            refine lv_iadd hx hb dX1_admit_56 ?_
            refine pt_X1_6 C hin X hS 1 rfl dX1_admit_57 (fun H locs X hS => ?_)
            refine lv_aload_n hx hb dX1_admit_60 rfl (lv_at hl 1 rfl) ?_
            refine gt_X1_1 C hin X 2 rfl dX1_admit_61 ?_
            refine lv_iload hx hb dX1_admit_64 (lv_at hl 0 rfl) ?_
            refine lv_iload_n hx hb dX1_admit_66 rfl (lv_at hl 2 rfl) ?_
            obtain ⟨c20, h⟩ := og h
            refine as_X1_1 C X hS rfl c20 dX1_admit_67 (fun H locs X hS => ?_)
            refine lv_aload_n hx hb dX1_admit_68 rfl (lv_at hl 1 rfl) ?_
            refine gt_X1_2 C hin X 3 rfl dX1_admit_69 ?_
            refine lv_iload hx hb dX1_admit_72 (lv_at hl 0 rfl) ?_
            refine lv_iload_n hx hb dX1_admit_74 rfl (lv_at hl 3 rfl) ?_
            obtain ⟨c21, h⟩ := og h
            refine as_X1_2 C X hS rfl c21 dX1_admit_75 (fun H locs X hS => ?_)
            refine lv_aload_n hx hb dX1_admit_76 rfl (lv_at hl 1 rfl) ?_
            refine gt_X1_3 C hin X 4 rfl dX1_admit_77 ?_
            refine lv_iload hx hb dX1_admit_80 (lv_at hl 0 rfl) ?_
            refine lv_iload_n hx hb dX1_admit_82 rfl (lv_at hl 4 rfl) ?_
            obtain ⟨c22, h⟩ := og h
            refine as_X1_3 C X hS rfl c22 dX1_admit_83 (fun H locs X hS => ?_)
            refine lv_aload_n hx hb dX1_admit_84 rfl (lv_at hl 1 rfl) ?_
            refine gt_X1_5 C hin X 5 rfl dX1_admit_85 ?_
            refine lv_iload hx hb dX1_admit_88 (lv_at hl 0 rfl) ?_
            refine lv_iconst (v := 0) hx hb dX1_admit_90 (by decide) ?_
            obtain ⟨c23, h⟩ := og h
            refine as_X1_5 C X hS rfl c23 dX1_admit_91 (fun H locs X hS => ?_)
            refine lv_aload_n hx hb dX1_admit_92 rfl (lv_at hl 1 rfl) ?_
            refine gt_X1_4 C hin X 6 rfl dX1_admit_93 ?_
            refine lv_iload hx hb dX1_admit_96 (lv_at hl 0 rfl) ?_
            refine lv_aload_n hx hb dX1_admit_98 rfl (lv_at hl 1 rfl) ?_
            refine lv_iload hx hb dX1_admit_99 (lv_at hl 0 rfl) ?_
            obtain ⟨r24, hr24, h⟩ := ob h
            refine rowV (As := [.int (σ 6 0)]) (rest := [.int (σ 6 0), .ref (b + 5)]) C (kX1_rightSeal l G b (up (up (up (up (up σ 6 0 ((σ 6 0) + 1)) 1 (σ 6 0).toNatClampNeg p1) 2 (σ 6 0).toNatClampNeg p2) 3 (σ 6 0).toNatClampNeg p3) 5 (σ 6 0).toNatClampNeg 0) (σ 6 0) r24 hr24) (cwV 1 hts gX1_admit_X1_rightSeal rfl rfl rfl (by decide +kernel) ⟨Nat.le_of_ble_eq_true rfl, Nat.le_of_ble_eq_true rfl⟩) (rcv_X1 X hK) X rfl hl.1 rfl (Nat.le_of_ble_eq_true rfl) dX1_admit_101 ⟨Nat.zero_le _, Nat.zero_le _⟩ ?_
            obtain ⟨c25, h⟩ := og h
            refine as_X1_4 C X hS rfl c25 dX1_admit_104 (fun H locs X hS => ?_)
            refine lv_aload_n hx hb dX1_admit_105 rfl (lv_at hl 1 rfl) ?_
            refine lv_dup hx hb dX1_admit_106 rfl ?_
            refine gt_X1_10 C hin X 7 rfl dX1_admit_107 ?_
            refine lv_iload_n hx hb dX1_admit_110 rfl (lv_at hl 2 rfl) ?_
            refine lv_iadd hx hb dX1_admit_111 ?_
            refine pt_X1_10 C hin X hS 7 rfl dX1_admit_112 (fun H locs X hS => ?_)
            refine lv_iload hx hb dX1_admit_115 (lv_at hl 0 rfl) ?_
            obtain ⟨h, h9⟩ := pr h
            subst h
            subst h9
            exact W.iret hx hb hr (fun t ht _ => ⟨rfl, by rw [ht]; exact X, hS.F ht⟩) hS.2.2 dX1_admit_117
          · have h := iq h c19
            refine lv_bipush (v := (-3)) hx hb dX1_admit_41 (by decide) ?_
            obtain ⟨h, h9⟩ := pr h
            subst h
            subst h9
            exact W.iret hx hb hr (fun t ht _ => ⟨rfl, by rw [ht]; exact X, hS.F ht⟩) hS.2.2 dX1_admit_43
        · have h := ip h c18
          refine lv_bipush (v := (-2)) hx hb dX1_admit_29 (by decide) ?_
          obtain ⟨h, h9⟩ := pr h
          subst h
          subst h9
          exact W.iret hx hb hr (fun t ht _ => ⟨rfl, by rw [ht]; exact X, hS.F ht⟩) hS.2.2 dX1_admit_31
    · have h := ip h c14
      refine lv_iconst (v := (-1)) hx hb dX1_admit_13 (by decide) ?_
      obtain ⟨h, h9⟩ := pr h
      subst h
      subst h9
      exact W.iret hx hb hr (fun t ht _ => ⟨rfl, by rw [ht]; exact X, hS.F ht⟩) hS.2.2 dX1_admit_14

def fX1_bit (p1 : Int32) : Option (Int32) := some (1 <<< (p1 &&& 31))
set_option maxHeartbeats 4000000 in
set_option maxRecDepth 100000 in
theorem kX1_bit (l : Launch) (G : Gx) (p1 : Int32) (r : Int32) (h : fX1_bit p1 = some r) : Met l yX1_bit wsX1_bit (rmN 0) (pre G [.int p1] (fun _ => True)) (QcRead r) 0 0 (fun _ => False) := by
  refine Met.ofW (cc := cX1_bit) (maxL := 1) (ret := (some .int)) (by decide) rfl ?_
  intro p e s m args below meth c s₁ B hml hv
  obtain ⟨rfl, -, hK⟩ := hv
  have hx := B.exec
  have hb := B.bytes
  have hr := B.returns
  have hts := atoms_spec (ws := wsX1_bit) B.pre
  have hown : s.vm.findClass RX1 = some m.cls := findClass_of_methodNamed B.named
  have hlocks := B.notSynchronized
  have C : Cx p m c cX1_bit 1 s _ wsX1_bit RX1 G := ⟨⟨hx, hb, hml, hown, hts⟩, hK⟩
  have hl := lv_entry ([.int p1]) (n := 1) (Nat.le_of_ble_eq_true rfl)
  rw [lg_entry_eq]
  generalize (lg_sl ([.int p1]) ++ List.replicate (1 - (lg_sl ([.int p1])).length) Slot.unset).toArray = ls at hl ⊢
  have hl : lv_has ls 1 [(0, .int p1)] := hl
  unfold fX1_bit at h
  refine lv_iconst (v := 1) hx hb dX1_bit_0 (by decide) ?_
  refine lv_iload_n hx hb dX1_bit_1 rfl (lv_at hl 0 rfl) ?_
  refine lv_ishl hx hb dX1_bit_2 ?_
  have h := so h
  subst h
  exact W.iret hx hb hr (fun t ht _ => ⟨rfl, ht⟩) (fun q h => absurd h List.not_mem_nil) dX1_bit_3

def fX1_isIn (p1 : Int32) (p2 : Int32) : Option (Int32) := (fX1_bit p2).bind (fun r1 => if (p1 &&& r1) = 0 then (some 0) else (some 1))
set_option maxHeartbeats 4000000 in
set_option maxRecDepth 100000 in
theorem kX1_isIn (l : Launch) (G : Gx) (p1 : Int32) (p2 : Int32) (r : Int32) (h : fX1_isIn p1 p2 = some r) : Met l yX1_isIn wsX1_isIn (rmN 1) (pre G [.int p1, .int p2] (fun _ => True)) (QcRead r) 0 0 (fun _ => False) := by
  refine Met.ofW (cc := cX1_isIn) (maxL := 2) (ret := (some .boolean)) (by decide) rfl ?_
  intro p e s m args below meth c s₁ B hml hv
  obtain ⟨rfl, -, hK⟩ := hv
  have hx := B.exec
  have hb := B.bytes
  have hr := B.returns
  have hts := atoms_spec (ws := wsX1_isIn) B.pre
  have hown : s.vm.findClass RX1 = some m.cls := findClass_of_methodNamed B.named
  have hlocks := B.notSynchronized
  have C : Cx p m c cX1_isIn 2 s _ wsX1_isIn RX1 G := ⟨⟨hx, hb, hml, hown, hts⟩, hK⟩
  have hl := lv_entry ([.int p1, .int p2]) (n := 2) (Nat.le_of_ble_eq_true rfl)
  rw [lg_entry_eq]
  generalize (lg_sl ([.int p1, .int p2]) ++ List.replicate (2 - (lg_sl ([.int p1, .int p2])).length) Slot.unset).toArray = ls at hl ⊢
  have hl : lv_has ls 2 [(0, .int p1), (1, .int p2)] := hl
  unfold fX1_isIn at h
  refine lv_iload_n hx hb dX1_isIn_0 rfl (lv_at hl 0 rfl) ?_
  refine lv_iload_n hx hb dX1_isIn_1 rfl (lv_at hl 1 rfl) ?_
  obtain ⟨r1, hr1, h⟩ := ob h
  refine rowS (As := [.int p2]) (rest := [.int p1]) (B := fun _ => True) C (kX1_bit l G p2 r1 hr1) (va_cwS 1 hts gX1_isIn_X1_bit rfl rfl rfl (by decide +kernel) ⟨Nat.le_of_ble_eq_true rfl, Nat.le_of_ble_eq_true rfl⟩) trivial rfl hl.1 rfl (Nat.le_of_ble_eq_true rfl) dX1_isIn_2 ⟨Nat.zero_le _, Nat.zero_le _⟩ ?_
  refine lv_iand hx hb dX1_isIn_5 ?_
  refine lv_if_eq (tgt := 13) hx hb dX1_isIn_6 (by decide) (fun c2 => ?_) (fun c2 => ?_)
  · have h := ip h c2
    refine lv_iconst (v := 0) hx hb dX1_isIn_13 (by decide) ?_
    have h := so h
    subst h
    exact W.zret hx hb hr rfl (fun t ht _ => ⟨rfl, ht⟩) (fun q h => absurd h List.not_mem_nil) dX1_isIn_14
  · have h := iq h c2
    refine lv_iconst (v := 1) hx hb dX1_isIn_9 (by decide) ?_
    refine lv_goto (tgt := 14) hx hb dX1_isIn_10 (by decide) ?_
    have h := so h
    subst h
    exact W.zret hx hb hr rfl (fun t ht _ => ⟨rfl, ht⟩) (fun q h => absurd h List.not_mem_nil) dX1_isIn_14

theorem in_X1_changeClaim : ∀ w ∈ wsX10, w ∈ wsX1_changeClaim := by decide +kernel
def fX1_changeClaim (σ : St) (p1 : Int32) (p2 : Int32) : Option (Int32 × St) := (fX1_knows σ p1).bind (fun r1 => if r1 = 0 then (some ((-1), σ)) else ((fX1_isSacks p2).bind (fun r3 => if r3 = 0 then (some ((-2), σ)) else ((fX1_isIn (σ 7 0) p1).bind (fun r5 => if r5 = 0 then (if oob p1 24 then none else if (σ 1 p1.toNatClampNeg) = p2 then (some ((-5), σ)) else (if oob p1 24 then none else some (σ 1 p1.toNatClampNeg, up σ 1 p1.toNatClampNeg p2))) else (some ((-4), σ)))))))
set_option maxHeartbeats 4000000 in
set_option maxRecDepth 100000 in
theorem kX1_changeClaim (l : Launch) (G : Gx) (b : Nat) (σ : St) (p1 : Int32) (p2 : Int32) (r : Int32) (σ' : St) (h : fX1_changeClaim σ p1 p2 = some (r, σ')) : Met l yX1_changeClaim wsX1_changeClaim (rmN 2) (pre G [.ref b, .int p1, .int p2] (hAt G b σ)) (QcW b (b + 7) (hAt G b σ') (some (.int r))) 0 0 (lw_Fr b (b + 7)) := by
  refine Met.ofW (cc := cX1_changeClaim) (maxL := 4) (ret := (some .int)) (by decide) rfl ?_
  intro p e s m args below meth c s₁ B hml hv
  obtain ⟨rfl, X, hK⟩ := hv
  have hx := B.exec
  have hb := B.bytes
  have hr := B.returns
  have hts := atoms_spec (ws := wsX1_changeClaim) B.pre
  have hown : s.vm.findClass RX1 = some m.cls := findClass_of_methodNamed B.named
  have hlocks := B.notSynchronized
  have C : Cx p m c cX1_changeClaim 4 s _ wsX1_changeClaim RX1 G := ⟨⟨hx, hb, hml, hown, hts⟩, hK⟩
  have hin : ∀ w ∈ wsX10, w ∈ wsX1_changeClaim := in_X1_changeClaim
  have hS : va_S (lw_Fr b (b + 7)) s.heap s.heap [] := va_S.rf
  have hl := lv_entry ([.ref b, .int p1, .int p2]) (n := 4) (Nat.le_of_ble_eq_true rfl)
  rw [lg_entry_eq]
  generalize (lg_sl ([.ref b, .int p1, .int p2]) ++ List.replicate (4 - (lg_sl ([.ref b, .int p1, .int p2])).length) Slot.unset).toArray = ls at hl ⊢
  have hl : lv_has ls 4 [(0, .ref b), (1, .int p1), (2, .int p2)] := hl
  unfold fX1_changeClaim at h
  refine lv_aload_n hx hb dX1_changeClaim_0 rfl (lv_at hl 0 rfl) ?_
  refine lv_iload_n hx hb dX1_changeClaim_1 rfl (lv_at hl 1 rfl) ?_
  obtain ⟨r1, hr1, h⟩ := ob h
  refine rowV (As := [.int p1]) (rest := []) C (kX1_knows l G b σ p1 r1 hr1) (cwV 1 hts gX1_changeClaim_X1_knows rfl rfl rfl (by decide +kernel) ⟨Nat.le_of_ble_eq_true rfl, Nat.le_of_ble_eq_true rfl⟩) (rcv_X1 X hK) X rfl hl.1 rfl (Nat.le_of_ble_eq_true rfl) dX1_changeClaim_2 ⟨Nat.zero_le _, Nat.zero_le _⟩ ?_
  refine lv_if_ne (tgt := 10) hx hb dX1_changeClaim_5 (by decide) (fun c2 => ?_) (fun c2 => ?_)
  · have h := iq h c2
    refine lv_iload_n hx hb dX1_changeClaim_10 rfl (lv_at hl 2 rfl) ?_
    obtain ⟨r3, hr3, h⟩ := ob h
    refine rowS (As := [.int p2]) (rest := []) (B := fun _ => True) C (kX1_isSacks l G p2 r3 hr3) (va_cwS 1 hts gX1_changeClaim_X1_isSacks rfl rfl rfl (by decide +kernel) ⟨Nat.le_of_ble_eq_true rfl, Nat.le_of_ble_eq_true rfl⟩) trivial rfl hl.1 rfl (Nat.le_of_ble_eq_true rfl) dX1_changeClaim_11 ⟨Nat.zero_le _, Nat.zero_le _⟩ ?_
    refine lv_if_ne (tgt := 20) hx hb dX1_changeClaim_14 (by decide) (fun c4 => ?_) (fun c4 => ?_)
    · have h := iq h c4
      refine lv_aload_n hx hb dX1_changeClaim_20 rfl (lv_at hl 0 rfl) ?_
      refine gt_X1_7 C hin X 1 rfl dX1_changeClaim_21 ?_
      refine lv_iload_n hx hb dX1_changeClaim_24 rfl (lv_at hl 1 rfl) ?_
      obtain ⟨r5, hr5, h⟩ := ob h
      refine rowS (As := [.int (σ 7 0), .int p1]) (rest := []) (B := fun _ => True) C (kX1_isIn l G (σ 7 0) p1 r5 hr5) (va_cwS 2 hts gX1_changeClaim_X1_isIn rfl rfl rfl (by decide +kernel) ⟨Nat.le_of_ble_eq_true rfl, Nat.le_of_ble_eq_true rfl⟩) trivial rfl hl.1 rfl (Nat.le_of_ble_eq_true rfl) dX1_changeClaim_25 ⟨Nat.zero_le _, Nat.zero_le _⟩ ?_
      refine lv_if_eq (tgt := 34) hx hb dX1_changeClaim_28 (by decide) (fun c6 => ?_) (fun c6 => ?_)
      · have h := ip h c6
        refine lv_aload_n hx hb dX1_changeClaim_34 rfl (lv_at hl 0 rfl) ?_
        refine gt_X1_1 C hin X 2 rfl dX1_changeClaim_35 ?_
        refine lv_iload_n hx hb dX1_changeClaim_38 rfl (lv_at hl 1 rfl) ?_
        obtain ⟨c7, h⟩ := og h
        refine al_X1_1 C X rfl c7 dX1_changeClaim_39 ?_
        refine lv_istore_n (lv' := [(3, .int (σ 1 p1.toNatClampNeg)), (0, .ref b), (1, .int p1), (2, .int p2)]) hx hb dX1_changeClaim_40 rfl hl (by decide) rfl (fun ls hl => ?_)
        refine lv_iload_n hx hb dX1_changeClaim_41 rfl (lv_at hl 0 rfl) ?_
        refine lv_iload_n hx hb dX1_changeClaim_42 rfl (lv_at hl 3 rfl) ?_
        refine lv_icmp_ne (tgt := 49) hx hb dX1_changeClaim_43 (by decide) (fun c8 => ?_) (fun c8 => ?_)
        · have h := iq h c8
          refine lv_aload_n hx hb dX1_changeClaim_49 rfl (lv_at hl 1 rfl) ?_
          refine gt_X1_1 C hin X 2 rfl dX1_changeClaim_50 ?_
          refine lv_iload_n hx hb dX1_changeClaim_53 rfl (lv_at hl 2 rfl) ?_
          refine lv_iload_n hx hb dX1_changeClaim_54 rfl (lv_at hl 3 rfl) ?_
          obtain ⟨c9, h⟩ := og h
          refine as_X1_1 C X hS rfl c9 dX1_changeClaim_55 (fun H locs X hS => ?_)
          refine lv_iload_n hx hb dX1_changeClaim_56 rfl (lv_at hl 0 rfl) ?_
          obtain ⟨h, h9⟩ := pr h
          subst h
          subst h9
          exact W.iret hx hb hr (fun t ht _ => ⟨rfl, by rw [ht]; exact X, hS.F ht⟩) hS.2.2 dX1_changeClaim_57
        · have h := ip h c8
          refine lv_bipush (v := (-5)) hx hb dX1_changeClaim_46 (by decide) ?_
          obtain ⟨h, h9⟩ := pr h
          subst h
          subst h9
          exact W.iret hx hb hr (fun t ht _ => ⟨rfl, by rw [ht]; exact X, hS.F ht⟩) hS.2.2 dX1_changeClaim_48
      · have h := iq h c6
        refine lv_bipush (v := (-4)) hx hb dX1_changeClaim_31 (by decide) ?_
        obtain ⟨h, h9⟩ := pr h
        subst h
        subst h9
        exact W.iret hx hb hr (fun t ht _ => ⟨rfl, by rw [ht]; exact X, hS.F ht⟩) hS.2.2 dX1_changeClaim_33
    · have h := ip h c4
      refine lv_bipush (v := (-2)) hx hb dX1_changeClaim_17 (by decide) ?_
      obtain ⟨h, h9⟩ := pr h
      subst h
      subst h9
      exact W.iret hx hb hr (fun t ht _ => ⟨rfl, by rw [ht]; exact X, hS.F ht⟩) hS.2.2 dX1_changeClaim_19
  · have h := ip h c2
    refine lv_iconst (v := (-1)) hx hb dX1_changeClaim_8 (by decide) ?_
    obtain ⟨h, h9⟩ := pr h
    subst h
    subst h9
    exact W.iret hx hb hr (fun t ht _ => ⟨rfl, by rw [ht]; exact X, hS.F ht⟩) hS.2.2 dX1_changeClaim_9

theorem in_X1_isWhole : ∀ w ∈ wsX10, w ∈ wsX1_isWhole := by decide +kernel
def fX1_isWhole (σ : St) (p1 : Int32) : Option (Int32) := if oob p1 24 then none else if oob p1 24 then none else (fX1_sealFor σ p1 (σ 1 p1.toNatClampNeg)).bind (fun r3 => if (σ 4 p1.toNatClampNeg) = r3 then (some 1) else (some 0))
set_option maxHeartbeats 4000000 in
set_option maxRecDepth 100000 in
theorem kX1_isWhole (l : Launch) (G : Gx) (b : Nat) (σ : St) (p1 : Int32) (r : Int32) (h : fX1_isWhole σ p1 = some r) : Met l yX1_isWhole wsX1_isWhole (rmN 1) (pre G [.ref b, .int p1] (hAt G b σ)) (QcRead r) 0 0 (fun _ => False) := by
  refine Met.ofW (cc := cX1_isWhole) (maxL := 2) (ret := (some .boolean)) (by decide) rfl ?_
  intro p e s m args below meth c s₁ B hml hv
  obtain ⟨rfl, X, hK⟩ := hv
  have hx := B.exec
  have hb := B.bytes
  have hr := B.returns
  have hts := atoms_spec (ws := wsX1_isWhole) B.pre
  have hown : s.vm.findClass RX1 = some m.cls := findClass_of_methodNamed B.named
  have hlocks := B.notSynchronized
  have C : Cx p m c cX1_isWhole 2 s _ wsX1_isWhole RX1 G := ⟨⟨hx, hb, hml, hown, hts⟩, hK⟩
  have hin : ∀ w ∈ wsX10, w ∈ wsX1_isWhole := in_X1_isWhole
  have hl := lv_entry ([.ref b, .int p1]) (n := 2) (Nat.le_of_ble_eq_true rfl)
  rw [lg_entry_eq]
  generalize (lg_sl ([.ref b, .int p1]) ++ List.replicate (2 - (lg_sl ([.ref b, .int p1])).length) Slot.unset).toArray = ls at hl ⊢
  have hl : lv_has ls 2 [(0, .ref b), (1, .int p1)] := hl
  unfold fX1_isWhole at h
  refine lv_aload_n hx hb dX1_isWhole_0 rfl (lv_at hl 0 rfl) ?_
  refine gt_X1_4 C hin X 1 rfl dX1_isWhole_1 ?_
  refine lv_iload_n hx hb dX1_isWhole_4 rfl (lv_at hl 1 rfl) ?_
  obtain ⟨c1, h⟩ := og h
  refine al_X1_4 C X rfl c1 dX1_isWhole_5 ?_
  refine lv_aload_n hx hb dX1_isWhole_6 rfl (lv_at hl 0 rfl) ?_
  refine lv_iload_n hx hb dX1_isWhole_7 rfl (lv_at hl 1 rfl) ?_
  refine lv_aload_n hx hb dX1_isWhole_8 rfl (lv_at hl 0 rfl) ?_
  refine gt_X1_1 C hin X 2 rfl dX1_isWhole_9 ?_
  refine lv_iload_n hx hb dX1_isWhole_12 rfl (lv_at hl 1 rfl) ?_
  obtain ⟨c2, h⟩ := og h
  refine al_X1_1 C X rfl c2 dX1_isWhole_13 ?_
  obtain ⟨r3, hr3, h⟩ := ob h
  refine rowV (As := [.int p1, .int (σ 1 p1.toNatClampNeg)]) (rest := [.int (σ 4 p1.toNatClampNeg)]) C (kX1_sealFor l G b σ p1 (σ 1 p1.toNatClampNeg) r3 hr3) (cwV 2 hts gX1_isWhole_X1_sealFor rfl rfl rfl (by decide +kernel) ⟨Nat.le_of_ble_eq_true rfl, Nat.le_of_ble_eq_true rfl⟩) (rcv_X1 X hK) X rfl hl.1 rfl (Nat.le_of_ble_eq_true rfl) dX1_isWhole_14 ⟨Nat.zero_le _, Nat.zero_le _⟩ ?_
  refine lv_icmp_ne (tgt := 24) hx hb dX1_isWhole_17 (by decide) (fun c4 => ?_) (fun c4 => ?_)
  · have h := iq h c4
    refine lv_iconst (v := 0) hx hb dX1_isWhole_24 (by decide) ?_
    have h := so h
    subst h
    exact W.zret hx hb hr rfl (fun t ht _ => ⟨rfl, ht⟩) (fun q h => absurd h List.not_mem_nil) dX1_isWhole_25
  · have h := ip h c4
    refine lv_iconst (v := 1) hx hb dX1_isWhole_20 (by decide) ?_
    refine lv_goto (tgt := 25) hx hb dX1_isWhole_21 (by decide) ?_
    have h := so h
    subst h
    exact W.zret hx hb hr rfl (fun t ht _ => ⟨rfl, ht⟩) (fun q h => absurd h List.not_mem_nil) dX1_isWhole_25

theorem in_X1_mendSeal : ∀ w ∈ wsX10, w ∈ wsX1_mendSeal := by decide +kernel
def fX1_mendSeal (σ : St) (p1 : Int32) : Option (Int32 × St) := (fX1_knows σ p1).bind (fun r1 => if r1 = 0 then (some ((-1), σ)) else ((fX1_isWhole σ p1).bind (fun r3 => if r3 = 0 then (if oob p1 24 then none else (fX1_rightSeal σ p1).bind (fun r6 => if oob p1 24 then none else some (σ 4 p1.toNatClampNeg, up σ 4 p1.toNatClampNeg r6))) else (some ((-5), σ)))))
set_option maxHeartbeats 4000000 in
set_option maxRecDepth 100000 in
theorem kX1_mendSeal (l : Launch) (G : Gx) (b : Nat) (σ : St) (p1 : Int32) (r : Int32) (σ' : St) (h : fX1_mendSeal σ p1 = some (r, σ')) : Met l yX1_mendSeal wsX1_mendSeal (rmN 2) (pre G [.ref b, .int p1] (hAt G b σ)) (QcW b (b + 7) (hAt G b σ') (some (.int r))) 0 0 (lw_Fr b (b + 7)) := by
  refine Met.ofW (cc := cX1_mendSeal) (maxL := 3) (ret := (some .int)) (by decide) rfl ?_
  intro p e s m args below meth c s₁ B hml hv
  obtain ⟨rfl, X, hK⟩ := hv
  have hx := B.exec
  have hb := B.bytes
  have hr := B.returns
  have hts := atoms_spec (ws := wsX1_mendSeal) B.pre
  have hown : s.vm.findClass RX1 = some m.cls := findClass_of_methodNamed B.named
  have hlocks := B.notSynchronized
  have C : Cx p m c cX1_mendSeal 3 s _ wsX1_mendSeal RX1 G := ⟨⟨hx, hb, hml, hown, hts⟩, hK⟩
  have hin : ∀ w ∈ wsX10, w ∈ wsX1_mendSeal := in_X1_mendSeal
  have hS : va_S (lw_Fr b (b + 7)) s.heap s.heap [] := va_S.rf
  have hl := lv_entry ([.ref b, .int p1]) (n := 3) (Nat.le_of_ble_eq_true rfl)
  rw [lg_entry_eq]
  generalize (lg_sl ([.ref b, .int p1]) ++ List.replicate (3 - (lg_sl ([.ref b, .int p1])).length) Slot.unset).toArray = ls at hl ⊢
  have hl : lv_has ls 3 [(0, .ref b), (1, .int p1)] := hl
  unfold fX1_mendSeal at h
  refine lv_aload_n hx hb dX1_mendSeal_0 rfl (lv_at hl 0 rfl) ?_
  refine lv_iload_n hx hb dX1_mendSeal_1 rfl (lv_at hl 1 rfl) ?_
  obtain ⟨r1, hr1, h⟩ := ob h
  refine rowV (As := [.int p1]) (rest := []) C (kX1_knows l G b σ p1 r1 hr1) (cwV 1 hts gX1_mendSeal_X1_knows rfl rfl rfl (by decide +kernel) ⟨Nat.le_of_ble_eq_true rfl, Nat.le_of_ble_eq_true rfl⟩) (rcv_X1 X hK) X rfl hl.1 rfl (Nat.le_of_ble_eq_true rfl) dX1_mendSeal_2 ⟨Nat.zero_le _, Nat.zero_le _⟩ ?_
  refine lv_if_ne (tgt := 10) hx hb dX1_mendSeal_5 (by decide) (fun c2 => ?_) (fun c2 => ?_)
  · have h := iq h c2
    refine lv_aload_n hx hb dX1_mendSeal_10 rfl (lv_at hl 0 rfl) ?_
    refine lv_iload_n hx hb dX1_mendSeal_11 rfl (lv_at hl 1 rfl) ?_
    obtain ⟨r3, hr3, h⟩ := ob h
    refine rowV (As := [.int p1]) (rest := []) C (kX1_isWhole l G b σ p1 r3 hr3) (cwV 1 hts gX1_mendSeal_X1_isWhole rfl rfl rfl (by decide +kernel) ⟨Nat.le_of_ble_eq_true rfl, Nat.le_of_ble_eq_true rfl⟩) (rcv_X1 X hK) X rfl hl.1 rfl (Nat.le_of_ble_eq_true rfl) dX1_mendSeal_12 ⟨Nat.zero_le _, Nat.zero_le _⟩ ?_
    refine lv_if_eq (tgt := 21) hx hb dX1_mendSeal_15 (by decide) (fun c4 => ?_) (fun c4 => ?_)
    · have h := ip h c4
      refine lv_aload_n hx hb dX1_mendSeal_21 rfl (lv_at hl 0 rfl) ?_
      refine gt_X1_4 C hin X 1 rfl dX1_mendSeal_22 ?_
      refine lv_iload_n hx hb dX1_mendSeal_25 rfl (lv_at hl 1 rfl) ?_
      obtain ⟨c5, h⟩ := og h
      refine al_X1_4 C X rfl c5 dX1_mendSeal_26 ?_
      refine lv_istore_n (lv' := [(2, .int (σ 4 p1.toNatClampNeg)), (0, .ref b), (1, .int p1)]) hx hb dX1_mendSeal_27 rfl hl (by decide) rfl (fun ls hl => ?_)
      refine lv_aload_n hx hb dX1_mendSeal_28 rfl (lv_at hl 1 rfl) ?_
      refine gt_X1_4 C hin X 1 rfl dX1_mendSeal_29 ?_
      refine lv_iload_n hx hb dX1_mendSeal_32 rfl (lv_at hl 2 rfl) ?_
      refine lv_aload_n hx hb dX1_mendSeal_33 rfl (lv_at hl 1 rfl) ?_
      refine lv_iload_n hx hb dX1_mendSeal_34 rfl (lv_at hl 2 rfl) ?_
      obtain ⟨r6, hr6, h⟩ := ob h
      refine rowV (As := [.int p1]) (rest := [.int p1, .ref (b + 5)]) C (kX1_rightSeal l G b σ p1 r6 hr6) (cwV 1 hts gX1_mendSeal_X1_rightSeal rfl rfl rfl (by decide +kernel) ⟨Nat.le_of_ble_eq_true rfl, Nat.le_of_ble_eq_true rfl⟩) (rcv_X1 X hK) X rfl hl.1 rfl (Nat.le_of_ble_eq_true rfl) dX1_mendSeal_35 ⟨Nat.zero_le _, Nat.zero_le _⟩ ?_
      obtain ⟨c7, h⟩ := og h
      refine as_X1_4 C X hS rfl c7 dX1_mendSeal_38 (fun H locs X hS => ?_)
      refine lv_iload_n hx hb dX1_mendSeal_39 rfl (lv_at hl 0 rfl) ?_
      obtain ⟨h, h9⟩ := pr h
      subst h
      subst h9
      exact W.iret hx hb hr (fun t ht _ => ⟨rfl, by rw [ht]; exact X, hS.F ht⟩) hS.2.2 dX1_mendSeal_40
    · have h := iq h c4
      refine lv_bipush (v := (-5)) hx hb dX1_mendSeal_18 (by decide) ?_
      obtain ⟨h, h9⟩ := pr h
      subst h
      subst h9
      exact W.iret hx hb hr (fun t ht _ => ⟨rfl, by rw [ht]; exact X, hS.F ht⟩) hS.2.2 dX1_mendSeal_20
  · have h := ip h c2
    refine lv_iconst (v := (-1)) hx hb dX1_mendSeal_8 (by decide) ?_
    obtain ⟨h, h9⟩ := pr h
    subst h
    subst h9
    exact W.iret hx hb hr (fun t ht _ => ⟨rfl, by rw [ht]; exact X, hS.F ht⟩) hS.2.2 dX1_mendSeal_9

theorem in_X1_isLie : ∀ w ∈ wsX10, w ∈ wsX1_isLie := by decide +kernel
def fX1_isLie (σ : St) (p1 : Int32) (p2 : Int32) : Option (Int32) := if oob p1 24 then none else if (σ 1 p1.toNatClampNeg) = p2 then (some 0) else (some 1)
set_option maxHeartbeats 4000000 in
set_option maxRecDepth 100000 in
theorem kX1_isLie (l : Launch) (G : Gx) (b : Nat) (σ : St) (p1 : Int32) (p2 : Int32) (r : Int32) (h : fX1_isLie σ p1 p2 = some r) : Met l yX1_isLie wsX1_isLie (rmN 0) (pre G [.ref b, .int p1, .int p2] (hAt G b σ)) (QcRead r) 0 0 (fun _ => False) := by
  refine Met.ofW (cc := cX1_isLie) (maxL := 3) (ret := (some .boolean)) (by decide) rfl ?_
  intro p e s m args below meth c s₁ B hml hv
  obtain ⟨rfl, X, hK⟩ := hv
  have hx := B.exec
  have hb := B.bytes
  have hr := B.returns
  have hts := atoms_spec (ws := wsX1_isLie) B.pre
  have hown : s.vm.findClass RX1 = some m.cls := findClass_of_methodNamed B.named
  have hlocks := B.notSynchronized
  have C : Cx p m c cX1_isLie 3 s _ wsX1_isLie RX1 G := ⟨⟨hx, hb, hml, hown, hts⟩, hK⟩
  have hin : ∀ w ∈ wsX10, w ∈ wsX1_isLie := in_X1_isLie
  have hl := lv_entry ([.ref b, .int p1, .int p2]) (n := 3) (Nat.le_of_ble_eq_true rfl)
  rw [lg_entry_eq]
  generalize (lg_sl ([.ref b, .int p1, .int p2]) ++ List.replicate (3 - (lg_sl ([.ref b, .int p1, .int p2])).length) Slot.unset).toArray = ls at hl ⊢
  have hl : lv_has ls 3 [(0, .ref b), (1, .int p1), (2, .int p2)] := hl
  unfold fX1_isLie at h
  refine lv_aload_n hx hb dX1_isLie_0 rfl (lv_at hl 0 rfl) ?_
  refine gt_X1_1 C hin X 1 rfl dX1_isLie_1 ?_
  refine lv_iload_n hx hb dX1_isLie_4 rfl (lv_at hl 1 rfl) ?_
  obtain ⟨c1, h⟩ := og h
  refine al_X1_1 C X rfl c1 dX1_isLie_5 ?_
  refine lv_iload_n hx hb dX1_isLie_6 rfl (lv_at hl 2 rfl) ?_
  refine lv_icmp_eq (tgt := 14) hx hb dX1_isLie_7 (by decide) (fun c2 => ?_) (fun c2 => ?_)
  · have h := ip h c2
    refine lv_iconst (v := 0) hx hb dX1_isLie_14 (by decide) ?_
    have h := so h
    subst h
    exact W.zret hx hb hr rfl (fun t ht _ => ⟨rfl, ht⟩) (fun q h => absurd h List.not_mem_nil) dX1_isLie_15
  · have h := iq h c2
    refine lv_iconst (v := 1) hx hb dX1_isLie_10 (by decide) ?_
    refine lv_goto (tgt := 15) hx hb dX1_isLie_11 (by decide) ?_
    have h := so h
    subst h
    exact W.zret hx hb hr rfl (fun t ht _ => ⟨rfl, ht⟩) (fun q h => absurd h List.not_mem_nil) dX1_isLie_15

theorem in_X1_ownFine : ∀ w ∈ wsX10, w ∈ wsX1_ownFine := by decide +kernel
def fX1_ownFine (σ : St) (p1 : Int32) (p2 : Int32) : Option (Int32) := (fX1_isWhole σ p1).bind (fun r1 => if r1 = 0 then ((fX1_isLie σ p1 p2).bind (fun r3 => if r3 = 0 then (some 3) else (if oob p1 24 then none else some (3 + ((σ 0 3) + (2 * (if 0 ≤ ((σ 1 p1.toNatClampNeg) - p2) then ((σ 1 p1.toNatClampNeg) - p2) else 0 - ((σ 1 p1.toNatClampNeg) - p2)))))))) else ((fX1_isLie σ p1 p2).bind (fun r6 => if r6 = 0 then (some 0) else (if oob p1 24 then none else some (0 + ((σ 0 3) + (2 * (if 0 ≤ ((σ 1 p1.toNatClampNeg) - p2) then ((σ 1 p1.toNatClampNeg) - p2) else 0 - ((σ 1 p1.toNatClampNeg) - p2)))))))))
set_option maxHeartbeats 4000000 in
set_option maxRecDepth 100000 in
theorem kX1_ownFine (l : Launch) (G : Gx) (b : Nat) (σ : St) (p1 : Int32) (p2 : Int32) (r : Int32) (h : fX1_ownFine σ p1 p2 = some r) : Met l yX1_ownFine wsX1_ownFine (rmN 2) (pre G [.ref b, .int p1, .int p2] (hAt G b σ)) (QcRead r) 0 0 (fun _ => False) := by
  refine Met.ofW (cc := cX1_ownFine) (maxL := 4) (ret := (some .int)) (by decide) rfl ?_
  intro p e s m args below meth c s₁ B hml hv
  obtain ⟨rfl, X, hK⟩ := hv
  have hx := B.exec
  have hb := B.bytes
  have hr := B.returns
  have hts := atoms_spec (ws := wsX1_ownFine) B.pre
  have hown : s.vm.findClass RX1 = some m.cls := findClass_of_methodNamed B.named
  have hlocks := B.notSynchronized
  have C : Cx p m c cX1_ownFine 4 s _ wsX1_ownFine RX1 G := ⟨⟨hx, hb, hml, hown, hts⟩, hK⟩
  have hin : ∀ w ∈ wsX10, w ∈ wsX1_ownFine := in_X1_ownFine
  have hl := lv_entry ([.ref b, .int p1, .int p2]) (n := 4) (Nat.le_of_ble_eq_true rfl)
  rw [lg_entry_eq]
  generalize (lg_sl ([.ref b, .int p1, .int p2]) ++ List.replicate (4 - (lg_sl ([.ref b, .int p1, .int p2])).length) Slot.unset).toArray = ls at hl ⊢
  have hl : lv_has ls 4 [(0, .ref b), (1, .int p1), (2, .int p2)] := hl
  unfold fX1_ownFine at h
  refine lv_aload_n hx hb dX1_ownFine_0 rfl (lv_at hl 0 rfl) ?_
  refine lv_iload_n hx hb dX1_ownFine_1 rfl (lv_at hl 1 rfl) ?_
  obtain ⟨r1, hr1, h⟩ := ob h
  refine rowV (As := [.int p1]) (rest := []) C (kX1_isWhole l G b σ p1 r1 hr1) (cwV 1 hts gX1_ownFine_X1_isWhole rfl rfl rfl (by decide +kernel) ⟨Nat.le_of_ble_eq_true rfl, Nat.le_of_ble_eq_true rfl⟩) (rcv_X1 X hK) X rfl hl.1 rfl (Nat.le_of_ble_eq_true rfl) dX1_ownFine_2 ⟨Nat.zero_le _, Nat.zero_le _⟩ ?_
  refine lv_if_eq (tgt := 12) hx hb dX1_ownFine_5 (by decide) (fun c2 => ?_) (fun c2 => ?_)
  · have h := ip h c2
    refine lv_iconst (v := 3) hx hb dX1_ownFine_12 (by decide) ?_
    refine lv_istore_n (lv' := [(3, .int 3), (0, .ref b), (1, .int p1), (2, .int p2)]) hx hb dX1_ownFine_13 rfl hl (by decide) rfl (fun ls hl => ?_)
    refine lv_aload_n hx hb dX1_ownFine_14 rfl (lv_at hl 1 rfl) ?_
    refine lv_iload_n hx hb dX1_ownFine_15 rfl (lv_at hl 2 rfl) ?_
    refine lv_iload_n hx hb dX1_ownFine_16 rfl (lv_at hl 3 rfl) ?_
    obtain ⟨r3, hr3, h⟩ := ob h
    refine rowV (As := [.int p1, .int p2]) (rest := []) C (kX1_isLie l G b σ p1 p2 r3 hr3) (cwV 2 hts gX1_ownFine_X1_isLie rfl rfl rfl (by decide +kernel) ⟨Nat.le_of_ble_eq_true rfl, Nat.le_of_ble_eq_true rfl⟩) (rcv_X1 X hK) X rfl hl.1 rfl (Nat.le_of_ble_eq_true rfl) dX1_ownFine_17 ⟨Nat.zero_le _, Nat.zero_le _⟩ ?_
    refine lv_if_eq (tgt := 46) hx hb dX1_ownFine_20 (by decide) (fun c4 => ?_) (fun c4 => ?_)
    · have h := ip h c4
      refine lv_iload_n hx hb dX1_ownFine_46 rfl (lv_at hl 0 rfl) ?_
      have h := so h
      subst h
      exact W.iret hx hb hr (fun t ht _ => ⟨rfl, ht⟩) (fun q h => absurd h List.not_mem_nil) dX1_ownFine_47
    · have h := iq h c4
      refine lv_iload_n hx hb dX1_ownFine_23 rfl (lv_at hl 0 rfl) ?_
      refine lv_aload_n hx hb dX1_ownFine_24 rfl (lv_at hl 1 rfl) ?_
      refine gt_X1_0 C hin X 1 rfl dX1_ownFine_25 ?_
      refine lv_iconst (v := 3) hx hb dX1_ownFine_28 (by decide) ?_
      refine al_X1_0 (j := 3) C X rfl (by decide) dX1_ownFine_29 ?_
      refine lv_iconst (v := 2) hx hb dX1_ownFine_30 (by decide) ?_
      refine lv_aload_n hx hb dX1_ownFine_31 rfl (lv_at hl 1 rfl) ?_
      refine gt_X1_1 C hin X 2 rfl dX1_ownFine_32 ?_
      refine lv_iload_n hx hb dX1_ownFine_35 rfl (lv_at hl 2 rfl) ?_
      obtain ⟨c5, h⟩ := og h
      refine al_X1_1 C X rfl c5 dX1_ownFine_36 ?_
      refine lv_iload_n hx hb dX1_ownFine_37 rfl (lv_at hl 3 rfl) ?_
      refine lv_isub hx hb dX1_ownFine_38 ?_
      refine va_mabs hx hb (hml.trans hl.1.symm) hown (hts _ (List.mem_of_getElem? (i := 3) rfl)) (hts _ (List.mem_of_getElem? (i := 4) rfl)) (hts _ (List.mem_of_getElem? (i := 5) rfl)) (hts _ (List.mem_of_getElem? (i := 6) rfl)) (Nat.le_of_ble_eq_true rfl) (Nat.le_of_ble_eq_true rfl) (Nat.zero_le _) (Nat.zero_le _) dX1_ownFine_39 ?_
      refine lv_imul hx hb dX1_ownFine_42 ?_
      refine lv_iadd hx hb dX1_ownFine_43 ?_
      refine lv_iadd hx hb dX1_ownFine_44 ?_
      refine lv_istore_n (lv' := [(3, .int (3 + ((σ 0 3) + (2 * (if 0 ≤ ((σ 1 p1.toNatClampNeg) - p2) then ((σ 1 p1.toNatClampNeg) - p2) else 0 - ((σ 1 p1.toNatClampNeg) - p2)))))), (0, .ref b), (1, .int p1), (2, .int p2)]) hx hb dX1_ownFine_45 rfl hl (by decide) rfl (fun ls hl => ?_)
      refine lv_iload_n hx hb dX1_ownFine_46 rfl (lv_at hl 0 rfl) ?_
      have h := so h
      subst h
      exact W.iret hx hb hr (fun t ht _ => ⟨rfl, ht⟩) (fun q h => absurd h List.not_mem_nil) dX1_ownFine_47
  · have h := iq h c2
    refine lv_iconst (v := 0) hx hb dX1_ownFine_8 (by decide) ?_
    refine lv_goto (tgt := 13) hx hb dX1_ownFine_9 (by decide) ?_
    refine lv_istore_n (lv' := [(3, .int 0), (0, .ref b), (1, .int p1), (2, .int p2)]) hx hb dX1_ownFine_13 rfl hl (by decide) rfl (fun ls hl => ?_)
    refine lv_aload_n hx hb dX1_ownFine_14 rfl (lv_at hl 1 rfl) ?_
    refine lv_iload_n hx hb dX1_ownFine_15 rfl (lv_at hl 2 rfl) ?_
    refine lv_iload_n hx hb dX1_ownFine_16 rfl (lv_at hl 3 rfl) ?_
    obtain ⟨r6, hr6, h⟩ := ob h
    refine rowV (As := [.int p1, .int p2]) (rest := []) C (kX1_isLie l G b σ p1 p2 r6 hr6) (cwV 2 hts gX1_ownFine_X1_isLie rfl rfl rfl (by decide +kernel) ⟨Nat.le_of_ble_eq_true rfl, Nat.le_of_ble_eq_true rfl⟩) (rcv_X1 X hK) X rfl hl.1 rfl (Nat.le_of_ble_eq_true rfl) dX1_ownFine_17 ⟨Nat.zero_le _, Nat.zero_le _⟩ ?_
    refine lv_if_eq (tgt := 46) hx hb dX1_ownFine_20 (by decide) (fun c7 => ?_) (fun c7 => ?_)
    · have h := ip h c7
      refine lv_iload_n hx hb dX1_ownFine_46 rfl (lv_at hl 0 rfl) ?_
      have h := so h
      subst h
      exact W.iret hx hb hr (fun t ht _ => ⟨rfl, ht⟩) (fun q h => absurd h List.not_mem_nil) dX1_ownFine_47
    · have h := iq h c7
      refine lv_iload_n hx hb dX1_ownFine_23 rfl (lv_at hl 0 rfl) ?_
      refine lv_aload_n hx hb dX1_ownFine_24 rfl (lv_at hl 1 rfl) ?_
      refine gt_X1_0 C hin X 1 rfl dX1_ownFine_25 ?_
      refine lv_iconst (v := 3) hx hb dX1_ownFine_28 (by decide) ?_
      refine al_X1_0 (j := 3) C X rfl (by decide) dX1_ownFine_29 ?_
      refine lv_iconst (v := 2) hx hb dX1_ownFine_30 (by decide) ?_
      refine lv_aload_n hx hb dX1_ownFine_31 rfl (lv_at hl 1 rfl) ?_
      refine gt_X1_1 C hin X 2 rfl dX1_ownFine_32 ?_
      refine lv_iload_n hx hb dX1_ownFine_35 rfl (lv_at hl 2 rfl) ?_
      obtain ⟨c8, h⟩ := og h
      refine al_X1_1 C X rfl c8 dX1_ownFine_36 ?_
      refine lv_iload_n hx hb dX1_ownFine_37 rfl (lv_at hl 3 rfl) ?_
      refine lv_isub hx hb dX1_ownFine_38 ?_
      refine va_mabs hx hb (hml.trans hl.1.symm) hown (hts _ (List.mem_of_getElem? (i := 3) rfl)) (hts _ (List.mem_of_getElem? (i := 4) rfl)) (hts _ (List.mem_of_getElem? (i := 5) rfl)) (hts _ (List.mem_of_getElem? (i := 6) rfl)) (Nat.le_of_ble_eq_true rfl) (Nat.le_of_ble_eq_true rfl) (Nat.zero_le _) (Nat.zero_le _) dX1_ownFine_39 ?_
      refine lv_imul hx hb dX1_ownFine_42 ?_
      refine lv_iadd hx hb dX1_ownFine_43 ?_
      refine lv_iadd hx hb dX1_ownFine_44 ?_
      refine lv_istore_n (lv' := [(3, .int (0 + ((σ 0 3) + (2 * (if 0 ≤ ((σ 1 p1.toNatClampNeg) - p2) then ((σ 1 p1.toNatClampNeg) - p2) else 0 - ((σ 1 p1.toNatClampNeg) - p2)))))), (0, .ref b), (1, .int p1), (2, .int p2)]) hx hb dX1_ownFine_45 rfl hl (by decide) rfl (fun ls hl => ?_)
      refine lv_iload_n hx hb dX1_ownFine_46 rfl (lv_at hl 0 rfl) ?_
      have h := so h
      subst h
      exact W.iret hx hb hr (fun t ht _ => ⟨rfl, ht⟩) (fun q h => absurd h List.not_mem_nil) dX1_ownFine_47

theorem in_X1_wholeVouchers : ∀ w ∈ wsX10, w ∈ wsX1_wholeVouchers := by decide +kernel
def fX1_wholeVouchers_4 : Nat → St → Int32 → Int32 → Int32 → Option (Int32)
  | 0, _, _, _, _ => none
  | n + 1, σ, v1, v2, v3 => if (σ 6 0) ≤ v3 then (some v2) else (if oob v3 24 then none else if (σ 3 v3.toNatClampNeg) = v1 then ((fX1_isWhole σ v3).bind (fun r4 => if r4 = 0 then (fX1_wholeVouchers_4 n σ v1 v2 (v3 + 1)) else ((fX1_bit v3).bind (fun r6 => fX1_wholeVouchers_4 n σ v1 (v2 ||| r6) (v3 + 1))))) else (fX1_wholeVouchers_4 n σ v1 v2 (v3 + 1)))
theorem fX1_wholeVouchers_4_0 (σ : St) (v1 : Int32) (v2 : Int32) (v3 : Int32) : fX1_wholeVouchers_4 0 σ v1 v2 v3 = none := rfl
theorem fX1_wholeVouchers_4_s (n : Nat) (σ : St) (v1 : Int32) (v2 : Int32) (v3 : Int32) : fX1_wholeVouchers_4 (n + 1) σ v1 v2 v3 = (if (σ 6 0) ≤ v3 then (some v2) else (if oob v3 24 then none else if (σ 3 v3.toNatClampNeg) = v1 then ((fX1_isWhole σ v3).bind (fun r4 => if r4 = 0 then (fX1_wholeVouchers_4 n σ v1 v2 (v3 + 1)) else ((fX1_bit v3).bind (fun r6 => fX1_wholeVouchers_4 n σ v1 (v2 ||| r6) (v3 + 1))))) else (fX1_wholeVouchers_4 n σ v1 v2 (v3 + 1)))) := rfl
def fX1_wholeVouchers (σ : St) (p1 : Int32) : Option (Int32) := fX1_wholeVouchers_4 1000 σ p1 0 0
set_option maxHeartbeats 4000000 in
set_option maxRecDepth 100000 in
theorem kX1_wholeVouchers (l : Launch) (G : Gx) (b : Nat) (σ : St) (p1 : Int32) (r : Int32) (h : fX1_wholeVouchers σ p1 = some r) : Met l yX1_wholeVouchers wsX1_wholeVouchers (rmN 2) (pre G [.ref b, .int p1] (hAt G b σ)) (QcRead r) 0 0 (fun _ => False) := by
  refine Met.ofW (cc := cX1_wholeVouchers) (maxL := 4) (ret := (some .int)) (by decide) rfl ?_
  intro p e s m args below meth c s₁ B hml hv
  obtain ⟨rfl, X, hK⟩ := hv
  have hx := B.exec
  have hb := B.bytes
  have hr := B.returns
  have hts := atoms_spec (ws := wsX1_wholeVouchers) B.pre
  have hown : s.vm.findClass RX1 = some m.cls := findClass_of_methodNamed B.named
  have hlocks := B.notSynchronized
  have C : Cx p m c cX1_wholeVouchers 4 s _ wsX1_wholeVouchers RX1 G := ⟨⟨hx, hb, hml, hown, hts⟩, hK⟩
  have hin : ∀ w ∈ wsX10, w ∈ wsX1_wholeVouchers := in_X1_wholeVouchers
  have hl := lv_entry ([.ref b, .int p1]) (n := 4) (Nat.le_of_ble_eq_true rfl)
  rw [lg_entry_eq]
  generalize (lg_sl ([.ref b, .int p1]) ++ List.replicate (4 - (lg_sl ([.ref b, .int p1])).length) Slot.unset).toArray = ls at hl ⊢
  have hl : lv_has ls 4 [(0, .ref b), (1, .int p1)] := hl
  have loop4 : ∀ (n : Nat) (v1 : Int32) (v2 : Int32) (v3 : Int32) (ls : Array Slot), fX1_wholeVouchers_4 n σ v1 v2 v3 = some r → lv_has ls 4 [(0, .ref b), (1, .int v1), (2, .int v2), (3, .int v3)] → W p l e (rmN 2) s m #[Value.ref b, Value.int p1] below meth c s.heap [] 0 0 (MQ below (QcRead r) #[Value.ref b, Value.int p1] s 0 0 (fun _ => False)) (F0 m 4 ls []) := by
    intro n
    induction n with
    | zero =>
      intro v1 v2 v3 ls h hl
      rw [fX1_wholeVouchers_4_0] at h
      cases h
    | succ n ih =>
      intro v1 v2 v3 ls h hl
      rw [fX1_wholeVouchers_4_s] at h
      refine lv_iload_n hx hb dX1_wholeVouchers_4 rfl (lv_at hl 3 rfl) ?_
      refine lv_aload_n hx hb dX1_wholeVouchers_5 rfl (lv_at hl 0 rfl) ?_
      refine gt_X1_6 C hin X 1 rfl dX1_wholeVouchers_6 ?_
      refine lv_icmp_ge (tgt := 43) hx hb dX1_wholeVouchers_9 (by decide) (fun c1 => ?_) (fun c1 => ?_)
      · have h := ip h c1
        refine lv_iload_n hx hb dX1_wholeVouchers_43 rfl (lv_at hl 2 rfl) ?_
        have h := so h
        subst h
        exact W.iret hx hb hr (fun t ht _ => ⟨rfl, ht⟩) (fun q h => absurd h List.not_mem_nil) dX1_wholeVouchers_44
      · have h := iq h c1
        refine lv_aload_n hx hb dX1_wholeVouchers_12 rfl (lv_at hl 0 rfl) ?_
        refine gt_X1_3 C hin X 2 rfl dX1_wholeVouchers_13 ?_
        refine lv_iload_n hx hb dX1_wholeVouchers_16 rfl (lv_at hl 3 rfl) ?_
        obtain ⟨c2, h⟩ := og h
        refine al_X1_3 C X rfl c2 dX1_wholeVouchers_17 ?_
        refine lv_iload_n hx hb dX1_wholeVouchers_18 rfl (lv_at hl 1 rfl) ?_
        refine lv_icmp_ne (tgt := 37) hx hb dX1_wholeVouchers_19 (by decide) (fun c3 => ?_) (fun c3 => ?_)
        · have h := iq h c3
          refine lv_iinc (v := v3 + 1) (lv' := [(3, .int (v3 + 1)), (0, .ref b), (1, .int v1), (2, .int v2)]) hx hb dX1_wholeVouchers_37 hl (k := 3) rfl rfl (by decide) rfl (fun ls hl => ?_)
          refine lv_goto (tgt := 4) hx hb dX1_wholeVouchers_40 (by decide) ?_
          exact ih _ _ _ _ h (lv_sub hl [1, 2, 3, 0] rfl)
        · have h := ip h c3
          refine lv_aload_n hx hb dX1_wholeVouchers_22 rfl (lv_at hl 0 rfl) ?_
          refine lv_iload_n hx hb dX1_wholeVouchers_23 rfl (lv_at hl 3 rfl) ?_
          obtain ⟨r4, hr4, h⟩ := ob h
          refine rowV (As := [.int v3]) (rest := []) C (kX1_isWhole l G b σ v3 r4 hr4) (cwV 1 hts gX1_wholeVouchers_X1_isWhole rfl rfl rfl (by decide +kernel) ⟨Nat.le_of_ble_eq_true rfl, Nat.le_of_ble_eq_true rfl⟩) (rcv_X1 X hK) X rfl hl.1 rfl (Nat.le_of_ble_eq_true rfl) dX1_wholeVouchers_24 ⟨Nat.zero_le _, Nat.zero_le _⟩ ?_
          refine lv_if_eq (tgt := 37) hx hb dX1_wholeVouchers_27 (by decide) (fun c5 => ?_) (fun c5 => ?_)
          · have h := ip h c5
            refine lv_iinc (v := v3 + 1) (lv' := [(3, .int (v3 + 1)), (0, .ref b), (1, .int v1), (2, .int v2)]) hx hb dX1_wholeVouchers_37 hl (k := 3) rfl rfl (by decide) rfl (fun ls hl => ?_)
            refine lv_goto (tgt := 4) hx hb dX1_wholeVouchers_40 (by decide) ?_
            exact ih _ _ _ _ h (lv_sub hl [1, 2, 3, 0] rfl)
          · have h := iq h c5
            refine lv_iload_n hx hb dX1_wholeVouchers_30 rfl (lv_at hl 2 rfl) ?_
            refine lv_iload_n hx hb dX1_wholeVouchers_31 rfl (lv_at hl 3 rfl) ?_
            obtain ⟨r6, hr6, h⟩ := ob h
            refine rowS (As := [.int v3]) (rest := [.int v2]) (B := fun _ => True) C (kX1_bit l G v3 r6 hr6) (va_cwS 1 hts gX1_wholeVouchers_X1_bit rfl rfl rfl (by decide +kernel) ⟨Nat.le_of_ble_eq_true rfl, Nat.le_of_ble_eq_true rfl⟩) trivial rfl hl.1 rfl (Nat.le_of_ble_eq_true rfl) dX1_wholeVouchers_32 ⟨Nat.zero_le _, Nat.zero_le _⟩ ?_
            refine lv_ior hx hb dX1_wholeVouchers_35 ?_
            refine lv_istore_n (lv' := [(2, .int (v2 ||| r6)), (0, .ref b), (1, .int v1), (3, .int v3)]) hx hb dX1_wholeVouchers_36 rfl hl (by decide) rfl (fun ls hl => ?_)
            refine lv_iinc (v := v3 + 1) (lv' := [(3, .int (v3 + 1)), (2, .int (v2 ||| r6)), (0, .ref b), (1, .int v1)]) hx hb dX1_wholeVouchers_37 hl (k := 3) rfl rfl (by decide) rfl (fun ls hl => ?_)
            refine lv_goto (tgt := 4) hx hb dX1_wholeVouchers_40 (by decide) ?_
            exact ih _ _ _ _ h (lv_sub hl [2, 3, 1, 0] rfl)
  unfold fX1_wholeVouchers at h
  refine lv_iconst (v := 0) hx hb dX1_wholeVouchers_0 (by decide) ?_
  refine lv_istore_n (lv' := [(2, .int 0), (0, .ref b), (1, .int p1)]) hx hb dX1_wholeVouchers_1 rfl hl (by decide) rfl (fun ls hl => ?_)
  refine lv_iconst (v := 0) hx hb dX1_wholeVouchers_2 (by decide) ?_
  refine lv_istore_n (lv' := [(3, .int 0), (2, .int 0), (0, .ref b), (1, .int p1)]) hx hb dX1_wholeVouchers_3 rfl hl (by decide) rfl (fun ls hl => ?_)
  exact loop4 _ _ _ _ _ h (lv_sub hl [2, 3, 1, 0] rfl)

theorem in_X1_exposeLiar : ∀ w ∈ wsX10, w ∈ wsX1_exposeLiar := by decide +kernel
def fX1_exposeLiar_36 : Nat → St → Int32 → Int32 → Int32 → Option (St)
  | 0, _, _, _, _ => none
  | n + 1, σ, v1, v2, v3 => if (σ 6 0) ≤ v3 then (some σ) else ((fX1_isIn v2 v3).bind (fun r5 => if r5 = 0 then (fX1_exposeLiar_36 n σ v1 v2 (v3 + 1)) else (if oob v3 24 then none else if oob v3 24 then none else fX1_exposeLiar_36 n (up σ 5 v3.toNatClampNeg ((σ 5 v3.toNatClampNeg) + (σ 0 4))) v1 v2 (v3 + 1))))
theorem fX1_exposeLiar_36_0 (σ : St) (v1 : Int32) (v2 : Int32) (v3 : Int32) : fX1_exposeLiar_36 0 σ v1 v2 v3 = none := rfl
theorem fX1_exposeLiar_36_s (n : Nat) (σ : St) (v1 : Int32) (v2 : Int32) (v3 : Int32) : fX1_exposeLiar_36 (n + 1) σ v1 v2 v3 = (if (σ 6 0) ≤ v3 then (some σ) else ((fX1_isIn v2 v3).bind (fun r5 => if r5 = 0 then (fX1_exposeLiar_36 n σ v1 v2 (v3 + 1)) else (if oob v3 24 then none else if oob v3 24 then none else fX1_exposeLiar_36 n (up σ 5 v3.toNatClampNeg ((σ 5 v3.toNatClampNeg) + (σ 0 4))) v1 v2 (v3 + 1))))) := rfl
def fX1_exposeLiar (σ : St) (p1 : Int32) : Option (St) := (fX1_bit p1).bind (fun r1 => (fX1_bit p1).bind (fun r2 => (fX1_wholeVouchers (up (up σ 8 0 ((σ 8 0) ||| r1)) 9 0 (((up σ 8 0 ((σ 8 0) ||| r1)) 9 0) &&& (r2 ^^^ (-1)))) p1).bind (fun r3 => fX1_exposeLiar_36 1000 (up (up σ 8 0 ((σ 8 0) ||| r1)) 9 0 (((up σ 8 0 ((σ 8 0) ||| r1)) 9 0) &&& (r2 ^^^ (-1)))) p1 r3 0)))
set_option maxHeartbeats 4000000 in
set_option maxRecDepth 100000 in
theorem kX1_exposeLiar (l : Launch) (G : Gx) (b : Nat) (σ : St) (p1 : Int32) (σ' : St) (h : fX1_exposeLiar σ p1 = some σ') : Met l yX1_exposeLiar wsX1_exposeLiar (rmN 3) (pre G [.ref b, .int p1] (hAt G b σ)) (QcW b (b + 7) (hAt G b σ') none) 0 0 (lw_Fr b (b + 7)) := by
  refine Met.ofW (cc := cX1_exposeLiar) (maxL := 4) (ret := none) (by decide) rfl ?_
  intro p e s m args below meth c s₁ B hml hv
  obtain ⟨rfl, X, hK⟩ := hv
  have hx := B.exec
  have hb := B.bytes
  have hr := B.returns
  have hts := atoms_spec (ws := wsX1_exposeLiar) B.pre
  have hown : s.vm.findClass RX1 = some m.cls := findClass_of_methodNamed B.named
  have hlocks := B.notSynchronized
  have C : Cx p m c cX1_exposeLiar 4 s _ wsX1_exposeLiar RX1 G := ⟨⟨hx, hb, hml, hown, hts⟩, hK⟩
  have hin : ∀ w ∈ wsX10, w ∈ wsX1_exposeLiar := in_X1_exposeLiar
  have hS : va_S (lw_Fr b (b + 7)) s.heap s.heap [] := va_S.rf
  have hl := lv_entry ([.ref b, .int p1]) (n := 4) (Nat.le_of_ble_eq_true rfl)
  rw [lg_entry_eq]
  generalize (lg_sl ([.ref b, .int p1]) ++ List.replicate (4 - (lg_sl ([.ref b, .int p1])).length) Slot.unset).toArray = ls at hl ⊢
  have hl : lv_has ls 4 [(0, .ref b), (1, .int p1)] := hl
  have loop36 : ∀ (n : Nat) (σ : St) (v1 : Int32) (v2 : Int32) (v3 : Int32) (H : Heap) (locs : List Loc) (ls : Array Slot), fX1_exposeLiar_36 n σ v1 v2 v3 = some σ' → hAt G b σ H → va_S (lw_Fr b (b + 7)) s.heap H locs → lv_has ls 4 [(0, .ref b), (1, .int v1), (2, .int v2), (3, .int v3)] → W p l e (rmN 3) s m #[Value.ref b, Value.int p1] below meth c H locs 0 0 (MQ below (QcW b (b + 7) (hAt G b σ') none) #[Value.ref b, Value.int p1] s 0 0 (lw_Fr b (b + 7))) (F0 m 36 ls []) := by
    intro n
    induction n with
    | zero =>
      intro σ v1 v2 v3 H locs ls h X hS hl
      rw [fX1_exposeLiar_36_0] at h
      cases h
    | succ n ih =>
      intro σ v1 v2 v3 H locs ls h X hS hl
      rw [fX1_exposeLiar_36_s] at h
      refine lv_iload_n hx hb dX1_exposeLiar_36 rfl (lv_at hl 3 rfl) ?_
      refine lv_aload_n hx hb dX1_exposeLiar_37 rfl (lv_at hl 0 rfl) ?_
      refine gt_X1_6 C hin X 3 rfl dX1_exposeLiar_38 ?_
      refine lv_icmp_ge (tgt := 73) hx hb dX1_exposeLiar_41 (by decide) (fun c4 => ?_) (fun c4 => ?_)
      · have h := ip h c4
        have h := so h
        subst h
        exact W.vret hx hb hr (fun t ht _ => ⟨rfl, by rw [ht]; exact X, hS.F ht⟩) hS.2.2 dX1_exposeLiar_73
      · have h := iq h c4
        refine lv_iload_n hx hb dX1_exposeLiar_44 rfl (lv_at hl 2 rfl) ?_
        refine lv_iload_n hx hb dX1_exposeLiar_45 rfl (lv_at hl 3 rfl) ?_
        obtain ⟨r5, hr5, h⟩ := ob h
        refine rowS (As := [.int v2, .int v3]) (rest := []) (B := fun _ => True) C (kX1_isIn l G v2 v3 r5 hr5) (va_cwS 2 hts gX1_exposeLiar_X1_isIn rfl rfl rfl (by decide +kernel) ⟨Nat.le_of_ble_eq_true rfl, Nat.le_of_ble_eq_true rfl⟩) trivial rfl hl.1 rfl (Nat.le_of_ble_eq_true rfl) dX1_exposeLiar_46 ⟨Nat.zero_le _, Nat.zero_le _⟩ ?_
        refine lv_if_eq (tgt := 67) hx hb dX1_exposeLiar_49 (by decide) (fun c6 => ?_) (fun c6 => ?_)
        · have h := ip h c6
          refine lv_iinc (v := v3 + 1) (lv' := [(3, .int (v3 + 1)), (0, .ref b), (1, .int v1), (2, .int v2)]) hx hb dX1_exposeLiar_67 hl (k := 3) rfl rfl (by decide) rfl (fun ls hl => ?_)
          refine lv_goto (tgt := 36) hx hb dX1_exposeLiar_70 (by decide) ?_
          exact ih _ _ _ _ _ _ _ h X hS (lv_sub hl [1, 2, 3, 0] rfl)
        · have h := iq h c6
          refine lv_aload_n hx hb dX1_exposeLiar_52 rfl (lv_at hl 0 rfl) ?_
          refine gt_X1_5 C hin X 4 rfl dX1_exposeLiar_53 ?_
          refine lv_iload_n hx hb dX1_exposeLiar_56 rfl (lv_at hl 3 rfl) ?_
          refine lv_dup2_11 hx hb dX1_exposeLiar_57 rfl rfl ?_
          obtain ⟨c7, h⟩ := og h
          refine al_X1_5 C X rfl c7 dX1_exposeLiar_58 ?_
          refine lv_aload_n hx hb dX1_exposeLiar_59 rfl (lv_at hl 0 rfl) ?_
          refine gt_X1_0 C hin X 5 rfl dX1_exposeLiar_60 ?_
          refine lv_iconst (v := 4) hx hb dX1_exposeLiar_63 (by decide) ?_
          refine al_X1_0 (j := 4) C X rfl (by decide) dX1_exposeLiar_64 ?_
          refine lv_iadd hx hb dX1_exposeLiar_65 ?_
          obtain ⟨c8, h⟩ := og h
          refine as_X1_5 C X hS rfl c8 dX1_exposeLiar_66 (fun H locs X hS => ?_)
          refine lv_iinc (v := v3 + 1) (lv' := [(3, .int (v3 + 1)), (0, .ref b), (1, .int v1), (2, .int v2)]) hx hb dX1_exposeLiar_67 hl (k := 3) rfl rfl (by decide) rfl (fun ls hl => ?_)
          refine lv_goto (tgt := 36) hx hb dX1_exposeLiar_70 (by decide) ?_
          exact ih _ _ _ _ _ _ _ h X hS (lv_sub hl [1, 2, 3, 0] rfl)
  unfold fX1_exposeLiar at h
  refine lv_aload_n hx hb dX1_exposeLiar_0 rfl (lv_at hl 0 rfl) ?_
  refine lv_dup hx hb dX1_exposeLiar_1 rfl ?_
  refine gt_X1_8 C hin X 1 rfl dX1_exposeLiar_2 ?_
  refine lv_iload_n hx hb dX1_exposeLiar_5 rfl (lv_at hl 1 rfl) ?_
  obtain ⟨r1, hr1, h⟩ := ob h
  refine rowS (As := [.int p1]) (rest := [.int (σ 8 0), .ref b]) (B := fun _ => True) C (kX1_bit l G p1 r1 hr1) (va_cwS 1 hts gX1_exposeLiar_X1_bit rfl rfl rfl (by decide +kernel) ⟨Nat.le_of_ble_eq_true rfl, Nat.le_of_ble_eq_true rfl⟩) trivial rfl hl.1 rfl (Nat.le_of_ble_eq_true rfl) dX1_exposeLiar_6 ⟨Nat.zero_le _, Nat.zero_le _⟩ ?_
  refine lv_ior hx hb dX1_exposeLiar_9 ?_
  refine pt_X1_8 C hin X hS 1 rfl dX1_exposeLiar_10 (fun H locs X hS => ?_)
  refine lv_aload_n hx hb dX1_exposeLiar_13 rfl (lv_at hl 0 rfl) ?_
  refine lv_dup hx hb dX1_exposeLiar_14 rfl ?_
  refine gt_X1_9 C hin X 2 rfl dX1_exposeLiar_15 ?_
  refine lv_iload_n hx hb dX1_exposeLiar_18 rfl (lv_at hl 1 rfl) ?_
  obtain ⟨r2, hr2, h⟩ := ob h
  refine rowS (As := [.int p1]) (rest := [.int ((up σ 8 0 ((σ 8 0) ||| r1)) 9 0), .ref b]) (B := fun _ => True) C (kX1_bit l G p1 r2 hr2) (va_cwS 1 hts gX1_exposeLiar_X1_bit rfl rfl rfl (by decide +kernel) ⟨Nat.le_of_ble_eq_true rfl, Nat.le_of_ble_eq_true rfl⟩) trivial rfl hl.1 rfl (Nat.le_of_ble_eq_true rfl) dX1_exposeLiar_19 ⟨Nat.zero_le _, Nat.zero_le _⟩ ?_
  refine lv_iconst (v := (-1)) hx hb dX1_exposeLiar_22 (by decide) ?_
  refine lv_ixor hx hb dX1_exposeLiar_23 ?_
  refine lv_iand hx hb dX1_exposeLiar_24 ?_
  refine pt_X1_9 C hin X hS 2 rfl dX1_exposeLiar_25 (fun H locs X hS => ?_)
  refine lv_aload_n hx hb dX1_exposeLiar_28 rfl (lv_at hl 0 rfl) ?_
  refine lv_iload_n hx hb dX1_exposeLiar_29 rfl (lv_at hl 1 rfl) ?_
  obtain ⟨r3, hr3, h⟩ := ob h
  refine rowV (As := [.int p1]) (rest := []) C (kX1_wholeVouchers l G b (up (up σ 8 0 ((σ 8 0) ||| r1)) 9 0 (((up σ 8 0 ((σ 8 0) ||| r1)) 9 0) &&& (r2 ^^^ (-1)))) p1 r3 hr3) (cwV 1 hts gX1_exposeLiar_X1_wholeVouchers rfl rfl rfl (by decide +kernel) ⟨Nat.le_of_ble_eq_true rfl, Nat.le_of_ble_eq_true rfl⟩) (rcv_X1 X hK) X rfl hl.1 rfl (Nat.le_of_ble_eq_true rfl) dX1_exposeLiar_30 ⟨Nat.zero_le _, Nat.zero_le _⟩ ?_
  refine lv_istore_n (lv' := [(2, .int r3), (0, .ref b), (1, .int p1)]) hx hb dX1_exposeLiar_33 rfl hl (by decide) rfl (fun ls hl => ?_)
  refine lv_iconst (v := 0) hx hb dX1_exposeLiar_34 (by decide) ?_
  refine lv_istore_n (lv' := [(3, .int 0), (2, .int r3), (0, .ref b), (1, .int p1)]) hx hb dX1_exposeLiar_35 rfl hl (by decide) rfl (fun ls hl => ?_)
  exact loop36 _ _ _ _ _ _ _ _ h X hS (lv_sub hl [2, 3, 1, 0] rfl)

theorem in_X1_reachedFrom : ∀ w ∈ wsX10, w ∈ wsX1_reachedFrom := by decide +kernel
def fX1_reachedFrom_7 : Nat → St → Int32 → Int32 → Int32 → Int32 → Option (Int32)
  | 0, _, _, _, _, _ => none
  | n + 1, σ, v1, v2, v3, v4 => if 24 ≤ v4 then (some v2) else ((fX1_knows σ v3).bind (fun r2 => if r2 = 0 then (some v2) else ((fX1_bit v3).bind (fun r4 => (fX1_isWhole σ v3).bind (fun r5 => if r5 = 0 then (some (v2 ||| r4)) else (if oob v3 24 then none else fX1_reachedFrom_7 n σ v1 (v2 ||| r4) (σ 3 v3.toNatClampNeg) (v4 + 1)))))))
theorem fX1_reachedFrom_7_0 (σ : St) (v1 : Int32) (v2 : Int32) (v3 : Int32) (v4 : Int32) : fX1_reachedFrom_7 0 σ v1 v2 v3 v4 = none := rfl
theorem fX1_reachedFrom_7_s (n : Nat) (σ : St) (v1 : Int32) (v2 : Int32) (v3 : Int32) (v4 : Int32) : fX1_reachedFrom_7 (n + 1) σ v1 v2 v3 v4 = (if 24 ≤ v4 then (some v2) else ((fX1_knows σ v3).bind (fun r2 => if r2 = 0 then (some v2) else ((fX1_bit v3).bind (fun r4 => (fX1_isWhole σ v3).bind (fun r5 => if r5 = 0 then (some (v2 ||| r4)) else (if oob v3 24 then none else fX1_reachedFrom_7 n σ v1 (v2 ||| r4) (σ 3 v3.toNatClampNeg) (v4 + 1)))))))) := rfl
def fX1_reachedFrom (σ : St) (p1 : Int32) : Option (Int32) := fX1_reachedFrom_7 1000 σ p1 0 p1 0
set_option maxHeartbeats 4000000 in
set_option maxRecDepth 100000 in
theorem kX1_reachedFrom (l : Launch) (G : Gx) (b : Nat) (σ : St) (p1 : Int32) (r : Int32) (h : fX1_reachedFrom σ p1 = some r) : Met l yX1_reachedFrom wsX1_reachedFrom (rmN 2) (pre G [.ref b, .int p1] (hAt G b σ)) (QcRead r) 0 0 (fun _ => False) := by
  refine Met.ofW (cc := cX1_reachedFrom) (maxL := 5) (ret := (some .int)) (by decide) rfl ?_
  intro p e s m args below meth c s₁ B hml hv
  obtain ⟨rfl, X, hK⟩ := hv
  have hx := B.exec
  have hb := B.bytes
  have hr := B.returns
  have hts := atoms_spec (ws := wsX1_reachedFrom) B.pre
  have hown : s.vm.findClass RX1 = some m.cls := findClass_of_methodNamed B.named
  have hlocks := B.notSynchronized
  have C : Cx p m c cX1_reachedFrom 5 s _ wsX1_reachedFrom RX1 G := ⟨⟨hx, hb, hml, hown, hts⟩, hK⟩
  have hin : ∀ w ∈ wsX10, w ∈ wsX1_reachedFrom := in_X1_reachedFrom
  have hl := lv_entry ([.ref b, .int p1]) (n := 5) (Nat.le_of_ble_eq_true rfl)
  rw [lg_entry_eq]
  generalize (lg_sl ([.ref b, .int p1]) ++ List.replicate (5 - (lg_sl ([.ref b, .int p1])).length) Slot.unset).toArray = ls at hl ⊢
  have hl : lv_has ls 5 [(0, .ref b), (1, .int p1)] := hl
  have loop7 : ∀ (n : Nat) (v1 : Int32) (v2 : Int32) (v3 : Int32) (v4 : Int32) (ls : Array Slot), fX1_reachedFrom_7 n σ v1 v2 v3 v4 = some r → lv_has ls 5 [(0, .ref b), (1, .int v1), (2, .int v2), (3, .int v3), (4, .int v4)] → W p l e (rmN 2) s m #[Value.ref b, Value.int p1] below meth c s.heap [] 0 0 (MQ below (QcRead r) #[Value.ref b, Value.int p1] s 0 0 (fun _ => False)) (F0 m 7 ls []) := by
    intro n
    induction n with
    | zero =>
      intro v1 v2 v3 v4 ls h hl
      rw [fX1_reachedFrom_7_0] at h
      cases h
    | succ n ih =>
      intro v1 v2 v3 v4 ls h hl
      rw [fX1_reachedFrom_7_s] at h
      refine lv_iload hx hb dX1_reachedFrom_7 (lv_at hl 4 rfl) ?_
      refine lv_bipush (v := 24) hx hb dX1_reachedFrom_9 (by decide) ?_
      refine lv_icmp_ge (tgt := 52) hx hb dX1_reachedFrom_11 (by decide) (fun c1 => ?_) (fun c1 => ?_)
      · have h := ip h c1
        refine lv_iload_n hx hb dX1_reachedFrom_52 rfl (lv_at hl 2 rfl) ?_
        have h := so h
        subst h
        exact W.iret hx hb hr (fun t ht _ => ⟨rfl, ht⟩) (fun q h => absurd h List.not_mem_nil) dX1_reachedFrom_53
      · have h := iq h c1
        refine lv_aload_n hx hb dX1_reachedFrom_14 rfl (lv_at hl 0 rfl) ?_
        refine lv_iload_n hx hb dX1_reachedFrom_15 rfl (lv_at hl 3 rfl) ?_
        obtain ⟨r2, hr2, h⟩ := ob h
        refine rowV (As := [.int v3]) (rest := []) C (kX1_knows l G b σ v3 r2 hr2) (cwV 1 hts gX1_reachedFrom_X1_knows rfl rfl rfl (by decide +kernel) ⟨Nat.le_of_ble_eq_true rfl, Nat.le_of_ble_eq_true rfl⟩) (rcv_X1 X hK) X rfl hl.1 rfl (Nat.le_of_ble_eq_true rfl) dX1_reachedFrom_16 ⟨Nat.zero_le _, Nat.zero_le _⟩ ?_
        refine lv_if_eq (tgt := 52) hx hb dX1_reachedFrom_19 (by decide) (fun c3 => ?_) (fun c3 => ?_)
        · have h := ip h c3
          refine lv_iload_n hx hb dX1_reachedFrom_52 rfl (lv_at hl 2 rfl) ?_
          have h := so h
          subst h
          exact W.iret hx hb hr (fun t ht _ => ⟨rfl, ht⟩) (fun q h => absurd h List.not_mem_nil) dX1_reachedFrom_53
        · have h := iq h c3
          refine lv_iload_n hx hb dX1_reachedFrom_22 rfl (lv_at hl 2 rfl) ?_
          refine lv_iload_n hx hb dX1_reachedFrom_23 rfl (lv_at hl 3 rfl) ?_
          obtain ⟨r4, hr4, h⟩ := ob h
          refine rowS (As := [.int v3]) (rest := [.int v2]) (B := fun _ => True) C (kX1_bit l G v3 r4 hr4) (va_cwS 1 hts gX1_reachedFrom_X1_bit rfl rfl rfl (by decide +kernel) ⟨Nat.le_of_ble_eq_true rfl, Nat.le_of_ble_eq_true rfl⟩) trivial rfl hl.1 rfl (Nat.le_of_ble_eq_true rfl) dX1_reachedFrom_24 ⟨Nat.zero_le _, Nat.zero_le _⟩ ?_
          refine lv_ior hx hb dX1_reachedFrom_27 ?_
          refine lv_istore_n (lv' := [(2, .int (v2 ||| r4)), (0, .ref b), (1, .int v1), (3, .int v3), (4, .int v4)]) hx hb dX1_reachedFrom_28 rfl hl (by decide) rfl (fun ls hl => ?_)
          refine lv_aload_n hx hb dX1_reachedFrom_29 rfl (lv_at hl 1 rfl) ?_
          refine lv_iload_n hx hb dX1_reachedFrom_30 rfl (lv_at hl 3 rfl) ?_
          obtain ⟨r5, hr5, h⟩ := ob h
          refine rowV (As := [.int v3]) (rest := []) C (kX1_isWhole l G b σ v3 r5 hr5) (cwV 1 hts gX1_reachedFrom_X1_isWhole rfl rfl rfl (by decide +kernel) ⟨Nat.le_of_ble_eq_true rfl, Nat.le_of_ble_eq_true rfl⟩) (rcv_X1 X hK) X rfl hl.1 rfl (Nat.le_of_ble_eq_true rfl) dX1_reachedFrom_31 ⟨Nat.zero_le _, Nat.zero_le _⟩ ?_
          refine lv_if_ne (tgt := 39) hx hb dX1_reachedFrom_34 (by decide) (fun c6 => ?_) (fun c6 => ?_)
          · have h := iq h c6
            refine lv_aload_n hx hb dX1_reachedFrom_39 rfl (lv_at hl 1 rfl) ?_
            refine gt_X1_3 C hin X 1 rfl dX1_reachedFrom_40 ?_
            refine lv_iload_n hx hb dX1_reachedFrom_43 rfl (lv_at hl 3 rfl) ?_
            obtain ⟨c7, h⟩ := og h
            refine al_X1_3 C X rfl c7 dX1_reachedFrom_44 ?_
            refine lv_istore_n (lv' := [(3, .int (σ 3 v3.toNatClampNeg)), (2, .int (v2 ||| r4)), (0, .ref b), (1, .int v1), (4, .int v4)]) hx hb dX1_reachedFrom_45 rfl hl (by decide) rfl (fun ls hl => ?_)
            refine lv_iinc (v := v4 + 1) (lv' := [(4, .int (v4 + 1)), (3, .int (σ 3 v3.toNatClampNeg)), (2, .int (v2 ||| r4)), (0, .ref b), (1, .int v1)]) hx hb dX1_reachedFrom_46 hl (k := 4) rfl rfl (by decide) rfl (fun ls hl => ?_)
            refine lv_goto (tgt := 7) hx hb dX1_reachedFrom_49 (by decide) ?_
            exact ih _ _ _ _ _ h (lv_sub hl [3, 4, 2, 1, 0] rfl)
          · have h := ip h c6
            refine lv_iload_n hx hb dX1_reachedFrom_37 rfl (lv_at hl 0 rfl) ?_
            have h := so h
            subst h
            exact W.iret hx hb hr (fun t ht _ => ⟨rfl, ht⟩) (fun q h => absurd h List.not_mem_nil) dX1_reachedFrom_38
  unfold fX1_reachedFrom at h
  refine lv_iconst (v := 0) hx hb dX1_reachedFrom_0 (by decide) ?_
  refine lv_istore_n (lv' := [(2, .int 0), (0, .ref b), (1, .int p1)]) hx hb dX1_reachedFrom_1 rfl hl (by decide) rfl (fun ls hl => ?_)
  refine lv_iload_n hx hb dX1_reachedFrom_2 rfl (lv_at hl 2 rfl) ?_
  refine lv_istore_n (lv' := [(3, .int p1), (2, .int 0), (0, .ref b), (1, .int p1)]) hx hb dX1_reachedFrom_3 rfl hl (by decide) rfl (fun ls hl => ?_)
  refine lv_iconst (v := 0) hx hb dX1_reachedFrom_4 (by decide) ?_
  refine lv_istore (lv' := [(4, .int 0), (3, .int p1), (2, .int 0), (0, .ref b), (1, .int p1)]) hx hb dX1_reachedFrom_5 hl (by decide) rfl (fun ls hl => ?_)
  exact loop7 _ _ _ _ _ _ h (lv_sub hl [3, 4, 2, 1, 0] rfl)

theorem in_X1_clearedIfHonest : ∀ w ∈ wsX10, w ∈ wsX1_clearedIfHonest := by decide +kernel
def fX1_clearedIfHonest (σ : St) (p1 : Int32) : Option (Int32) := (fX1_reachedFrom σ p1).bind (fun r1 => some ((r1 &&& ((σ 8 0) ^^^ (-1))) &&& ((σ 9 0) ^^^ (-1))))
set_option maxHeartbeats 4000000 in
set_option maxRecDepth 100000 in
theorem kX1_clearedIfHonest (l : Launch) (G : Gx) (b : Nat) (σ : St) (p1 : Int32) (r : Int32) (h : fX1_clearedIfHonest σ p1 = some r) : Met l yX1_clearedIfHonest wsX1_clearedIfHonest (rmN 3) (pre G [.ref b, .int p1] (hAt G b σ)) (QcRead r) 0 0 (fun _ => False) := by
  refine Met.ofW (cc := cX1_clearedIfHonest) (maxL := 2) (ret := (some .int)) (by decide) rfl ?_
  intro p e s m args below meth c s₁ B hml hv
  obtain ⟨rfl, X, hK⟩ := hv
  have hx := B.exec
  have hb := B.bytes
  have hr := B.returns
  have hts := atoms_spec (ws := wsX1_clearedIfHonest) B.pre
  have hown : s.vm.findClass RX1 = some m.cls := findClass_of_methodNamed B.named
  have hlocks := B.notSynchronized
  have C : Cx p m c cX1_clearedIfHonest 2 s _ wsX1_clearedIfHonest RX1 G := ⟨⟨hx, hb, hml, hown, hts⟩, hK⟩
  have hin : ∀ w ∈ wsX10, w ∈ wsX1_clearedIfHonest := in_X1_clearedIfHonest
  have hl := lv_entry ([.ref b, .int p1]) (n := 2) (Nat.le_of_ble_eq_true rfl)
  rw [lg_entry_eq]
  generalize (lg_sl ([.ref b, .int p1]) ++ List.replicate (2 - (lg_sl ([.ref b, .int p1])).length) Slot.unset).toArray = ls at hl ⊢
  have hl : lv_has ls 2 [(0, .ref b), (1, .int p1)] := hl
  unfold fX1_clearedIfHonest at h
  refine lv_aload_n hx hb dX1_clearedIfHonest_0 rfl (lv_at hl 0 rfl) ?_
  refine lv_iload_n hx hb dX1_clearedIfHonest_1 rfl (lv_at hl 1 rfl) ?_
  obtain ⟨r1, hr1, h⟩ := ob h
  refine rowV (As := [.int p1]) (rest := []) C (kX1_reachedFrom l G b σ p1 r1 hr1) (cwV 1 hts gX1_clearedIfHonest_X1_reachedFrom rfl rfl rfl (by decide +kernel) ⟨Nat.le_of_ble_eq_true rfl, Nat.le_of_ble_eq_true rfl⟩) (rcv_X1 X hK) X rfl hl.1 rfl (Nat.le_of_ble_eq_true rfl) dX1_clearedIfHonest_2 ⟨Nat.zero_le _, Nat.zero_le _⟩ ?_
  refine lv_aload_n hx hb dX1_clearedIfHonest_5 rfl (lv_at hl 0 rfl) ?_
  refine gt_X1_8 C hin X 1 rfl dX1_clearedIfHonest_6 ?_
  refine lv_iconst (v := (-1)) hx hb dX1_clearedIfHonest_9 (by decide) ?_
  refine lv_ixor hx hb dX1_clearedIfHonest_10 ?_
  refine lv_iand hx hb dX1_clearedIfHonest_11 ?_
  refine lv_aload_n hx hb dX1_clearedIfHonest_12 rfl (lv_at hl 0 rfl) ?_
  refine gt_X1_9 C hin X 2 rfl dX1_clearedIfHonest_13 ?_
  refine lv_iconst (v := (-1)) hx hb dX1_clearedIfHonest_16 (by decide) ?_
  refine lv_ixor hx hb dX1_clearedIfHonest_17 ?_
  refine lv_iand hx hb dX1_clearedIfHonest_18 ?_
  have h := so h
  subst h
  exact W.iret hx hb hr (fun t ht _ => ⟨rfl, ht⟩) (fun q h => absurd h List.not_mem_nil) dX1_clearedIfHonest_19

theorem in_X1_inspect : ∀ w ∈ wsX10, w ∈ wsX1_inspect := by decide +kernel
def fX1_inspect (σ : St) (p1 : Int32) : Option (Int32 × St) := (fX1_knows σ p1).bind (fun r1 => if r1 = 0 then (some ((-1), σ)) else ((fX1_isIn (σ 7 0) p1).bind (fun r3 => if r3 = 0 then ((fX1_bit p1).bind (fun r5 => if oob p1 24 then none else if oob p1 24 then none else (fX1_ownFine (up σ 7 0 ((σ 7 0) ||| r5)) p1 ((up σ 7 0 ((σ 7 0) ||| r5)) 2 p1.toNatClampNeg)).bind (fun r8 => if oob p1 24 then none else if oob p1 24 then none else (fX1_isLie (up (up σ 7 0 ((σ 7 0) ||| r5)) 5 p1.toNatClampNeg (((up σ 7 0 ((σ 7 0) ||| r5)) 5 p1.toNatClampNeg) + r8)) p1 ((up (up σ 7 0 ((σ 7 0) ||| r5)) 5 p1.toNatClampNeg (((up σ 7 0 ((σ 7 0) ||| r5)) 5 p1.toNatClampNeg) + r8)) 2 p1.toNatClampNeg)).bind (fun r11 => if r11 = 0 then ((fX1_clearedIfHonest (up (up σ 7 0 ((σ 7 0) ||| r5)) 5 p1.toNatClampNeg (((up σ 7 0 ((σ 7 0) ||| r5)) 5 p1.toNatClampNeg) + r8)) p1).bind (fun r13 => (fJ6_bitCount_0f7a4 r13).bind (fun r14 => some (r14, up (up (up σ 7 0 ((σ 7 0) ||| r5)) 5 p1.toNatClampNeg (((up σ 7 0 ((σ 7 0) ||| r5)) 5 p1.toNatClampNeg) + r8)) 9 0 (((up (up σ 7 0 ((σ 7 0) ||| r5)) 5 p1.toNatClampNeg (((up σ 7 0 ((σ 7 0) ||| r5)) 5 p1.toNatClampNeg) + r8)) 9 0) ||| r13))))) else ((fX1_exposeLiar (up (up σ 7 0 ((σ 7 0) ||| r5)) 5 p1.toNatClampNeg (((up σ 7 0 ((σ 7 0) ||| r5)) 5 p1.toNatClampNeg) + r8)) p1).bind (fun σ16 => some (0, σ16))))))) else (some ((-4), σ)))))
set_option maxHeartbeats 4000000 in
set_option maxRecDepth 100000 in
theorem kX1_inspect (l : Launch) (G : Gx) (b : Nat) (σ : St) (p1 : Int32) (r : Int32) (σ' : St) (h : fX1_inspect σ p1 = some (r, σ')) : Met l yX1_inspect wsX1_inspect (rmN 4) (pre G [.ref b, .int p1] (hAt G b σ)) (QcW b (b + 7) (hAt G b σ') (some (.int r))) 0 0 (lw_Fr b (b + 7)) := by
  refine Met.ofW (cc := cX1_inspect) (maxL := 3) (ret := (some .int)) (by decide) rfl ?_
  intro p e s m args below meth c s₁ B hml hv
  obtain ⟨rfl, X, hK⟩ := hv
  have hx := B.exec
  have hb := B.bytes
  have hr := B.returns
  have hts := atoms_spec (ws := wsX1_inspect) B.pre
  have hown : s.vm.findClass RX1 = some m.cls := findClass_of_methodNamed B.named
  have hlocks := B.notSynchronized
  have C : Cx p m c cX1_inspect 3 s _ wsX1_inspect RX1 G := ⟨⟨hx, hb, hml, hown, hts⟩, hK⟩
  have hin : ∀ w ∈ wsX10, w ∈ wsX1_inspect := in_X1_inspect
  have hS : va_S (lw_Fr b (b + 7)) s.heap s.heap [] := va_S.rf
  have hl := lv_entry ([.ref b, .int p1]) (n := 3) (Nat.le_of_ble_eq_true rfl)
  rw [lg_entry_eq]
  generalize (lg_sl ([.ref b, .int p1]) ++ List.replicate (3 - (lg_sl ([.ref b, .int p1])).length) Slot.unset).toArray = ls at hl ⊢
  have hl : lv_has ls 3 [(0, .ref b), (1, .int p1)] := hl
  unfold fX1_inspect at h
  refine lv_aload_n hx hb dX1_inspect_0 rfl (lv_at hl 0 rfl) ?_
  refine lv_iload_n hx hb dX1_inspect_1 rfl (lv_at hl 1 rfl) ?_
  obtain ⟨r1, hr1, h⟩ := ob h
  refine rowV (As := [.int p1]) (rest := []) C (kX1_knows l G b σ p1 r1 hr1) (cwV 1 hts gX1_inspect_X1_knows rfl rfl rfl (by decide +kernel) ⟨Nat.le_of_ble_eq_true rfl, Nat.le_of_ble_eq_true rfl⟩) (rcv_X1 X hK) X rfl hl.1 rfl (Nat.le_of_ble_eq_true rfl) dX1_inspect_2 ⟨Nat.zero_le _, Nat.zero_le _⟩ ?_
  refine lv_if_ne (tgt := 10) hx hb dX1_inspect_5 (by decide) (fun c2 => ?_) (fun c2 => ?_)
  · have h := iq h c2
    refine lv_aload_n hx hb dX1_inspect_10 rfl (lv_at hl 0 rfl) ?_
    refine gt_X1_7 C hin X 1 rfl dX1_inspect_11 ?_
    refine lv_iload_n hx hb dX1_inspect_14 rfl (lv_at hl 1 rfl) ?_
    obtain ⟨r3, hr3, h⟩ := ob h
    refine rowS (As := [.int (σ 7 0), .int p1]) (rest := []) (B := fun _ => True) C (kX1_isIn l G (σ 7 0) p1 r3 hr3) (va_cwS 2 hts gX1_inspect_X1_isIn rfl rfl rfl (by decide +kernel) ⟨Nat.le_of_ble_eq_true rfl, Nat.le_of_ble_eq_true rfl⟩) trivial rfl hl.1 rfl (Nat.le_of_ble_eq_true rfl) dX1_inspect_15 ⟨Nat.zero_le _, Nat.zero_le _⟩ ?_
    refine lv_if_eq (tgt := 24) hx hb dX1_inspect_18 (by decide) (fun c4 => ?_) (fun c4 => ?_)
    · have h := ip h c4
      refine lv_aload_n hx hb dX1_inspect_24 rfl (lv_at hl 0 rfl) ?_
      refine lv_dup hx hb dX1_inspect_25 rfl ?_
      refine gt_X1_7 C hin X 1 rfl dX1_inspect_26 ?_
      refine lv_iload_n hx hb dX1_inspect_29 rfl (lv_at hl 1 rfl) ?_
      obtain ⟨r5, hr5, h⟩ := ob h
      refine rowS (As := [.int p1]) (rest := [.int (σ 7 0), .ref b]) (B := fun _ => True) C (kX1_bit l G p1 r5 hr5) (va_cwS 1 hts gX1_inspect_X1_bit rfl rfl rfl (by decide +kernel) ⟨Nat.le_of_ble_eq_true rfl, Nat.le_of_ble_eq_true rfl⟩) trivial rfl hl.1 rfl (Nat.le_of_ble_eq_true rfl) dX1_inspect_30 ⟨Nat.zero_le _, Nat.zero_le _⟩ ?_
      refine lv_ior hx hb dX1_inspect_33 ?_
      refine pt_X1_7 C hin X hS 1 rfl dX1_inspect_34 (fun H locs X hS => ?_)
      refine lv_aload_n hx hb dX1_inspect_37 rfl (lv_at hl 0 rfl) ?_
      refine gt_X1_5 C hin X 2 rfl dX1_inspect_38 ?_
      refine lv_iload_n hx hb dX1_inspect_41 rfl (lv_at hl 1 rfl) ?_
      refine lv_dup2_11 hx hb dX1_inspect_42 rfl rfl ?_
      obtain ⟨c6, h⟩ := og h
      refine al_X1_5 C X rfl c6 dX1_inspect_43 ?_
      refine lv_aload_n hx hb dX1_inspect_44 rfl (lv_at hl 0 rfl) ?_
      refine lv_iload_n hx hb dX1_inspect_45 rfl (lv_at hl 1 rfl) ?_
      refine lv_aload_n hx hb dX1_inspect_46 rfl (lv_at hl 0 rfl) ?_
      refine gt_X1_2 C hin X 3 rfl dX1_inspect_47 ?_
      refine lv_iload_n hx hb dX1_inspect_50 rfl (lv_at hl 1 rfl) ?_
      obtain ⟨c7, h⟩ := og h
      refine al_X1_2 C X rfl c7 dX1_inspect_51 ?_
      obtain ⟨r8, hr8, h⟩ := ob h
      refine rowV (As := [.int p1, .int ((up σ 7 0 ((σ 7 0) ||| r5)) 2 p1.toNatClampNeg)]) (rest := [.int ((up σ 7 0 ((σ 7 0) ||| r5)) 5 p1.toNatClampNeg), .int p1, .ref (b + 6)]) C (kX1_ownFine l G b (up σ 7 0 ((σ 7 0) ||| r5)) p1 ((up σ 7 0 ((σ 7 0) ||| r5)) 2 p1.toNatClampNeg) r8 hr8) (cwV 2 hts gX1_inspect_X1_ownFine rfl rfl rfl (by decide +kernel) ⟨Nat.le_of_ble_eq_true rfl, Nat.le_of_ble_eq_true rfl⟩) (rcv_X1 X hK) X rfl hl.1 rfl (Nat.le_of_ble_eq_true rfl) dX1_inspect_52 ⟨Nat.zero_le _, Nat.zero_le _⟩ ?_
      refine lv_iadd hx hb dX1_inspect_55 ?_
      obtain ⟨c9, h⟩ := og h
      refine as_X1_5 C X hS rfl c9 dX1_inspect_56 (fun H locs X hS => ?_)
      refine lv_aload_n hx hb dX1_inspect_57 rfl (lv_at hl 0 rfl) ?_
      refine lv_iload_n hx hb dX1_inspect_58 rfl (lv_at hl 1 rfl) ?_
      refine lv_aload_n hx hb dX1_inspect_59 rfl (lv_at hl 0 rfl) ?_
      refine gt_X1_2 C hin X 3 rfl dX1_inspect_60 ?_
      refine lv_iload_n hx hb dX1_inspect_63 rfl (lv_at hl 1 rfl) ?_
      obtain ⟨c10, h⟩ := og h
      refine al_X1_2 C X rfl c10 dX1_inspect_64 ?_
      obtain ⟨r11, hr11, h⟩ := ob h
      refine rowV (As := [.int p1, .int ((up (up σ 7 0 ((σ 7 0) ||| r5)) 5 p1.toNatClampNeg (((up σ 7 0 ((σ 7 0) ||| r5)) 5 p1.toNatClampNeg) + r8)) 2 p1.toNatClampNeg)]) (rest := []) C (kX1_isLie l G b (up (up σ 7 0 ((σ 7 0) ||| r5)) 5 p1.toNatClampNeg (((up σ 7 0 ((σ 7 0) ||| r5)) 5 p1.toNatClampNeg) + r8)) p1 ((up (up σ 7 0 ((σ 7 0) ||| r5)) 5 p1.toNatClampNeg (((up σ 7 0 ((σ 7 0) ||| r5)) 5 p1.toNatClampNeg) + r8)) 2 p1.toNatClampNeg) r11 hr11) (cwV 2 hts gX1_inspect_X1_isLie rfl rfl rfl (by decide +kernel) ⟨Nat.le_of_ble_eq_true rfl, Nat.le_of_ble_eq_true rfl⟩) (rcv_X1 X hK) X rfl hl.1 rfl (Nat.le_of_ble_eq_true rfl) dX1_inspect_65 ⟨Nat.zero_le _, Nat.zero_le _⟩ ?_
      refine lv_if_eq (tgt := 78) hx hb dX1_inspect_68 (by decide) (fun c12 => ?_) (fun c12 => ?_)
      · have h := ip h c12
        refine lv_aload_n hx hb dX1_inspect_78 rfl (lv_at hl 0 rfl) ?_
        refine lv_iload_n hx hb dX1_inspect_79 rfl (lv_at hl 1 rfl) ?_
        obtain ⟨r13, hr13, h⟩ := ob h
        refine rowV (As := [.int p1]) (rest := []) C (kX1_clearedIfHonest l G b (up (up σ 7 0 ((σ 7 0) ||| r5)) 5 p1.toNatClampNeg (((up σ 7 0 ((σ 7 0) ||| r5)) 5 p1.toNatClampNeg) + r8)) p1 r13 hr13) (cwV 1 hts gX1_inspect_X1_clearedIfHonest rfl rfl rfl (by decide +kernel) ⟨Nat.le_of_ble_eq_true rfl, Nat.le_of_ble_eq_true rfl⟩) (rcv_X1 X hK) X rfl hl.1 rfl (Nat.le_of_ble_eq_true rfl) dX1_inspect_80 ⟨Nat.zero_le _, Nat.zero_le _⟩ ?_
        refine lv_istore_n (lv' := [(2, .int r13), (0, .ref b), (1, .int p1)]) hx hb dX1_inspect_83 rfl hl (by decide) rfl (fun ls hl => ?_)
        refine lv_aload_n hx hb dX1_inspect_84 rfl (lv_at hl 1 rfl) ?_
        refine lv_dup hx hb dX1_inspect_85 rfl ?_
        refine gt_X1_9 C hin X 4 rfl dX1_inspect_86 ?_
        refine lv_iload_n hx hb dX1_inspect_89 rfl (lv_at hl 0 rfl) ?_
        refine lv_ior hx hb dX1_inspect_90 ?_
        refine pt_X1_9 C hin X hS 4 rfl dX1_inspect_91 (fun H locs X hS => ?_)
        refine lv_iload_n hx hb dX1_inspect_94 rfl (lv_at hl 0 rfl) ?_
        obtain ⟨r14, hr14, h⟩ := ob h
        refine rowS (As := [.int r13]) (rest := []) (B := fun _ => True) C (kJ6_bitCount_0f7a4 l G r13 r14 hr14) (va_cwS 1 hts gX1_inspect_J6_bitCount_0f7a4 rfl rfl rfl (by decide +kernel) ⟨Nat.le_of_ble_eq_true rfl, Nat.le_of_ble_eq_true rfl⟩) trivial rfl hl.1 rfl (Nat.le_of_ble_eq_true rfl) dX1_inspect_95 ⟨Nat.zero_le _, Nat.zero_le _⟩ ?_
        obtain ⟨h, h9⟩ := pr h
        subst h
        subst h9
        exact W.iret hx hb hr (fun t ht _ => ⟨rfl, by rw [ht]; exact X, hS.F ht⟩) hS.2.2 dX1_inspect_98
      · have h := iq h c12
        refine lv_aload_n hx hb dX1_inspect_71 rfl (lv_at hl 0 rfl) ?_
        refine lv_iload_n hx hb dX1_inspect_72 rfl (lv_at hl 1 rfl) ?_
        obtain ⟨σ16, hr15, h⟩ := ob h
        refine rowW (As := [.int p1]) (rest := []) C (kX1_exposeLiar l G b (up (up σ 7 0 ((σ 7 0) ||| r5)) 5 p1.toNatClampNeg (((up σ 7 0 ((σ 7 0) ||| r5)) 5 p1.toNatClampNeg) + r8)) p1 σ16 hr15) (cwV 1 hts gX1_inspect_X1_exposeLiar rfl rfl rfl (by decide +kernel) ⟨Nat.le_of_ble_eq_true rfl, Nat.le_of_ble_eq_true rfl⟩) (rcv_X1 X hK) X hS (fun _ z => z) rfl hl.1 rfl (Nat.le_of_ble_eq_true rfl) dX1_inspect_73 ⟨Nat.zero_le _, Nat.zero_le _⟩ (fun H locs X hS _ _ => ?_)
        show W p l e _ s m _ below meth c H locs 0 0 _ (F0 m 76 ls [])
        refine lv_iconst (v := 0) hx hb dX1_inspect_76 (by decide) ?_
        obtain ⟨h, h9⟩ := pr h
        subst h
        subst h9
        exact W.iret hx hb hr (fun t ht _ => ⟨rfl, by rw [ht]; exact X, hS.F ht⟩) hS.2.2 dX1_inspect_77
    · have h := iq h c4
      refine lv_bipush (v := (-4)) hx hb dX1_inspect_21 (by decide) ?_
      obtain ⟨h, h9⟩ := pr h
      subst h
      subst h9
      exact W.iret hx hb hr (fun t ht _ => ⟨rfl, by rw [ht]; exact X, hS.F ht⟩) hS.2.2 dX1_inspect_23
  · have h := ip h c2
    refine lv_iconst (v := (-1)) hx hb dX1_inspect_8 (by decide) ?_
    obtain ⟨h, h9⟩ := pr h
    subst h
    subst h9
    exact W.iret hx hb hr (fun t ht _ => ⟨rfl, by rw [ht]; exact X, hS.F ht⟩) hS.2.2 dX1_inspect_9

theorem in_X1_all : ∀ w ∈ wsX10, w ∈ wsX1_all := by decide +kernel
def fX1_all (σ : St) : Option (Int32) := (fX1_bit (σ 6 0)).bind (fun r1 => some (r1 - 1))
set_option maxHeartbeats 4000000 in
set_option maxRecDepth 100000 in
theorem kX1_all (l : Launch) (G : Gx) (b : Nat) (σ : St) (r : Int32) (h : fX1_all σ = some r) : Met l yX1_all wsX1_all (rmN 1) (pre G [.ref b] (hAt G b σ)) (QcRead r) 0 0 (fun _ => False) := by
  refine Met.ofW (cc := cX1_all) (maxL := 1) (ret := (some .int)) (by decide) rfl ?_
  intro p e s m args below meth c s₁ B hml hv
  obtain ⟨rfl, X, hK⟩ := hv
  have hx := B.exec
  have hb := B.bytes
  have hr := B.returns
  have hts := atoms_spec (ws := wsX1_all) B.pre
  have hown : s.vm.findClass RX1 = some m.cls := findClass_of_methodNamed B.named
  have hlocks := B.notSynchronized
  have C : Cx p m c cX1_all 1 s _ wsX1_all RX1 G := ⟨⟨hx, hb, hml, hown, hts⟩, hK⟩
  have hin : ∀ w ∈ wsX10, w ∈ wsX1_all := in_X1_all
  have hl := lv_entry ([.ref b]) (n := 1) (Nat.le_of_ble_eq_true rfl)
  rw [lg_entry_eq]
  generalize (lg_sl ([.ref b]) ++ List.replicate (1 - (lg_sl ([.ref b])).length) Slot.unset).toArray = ls at hl ⊢
  have hl : lv_has ls 1 [(0, .ref b)] := hl
  unfold fX1_all at h
  refine lv_aload_n hx hb dX1_all_0 rfl (lv_at hl 0 rfl) ?_
  refine gt_X1_6 C hin X 1 rfl dX1_all_1 ?_
  obtain ⟨r1, hr1, h⟩ := ob h
  refine rowS (As := [.int (σ 6 0)]) (rest := []) (B := fun _ => True) C (kX1_bit l G (σ 6 0) r1 hr1) (va_cwS 1 hts gX1_all_X1_bit rfl rfl rfl (by decide +kernel) ⟨Nat.le_of_ble_eq_true rfl, Nat.le_of_ble_eq_true rfl⟩) trivial rfl hl.1 rfl (Nat.le_of_ble_eq_true rfl) dX1_all_4 ⟨Nat.zero_le _, Nat.zero_le _⟩ ?_
  refine lv_iconst (v := 1) hx hb dX1_all_7 (by decide) ?_
  refine lv_isub hx hb dX1_all_8 ?_
  have h := so h
  subst h
  exact W.iret hx hb hr (fun t ht _ => ⟨rfl, ht⟩) (fun q h => absurd h List.not_mem_nil) dX1_all_9

theorem in_X1_waiting : ∀ w ∈ wsX10, w ∈ wsX1_waiting := by decide +kernel
def fX1_waiting (σ : St) : Option (Int32) := (fX1_all σ).bind (fun r1 => some ((r1 &&& ((σ 9 0) ^^^ (-1))) &&& ((σ 7 0) ^^^ (-1))))
set_option maxHeartbeats 4000000 in
set_option maxRecDepth 100000 in
theorem kX1_waiting (l : Launch) (G : Gx) (b : Nat) (σ : St) (r : Int32) (h : fX1_waiting σ = some r) : Met l yX1_waiting wsX1_waiting (rmN 2) (pre G [.ref b] (hAt G b σ)) (QcRead r) 0 0 (fun _ => False) := by
  refine Met.ofW (cc := cX1_waiting) (maxL := 1) (ret := (some .int)) (by decide) rfl ?_
  intro p e s m args below meth c s₁ B hml hv
  obtain ⟨rfl, X, hK⟩ := hv
  have hx := B.exec
  have hb := B.bytes
  have hr := B.returns
  have hts := atoms_spec (ws := wsX1_waiting) B.pre
  have hown : s.vm.findClass RX1 = some m.cls := findClass_of_methodNamed B.named
  have hlocks := B.notSynchronized
  have C : Cx p m c cX1_waiting 1 s _ wsX1_waiting RX1 G := ⟨⟨hx, hb, hml, hown, hts⟩, hK⟩
  have hin : ∀ w ∈ wsX10, w ∈ wsX1_waiting := in_X1_waiting
  have hl := lv_entry ([.ref b]) (n := 1) (Nat.le_of_ble_eq_true rfl)
  rw [lg_entry_eq]
  generalize (lg_sl ([.ref b]) ++ List.replicate (1 - (lg_sl ([.ref b])).length) Slot.unset).toArray = ls at hl ⊢
  have hl : lv_has ls 1 [(0, .ref b)] := hl
  unfold fX1_waiting at h
  refine lv_aload_n hx hb dX1_waiting_0 rfl (lv_at hl 0 rfl) ?_
  obtain ⟨r1, hr1, h⟩ := ob h
  refine rowV (As := []) (rest := []) C (kX1_all l G b σ r1 hr1) (cwV 0 hts gX1_waiting_X1_all rfl rfl rfl (by decide +kernel) ⟨Nat.le_of_ble_eq_true rfl, Nat.le_of_ble_eq_true rfl⟩) (rcv_X1 X hK) X rfl hl.1 rfl (Nat.le_of_ble_eq_true rfl) dX1_waiting_1 ⟨Nat.zero_le _, Nat.zero_le _⟩ ?_
  refine lv_aload_n hx hb dX1_waiting_4 rfl (lv_at hl 0 rfl) ?_
  refine gt_X1_9 C hin X 1 rfl dX1_waiting_5 ?_
  refine lv_iconst (v := (-1)) hx hb dX1_waiting_8 (by decide) ?_
  refine lv_ixor hx hb dX1_waiting_9 ?_
  refine lv_iand hx hb dX1_waiting_10 ?_
  refine lv_aload_n hx hb dX1_waiting_11 rfl (lv_at hl 0 rfl) ?_
  refine gt_X1_7 C hin X 2 rfl dX1_waiting_12 ?_
  refine lv_iconst (v := (-1)) hx hb dX1_waiting_15 (by decide) ?_
  refine lv_ixor hx hb dX1_waiting_16 ?_
  refine lv_iand hx hb dX1_waiting_17 ?_
  have h := so h
  subst h
  exact W.iret hx hb hr (fun t ht _ => ⟨rfl, ht⟩) (fun q h => absurd h List.not_mem_nil) dX1_waiting_18

theorem in_X1_inspectAll : ∀ w ∈ wsX10, w ∈ wsX1_inspectAll := by decide +kernel
def fX1_inspectAll_9 : Nat → St → Int32 → Int32 → Option (Int32 × St)
  | 0, _, _, _ => none
  | n + 1, σ, v1, v2 => if v2 < 0 then (if v1 ≤ 0 then (some ((-5), σ)) else (some (v1, σ))) else ((fX1_waiting σ).bind (fun r3 => (fX1_isIn r3 v2).bind (fun r4 => if r4 = 0 then (fX1_inspectAll_9 n σ v1 (v2 + (-1))) else ((fX1_inspect σ v2).bind (fun q8 => fX1_inspectAll_9 n q8.2 (v1 + 1) (v2 + (-1)))))))
theorem fX1_inspectAll_9_0 (σ : St) (v1 : Int32) (v2 : Int32) : fX1_inspectAll_9 0 σ v1 v2 = none := rfl
theorem fX1_inspectAll_9_s (n : Nat) (σ : St) (v1 : Int32) (v2 : Int32) : fX1_inspectAll_9 (n + 1) σ v1 v2 = (if v2 < 0 then (if v1 ≤ 0 then (some ((-5), σ)) else (some (v1, σ))) else ((fX1_waiting σ).bind (fun r3 => (fX1_isIn r3 v2).bind (fun r4 => if r4 = 0 then (fX1_inspectAll_9 n σ v1 (v2 + (-1))) else ((fX1_inspect σ v2).bind (fun q8 => fX1_inspectAll_9 n q8.2 (v1 + 1) (v2 + (-1)))))))) := rfl
def fX1_inspectAll (σ : St) : Option (Int32 × St) := fX1_inspectAll_9 1000 σ 0 ((σ 6 0) - 1)
set_option maxHeartbeats 4000000 in
set_option maxRecDepth 100000 in
theorem kX1_inspectAll (l : Launch) (G : Gx) (b : Nat) (σ : St) (r : Int32) (σ' : St) (h : fX1_inspectAll σ = some (r, σ')) : Met l yX1_inspectAll wsX1_inspectAll (rmN 5) (pre G [.ref b] (hAt G b σ)) (QcW b (b + 7) (hAt G b σ') (some (.int r))) 0 0 (lw_Fr b (b + 7)) := by
  refine Met.ofW (cc := cX1_inspectAll) (maxL := 3) (ret := (some .int)) (by decide) rfl ?_
  intro p e s m args below meth c s₁ B hml hv
  obtain ⟨rfl, X, hK⟩ := hv
  have hx := B.exec
  have hb := B.bytes
  have hr := B.returns
  have hts := atoms_spec (ws := wsX1_inspectAll) B.pre
  have hown : s.vm.findClass RX1 = some m.cls := findClass_of_methodNamed B.named
  have hlocks := B.notSynchronized
  have C : Cx p m c cX1_inspectAll 3 s _ wsX1_inspectAll RX1 G := ⟨⟨hx, hb, hml, hown, hts⟩, hK⟩
  have hin : ∀ w ∈ wsX10, w ∈ wsX1_inspectAll := in_X1_inspectAll
  have hS : va_S (lw_Fr b (b + 7)) s.heap s.heap [] := va_S.rf
  have hl := lv_entry ([.ref b]) (n := 3) (Nat.le_of_ble_eq_true rfl)
  rw [lg_entry_eq]
  generalize (lg_sl ([.ref b]) ++ List.replicate (3 - (lg_sl ([.ref b])).length) Slot.unset).toArray = ls at hl ⊢
  have hl : lv_has ls 3 [(0, .ref b)] := hl
  have loop9 : ∀ (n : Nat) (σ : St) (v1 : Int32) (v2 : Int32) (H : Heap) (locs : List Loc) (ls : Array Slot), fX1_inspectAll_9 n σ v1 v2 = some (r, σ') → hAt G b σ H → va_S (lw_Fr b (b + 7)) s.heap H locs → lv_has ls 3 [(0, .ref b), (1, .int v1), (2, .int v2)] → W p l e (rmN 5) s m #[Value.ref b] below meth c H locs 0 0 (MQ below (QcW b (b + 7) (hAt G b σ') (some (.int r))) #[Value.ref b] s 0 0 (lw_Fr b (b + 7))) (F0 m 9 ls []) := by
    intro n
    induction n with
    | zero =>
      intro σ v1 v2 H locs ls h X hS hl
      rw [fX1_inspectAll_9_0] at h
      cases h
    | succ n ih =>
      intro σ v1 v2 H locs ls h X hS hl
      rw [fX1_inspectAll_9_s] at h
      refine lv_iload_n hx hb dX1_inspectAll_9 rfl (lv_at hl 2 rfl) ?_
      refine lv_if_lt (tgt := 39) hx hb dX1_inspectAll_10 (by decide) (fun c1 => ?_) (fun c1 => ?_)
      · have h := ip h c1
        refine lv_iload_n hx hb dX1_inspectAll_39 rfl (lv_at hl 1 rfl) ?_
        refine lv_if_le (tgt := 47) hx hb dX1_inspectAll_40 (by decide) (fun c2 => ?_) (fun c2 => ?_)
        · have h := ip h c2
          refine lv_bipush (v := (-5)) hx hb dX1_inspectAll_47 (by decide) ?_
          obtain ⟨h, h9⟩ := pr h
          subst h
          subst h9
          exact W.iret hx hb hr (fun t ht _ => ⟨rfl, by rw [ht]; exact X, hS.F ht⟩) hS.2.2 dX1_inspectAll_49
        · have h := iq h c2
          refine lv_iload_n hx hb dX1_inspectAll_43 rfl (lv_at hl 1 rfl) ?_
          refine lv_goto (tgt := 49) hx hb dX1_inspectAll_44 (by decide) ?_
          obtain ⟨h, h9⟩ := pr h
          subst h
          subst h9
          exact W.iret hx hb hr (fun t ht _ => ⟨rfl, by rw [ht]; exact X, hS.F ht⟩) hS.2.2 dX1_inspectAll_49
      · have h := iq h c1
        refine lv_aload_n hx hb dX1_inspectAll_13 rfl (lv_at hl 0 rfl) ?_
        obtain ⟨r3, hr3, h⟩ := ob h
        refine rowV (As := []) (rest := []) C (kX1_waiting l G b σ r3 hr3) (cwV 0 hts gX1_inspectAll_X1_waiting rfl rfl rfl (by decide +kernel) ⟨Nat.le_of_ble_eq_true rfl, Nat.le_of_ble_eq_true rfl⟩) (rcv_X1 X hK) X rfl hl.1 rfl (Nat.le_of_ble_eq_true rfl) dX1_inspectAll_14 ⟨Nat.zero_le _, Nat.zero_le _⟩ ?_
        refine lv_iload_n hx hb dX1_inspectAll_17 rfl (lv_at hl 2 rfl) ?_
        obtain ⟨r4, hr4, h⟩ := ob h
        refine rowS (As := [.int r3, .int v2]) (rest := []) (B := fun _ => True) C (kX1_isIn l G r3 v2 r4 hr4) (va_cwS 2 hts gX1_inspectAll_X1_isIn rfl rfl rfl (by decide +kernel) ⟨Nat.le_of_ble_eq_true rfl, Nat.le_of_ble_eq_true rfl⟩) trivial rfl hl.1 rfl (Nat.le_of_ble_eq_true rfl) dX1_inspectAll_18 ⟨Nat.zero_le _, Nat.zero_le _⟩ ?_
        refine lv_if_eq (tgt := 33) hx hb dX1_inspectAll_21 (by decide) (fun c5 => ?_) (fun c5 => ?_)
        · have h := ip h c5
          refine lv_iinc (v := v2 + (-1)) (lv' := [(2, .int (v2 + (-1))), (0, .ref b), (1, .int v1)]) hx hb dX1_inspectAll_33 hl (k := 2) rfl rfl (by decide) rfl (fun ls hl => ?_)
          refine lv_goto (tgt := 9) hx hb dX1_inspectAll_36 (by decide) ?_
          exact ih _ _ _ _ _ _ h X hS (lv_sub hl [1, 2, 0] rfl)
        · have h := iq h c5
          refine lv_aload_n hx hb dX1_inspectAll_24 rfl (lv_at hl 0 rfl) ?_
          refine lv_iload_n hx hb dX1_inspectAll_25 rfl (lv_at hl 2 rfl) ?_
          obtain ⟨q8, hr6, h⟩ := ob h
          refine rowW (As := [.int v2]) (rest := []) C (kX1_inspect l G b σ v2 q8.1 q8.2 hr6) (cwV 1 hts gX1_inspectAll_X1_inspect rfl rfl rfl (by decide +kernel) ⟨Nat.le_of_ble_eq_true rfl, Nat.le_of_ble_eq_true rfl⟩) (rcv_X1 X hK) X hS (fun _ z => z) rfl hl.1 rfl (Nat.le_of_ble_eq_true rfl) dX1_inspectAll_26 ⟨Nat.zero_le _, Nat.zero_le _⟩ (fun H locs X hS _ _ => ?_)
          show W p l e _ s m _ below meth c H locs 0 0 _ (F0 m 29 ls [.int q8.1])
          refine lv_pop hx hb dX1_inspectAll_29 rfl ?_
          refine lv_iinc (v := v1 + 1) (lv' := [(1, .int (v1 + 1)), (0, .ref b), (2, .int v2)]) hx hb dX1_inspectAll_30 hl (k := 1) rfl rfl (by decide) rfl (fun ls hl => ?_)
          refine lv_iinc (v := v2 + (-1)) (lv' := [(2, .int (v2 + (-1))), (1, .int (v1 + 1)), (0, .ref b)]) hx hb dX1_inspectAll_33 hl (k := 2) rfl rfl (by decide) rfl (fun ls hl => ?_)
          refine lv_goto (tgt := 9) hx hb dX1_inspectAll_36 (by decide) ?_
          exact ih _ _ _ _ _ _ h X hS (lv_sub hl [2, 1, 0] rfl)
  unfold fX1_inspectAll at h
  refine lv_iconst (v := 0) hx hb dX1_inspectAll_0 (by decide) ?_
  refine lv_istore_n (lv' := [(1, .int 0), (0, .ref b)]) hx hb dX1_inspectAll_1 rfl hl (by decide) rfl (fun ls hl => ?_)
  refine lv_aload_n hx hb dX1_inspectAll_2 rfl (lv_at hl 1 rfl) ?_
  refine gt_X1_6 C hin X 1 rfl dX1_inspectAll_3 ?_
  refine lv_iconst (v := 1) hx hb dX1_inspectAll_6 (by decide) ?_
  refine lv_isub hx hb dX1_inspectAll_7 ?_
  refine lv_istore_n (lv' := [(2, .int ((σ 6 0) - 1)), (1, .int 0), (0, .ref b)]) hx hb dX1_inspectAll_8 rfl hl (by decide) rfl (fun ls hl => ?_)
  exact loop9 _ _ _ _ _ _ _ h X hS (lv_sub hl [2, 1, 0] rfl)

theorem in_X1_chainOf : ∀ w ∈ wsX10, w ∈ wsX1_chainOf := by decide +kernel
def fX1_chainOf_7 : Nat → St → Int32 → Int32 → Int32 → Int32 → Option (Int32)
  | 0, _, _, _, _, _ => none
  | n + 1, σ, v1, v2, v3, v4 => if 24 ≤ v4 then (some v2) else ((fX1_knows σ v3).bind (fun r2 => if r2 = 0 then (some v2) else ((fX1_bit v3).bind (fun r4 => if oob v3 24 then none else fX1_chainOf_7 n σ v1 (v2 ||| r4) (σ 3 v3.toNatClampNeg) (v4 + 1)))))
theorem fX1_chainOf_7_0 (σ : St) (v1 : Int32) (v2 : Int32) (v3 : Int32) (v4 : Int32) : fX1_chainOf_7 0 σ v1 v2 v3 v4 = none := rfl
theorem fX1_chainOf_7_s (n : Nat) (σ : St) (v1 : Int32) (v2 : Int32) (v3 : Int32) (v4 : Int32) : fX1_chainOf_7 (n + 1) σ v1 v2 v3 v4 = (if 24 ≤ v4 then (some v2) else ((fX1_knows σ v3).bind (fun r2 => if r2 = 0 then (some v2) else ((fX1_bit v3).bind (fun r4 => if oob v3 24 then none else fX1_chainOf_7 n σ v1 (v2 ||| r4) (σ 3 v3.toNatClampNeg) (v4 + 1)))))) := rfl
def fX1_chainOf (σ : St) (p1 : Int32) : Option (Int32) := fX1_chainOf_7 1000 σ p1 0 p1 0
set_option maxHeartbeats 4000000 in
set_option maxRecDepth 100000 in
theorem kX1_chainOf (l : Launch) (G : Gx) (b : Nat) (σ : St) (p1 : Int32) (r : Int32) (h : fX1_chainOf σ p1 = some r) : Met l yX1_chainOf wsX1_chainOf (rmN 1) (pre G [.ref b, .int p1] (hAt G b σ)) (QcRead r) 0 0 (fun _ => False) := by
  refine Met.ofW (cc := cX1_chainOf) (maxL := 5) (ret := (some .int)) (by decide) rfl ?_
  intro p e s m args below meth c s₁ B hml hv
  obtain ⟨rfl, X, hK⟩ := hv
  have hx := B.exec
  have hb := B.bytes
  have hr := B.returns
  have hts := atoms_spec (ws := wsX1_chainOf) B.pre
  have hown : s.vm.findClass RX1 = some m.cls := findClass_of_methodNamed B.named
  have hlocks := B.notSynchronized
  have C : Cx p m c cX1_chainOf 5 s _ wsX1_chainOf RX1 G := ⟨⟨hx, hb, hml, hown, hts⟩, hK⟩
  have hin : ∀ w ∈ wsX10, w ∈ wsX1_chainOf := in_X1_chainOf
  have hl := lv_entry ([.ref b, .int p1]) (n := 5) (Nat.le_of_ble_eq_true rfl)
  rw [lg_entry_eq]
  generalize (lg_sl ([.ref b, .int p1]) ++ List.replicate (5 - (lg_sl ([.ref b, .int p1])).length) Slot.unset).toArray = ls at hl ⊢
  have hl : lv_has ls 5 [(0, .ref b), (1, .int p1)] := hl
  have loop7 : ∀ (n : Nat) (v1 : Int32) (v2 : Int32) (v3 : Int32) (v4 : Int32) (ls : Array Slot), fX1_chainOf_7 n σ v1 v2 v3 v4 = some r → lv_has ls 5 [(0, .ref b), (1, .int v1), (2, .int v2), (3, .int v3), (4, .int v4)] → W p l e (rmN 1) s m #[Value.ref b, Value.int p1] below meth c s.heap [] 0 0 (MQ below (QcRead r) #[Value.ref b, Value.int p1] s 0 0 (fun _ => False)) (F0 m 7 ls []) := by
    intro n
    induction n with
    | zero =>
      intro v1 v2 v3 v4 ls h hl
      rw [fX1_chainOf_7_0] at h
      cases h
    | succ n ih =>
      intro v1 v2 v3 v4 ls h hl
      rw [fX1_chainOf_7_s] at h
      refine lv_iload hx hb dX1_chainOf_7 (lv_at hl 4 rfl) ?_
      refine lv_bipush (v := 24) hx hb dX1_chainOf_9 (by decide) ?_
      refine lv_icmp_ge (tgt := 42) hx hb dX1_chainOf_11 (by decide) (fun c1 => ?_) (fun c1 => ?_)
      · have h := ip h c1
        refine lv_iload_n hx hb dX1_chainOf_42 rfl (lv_at hl 2 rfl) ?_
        have h := so h
        subst h
        exact W.iret hx hb hr (fun t ht _ => ⟨rfl, ht⟩) (fun q h => absurd h List.not_mem_nil) dX1_chainOf_43
      · have h := iq h c1
        refine lv_aload_n hx hb dX1_chainOf_14 rfl (lv_at hl 0 rfl) ?_
        refine lv_iload_n hx hb dX1_chainOf_15 rfl (lv_at hl 3 rfl) ?_
        obtain ⟨r2, hr2, h⟩ := ob h
        refine rowV (As := [.int v3]) (rest := []) C (kX1_knows l G b σ v3 r2 hr2) (cwV 1 hts gX1_chainOf_X1_knows rfl rfl rfl (by decide +kernel) ⟨Nat.le_of_ble_eq_true rfl, Nat.le_of_ble_eq_true rfl⟩) (rcv_X1 X hK) X rfl hl.1 rfl (Nat.le_of_ble_eq_true rfl) dX1_chainOf_16 ⟨Nat.zero_le _, Nat.zero_le _⟩ ?_
        refine lv_if_eq (tgt := 42) hx hb dX1_chainOf_19 (by decide) (fun c3 => ?_) (fun c3 => ?_)
        · have h := ip h c3
          refine lv_iload_n hx hb dX1_chainOf_42 rfl (lv_at hl 2 rfl) ?_
          have h := so h
          subst h
          exact W.iret hx hb hr (fun t ht _ => ⟨rfl, ht⟩) (fun q h => absurd h List.not_mem_nil) dX1_chainOf_43
        · have h := iq h c3
          refine lv_iload_n hx hb dX1_chainOf_22 rfl (lv_at hl 2 rfl) ?_
          refine lv_iload_n hx hb dX1_chainOf_23 rfl (lv_at hl 3 rfl) ?_
          obtain ⟨r4, hr4, h⟩ := ob h
          refine rowS (As := [.int v3]) (rest := [.int v2]) (B := fun _ => True) C (kX1_bit l G v3 r4 hr4) (va_cwS 1 hts gX1_chainOf_X1_bit rfl rfl rfl (by decide +kernel) ⟨Nat.le_of_ble_eq_true rfl, Nat.le_of_ble_eq_true rfl⟩) trivial rfl hl.1 rfl (Nat.le_of_ble_eq_true rfl) dX1_chainOf_24 ⟨Nat.zero_le _, Nat.zero_le _⟩ ?_
          refine lv_ior hx hb dX1_chainOf_27 ?_
          refine lv_istore_n (lv' := [(2, .int (v2 ||| r4)), (0, .ref b), (1, .int v1), (3, .int v3), (4, .int v4)]) hx hb dX1_chainOf_28 rfl hl (by decide) rfl (fun ls hl => ?_)
          refine lv_aload_n hx hb dX1_chainOf_29 rfl (lv_at hl 1 rfl) ?_
          refine gt_X1_3 C hin X 1 rfl dX1_chainOf_30 ?_
          refine lv_iload_n hx hb dX1_chainOf_33 rfl (lv_at hl 3 rfl) ?_
          obtain ⟨c5, h⟩ := og h
          refine al_X1_3 C X rfl c5 dX1_chainOf_34 ?_
          refine lv_istore_n (lv' := [(3, .int (σ 3 v3.toNatClampNeg)), (2, .int (v2 ||| r4)), (0, .ref b), (1, .int v1), (4, .int v4)]) hx hb dX1_chainOf_35 rfl hl (by decide) rfl (fun ls hl => ?_)
          refine lv_iinc (v := v4 + 1) (lv' := [(4, .int (v4 + 1)), (3, .int (σ 3 v3.toNatClampNeg)), (2, .int (v2 ||| r4)), (0, .ref b), (1, .int v1)]) hx hb dX1_chainOf_36 hl (k := 4) rfl rfl (by decide) rfl (fun ls hl => ?_)
          refine lv_goto (tgt := 7) hx hb dX1_chainOf_39 (by decide) ?_
          exact ih _ _ _ _ _ h (lv_sub hl [3, 4, 2, 1, 0] rfl)
  unfold fX1_chainOf at h
  refine lv_iconst (v := 0) hx hb dX1_chainOf_0 (by decide) ?_
  refine lv_istore_n (lv' := [(2, .int 0), (0, .ref b), (1, .int p1)]) hx hb dX1_chainOf_1 rfl hl (by decide) rfl (fun ls hl => ?_)
  refine lv_iload_n hx hb dX1_chainOf_2 rfl (lv_at hl 2 rfl) ?_
  refine lv_istore_n (lv' := [(3, .int p1), (2, .int 0), (0, .ref b), (1, .int p1)]) hx hb dX1_chainOf_3 rfl hl (by decide) rfl (fun ls hl => ?_)
  refine lv_iconst (v := 0) hx hb dX1_chainOf_4 (by decide) ?_
  refine lv_istore (lv' := [(4, .int 0), (3, .int p1), (2, .int 0), (0, .ref b), (1, .int p1)]) hx hb dX1_chainOf_5 hl (by decide) rfl (fun ls hl => ?_)
  exact loop7 _ _ _ _ _ _ h (lv_sub hl [3, 4, 2, 1, 0] rfl)

theorem in_X1_vouchers : ∀ w ∈ wsX10, w ∈ wsX1_vouchers := by decide +kernel
def fX1_vouchers_4 : Nat → St → Int32 → Int32 → Int32 → Option (Int32)
  | 0, _, _, _, _ => none
  | n + 1, σ, v1, v2, v3 => if (σ 6 0) ≤ v3 then (some v2) else (if oob v3 24 then none else if (σ 3 v3.toNatClampNeg) = v1 then ((fX1_bit v3).bind (fun r4 => fX1_vouchers_4 n σ v1 (v2 ||| r4) (v3 + 1))) else (fX1_vouchers_4 n σ v1 v2 (v3 + 1)))
theorem fX1_vouchers_4_0 (σ : St) (v1 : Int32) (v2 : Int32) (v3 : Int32) : fX1_vouchers_4 0 σ v1 v2 v3 = none := rfl
theorem fX1_vouchers_4_s (n : Nat) (σ : St) (v1 : Int32) (v2 : Int32) (v3 : Int32) : fX1_vouchers_4 (n + 1) σ v1 v2 v3 = (if (σ 6 0) ≤ v3 then (some v2) else (if oob v3 24 then none else if (σ 3 v3.toNatClampNeg) = v1 then ((fX1_bit v3).bind (fun r4 => fX1_vouchers_4 n σ v1 (v2 ||| r4) (v3 + 1))) else (fX1_vouchers_4 n σ v1 v2 (v3 + 1)))) := rfl
def fX1_vouchers (σ : St) (p1 : Int32) : Option (Int32) := fX1_vouchers_4 1000 σ p1 0 0
set_option maxHeartbeats 4000000 in
set_option maxRecDepth 100000 in
theorem kX1_vouchers (l : Launch) (G : Gx) (b : Nat) (σ : St) (p1 : Int32) (r : Int32) (h : fX1_vouchers σ p1 = some r) : Met l yX1_vouchers wsX1_vouchers (rmN 1) (pre G [.ref b, .int p1] (hAt G b σ)) (QcRead r) 0 0 (fun _ => False) := by
  refine Met.ofW (cc := cX1_vouchers) (maxL := 4) (ret := (some .int)) (by decide) rfl ?_
  intro p e s m args below meth c s₁ B hml hv
  obtain ⟨rfl, X, hK⟩ := hv
  have hx := B.exec
  have hb := B.bytes
  have hr := B.returns
  have hts := atoms_spec (ws := wsX1_vouchers) B.pre
  have hown : s.vm.findClass RX1 = some m.cls := findClass_of_methodNamed B.named
  have hlocks := B.notSynchronized
  have C : Cx p m c cX1_vouchers 4 s _ wsX1_vouchers RX1 G := ⟨⟨hx, hb, hml, hown, hts⟩, hK⟩
  have hin : ∀ w ∈ wsX10, w ∈ wsX1_vouchers := in_X1_vouchers
  have hl := lv_entry ([.ref b, .int p1]) (n := 4) (Nat.le_of_ble_eq_true rfl)
  rw [lg_entry_eq]
  generalize (lg_sl ([.ref b, .int p1]) ++ List.replicate (4 - (lg_sl ([.ref b, .int p1])).length) Slot.unset).toArray = ls at hl ⊢
  have hl : lv_has ls 4 [(0, .ref b), (1, .int p1)] := hl
  have loop4 : ∀ (n : Nat) (v1 : Int32) (v2 : Int32) (v3 : Int32) (ls : Array Slot), fX1_vouchers_4 n σ v1 v2 v3 = some r → lv_has ls 4 [(0, .ref b), (1, .int v1), (2, .int v2), (3, .int v3)] → W p l e (rmN 1) s m #[Value.ref b, Value.int p1] below meth c s.heap [] 0 0 (MQ below (QcRead r) #[Value.ref b, Value.int p1] s 0 0 (fun _ => False)) (F0 m 4 ls []) := by
    intro n
    induction n with
    | zero =>
      intro v1 v2 v3 ls h hl
      rw [fX1_vouchers_4_0] at h
      cases h
    | succ n ih =>
      intro v1 v2 v3 ls h hl
      rw [fX1_vouchers_4_s] at h
      refine lv_iload_n hx hb dX1_vouchers_4 rfl (lv_at hl 3 rfl) ?_
      refine lv_aload_n hx hb dX1_vouchers_5 rfl (lv_at hl 0 rfl) ?_
      refine gt_X1_6 C hin X 1 rfl dX1_vouchers_6 ?_
      refine lv_icmp_ge (tgt := 35) hx hb dX1_vouchers_9 (by decide) (fun c1 => ?_) (fun c1 => ?_)
      · have h := ip h c1
        refine lv_iload_n hx hb dX1_vouchers_35 rfl (lv_at hl 2 rfl) ?_
        have h := so h
        subst h
        exact W.iret hx hb hr (fun t ht _ => ⟨rfl, ht⟩) (fun q h => absurd h List.not_mem_nil) dX1_vouchers_36
      · have h := iq h c1
        refine lv_aload_n hx hb dX1_vouchers_12 rfl (lv_at hl 0 rfl) ?_
        refine gt_X1_3 C hin X 2 rfl dX1_vouchers_13 ?_
        refine lv_iload_n hx hb dX1_vouchers_16 rfl (lv_at hl 3 rfl) ?_
        obtain ⟨c2, h⟩ := og h
        refine al_X1_3 C X rfl c2 dX1_vouchers_17 ?_
        refine lv_iload_n hx hb dX1_vouchers_18 rfl (lv_at hl 1 rfl) ?_
        refine lv_icmp_ne (tgt := 29) hx hb dX1_vouchers_19 (by decide) (fun c3 => ?_) (fun c3 => ?_)
        · have h := iq h c3
          refine lv_iinc (v := v3 + 1) (lv' := [(3, .int (v3 + 1)), (0, .ref b), (1, .int v1), (2, .int v2)]) hx hb dX1_vouchers_29 hl (k := 3) rfl rfl (by decide) rfl (fun ls hl => ?_)
          refine lv_goto (tgt := 4) hx hb dX1_vouchers_32 (by decide) ?_
          exact ih _ _ _ _ h (lv_sub hl [1, 2, 3, 0] rfl)
        · have h := ip h c3
          refine lv_iload_n hx hb dX1_vouchers_22 rfl (lv_at hl 2 rfl) ?_
          refine lv_iload_n hx hb dX1_vouchers_23 rfl (lv_at hl 3 rfl) ?_
          obtain ⟨r4, hr4, h⟩ := ob h
          refine rowS (As := [.int v3]) (rest := [.int v2]) (B := fun _ => True) C (kX1_bit l G v3 r4 hr4) (va_cwS 1 hts gX1_vouchers_X1_bit rfl rfl rfl (by decide +kernel) ⟨Nat.le_of_ble_eq_true rfl, Nat.le_of_ble_eq_true rfl⟩) trivial rfl hl.1 rfl (Nat.le_of_ble_eq_true rfl) dX1_vouchers_24 ⟨Nat.zero_le _, Nat.zero_le _⟩ ?_
          refine lv_ior hx hb dX1_vouchers_27 ?_
          refine lv_istore_n (lv' := [(2, .int (v2 ||| r4)), (0, .ref b), (1, .int v1), (3, .int v3)]) hx hb dX1_vouchers_28 rfl hl (by decide) rfl (fun ls hl => ?_)
          refine lv_iinc (v := v3 + 1) (lv' := [(3, .int (v3 + 1)), (2, .int (v2 ||| r4)), (0, .ref b), (1, .int v1)]) hx hb dX1_vouchers_29 hl (k := 3) rfl rfl (by decide) rfl (fun ls hl => ?_)
          refine lv_goto (tgt := 4) hx hb dX1_vouchers_32 (by decide) ?_
          exact ih _ _ _ _ h (lv_sub hl [2, 3, 1, 0] rfl)
  unfold fX1_vouchers at h
  refine lv_iconst (v := 0) hx hb dX1_vouchers_0 (by decide) ?_
  refine lv_istore_n (lv' := [(2, .int 0), (0, .ref b), (1, .int p1)]) hx hb dX1_vouchers_1 rfl hl (by decide) rfl (fun ls hl => ?_)
  refine lv_iconst (v := 0) hx hb dX1_vouchers_2 (by decide) ?_
  refine lv_istore_n (lv' := [(3, .int 0), (2, .int 0), (0, .ref b), (1, .int p1)]) hx hb dX1_vouchers_3 rfl hl (by decide) rfl (fun ls hl => ?_)
  exact loop4 _ _ _ _ _ h (lv_sub hl [2, 3, 1, 0] rfl)

theorem in_X1_countChainsWith : ∀ w ∈ wsX10, w ∈ wsX1_countChainsWith := by decide +kernel
def fX1_countChainsWith_4 : Nat → St → Int32 → Int32 → Int32 → Option (Int32)
  | 0, _, _, _, _ => none
  | n + 1, σ, v1, v2, v3 => if (σ 6 0) ≤ v3 then (some v2) else ((fX1_chainOf σ v3).bind (fun r2 => (fX1_isIn r2 v1).bind (fun r3 => if r3 = 0 then (fX1_countChainsWith_4 n σ v1 v2 (v3 + 1)) else (fX1_countChainsWith_4 n σ v1 (v2 + 1) (v3 + 1)))))
theorem fX1_countChainsWith_4_0 (σ : St) (v1 : Int32) (v2 : Int32) (v3 : Int32) : fX1_countChainsWith_4 0 σ v1 v2 v3 = none := rfl
theorem fX1_countChainsWith_4_s (n : Nat) (σ : St) (v1 : Int32) (v2 : Int32) (v3 : Int32) : fX1_countChainsWith_4 (n + 1) σ v1 v2 v3 = (if (σ 6 0) ≤ v3 then (some v2) else ((fX1_chainOf σ v3).bind (fun r2 => (fX1_isIn r2 v1).bind (fun r3 => if r3 = 0 then (fX1_countChainsWith_4 n σ v1 v2 (v3 + 1)) else (fX1_countChainsWith_4 n σ v1 (v2 + 1) (v3 + 1)))))) := rfl
def fX1_countChainsWith (σ : St) (p1 : Int32) : Option (Int32) := fX1_countChainsWith_4 1000 σ p1 0 0
set_option maxHeartbeats 4000000 in
set_option maxRecDepth 100000 in
theorem kX1_countChainsWith (l : Launch) (G : Gx) (b : Nat) (σ : St) (p1 : Int32) (r : Int32) (h : fX1_countChainsWith σ p1 = some r) : Met l yX1_countChainsWith wsX1_countChainsWith (rmN 2) (pre G [.ref b, .int p1] (hAt G b σ)) (QcRead r) 0 0 (fun _ => False) := by
  refine Met.ofW (cc := cX1_countChainsWith) (maxL := 4) (ret := (some .int)) (by decide) rfl ?_
  intro p e s m args below meth c s₁ B hml hv
  obtain ⟨rfl, X, hK⟩ := hv
  have hx := B.exec
  have hb := B.bytes
  have hr := B.returns
  have hts := atoms_spec (ws := wsX1_countChainsWith) B.pre
  have hown : s.vm.findClass RX1 = some m.cls := findClass_of_methodNamed B.named
  have hlocks := B.notSynchronized
  have C : Cx p m c cX1_countChainsWith 4 s _ wsX1_countChainsWith RX1 G := ⟨⟨hx, hb, hml, hown, hts⟩, hK⟩
  have hin : ∀ w ∈ wsX10, w ∈ wsX1_countChainsWith := in_X1_countChainsWith
  have hl := lv_entry ([.ref b, .int p1]) (n := 4) (Nat.le_of_ble_eq_true rfl)
  rw [lg_entry_eq]
  generalize (lg_sl ([.ref b, .int p1]) ++ List.replicate (4 - (lg_sl ([.ref b, .int p1])).length) Slot.unset).toArray = ls at hl ⊢
  have hl : lv_has ls 4 [(0, .ref b), (1, .int p1)] := hl
  have loop4 : ∀ (n : Nat) (v1 : Int32) (v2 : Int32) (v3 : Int32) (ls : Array Slot), fX1_countChainsWith_4 n σ v1 v2 v3 = some r → lv_has ls 4 [(0, .ref b), (1, .int v1), (2, .int v2), (3, .int v3)] → W p l e (rmN 2) s m #[Value.ref b, Value.int p1] below meth c s.heap [] 0 0 (MQ below (QcRead r) #[Value.ref b, Value.int p1] s 0 0 (fun _ => False)) (F0 m 4 ls []) := by
    intro n
    induction n with
    | zero =>
      intro v1 v2 v3 ls h hl
      rw [fX1_countChainsWith_4_0] at h
      cases h
    | succ n ih =>
      intro v1 v2 v3 ls h hl
      rw [fX1_countChainsWith_4_s] at h
      refine lv_iload_n hx hb dX1_countChainsWith_4 rfl (lv_at hl 3 rfl) ?_
      refine lv_aload_n hx hb dX1_countChainsWith_5 rfl (lv_at hl 0 rfl) ?_
      refine gt_X1_6 C hin X 1 rfl dX1_countChainsWith_6 ?_
      refine lv_icmp_ge (tgt := 33) hx hb dX1_countChainsWith_9 (by decide) (fun c1 => ?_) (fun c1 => ?_)
      · have h := ip h c1
        refine lv_iload_n hx hb dX1_countChainsWith_33 rfl (lv_at hl 2 rfl) ?_
        have h := so h
        subst h
        exact W.iret hx hb hr (fun t ht _ => ⟨rfl, ht⟩) (fun q h => absurd h List.not_mem_nil) dX1_countChainsWith_34
      · have h := iq h c1
        refine lv_aload_n hx hb dX1_countChainsWith_12 rfl (lv_at hl 0 rfl) ?_
        refine lv_iload_n hx hb dX1_countChainsWith_13 rfl (lv_at hl 3 rfl) ?_
        obtain ⟨r2, hr2, h⟩ := ob h
        refine rowV (As := [.int v3]) (rest := []) C (kX1_chainOf l G b σ v3 r2 hr2) (cwV 1 hts gX1_countChainsWith_X1_chainOf rfl rfl rfl (by decide +kernel) ⟨Nat.le_of_ble_eq_true rfl, Nat.le_of_ble_eq_true rfl⟩) (rcv_X1 X hK) X rfl hl.1 rfl (Nat.le_of_ble_eq_true rfl) dX1_countChainsWith_14 ⟨Nat.zero_le _, Nat.zero_le _⟩ ?_
        refine lv_iload_n hx hb dX1_countChainsWith_17 rfl (lv_at hl 1 rfl) ?_
        obtain ⟨r3, hr3, h⟩ := ob h
        refine rowS (As := [.int r2, .int v1]) (rest := []) (B := fun _ => True) C (kX1_isIn l G r2 v1 r3 hr3) (va_cwS 2 hts gX1_countChainsWith_X1_isIn rfl rfl rfl (by decide +kernel) ⟨Nat.le_of_ble_eq_true rfl, Nat.le_of_ble_eq_true rfl⟩) trivial rfl hl.1 rfl (Nat.le_of_ble_eq_true rfl) dX1_countChainsWith_18 ⟨Nat.zero_le _, Nat.zero_le _⟩ ?_
        refine lv_if_eq (tgt := 27) hx hb dX1_countChainsWith_21 (by decide) (fun c4 => ?_) (fun c4 => ?_)
        · have h := ip h c4
          refine lv_iinc (v := v3 + 1) (lv' := [(3, .int (v3 + 1)), (0, .ref b), (1, .int v1), (2, .int v2)]) hx hb dX1_countChainsWith_27 hl (k := 3) rfl rfl (by decide) rfl (fun ls hl => ?_)
          refine lv_goto (tgt := 4) hx hb dX1_countChainsWith_30 (by decide) ?_
          exact ih _ _ _ _ h (lv_sub hl [1, 2, 3, 0] rfl)
        · have h := iq h c4
          refine lv_iinc (v := v2 + 1) (lv' := [(2, .int (v2 + 1)), (0, .ref b), (1, .int v1), (3, .int v3)]) hx hb dX1_countChainsWith_24 hl (k := 2) rfl rfl (by decide) rfl (fun ls hl => ?_)
          refine lv_iinc (v := v3 + 1) (lv' := [(3, .int (v3 + 1)), (2, .int (v2 + 1)), (0, .ref b), (1, .int v1)]) hx hb dX1_countChainsWith_27 hl (k := 3) rfl rfl (by decide) rfl (fun ls hl => ?_)
          refine lv_goto (tgt := 4) hx hb dX1_countChainsWith_30 (by decide) ?_
          exact ih _ _ _ _ h (lv_sub hl [2, 3, 1, 0] rfl)
  unfold fX1_countChainsWith at h
  refine lv_iconst (v := 0) hx hb dX1_countChainsWith_0 (by decide) ?_
  refine lv_istore_n (lv' := [(2, .int 0), (0, .ref b), (1, .int p1)]) hx hb dX1_countChainsWith_1 rfl hl (by decide) rfl (fun ls hl => ?_)
  refine lv_iconst (v := 0) hx hb dX1_countChainsWith_2 (by decide) ?_
  refine lv_istore_n (lv' := [(3, .int 0), (2, .int 0), (0, .ref b), (1, .int p1)]) hx hb dX1_countChainsWith_3 rfl hl (by decide) rfl (fun ls hl => ?_)
  exact loop4 _ _ _ _ _ h (lv_sub hl [2, 3, 1, 0] rfl)

theorem in_X1_whyNotCleared : ∀ w ∈ wsX10, w ∈ wsX1_whyNotCleared := by decide +kernel
def fX1_whyNotCleared (σ : St) (p1 : Int32) : Option (Int32) := (fX1_isIn (σ 9 0) p1).bind (fun r1 => if r1 = 0 then ((fX1_isIn (σ 8 0) p1).bind (fun r3 => if r3 = 0 then ((fX1_vouchers σ p1).bind (fun r5 => if r5 = 0 then (some 2) else (if (r5 &&& (σ 9 0)) = 0 then (some 3) else (some 4)))) else (some 1))) else (some 0))
set_option maxHeartbeats 4000000 in
set_option maxRecDepth 100000 in
theorem kX1_whyNotCleared (l : Launch) (G : Gx) (b : Nat) (σ : St) (p1 : Int32) (r : Int32) (h : fX1_whyNotCleared σ p1 = some r) : Met l yX1_whyNotCleared wsX1_whyNotCleared (rmN 2) (pre G [.ref b, .int p1] (hAt G b σ)) (QcRead r) 0 0 (fun _ => False) := by
  refine Met.ofW (cc := cX1_whyNotCleared) (maxL := 3) (ret := (some .int)) (by decide) rfl ?_
  intro p e s m args below meth c s₁ B hml hv
  obtain ⟨rfl, X, hK⟩ := hv
  have hx := B.exec
  have hb := B.bytes
  have hr := B.returns
  have hts := atoms_spec (ws := wsX1_whyNotCleared) B.pre
  have hown : s.vm.findClass RX1 = some m.cls := findClass_of_methodNamed B.named
  have hlocks := B.notSynchronized
  have C : Cx p m c cX1_whyNotCleared 3 s _ wsX1_whyNotCleared RX1 G := ⟨⟨hx, hb, hml, hown, hts⟩, hK⟩
  have hin : ∀ w ∈ wsX10, w ∈ wsX1_whyNotCleared := in_X1_whyNotCleared
  have hl := lv_entry ([.ref b, .int p1]) (n := 3) (Nat.le_of_ble_eq_true rfl)
  rw [lg_entry_eq]
  generalize (lg_sl ([.ref b, .int p1]) ++ List.replicate (3 - (lg_sl ([.ref b, .int p1])).length) Slot.unset).toArray = ls at hl ⊢
  have hl : lv_has ls 3 [(0, .ref b), (1, .int p1)] := hl
  unfold fX1_whyNotCleared at h
  refine lv_aload_n hx hb dX1_whyNotCleared_0 rfl (lv_at hl 0 rfl) ?_
  refine gt_X1_9 C hin X 1 rfl dX1_whyNotCleared_1 ?_
  refine lv_iload_n hx hb dX1_whyNotCleared_4 rfl (lv_at hl 1 rfl) ?_
  obtain ⟨r1, hr1, h⟩ := ob h
  refine rowS (As := [.int (σ 9 0), .int p1]) (rest := []) (B := fun _ => True) C (kX1_isIn l G (σ 9 0) p1 r1 hr1) (va_cwS 2 hts gX1_whyNotCleared_X1_isIn rfl rfl rfl (by decide +kernel) ⟨Nat.le_of_ble_eq_true rfl, Nat.le_of_ble_eq_true rfl⟩) trivial rfl hl.1 rfl (Nat.le_of_ble_eq_true rfl) dX1_whyNotCleared_5 ⟨Nat.zero_le _, Nat.zero_le _⟩ ?_
  refine lv_if_eq (tgt := 13) hx hb dX1_whyNotCleared_8 (by decide) (fun c2 => ?_) (fun c2 => ?_)
  · have h := ip h c2
    refine lv_aload_n hx hb dX1_whyNotCleared_13 rfl (lv_at hl 0 rfl) ?_
    refine gt_X1_8 C hin X 2 rfl dX1_whyNotCleared_14 ?_
    refine lv_iload_n hx hb dX1_whyNotCleared_17 rfl (lv_at hl 1 rfl) ?_
    obtain ⟨r3, hr3, h⟩ := ob h
    refine rowS (As := [.int (σ 8 0), .int p1]) (rest := []) (B := fun _ => True) C (kX1_isIn l G (σ 8 0) p1 r3 hr3) (va_cwS 2 hts gX1_whyNotCleared_X1_isIn rfl rfl rfl (by decide +kernel) ⟨Nat.le_of_ble_eq_true rfl, Nat.le_of_ble_eq_true rfl⟩) trivial rfl hl.1 rfl (Nat.le_of_ble_eq_true rfl) dX1_whyNotCleared_18 ⟨Nat.zero_le _, Nat.zero_le _⟩ ?_
    refine lv_if_eq (tgt := 26) hx hb dX1_whyNotCleared_21 (by decide) (fun c4 => ?_) (fun c4 => ?_)
    · have h := ip h c4
      refine lv_aload_n hx hb dX1_whyNotCleared_26 rfl (lv_at hl 0 rfl) ?_
      refine lv_iload_n hx hb dX1_whyNotCleared_27 rfl (lv_at hl 1 rfl) ?_
      obtain ⟨r5, hr5, h⟩ := ob h
      refine rowV (As := [.int p1]) (rest := []) C (kX1_vouchers l G b σ p1 r5 hr5) (cwV 1 hts gX1_whyNotCleared_X1_vouchers rfl rfl rfl (by decide +kernel) ⟨Nat.le_of_ble_eq_true rfl, Nat.le_of_ble_eq_true rfl⟩) (rcv_X1 X hK) X rfl hl.1 rfl (Nat.le_of_ble_eq_true rfl) dX1_whyNotCleared_28 ⟨Nat.zero_le _, Nat.zero_le _⟩ ?_
      refine lv_istore_n (lv' := [(2, .int r5), (0, .ref b), (1, .int p1)]) hx hb dX1_whyNotCleared_31 rfl hl (by decide) rfl (fun ls hl => ?_)
      refine lv_iload_n hx hb dX1_whyNotCleared_32 rfl (lv_at hl 0 rfl) ?_
      refine lv_if_ne (tgt := 38) hx hb dX1_whyNotCleared_33 (by decide) (fun c6 => ?_) (fun c6 => ?_)
      · have h := iq h c6
        refine lv_iload_n hx hb dX1_whyNotCleared_38 rfl (lv_at hl 0 rfl) ?_
        refine lv_aload_n hx hb dX1_whyNotCleared_39 rfl (lv_at hl 1 rfl) ?_
        refine gt_X1_9 C hin X 1 rfl dX1_whyNotCleared_40 ?_
        refine lv_iand hx hb dX1_whyNotCleared_43 ?_
        refine lv_if_ne (tgt := 51) hx hb dX1_whyNotCleared_44 (by decide) (fun c7 => ?_) (fun c7 => ?_)
        · have h := iq h c7
          refine lv_iconst (v := 4) hx hb dX1_whyNotCleared_51 (by decide) ?_
          have h := so h
          subst h
          exact W.iret hx hb hr (fun t ht _ => ⟨rfl, ht⟩) (fun q h => absurd h List.not_mem_nil) dX1_whyNotCleared_52
        · have h := ip h c7
          refine lv_iconst (v := 3) hx hb dX1_whyNotCleared_47 (by decide) ?_
          refine lv_goto (tgt := 52) hx hb dX1_whyNotCleared_48 (by decide) ?_
          have h := so h
          subst h
          exact W.iret hx hb hr (fun t ht _ => ⟨rfl, ht⟩) (fun q h => absurd h List.not_mem_nil) dX1_whyNotCleared_52
      · have h := ip h c6
        refine lv_iconst (v := 2) hx hb dX1_whyNotCleared_36 (by decide) ?_
        have h := so h
        subst h
        exact W.iret hx hb hr (fun t ht _ => ⟨rfl, ht⟩) (fun q h => absurd h List.not_mem_nil) dX1_whyNotCleared_37
    · have h := iq h c4
      refine lv_iconst (v := 1) hx hb dX1_whyNotCleared_24 (by decide) ?_
      have h := so h
      subst h
      exact W.iret hx hb hr (fun t ht _ => ⟨rfl, ht⟩) (fun q h => absurd h List.not_mem_nil) dX1_whyNotCleared_25
  · have h := iq h c2
    refine lv_iconst (v := 0) hx hb dX1_whyNotCleared_11 (by decide) ?_
    have h := so h
    subst h
    exact W.iret hx hb hr (fun t ht _ => ⟨rfl, ht⟩) (fun q h => absurd h List.not_mem_nil) dX1_whyNotCleared_12

theorem in_X1_tellOfCart : ∀ w ∈ wsX10, w ∈ wsX1_tellOfCart := by decide +kernel
def fX1_tellOfCart (σ : St) (p1 : Int32) (p2 : Int32) : Option (Int32) := (fX1_knows σ p1).bind (fun r1 => if r1 = 0 then (some (-1)) else (if p2 = 0 then (if oob p1 24 then none else some (σ 1 p1.toNatClampNeg)) else if p2 = 1 then ((fX1_isIn (σ 7 0) p1).bind (fun r6 => if r6 = 0 then (some (-5)) else (if oob p1 24 then none else some (σ 2 p1.toNatClampNeg)))) else if p2 = 2 then (if oob p1 24 then none else if (σ 3 p1.toNatClampNeg) = (-1) then (some (-5)) else (if oob p1 24 then none else some (σ 3 p1.toNatClampNeg))) else if p2 = 3 then (if oob p1 24 then none else some (σ 4 p1.toNatClampNeg)) else if p2 = 4 then ((fX1_rightSeal σ p1).bind (fun r16 => some r16)) else if p2 = 5 then ((fX1_isWhole σ p1).bind (fun r18 => if r18 = 0 then (some 0) else (some 1))) else if p2 = 6 then ((fX1_isIn (σ 7 0) p1).bind (fun r21 => if r21 = 0 then (some 0) else (some 1))) else if p2 = 7 then ((fX1_isIn (σ 9 0) p1).bind (fun r24 => if r24 = 0 then (some 0) else (some 1))) else if p2 = 8 then (if oob p1 24 then none else some (σ 5 p1.toNatClampNeg)) else if p2 = 9 then ((fX1_chainOf σ p1).bind (fun r29 => (fJ6_bitCount_0f7a4 r29).bind (fun r30 => some r30))) else if p2 = 10 then ((fX1_vouchers σ p1).bind (fun r32 => (fJ6_bitCount_0f7a4 r32).bind (fun r33 => some r33))) else if p2 = 11 then ((fX1_countChainsWith σ p1).bind (fun r35 => some r35)) else if p2 = 12 then ((fX1_whyNotCleared σ p1).bind (fun r37 => some r37)) else (some (-2))))
set_option maxHeartbeats 4000000 in
set_option maxRecDepth 100000 in
theorem kX1_tellOfCart (l : Launch) (G : Gx) (b : Nat) (σ : St) (p1 : Int32) (p2 : Int32) (r : Int32) (h : fX1_tellOfCart σ p1 p2 = some r) : Met l yX1_tellOfCart wsX1_tellOfCart (rmN 3) (pre G [.ref b, .int p1, .int p2] (hAt G b σ)) (QcRead r) 0 0 (fun _ => False) := by
  refine Met.ofW (cc := cX1_tellOfCart) (maxL := 3) (ret := (some .int)) (by decide) rfl ?_
  intro p e s m args below meth c s₁ B hml hv
  obtain ⟨rfl, X, hK⟩ := hv
  have hx := B.exec
  have hb := B.bytes
  have hr := B.returns
  have hts := atoms_spec (ws := wsX1_tellOfCart) B.pre
  have hown : s.vm.findClass RX1 = some m.cls := findClass_of_methodNamed B.named
  have hlocks := B.notSynchronized
  have C : Cx p m c cX1_tellOfCart 3 s _ wsX1_tellOfCart RX1 G := ⟨⟨hx, hb, hml, hown, hts⟩, hK⟩
  have hin : ∀ w ∈ wsX10, w ∈ wsX1_tellOfCart := in_X1_tellOfCart
  have hl := lv_entry ([.ref b, .int p1, .int p2]) (n := 3) (Nat.le_of_ble_eq_true rfl)
  rw [lg_entry_eq]
  generalize (lg_sl ([.ref b, .int p1, .int p2]) ++ List.replicate (3 - (lg_sl ([.ref b, .int p1, .int p2])).length) Slot.unset).toArray = ls at hl ⊢
  have hl : lv_has ls 3 [(0, .ref b), (1, .int p1), (2, .int p2)] := hl
  unfold fX1_tellOfCart at h
  refine lv_aload_n hx hb dX1_tellOfCart_0 rfl (lv_at hl 0 rfl) ?_
  refine lv_iload_n hx hb dX1_tellOfCart_1 rfl (lv_at hl 1 rfl) ?_
  obtain ⟨r1, hr1, h⟩ := ob h
  refine rowV (As := [.int p1]) (rest := []) C (kX1_knows l G b σ p1 r1 hr1) (cwV 1 hts gX1_tellOfCart_X1_knows rfl rfl rfl (by decide +kernel) ⟨Nat.le_of_ble_eq_true rfl, Nat.le_of_ble_eq_true rfl⟩) (rcv_X1 X hK) X rfl hl.1 rfl (Nat.le_of_ble_eq_true rfl) dX1_tellOfCart_2 ⟨Nat.zero_le _, Nat.zero_le _⟩ ?_
  refine lv_if_ne (tgt := 10) hx hb dX1_tellOfCart_5 (by decide) (fun c2 => ?_) (fun c2 => ?_)
  · have h := iq h c2
    refine lv_iload_n hx hb dX1_tellOfCart_10 rfl (lv_at hl 2 rfl) ?_
    by_cases c3 : p2 = 0
    · have h := ip h c3
      refine rowTab (K := 0) (off := 65) (tgt := 76) hx hb c3 dX1_tellOfCart_11 (by decide) (by decide) (by decide) (by decide) ?_
      refine lv_aload_n hx hb dX1_tellOfCart_76 rfl (lv_at hl 0 rfl) ?_
      refine gt_X1_1 C hin X 1 rfl dX1_tellOfCart_77 ?_
      refine lv_iload_n hx hb dX1_tellOfCart_80 rfl (lv_at hl 1 rfl) ?_
      obtain ⟨c4, h⟩ := og h
      refine al_X1_1 C X rfl c4 dX1_tellOfCart_81 ?_
      have h := so h
      subst h
      exact W.iret hx hb hr (fun t ht _ => ⟨rfl, ht⟩) (fun q h => absurd h List.not_mem_nil) dX1_tellOfCart_82
    · have h := iq h c3
      by_cases c5 : p2 = 1
      · have h := ip h c5
        refine rowTab (K := 1) (off := 72) (tgt := 83) hx hb c5 dX1_tellOfCart_11 (by decide) (by decide) (by decide) (by decide) ?_
        refine lv_aload_n hx hb dX1_tellOfCart_83 rfl (lv_at hl 0 rfl) ?_
        refine gt_X1_7 C hin X 2 rfl dX1_tellOfCart_84 ?_
        refine lv_iload_n hx hb dX1_tellOfCart_87 rfl (lv_at hl 1 rfl) ?_
        obtain ⟨r6, hr6, h⟩ := ob h
        refine rowS (As := [.int (σ 7 0), .int p1]) (rest := []) (B := fun _ => True) C (kX1_isIn l G (σ 7 0) p1 r6 hr6) (va_cwS 2 hts gX1_tellOfCart_X1_isIn rfl rfl rfl (by decide +kernel) ⟨Nat.le_of_ble_eq_true rfl, Nat.le_of_ble_eq_true rfl⟩) trivial rfl hl.1 rfl (Nat.le_of_ble_eq_true rfl) dX1_tellOfCart_88 ⟨Nat.zero_le _, Nat.zero_le _⟩ ?_
        refine lv_if_eq (tgt := 103) hx hb dX1_tellOfCart_91 (by decide) (fun c7 => ?_) (fun c7 => ?_)
        · have h := ip h c7
          refine lv_bipush (v := (-5)) hx hb dX1_tellOfCart_103 (by decide) ?_
          have h := so h
          subst h
          exact W.iret hx hb hr (fun t ht _ => ⟨rfl, ht⟩) (fun q h => absurd h List.not_mem_nil) dX1_tellOfCart_105
        · have h := iq h c7
          refine lv_aload_n hx hb dX1_tellOfCart_94 rfl (lv_at hl 0 rfl) ?_
          refine gt_X1_2 C hin X 3 rfl dX1_tellOfCart_95 ?_
          refine lv_iload_n hx hb dX1_tellOfCart_98 rfl (lv_at hl 1 rfl) ?_
          obtain ⟨c8, h⟩ := og h
          refine al_X1_2 C X rfl c8 dX1_tellOfCart_99 ?_
          refine lv_goto (tgt := 105) hx hb dX1_tellOfCart_100 (by decide) ?_
          have h := so h
          subst h
          exact W.iret hx hb hr (fun t ht _ => ⟨rfl, ht⟩) (fun q h => absurd h List.not_mem_nil) dX1_tellOfCart_105
      · have h := iq h c5
        by_cases c9 : p2 = 2
        · have h := ip h c9
          refine rowTab (K := 2) (off := 95) (tgt := 106) hx hb c9 dX1_tellOfCart_11 (by decide) (by decide) (by decide) (by decide) ?_
          refine lv_aload_n hx hb dX1_tellOfCart_106 rfl (lv_at hl 0 rfl) ?_
          refine gt_X1_3 C hin X 4 rfl dX1_tellOfCart_107 ?_
          refine lv_iload_n hx hb dX1_tellOfCart_110 rfl (lv_at hl 1 rfl) ?_
          obtain ⟨c10, h⟩ := og h
          refine al_X1_3 C X rfl c10 dX1_tellOfCart_111 ?_
          refine lv_iconst (v := (-1)) hx hb dX1_tellOfCart_112 (by decide) ?_
          refine lv_icmp_ne (tgt := 121) hx hb dX1_tellOfCart_113 (by decide) (fun c11 => ?_) (fun c11 => ?_)
          · have h := iq h c11
            refine lv_aload_n hx hb dX1_tellOfCart_121 rfl (lv_at hl 0 rfl) ?_
            refine gt_X1_3 C hin X 4 rfl dX1_tellOfCart_122 ?_
            refine lv_iload_n hx hb dX1_tellOfCart_125 rfl (lv_at hl 1 rfl) ?_
            obtain ⟨c12, h⟩ := og h
            refine al_X1_3 C X rfl c12 dX1_tellOfCart_126 ?_
            have h := so h
            subst h
            exact W.iret hx hb hr (fun t ht _ => ⟨rfl, ht⟩) (fun q h => absurd h List.not_mem_nil) dX1_tellOfCart_127
          · have h := ip h c11
            refine lv_bipush (v := (-5)) hx hb dX1_tellOfCart_116 (by decide) ?_
            refine lv_goto (tgt := 127) hx hb dX1_tellOfCart_118 (by decide) ?_
            have h := so h
            subst h
            exact W.iret hx hb hr (fun t ht _ => ⟨rfl, ht⟩) (fun q h => absurd h List.not_mem_nil) dX1_tellOfCart_127
        · have h := iq h c9
          by_cases c13 : p2 = 3
          · have h := ip h c13
            refine rowTab (K := 3) (off := 117) (tgt := 128) hx hb c13 dX1_tellOfCart_11 (by decide) (by decide) (by decide) (by decide) ?_
            refine lv_aload_n hx hb dX1_tellOfCart_128 rfl (lv_at hl 0 rfl) ?_
            refine gt_X1_4 C hin X 5 rfl dX1_tellOfCart_129 ?_
            refine lv_iload_n hx hb dX1_tellOfCart_132 rfl (lv_at hl 1 rfl) ?_
            obtain ⟨c14, h⟩ := og h
            refine al_X1_4 C X rfl c14 dX1_tellOfCart_133 ?_
            have h := so h
            subst h
            exact W.iret hx hb hr (fun t ht _ => ⟨rfl, ht⟩) (fun q h => absurd h List.not_mem_nil) dX1_tellOfCart_134
          · have h := iq h c13
            by_cases c15 : p2 = 4
            · have h := ip h c15
              refine rowTab (K := 4) (off := 124) (tgt := 135) hx hb c15 dX1_tellOfCart_11 (by decide) (by decide) (by decide) (by decide) ?_
              refine lv_aload_n hx hb dX1_tellOfCart_135 rfl (lv_at hl 0 rfl) ?_
              refine lv_iload_n hx hb dX1_tellOfCart_136 rfl (lv_at hl 1 rfl) ?_
              obtain ⟨r16, hr16, h⟩ := ob h
              refine rowV (As := [.int p1]) (rest := []) C (kX1_rightSeal l G b σ p1 r16 hr16) (cwV 1 hts gX1_tellOfCart_X1_rightSeal rfl rfl rfl (by decide +kernel) ⟨Nat.le_of_ble_eq_true rfl, Nat.le_of_ble_eq_true rfl⟩) (rcv_X1 X hK) X rfl hl.1 rfl (Nat.le_of_ble_eq_true rfl) dX1_tellOfCart_137 ⟨Nat.zero_le _, Nat.zero_le _⟩ ?_
              have h := so h
              subst h
              exact W.iret hx hb hr (fun t ht _ => ⟨rfl, ht⟩) (fun q h => absurd h List.not_mem_nil) dX1_tellOfCart_140
            · have h := iq h c15
              by_cases c17 : p2 = 5
              · have h := ip h c17
                refine rowTab (K := 5) (off := 130) (tgt := 141) hx hb c17 dX1_tellOfCart_11 (by decide) (by decide) (by decide) (by decide) ?_
                refine lv_aload_n hx hb dX1_tellOfCart_141 rfl (lv_at hl 0 rfl) ?_
                refine lv_iload_n hx hb dX1_tellOfCart_142 rfl (lv_at hl 1 rfl) ?_
                obtain ⟨r18, hr18, h⟩ := ob h
                refine rowV (As := [.int p1]) (rest := []) C (kX1_isWhole l G b σ p1 r18 hr18) (cwV 1 hts gX1_tellOfCart_X1_isWhole rfl rfl rfl (by decide +kernel) ⟨Nat.le_of_ble_eq_true rfl, Nat.le_of_ble_eq_true rfl⟩) (rcv_X1 X hK) X rfl hl.1 rfl (Nat.le_of_ble_eq_true rfl) dX1_tellOfCart_143 ⟨Nat.zero_le _, Nat.zero_le _⟩ ?_
                refine lv_if_eq (tgt := 153) hx hb dX1_tellOfCart_146 (by decide) (fun c19 => ?_) (fun c19 => ?_)
                · have h := ip h c19
                  refine lv_iconst (v := 0) hx hb dX1_tellOfCart_153 (by decide) ?_
                  have h := so h
                  subst h
                  exact W.iret hx hb hr (fun t ht _ => ⟨rfl, ht⟩) (fun q h => absurd h List.not_mem_nil) dX1_tellOfCart_154
                · have h := iq h c19
                  refine lv_iconst (v := 1) hx hb dX1_tellOfCart_149 (by decide) ?_
                  refine lv_goto (tgt := 154) hx hb dX1_tellOfCart_150 (by decide) ?_
                  have h := so h
                  subst h
                  exact W.iret hx hb hr (fun t ht _ => ⟨rfl, ht⟩) (fun q h => absurd h List.not_mem_nil) dX1_tellOfCart_154
              · have h := iq h c17
                by_cases c20 : p2 = 6
                · have h := ip h c20
                  refine rowTab (K := 6) (off := 144) (tgt := 155) hx hb c20 dX1_tellOfCart_11 (by decide) (by decide) (by decide) (by decide) ?_
                  refine lv_aload_n hx hb dX1_tellOfCart_155 rfl (lv_at hl 0 rfl) ?_
                  refine gt_X1_7 C hin X 2 rfl dX1_tellOfCart_156 ?_
                  refine lv_iload_n hx hb dX1_tellOfCart_159 rfl (lv_at hl 1 rfl) ?_
                  obtain ⟨r21, hr21, h⟩ := ob h
                  refine rowS (As := [.int (σ 7 0), .int p1]) (rest := []) (B := fun _ => True) C (kX1_isIn l G (σ 7 0) p1 r21 hr21) (va_cwS 2 hts gX1_tellOfCart_X1_isIn rfl rfl rfl (by decide +kernel) ⟨Nat.le_of_ble_eq_true rfl, Nat.le_of_ble_eq_true rfl⟩) trivial rfl hl.1 rfl (Nat.le_of_ble_eq_true rfl) dX1_tellOfCart_160 ⟨Nat.zero_le _, Nat.zero_le _⟩ ?_
                  refine lv_if_eq (tgt := 170) hx hb dX1_tellOfCart_163 (by decide) (fun c22 => ?_) (fun c22 => ?_)
                  · have h := ip h c22
                    refine lv_iconst (v := 0) hx hb dX1_tellOfCart_170 (by decide) ?_
                    have h := so h
                    subst h
                    exact W.iret hx hb hr (fun t ht _ => ⟨rfl, ht⟩) (fun q h => absurd h List.not_mem_nil) dX1_tellOfCart_171
                  · have h := iq h c22
                    refine lv_iconst (v := 1) hx hb dX1_tellOfCart_166 (by decide) ?_
                    refine lv_goto (tgt := 171) hx hb dX1_tellOfCart_167 (by decide) ?_
                    have h := so h
                    subst h
                    exact W.iret hx hb hr (fun t ht _ => ⟨rfl, ht⟩) (fun q h => absurd h List.not_mem_nil) dX1_tellOfCart_171
                · have h := iq h c20
                  by_cases c23 : p2 = 7
                  · have h := ip h c23
                    refine rowTab (K := 7) (off := 161) (tgt := 172) hx hb c23 dX1_tellOfCart_11 (by decide) (by decide) (by decide) (by decide) ?_
                    refine lv_aload_n hx hb dX1_tellOfCart_172 rfl (lv_at hl 0 rfl) ?_
                    refine gt_X1_9 C hin X 6 rfl dX1_tellOfCart_173 ?_
                    refine lv_iload_n hx hb dX1_tellOfCart_176 rfl (lv_at hl 1 rfl) ?_
                    obtain ⟨r24, hr24, h⟩ := ob h
                    refine rowS (As := [.int (σ 9 0), .int p1]) (rest := []) (B := fun _ => True) C (kX1_isIn l G (σ 9 0) p1 r24 hr24) (va_cwS 2 hts gX1_tellOfCart_X1_isIn rfl rfl rfl (by decide +kernel) ⟨Nat.le_of_ble_eq_true rfl, Nat.le_of_ble_eq_true rfl⟩) trivial rfl hl.1 rfl (Nat.le_of_ble_eq_true rfl) dX1_tellOfCart_177 ⟨Nat.zero_le _, Nat.zero_le _⟩ ?_
                    refine lv_if_eq (tgt := 187) hx hb dX1_tellOfCart_180 (by decide) (fun c25 => ?_) (fun c25 => ?_)
                    · have h := ip h c25
                      refine lv_iconst (v := 0) hx hb dX1_tellOfCart_187 (by decide) ?_
                      have h := so h
                      subst h
                      exact W.iret hx hb hr (fun t ht _ => ⟨rfl, ht⟩) (fun q h => absurd h List.not_mem_nil) dX1_tellOfCart_188
                    · have h := iq h c25
                      refine lv_iconst (v := 1) hx hb dX1_tellOfCart_183 (by decide) ?_
                      refine lv_goto (tgt := 188) hx hb dX1_tellOfCart_184 (by decide) ?_
                      have h := so h
                      subst h
                      exact W.iret hx hb hr (fun t ht _ => ⟨rfl, ht⟩) (fun q h => absurd h List.not_mem_nil) dX1_tellOfCart_188
                  · have h := iq h c23
                    by_cases c26 : p2 = 8
                    · have h := ip h c26
                      refine rowTab (K := 8) (off := 178) (tgt := 189) hx hb c26 dX1_tellOfCart_11 (by decide) (by decide) (by decide) (by decide) ?_
                      refine lv_aload_n hx hb dX1_tellOfCart_189 rfl (lv_at hl 0 rfl) ?_
                      refine gt_X1_5 C hin X 7 rfl dX1_tellOfCart_190 ?_
                      refine lv_iload_n hx hb dX1_tellOfCart_193 rfl (lv_at hl 1 rfl) ?_
                      obtain ⟨c27, h⟩ := og h
                      refine al_X1_5 C X rfl c27 dX1_tellOfCart_194 ?_
                      have h := so h
                      subst h
                      exact W.iret hx hb hr (fun t ht _ => ⟨rfl, ht⟩) (fun q h => absurd h List.not_mem_nil) dX1_tellOfCart_195
                    · have h := iq h c26
                      by_cases c28 : p2 = 9
                      · have h := ip h c28
                        refine rowTab (K := 9) (off := 185) (tgt := 196) hx hb c28 dX1_tellOfCart_11 (by decide) (by decide) (by decide) (by decide) ?_
                        refine lv_aload_n hx hb dX1_tellOfCart_196 rfl (lv_at hl 0 rfl) ?_
                        refine lv_iload_n hx hb dX1_tellOfCart_197 rfl (lv_at hl 1 rfl) ?_
                        obtain ⟨r29, hr29, h⟩ := ob h
                        refine rowV (As := [.int p1]) (rest := []) C (kX1_chainOf l G b σ p1 r29 hr29) (cwV 1 hts gX1_tellOfCart_X1_chainOf rfl rfl rfl (by decide +kernel) ⟨Nat.le_of_ble_eq_true rfl, Nat.le_of_ble_eq_true rfl⟩) (rcv_X1 X hK) X rfl hl.1 rfl (Nat.le_of_ble_eq_true rfl) dX1_tellOfCart_198 ⟨Nat.zero_le _, Nat.zero_le _⟩ ?_
                        obtain ⟨r30, hr30, h⟩ := ob h
                        refine rowS (As := [.int r29]) (rest := []) (B := fun _ => True) C (kJ6_bitCount_0f7a4 l G r29 r30 hr30) (va_cwS 1 hts gX1_tellOfCart_J6_bitCount_0f7a4 rfl rfl rfl (by decide +kernel) ⟨Nat.le_of_ble_eq_true rfl, Nat.le_of_ble_eq_true rfl⟩) trivial rfl hl.1 rfl (Nat.le_of_ble_eq_true rfl) dX1_tellOfCart_201 ⟨Nat.zero_le _, Nat.zero_le _⟩ ?_
                        have h := so h
                        subst h
                        exact W.iret hx hb hr (fun t ht _ => ⟨rfl, ht⟩) (fun q h => absurd h List.not_mem_nil) dX1_tellOfCart_204
                      · have h := iq h c28
                        by_cases c31 : p2 = 10
                        · have h := ip h c31
                          refine rowTab (K := 10) (off := 194) (tgt := 205) hx hb c31 dX1_tellOfCart_11 (by decide) (by decide) (by decide) (by decide) ?_
                          refine lv_aload_n hx hb dX1_tellOfCart_205 rfl (lv_at hl 0 rfl) ?_
                          refine lv_iload_n hx hb dX1_tellOfCart_206 rfl (lv_at hl 1 rfl) ?_
                          obtain ⟨r32, hr32, h⟩ := ob h
                          refine rowV (As := [.int p1]) (rest := []) C (kX1_vouchers l G b σ p1 r32 hr32) (cwV 1 hts gX1_tellOfCart_X1_vouchers rfl rfl rfl (by decide +kernel) ⟨Nat.le_of_ble_eq_true rfl, Nat.le_of_ble_eq_true rfl⟩) (rcv_X1 X hK) X rfl hl.1 rfl (Nat.le_of_ble_eq_true rfl) dX1_tellOfCart_207 ⟨Nat.zero_le _, Nat.zero_le _⟩ ?_
                          obtain ⟨r33, hr33, h⟩ := ob h
                          refine rowS (As := [.int r32]) (rest := []) (B := fun _ => True) C (kJ6_bitCount_0f7a4 l G r32 r33 hr33) (va_cwS 1 hts gX1_tellOfCart_J6_bitCount_0f7a4 rfl rfl rfl (by decide +kernel) ⟨Nat.le_of_ble_eq_true rfl, Nat.le_of_ble_eq_true rfl⟩) trivial rfl hl.1 rfl (Nat.le_of_ble_eq_true rfl) dX1_tellOfCart_210 ⟨Nat.zero_le _, Nat.zero_le _⟩ ?_
                          have h := so h
                          subst h
                          exact W.iret hx hb hr (fun t ht _ => ⟨rfl, ht⟩) (fun q h => absurd h List.not_mem_nil) dX1_tellOfCart_213
                        · have h := iq h c31
                          by_cases c34 : p2 = 11
                          · have h := ip h c34
                            refine rowTab (K := 11) (off := 203) (tgt := 214) hx hb c34 dX1_tellOfCart_11 (by decide) (by decide) (by decide) (by decide) ?_
                            refine lv_aload_n hx hb dX1_tellOfCart_214 rfl (lv_at hl 0 rfl) ?_
                            refine lv_iload_n hx hb dX1_tellOfCart_215 rfl (lv_at hl 1 rfl) ?_
                            obtain ⟨r35, hr35, h⟩ := ob h
                            refine rowV (As := [.int p1]) (rest := []) C (kX1_countChainsWith l G b σ p1 r35 hr35) (cwV 1 hts gX1_tellOfCart_X1_countChainsWith rfl rfl rfl (by decide +kernel) ⟨Nat.le_of_ble_eq_true rfl, Nat.le_of_ble_eq_true rfl⟩) (rcv_X1 X hK) X rfl hl.1 rfl (Nat.le_of_ble_eq_true rfl) dX1_tellOfCart_216 ⟨Nat.zero_le _, Nat.zero_le _⟩ ?_
                            have h := so h
                            subst h
                            exact W.iret hx hb hr (fun t ht _ => ⟨rfl, ht⟩) (fun q h => absurd h List.not_mem_nil) dX1_tellOfCart_219
                          · have h := iq h c34
                            by_cases c36 : p2 = 12
                            · have h := ip h c36
                              refine rowTab (K := 12) (off := 209) (tgt := 220) hx hb c36 dX1_tellOfCart_11 (by decide) (by decide) (by decide) (by decide) ?_
                              refine lv_aload_n hx hb dX1_tellOfCart_220 rfl (lv_at hl 0 rfl) ?_
                              refine lv_iload_n hx hb dX1_tellOfCart_221 rfl (lv_at hl 1 rfl) ?_
                              obtain ⟨r37, hr37, h⟩ := ob h
                              refine rowV (As := [.int p1]) (rest := []) C (kX1_whyNotCleared l G b σ p1 r37 hr37) (cwV 1 hts gX1_tellOfCart_X1_whyNotCleared rfl rfl rfl (by decide +kernel) ⟨Nat.le_of_ble_eq_true rfl, Nat.le_of_ble_eq_true rfl⟩) (rcv_X1 X hK) X rfl hl.1 rfl (Nat.le_of_ble_eq_true rfl) dX1_tellOfCart_222 ⟨Nat.zero_le _, Nat.zero_le _⟩ ?_
                              have h := so h
                              subst h
                              exact W.iret hx hb hr (fun t ht _ => ⟨rfl, ht⟩) (fun q h => absurd h List.not_mem_nil) dX1_tellOfCart_225
                            · have h := iq h c36
                              have c3t : ¬ p2.toInt = 0 := lv_neT c3 (by decide)
                              have c5t : ¬ p2.toInt = 1 := lv_neT c5 (by decide)
                              have c9t : ¬ p2.toInt = 2 := lv_neT c9 (by decide)
                              have c13t : ¬ p2.toInt = 3 := lv_neT c13 (by decide)
                              have c15t : ¬ p2.toInt = 4 := lv_neT c15 (by decide)
                              have c17t : ¬ p2.toInt = 5 := lv_neT c17 (by decide)
                              have c20t : ¬ p2.toInt = 6 := lv_neT c20 (by decide)
                              have c23t : ¬ p2.toInt = 7 := lv_neT c23 (by decide)
                              have c26t : ¬ p2.toInt = 8 := lv_neT c26 (by decide)
                              have c28t : ¬ p2.toInt = 9 := lv_neT c28 (by decide)
                              have c31t : ¬ p2.toInt = 10 := lv_neT c31 (by decide)
                              have c34t : ¬ p2.toInt = 11 := lv_neT c34 (by decide)
                              have c36t : ¬ p2.toInt = 12 := lv_neT c36 (by decide)
                              refine lv_tableOut (tgt := 226) hx hb dX1_tellOfCart_11 (by omega) (by decide) ?_
                              refine lv_bipush (v := (-2)) hx hb dX1_tellOfCart_226 (by decide) ?_
                              have h := so h
                              subst h
                              exact W.iret hx hb hr (fun t ht _ => ⟨rfl, ht⟩) (fun q h => absurd h List.not_mem_nil) dX1_tellOfCart_228
  · have h := ip h c2
    refine lv_iconst (v := (-1)) hx hb dX1_tellOfCart_8 (by decide) ?_
    have h := so h
    subst h
    exact W.iret hx hb hr (fun t ht _ => ⟨rfl, ht⟩) (fun q h => absurd h List.not_mem_nil) dX1_tellOfCart_9

theorem in_X1_cartOfChain : ∀ w ∈ wsX10, w ∈ wsX1_cartOfChain := by decide +kernel
def fX1_cartOfChain_31 : Nat → St → Int32 → Int32 → Int32 → Int32 → Option (Int32)
  | 0, _, _, _, _, _ => none
  | n + 1, σ, v1, v2, v3, v4 => if v2 ≤ v4 then ((fX1_knows σ v3).bind (fun r6 => if r6 = 0 then (some (-5)) else (some v3))) else ((fX1_knows σ v3).bind (fun r8 => if r8 = 0 then ((fX1_knows σ v3).bind (fun r10 => if r10 = 0 then (some (-5)) else (some v3))) else (if oob v3 24 then none else fX1_cartOfChain_31 n σ v1 v2 (σ 3 v3.toNatClampNeg) (v4 + 1))))
theorem fX1_cartOfChain_31_0 (σ : St) (v1 : Int32) (v2 : Int32) (v3 : Int32) (v4 : Int32) : fX1_cartOfChain_31 0 σ v1 v2 v3 v4 = none := rfl
theorem fX1_cartOfChain_31_s (n : Nat) (σ : St) (v1 : Int32) (v2 : Int32) (v3 : Int32) (v4 : Int32) : fX1_cartOfChain_31 (n + 1) σ v1 v2 v3 v4 = (if v2 ≤ v4 then ((fX1_knows σ v3).bind (fun r6 => if r6 = 0 then (some (-5)) else (some v3))) else ((fX1_knows σ v3).bind (fun r8 => if r8 = 0 then ((fX1_knows σ v3).bind (fun r10 => if r10 = 0 then (some (-5)) else (some v3))) else (if oob v3 24 then none else fX1_cartOfChain_31 n σ v1 v2 (σ 3 v3.toNatClampNeg) (v4 + 1))))) := rfl
def fX1_cartOfChain (σ : St) (p1 : Int32) (p2 : Int32) : Option (Int32) := (fX1_knows σ p1).bind (fun r1 => if r1 = 0 then (some (-1)) else (if 0 ≤ p2 then (if p2 < 24 then (fX1_cartOfChain_31 1000 σ p1 p2 p1 0) else (some (-5))) else (some (-2))))
set_option maxHeartbeats 4000000 in
set_option maxRecDepth 100000 in
theorem kX1_cartOfChain (l : Launch) (G : Gx) (b : Nat) (σ : St) (p1 : Int32) (p2 : Int32) (r : Int32) (h : fX1_cartOfChain σ p1 p2 = some r) : Met l yX1_cartOfChain wsX1_cartOfChain (rmN 1) (pre G [.ref b, .int p1, .int p2] (hAt G b σ)) (QcRead r) 0 0 (fun _ => False) := by
  refine Met.ofW (cc := cX1_cartOfChain) (maxL := 5) (ret := (some .int)) (by decide) rfl ?_
  intro p e s m args below meth c s₁ B hml hv
  obtain ⟨rfl, X, hK⟩ := hv
  have hx := B.exec
  have hb := B.bytes
  have hr := B.returns
  have hts := atoms_spec (ws := wsX1_cartOfChain) B.pre
  have hown : s.vm.findClass RX1 = some m.cls := findClass_of_methodNamed B.named
  have hlocks := B.notSynchronized
  have C : Cx p m c cX1_cartOfChain 5 s _ wsX1_cartOfChain RX1 G := ⟨⟨hx, hb, hml, hown, hts⟩, hK⟩
  have hin : ∀ w ∈ wsX10, w ∈ wsX1_cartOfChain := in_X1_cartOfChain
  have hl := lv_entry ([.ref b, .int p1, .int p2]) (n := 5) (Nat.le_of_ble_eq_true rfl)
  rw [lg_entry_eq]
  generalize (lg_sl ([.ref b, .int p1, .int p2]) ++ List.replicate (5 - (lg_sl ([.ref b, .int p1, .int p2])).length) Slot.unset).toArray = ls at hl ⊢
  have hl : lv_has ls 5 [(0, .ref b), (1, .int p1), (2, .int p2)] := hl
  have loop31 : ∀ (n : Nat) (v1 : Int32) (v2 : Int32) (v3 : Int32) (v4 : Int32) (ls : Array Slot), fX1_cartOfChain_31 n σ v1 v2 v3 v4 = some r → lv_has ls 5 [(0, .ref b), (1, .int v1), (2, .int v2), (3, .int v3), (4, .int v4)] → W p l e (rmN 1) s m #[Value.ref b, Value.int p1, Value.int p2] below meth c s.heap [] 0 0 (MQ below (QcRead r) #[Value.ref b, Value.int p1, Value.int p2] s 0 0 (fun _ => False)) (F0 m 31 ls []) := by
    intro n
    induction n with
    | zero =>
      intro v1 v2 v3 v4 ls h hl
      rw [fX1_cartOfChain_31_0] at h
      cases h
    | succ n ih =>
      intro v1 v2 v3 v4 ls h hl
      rw [fX1_cartOfChain_31_s] at h
      refine lv_iload hx hb dX1_cartOfChain_31 (lv_at hl 4 rfl) ?_
      refine lv_iload_n hx hb dX1_cartOfChain_33 rfl (lv_at hl 2 rfl) ?_
      refine lv_icmp_ge (tgt := 58) hx hb dX1_cartOfChain_34 (by decide) (fun c5 => ?_) (fun c5 => ?_)
      · have h := ip h c5
        refine lv_aload_n hx hb dX1_cartOfChain_58 rfl (lv_at hl 0 rfl) ?_
        refine lv_iload_n hx hb dX1_cartOfChain_59 rfl (lv_at hl 3 rfl) ?_
        obtain ⟨r6, hr6, h⟩ := ob h
        refine rowV (As := [.int v3]) (rest := []) C (kX1_knows l G b σ v3 r6 hr6) (cwV 1 hts gX1_cartOfChain_X1_knows rfl rfl rfl (by decide +kernel) ⟨Nat.le_of_ble_eq_true rfl, Nat.le_of_ble_eq_true rfl⟩) (rcv_X1 X hK) X rfl hl.1 rfl (Nat.le_of_ble_eq_true rfl) dX1_cartOfChain_60 ⟨Nat.zero_le _, Nat.zero_le _⟩ ?_
        refine lv_if_eq (tgt := 70) hx hb dX1_cartOfChain_63 (by decide) (fun c7 => ?_) (fun c7 => ?_)
        · have h := ip h c7
          refine lv_bipush (v := (-5)) hx hb dX1_cartOfChain_70 (by decide) ?_
          have h := so h
          subst h
          exact W.iret hx hb hr (fun t ht _ => ⟨rfl, ht⟩) (fun q h => absurd h List.not_mem_nil) dX1_cartOfChain_72
        · have h := iq h c7
          refine lv_iload_n hx hb dX1_cartOfChain_66 rfl (lv_at hl 3 rfl) ?_
          refine lv_goto (tgt := 72) hx hb dX1_cartOfChain_67 (by decide) ?_
          have h := so h
          subst h
          exact W.iret hx hb hr (fun t ht _ => ⟨rfl, ht⟩) (fun q h => absurd h List.not_mem_nil) dX1_cartOfChain_72
      · have h := iq h c5
        refine lv_aload_n hx hb dX1_cartOfChain_37 rfl (lv_at hl 0 rfl) ?_
        refine lv_iload_n hx hb dX1_cartOfChain_38 rfl (lv_at hl 3 rfl) ?_
        obtain ⟨r8, hr8, h⟩ := ob h
        refine rowV (As := [.int v3]) (rest := []) C (kX1_knows l G b σ v3 r8 hr8) (cwV 1 hts gX1_cartOfChain_X1_knows rfl rfl rfl (by decide +kernel) ⟨Nat.le_of_ble_eq_true rfl, Nat.le_of_ble_eq_true rfl⟩) (rcv_X1 X hK) X rfl hl.1 rfl (Nat.le_of_ble_eq_true rfl) dX1_cartOfChain_39 ⟨Nat.zero_le _, Nat.zero_le _⟩ ?_
        refine lv_if_eq (tgt := 58) hx hb dX1_cartOfChain_42 (by decide) (fun c9 => ?_) (fun c9 => ?_)
        · have h := ip h c9
          refine lv_aload_n hx hb dX1_cartOfChain_58 rfl (lv_at hl 0 rfl) ?_
          refine lv_iload_n hx hb dX1_cartOfChain_59 rfl (lv_at hl 3 rfl) ?_
          obtain ⟨r10, hr10, h⟩ := ob h
          refine rowV (As := [.int v3]) (rest := []) C (kX1_knows l G b σ v3 r10 hr10) (cwV 1 hts gX1_cartOfChain_X1_knows rfl rfl rfl (by decide +kernel) ⟨Nat.le_of_ble_eq_true rfl, Nat.le_of_ble_eq_true rfl⟩) (rcv_X1 X hK) X rfl hl.1 rfl (Nat.le_of_ble_eq_true rfl) dX1_cartOfChain_60 ⟨Nat.zero_le _, Nat.zero_le _⟩ ?_
          refine lv_if_eq (tgt := 70) hx hb dX1_cartOfChain_63 (by decide) (fun c11 => ?_) (fun c11 => ?_)
          · have h := ip h c11
            refine lv_bipush (v := (-5)) hx hb dX1_cartOfChain_70 (by decide) ?_
            have h := so h
            subst h
            exact W.iret hx hb hr (fun t ht _ => ⟨rfl, ht⟩) (fun q h => absurd h List.not_mem_nil) dX1_cartOfChain_72
          · have h := iq h c11
            refine lv_iload_n hx hb dX1_cartOfChain_66 rfl (lv_at hl 3 rfl) ?_
            refine lv_goto (tgt := 72) hx hb dX1_cartOfChain_67 (by decide) ?_
            have h := so h
            subst h
            exact W.iret hx hb hr (fun t ht _ => ⟨rfl, ht⟩) (fun q h => absurd h List.not_mem_nil) dX1_cartOfChain_72
        · have h := iq h c9
          refine lv_aload_n hx hb dX1_cartOfChain_45 rfl (lv_at hl 0 rfl) ?_
          refine gt_X1_3 C hin X 1 rfl dX1_cartOfChain_46 ?_
          refine lv_iload_n hx hb dX1_cartOfChain_49 rfl (lv_at hl 3 rfl) ?_
          obtain ⟨c12, h⟩ := og h
          refine al_X1_3 C X rfl c12 dX1_cartOfChain_50 ?_
          refine lv_istore_n (lv' := [(3, .int (σ 3 v3.toNatClampNeg)), (0, .ref b), (1, .int v1), (2, .int v2), (4, .int v4)]) hx hb dX1_cartOfChain_51 rfl hl (by decide) rfl (fun ls hl => ?_)
          refine lv_iinc (v := v4 + 1) (lv' := [(4, .int (v4 + 1)), (3, .int (σ 3 v3.toNatClampNeg)), (0, .ref b), (1, .int v1), (2, .int v2)]) hx hb dX1_cartOfChain_52 hl (k := 4) rfl rfl (by decide) rfl (fun ls hl => ?_)
          refine lv_goto (tgt := 31) hx hb dX1_cartOfChain_55 (by decide) ?_
          exact ih _ _ _ _ _ h (lv_sub hl [2, 3, 4, 1, 0] rfl)
  unfold fX1_cartOfChain at h
  refine lv_aload_n hx hb dX1_cartOfChain_0 rfl (lv_at hl 0 rfl) ?_
  refine lv_iload_n hx hb dX1_cartOfChain_1 rfl (lv_at hl 1 rfl) ?_
  obtain ⟨r1, hr1, h⟩ := ob h
  refine rowV (As := [.int p1]) (rest := []) C (kX1_knows l G b σ p1 r1 hr1) (cwV 1 hts gX1_cartOfChain_X1_knows rfl rfl rfl (by decide +kernel) ⟨Nat.le_of_ble_eq_true rfl, Nat.le_of_ble_eq_true rfl⟩) (rcv_X1 X hK) X rfl hl.1 rfl (Nat.le_of_ble_eq_true rfl) dX1_cartOfChain_2 ⟨Nat.zero_le _, Nat.zero_le _⟩ ?_
  refine lv_if_ne (tgt := 10) hx hb dX1_cartOfChain_5 (by decide) (fun c2 => ?_) (fun c2 => ?_)
  · have h := iq h c2
    refine lv_iload_n hx hb dX1_cartOfChain_10 rfl (lv_at hl 2 rfl) ?_
    refine lv_if_ge (tgt := 17) hx hb dX1_cartOfChain_11 (by decide) (fun c3 => ?_) (fun c3 => ?_)
    · have h := ip h c3
      refine lv_iload_n hx hb dX1_cartOfChain_17 rfl (lv_at hl 2 rfl) ?_
      refine lv_bipush (v := 24) hx hb dX1_cartOfChain_18 (by decide) ?_
      refine lv_icmp_lt (tgt := 26) hx hb dX1_cartOfChain_20 (by decide) (fun c4 => ?_) (fun c4 => ?_)
      · have h := ip h c4
        refine lv_iload_n hx hb dX1_cartOfChain_26 rfl (lv_at hl 1 rfl) ?_
        refine lv_istore_n (lv' := [(3, .int p1), (0, .ref b), (1, .int p1), (2, .int p2)]) hx hb dX1_cartOfChain_27 rfl hl (by decide) rfl (fun ls hl => ?_)
        refine lv_iconst (v := 0) hx hb dX1_cartOfChain_28 (by decide) ?_
        refine lv_istore (lv' := [(4, .int 0), (3, .int p1), (0, .ref b), (1, .int p1), (2, .int p2)]) hx hb dX1_cartOfChain_29 hl (by decide) rfl (fun ls hl => ?_)
        exact loop31 _ _ _ _ _ _ h (lv_sub hl [2, 3, 4, 1, 0] rfl)
      · have h := iq h c4
        refine lv_bipush (v := (-5)) hx hb dX1_cartOfChain_23 (by decide) ?_
        have h := so h
        subst h
        exact W.iret hx hb hr (fun t ht _ => ⟨rfl, ht⟩) (fun q h => absurd h List.not_mem_nil) dX1_cartOfChain_25
    · have h := iq h c3
      refine lv_bipush (v := (-2)) hx hb dX1_cartOfChain_14 (by decide) ?_
      have h := so h
      subst h
      exact W.iret hx hb hr (fun t ht _ => ⟨rfl, ht⟩) (fun q h => absurd h List.not_mem_nil) dX1_cartOfChain_16
  · have h := ip h c2
    refine lv_iconst (v := (-1)) hx hb dX1_cartOfChain_8 (by decide) ?_
    have h := so h
    subst h
    exact W.iret hx hb hr (fun t ht _ => ⟨rfl, ht⟩) (fun q h => absurd h List.not_mem_nil) dX1_cartOfChain_9

theorem in_X1_firstBroken : ∀ w ∈ wsX10, w ∈ wsX1_firstBroken := by decide +kernel
def fX1_firstBroken_14 : Nat → St → Int32 → Int32 → Int32 → Option (Int32)
  | 0, _, _, _, _ => none
  | n + 1, σ, v1, v2, v3 => if 24 ≤ v3 then (some (-5)) else ((fX1_knows σ v2).bind (fun r4 => if r4 = 0 then (some (-5)) else ((fX1_isWhole σ v2).bind (fun r6 => if r6 = 0 then (some v2) else (if oob v2 24 then none else fX1_firstBroken_14 n σ v1 (σ 3 v2.toNatClampNeg) (v3 + 1))))))
theorem fX1_firstBroken_14_0 (σ : St) (v1 : Int32) (v2 : Int32) (v3 : Int32) : fX1_firstBroken_14 0 σ v1 v2 v3 = none := rfl
theorem fX1_firstBroken_14_s (n : Nat) (σ : St) (v1 : Int32) (v2 : Int32) (v3 : Int32) : fX1_firstBroken_14 (n + 1) σ v1 v2 v3 = (if 24 ≤ v3 then (some (-5)) else ((fX1_knows σ v2).bind (fun r4 => if r4 = 0 then (some (-5)) else ((fX1_isWhole σ v2).bind (fun r6 => if r6 = 0 then (some v2) else (if oob v2 24 then none else fX1_firstBroken_14 n σ v1 (σ 3 v2.toNatClampNeg) (v3 + 1))))))) := rfl
def fX1_firstBroken (σ : St) (p1 : Int32) : Option (Int32) := (fX1_knows σ p1).bind (fun r1 => if r1 = 0 then (some (-1)) else (fX1_firstBroken_14 1000 σ p1 p1 0))
set_option maxHeartbeats 4000000 in
set_option maxRecDepth 100000 in
theorem kX1_firstBroken (l : Launch) (G : Gx) (b : Nat) (σ : St) (p1 : Int32) (r : Int32) (h : fX1_firstBroken σ p1 = some r) : Met l yX1_firstBroken wsX1_firstBroken (rmN 2) (pre G [.ref b, .int p1] (hAt G b σ)) (QcRead r) 0 0 (fun _ => False) := by
  refine Met.ofW (cc := cX1_firstBroken) (maxL := 4) (ret := (some .int)) (by decide) rfl ?_
  intro p e s m args below meth c s₁ B hml hv
  obtain ⟨rfl, X, hK⟩ := hv
  have hx := B.exec
  have hb := B.bytes
  have hr := B.returns
  have hts := atoms_spec (ws := wsX1_firstBroken) B.pre
  have hown : s.vm.findClass RX1 = some m.cls := findClass_of_methodNamed B.named
  have hlocks := B.notSynchronized
  have C : Cx p m c cX1_firstBroken 4 s _ wsX1_firstBroken RX1 G := ⟨⟨hx, hb, hml, hown, hts⟩, hK⟩
  have hin : ∀ w ∈ wsX10, w ∈ wsX1_firstBroken := in_X1_firstBroken
  have hl := lv_entry ([.ref b, .int p1]) (n := 4) (Nat.le_of_ble_eq_true rfl)
  rw [lg_entry_eq]
  generalize (lg_sl ([.ref b, .int p1]) ++ List.replicate (4 - (lg_sl ([.ref b, .int p1])).length) Slot.unset).toArray = ls at hl ⊢
  have hl : lv_has ls 4 [(0, .ref b), (1, .int p1)] := hl
  have loop14 : ∀ (n : Nat) (v1 : Int32) (v2 : Int32) (v3 : Int32) (ls : Array Slot), fX1_firstBroken_14 n σ v1 v2 v3 = some r → lv_has ls 4 [(0, .ref b), (1, .int v1), (2, .int v2), (3, .int v3)] → W p l e (rmN 2) s m #[Value.ref b, Value.int p1] below meth c s.heap [] 0 0 (MQ below (QcRead r) #[Value.ref b, Value.int p1] s 0 0 (fun _ => False)) (F0 m 14 ls []) := by
    intro n
    induction n with
    | zero =>
      intro v1 v2 v3 ls h hl
      rw [fX1_firstBroken_14_0] at h
      cases h
    | succ n ih =>
      intro v1 v2 v3 ls h hl
      rw [fX1_firstBroken_14_s] at h
      refine lv_iload_n hx hb dX1_firstBroken_14 rfl (lv_at hl 3 rfl) ?_
      refine lv_bipush (v := 24) hx hb dX1_firstBroken_15 (by decide) ?_
      refine lv_icmp_ge (tgt := 51) hx hb dX1_firstBroken_17 (by decide) (fun c3 => ?_) (fun c3 => ?_)
      · have h := ip h c3
        refine lv_bipush (v := (-5)) hx hb dX1_firstBroken_51 (by decide) ?_
        have h := so h
        subst h
        exact W.iret hx hb hr (fun t ht _ => ⟨rfl, ht⟩) (fun q h => absurd h List.not_mem_nil) dX1_firstBroken_53
      · have h := iq h c3
        refine lv_aload_n hx hb dX1_firstBroken_20 rfl (lv_at hl 0 rfl) ?_
        refine lv_iload_n hx hb dX1_firstBroken_21 rfl (lv_at hl 2 rfl) ?_
        obtain ⟨r4, hr4, h⟩ := ob h
        refine rowV (As := [.int v2]) (rest := []) C (kX1_knows l G b σ v2 r4 hr4) (cwV 1 hts gX1_firstBroken_X1_knows rfl rfl rfl (by decide +kernel) ⟨Nat.le_of_ble_eq_true rfl, Nat.le_of_ble_eq_true rfl⟩) (rcv_X1 X hK) X rfl hl.1 rfl (Nat.le_of_ble_eq_true rfl) dX1_firstBroken_22 ⟨Nat.zero_le _, Nat.zero_le _⟩ ?_
        refine lv_if_eq (tgt := 51) hx hb dX1_firstBroken_25 (by decide) (fun c5 => ?_) (fun c5 => ?_)
        · have h := ip h c5
          refine lv_bipush (v := (-5)) hx hb dX1_firstBroken_51 (by decide) ?_
          have h := so h
          subst h
          exact W.iret hx hb hr (fun t ht _ => ⟨rfl, ht⟩) (fun q h => absurd h List.not_mem_nil) dX1_firstBroken_53
        · have h := iq h c5
          refine lv_aload_n hx hb dX1_firstBroken_28 rfl (lv_at hl 0 rfl) ?_
          refine lv_iload_n hx hb dX1_firstBroken_29 rfl (lv_at hl 2 rfl) ?_
          obtain ⟨r6, hr6, h⟩ := ob h
          refine rowV (As := [.int v2]) (rest := []) C (kX1_isWhole l G b σ v2 r6 hr6) (cwV 1 hts gX1_firstBroken_X1_isWhole rfl rfl rfl (by decide +kernel) ⟨Nat.le_of_ble_eq_true rfl, Nat.le_of_ble_eq_true rfl⟩) (rcv_X1 X hK) X rfl hl.1 rfl (Nat.le_of_ble_eq_true rfl) dX1_firstBroken_30 ⟨Nat.zero_le _, Nat.zero_le _⟩ ?_
          refine lv_if_ne (tgt := 38) hx hb dX1_firstBroken_33 (by decide) (fun c7 => ?_) (fun c7 => ?_)
          · have h := iq h c7
            refine lv_aload_n hx hb dX1_firstBroken_38 rfl (lv_at hl 0 rfl) ?_
            refine gt_X1_3 C hin X 1 rfl dX1_firstBroken_39 ?_
            refine lv_iload_n hx hb dX1_firstBroken_42 rfl (lv_at hl 2 rfl) ?_
            obtain ⟨c8, h⟩ := og h
            refine al_X1_3 C X rfl c8 dX1_firstBroken_43 ?_
            refine lv_istore_n (lv' := [(2, .int (σ 3 v2.toNatClampNeg)), (0, .ref b), (1, .int v1), (3, .int v3)]) hx hb dX1_firstBroken_44 rfl hl (by decide) rfl (fun ls hl => ?_)
            refine lv_iinc (v := v3 + 1) (lv' := [(3, .int (v3 + 1)), (2, .int (σ 3 v2.toNatClampNeg)), (0, .ref b), (1, .int v1)]) hx hb dX1_firstBroken_45 hl (k := 3) rfl rfl (by decide) rfl (fun ls hl => ?_)
            refine lv_goto (tgt := 14) hx hb dX1_firstBroken_48 (by decide) ?_
            exact ih _ _ _ _ h (lv_sub hl [2, 3, 1, 0] rfl)
          · have h := ip h c7
            refine lv_iload_n hx hb dX1_firstBroken_36 rfl (lv_at hl 2 rfl) ?_
            have h := so h
            subst h
            exact W.iret hx hb hr (fun t ht _ => ⟨rfl, ht⟩) (fun q h => absurd h List.not_mem_nil) dX1_firstBroken_37
  unfold fX1_firstBroken at h
  refine lv_aload_n hx hb dX1_firstBroken_0 rfl (lv_at hl 0 rfl) ?_
  refine lv_iload_n hx hb dX1_firstBroken_1 rfl (lv_at hl 1 rfl) ?_
  obtain ⟨r1, hr1, h⟩ := ob h
  refine rowV (As := [.int p1]) (rest := []) C (kX1_knows l G b σ p1 r1 hr1) (cwV 1 hts gX1_firstBroken_X1_knows rfl rfl rfl (by decide +kernel) ⟨Nat.le_of_ble_eq_true rfl, Nat.le_of_ble_eq_true rfl⟩) (rcv_X1 X hK) X rfl hl.1 rfl (Nat.le_of_ble_eq_true rfl) dX1_firstBroken_2 ⟨Nat.zero_le _, Nat.zero_le _⟩ ?_
  refine lv_if_ne (tgt := 10) hx hb dX1_firstBroken_5 (by decide) (fun c2 => ?_) (fun c2 => ?_)
  · have h := iq h c2
    refine lv_iload_n hx hb dX1_firstBroken_10 rfl (lv_at hl 1 rfl) ?_
    refine lv_istore_n (lv' := [(2, .int p1), (0, .ref b), (1, .int p1)]) hx hb dX1_firstBroken_11 rfl hl (by decide) rfl (fun ls hl => ?_)
    refine lv_iconst (v := 0) hx hb dX1_firstBroken_12 (by decide) ?_
    refine lv_istore_n (lv' := [(3, .int 0), (2, .int p1), (0, .ref b), (1, .int p1)]) hx hb dX1_firstBroken_13 rfl hl (by decide) rfl (fun ls hl => ?_)
    exact loop14 _ _ _ _ _ h (lv_sub hl [2, 3, 1, 0] rfl)
  · have h := ip h c2
    refine lv_iconst (v := (-1)) hx hb dX1_firstBroken_8 (by decide) ?_
    have h := so h
    subst h
    exact W.iret hx hb hr (fun t ht _ => ⟨rfl, ht⟩) (fun q h => absurd h List.not_mem_nil) dX1_firstBroken_9

theorem in_X1_countBroken : ∀ w ∈ wsX10, w ∈ wsX1_countBroken := by decide +kernel
def fX1_countBroken_4 : Nat → St → Int32 → Int32 → Option (Int32)
  | 0, _, _, _ => none
  | n + 1, σ, v1, v2 => if (σ 6 0) ≤ v2 then (some v1) else ((fX1_isWhole σ v2).bind (fun r2 => if r2 = 0 then (fX1_countBroken_4 n σ (v1 + 1) (v2 + 1)) else (fX1_countBroken_4 n σ v1 (v2 + 1))))
theorem fX1_countBroken_4_0 (σ : St) (v1 : Int32) (v2 : Int32) : fX1_countBroken_4 0 σ v1 v2 = none := rfl
theorem fX1_countBroken_4_s (n : Nat) (σ : St) (v1 : Int32) (v2 : Int32) : fX1_countBroken_4 (n + 1) σ v1 v2 = (if (σ 6 0) ≤ v2 then (some v1) else ((fX1_isWhole σ v2).bind (fun r2 => if r2 = 0 then (fX1_countBroken_4 n σ (v1 + 1) (v2 + 1)) else (fX1_countBroken_4 n σ v1 (v2 + 1))))) := rfl
def fX1_countBroken (σ : St) : Option (Int32) := fX1_countBroken_4 1000 σ 0 0
set_option maxHeartbeats 4000000 in
set_option maxRecDepth 100000 in
theorem kX1_countBroken (l : Launch) (G : Gx) (b : Nat) (σ : St) (r : Int32) (h : fX1_countBroken σ = some r) : Met l yX1_countBroken wsX1_countBroken (rmN 2) (pre G [.ref b] (hAt G b σ)) (QcRead r) 0 0 (fun _ => False) := by
  refine Met.ofW (cc := cX1_countBroken) (maxL := 3) (ret := (some .int)) (by decide) rfl ?_
  intro p e s m args below meth c s₁ B hml hv
  obtain ⟨rfl, X, hK⟩ := hv
  have hx := B.exec
  have hb := B.bytes
  have hr := B.returns
  have hts := atoms_spec (ws := wsX1_countBroken) B.pre
  have hown : s.vm.findClass RX1 = some m.cls := findClass_of_methodNamed B.named
  have hlocks := B.notSynchronized
  have C : Cx p m c cX1_countBroken 3 s _ wsX1_countBroken RX1 G := ⟨⟨hx, hb, hml, hown, hts⟩, hK⟩
  have hin : ∀ w ∈ wsX10, w ∈ wsX1_countBroken := in_X1_countBroken
  have hl := lv_entry ([.ref b]) (n := 3) (Nat.le_of_ble_eq_true rfl)
  rw [lg_entry_eq]
  generalize (lg_sl ([.ref b]) ++ List.replicate (3 - (lg_sl ([.ref b])).length) Slot.unset).toArray = ls at hl ⊢
  have hl : lv_has ls 3 [(0, .ref b)] := hl
  have loop4 : ∀ (n : Nat) (v1 : Int32) (v2 : Int32) (ls : Array Slot), fX1_countBroken_4 n σ v1 v2 = some r → lv_has ls 3 [(0, .ref b), (1, .int v1), (2, .int v2)] → W p l e (rmN 2) s m #[Value.ref b] below meth c s.heap [] 0 0 (MQ below (QcRead r) #[Value.ref b] s 0 0 (fun _ => False)) (F0 m 4 ls []) := by
    intro n
    induction n with
    | zero =>
      intro v1 v2 ls h hl
      rw [fX1_countBroken_4_0] at h
      cases h
    | succ n ih =>
      intro v1 v2 ls h hl
      rw [fX1_countBroken_4_s] at h
      refine lv_iload_n hx hb dX1_countBroken_4 rfl (lv_at hl 2 rfl) ?_
      refine lv_aload_n hx hb dX1_countBroken_5 rfl (lv_at hl 0 rfl) ?_
      refine gt_X1_6 C hin X 1 rfl dX1_countBroken_6 ?_
      refine lv_icmp_ge (tgt := 29) hx hb dX1_countBroken_9 (by decide) (fun c1 => ?_) (fun c1 => ?_)
      · have h := ip h c1
        refine lv_iload_n hx hb dX1_countBroken_29 rfl (lv_at hl 1 rfl) ?_
        have h := so h
        subst h
        exact W.iret hx hb hr (fun t ht _ => ⟨rfl, ht⟩) (fun q h => absurd h List.not_mem_nil) dX1_countBroken_30
      · have h := iq h c1
        refine lv_aload_n hx hb dX1_countBroken_12 rfl (lv_at hl 0 rfl) ?_
        refine lv_iload_n hx hb dX1_countBroken_13 rfl (lv_at hl 2 rfl) ?_
        obtain ⟨r2, hr2, h⟩ := ob h
        refine rowV (As := [.int v2]) (rest := []) C (kX1_isWhole l G b σ v2 r2 hr2) (cwV 1 hts gX1_countBroken_X1_isWhole rfl rfl rfl (by decide +kernel) ⟨Nat.le_of_ble_eq_true rfl, Nat.le_of_ble_eq_true rfl⟩) (rcv_X1 X hK) X rfl hl.1 rfl (Nat.le_of_ble_eq_true rfl) dX1_countBroken_14 ⟨Nat.zero_le _, Nat.zero_le _⟩ ?_
        refine lv_if_ne (tgt := 23) hx hb dX1_countBroken_17 (by decide) (fun c3 => ?_) (fun c3 => ?_)
        · have h := iq h c3
          refine lv_iinc (v := v2 + 1) (lv' := [(2, .int (v2 + 1)), (0, .ref b), (1, .int v1)]) hx hb dX1_countBroken_23 hl (k := 2) rfl rfl (by decide) rfl (fun ls hl => ?_)
          refine lv_goto (tgt := 4) hx hb dX1_countBroken_26 (by decide) ?_
          exact ih _ _ _ h (lv_sub hl [1, 2, 0] rfl)
        · have h := ip h c3
          refine lv_iinc (v := v1 + 1) (lv' := [(1, .int (v1 + 1)), (0, .ref b), (2, .int v2)]) hx hb dX1_countBroken_20 hl (k := 1) rfl rfl (by decide) rfl (fun ls hl => ?_)
          refine lv_iinc (v := v2 + 1) (lv' := [(2, .int (v2 + 1)), (1, .int (v1 + 1)), (0, .ref b)]) hx hb dX1_countBroken_23 hl (k := 2) rfl rfl (by decide) rfl (fun ls hl => ?_)
          refine lv_goto (tgt := 4) hx hb dX1_countBroken_26 (by decide) ?_
          exact ih _ _ _ h (lv_sub hl [2, 1, 0] rfl)
  unfold fX1_countBroken at h
  refine lv_iconst (v := 0) hx hb dX1_countBroken_0 (by decide) ?_
  refine lv_istore_n (lv' := [(1, .int 0), (0, .ref b)]) hx hb dX1_countBroken_1 rfl hl (by decide) rfl (fun ls hl => ?_)
  refine lv_iconst (v := 0) hx hb dX1_countBroken_2 (by decide) ?_
  refine lv_istore_n (lv' := [(2, .int 0), (1, .int 0), (0, .ref b)]) hx hb dX1_countBroken_3 rfl hl (by decide) rfl (fun ls hl => ?_)
  exact loop4 _ _ _ _ h (lv_sub hl [2, 1, 0] rfl)

theorem in_X1_finesOfAll : ∀ w ∈ wsX10, w ∈ wsX1_finesOfAll := by decide +kernel
def fX1_finesOfAll_4 : Nat → St → Int32 → Int32 → Option (Int32)
  | 0, _, _, _ => none
  | n + 1, σ, v1, v2 => if (σ 6 0) ≤ v2 then (some v1) else (if oob v2 24 then none else fX1_finesOfAll_4 n σ (v1 + (σ 5 v2.toNatClampNeg)) (v2 + 1))
theorem fX1_finesOfAll_4_0 (σ : St) (v1 : Int32) (v2 : Int32) : fX1_finesOfAll_4 0 σ v1 v2 = none := rfl
theorem fX1_finesOfAll_4_s (n : Nat) (σ : St) (v1 : Int32) (v2 : Int32) : fX1_finesOfAll_4 (n + 1) σ v1 v2 = (if (σ 6 0) ≤ v2 then (some v1) else (if oob v2 24 then none else fX1_finesOfAll_4 n σ (v1 + (σ 5 v2.toNatClampNeg)) (v2 + 1))) := rfl
def fX1_finesOfAll (σ : St) : Option (Int32) := fX1_finesOfAll_4 1000 σ 0 0
set_option maxHeartbeats 4000000 in
set_option maxRecDepth 100000 in
theorem kX1_finesOfAll (l : Launch) (G : Gx) (b : Nat) (σ : St) (r : Int32) (h : fX1_finesOfAll σ = some r) : Met l yX1_finesOfAll wsX1_finesOfAll (rmN 0) (pre G [.ref b] (hAt G b σ)) (QcRead r) 0 0 (fun _ => False) := by
  refine Met.ofW (cc := cX1_finesOfAll) (maxL := 3) (ret := (some .int)) (by decide) rfl ?_
  intro p e s m args below meth c s₁ B hml hv
  obtain ⟨rfl, X, hK⟩ := hv
  have hx := B.exec
  have hb := B.bytes
  have hr := B.returns
  have hts := atoms_spec (ws := wsX1_finesOfAll) B.pre
  have hown : s.vm.findClass RX1 = some m.cls := findClass_of_methodNamed B.named
  have hlocks := B.notSynchronized
  have C : Cx p m c cX1_finesOfAll 3 s _ wsX1_finesOfAll RX1 G := ⟨⟨hx, hb, hml, hown, hts⟩, hK⟩
  have hin : ∀ w ∈ wsX10, w ∈ wsX1_finesOfAll := in_X1_finesOfAll
  have hl := lv_entry ([.ref b]) (n := 3) (Nat.le_of_ble_eq_true rfl)
  rw [lg_entry_eq]
  generalize (lg_sl ([.ref b]) ++ List.replicate (3 - (lg_sl ([.ref b])).length) Slot.unset).toArray = ls at hl ⊢
  have hl : lv_has ls 3 [(0, .ref b)] := hl
  have loop4 : ∀ (n : Nat) (v1 : Int32) (v2 : Int32) (ls : Array Slot), fX1_finesOfAll_4 n σ v1 v2 = some r → lv_has ls 3 [(0, .ref b), (1, .int v1), (2, .int v2)] → W p l e (rmN 0) s m #[Value.ref b] below meth c s.heap [] 0 0 (MQ below (QcRead r) #[Value.ref b] s 0 0 (fun _ => False)) (F0 m 4 ls []) := by
    intro n
    induction n with
    | zero =>
      intro v1 v2 ls h hl
      rw [fX1_finesOfAll_4_0] at h
      cases h
    | succ n ih =>
      intro v1 v2 ls h hl
      rw [fX1_finesOfAll_4_s] at h
      refine lv_iload_n hx hb dX1_finesOfAll_4 rfl (lv_at hl 2 rfl) ?_
      refine lv_aload_n hx hb dX1_finesOfAll_5 rfl (lv_at hl 0 rfl) ?_
      refine gt_X1_6 C hin X 1 rfl dX1_finesOfAll_6 ?_
      refine lv_icmp_ge (tgt := 27) hx hb dX1_finesOfAll_9 (by decide) (fun c1 => ?_) (fun c1 => ?_)
      · have h := ip h c1
        refine lv_iload_n hx hb dX1_finesOfAll_27 rfl (lv_at hl 1 rfl) ?_
        have h := so h
        subst h
        exact W.iret hx hb hr (fun t ht _ => ⟨rfl, ht⟩) (fun q h => absurd h List.not_mem_nil) dX1_finesOfAll_28
      · have h := iq h c1
        refine lv_iload_n hx hb dX1_finesOfAll_12 rfl (lv_at hl 1 rfl) ?_
        refine lv_aload_n hx hb dX1_finesOfAll_13 rfl (lv_at hl 0 rfl) ?_
        refine gt_X1_5 C hin X 2 rfl dX1_finesOfAll_14 ?_
        refine lv_iload_n hx hb dX1_finesOfAll_17 rfl (lv_at hl 2 rfl) ?_
        obtain ⟨c2, h⟩ := og h
        refine al_X1_5 C X rfl c2 dX1_finesOfAll_18 ?_
        refine lv_iadd hx hb dX1_finesOfAll_19 ?_
        refine lv_istore_n (lv' := [(1, .int (v1 + (σ 5 v2.toNatClampNeg))), (0, .ref b), (2, .int v2)]) hx hb dX1_finesOfAll_20 rfl hl (by decide) rfl (fun ls hl => ?_)
        refine lv_iinc (v := v2 + 1) (lv' := [(2, .int (v2 + 1)), (1, .int (v1 + (σ 5 v2.toNatClampNeg))), (0, .ref b)]) hx hb dX1_finesOfAll_21 hl (k := 2) rfl rfl (by decide) rfl (fun ls hl => ?_)
        refine lv_goto (tgt := 4) hx hb dX1_finesOfAll_24 (by decide) ?_
        exact ih _ _ _ h (lv_sub hl [2, 1, 0] rfl)
  unfold fX1_finesOfAll at h
  refine lv_iconst (v := 0) hx hb dX1_finesOfAll_0 (by decide) ?_
  refine lv_istore_n (lv' := [(1, .int 0), (0, .ref b)]) hx hb dX1_finesOfAll_1 rfl hl (by decide) rfl (fun ls hl => ?_)
  refine lv_iconst (v := 0) hx hb dX1_finesOfAll_2 (by decide) ?_
  refine lv_istore_n (lv' := [(2, .int 0), (1, .int 0), (0, .ref b)]) hx hb dX1_finesOfAll_3 rfl hl (by decide) rfl (fun ls hl => ?_)
  exact loop4 _ _ _ _ h (lv_sub hl [2, 1, 0] rfl)

theorem in_X1_greatestDepth : ∀ w ∈ wsX10, w ∈ wsX1_greatestDepth := by decide +kernel
def fX1_greatestDepth_4 : Nat → St → Int32 → Int32 → Option (Int32)
  | 0, _, _, _ => none
  | n + 1, σ, v1, v2 => if (σ 6 0) ≤ v2 then (some v1) else ((fX1_chainOf σ v2).bind (fun r2 => (fJ6_bitCount_0f7a4 r2).bind (fun r3 => fX1_greatestDepth_4 n σ (if v1 < r3 then r3 else v1) (v2 + 1))))
theorem fX1_greatestDepth_4_0 (σ : St) (v1 : Int32) (v2 : Int32) : fX1_greatestDepth_4 0 σ v1 v2 = none := rfl
theorem fX1_greatestDepth_4_s (n : Nat) (σ : St) (v1 : Int32) (v2 : Int32) : fX1_greatestDepth_4 (n + 1) σ v1 v2 = (if (σ 6 0) ≤ v2 then (some v1) else ((fX1_chainOf σ v2).bind (fun r2 => (fJ6_bitCount_0f7a4 r2).bind (fun r3 => fX1_greatestDepth_4 n σ (if v1 < r3 then r3 else v1) (v2 + 1))))) := rfl
def fX1_greatestDepth (σ : St) : Option (Int32) := fX1_greatestDepth_4 1000 σ 0 0
set_option maxHeartbeats 4000000 in
set_option maxRecDepth 100000 in
theorem kX1_greatestDepth (l : Launch) (G : Gx) (b : Nat) (σ : St) (r : Int32) (h : fX1_greatestDepth σ = some r) : Met l yX1_greatestDepth wsX1_greatestDepth (rmN 2) (pre G [.ref b] (hAt G b σ)) (QcRead r) 0 0 (fun _ => False) := by
  refine Met.ofW (cc := cX1_greatestDepth) (maxL := 3) (ret := (some .int)) (by decide) rfl ?_
  intro p e s m args below meth c s₁ B hml hv
  obtain ⟨rfl, X, hK⟩ := hv
  have hx := B.exec
  have hb := B.bytes
  have hr := B.returns
  have hts := atoms_spec (ws := wsX1_greatestDepth) B.pre
  have hown : s.vm.findClass RX1 = some m.cls := findClass_of_methodNamed B.named
  have hlocks := B.notSynchronized
  have C : Cx p m c cX1_greatestDepth 3 s _ wsX1_greatestDepth RX1 G := ⟨⟨hx, hb, hml, hown, hts⟩, hK⟩
  have hin : ∀ w ∈ wsX10, w ∈ wsX1_greatestDepth := in_X1_greatestDepth
  have hl := lv_entry ([.ref b]) (n := 3) (Nat.le_of_ble_eq_true rfl)
  rw [lg_entry_eq]
  generalize (lg_sl ([.ref b]) ++ List.replicate (3 - (lg_sl ([.ref b])).length) Slot.unset).toArray = ls at hl ⊢
  have hl : lv_has ls 3 [(0, .ref b)] := hl
  have loop4 : ∀ (n : Nat) (v1 : Int32) (v2 : Int32) (ls : Array Slot), fX1_greatestDepth_4 n σ v1 v2 = some r → lv_has ls 3 [(0, .ref b), (1, .int v1), (2, .int v2)] → W p l e (rmN 2) s m #[Value.ref b] below meth c s.heap [] 0 0 (MQ below (QcRead r) #[Value.ref b] s 0 0 (fun _ => False)) (F0 m 4 ls []) := by
    intro n
    induction n with
    | zero =>
      intro v1 v2 ls h hl
      rw [fX1_greatestDepth_4_0] at h
      cases h
    | succ n ih =>
      intro v1 v2 ls h hl
      rw [fX1_greatestDepth_4_s] at h
      refine lv_iload_n hx hb dX1_greatestDepth_4 rfl (lv_at hl 2 rfl) ?_
      refine lv_aload_n hx hb dX1_greatestDepth_5 rfl (lv_at hl 0 rfl) ?_
      refine gt_X1_6 C hin X 1 rfl dX1_greatestDepth_6 ?_
      refine lv_icmp_ge (tgt := 31) hx hb dX1_greatestDepth_9 (by decide) (fun c1 => ?_) (fun c1 => ?_)
      · have h := ip h c1
        refine lv_iload_n hx hb dX1_greatestDepth_31 rfl (lv_at hl 1 rfl) ?_
        have h := so h
        subst h
        exact W.iret hx hb hr (fun t ht _ => ⟨rfl, ht⟩) (fun q h => absurd h List.not_mem_nil) dX1_greatestDepth_32
      · have h := iq h c1
        refine lv_iload_n hx hb dX1_greatestDepth_12 rfl (lv_at hl 1 rfl) ?_
        refine lv_aload_n hx hb dX1_greatestDepth_13 rfl (lv_at hl 0 rfl) ?_
        refine lv_iload_n hx hb dX1_greatestDepth_14 rfl (lv_at hl 2 rfl) ?_
        obtain ⟨r2, hr2, h⟩ := ob h
        refine rowV (As := [.int v2]) (rest := [.int v1]) C (kX1_chainOf l G b σ v2 r2 hr2) (cwV 1 hts gX1_greatestDepth_X1_chainOf rfl rfl rfl (by decide +kernel) ⟨Nat.le_of_ble_eq_true rfl, Nat.le_of_ble_eq_true rfl⟩) (rcv_X1 X hK) X rfl hl.1 rfl (Nat.le_of_ble_eq_true rfl) dX1_greatestDepth_15 ⟨Nat.zero_le _, Nat.zero_le _⟩ ?_
        obtain ⟨r3, hr3, h⟩ := ob h
        refine rowS (As := [.int r2]) (rest := [.int v1]) (B := fun _ => True) C (kJ6_bitCount_0f7a4 l G r2 r3 hr3) (va_cwS 1 hts gX1_greatestDepth_J6_bitCount_0f7a4 rfl rfl rfl (by decide +kernel) ⟨Nat.le_of_ble_eq_true rfl, Nat.le_of_ble_eq_true rfl⟩) trivial rfl hl.1 rfl (Nat.le_of_ble_eq_true rfl) dX1_greatestDepth_18 ⟨Nat.zero_le _, Nat.zero_le _⟩ ?_
        refine va_mmax hx hb (hml.trans hl.1.symm) hown (hts _ (List.mem_of_getElem? (i := 2) rfl)) (hts _ (List.mem_of_getElem? (i := 3) rfl)) (hts _ (List.mem_of_getElem? (i := 4) rfl)) (hts _ (List.mem_of_getElem? (i := 5) rfl)) (Nat.le_of_ble_eq_true rfl) (Nat.le_of_ble_eq_true rfl) (Nat.zero_le _) (Nat.zero_le _) dX1_greatestDepth_21 ?_
        refine lv_istore_n (lv' := [(1, .int (if v1 < r3 then r3 else v1)), (0, .ref b), (2, .int v2)]) hx hb dX1_greatestDepth_24 rfl hl (by decide) rfl (fun ls hl => ?_)
        refine lv_iinc (v := v2 + 1) (lv' := [(2, .int (v2 + 1)), (1, .int (if v1 < r3 then r3 else v1)), (0, .ref b)]) hx hb dX1_greatestDepth_25 hl (k := 2) rfl rfl (by decide) rfl (fun ls hl => ?_)
        refine lv_goto (tgt := 4) hx hb dX1_greatestDepth_28 (by decide) ?_
        exact ih _ _ _ h (lv_sub hl [2, 1, 0] rfl)
  unfold fX1_greatestDepth at h
  refine lv_iconst (v := 0) hx hb dX1_greatestDepth_0 (by decide) ?_
  refine lv_istore_n (lv' := [(1, .int 0), (0, .ref b)]) hx hb dX1_greatestDepth_1 rfl hl (by decide) rfl (fun ls hl => ?_)
  refine lv_iconst (v := 0) hx hb dX1_greatestDepth_2 (by decide) ?_
  refine lv_istore_n (lv' := [(2, .int 0), (1, .int 0), (0, .ref b)]) hx hb dX1_greatestDepth_3 rfl hl (by decide) rfl (fun ls hl => ?_)
  exact loop4 _ _ _ _ h (lv_sub hl [2, 1, 0] rfl)

theorem in_X1_countUnvouched : ∀ w ∈ wsX10, w ∈ wsX1_countUnvouched := by decide +kernel
def fX1_countUnvouched_4 : Nat → St → Int32 → Int32 → Option (Int32)
  | 0, _, _, _ => none
  | n + 1, σ, v1, v2 => if (σ 6 0) ≤ v2 then (some v1) else ((fX1_vouchers σ v2).bind (fun r2 => if r2 = 0 then (fX1_countUnvouched_4 n σ (v1 + 1) (v2 + 1)) else (fX1_countUnvouched_4 n σ v1 (v2 + 1))))
theorem fX1_countUnvouched_4_0 (σ : St) (v1 : Int32) (v2 : Int32) : fX1_countUnvouched_4 0 σ v1 v2 = none := rfl
theorem fX1_countUnvouched_4_s (n : Nat) (σ : St) (v1 : Int32) (v2 : Int32) : fX1_countUnvouched_4 (n + 1) σ v1 v2 = (if (σ 6 0) ≤ v2 then (some v1) else ((fX1_vouchers σ v2).bind (fun r2 => if r2 = 0 then (fX1_countUnvouched_4 n σ (v1 + 1) (v2 + 1)) else (fX1_countUnvouched_4 n σ v1 (v2 + 1))))) := rfl
def fX1_countUnvouched (σ : St) : Option (Int32) := fX1_countUnvouched_4 1000 σ 0 0
set_option maxHeartbeats 4000000 in
set_option maxRecDepth 100000 in
theorem kX1_countUnvouched (l : Launch) (G : Gx) (b : Nat) (σ : St) (r : Int32) (h : fX1_countUnvouched σ = some r) : Met l yX1_countUnvouched wsX1_countUnvouched (rmN 2) (pre G [.ref b] (hAt G b σ)) (QcRead r) 0 0 (fun _ => False) := by
  refine Met.ofW (cc := cX1_countUnvouched) (maxL := 3) (ret := (some .int)) (by decide) rfl ?_
  intro p e s m args below meth c s₁ B hml hv
  obtain ⟨rfl, X, hK⟩ := hv
  have hx := B.exec
  have hb := B.bytes
  have hr := B.returns
  have hts := atoms_spec (ws := wsX1_countUnvouched) B.pre
  have hown : s.vm.findClass RX1 = some m.cls := findClass_of_methodNamed B.named
  have hlocks := B.notSynchronized
  have C : Cx p m c cX1_countUnvouched 3 s _ wsX1_countUnvouched RX1 G := ⟨⟨hx, hb, hml, hown, hts⟩, hK⟩
  have hin : ∀ w ∈ wsX10, w ∈ wsX1_countUnvouched := in_X1_countUnvouched
  have hl := lv_entry ([.ref b]) (n := 3) (Nat.le_of_ble_eq_true rfl)
  rw [lg_entry_eq]
  generalize (lg_sl ([.ref b]) ++ List.replicate (3 - (lg_sl ([.ref b])).length) Slot.unset).toArray = ls at hl ⊢
  have hl : lv_has ls 3 [(0, .ref b)] := hl
  have loop4 : ∀ (n : Nat) (v1 : Int32) (v2 : Int32) (ls : Array Slot), fX1_countUnvouched_4 n σ v1 v2 = some r → lv_has ls 3 [(0, .ref b), (1, .int v1), (2, .int v2)] → W p l e (rmN 2) s m #[Value.ref b] below meth c s.heap [] 0 0 (MQ below (QcRead r) #[Value.ref b] s 0 0 (fun _ => False)) (F0 m 4 ls []) := by
    intro n
    induction n with
    | zero =>
      intro v1 v2 ls h hl
      rw [fX1_countUnvouched_4_0] at h
      cases h
    | succ n ih =>
      intro v1 v2 ls h hl
      rw [fX1_countUnvouched_4_s] at h
      refine lv_iload_n hx hb dX1_countUnvouched_4 rfl (lv_at hl 2 rfl) ?_
      refine lv_aload_n hx hb dX1_countUnvouched_5 rfl (lv_at hl 0 rfl) ?_
      refine gt_X1_6 C hin X 1 rfl dX1_countUnvouched_6 ?_
      refine lv_icmp_ge (tgt := 29) hx hb dX1_countUnvouched_9 (by decide) (fun c1 => ?_) (fun c1 => ?_)
      · have h := ip h c1
        refine lv_iload_n hx hb dX1_countUnvouched_29 rfl (lv_at hl 1 rfl) ?_
        have h := so h
        subst h
        exact W.iret hx hb hr (fun t ht _ => ⟨rfl, ht⟩) (fun q h => absurd h List.not_mem_nil) dX1_countUnvouched_30
      · have h := iq h c1
        refine lv_aload_n hx hb dX1_countUnvouched_12 rfl (lv_at hl 0 rfl) ?_
        refine lv_iload_n hx hb dX1_countUnvouched_13 rfl (lv_at hl 2 rfl) ?_
        obtain ⟨r2, hr2, h⟩ := ob h
        refine rowV (As := [.int v2]) (rest := []) C (kX1_vouchers l G b σ v2 r2 hr2) (cwV 1 hts gX1_countUnvouched_X1_vouchers rfl rfl rfl (by decide +kernel) ⟨Nat.le_of_ble_eq_true rfl, Nat.le_of_ble_eq_true rfl⟩) (rcv_X1 X hK) X rfl hl.1 rfl (Nat.le_of_ble_eq_true rfl) dX1_countUnvouched_14 ⟨Nat.zero_le _, Nat.zero_le _⟩ ?_
        refine lv_if_ne (tgt := 23) hx hb dX1_countUnvouched_17 (by decide) (fun c3 => ?_) (fun c3 => ?_)
        · have h := iq h c3
          refine lv_iinc (v := v2 + 1) (lv' := [(2, .int (v2 + 1)), (0, .ref b), (1, .int v1)]) hx hb dX1_countUnvouched_23 hl (k := 2) rfl rfl (by decide) rfl (fun ls hl => ?_)
          refine lv_goto (tgt := 4) hx hb dX1_countUnvouched_26 (by decide) ?_
          exact ih _ _ _ h (lv_sub hl [1, 2, 0] rfl)
        · have h := ip h c3
          refine lv_iinc (v := v1 + 1) (lv' := [(1, .int (v1 + 1)), (0, .ref b), (2, .int v2)]) hx hb dX1_countUnvouched_20 hl (k := 1) rfl rfl (by decide) rfl (fun ls hl => ?_)
          refine lv_iinc (v := v2 + 1) (lv' := [(2, .int (v2 + 1)), (1, .int (v1 + 1)), (0, .ref b)]) hx hb dX1_countUnvouched_23 hl (k := 2) rfl rfl (by decide) rfl (fun ls hl => ?_)
          refine lv_goto (tgt := 4) hx hb dX1_countUnvouched_26 (by decide) ?_
          exact ih _ _ _ h (lv_sub hl [2, 1, 0] rfl)
  unfold fX1_countUnvouched at h
  refine lv_iconst (v := 0) hx hb dX1_countUnvouched_0 (by decide) ?_
  refine lv_istore_n (lv' := [(1, .int 0), (0, .ref b)]) hx hb dX1_countUnvouched_1 rfl hl (by decide) rfl (fun ls hl => ?_)
  refine lv_iconst (v := 0) hx hb dX1_countUnvouched_2 (by decide) ?_
  refine lv_istore_n (lv' := [(2, .int 0), (1, .int 0), (0, .ref b)]) hx hb dX1_countUnvouched_3 rfl hl (by decide) rfl (fun ls hl => ?_)
  exact loop4 _ _ _ _ h (lv_sub hl [2, 1, 0] rfl)

theorem in_X1_sacksFound : ∀ w ∈ wsX10, w ∈ wsX1_sacksFound := by decide +kernel
def fX1_sacksFound_4 : Nat → St → Int32 → Int32 → Option (Int32)
  | 0, _, _, _ => none
  | n + 1, σ, v1, v2 => if (σ 6 0) ≤ v2 then (some v1) else ((fX1_isIn (σ 7 0) v2).bind (fun r2 => if r2 = 0 then (fX1_sacksFound_4 n σ v1 (v2 + 1)) else (if oob v2 24 then none else fX1_sacksFound_4 n σ (v1 + (σ 2 v2.toNatClampNeg)) (v2 + 1))))
theorem fX1_sacksFound_4_0 (σ : St) (v1 : Int32) (v2 : Int32) : fX1_sacksFound_4 0 σ v1 v2 = none := rfl
theorem fX1_sacksFound_4_s (n : Nat) (σ : St) (v1 : Int32) (v2 : Int32) : fX1_sacksFound_4 (n + 1) σ v1 v2 = (if (σ 6 0) ≤ v2 then (some v1) else ((fX1_isIn (σ 7 0) v2).bind (fun r2 => if r2 = 0 then (fX1_sacksFound_4 n σ v1 (v2 + 1)) else (if oob v2 24 then none else fX1_sacksFound_4 n σ (v1 + (σ 2 v2.toNatClampNeg)) (v2 + 1))))) := rfl
def fX1_sacksFound (σ : St) : Option (Int32) := fX1_sacksFound_4 1000 σ 0 0
set_option maxHeartbeats 4000000 in
set_option maxRecDepth 100000 in
theorem kX1_sacksFound (l : Launch) (G : Gx) (b : Nat) (σ : St) (r : Int32) (h : fX1_sacksFound σ = some r) : Met l yX1_sacksFound wsX1_sacksFound (rmN 2) (pre G [.ref b] (hAt G b σ)) (QcRead r) 0 0 (fun _ => False) := by
  refine Met.ofW (cc := cX1_sacksFound) (maxL := 3) (ret := (some .int)) (by decide) rfl ?_
  intro p e s m args below meth c s₁ B hml hv
  obtain ⟨rfl, X, hK⟩ := hv
  have hx := B.exec
  have hb := B.bytes
  have hr := B.returns
  have hts := atoms_spec (ws := wsX1_sacksFound) B.pre
  have hown : s.vm.findClass RX1 = some m.cls := findClass_of_methodNamed B.named
  have hlocks := B.notSynchronized
  have C : Cx p m c cX1_sacksFound 3 s _ wsX1_sacksFound RX1 G := ⟨⟨hx, hb, hml, hown, hts⟩, hK⟩
  have hin : ∀ w ∈ wsX10, w ∈ wsX1_sacksFound := in_X1_sacksFound
  have hl := lv_entry ([.ref b]) (n := 3) (Nat.le_of_ble_eq_true rfl)
  rw [lg_entry_eq]
  generalize (lg_sl ([.ref b]) ++ List.replicate (3 - (lg_sl ([.ref b])).length) Slot.unset).toArray = ls at hl ⊢
  have hl : lv_has ls 3 [(0, .ref b)] := hl
  have loop4 : ∀ (n : Nat) (v1 : Int32) (v2 : Int32) (ls : Array Slot), fX1_sacksFound_4 n σ v1 v2 = some r → lv_has ls 3 [(0, .ref b), (1, .int v1), (2, .int v2)] → W p l e (rmN 2) s m #[Value.ref b] below meth c s.heap [] 0 0 (MQ below (QcRead r) #[Value.ref b] s 0 0 (fun _ => False)) (F0 m 4 ls []) := by
    intro n
    induction n with
    | zero =>
      intro v1 v2 ls h hl
      rw [fX1_sacksFound_4_0] at h
      cases h
    | succ n ih =>
      intro v1 v2 ls h hl
      rw [fX1_sacksFound_4_s] at h
      refine lv_iload_n hx hb dX1_sacksFound_4 rfl (lv_at hl 2 rfl) ?_
      refine lv_aload_n hx hb dX1_sacksFound_5 rfl (lv_at hl 0 rfl) ?_
      refine gt_X1_6 C hin X 1 rfl dX1_sacksFound_6 ?_
      refine lv_icmp_ge (tgt := 38) hx hb dX1_sacksFound_9 (by decide) (fun c1 => ?_) (fun c1 => ?_)
      · have h := ip h c1
        refine lv_iload_n hx hb dX1_sacksFound_38 rfl (lv_at hl 1 rfl) ?_
        have h := so h
        subst h
        exact W.iret hx hb hr (fun t ht _ => ⟨rfl, ht⟩) (fun q h => absurd h List.not_mem_nil) dX1_sacksFound_39
      · have h := iq h c1
        refine lv_aload_n hx hb dX1_sacksFound_12 rfl (lv_at hl 0 rfl) ?_
        refine gt_X1_7 C hin X 2 rfl dX1_sacksFound_13 ?_
        refine lv_iload_n hx hb dX1_sacksFound_16 rfl (lv_at hl 2 rfl) ?_
        obtain ⟨r2, hr2, h⟩ := ob h
        refine rowS (As := [.int (σ 7 0), .int v2]) (rest := []) (B := fun _ => True) C (kX1_isIn l G (σ 7 0) v2 r2 hr2) (va_cwS 2 hts gX1_sacksFound_X1_isIn rfl rfl rfl (by decide +kernel) ⟨Nat.le_of_ble_eq_true rfl, Nat.le_of_ble_eq_true rfl⟩) trivial rfl hl.1 rfl (Nat.le_of_ble_eq_true rfl) dX1_sacksFound_17 ⟨Nat.zero_le _, Nat.zero_le _⟩ ?_
        refine lv_if_eq (tgt := 32) hx hb dX1_sacksFound_20 (by decide) (fun c3 => ?_) (fun c3 => ?_)
        · have h := ip h c3
          refine lv_iinc (v := v2 + 1) (lv' := [(2, .int (v2 + 1)), (0, .ref b), (1, .int v1)]) hx hb dX1_sacksFound_32 hl (k := 2) rfl rfl (by decide) rfl (fun ls hl => ?_)
          refine lv_goto (tgt := 4) hx hb dX1_sacksFound_35 (by decide) ?_
          exact ih _ _ _ h (lv_sub hl [1, 2, 0] rfl)
        · have h := iq h c3
          refine lv_iload_n hx hb dX1_sacksFound_23 rfl (lv_at hl 1 rfl) ?_
          refine lv_aload_n hx hb dX1_sacksFound_24 rfl (lv_at hl 0 rfl) ?_
          refine gt_X1_2 C hin X 3 rfl dX1_sacksFound_25 ?_
          refine lv_iload_n hx hb dX1_sacksFound_28 rfl (lv_at hl 2 rfl) ?_
          obtain ⟨c4, h⟩ := og h
          refine al_X1_2 C X rfl c4 dX1_sacksFound_29 ?_
          refine lv_iadd hx hb dX1_sacksFound_30 ?_
          refine lv_istore_n (lv' := [(1, .int (v1 + (σ 2 v2.toNatClampNeg))), (0, .ref b), (2, .int v2)]) hx hb dX1_sacksFound_31 rfl hl (by decide) rfl (fun ls hl => ?_)
          refine lv_iinc (v := v2 + 1) (lv' := [(2, .int (v2 + 1)), (1, .int (v1 + (σ 2 v2.toNatClampNeg))), (0, .ref b)]) hx hb dX1_sacksFound_32 hl (k := 2) rfl rfl (by decide) rfl (fun ls hl => ?_)
          refine lv_goto (tgt := 4) hx hb dX1_sacksFound_35 (by decide) ?_
          exact ih _ _ _ h (lv_sub hl [2, 1, 0] rfl)
  unfold fX1_sacksFound at h
  refine lv_iconst (v := 0) hx hb dX1_sacksFound_0 (by decide) ?_
  refine lv_istore_n (lv' := [(1, .int 0), (0, .ref b)]) hx hb dX1_sacksFound_1 rfl hl (by decide) rfl (fun ls hl => ?_)
  refine lv_iconst (v := 0) hx hb dX1_sacksFound_2 (by decide) ?_
  refine lv_istore_n (lv' := [(2, .int 0), (1, .int 0), (0, .ref b)]) hx hb dX1_sacksFound_3 rfl hl (by decide) rfl (fun ls hl => ?_)
  exact loop4 _ _ _ _ h (lv_sub hl [2, 1, 0] rfl)

theorem in_X1_tellOfAll : ∀ w ∈ wsX10, w ∈ wsX1_tellOfAll := by decide +kernel
def fX1_tellOfAll (σ : St) (p1 : Int32) : Option (Int32) := if p1 < 0 then (if p1 = 5 then (some (σ 6 0)) else if p1 = 6 then ((fJ6_bitCount_0f7a4 (σ 7 0)).bind (fun r4 => some r4)) else if p1 = 7 then ((fJ6_bitCount_0f7a4 (σ 9 0)).bind (fun r6 => some r6)) else if p1 = 8 then ((fJ6_bitCount_0f7a4 (σ 8 0)).bind (fun r8 => some r8)) else if p1 = 9 then ((fX1_countBroken σ).bind (fun r10 => some r10)) else if p1 = 10 then (some (σ 10 0)) else if p1 = 11 then ((fX1_finesOfAll σ).bind (fun r13 => some r13)) else if p1 = 12 then ((fX1_greatestDepth σ).bind (fun r15 => some r15)) else if p1 = 13 then ((fX1_countUnvouched σ).bind (fun r17 => some r17)) else if p1 = 14 then ((fX1_sacksFound σ).bind (fun r19 => some r19)) else (some (-2))) else (if 5 ≤ p1 then (if p1 = 5 then (some (σ 6 0)) else if p1 = 6 then ((fJ6_bitCount_0f7a4 (σ 7 0)).bind (fun r23 => some r23)) else if p1 = 7 then ((fJ6_bitCount_0f7a4 (σ 9 0)).bind (fun r25 => some r25)) else if p1 = 8 then ((fJ6_bitCount_0f7a4 (σ 8 0)).bind (fun r27 => some r27)) else if p1 = 9 then ((fX1_countBroken σ).bind (fun r29 => some r29)) else if p1 = 10 then (some (σ 10 0)) else if p1 = 11 then ((fX1_finesOfAll σ).bind (fun r32 => some r32)) else if p1 = 12 then ((fX1_greatestDepth σ).bind (fun r34 => some r34)) else if p1 = 13 then ((fX1_countUnvouched σ).bind (fun r36 => some r36)) else if p1 = 14 then ((fX1_sacksFound σ).bind (fun r38 => some r38)) else (some (-2))) else (if oob p1 5 then none else some (σ 0 p1.toNatClampNeg)))
set_option maxHeartbeats 4000000 in
set_option maxRecDepth 100000 in
theorem kX1_tellOfAll (l : Launch) (G : Gx) (b : Nat) (σ : St) (p1 : Int32) (r : Int32) (h : fX1_tellOfAll σ p1 = some r) : Met l yX1_tellOfAll wsX1_tellOfAll (rmN 3) (pre G [.ref b, .int p1] (hAt G b σ)) (QcRead r) 0 0 (fun _ => False) := by
  refine Met.ofW (cc := cX1_tellOfAll) (maxL := 2) (ret := (some .int)) (by decide) rfl ?_
  intro p e s m args below meth c s₁ B hml hv
  obtain ⟨rfl, X, hK⟩ := hv
  have hx := B.exec
  have hb := B.bytes
  have hr := B.returns
  have hts := atoms_spec (ws := wsX1_tellOfAll) B.pre
  have hown : s.vm.findClass RX1 = some m.cls := findClass_of_methodNamed B.named
  have hlocks := B.notSynchronized
  have C : Cx p m c cX1_tellOfAll 2 s _ wsX1_tellOfAll RX1 G := ⟨⟨hx, hb, hml, hown, hts⟩, hK⟩
  have hin : ∀ w ∈ wsX10, w ∈ wsX1_tellOfAll := in_X1_tellOfAll
  have hl := lv_entry ([.ref b, .int p1]) (n := 2) (Nat.le_of_ble_eq_true rfl)
  rw [lg_entry_eq]
  generalize (lg_sl ([.ref b, .int p1]) ++ List.replicate (2 - (lg_sl ([.ref b, .int p1])).length) Slot.unset).toArray = ls at hl ⊢
  have hl : lv_has ls 2 [(0, .ref b), (1, .int p1)] := hl
  unfold fX1_tellOfAll at h
  refine lv_iload_n hx hb dX1_tellOfAll_0 rfl (lv_at hl 1 rfl) ?_
  refine lv_if_lt (tgt := 16) hx hb dX1_tellOfAll_1 (by decide) (fun c1 => ?_) (fun c1 => ?_)
  · have h := ip h c1
    refine lv_iload_n hx hb dX1_tellOfAll_16 rfl (lv_at hl 1 rfl) ?_
    by_cases c2 : p1 = 5
    · have h := ip h c2
      refine rowTab (K := 5) (off := 55) (tgt := 72) hx hb c2 dX1_tellOfAll_17 (by decide) (by decide) (by decide) (by decide) ?_
      refine lv_aload_n hx hb dX1_tellOfAll_72 rfl (lv_at hl 0 rfl) ?_
      refine gt_X1_6 C hin X 2 rfl dX1_tellOfAll_73 ?_
      have h := so h
      subst h
      exact W.iret hx hb hr (fun t ht _ => ⟨rfl, ht⟩) (fun q h => absurd h List.not_mem_nil) dX1_tellOfAll_76
    · have h := iq h c2
      by_cases c3 : p1 = 6
      · have h := ip h c3
        refine rowTab (K := 6) (off := 60) (tgt := 77) hx hb c3 dX1_tellOfAll_17 (by decide) (by decide) (by decide) (by decide) ?_
        refine lv_aload_n hx hb dX1_tellOfAll_77 rfl (lv_at hl 0 rfl) ?_
        refine gt_X1_7 C hin X 3 rfl dX1_tellOfAll_78 ?_
        obtain ⟨r4, hr4, h⟩ := ob h
        refine rowS (As := [.int (σ 7 0)]) (rest := []) (B := fun _ => True) C (kJ6_bitCount_0f7a4 l G (σ 7 0) r4 hr4) (va_cwS 1 hts gX1_tellOfAll_J6_bitCount_0f7a4 rfl rfl rfl (by decide +kernel) ⟨Nat.le_of_ble_eq_true rfl, Nat.le_of_ble_eq_true rfl⟩) trivial rfl hl.1 rfl (Nat.le_of_ble_eq_true rfl) dX1_tellOfAll_81 ⟨Nat.zero_le _, Nat.zero_le _⟩ ?_
        have h := so h
        subst h
        exact W.iret hx hb hr (fun t ht _ => ⟨rfl, ht⟩) (fun q h => absurd h List.not_mem_nil) dX1_tellOfAll_84
      · have h := iq h c3
        by_cases c5 : p1 = 7
        · have h := ip h c5
          refine rowTab (K := 7) (off := 68) (tgt := 85) hx hb c5 dX1_tellOfAll_17 (by decide) (by decide) (by decide) (by decide) ?_
          refine lv_aload_n hx hb dX1_tellOfAll_85 rfl (lv_at hl 0 rfl) ?_
          refine gt_X1_9 C hin X 4 rfl dX1_tellOfAll_86 ?_
          obtain ⟨r6, hr6, h⟩ := ob h
          refine rowS (As := [.int (σ 9 0)]) (rest := []) (B := fun _ => True) C (kJ6_bitCount_0f7a4 l G (σ 9 0) r6 hr6) (va_cwS 1 hts gX1_tellOfAll_J6_bitCount_0f7a4 rfl rfl rfl (by decide +kernel) ⟨Nat.le_of_ble_eq_true rfl, Nat.le_of_ble_eq_true rfl⟩) trivial rfl hl.1 rfl (Nat.le_of_ble_eq_true rfl) dX1_tellOfAll_89 ⟨Nat.zero_le _, Nat.zero_le _⟩ ?_
          have h := so h
          subst h
          exact W.iret hx hb hr (fun t ht _ => ⟨rfl, ht⟩) (fun q h => absurd h List.not_mem_nil) dX1_tellOfAll_92
        · have h := iq h c5
          by_cases c7 : p1 = 8
          · have h := ip h c7
            refine rowTab (K := 8) (off := 76) (tgt := 93) hx hb c7 dX1_tellOfAll_17 (by decide) (by decide) (by decide) (by decide) ?_
            refine lv_aload_n hx hb dX1_tellOfAll_93 rfl (lv_at hl 0 rfl) ?_
            refine gt_X1_8 C hin X 5 rfl dX1_tellOfAll_94 ?_
            obtain ⟨r8, hr8, h⟩ := ob h
            refine rowS (As := [.int (σ 8 0)]) (rest := []) (B := fun _ => True) C (kJ6_bitCount_0f7a4 l G (σ 8 0) r8 hr8) (va_cwS 1 hts gX1_tellOfAll_J6_bitCount_0f7a4 rfl rfl rfl (by decide +kernel) ⟨Nat.le_of_ble_eq_true rfl, Nat.le_of_ble_eq_true rfl⟩) trivial rfl hl.1 rfl (Nat.le_of_ble_eq_true rfl) dX1_tellOfAll_97 ⟨Nat.zero_le _, Nat.zero_le _⟩ ?_
            have h := so h
            subst h
            exact W.iret hx hb hr (fun t ht _ => ⟨rfl, ht⟩) (fun q h => absurd h List.not_mem_nil) dX1_tellOfAll_100
          · have h := iq h c7
            by_cases c9 : p1 = 9
            · have h := ip h c9
              refine rowTab (K := 9) (off := 84) (tgt := 101) hx hb c9 dX1_tellOfAll_17 (by decide) (by decide) (by decide) (by decide) ?_
              refine lv_aload_n hx hb dX1_tellOfAll_101 rfl (lv_at hl 0 rfl) ?_
              obtain ⟨r10, hr10, h⟩ := ob h
              refine rowV (As := []) (rest := []) C (kX1_countBroken l G b σ r10 hr10) (cwV 0 hts gX1_tellOfAll_X1_countBroken rfl rfl rfl (by decide +kernel) ⟨Nat.le_of_ble_eq_true rfl, Nat.le_of_ble_eq_true rfl⟩) (rcv_X1 X hK) X rfl hl.1 rfl (Nat.le_of_ble_eq_true rfl) dX1_tellOfAll_102 ⟨Nat.zero_le _, Nat.zero_le _⟩ ?_
              have h := so h
              subst h
              exact W.iret hx hb hr (fun t ht _ => ⟨rfl, ht⟩) (fun q h => absurd h List.not_mem_nil) dX1_tellOfAll_105
            · have h := iq h c9
              by_cases c11 : p1 = 10
              · have h := ip h c11
                refine rowTab (K := 10) (off := 89) (tgt := 106) hx hb c11 dX1_tellOfAll_17 (by decide) (by decide) (by decide) (by decide) ?_
                refine lv_aload_n hx hb dX1_tellOfAll_106 rfl (lv_at hl 0 rfl) ?_
                refine gt_X1_10 C hin X 6 rfl dX1_tellOfAll_107 ?_
                have h := so h
                subst h
                exact W.iret hx hb hr (fun t ht _ => ⟨rfl, ht⟩) (fun q h => absurd h List.not_mem_nil) dX1_tellOfAll_110
              · have h := iq h c11
                by_cases c12 : p1 = 11
                · have h := ip h c12
                  refine rowTab (K := 11) (off := 94) (tgt := 111) hx hb c12 dX1_tellOfAll_17 (by decide) (by decide) (by decide) (by decide) ?_
                  refine lv_aload_n hx hb dX1_tellOfAll_111 rfl (lv_at hl 0 rfl) ?_
                  obtain ⟨r13, hr13, h⟩ := ob h
                  refine rowV (As := []) (rest := []) C (kX1_finesOfAll l G b σ r13 hr13) (cwV 0 hts gX1_tellOfAll_X1_finesOfAll rfl rfl rfl (by decide +kernel) ⟨Nat.le_of_ble_eq_true rfl, Nat.le_of_ble_eq_true rfl⟩) (rcv_X1 X hK) X rfl hl.1 rfl (Nat.le_of_ble_eq_true rfl) dX1_tellOfAll_112 ⟨Nat.zero_le _, Nat.zero_le _⟩ ?_
                  have h := so h
                  subst h
                  exact W.iret hx hb hr (fun t ht _ => ⟨rfl, ht⟩) (fun q h => absurd h List.not_mem_nil) dX1_tellOfAll_115
                · have h := iq h c12
                  by_cases c14 : p1 = 12
                  · have h := ip h c14
                    refine rowTab (K := 12) (off := 99) (tgt := 116) hx hb c14 dX1_tellOfAll_17 (by decide) (by decide) (by decide) (by decide) ?_
                    refine lv_aload_n hx hb dX1_tellOfAll_116 rfl (lv_at hl 0 rfl) ?_
                    obtain ⟨r15, hr15, h⟩ := ob h
                    refine rowV (As := []) (rest := []) C (kX1_greatestDepth l G b σ r15 hr15) (cwV 0 hts gX1_tellOfAll_X1_greatestDepth rfl rfl rfl (by decide +kernel) ⟨Nat.le_of_ble_eq_true rfl, Nat.le_of_ble_eq_true rfl⟩) (rcv_X1 X hK) X rfl hl.1 rfl (Nat.le_of_ble_eq_true rfl) dX1_tellOfAll_117 ⟨Nat.zero_le _, Nat.zero_le _⟩ ?_
                    have h := so h
                    subst h
                    exact W.iret hx hb hr (fun t ht _ => ⟨rfl, ht⟩) (fun q h => absurd h List.not_mem_nil) dX1_tellOfAll_120
                  · have h := iq h c14
                    by_cases c16 : p1 = 13
                    · have h := ip h c16
                      refine rowTab (K := 13) (off := 104) (tgt := 121) hx hb c16 dX1_tellOfAll_17 (by decide) (by decide) (by decide) (by decide) ?_
                      refine lv_aload_n hx hb dX1_tellOfAll_121 rfl (lv_at hl 0 rfl) ?_
                      obtain ⟨r17, hr17, h⟩ := ob h
                      refine rowV (As := []) (rest := []) C (kX1_countUnvouched l G b σ r17 hr17) (cwV 0 hts gX1_tellOfAll_X1_countUnvouched rfl rfl rfl (by decide +kernel) ⟨Nat.le_of_ble_eq_true rfl, Nat.le_of_ble_eq_true rfl⟩) (rcv_X1 X hK) X rfl hl.1 rfl (Nat.le_of_ble_eq_true rfl) dX1_tellOfAll_122 ⟨Nat.zero_le _, Nat.zero_le _⟩ ?_
                      have h := so h
                      subst h
                      exact W.iret hx hb hr (fun t ht _ => ⟨rfl, ht⟩) (fun q h => absurd h List.not_mem_nil) dX1_tellOfAll_125
                    · have h := iq h c16
                      by_cases c18 : p1 = 14
                      · have h := ip h c18
                        refine rowTab (K := 14) (off := 109) (tgt := 126) hx hb c18 dX1_tellOfAll_17 (by decide) (by decide) (by decide) (by decide) ?_
                        refine lv_aload_n hx hb dX1_tellOfAll_126 rfl (lv_at hl 0 rfl) ?_
                        obtain ⟨r19, hr19, h⟩ := ob h
                        refine rowV (As := []) (rest := []) C (kX1_sacksFound l G b σ r19 hr19) (cwV 0 hts gX1_tellOfAll_X1_sacksFound rfl rfl rfl (by decide +kernel) ⟨Nat.le_of_ble_eq_true rfl, Nat.le_of_ble_eq_true rfl⟩) (rcv_X1 X hK) X rfl hl.1 rfl (Nat.le_of_ble_eq_true rfl) dX1_tellOfAll_127 ⟨Nat.zero_le _, Nat.zero_le _⟩ ?_
                        have h := so h
                        subst h
                        exact W.iret hx hb hr (fun t ht _ => ⟨rfl, ht⟩) (fun q h => absurd h List.not_mem_nil) dX1_tellOfAll_130
                      · have h := iq h c18
                        have c2t : ¬ p1.toInt = 5 := lv_neT c2 (by decide)
                        have c3t : ¬ p1.toInt = 6 := lv_neT c3 (by decide)
                        have c5t : ¬ p1.toInt = 7 := lv_neT c5 (by decide)
                        have c7t : ¬ p1.toInt = 8 := lv_neT c7 (by decide)
                        have c9t : ¬ p1.toInt = 9 := lv_neT c9 (by decide)
                        have c11t : ¬ p1.toInt = 10 := lv_neT c11 (by decide)
                        have c12t : ¬ p1.toInt = 11 := lv_neT c12 (by decide)
                        have c14t : ¬ p1.toInt = 12 := lv_neT c14 (by decide)
                        have c16t : ¬ p1.toInt = 13 := lv_neT c16 (by decide)
                        have c18t : ¬ p1.toInt = 14 := lv_neT c18 (by decide)
                        refine lv_tableOut (tgt := 131) hx hb dX1_tellOfAll_17 (by omega) (by decide) ?_
                        refine lv_bipush (v := (-2)) hx hb dX1_tellOfAll_131 (by decide) ?_
                        have h := so h
                        subst h
                        exact W.iret hx hb hr (fun t ht _ => ⟨rfl, ht⟩) (fun q h => absurd h List.not_mem_nil) dX1_tellOfAll_133
  · have h := iq h c1
    refine lv_iload_n hx hb dX1_tellOfAll_4 rfl (lv_at hl 1 rfl) ?_
    refine lv_iconst (v := 5) hx hb dX1_tellOfAll_5 (by decide) ?_
    refine lv_icmp_ge (tgt := 16) hx hb dX1_tellOfAll_6 (by decide) (fun c20 => ?_) (fun c20 => ?_)
    · have h := ip h c20
      refine lv_iload_n hx hb dX1_tellOfAll_16 rfl (lv_at hl 1 rfl) ?_
      by_cases c21 : p1 = 5
      · have h := ip h c21
        refine rowTab (K := 5) (off := 55) (tgt := 72) hx hb c21 dX1_tellOfAll_17 (by decide) (by decide) (by decide) (by decide) ?_
        refine lv_aload_n hx hb dX1_tellOfAll_72 rfl (lv_at hl 0 rfl) ?_
        refine gt_X1_6 C hin X 2 rfl dX1_tellOfAll_73 ?_
        have h := so h
        subst h
        exact W.iret hx hb hr (fun t ht _ => ⟨rfl, ht⟩) (fun q h => absurd h List.not_mem_nil) dX1_tellOfAll_76
      · have h := iq h c21
        by_cases c22 : p1 = 6
        · have h := ip h c22
          refine rowTab (K := 6) (off := 60) (tgt := 77) hx hb c22 dX1_tellOfAll_17 (by decide) (by decide) (by decide) (by decide) ?_
          refine lv_aload_n hx hb dX1_tellOfAll_77 rfl (lv_at hl 0 rfl) ?_
          refine gt_X1_7 C hin X 3 rfl dX1_tellOfAll_78 ?_
          obtain ⟨r23, hr23, h⟩ := ob h
          refine rowS (As := [.int (σ 7 0)]) (rest := []) (B := fun _ => True) C (kJ6_bitCount_0f7a4 l G (σ 7 0) r23 hr23) (va_cwS 1 hts gX1_tellOfAll_J6_bitCount_0f7a4 rfl rfl rfl (by decide +kernel) ⟨Nat.le_of_ble_eq_true rfl, Nat.le_of_ble_eq_true rfl⟩) trivial rfl hl.1 rfl (Nat.le_of_ble_eq_true rfl) dX1_tellOfAll_81 ⟨Nat.zero_le _, Nat.zero_le _⟩ ?_
          have h := so h
          subst h
          exact W.iret hx hb hr (fun t ht _ => ⟨rfl, ht⟩) (fun q h => absurd h List.not_mem_nil) dX1_tellOfAll_84
        · have h := iq h c22
          by_cases c24 : p1 = 7
          · have h := ip h c24
            refine rowTab (K := 7) (off := 68) (tgt := 85) hx hb c24 dX1_tellOfAll_17 (by decide) (by decide) (by decide) (by decide) ?_
            refine lv_aload_n hx hb dX1_tellOfAll_85 rfl (lv_at hl 0 rfl) ?_
            refine gt_X1_9 C hin X 4 rfl dX1_tellOfAll_86 ?_
            obtain ⟨r25, hr25, h⟩ := ob h
            refine rowS (As := [.int (σ 9 0)]) (rest := []) (B := fun _ => True) C (kJ6_bitCount_0f7a4 l G (σ 9 0) r25 hr25) (va_cwS 1 hts gX1_tellOfAll_J6_bitCount_0f7a4 rfl rfl rfl (by decide +kernel) ⟨Nat.le_of_ble_eq_true rfl, Nat.le_of_ble_eq_true rfl⟩) trivial rfl hl.1 rfl (Nat.le_of_ble_eq_true rfl) dX1_tellOfAll_89 ⟨Nat.zero_le _, Nat.zero_le _⟩ ?_
            have h := so h
            subst h
            exact W.iret hx hb hr (fun t ht _ => ⟨rfl, ht⟩) (fun q h => absurd h List.not_mem_nil) dX1_tellOfAll_92
          · have h := iq h c24
            by_cases c26 : p1 = 8
            · have h := ip h c26
              refine rowTab (K := 8) (off := 76) (tgt := 93) hx hb c26 dX1_tellOfAll_17 (by decide) (by decide) (by decide) (by decide) ?_
              refine lv_aload_n hx hb dX1_tellOfAll_93 rfl (lv_at hl 0 rfl) ?_
              refine gt_X1_8 C hin X 5 rfl dX1_tellOfAll_94 ?_
              obtain ⟨r27, hr27, h⟩ := ob h
              refine rowS (As := [.int (σ 8 0)]) (rest := []) (B := fun _ => True) C (kJ6_bitCount_0f7a4 l G (σ 8 0) r27 hr27) (va_cwS 1 hts gX1_tellOfAll_J6_bitCount_0f7a4 rfl rfl rfl (by decide +kernel) ⟨Nat.le_of_ble_eq_true rfl, Nat.le_of_ble_eq_true rfl⟩) trivial rfl hl.1 rfl (Nat.le_of_ble_eq_true rfl) dX1_tellOfAll_97 ⟨Nat.zero_le _, Nat.zero_le _⟩ ?_
              have h := so h
              subst h
              exact W.iret hx hb hr (fun t ht _ => ⟨rfl, ht⟩) (fun q h => absurd h List.not_mem_nil) dX1_tellOfAll_100
            · have h := iq h c26
              by_cases c28 : p1 = 9
              · have h := ip h c28
                refine rowTab (K := 9) (off := 84) (tgt := 101) hx hb c28 dX1_tellOfAll_17 (by decide) (by decide) (by decide) (by decide) ?_
                refine lv_aload_n hx hb dX1_tellOfAll_101 rfl (lv_at hl 0 rfl) ?_
                obtain ⟨r29, hr29, h⟩ := ob h
                refine rowV (As := []) (rest := []) C (kX1_countBroken l G b σ r29 hr29) (cwV 0 hts gX1_tellOfAll_X1_countBroken rfl rfl rfl (by decide +kernel) ⟨Nat.le_of_ble_eq_true rfl, Nat.le_of_ble_eq_true rfl⟩) (rcv_X1 X hK) X rfl hl.1 rfl (Nat.le_of_ble_eq_true rfl) dX1_tellOfAll_102 ⟨Nat.zero_le _, Nat.zero_le _⟩ ?_
                have h := so h
                subst h
                exact W.iret hx hb hr (fun t ht _ => ⟨rfl, ht⟩) (fun q h => absurd h List.not_mem_nil) dX1_tellOfAll_105
              · have h := iq h c28
                by_cases c30 : p1 = 10
                · have h := ip h c30
                  refine rowTab (K := 10) (off := 89) (tgt := 106) hx hb c30 dX1_tellOfAll_17 (by decide) (by decide) (by decide) (by decide) ?_
                  refine lv_aload_n hx hb dX1_tellOfAll_106 rfl (lv_at hl 0 rfl) ?_
                  refine gt_X1_10 C hin X 6 rfl dX1_tellOfAll_107 ?_
                  have h := so h
                  subst h
                  exact W.iret hx hb hr (fun t ht _ => ⟨rfl, ht⟩) (fun q h => absurd h List.not_mem_nil) dX1_tellOfAll_110
                · have h := iq h c30
                  by_cases c31 : p1 = 11
                  · have h := ip h c31
                    refine rowTab (K := 11) (off := 94) (tgt := 111) hx hb c31 dX1_tellOfAll_17 (by decide) (by decide) (by decide) (by decide) ?_
                    refine lv_aload_n hx hb dX1_tellOfAll_111 rfl (lv_at hl 0 rfl) ?_
                    obtain ⟨r32, hr32, h⟩ := ob h
                    refine rowV (As := []) (rest := []) C (kX1_finesOfAll l G b σ r32 hr32) (cwV 0 hts gX1_tellOfAll_X1_finesOfAll rfl rfl rfl (by decide +kernel) ⟨Nat.le_of_ble_eq_true rfl, Nat.le_of_ble_eq_true rfl⟩) (rcv_X1 X hK) X rfl hl.1 rfl (Nat.le_of_ble_eq_true rfl) dX1_tellOfAll_112 ⟨Nat.zero_le _, Nat.zero_le _⟩ ?_
                    have h := so h
                    subst h
                    exact W.iret hx hb hr (fun t ht _ => ⟨rfl, ht⟩) (fun q h => absurd h List.not_mem_nil) dX1_tellOfAll_115
                  · have h := iq h c31
                    by_cases c33 : p1 = 12
                    · have h := ip h c33
                      refine rowTab (K := 12) (off := 99) (tgt := 116) hx hb c33 dX1_tellOfAll_17 (by decide) (by decide) (by decide) (by decide) ?_
                      refine lv_aload_n hx hb dX1_tellOfAll_116 rfl (lv_at hl 0 rfl) ?_
                      obtain ⟨r34, hr34, h⟩ := ob h
                      refine rowV (As := []) (rest := []) C (kX1_greatestDepth l G b σ r34 hr34) (cwV 0 hts gX1_tellOfAll_X1_greatestDepth rfl rfl rfl (by decide +kernel) ⟨Nat.le_of_ble_eq_true rfl, Nat.le_of_ble_eq_true rfl⟩) (rcv_X1 X hK) X rfl hl.1 rfl (Nat.le_of_ble_eq_true rfl) dX1_tellOfAll_117 ⟨Nat.zero_le _, Nat.zero_le _⟩ ?_
                      have h := so h
                      subst h
                      exact W.iret hx hb hr (fun t ht _ => ⟨rfl, ht⟩) (fun q h => absurd h List.not_mem_nil) dX1_tellOfAll_120
                    · have h := iq h c33
                      by_cases c35 : p1 = 13
                      · have h := ip h c35
                        refine rowTab (K := 13) (off := 104) (tgt := 121) hx hb c35 dX1_tellOfAll_17 (by decide) (by decide) (by decide) (by decide) ?_
                        refine lv_aload_n hx hb dX1_tellOfAll_121 rfl (lv_at hl 0 rfl) ?_
                        obtain ⟨r36, hr36, h⟩ := ob h
                        refine rowV (As := []) (rest := []) C (kX1_countUnvouched l G b σ r36 hr36) (cwV 0 hts gX1_tellOfAll_X1_countUnvouched rfl rfl rfl (by decide +kernel) ⟨Nat.le_of_ble_eq_true rfl, Nat.le_of_ble_eq_true rfl⟩) (rcv_X1 X hK) X rfl hl.1 rfl (Nat.le_of_ble_eq_true rfl) dX1_tellOfAll_122 ⟨Nat.zero_le _, Nat.zero_le _⟩ ?_
                        have h := so h
                        subst h
                        exact W.iret hx hb hr (fun t ht _ => ⟨rfl, ht⟩) (fun q h => absurd h List.not_mem_nil) dX1_tellOfAll_125
                      · have h := iq h c35
                        by_cases c37 : p1 = 14
                        · have h := ip h c37
                          refine rowTab (K := 14) (off := 109) (tgt := 126) hx hb c37 dX1_tellOfAll_17 (by decide) (by decide) (by decide) (by decide) ?_
                          refine lv_aload_n hx hb dX1_tellOfAll_126 rfl (lv_at hl 0 rfl) ?_
                          obtain ⟨r38, hr38, h⟩ := ob h
                          refine rowV (As := []) (rest := []) C (kX1_sacksFound l G b σ r38 hr38) (cwV 0 hts gX1_tellOfAll_X1_sacksFound rfl rfl rfl (by decide +kernel) ⟨Nat.le_of_ble_eq_true rfl, Nat.le_of_ble_eq_true rfl⟩) (rcv_X1 X hK) X rfl hl.1 rfl (Nat.le_of_ble_eq_true rfl) dX1_tellOfAll_127 ⟨Nat.zero_le _, Nat.zero_le _⟩ ?_
                          have h := so h
                          subst h
                          exact W.iret hx hb hr (fun t ht _ => ⟨rfl, ht⟩) (fun q h => absurd h List.not_mem_nil) dX1_tellOfAll_130
                        · have h := iq h c37
                          have c21t : ¬ p1.toInt = 5 := lv_neT c21 (by decide)
                          have c22t : ¬ p1.toInt = 6 := lv_neT c22 (by decide)
                          have c24t : ¬ p1.toInt = 7 := lv_neT c24 (by decide)
                          have c26t : ¬ p1.toInt = 8 := lv_neT c26 (by decide)
                          have c28t : ¬ p1.toInt = 9 := lv_neT c28 (by decide)
                          have c30t : ¬ p1.toInt = 10 := lv_neT c30 (by decide)
                          have c31t : ¬ p1.toInt = 11 := lv_neT c31 (by decide)
                          have c33t : ¬ p1.toInt = 12 := lv_neT c33 (by decide)
                          have c35t : ¬ p1.toInt = 13 := lv_neT c35 (by decide)
                          have c37t : ¬ p1.toInt = 14 := lv_neT c37 (by decide)
                          refine lv_tableOut (tgt := 131) hx hb dX1_tellOfAll_17 (by omega) (by decide) ?_
                          refine lv_bipush (v := (-2)) hx hb dX1_tellOfAll_131 (by decide) ?_
                          have h := so h
                          subst h
                          exact W.iret hx hb hr (fun t ht _ => ⟨rfl, ht⟩) (fun q h => absurd h List.not_mem_nil) dX1_tellOfAll_133
    · have h := iq h c20
      refine lv_aload_n hx hb dX1_tellOfAll_9 rfl (lv_at hl 0 rfl) ?_
      refine gt_X1_0 C hin X 1 rfl dX1_tellOfAll_10 ?_
      refine lv_iload_n hx hb dX1_tellOfAll_13 rfl (lv_at hl 1 rfl) ?_
      obtain ⟨c39, h⟩ := og h
      refine al_X1_0 C X rfl c39 dX1_tellOfAll_14 ?_
      have h := so h
      subst h
      exact W.iret hx hb hr (fun t ht _ => ⟨rfl, ht⟩) (fun q h => absurd h List.not_mem_nil) dX1_tellOfAll_15

theorem in_X1_foretell : ∀ w ∈ wsX10, w ∈ wsX1_foretell := by decide +kernel
def fX1_foretell (σ : St) (p1 : Int32) (p2 : Int32) : Option (Int32) := (fX1_knows σ p1).bind (fun r1 => if r1 = 0 then (some (-1)) else (if p2 < 0 then (some (-2)) else (if p2 ≤ 2 then ((fX1_isIn (σ 7 0) p1).bind (fun r5 => if r5 = 0 then (if p2 = 0 then ((fX1_clearedIfHonest σ p1).bind (fun r14 => (fJ6_bitCount_0f7a4 r14).bind (fun r15 => some r15))) else (if p2 = 1 then ((fX1_ownFine σ p1 0).bind (fun r13 => some r13)) else ((fX1_isLie σ p1 0).bind (fun r9 => if r9 = 0 then (some 0) else ((fX1_wholeVouchers σ p1).bind (fun r11 => (fJ6_bitCount_0f7a4 r11).bind (fun r12 => some ((σ 0 4) * r12)))))))) else (some (-4)))) else (some (-2)))))
set_option maxHeartbeats 4000000 in
set_option maxRecDepth 100000 in
theorem kX1_foretell (l : Launch) (G : Gx) (b : Nat) (σ : St) (p1 : Int32) (p2 : Int32) (r : Int32) (h : fX1_foretell σ p1 p2 = some r) : Met l yX1_foretell wsX1_foretell (rmN 4) (pre G [.ref b, .int p1, .int p2] (hAt G b σ)) (QcRead r) 0 0 (fun _ => False) := by
  refine Met.ofW (cc := cX1_foretell) (maxL := 3) (ret := (some .int)) (by decide) rfl ?_
  intro p e s m args below meth c s₁ B hml hv
  obtain ⟨rfl, X, hK⟩ := hv
  have hx := B.exec
  have hb := B.bytes
  have hr := B.returns
  have hts := atoms_spec (ws := wsX1_foretell) B.pre
  have hown : s.vm.findClass RX1 = some m.cls := findClass_of_methodNamed B.named
  have hlocks := B.notSynchronized
  have C : Cx p m c cX1_foretell 3 s _ wsX1_foretell RX1 G := ⟨⟨hx, hb, hml, hown, hts⟩, hK⟩
  have hin : ∀ w ∈ wsX10, w ∈ wsX1_foretell := in_X1_foretell
  have hl := lv_entry ([.ref b, .int p1, .int p2]) (n := 3) (Nat.le_of_ble_eq_true rfl)
  rw [lg_entry_eq]
  generalize (lg_sl ([.ref b, .int p1, .int p2]) ++ List.replicate (3 - (lg_sl ([.ref b, .int p1, .int p2])).length) Slot.unset).toArray = ls at hl ⊢
  have hl : lv_has ls 3 [(0, .ref b), (1, .int p1), (2, .int p2)] := hl
  unfold fX1_foretell at h
  refine lv_aload_n hx hb dX1_foretell_0 rfl (lv_at hl 0 rfl) ?_
  refine lv_iload_n hx hb dX1_foretell_1 rfl (lv_at hl 1 rfl) ?_
  obtain ⟨r1, hr1, h⟩ := ob h
  refine rowV (As := [.int p1]) (rest := []) C (kX1_knows l G b σ p1 r1 hr1) (cwV 1 hts gX1_foretell_X1_knows rfl rfl rfl (by decide +kernel) ⟨Nat.le_of_ble_eq_true rfl, Nat.le_of_ble_eq_true rfl⟩) (rcv_X1 X hK) X rfl hl.1 rfl (Nat.le_of_ble_eq_true rfl) dX1_foretell_2 ⟨Nat.zero_le _, Nat.zero_le _⟩ ?_
  refine lv_if_ne (tgt := 10) hx hb dX1_foretell_5 (by decide) (fun c2 => ?_) (fun c2 => ?_)
  · have h := iq h c2
    refine lv_iload_n hx hb dX1_foretell_10 rfl (lv_at hl 2 rfl) ?_
    refine lv_if_lt (tgt := 19) hx hb dX1_foretell_11 (by decide) (fun c3 => ?_) (fun c3 => ?_)
    · have h := ip h c3
      refine lv_bipush (v := (-2)) hx hb dX1_foretell_19 (by decide) ?_
      have h := so h
      subst h
      exact W.iret hx hb hr (fun t ht _ => ⟨rfl, ht⟩) (fun q h => absurd h List.not_mem_nil) dX1_foretell_21
    · have h := iq h c3
      refine lv_iload_n hx hb dX1_foretell_14 rfl (lv_at hl 2 rfl) ?_
      refine lv_iconst (v := 2) hx hb dX1_foretell_15 (by decide) ?_
      refine lv_icmp_le (tgt := 22) hx hb dX1_foretell_16 (by decide) (fun c4 => ?_) (fun c4 => ?_)
      · have h := ip h c4
        refine lv_aload_n hx hb dX1_foretell_22 rfl (lv_at hl 0 rfl) ?_
        refine gt_X1_7 C hin X 1 rfl dX1_foretell_23 ?_
        refine lv_iload_n hx hb dX1_foretell_26 rfl (lv_at hl 1 rfl) ?_
        obtain ⟨r5, hr5, h⟩ := ob h
        refine rowS (As := [.int (σ 7 0), .int p1]) (rest := []) (B := fun _ => True) C (kX1_isIn l G (σ 7 0) p1 r5 hr5) (va_cwS 2 hts gX1_foretell_X1_isIn rfl rfl rfl (by decide +kernel) ⟨Nat.le_of_ble_eq_true rfl, Nat.le_of_ble_eq_true rfl⟩) trivial rfl hl.1 rfl (Nat.le_of_ble_eq_true rfl) dX1_foretell_27 ⟨Nat.zero_le _, Nat.zero_le _⟩ ?_
        refine lv_if_eq (tgt := 36) hx hb dX1_foretell_30 (by decide) (fun c6 => ?_) (fun c6 => ?_)
        · have h := ip h c6
          refine lv_iload_n hx hb dX1_foretell_36 rfl (lv_at hl 2 rfl) ?_
          refine lv_if_ne (tgt := 49) hx hb dX1_foretell_37 (by decide) (fun c7 => ?_) (fun c7 => ?_)
          · have h := iq h c7
            refine lv_iload_n hx hb dX1_foretell_49 rfl (lv_at hl 2 rfl) ?_
            refine lv_iconst (v := 1) hx hb dX1_foretell_50 (by decide) ?_
            refine lv_icmp_ne (tgt := 61) hx hb dX1_foretell_51 (by decide) (fun c8 => ?_) (fun c8 => ?_)
            · have h := iq h c8
              refine lv_aload_n hx hb dX1_foretell_61 rfl (lv_at hl 0 rfl) ?_
              refine lv_iload_n hx hb dX1_foretell_62 rfl (lv_at hl 1 rfl) ?_
              refine lv_iconst (v := 0) hx hb dX1_foretell_63 (by decide) ?_
              obtain ⟨r9, hr9, h⟩ := ob h
              refine rowV (As := [.int p1, .int 0]) (rest := []) C (kX1_isLie l G b σ p1 0 r9 hr9) (cwV 2 hts gX1_foretell_X1_isLie rfl rfl rfl (by decide +kernel) ⟨Nat.le_of_ble_eq_true rfl, Nat.le_of_ble_eq_true rfl⟩) (rcv_X1 X hK) X rfl hl.1 rfl (Nat.le_of_ble_eq_true rfl) dX1_foretell_64 ⟨Nat.zero_le _, Nat.zero_le _⟩ ?_
              refine lv_if_eq (tgt := 88) hx hb dX1_foretell_67 (by decide) (fun c10 => ?_) (fun c10 => ?_)
              · have h := ip h c10
                refine lv_iconst (v := 0) hx hb dX1_foretell_88 (by decide) ?_
                have h := so h
                subst h
                exact W.iret hx hb hr (fun t ht _ => ⟨rfl, ht⟩) (fun q h => absurd h List.not_mem_nil) dX1_foretell_89
              · have h := iq h c10
                refine lv_aload_n hx hb dX1_foretell_70 rfl (lv_at hl 0 rfl) ?_
                refine gt_X1_0 C hin X 2 rfl dX1_foretell_71 ?_
                refine lv_iconst (v := 4) hx hb dX1_foretell_74 (by decide) ?_
                refine al_X1_0 (j := 4) C X rfl (by decide) dX1_foretell_75 ?_
                refine lv_aload_n hx hb dX1_foretell_76 rfl (lv_at hl 0 rfl) ?_
                refine lv_iload_n hx hb dX1_foretell_77 rfl (lv_at hl 1 rfl) ?_
                obtain ⟨r11, hr11, h⟩ := ob h
                refine rowV (As := [.int p1]) (rest := [.int (σ 0 4)]) C (kX1_wholeVouchers l G b σ p1 r11 hr11) (cwV 1 hts gX1_foretell_X1_wholeVouchers rfl rfl rfl (by decide +kernel) ⟨Nat.le_of_ble_eq_true rfl, Nat.le_of_ble_eq_true rfl⟩) (rcv_X1 X hK) X rfl hl.1 rfl (Nat.le_of_ble_eq_true rfl) dX1_foretell_78 ⟨Nat.zero_le _, Nat.zero_le _⟩ ?_
                obtain ⟨r12, hr12, h⟩ := ob h
                refine rowS (As := [.int r11]) (rest := [.int (σ 0 4)]) (B := fun _ => True) C (kJ6_bitCount_0f7a4 l G r11 r12 hr12) (va_cwS 1 hts gX1_foretell_J6_bitCount_0f7a4 rfl rfl rfl (by decide +kernel) ⟨Nat.le_of_ble_eq_true rfl, Nat.le_of_ble_eq_true rfl⟩) trivial rfl hl.1 rfl (Nat.le_of_ble_eq_true rfl) dX1_foretell_81 ⟨Nat.zero_le _, Nat.zero_le _⟩ ?_
                refine lv_imul hx hb dX1_foretell_84 ?_
                refine lv_goto (tgt := 89) hx hb dX1_foretell_85 (by decide) ?_
                have h := so h
                subst h
                exact W.iret hx hb hr (fun t ht _ => ⟨rfl, ht⟩) (fun q h => absurd h List.not_mem_nil) dX1_foretell_89
            · have h := ip h c8
              refine lv_aload_n hx hb dX1_foretell_54 rfl (lv_at hl 0 rfl) ?_
              refine lv_iload_n hx hb dX1_foretell_55 rfl (lv_at hl 1 rfl) ?_
              refine lv_iconst (v := 0) hx hb dX1_foretell_56 (by decide) ?_
              obtain ⟨r13, hr13, h⟩ := ob h
              refine rowV (As := [.int p1, .int 0]) (rest := []) C (kX1_ownFine l G b σ p1 0 r13 hr13) (cwV 2 hts gX1_foretell_X1_ownFine rfl rfl rfl (by decide +kernel) ⟨Nat.le_of_ble_eq_true rfl, Nat.le_of_ble_eq_true rfl⟩) (rcv_X1 X hK) X rfl hl.1 rfl (Nat.le_of_ble_eq_true rfl) dX1_foretell_57 ⟨Nat.zero_le _, Nat.zero_le _⟩ ?_
              have h := so h
              subst h
              exact W.iret hx hb hr (fun t ht _ => ⟨rfl, ht⟩) (fun q h => absurd h List.not_mem_nil) dX1_foretell_60
          · have h := ip h c7
            refine lv_aload_n hx hb dX1_foretell_40 rfl (lv_at hl 0 rfl) ?_
            refine lv_iload_n hx hb dX1_foretell_41 rfl (lv_at hl 1 rfl) ?_
            obtain ⟨r14, hr14, h⟩ := ob h
            refine rowV (As := [.int p1]) (rest := []) C (kX1_clearedIfHonest l G b σ p1 r14 hr14) (cwV 1 hts gX1_foretell_X1_clearedIfHonest rfl rfl rfl (by decide +kernel) ⟨Nat.le_of_ble_eq_true rfl, Nat.le_of_ble_eq_true rfl⟩) (rcv_X1 X hK) X rfl hl.1 rfl (Nat.le_of_ble_eq_true rfl) dX1_foretell_42 ⟨Nat.zero_le _, Nat.zero_le _⟩ ?_
            obtain ⟨r15, hr15, h⟩ := ob h
            refine rowS (As := [.int r14]) (rest := []) (B := fun _ => True) C (kJ6_bitCount_0f7a4 l G r14 r15 hr15) (va_cwS 1 hts gX1_foretell_J6_bitCount_0f7a4 rfl rfl rfl (by decide +kernel) ⟨Nat.le_of_ble_eq_true rfl, Nat.le_of_ble_eq_true rfl⟩) trivial rfl hl.1 rfl (Nat.le_of_ble_eq_true rfl) dX1_foretell_45 ⟨Nat.zero_le _, Nat.zero_le _⟩ ?_
            have h := so h
            subst h
            exact W.iret hx hb hr (fun t ht _ => ⟨rfl, ht⟩) (fun q h => absurd h List.not_mem_nil) dX1_foretell_48
        · have h := iq h c6
          refine lv_bipush (v := (-4)) hx hb dX1_foretell_33 (by decide) ?_
          have h := so h
          subst h
          exact W.iret hx hb hr (fun t ht _ => ⟨rfl, ht⟩) (fun q h => absurd h List.not_mem_nil) dX1_foretell_35
      · have h := iq h c4
        refine lv_bipush (v := (-2)) hx hb dX1_foretell_19 (by decide) ?_
        have h := so h
        subst h
        exact W.iret hx hb hr (fun t ht _ => ⟨rfl, ht⟩) (fun q h => absurd h List.not_mem_nil) dX1_foretell_21
  · have h := ip h c2
    refine lv_iconst (v := (-1)) hx hb dX1_foretell_8 (by decide) ?_
    have h := so h
    subst h
    exact W.iret hx hb hr (fun t ht _ => ⟨rfl, ht⟩) (fun q h => absurd h List.not_mem_nil) dX1_foretell_9

theorem in_X1_countEnds : ∀ w ∈ wsX10, w ∈ wsX1_countEnds := by decide +kernel
def fX1_countEnds_9 : Nat → St → Int32 → Int32 → Int32 → Option (Int32)
  | 0, _, _, _, _ => none
  | n + 1, σ, v1, v2, v3 => if (σ 6 0) ≤ v3 then ((fJ6_bitCount_0f7a4 (v1 &&& (v2 ^^^ (-1)))).bind (fun r3 => some r3)) else ((fX1_isIn v1 v3).bind (fun r4 => if r4 = 0 then (fX1_countEnds_9 n σ v1 v2 (v3 + 1)) else ((fX1_reachedFrom σ v3).bind (fun r6 => (fX1_bit v3).bind (fun r7 => fX1_countEnds_9 n σ v1 (v2 ||| (r6 &&& (r7 ^^^ (-1)))) (v3 + 1))))))
theorem fX1_countEnds_9_0 (σ : St) (v1 : Int32) (v2 : Int32) (v3 : Int32) : fX1_countEnds_9 0 σ v1 v2 v3 = none := rfl
theorem fX1_countEnds_9_s (n : Nat) (σ : St) (v1 : Int32) (v2 : Int32) (v3 : Int32) : fX1_countEnds_9 (n + 1) σ v1 v2 v3 = (if (σ 6 0) ≤ v3 then ((fJ6_bitCount_0f7a4 (v1 &&& (v2 ^^^ (-1)))).bind (fun r3 => some r3)) else ((fX1_isIn v1 v3).bind (fun r4 => if r4 = 0 then (fX1_countEnds_9 n σ v1 v2 (v3 + 1)) else ((fX1_reachedFrom σ v3).bind (fun r6 => (fX1_bit v3).bind (fun r7 => fX1_countEnds_9 n σ v1 (v2 ||| (r6 &&& (r7 ^^^ (-1)))) (v3 + 1))))))) := rfl
def fX1_countEnds (σ : St) : Option (Int32) := (fX1_waiting σ).bind (fun r1 => fX1_countEnds_9 1000 σ r1 0 0)
set_option maxHeartbeats 4000000 in
set_option maxRecDepth 100000 in
theorem kX1_countEnds (l : Launch) (G : Gx) (b : Nat) (σ : St) (r : Int32) (h : fX1_countEnds σ = some r) : Met l yX1_countEnds wsX1_countEnds (rmN 3) (pre G [.ref b] (hAt G b σ)) (QcRead r) 0 0 (fun _ => False) := by
  refine Met.ofW (cc := cX1_countEnds) (maxL := 4) (ret := (some .int)) (by decide) rfl ?_
  intro p e s m args below meth c s₁ B hml hv
  obtain ⟨rfl, X, hK⟩ := hv
  have hx := B.exec
  have hb := B.bytes
  have hr := B.returns
  have hts := atoms_spec (ws := wsX1_countEnds) B.pre
  have hown : s.vm.findClass RX1 = some m.cls := findClass_of_methodNamed B.named
  have hlocks := B.notSynchronized
  have C : Cx p m c cX1_countEnds 4 s _ wsX1_countEnds RX1 G := ⟨⟨hx, hb, hml, hown, hts⟩, hK⟩
  have hin : ∀ w ∈ wsX10, w ∈ wsX1_countEnds := in_X1_countEnds
  have hl := lv_entry ([.ref b]) (n := 4) (Nat.le_of_ble_eq_true rfl)
  rw [lg_entry_eq]
  generalize (lg_sl ([.ref b]) ++ List.replicate (4 - (lg_sl ([.ref b])).length) Slot.unset).toArray = ls at hl ⊢
  have hl : lv_has ls 4 [(0, .ref b)] := hl
  have loop9 : ∀ (n : Nat) (v1 : Int32) (v2 : Int32) (v3 : Int32) (ls : Array Slot), fX1_countEnds_9 n σ v1 v2 v3 = some r → lv_has ls 4 [(0, .ref b), (1, .int v1), (2, .int v2), (3, .int v3)] → W p l e (rmN 3) s m #[Value.ref b] below meth c s.heap [] 0 0 (MQ below (QcRead r) #[Value.ref b] s 0 0 (fun _ => False)) (F0 m 9 ls []) := by
    intro n
    induction n with
    | zero =>
      intro v1 v2 v3 ls h hl
      rw [fX1_countEnds_9_0] at h
      cases h
    | succ n ih =>
      intro v1 v2 v3 ls h hl
      rw [fX1_countEnds_9_s] at h
      refine lv_iload_n hx hb dX1_countEnds_9 rfl (lv_at hl 3 rfl) ?_
      refine lv_aload_n hx hb dX1_countEnds_10 rfl (lv_at hl 0 rfl) ?_
      refine gt_X1_6 C hin X 1 rfl dX1_countEnds_11 ?_
      refine lv_icmp_ge (tgt := 46) hx hb dX1_countEnds_14 (by decide) (fun c2 => ?_) (fun c2 => ?_)
      · have h := ip h c2
        refine lv_iload_n hx hb dX1_countEnds_46 rfl (lv_at hl 1 rfl) ?_
        refine lv_iload_n hx hb dX1_countEnds_47 rfl (lv_at hl 2 rfl) ?_
        refine lv_iconst (v := (-1)) hx hb dX1_countEnds_48 (by decide) ?_
        refine lv_ixor hx hb dX1_countEnds_49 ?_
        refine lv_iand hx hb dX1_countEnds_50 ?_
        obtain ⟨r3, hr3, h⟩ := ob h
        refine rowS (As := [.int (v1 &&& (v2 ^^^ (-1)))]) (rest := []) (B := fun _ => True) C (kJ6_bitCount_0f7a4 l G (v1 &&& (v2 ^^^ (-1))) r3 hr3) (va_cwS 1 hts gX1_countEnds_J6_bitCount_0f7a4 rfl rfl rfl (by decide +kernel) ⟨Nat.le_of_ble_eq_true rfl, Nat.le_of_ble_eq_true rfl⟩) trivial rfl hl.1 rfl (Nat.le_of_ble_eq_true rfl) dX1_countEnds_51 ⟨Nat.zero_le _, Nat.zero_le _⟩ ?_
        have h := so h
        subst h
        exact W.iret hx hb hr (fun t ht _ => ⟨rfl, ht⟩) (fun q h => absurd h List.not_mem_nil) dX1_countEnds_54
      · have h := iq h c2
        refine lv_iload_n hx hb dX1_countEnds_17 rfl (lv_at hl 1 rfl) ?_
        refine lv_iload_n hx hb dX1_countEnds_18 rfl (lv_at hl 3 rfl) ?_
        obtain ⟨r4, hr4, h⟩ := ob h
        refine rowS (As := [.int v1, .int v3]) (rest := []) (B := fun _ => True) C (kX1_isIn l G v1 v3 r4 hr4) (va_cwS 2 hts gX1_countEnds_X1_isIn rfl rfl rfl (by decide +kernel) ⟨Nat.le_of_ble_eq_true rfl, Nat.le_of_ble_eq_true rfl⟩) trivial rfl hl.1 rfl (Nat.le_of_ble_eq_true rfl) dX1_countEnds_19 ⟨Nat.zero_le _, Nat.zero_le _⟩ ?_
        refine lv_if_eq (tgt := 40) hx hb dX1_countEnds_22 (by decide) (fun c5 => ?_) (fun c5 => ?_)
        · have h := ip h c5
          refine lv_iinc (v := v3 + 1) (lv' := [(3, .int (v3 + 1)), (0, .ref b), (1, .int v1), (2, .int v2)]) hx hb dX1_countEnds_40 hl (k := 3) rfl rfl (by decide) rfl (fun ls hl => ?_)
          refine lv_goto (tgt := 9) hx hb dX1_countEnds_43 (by decide) ?_
          exact ih _ _ _ _ h (lv_sub hl [1, 2, 3, 0] rfl)
        · have h := iq h c5
          refine lv_iload_n hx hb dX1_countEnds_25 rfl (lv_at hl 2 rfl) ?_
          refine lv_aload_n hx hb dX1_countEnds_26 rfl (lv_at hl 0 rfl) ?_
          refine lv_iload_n hx hb dX1_countEnds_27 rfl (lv_at hl 3 rfl) ?_
          obtain ⟨r6, hr6, h⟩ := ob h
          refine rowV (As := [.int v3]) (rest := [.int v2]) C (kX1_reachedFrom l G b σ v3 r6 hr6) (cwV 1 hts gX1_countEnds_X1_reachedFrom rfl rfl rfl (by decide +kernel) ⟨Nat.le_of_ble_eq_true rfl, Nat.le_of_ble_eq_true rfl⟩) (rcv_X1 X hK) X rfl hl.1 rfl (Nat.le_of_ble_eq_true rfl) dX1_countEnds_28 ⟨Nat.zero_le _, Nat.zero_le _⟩ ?_
          refine lv_iload_n hx hb dX1_countEnds_31 rfl (lv_at hl 3 rfl) ?_
          obtain ⟨r7, hr7, h⟩ := ob h
          refine rowS (As := [.int v3]) (rest := [.int r6, .int v2]) (B := fun _ => True) C (kX1_bit l G v3 r7 hr7) (va_cwS 1 hts gX1_countEnds_X1_bit rfl rfl rfl (by decide +kernel) ⟨Nat.le_of_ble_eq_true rfl, Nat.le_of_ble_eq_true rfl⟩) trivial rfl hl.1 rfl (Nat.le_of_ble_eq_true rfl) dX1_countEnds_32 ⟨Nat.zero_le _, Nat.zero_le _⟩ ?_
          refine lv_iconst (v := (-1)) hx hb dX1_countEnds_35 (by decide) ?_
          refine lv_ixor hx hb dX1_countEnds_36 ?_
          refine lv_iand hx hb dX1_countEnds_37 ?_
          refine lv_ior hx hb dX1_countEnds_38 ?_
          refine lv_istore_n (lv' := [(2, .int (v2 ||| (r6 &&& (r7 ^^^ (-1))))), (0, .ref b), (1, .int v1), (3, .int v3)]) hx hb dX1_countEnds_39 rfl hl (by decide) rfl (fun ls hl => ?_)
          refine lv_iinc (v := v3 + 1) (lv' := [(3, .int (v3 + 1)), (2, .int (v2 ||| (r6 &&& (r7 ^^^ (-1))))), (0, .ref b), (1, .int v1)]) hx hb dX1_countEnds_40 hl (k := 3) rfl rfl (by decide) rfl (fun ls hl => ?_)
          refine lv_goto (tgt := 9) hx hb dX1_countEnds_43 (by decide) ?_
          exact ih _ _ _ _ h (lv_sub hl [2, 3, 1, 0] rfl)
  unfold fX1_countEnds at h
  refine lv_aload_n hx hb dX1_countEnds_0 rfl (lv_at hl 0 rfl) ?_
  obtain ⟨r1, hr1, h⟩ := ob h
  refine rowV (As := []) (rest := []) C (kX1_waiting l G b σ r1 hr1) (cwV 0 hts gX1_countEnds_X1_waiting rfl rfl rfl (by decide +kernel) ⟨Nat.le_of_ble_eq_true rfl, Nat.le_of_ble_eq_true rfl⟩) (rcv_X1 X hK) X rfl hl.1 rfl (Nat.le_of_ble_eq_true rfl) dX1_countEnds_1 ⟨Nat.zero_le _, Nat.zero_le _⟩ ?_
  refine lv_istore_n (lv' := [(1, .int r1), (0, .ref b)]) hx hb dX1_countEnds_4 rfl hl (by decide) rfl (fun ls hl => ?_)
  refine lv_iconst (v := 0) hx hb dX1_countEnds_5 (by decide) ?_
  refine lv_istore_n (lv' := [(2, .int 0), (1, .int r1), (0, .ref b)]) hx hb dX1_countEnds_6 rfl hl (by decide) rfl (fun ls hl => ?_)
  refine lv_iconst (v := 0) hx hb dX1_countEnds_7 (by decide) ?_
  refine lv_istore_n (lv' := [(3, .int 0), (2, .int 0), (1, .int r1), (0, .ref b)]) hx hb dX1_countEnds_8 rfl hl (by decide) rfl (fun ls hl => ?_)
  exact loop9 _ _ _ _ _ h (lv_sub hl [3, 2, 1, 0] rfl)

theorem in_X1_countHonestOpenings : ∀ w ∈ wsX10, w ∈ wsX1_countHonestOpenings := by decide +kernel
def fX1_countHonestOpenings_14 : Nat → St → Int32 → Int32 → Int32 → Option (Int32)
  | 0, _, _, _, _ => none
  | n + 1, σ, v1, v2, v3 => if v3 < 0 then (some v2) else ((fX1_isIn v1 v3).bind (fun r3 => if r3 = 0 then (fX1_countHonestOpenings_14 n σ v1 v2 (v3 + (-1))) else ((fX1_reachedFrom σ v3).bind (fun r5 => fX1_countHonestOpenings_14 n σ (v1 &&& (r5 ^^^ (-1))) (v2 + 1) (v3 + (-1))))))
theorem fX1_countHonestOpenings_14_0 (σ : St) (v1 : Int32) (v2 : Int32) (v3 : Int32) : fX1_countHonestOpenings_14 0 σ v1 v2 v3 = none := rfl
theorem fX1_countHonestOpenings_14_s (n : Nat) (σ : St) (v1 : Int32) (v2 : Int32) (v3 : Int32) : fX1_countHonestOpenings_14 (n + 1) σ v1 v2 v3 = (if v3 < 0 then (some v2) else ((fX1_isIn v1 v3).bind (fun r3 => if r3 = 0 then (fX1_countHonestOpenings_14 n σ v1 v2 (v3 + (-1))) else ((fX1_reachedFrom σ v3).bind (fun r5 => fX1_countHonestOpenings_14 n σ (v1 &&& (r5 ^^^ (-1))) (v2 + 1) (v3 + (-1))))))) := rfl
def fX1_countHonestOpenings (σ : St) : Option (Int32) := (fX1_waiting σ).bind (fun r1 => fX1_countHonestOpenings_14 1000 σ r1 0 ((σ 6 0) - 1))
set_option maxHeartbeats 4000000 in
set_option maxRecDepth 100000 in
theorem kX1_countHonestOpenings (l : Launch) (G : Gx) (b : Nat) (σ : St) (r : Int32) (h : fX1_countHonestOpenings σ = some r) : Met l yX1_countHonestOpenings wsX1_countHonestOpenings (rmN 3) (pre G [.ref b] (hAt G b σ)) (QcRead r) 0 0 (fun _ => False) := by
  refine Met.ofW (cc := cX1_countHonestOpenings) (maxL := 4) (ret := (some .int)) (by decide) rfl ?_
  intro p e s m args below meth c s₁ B hml hv
  obtain ⟨rfl, X, hK⟩ := hv
  have hx := B.exec
  have hb := B.bytes
  have hr := B.returns
  have hts := atoms_spec (ws := wsX1_countHonestOpenings) B.pre
  have hown : s.vm.findClass RX1 = some m.cls := findClass_of_methodNamed B.named
  have hlocks := B.notSynchronized
  have C : Cx p m c cX1_countHonestOpenings 4 s _ wsX1_countHonestOpenings RX1 G := ⟨⟨hx, hb, hml, hown, hts⟩, hK⟩
  have hin : ∀ w ∈ wsX10, w ∈ wsX1_countHonestOpenings := in_X1_countHonestOpenings
  have hl := lv_entry ([.ref b]) (n := 4) (Nat.le_of_ble_eq_true rfl)
  rw [lg_entry_eq]
  generalize (lg_sl ([.ref b]) ++ List.replicate (4 - (lg_sl ([.ref b])).length) Slot.unset).toArray = ls at hl ⊢
  have hl : lv_has ls 4 [(0, .ref b)] := hl
  have loop14 : ∀ (n : Nat) (v1 : Int32) (v2 : Int32) (v3 : Int32) (ls : Array Slot), fX1_countHonestOpenings_14 n σ v1 v2 v3 = some r → lv_has ls 4 [(0, .ref b), (1, .int v1), (2, .int v2), (3, .int v3)] → W p l e (rmN 3) s m #[Value.ref b] below meth c s.heap [] 0 0 (MQ below (QcRead r) #[Value.ref b] s 0 0 (fun _ => False)) (F0 m 14 ls []) := by
    intro n
    induction n with
    | zero =>
      intro v1 v2 v3 ls h hl
      rw [fX1_countHonestOpenings_14_0] at h
      cases h
    | succ n ih =>
      intro v1 v2 v3 ls h hl
      rw [fX1_countHonestOpenings_14_s] at h
      refine lv_iload_n hx hb dX1_countHonestOpenings_14 rfl (lv_at hl 3 rfl) ?_
      refine lv_if_lt (tgt := 45) hx hb dX1_countHonestOpenings_15 (by decide) (fun c2 => ?_) (fun c2 => ?_)
      · have h := ip h c2
        refine lv_iload_n hx hb dX1_countHonestOpenings_45 rfl (lv_at hl 2 rfl) ?_
        have h := so h
        subst h
        exact W.iret hx hb hr (fun t ht _ => ⟨rfl, ht⟩) (fun q h => absurd h List.not_mem_nil) dX1_countHonestOpenings_46
      · have h := iq h c2
        refine lv_iload_n hx hb dX1_countHonestOpenings_18 rfl (lv_at hl 1 rfl) ?_
        refine lv_iload_n hx hb dX1_countHonestOpenings_19 rfl (lv_at hl 3 rfl) ?_
        obtain ⟨r3, hr3, h⟩ := ob h
        refine rowS (As := [.int v1, .int v3]) (rest := []) (B := fun _ => True) C (kX1_isIn l G v1 v3 r3 hr3) (va_cwS 2 hts gX1_countHonestOpenings_X1_isIn rfl rfl rfl (by decide +kernel) ⟨Nat.le_of_ble_eq_true rfl, Nat.le_of_ble_eq_true rfl⟩) trivial rfl hl.1 rfl (Nat.le_of_ble_eq_true rfl) dX1_countHonestOpenings_20 ⟨Nat.zero_le _, Nat.zero_le _⟩ ?_
        refine lv_if_eq (tgt := 39) hx hb dX1_countHonestOpenings_23 (by decide) (fun c4 => ?_) (fun c4 => ?_)
        · have h := ip h c4
          refine lv_iinc (v := v3 + (-1)) (lv' := [(3, .int (v3 + (-1))), (0, .ref b), (1, .int v1), (2, .int v2)]) hx hb dX1_countHonestOpenings_39 hl (k := 3) rfl rfl (by decide) rfl (fun ls hl => ?_)
          refine lv_goto (tgt := 14) hx hb dX1_countHonestOpenings_42 (by decide) ?_
          exact ih _ _ _ _ h (lv_sub hl [1, 2, 3, 0] rfl)
        · have h := iq h c4
          refine lv_iload_n hx hb dX1_countHonestOpenings_26 rfl (lv_at hl 1 rfl) ?_
          refine lv_aload_n hx hb dX1_countHonestOpenings_27 rfl (lv_at hl 0 rfl) ?_
          refine lv_iload_n hx hb dX1_countHonestOpenings_28 rfl (lv_at hl 3 rfl) ?_
          obtain ⟨r5, hr5, h⟩ := ob h
          refine rowV (As := [.int v3]) (rest := [.int v1]) C (kX1_reachedFrom l G b σ v3 r5 hr5) (cwV 1 hts gX1_countHonestOpenings_X1_reachedFrom rfl rfl rfl (by decide +kernel) ⟨Nat.le_of_ble_eq_true rfl, Nat.le_of_ble_eq_true rfl⟩) (rcv_X1 X hK) X rfl hl.1 rfl (Nat.le_of_ble_eq_true rfl) dX1_countHonestOpenings_29 ⟨Nat.zero_le _, Nat.zero_le _⟩ ?_
          refine lv_iconst (v := (-1)) hx hb dX1_countHonestOpenings_32 (by decide) ?_
          refine lv_ixor hx hb dX1_countHonestOpenings_33 ?_
          refine lv_iand hx hb dX1_countHonestOpenings_34 ?_
          refine lv_istore_n (lv' := [(1, .int (v1 &&& (r5 ^^^ (-1)))), (0, .ref b), (2, .int v2), (3, .int v3)]) hx hb dX1_countHonestOpenings_35 rfl hl (by decide) rfl (fun ls hl => ?_)
          refine lv_iinc (v := v2 + 1) (lv' := [(2, .int (v2 + 1)), (1, .int (v1 &&& (r5 ^^^ (-1)))), (0, .ref b), (3, .int v3)]) hx hb dX1_countHonestOpenings_36 hl (k := 2) rfl rfl (by decide) rfl (fun ls hl => ?_)
          refine lv_iinc (v := v3 + (-1)) (lv' := [(3, .int (v3 + (-1))), (2, .int (v2 + 1)), (1, .int (v1 &&& (r5 ^^^ (-1)))), (0, .ref b)]) hx hb dX1_countHonestOpenings_39 hl (k := 3) rfl rfl (by decide) rfl (fun ls hl => ?_)
          refine lv_goto (tgt := 14) hx hb dX1_countHonestOpenings_42 (by decide) ?_
          exact ih _ _ _ _ h (lv_sub hl [3, 2, 1, 0] rfl)
  unfold fX1_countHonestOpenings at h
  refine lv_aload_n hx hb dX1_countHonestOpenings_0 rfl (lv_at hl 0 rfl) ?_
  obtain ⟨r1, hr1, h⟩ := ob h
  refine rowV (As := []) (rest := []) C (kX1_waiting l G b σ r1 hr1) (cwV 0 hts gX1_countHonestOpenings_X1_waiting rfl rfl rfl (by decide +kernel) ⟨Nat.le_of_ble_eq_true rfl, Nat.le_of_ble_eq_true rfl⟩) (rcv_X1 X hK) X rfl hl.1 rfl (Nat.le_of_ble_eq_true rfl) dX1_countHonestOpenings_1 ⟨Nat.zero_le _, Nat.zero_le _⟩ ?_
  refine lv_istore_n (lv' := [(1, .int r1), (0, .ref b)]) hx hb dX1_countHonestOpenings_4 rfl hl (by decide) rfl (fun ls hl => ?_)
  refine lv_iconst (v := 0) hx hb dX1_countHonestOpenings_5 (by decide) ?_
  refine lv_istore_n (lv' := [(2, .int 0), (1, .int r1), (0, .ref b)]) hx hb dX1_countHonestOpenings_6 rfl hl (by decide) rfl (fun ls hl => ?_)
  refine lv_aload_n hx hb dX1_countHonestOpenings_7 rfl (lv_at hl 2 rfl) ?_
  refine gt_X1_6 C hin X 1 rfl dX1_countHonestOpenings_8 ?_
  refine lv_iconst (v := 1) hx hb dX1_countHonestOpenings_11 (by decide) ?_
  refine lv_isub hx hb dX1_countHonestOpenings_12 ?_
  refine lv_istore_n (lv' := [(3, .int ((σ 6 0) - 1)), (2, .int 0), (1, .int r1), (0, .ref b)]) hx hb dX1_countHonestOpenings_13 rfl hl (by decide) rfl (fun ls hl => ?_)
  exact loop14 _ _ _ _ _ h (lv_sub hl [3, 2, 1, 0] rfl)

theorem in_X1_mostClearing : ∀ w ∈ wsX10, w ∈ wsX1_mostClearing := by decide +kernel
def fX1_mostClearing_7 : Nat → St → Int32 → Int32 → Int32 → Option (Int32)
  | 0, _, _, _, _ => none
  | n + 1, σ, v1, v2, v3 => if (σ 6 0) ≤ v3 then (some v1) else ((fX1_clearedIfHonest σ v3).bind (fun r2 => (fJ6_bitCount_0f7a4 r2).bind (fun r3 => (fX1_isIn (σ 7 0) v3).bind (fun r4 => if r4 = 0 then (if r3 ≤ v2 then (fX1_mostClearing_7 n σ v1 v2 (v3 + 1)) else (fX1_mostClearing_7 n σ v3 r3 (v3 + 1))) else (fX1_mostClearing_7 n σ v1 v2 (v3 + 1))))))
theorem fX1_mostClearing_7_0 (σ : St) (v1 : Int32) (v2 : Int32) (v3 : Int32) : fX1_mostClearing_7 0 σ v1 v2 v3 = none := rfl
theorem fX1_mostClearing_7_s (n : Nat) (σ : St) (v1 : Int32) (v2 : Int32) (v3 : Int32) : fX1_mostClearing_7 (n + 1) σ v1 v2 v3 = (if (σ 6 0) ≤ v3 then (some v1) else ((fX1_clearedIfHonest σ v3).bind (fun r2 => (fJ6_bitCount_0f7a4 r2).bind (fun r3 => (fX1_isIn (σ 7 0) v3).bind (fun r4 => if r4 = 0 then (if r3 ≤ v2 then (fX1_mostClearing_7 n σ v1 v2 (v3 + 1)) else (fX1_mostClearing_7 n σ v3 r3 (v3 + 1))) else (fX1_mostClearing_7 n σ v1 v2 (v3 + 1))))))) := rfl
def fX1_mostClearing (σ : St) : Option (Int32) := fX1_mostClearing_7 1000 σ (-5) (-1) 0
set_option maxHeartbeats 4000000 in
set_option maxRecDepth 100000 in
theorem kX1_mostClearing (l : Launch) (G : Gx) (b : Nat) (σ : St) (r : Int32) (h : fX1_mostClearing σ = some r) : Met l yX1_mostClearing wsX1_mostClearing (rmN 4) (pre G [.ref b] (hAt G b σ)) (QcRead r) 0 0 (fun _ => False) := by
  refine Met.ofW (cc := cX1_mostClearing) (maxL := 5) (ret := (some .int)) (by decide) rfl ?_
  intro p e s m args below meth c s₁ B hml hv
  obtain ⟨rfl, X, hK⟩ := hv
  have hx := B.exec
  have hb := B.bytes
  have hr := B.returns
  have hts := atoms_spec (ws := wsX1_mostClearing) B.pre
  have hown : s.vm.findClass RX1 = some m.cls := findClass_of_methodNamed B.named
  have hlocks := B.notSynchronized
  have C : Cx p m c cX1_mostClearing 5 s _ wsX1_mostClearing RX1 G := ⟨⟨hx, hb, hml, hown, hts⟩, hK⟩
  have hin : ∀ w ∈ wsX10, w ∈ wsX1_mostClearing := in_X1_mostClearing
  have hl := lv_entry ([.ref b]) (n := 5) (Nat.le_of_ble_eq_true rfl)
  rw [lg_entry_eq]
  generalize (lg_sl ([.ref b]) ++ List.replicate (5 - (lg_sl ([.ref b])).length) Slot.unset).toArray = ls at hl ⊢
  have hl : lv_has ls 5 [(0, .ref b)] := hl
  have loop7 : ∀ (n : Nat) (v1 : Int32) (v2 : Int32) (v3 : Int32) (ls : Array Slot), fX1_mostClearing_7 n σ v1 v2 v3 = some r → lv_has ls 5 [(0, .ref b), (1, .int v1), (2, .int v2), (3, .int v3)] → W p l e (rmN 4) s m #[Value.ref b] below meth c s.heap [] 0 0 (MQ below (QcRead r) #[Value.ref b] s 0 0 (fun _ => False)) (F0 m 7 ls []) := by
    intro n
    induction n with
    | zero =>
      intro v1 v2 v3 ls h hl
      rw [fX1_mostClearing_7_0] at h
      cases h
    | succ n ih =>
      intro v1 v2 v3 ls h hl
      rw [fX1_mostClearing_7_s] at h
      refine lv_iload_n hx hb dX1_mostClearing_7 rfl (lv_at hl 3 rfl) ?_
      refine lv_aload_n hx hb dX1_mostClearing_8 rfl (lv_at hl 0 rfl) ?_
      refine gt_X1_6 C hin X 1 rfl dX1_mostClearing_9 ?_
      refine lv_icmp_ge (tgt := 53) hx hb dX1_mostClearing_12 (by decide) (fun c1 => ?_) (fun c1 => ?_)
      · have h := ip h c1
        refine lv_iload_n hx hb dX1_mostClearing_53 rfl (lv_at hl 1 rfl) ?_
        have h := so h
        subst h
        exact W.iret hx hb hr (fun t ht _ => ⟨rfl, ht⟩) (fun q h => absurd h List.not_mem_nil) dX1_mostClearing_54
      · have h := iq h c1
        refine lv_aload_n hx hb dX1_mostClearing_15 rfl (lv_at hl 0 rfl) ?_
        refine lv_iload_n hx hb dX1_mostClearing_16 rfl (lv_at hl 3 rfl) ?_
        obtain ⟨r2, hr2, h⟩ := ob h
        refine rowV (As := [.int v3]) (rest := []) C (kX1_clearedIfHonest l G b σ v3 r2 hr2) (cwV 1 hts gX1_mostClearing_X1_clearedIfHonest rfl rfl rfl (by decide +kernel) ⟨Nat.le_of_ble_eq_true rfl, Nat.le_of_ble_eq_true rfl⟩) (rcv_X1 X hK) X rfl hl.1 rfl (Nat.le_of_ble_eq_true rfl) dX1_mostClearing_17 ⟨Nat.zero_le _, Nat.zero_le _⟩ ?_
        obtain ⟨r3, hr3, h⟩ := ob h
        refine rowS (As := [.int r2]) (rest := []) (B := fun _ => True) C (kJ6_bitCount_0f7a4 l G r2 r3 hr3) (va_cwS 1 hts gX1_mostClearing_J6_bitCount_0f7a4 rfl rfl rfl (by decide +kernel) ⟨Nat.le_of_ble_eq_true rfl, Nat.le_of_ble_eq_true rfl⟩) trivial rfl hl.1 rfl (Nat.le_of_ble_eq_true rfl) dX1_mostClearing_20 ⟨Nat.zero_le _, Nat.zero_le _⟩ ?_
        refine lv_istore (lv' := [(4, .int r3), (0, .ref b), (1, .int v1), (2, .int v2), (3, .int v3)]) hx hb dX1_mostClearing_23 hl (by decide) rfl (fun ls hl => ?_)
        refine lv_aload_n hx hb dX1_mostClearing_25 rfl (lv_at hl 1 rfl) ?_
        refine gt_X1_7 C hin X 2 rfl dX1_mostClearing_26 ?_
        refine lv_iload_n hx hb dX1_mostClearing_29 rfl (lv_at hl 4 rfl) ?_
        obtain ⟨r4, hr4, h⟩ := ob h
        refine rowS (As := [.int (σ 7 0), .int v3]) (rest := []) (B := fun _ => True) C (kX1_isIn l G (σ 7 0) v3 r4 hr4) (va_cwS 2 hts gX1_mostClearing_X1_isIn rfl rfl rfl (by decide +kernel) ⟨Nat.le_of_ble_eq_true rfl, Nat.le_of_ble_eq_true rfl⟩) trivial rfl hl.1 rfl (Nat.le_of_ble_eq_true rfl) dX1_mostClearing_30 ⟨Nat.zero_le _, Nat.zero_le _⟩ ?_
        refine lv_if_ne (tgt := 47) hx hb dX1_mostClearing_33 (by decide) (fun c5 => ?_) (fun c5 => ?_)
        · have h := iq h c5
          refine lv_iinc (v := v3 + 1) (lv' := [(3, .int (v3 + 1)), (4, .int r3), (0, .ref b), (1, .int v1), (2, .int v2)]) hx hb dX1_mostClearing_47 hl (k := 4) rfl rfl (by decide) rfl (fun ls hl => ?_)
          refine lv_goto (tgt := 7) hx hb dX1_mostClearing_50 (by decide) ?_
          exact ih _ _ _ _ h (lv_sub hl [2, 3, 4, 0] rfl)
        · have h := ip h c5
          refine lv_iload hx hb dX1_mostClearing_36 (lv_at hl 0 rfl) ?_
          refine lv_iload_n hx hb dX1_mostClearing_38 rfl (lv_at hl 3 rfl) ?_
          refine lv_icmp_le (tgt := 47) hx hb dX1_mostClearing_39 (by decide) (fun c6 => ?_) (fun c6 => ?_)
          · have h := ip h c6
            refine lv_iinc (v := v3 + 1) (lv' := [(3, .int (v3 + 1)), (4, .int r3), (0, .ref b), (1, .int v1), (2, .int v2)]) hx hb dX1_mostClearing_47 hl (k := 4) rfl rfl (by decide) rfl (fun ls hl => ?_)
            refine lv_goto (tgt := 7) hx hb dX1_mostClearing_50 (by decide) ?_
            exact ih _ _ _ _ h (lv_sub hl [2, 3, 4, 0] rfl)
          · have h := iq h c6
            refine lv_iload_n hx hb dX1_mostClearing_42 rfl (lv_at hl 4 rfl) ?_
            refine lv_istore_n (lv' := [(1, .int v3), (4, .int r3), (0, .ref b), (2, .int v2), (3, .int v3)]) hx hb dX1_mostClearing_43 rfl hl (by decide) rfl (fun ls hl => ?_)
            refine lv_iload hx hb dX1_mostClearing_44 (lv_at hl 1 rfl) ?_
            refine lv_istore_n (lv' := [(2, .int r3), (1, .int v3), (4, .int r3), (0, .ref b), (3, .int v3)]) hx hb dX1_mostClearing_46 rfl hl (by decide) rfl (fun ls hl => ?_)
            refine lv_iinc (v := v3 + 1) (lv' := [(3, .int (v3 + 1)), (2, .int r3), (1, .int v3), (4, .int r3), (0, .ref b)]) hx hb dX1_mostClearing_47 hl (k := 4) rfl rfl (by decide) rfl (fun ls hl => ?_)
            refine lv_goto (tgt := 7) hx hb dX1_mostClearing_50 (by decide) ?_
            exact ih _ _ _ _ h (lv_sub hl [4, 2, 1, 0] rfl)
  unfold fX1_mostClearing at h
  refine lv_bipush (v := (-5)) hx hb dX1_mostClearing_0 (by decide) ?_
  refine lv_istore_n (lv' := [(1, .int (-5)), (0, .ref b)]) hx hb dX1_mostClearing_2 rfl hl (by decide) rfl (fun ls hl => ?_)
  refine lv_iconst (v := (-1)) hx hb dX1_mostClearing_3 (by decide) ?_
  refine lv_istore_n (lv' := [(2, .int (-1)), (1, .int (-5)), (0, .ref b)]) hx hb dX1_mostClearing_4 rfl hl (by decide) rfl (fun ls hl => ?_)
  refine lv_iconst (v := 0) hx hb dX1_mostClearing_5 (by decide) ?_
  refine lv_istore_n (lv' := [(3, .int 0), (2, .int (-1)), (1, .int (-5)), (0, .ref b)]) hx hb dX1_mostClearing_6 rfl hl (by decide) rfl (fun ls hl => ?_)
  exact loop7 _ _ _ _ _ h (lv_sub hl [3, 2, 1, 0] rfl)

theorem in_X1_otherClaimForSeal : ∀ w ∈ wsX10, w ∈ wsX1_otherClaimForSeal := by decide +kernel
def fX1_otherClaimForSeal_18 : Nat → St → Int32 → Int32 → Int32 → Option (Int32)
  | 0, _, _, _, _ => none
  | n + 1, σ, v1, v2, v3 => if 99 < v3 then (some (-5)) else (if oob v1 24 then none else if v3 = (σ 1 v1.toNatClampNeg) then (fX1_otherClaimForSeal_18 n σ v1 v2 (v3 + 1)) else ((fX1_sealFor σ v1 v3).bind (fun r7 => if r7 = v2 then (some v3) else (fX1_otherClaimForSeal_18 n σ v1 v2 (v3 + 1)))))
theorem fX1_otherClaimForSeal_18_0 (σ : St) (v1 : Int32) (v2 : Int32) (v3 : Int32) : fX1_otherClaimForSeal_18 0 σ v1 v2 v3 = none := rfl
theorem fX1_otherClaimForSeal_18_s (n : Nat) (σ : St) (v1 : Int32) (v2 : Int32) (v3 : Int32) : fX1_otherClaimForSeal_18 (n + 1) σ v1 v2 v3 = (if 99 < v3 then (some (-5)) else (if oob v1 24 then none else if v3 = (σ 1 v1.toNatClampNeg) then (fX1_otherClaimForSeal_18 n σ v1 v2 (v3 + 1)) else ((fX1_sealFor σ v1 v3).bind (fun r7 => if r7 = v2 then (some v3) else (fX1_otherClaimForSeal_18 n σ v1 v2 (v3 + 1)))))) := rfl
def fX1_otherClaimForSeal (σ : St) (p1 : Int32) : Option (Int32) := (fX1_knows σ p1).bind (fun r1 => if r1 = 0 then (some (-1)) else ((fX1_rightSeal σ p1).bind (fun r3 => fX1_otherClaimForSeal_18 1000 σ p1 r3 0)))
set_option maxHeartbeats 4000000 in
set_option maxRecDepth 100000 in
theorem kX1_otherClaimForSeal (l : Launch) (G : Gx) (b : Nat) (σ : St) (p1 : Int32) (r : Int32) (h : fX1_otherClaimForSeal σ p1 = some r) : Met l yX1_otherClaimForSeal wsX1_otherClaimForSeal (rmN 2) (pre G [.ref b, .int p1] (hAt G b σ)) (QcRead r) 0 0 (fun _ => False) := by
  refine Met.ofW (cc := cX1_otherClaimForSeal) (maxL := 4) (ret := (some .int)) (by decide) rfl ?_
  intro p e s m args below meth c s₁ B hml hv
  obtain ⟨rfl, X, hK⟩ := hv
  have hx := B.exec
  have hb := B.bytes
  have hr := B.returns
  have hts := atoms_spec (ws := wsX1_otherClaimForSeal) B.pre
  have hown : s.vm.findClass RX1 = some m.cls := findClass_of_methodNamed B.named
  have hlocks := B.notSynchronized
  have C : Cx p m c cX1_otherClaimForSeal 4 s _ wsX1_otherClaimForSeal RX1 G := ⟨⟨hx, hb, hml, hown, hts⟩, hK⟩
  have hin : ∀ w ∈ wsX10, w ∈ wsX1_otherClaimForSeal := in_X1_otherClaimForSeal
  have hl := lv_entry ([.ref b, .int p1]) (n := 4) (Nat.le_of_ble_eq_true rfl)
  rw [lg_entry_eq]
  generalize (lg_sl ([.ref b, .int p1]) ++ List.replicate (4 - (lg_sl ([.ref b, .int p1])).length) Slot.unset).toArray = ls at hl ⊢
  have hl : lv_has ls 4 [(0, .ref b), (1, .int p1)] := hl
  have loop18 : ∀ (n : Nat) (v1 : Int32) (v2 : Int32) (v3 : Int32) (ls : Array Slot), fX1_otherClaimForSeal_18 n σ v1 v2 v3 = some r → lv_has ls 4 [(0, .ref b), (1, .int v1), (2, .int v2), (3, .int v3)] → W p l e (rmN 2) s m #[Value.ref b, Value.int p1] below meth c s.heap [] 0 0 (MQ below (QcRead r) #[Value.ref b, Value.int p1] s 0 0 (fun _ => False)) (F0 m 18 ls []) := by
    intro n
    induction n with
    | zero =>
      intro v1 v2 v3 ls h hl
      rw [fX1_otherClaimForSeal_18_0] at h
      cases h
    | succ n ih =>
      intro v1 v2 v3 ls h hl
      rw [fX1_otherClaimForSeal_18_s] at h
      refine lv_iload_n hx hb dX1_otherClaimForSeal_18 rfl (lv_at hl 3 rfl) ?_
      refine lv_bipush (v := 99) hx hb dX1_otherClaimForSeal_19 (by decide) ?_
      refine lv_icmp_gt (tgt := 52) hx hb dX1_otherClaimForSeal_21 (by decide) (fun c4 => ?_) (fun c4 => ?_)
      · have h := ip h c4
        refine lv_bipush (v := (-5)) hx hb dX1_otherClaimForSeal_52 (by decide) ?_
        have h := so h
        subst h
        exact W.iret hx hb hr (fun t ht _ => ⟨rfl, ht⟩) (fun q h => absurd h List.not_mem_nil) dX1_otherClaimForSeal_54
      · have h := iq h c4
        refine lv_iload_n hx hb dX1_otherClaimForSeal_24 rfl (lv_at hl 3 rfl) ?_
        refine lv_aload_n hx hb dX1_otherClaimForSeal_25 rfl (lv_at hl 0 rfl) ?_
        refine gt_X1_1 C hin X 1 rfl dX1_otherClaimForSeal_26 ?_
        refine lv_iload_n hx hb dX1_otherClaimForSeal_29 rfl (lv_at hl 1 rfl) ?_
        obtain ⟨c5, h⟩ := og h
        refine al_X1_1 C X rfl c5 dX1_otherClaimForSeal_30 ?_
        refine lv_icmp_eq (tgt := 46) hx hb dX1_otherClaimForSeal_31 (by decide) (fun c6 => ?_) (fun c6 => ?_)
        · have h := ip h c6
          refine lv_iinc (v := v3 + 1) (lv' := [(3, .int (v3 + 1)), (0, .ref b), (1, .int v1), (2, .int v2)]) hx hb dX1_otherClaimForSeal_46 hl (k := 3) rfl rfl (by decide) rfl (fun ls hl => ?_)
          refine lv_goto (tgt := 18) hx hb dX1_otherClaimForSeal_49 (by decide) ?_
          exact ih _ _ _ _ h (lv_sub hl [1, 2, 3, 0] rfl)
        · have h := iq h c6
          refine lv_aload_n hx hb dX1_otherClaimForSeal_34 rfl (lv_at hl 0 rfl) ?_
          refine lv_iload_n hx hb dX1_otherClaimForSeal_35 rfl (lv_at hl 1 rfl) ?_
          refine lv_iload_n hx hb dX1_otherClaimForSeal_36 rfl (lv_at hl 3 rfl) ?_
          obtain ⟨r7, hr7, h⟩ := ob h
          refine rowV (As := [.int v1, .int v3]) (rest := []) C (kX1_sealFor l G b σ v1 v3 r7 hr7) (cwV 2 hts gX1_otherClaimForSeal_X1_sealFor rfl rfl rfl (by decide +kernel) ⟨Nat.le_of_ble_eq_true rfl, Nat.le_of_ble_eq_true rfl⟩) (rcv_X1 X hK) X rfl hl.1 rfl (Nat.le_of_ble_eq_true rfl) dX1_otherClaimForSeal_37 ⟨Nat.zero_le _, Nat.zero_le _⟩ ?_
          refine lv_iload_n hx hb dX1_otherClaimForSeal_40 rfl (lv_at hl 2 rfl) ?_
          refine lv_icmp_ne (tgt := 46) hx hb dX1_otherClaimForSeal_41 (by decide) (fun c8 => ?_) (fun c8 => ?_)
          · have h := iq h c8
            refine lv_iinc (v := v3 + 1) (lv' := [(3, .int (v3 + 1)), (0, .ref b), (1, .int v1), (2, .int v2)]) hx hb dX1_otherClaimForSeal_46 hl (k := 3) rfl rfl (by decide) rfl (fun ls hl => ?_)
            refine lv_goto (tgt := 18) hx hb dX1_otherClaimForSeal_49 (by decide) ?_
            exact ih _ _ _ _ h (lv_sub hl [1, 2, 3, 0] rfl)
          · have h := ip h c8
            refine lv_iload_n hx hb dX1_otherClaimForSeal_44 rfl (lv_at hl 3 rfl) ?_
            have h := so h
            subst h
            exact W.iret hx hb hr (fun t ht _ => ⟨rfl, ht⟩) (fun q h => absurd h List.not_mem_nil) dX1_otherClaimForSeal_45
  unfold fX1_otherClaimForSeal at h
  refine lv_aload_n hx hb dX1_otherClaimForSeal_0 rfl (lv_at hl 0 rfl) ?_
  refine lv_iload_n hx hb dX1_otherClaimForSeal_1 rfl (lv_at hl 1 rfl) ?_
  obtain ⟨r1, hr1, h⟩ := ob h
  refine rowV (As := [.int p1]) (rest := []) C (kX1_knows l G b σ p1 r1 hr1) (cwV 1 hts gX1_otherClaimForSeal_X1_knows rfl rfl rfl (by decide +kernel) ⟨Nat.le_of_ble_eq_true rfl, Nat.le_of_ble_eq_true rfl⟩) (rcv_X1 X hK) X rfl hl.1 rfl (Nat.le_of_ble_eq_true rfl) dX1_otherClaimForSeal_2 ⟨Nat.zero_le _, Nat.zero_le _⟩ ?_
  refine lv_if_ne (tgt := 10) hx hb dX1_otherClaimForSeal_5 (by decide) (fun c2 => ?_) (fun c2 => ?_)
  · have h := iq h c2
    refine lv_aload_n hx hb dX1_otherClaimForSeal_10 rfl (lv_at hl 0 rfl) ?_
    refine lv_iload_n hx hb dX1_otherClaimForSeal_11 rfl (lv_at hl 1 rfl) ?_
    obtain ⟨r3, hr3, h⟩ := ob h
    refine rowV (As := [.int p1]) (rest := []) C (kX1_rightSeal l G b σ p1 r3 hr3) (cwV 1 hts gX1_otherClaimForSeal_X1_rightSeal rfl rfl rfl (by decide +kernel) ⟨Nat.le_of_ble_eq_true rfl, Nat.le_of_ble_eq_true rfl⟩) (rcv_X1 X hK) X rfl hl.1 rfl (Nat.le_of_ble_eq_true rfl) dX1_otherClaimForSeal_12 ⟨Nat.zero_le _, Nat.zero_le _⟩ ?_
    refine lv_istore_n (lv' := [(2, .int r3), (0, .ref b), (1, .int p1)]) hx hb dX1_otherClaimForSeal_15 rfl hl (by decide) rfl (fun ls hl => ?_)
    refine lv_iconst (v := 0) hx hb dX1_otherClaimForSeal_16 (by decide) ?_
    refine lv_istore_n (lv' := [(3, .int 0), (2, .int r3), (0, .ref b), (1, .int p1)]) hx hb dX1_otherClaimForSeal_17 rfl hl (by decide) rfl (fun ls hl => ?_)
    exact loop18 _ _ _ _ _ h (lv_sub hl [2, 3, 1, 0] rfl)
  · have h := ip h c2
    refine lv_iconst (v := (-1)) hx hb dX1_otherClaimForSeal_8 (by decide) ?_
    have h := so h
    subst h
    exact W.iret hx hb hr (fun t ht _ => ⟨rfl, ht⟩) (fun q h => absurd h List.not_mem_nil) dX1_otherClaimForSeal_9
