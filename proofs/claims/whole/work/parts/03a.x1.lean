def fJ6_bitCount_0f7a4 (p1 : Int32) : Option (Int32) := some ((((((((p1 - (((p1.toUInt32 >>> ((1 : Int32).toUInt32 &&& Int32.toUInt32 31)).toInt32) &&& 1431655765)) &&& 858993459) + ((((p1 - (((p1.toUInt32 >>> ((1 : Int32).toUInt32 &&& Int32.toUInt32 31)).toInt32) &&& 1431655765)).toUInt32 >>> ((2 : Int32).toUInt32 &&& Int32.toUInt32 31)).toInt32) &&& 858993459)) + (((((p1 - (((p1.toUInt32 >>> ((1 : Int32).toUInt32 &&& Int32.toUInt32 31)).toInt32) &&& 1431655765)) &&& 858993459) + ((((p1 - (((p1.toUInt32 >>> ((1 : Int32).toUInt32 &&& Int32.toUInt32 31)).toInt32) &&& 1431655765)).toUInt32 >>> ((2 : Int32).toUInt32 &&& Int32.toUInt32 31)).toInt32) &&& 858993459)).toUInt32 >>> ((4 : Int32).toUInt32 &&& Int32.toUInt32 31)).toInt32)) &&& 252645135) + (((((((p1 - (((p1.toUInt32 >>> ((1 : Int32).toUInt32 &&& Int32.toUInt32 31)).toInt32) &&& 1431655765)) &&& 858993459) + ((((p1 - (((p1.toUInt32 >>> ((1 : Int32).toUInt32 &&& Int32.toUInt32 31)).toInt32) &&& 1431655765)).toUInt32 >>> ((2 : Int32).toUInt32 &&& Int32.toUInt32 31)).toInt32) &&& 858993459)) + (((((p1 - (((p1.toUInt32 >>> ((1 : Int32).toUInt32 &&& Int32.toUInt32 31)).toInt32) &&& 1431655765)) &&& 858993459) + ((((p1 - (((p1.toUInt32 >>> ((1 : Int32).toUInt32 &&& Int32.toUInt32 31)).toInt32) &&& 1431655765)).toUInt32 >>> ((2 : Int32).toUInt32 &&& Int32.toUInt32 31)).toInt32) &&& 858993459)).toUInt32 >>> ((4 : Int32).toUInt32 &&& Int32.toUInt32 31)).toInt32)) &&& 252645135).toUInt32 >>> ((8 : Int32).toUInt32 &&& Int32.toUInt32 31)).toInt32)) + ((((((((p1 - (((p1.toUInt32 >>> ((1 : Int32).toUInt32 &&& Int32.toUInt32 31)).toInt32) &&& 1431655765)) &&& 858993459) + ((((p1 - (((p1.toUInt32 >>> ((1 : Int32).toUInt32 &&& Int32.toUInt32 31)).toInt32) &&& 1431655765)).toUInt32 >>> ((2 : Int32).toUInt32 &&& Int32.toUInt32 31)).toInt32) &&& 858993459)) + (((((p1 - (((p1.toUInt32 >>> ((1 : Int32).toUInt32 &&& Int32.toUInt32 31)).toInt32) &&& 1431655765)) &&& 858993459) + ((((p1 - (((p1.toUInt32 >>> ((1 : Int32).toUInt32 &&& Int32.toUInt32 31)).toInt32) &&& 1431655765)).toUInt32 >>> ((2 : Int32).toUInt32 &&& Int32.toUInt32 31)).toInt32) &&& 858993459)).toUInt32 >>> ((4 : Int32).toUInt32 &&& Int32.toUInt32 31)).toInt32)) &&& 252645135) + (((((((p1 - (((p1.toUInt32 >>> ((1 : Int32).toUInt32 &&& Int32.toUInt32 31)).toInt32) &&& 1431655765)) &&& 858993459) + ((((p1 - (((p1.toUInt32 >>> ((1 : Int32).toUInt32 &&& Int32.toUInt32 31)).toInt32) &&& 1431655765)).toUInt32 >>> ((2 : Int32).toUInt32 &&& Int32.toUInt32 31)).toInt32) &&& 858993459)) + (((((p1 - (((p1.toUInt32 >>> ((1 : Int32).toUInt32 &&& Int32.toUInt32 31)).toInt32) &&& 1431655765)) &&& 858993459) + ((((p1 - (((p1.toUInt32 >>> ((1 : Int32).toUInt32 &&& Int32.toUInt32 31)).toInt32) &&& 1431655765)).toUInt32 >>> ((2 : Int32).toUInt32 &&& Int32.toUInt32 31)).toInt32) &&& 858993459)).toUInt32 >>> ((4 : Int32).toUInt32 &&& Int32.toUInt32 31)).toInt32)) &&& 252645135).toUInt32 >>> ((8 : Int32).toUInt32 &&& Int32.toUInt32 31)).toInt32)).toUInt32 >>> ((16 : Int32).toUInt32 &&& Int32.toUInt32 31)).toInt32)) &&& 63)
set_option maxHeartbeats 4000000 in
set_option maxRecDepth 100000 in
theorem kJ6_bitCount_0f7a4 (l : Launch) (G : Gx) (p1 : Int32) (r : Int32) (h : fJ6_bitCount_0f7a4 p1 = some r) : Met l yJ6_bitCount_0f7a4 wsJ6_bitCount_0f7a4 (rmN 0) (pre G [.int p1] (fun _ => True)) (QcRead r) 0 0 (fun _ => False) := by
  refine Met.ofW (cc := cJ6_bitCount_0f7a4) (maxL := 1) (ret := (some .int)) (by decide) rfl ?_
  intro p e s m args below meth c s₁ B hml hv
  obtain ⟨rfl, -, hK⟩ := hv
  have hx := B.exec
  have hb := B.bytes
  have hr := B.returns
  have hts := atoms_spec (ws := wsJ6_bitCount_0f7a4) B.pre
  have hown : s.vm.findClass RJ6 = some m.cls := findClass_of_methodNamed B.named
  have hlocks := B.notSynchronized
  have C : Cx p m c cJ6_bitCount_0f7a4 1 s _ wsJ6_bitCount_0f7a4 RJ6 G := ⟨⟨hx, hb, hml, hown, hts⟩, hK⟩
  have hl := lv_entry ([.int p1]) (n := 1) (Nat.le_of_ble_eq_true rfl)
  rw [lg_entry_eq]
  generalize (lg_sl ([.int p1]) ++ List.replicate (1 - (lg_sl ([.int p1])).length) Slot.unset).toArray = ls at hl ⊢
  have hl : lv_has ls 1 [(0, .int p1)] := hl
  unfold fJ6_bitCount_0f7a4 at h
  refine lv_iload_n hx hb dJ6_bitCount_0f7a4_0 rfl (lv_at hl 0 rfl) ?_
  refine lv_iload_n hx hb dJ6_bitCount_0f7a4_1 rfl (lv_at hl 0 rfl) ?_
  refine lv_iconst (v := 1) hx hb dJ6_bitCount_0f7a4_2 (by decide) ?_
  refine lv_iushr (v := (p1.toUInt32 >>> ((1 : Int32).toUInt32 &&& Int32.toUInt32 31)).toInt32) hx hb dJ6_bitCount_0f7a4_3 rfl ?_
  refine lv_ldcw hx hb hown (hts _ (List.mem_of_getElem? (i := 1) rfl)) dJ6_bitCount_0f7a4_4 ?_
  refine lv_iand hx hb dJ6_bitCount_0f7a4_7 ?_
  refine lv_isub hx hb dJ6_bitCount_0f7a4_8 ?_
  refine lv_istore_n (lv' := [(0, .int (p1 - (((p1.toUInt32 >>> ((1 : Int32).toUInt32 &&& Int32.toUInt32 31)).toInt32) &&& 1431655765)))]) hx hb dJ6_bitCount_0f7a4_9 rfl hl (by decide) rfl (fun ls hl => ?_)
  refine lv_iload_n hx hb dJ6_bitCount_0f7a4_10 rfl (lv_at hl 0 rfl) ?_
  refine lv_ldcw hx hb hown (hts _ (List.mem_of_getElem? (i := 2) rfl)) dJ6_bitCount_0f7a4_11 ?_
  refine lv_iand hx hb dJ6_bitCount_0f7a4_14 ?_
  refine lv_iload_n hx hb dJ6_bitCount_0f7a4_15 rfl (lv_at hl 0 rfl) ?_
  refine lv_iconst (v := 2) hx hb dJ6_bitCount_0f7a4_16 (by decide) ?_
  refine lv_iushr (v := ((p1 - (((p1.toUInt32 >>> ((1 : Int32).toUInt32 &&& Int32.toUInt32 31)).toInt32) &&& 1431655765)).toUInt32 >>> ((2 : Int32).toUInt32 &&& Int32.toUInt32 31)).toInt32) hx hb dJ6_bitCount_0f7a4_17 rfl ?_
  refine lv_ldcw hx hb hown (hts _ (List.mem_of_getElem? (i := 2) rfl)) dJ6_bitCount_0f7a4_18 ?_
  refine lv_iand hx hb dJ6_bitCount_0f7a4_21 ?_
  refine lv_iadd hx hb dJ6_bitCount_0f7a4_22 ?_
  refine lv_istore_n (lv' := [(0, .int (((p1 - (((p1.toUInt32 >>> ((1 : Int32).toUInt32 &&& Int32.toUInt32 31)).toInt32) &&& 1431655765)) &&& 858993459) + ((((p1 - (((p1.toUInt32 >>> ((1 : Int32).toUInt32 &&& Int32.toUInt32 31)).toInt32) &&& 1431655765)).toUInt32 >>> ((2 : Int32).toUInt32 &&& Int32.toUInt32 31)).toInt32) &&& 858993459)))]) hx hb dJ6_bitCount_0f7a4_23 rfl hl (by decide) rfl (fun ls hl => ?_)
  refine lv_iload_n hx hb dJ6_bitCount_0f7a4_24 rfl (lv_at hl 0 rfl) ?_
  refine lv_iload_n hx hb dJ6_bitCount_0f7a4_25 rfl (lv_at hl 0 rfl) ?_
  refine lv_iconst (v := 4) hx hb dJ6_bitCount_0f7a4_26 (by decide) ?_
  refine lv_iushr (v := ((((p1 - (((p1.toUInt32 >>> ((1 : Int32).toUInt32 &&& Int32.toUInt32 31)).toInt32) &&& 1431655765)) &&& 858993459) + ((((p1 - (((p1.toUInt32 >>> ((1 : Int32).toUInt32 &&& Int32.toUInt32 31)).toInt32) &&& 1431655765)).toUInt32 >>> ((2 : Int32).toUInt32 &&& Int32.toUInt32 31)).toInt32) &&& 858993459)).toUInt32 >>> ((4 : Int32).toUInt32 &&& Int32.toUInt32 31)).toInt32) hx hb dJ6_bitCount_0f7a4_27 rfl ?_
  refine lv_iadd hx hb dJ6_bitCount_0f7a4_28 ?_
  refine lv_ldcw hx hb hown (hts _ (List.mem_of_getElem? (i := 3) rfl)) dJ6_bitCount_0f7a4_29 ?_
  refine lv_iand hx hb dJ6_bitCount_0f7a4_32 ?_
  refine lv_istore_n (lv' := [(0, .int (((((p1 - (((p1.toUInt32 >>> ((1 : Int32).toUInt32 &&& Int32.toUInt32 31)).toInt32) &&& 1431655765)) &&& 858993459) + ((((p1 - (((p1.toUInt32 >>> ((1 : Int32).toUInt32 &&& Int32.toUInt32 31)).toInt32) &&& 1431655765)).toUInt32 >>> ((2 : Int32).toUInt32 &&& Int32.toUInt32 31)).toInt32) &&& 858993459)) + (((((p1 - (((p1.toUInt32 >>> ((1 : Int32).toUInt32 &&& Int32.toUInt32 31)).toInt32) &&& 1431655765)) &&& 858993459) + ((((p1 - (((p1.toUInt32 >>> ((1 : Int32).toUInt32 &&& Int32.toUInt32 31)).toInt32) &&& 1431655765)).toUInt32 >>> ((2 : Int32).toUInt32 &&& Int32.toUInt32 31)).toInt32) &&& 858993459)).toUInt32 >>> ((4 : Int32).toUInt32 &&& Int32.toUInt32 31)).toInt32)) &&& 252645135))]) hx hb dJ6_bitCount_0f7a4_33 rfl hl (by decide) rfl (fun ls hl => ?_)
  refine lv_iload_n hx hb dJ6_bitCount_0f7a4_34 rfl (lv_at hl 0 rfl) ?_
  refine lv_iload_n hx hb dJ6_bitCount_0f7a4_35 rfl (lv_at hl 0 rfl) ?_
  refine lv_bipush (v := 8) hx hb dJ6_bitCount_0f7a4_36 (by decide) ?_
  refine lv_iushr (v := ((((((p1 - (((p1.toUInt32 >>> ((1 : Int32).toUInt32 &&& Int32.toUInt32 31)).toInt32) &&& 1431655765)) &&& 858993459) + ((((p1 - (((p1.toUInt32 >>> ((1 : Int32).toUInt32 &&& Int32.toUInt32 31)).toInt32) &&& 1431655765)).toUInt32 >>> ((2 : Int32).toUInt32 &&& Int32.toUInt32 31)).toInt32) &&& 858993459)) + (((((p1 - (((p1.toUInt32 >>> ((1 : Int32).toUInt32 &&& Int32.toUInt32 31)).toInt32) &&& 1431655765)) &&& 858993459) + ((((p1 - (((p1.toUInt32 >>> ((1 : Int32).toUInt32 &&& Int32.toUInt32 31)).toInt32) &&& 1431655765)).toUInt32 >>> ((2 : Int32).toUInt32 &&& Int32.toUInt32 31)).toInt32) &&& 858993459)).toUInt32 >>> ((4 : Int32).toUInt32 &&& Int32.toUInt32 31)).toInt32)) &&& 252645135).toUInt32 >>> ((8 : Int32).toUInt32 &&& Int32.toUInt32 31)).toInt32) hx hb dJ6_bitCount_0f7a4_38 rfl ?_
  refine lv_iadd hx hb dJ6_bitCount_0f7a4_39 ?_
  refine lv_istore_n (lv' := [(0, .int ((((((p1 - (((p1.toUInt32 >>> ((1 : Int32).toUInt32 &&& Int32.toUInt32 31)).toInt32) &&& 1431655765)) &&& 858993459) + ((((p1 - (((p1.toUInt32 >>> ((1 : Int32).toUInt32 &&& Int32.toUInt32 31)).toInt32) &&& 1431655765)).toUInt32 >>> ((2 : Int32).toUInt32 &&& Int32.toUInt32 31)).toInt32) &&& 858993459)) + (((((p1 - (((p1.toUInt32 >>> ((1 : Int32).toUInt32 &&& Int32.toUInt32 31)).toInt32) &&& 1431655765)) &&& 858993459) + ((((p1 - (((p1.toUInt32 >>> ((1 : Int32).toUInt32 &&& Int32.toUInt32 31)).toInt32) &&& 1431655765)).toUInt32 >>> ((2 : Int32).toUInt32 &&& Int32.toUInt32 31)).toInt32) &&& 858993459)).toUInt32 >>> ((4 : Int32).toUInt32 &&& Int32.toUInt32 31)).toInt32)) &&& 252645135) + (((((((p1 - (((p1.toUInt32 >>> ((1 : Int32).toUInt32 &&& Int32.toUInt32 31)).toInt32) &&& 1431655765)) &&& 858993459) + ((((p1 - (((p1.toUInt32 >>> ((1 : Int32).toUInt32 &&& Int32.toUInt32 31)).toInt32) &&& 1431655765)).toUInt32 >>> ((2 : Int32).toUInt32 &&& Int32.toUInt32 31)).toInt32) &&& 858993459)) + (((((p1 - (((p1.toUInt32 >>> ((1 : Int32).toUInt32 &&& Int32.toUInt32 31)).toInt32) &&& 1431655765)) &&& 858993459) + ((((p1 - (((p1.toUInt32 >>> ((1 : Int32).toUInt32 &&& Int32.toUInt32 31)).toInt32) &&& 1431655765)).toUInt32 >>> ((2 : Int32).toUInt32 &&& Int32.toUInt32 31)).toInt32) &&& 858993459)).toUInt32 >>> ((4 : Int32).toUInt32 &&& Int32.toUInt32 31)).toInt32)) &&& 252645135).toUInt32 >>> ((8 : Int32).toUInt32 &&& Int32.toUInt32 31)).toInt32)))]) hx hb dJ6_bitCount_0f7a4_40 rfl hl (by decide) rfl (fun ls hl => ?_)
  refine lv_iload_n hx hb dJ6_bitCount_0f7a4_41 rfl (lv_at hl 0 rfl) ?_
  refine lv_iload_n hx hb dJ6_bitCount_0f7a4_42 rfl (lv_at hl 0 rfl) ?_
  refine lv_bipush (v := 16) hx hb dJ6_bitCount_0f7a4_43 (by decide) ?_
  refine lv_iushr (v := (((((((p1 - (((p1.toUInt32 >>> ((1 : Int32).toUInt32 &&& Int32.toUInt32 31)).toInt32) &&& 1431655765)) &&& 858993459) + ((((p1 - (((p1.toUInt32 >>> ((1 : Int32).toUInt32 &&& Int32.toUInt32 31)).toInt32) &&& 1431655765)).toUInt32 >>> ((2 : Int32).toUInt32 &&& Int32.toUInt32 31)).toInt32) &&& 858993459)) + (((((p1 - (((p1.toUInt32 >>> ((1 : Int32).toUInt32 &&& Int32.toUInt32 31)).toInt32) &&& 1431655765)) &&& 858993459) + ((((p1 - (((p1.toUInt32 >>> ((1 : Int32).toUInt32 &&& Int32.toUInt32 31)).toInt32) &&& 1431655765)).toUInt32 >>> ((2 : Int32).toUInt32 &&& Int32.toUInt32 31)).toInt32) &&& 858993459)).toUInt32 >>> ((4 : Int32).toUInt32 &&& Int32.toUInt32 31)).toInt32)) &&& 252645135) + (((((((p1 - (((p1.toUInt32 >>> ((1 : Int32).toUInt32 &&& Int32.toUInt32 31)).toInt32) &&& 1431655765)) &&& 858993459) + ((((p1 - (((p1.toUInt32 >>> ((1 : Int32).toUInt32 &&& Int32.toUInt32 31)).toInt32) &&& 1431655765)).toUInt32 >>> ((2 : Int32).toUInt32 &&& Int32.toUInt32 31)).toInt32) &&& 858993459)) + (((((p1 - (((p1.toUInt32 >>> ((1 : Int32).toUInt32 &&& Int32.toUInt32 31)).toInt32) &&& 1431655765)) &&& 858993459) + ((((p1 - (((p1.toUInt32 >>> ((1 : Int32).toUInt32 &&& Int32.toUInt32 31)).toInt32) &&& 1431655765)).toUInt32 >>> ((2 : Int32).toUInt32 &&& Int32.toUInt32 31)).toInt32) &&& 858993459)).toUInt32 >>> ((4 : Int32).toUInt32 &&& Int32.toUInt32 31)).toInt32)) &&& 252645135).toUInt32 >>> ((8 : Int32).toUInt32 &&& Int32.toUInt32 31)).toInt32)).toUInt32 >>> ((16 : Int32).toUInt32 &&& Int32.toUInt32 31)).toInt32) hx hb dJ6_bitCount_0f7a4_45 rfl ?_
  refine lv_iadd hx hb dJ6_bitCount_0f7a4_46 ?_
  refine lv_istore_n (lv' := [(0, .int (((((((p1 - (((p1.toUInt32 >>> ((1 : Int32).toUInt32 &&& Int32.toUInt32 31)).toInt32) &&& 1431655765)) &&& 858993459) + ((((p1 - (((p1.toUInt32 >>> ((1 : Int32).toUInt32 &&& Int32.toUInt32 31)).toInt32) &&& 1431655765)).toUInt32 >>> ((2 : Int32).toUInt32 &&& Int32.toUInt32 31)).toInt32) &&& 858993459)) + (((((p1 - (((p1.toUInt32 >>> ((1 : Int32).toUInt32 &&& Int32.toUInt32 31)).toInt32) &&& 1431655765)) &&& 858993459) + ((((p1 - (((p1.toUInt32 >>> ((1 : Int32).toUInt32 &&& Int32.toUInt32 31)).toInt32) &&& 1431655765)).toUInt32 >>> ((2 : Int32).toUInt32 &&& Int32.toUInt32 31)).toInt32) &&& 858993459)).toUInt32 >>> ((4 : Int32).toUInt32 &&& Int32.toUInt32 31)).toInt32)) &&& 252645135) + (((((((p1 - (((p1.toUInt32 >>> ((1 : Int32).toUInt32 &&& Int32.toUInt32 31)).toInt32) &&& 1431655765)) &&& 858993459) + ((((p1 - (((p1.toUInt32 >>> ((1 : Int32).toUInt32 &&& Int32.toUInt32 31)).toInt32) &&& 1431655765)).toUInt32 >>> ((2 : Int32).toUInt32 &&& Int32.toUInt32 31)).toInt32) &&& 858993459)) + (((((p1 - (((p1.toUInt32 >>> ((1 : Int32).toUInt32 &&& Int32.toUInt32 31)).toInt32) &&& 1431655765)) &&& 858993459) + ((((p1 - (((p1.toUInt32 >>> ((1 : Int32).toUInt32 &&& Int32.toUInt32 31)).toInt32) &&& 1431655765)).toUInt32 >>> ((2 : Int32).toUInt32 &&& Int32.toUInt32 31)).toInt32) &&& 858993459)).toUInt32 >>> ((4 : Int32).toUInt32 &&& Int32.toUInt32 31)).toInt32)) &&& 252645135).toUInt32 >>> ((8 : Int32).toUInt32 &&& Int32.toUInt32 31)).toInt32)) + ((((((((p1 - (((p1.toUInt32 >>> ((1 : Int32).toUInt32 &&& Int32.toUInt32 31)).toInt32) &&& 1431655765)) &&& 858993459) + ((((p1 - (((p1.toUInt32 >>> ((1 : Int32).toUInt32 &&& Int32.toUInt32 31)).toInt32) &&& 1431655765)).toUInt32 >>> ((2 : Int32).toUInt32 &&& Int32.toUInt32 31)).toInt32) &&& 858993459)) + (((((p1 - (((p1.toUInt32 >>> ((1 : Int32).toUInt32 &&& Int32.toUInt32 31)).toInt32) &&& 1431655765)) &&& 858993459) + ((((p1 - (((p1.toUInt32 >>> ((1 : Int32).toUInt32 &&& Int32.toUInt32 31)).toInt32) &&& 1431655765)).toUInt32 >>> ((2 : Int32).toUInt32 &&& Int32.toUInt32 31)).toInt32) &&& 858993459)).toUInt32 >>> ((4 : Int32).toUInt32 &&& Int32.toUInt32 31)).toInt32)) &&& 252645135) + (((((((p1 - (((p1.toUInt32 >>> ((1 : Int32).toUInt32 &&& Int32.toUInt32 31)).toInt32) &&& 1431655765)) &&& 858993459) + ((((p1 - (((p1.toUInt32 >>> ((1 : Int32).toUInt32 &&& Int32.toUInt32 31)).toInt32) &&& 1431655765)).toUInt32 >>> ((2 : Int32).toUInt32 &&& Int32.toUInt32 31)).toInt32) &&& 858993459)) + (((((p1 - (((p1.toUInt32 >>> ((1 : Int32).toUInt32 &&& Int32.toUInt32 31)).toInt32) &&& 1431655765)) &&& 858993459) + ((((p1 - (((p1.toUInt32 >>> ((1 : Int32).toUInt32 &&& Int32.toUInt32 31)).toInt32) &&& 1431655765)).toUInt32 >>> ((2 : Int32).toUInt32 &&& Int32.toUInt32 31)).toInt32) &&& 858993459)).toUInt32 >>> ((4 : Int32).toUInt32 &&& Int32.toUInt32 31)).toInt32)) &&& 252645135).toUInt32 >>> ((8 : Int32).toUInt32 &&& Int32.toUInt32 31)).toInt32)).toUInt32 >>> ((16 : Int32).toUInt32 &&& Int32.toUInt32 31)).toInt32)))]) hx hb dJ6_bitCount_0f7a4_47 rfl hl (by decide) rfl (fun ls hl => ?_)
  refine lv_iload_n hx hb dJ6_bitCount_0f7a4_48 rfl (lv_at hl 0 rfl) ?_
  refine lv_bipush (v := 63) hx hb dJ6_bitCount_0f7a4_49 (by decide) ?_
  refine lv_iand hx hb dJ6_bitCount_0f7a4_51 ?_
  cases h
  exact W.iret (v := (((((((p1 - (((p1.toUInt32 >>> ((1 : Int32).toUInt32 &&& Int32.toUInt32 31)).toInt32) &&& 1431655765)) &&& 858993459) + ((((p1 - (((p1.toUInt32 >>> ((1 : Int32).toUInt32 &&& Int32.toUInt32 31)).toInt32) &&& 1431655765)).toUInt32 >>> ((2 : Int32).toUInt32 &&& Int32.toUInt32 31)).toInt32) &&& 858993459)) + (((((p1 - (((p1.toUInt32 >>> ((1 : Int32).toUInt32 &&& Int32.toUInt32 31)).toInt32) &&& 1431655765)) &&& 858993459) + ((((p1 - (((p1.toUInt32 >>> ((1 : Int32).toUInt32 &&& Int32.toUInt32 31)).toInt32) &&& 1431655765)).toUInt32 >>> ((2 : Int32).toUInt32 &&& Int32.toUInt32 31)).toInt32) &&& 858993459)).toUInt32 >>> ((4 : Int32).toUInt32 &&& Int32.toUInt32 31)).toInt32)) &&& 252645135) + (((((((p1 - (((p1.toUInt32 >>> ((1 : Int32).toUInt32 &&& Int32.toUInt32 31)).toInt32) &&& 1431655765)) &&& 858993459) + ((((p1 - (((p1.toUInt32 >>> ((1 : Int32).toUInt32 &&& Int32.toUInt32 31)).toInt32) &&& 1431655765)).toUInt32 >>> ((2 : Int32).toUInt32 &&& Int32.toUInt32 31)).toInt32) &&& 858993459)) + (((((p1 - (((p1.toUInt32 >>> ((1 : Int32).toUInt32 &&& Int32.toUInt32 31)).toInt32) &&& 1431655765)) &&& 858993459) + ((((p1 - (((p1.toUInt32 >>> ((1 : Int32).toUInt32 &&& Int32.toUInt32 31)).toInt32) &&& 1431655765)).toUInt32 >>> ((2 : Int32).toUInt32 &&& Int32.toUInt32 31)).toInt32) &&& 858993459)).toUInt32 >>> ((4 : Int32).toUInt32 &&& Int32.toUInt32 31)).toInt32)) &&& 252645135).toUInt32 >>> ((8 : Int32).toUInt32 &&& Int32.toUInt32 31)).toInt32)) + ((((((((p1 - (((p1.toUInt32 >>> ((1 : Int32).toUInt32 &&& Int32.toUInt32 31)).toInt32) &&& 1431655765)) &&& 858993459) + ((((p1 - (((p1.toUInt32 >>> ((1 : Int32).toUInt32 &&& Int32.toUInt32 31)).toInt32) &&& 1431655765)).toUInt32 >>> ((2 : Int32).toUInt32 &&& Int32.toUInt32 31)).toInt32) &&& 858993459)) + (((((p1 - (((p1.toUInt32 >>> ((1 : Int32).toUInt32 &&& Int32.toUInt32 31)).toInt32) &&& 1431655765)) &&& 858993459) + ((((p1 - (((p1.toUInt32 >>> ((1 : Int32).toUInt32 &&& Int32.toUInt32 31)).toInt32) &&& 1431655765)).toUInt32 >>> ((2 : Int32).toUInt32 &&& Int32.toUInt32 31)).toInt32) &&& 858993459)).toUInt32 >>> ((4 : Int32).toUInt32 &&& Int32.toUInt32 31)).toInt32)) &&& 252645135) + (((((((p1 - (((p1.toUInt32 >>> ((1 : Int32).toUInt32 &&& Int32.toUInt32 31)).toInt32) &&& 1431655765)) &&& 858993459) + ((((p1 - (((p1.toUInt32 >>> ((1 : Int32).toUInt32 &&& Int32.toUInt32 31)).toInt32) &&& 1431655765)).toUInt32 >>> ((2 : Int32).toUInt32 &&& Int32.toUInt32 31)).toInt32) &&& 858993459)) + (((((p1 - (((p1.toUInt32 >>> ((1 : Int32).toUInt32 &&& Int32.toUInt32 31)).toInt32) &&& 1431655765)) &&& 858993459) + ((((p1 - (((p1.toUInt32 >>> ((1 : Int32).toUInt32 &&& Int32.toUInt32 31)).toInt32) &&& 1431655765)).toUInt32 >>> ((2 : Int32).toUInt32 &&& Int32.toUInt32 31)).toInt32) &&& 858993459)).toUInt32 >>> ((4 : Int32).toUInt32 &&& Int32.toUInt32 31)).toInt32)) &&& 252645135).toUInt32 >>> ((8 : Int32).toUInt32 &&& Int32.toUInt32 31)).toInt32)).toUInt32 >>> ((16 : Int32).toUInt32 &&& Int32.toUInt32 31)).toInt32)) &&& 63) hx hb hr (fun t ht _ => ⟨rfl, ht⟩) (fun q h => absurd h List.not_mem_nil) dJ6_bitCount_0f7a4_52

theorem in_X1_carts : ∀ w ∈ wsX10, w ∈ wsX1_carts := by decide +kernel
def fX1_carts (σ : St) : Option (Int32) := some (σ 6 0)
set_option maxHeartbeats 4000000 in
set_option maxRecDepth 100000 in
theorem kX1_carts (l : Launch) (G : Gx) (b : Nat) (σ : St) (r : Int32) (h : fX1_carts σ = some r) : Met l yX1_carts wsX1_carts (rmN 0) (pre G [.ref b] (hAt G b σ)) (QcRead r) 0 0 (fun _ => False) := by
  refine Met.ofW (cc := cX1_carts) (maxL := 1) (ret := (some .int)) (by decide) rfl ?_
  intro p e s m args below meth c s₁ B hml hv
  obtain ⟨rfl, X, hK⟩ := hv
  have hx := B.exec
  have hb := B.bytes
  have hr := B.returns
  have hts := atoms_spec (ws := wsX1_carts) B.pre
  have hown : s.vm.findClass RX1 = some m.cls := findClass_of_methodNamed B.named
  have hlocks := B.notSynchronized
  have C : Cx p m c cX1_carts 1 s _ wsX1_carts RX1 G := ⟨⟨hx, hb, hml, hown, hts⟩, hK⟩
  have hin : ∀ w ∈ wsX10, w ∈ wsX1_carts := in_X1_carts
  have hl := lv_entry ([.ref b]) (n := 1) (Nat.le_of_ble_eq_true rfl)
  rw [lg_entry_eq]
  generalize (lg_sl ([.ref b]) ++ List.replicate (1 - (lg_sl ([.ref b])).length) Slot.unset).toArray = ls at hl ⊢
  have hl : lv_has ls 1 [(0, .ref b)] := hl
  unfold fX1_carts at h
  refine lv_aload_n hx hb dX1_carts_0 rfl (lv_at hl 0 rfl) ?_
  refine gt_X1_6 C hin X 1 rfl dX1_carts_1 ?_
  cases h
  exact W.iret (v := σ 6 0) hx hb hr (fun t ht _ => ⟨rfl, ht⟩) (fun q h => absurd h List.not_mem_nil) dX1_carts_4

theorem in_X1_knows : ∀ w ∈ wsX10, w ∈ wsX1_knows := by decide +kernel
def fX1_knows (σ : St) (p1 : Int32) : Option (Int32) := if p1 < 0 then (some 0) else (if (σ 6 0) ≤ p1 then (some 0) else (some 1))
set_option maxHeartbeats 4000000 in
set_option maxRecDepth 100000 in
theorem kX1_knows (l : Launch) (G : Gx) (b : Nat) (σ : St) (p1 : Int32) (r : Int32) (h : fX1_knows σ p1 = some r) : Met l yX1_knows wsX1_knows (rmN 0) (pre G [.ref b, .int p1] (hAt G b σ)) (QcRead r) 0 0 (fun _ => False) := by
  refine Met.ofW (cc := cX1_knows) (maxL := 2) (ret := (some .boolean)) (by decide) rfl ?_
  intro p e s m args below meth c s₁ B hml hv
  obtain ⟨rfl, X, hK⟩ := hv
  have hx := B.exec
  have hb := B.bytes
  have hr := B.returns
  have hts := atoms_spec (ws := wsX1_knows) B.pre
  have hown : s.vm.findClass RX1 = some m.cls := findClass_of_methodNamed B.named
  have hlocks := B.notSynchronized
  have C : Cx p m c cX1_knows 2 s _ wsX1_knows RX1 G := ⟨⟨hx, hb, hml, hown, hts⟩, hK⟩
  have hin : ∀ w ∈ wsX10, w ∈ wsX1_knows := in_X1_knows
  have hl := lv_entry ([.ref b, .int p1]) (n := 2) (Nat.le_of_ble_eq_true rfl)
  rw [lg_entry_eq]
  generalize (lg_sl ([.ref b, .int p1]) ++ List.replicate (2 - (lg_sl ([.ref b, .int p1])).length) Slot.unset).toArray = ls at hl ⊢
  have hl : lv_has ls 2 [(0, .ref b), (1, .int p1)] := hl
  unfold fX1_knows at h
  refine lv_iload_n hx hb dX1_knows_0 rfl (lv_at hl 1 rfl) ?_
  refine lv_if_lt (tgt := 16) hx hb dX1_knows_1 (by decide) (fun c1 => ?_) (fun c1 => ?_)
  · have h := ip h c1
    refine lv_iconst (v := 0) hx hb dX1_knows_16 (by decide) ?_
    cases h
    exact W.zret (v := 0) hx hb hr rfl (fun t ht _ => ⟨rfl, ht⟩) (fun q h => absurd h List.not_mem_nil) dX1_knows_17
  · have h := iq h c1
    refine lv_iload_n hx hb dX1_knows_4 rfl (lv_at hl 1 rfl) ?_
    refine lv_aload_n hx hb dX1_knows_5 rfl (lv_at hl 0 rfl) ?_
    refine gt_X1_6 C hin X 1 rfl dX1_knows_6 ?_
    refine lv_icmp_ge (tgt := 16) hx hb dX1_knows_9 (by decide) (fun c2 => ?_) (fun c2 => ?_)
    · have h := ip h c2
      refine lv_iconst (v := 0) hx hb dX1_knows_16 (by decide) ?_
      cases h
      exact W.zret (v := 0) hx hb hr rfl (fun t ht _ => ⟨rfl, ht⟩) (fun q h => absurd h List.not_mem_nil) dX1_knows_17
    · have h := iq h c2
      refine lv_iconst (v := 1) hx hb dX1_knows_12 (by decide) ?_
      refine lv_goto (tgt := 17) hx hb dX1_knows_13 (by decide) ?_
      cases h
      exact W.zret (v := 1) hx hb hr rfl (fun t ht _ => ⟨rfl, ht⟩) (fun q h => absurd h List.not_mem_nil) dX1_knows_17

def fX1_isSacks (p1 : Int32) : Option (Int32) := if p1 < 0 then (some 0) else (if 99 < p1 then (some 0) else (some 1))
set_option maxHeartbeats 4000000 in
set_option maxRecDepth 100000 in
theorem kX1_isSacks (l : Launch) (G : Gx) (p1 : Int32) (r : Int32) (h : fX1_isSacks p1 = some r) : Met l yX1_isSacks wsX1_isSacks (rmN 0) (pre G [.int p1] (fun _ => True)) (QcRead r) 0 0 (fun _ => False) := by
  refine Met.ofW (cc := cX1_isSacks) (maxL := 1) (ret := (some .boolean)) (by decide) rfl ?_
  intro p e s m args below meth c s₁ B hml hv
  obtain ⟨rfl, -, hK⟩ := hv
  have hx := B.exec
  have hb := B.bytes
  have hr := B.returns
  have hts := atoms_spec (ws := wsX1_isSacks) B.pre
  have hown : s.vm.findClass RX1 = some m.cls := findClass_of_methodNamed B.named
  have hlocks := B.notSynchronized
  have C : Cx p m c cX1_isSacks 1 s _ wsX1_isSacks RX1 G := ⟨⟨hx, hb, hml, hown, hts⟩, hK⟩
  have hl := lv_entry ([.int p1]) (n := 1) (Nat.le_of_ble_eq_true rfl)
  rw [lg_entry_eq]
  generalize (lg_sl ([.int p1]) ++ List.replicate (1 - (lg_sl ([.int p1])).length) Slot.unset).toArray = ls at hl ⊢
  have hl : lv_has ls 1 [(0, .int p1)] := hl
  unfold fX1_isSacks at h
  refine lv_iload_n hx hb dX1_isSacks_0 rfl (lv_at hl 0 rfl) ?_
  refine lv_if_lt (tgt := 14) hx hb dX1_isSacks_1 (by decide) (fun c1 => ?_) (fun c1 => ?_)
  · have h := ip h c1
    refine lv_iconst (v := 0) hx hb dX1_isSacks_14 (by decide) ?_
    cases h
    exact W.zret (v := 0) hx hb hr rfl (fun t ht _ => ⟨rfl, ht⟩) (fun q h => absurd h List.not_mem_nil) dX1_isSacks_15
  · have h := iq h c1
    refine lv_iload_n hx hb dX1_isSacks_4 rfl (lv_at hl 0 rfl) ?_
    refine lv_bipush (v := 99) hx hb dX1_isSacks_5 (by decide) ?_
    refine lv_icmp_gt (tgt := 14) hx hb dX1_isSacks_7 (by decide) (fun c2 => ?_) (fun c2 => ?_)
    · have h := ip h c2
      refine lv_iconst (v := 0) hx hb dX1_isSacks_14 (by decide) ?_
      cases h
      exact W.zret (v := 0) hx hb hr rfl (fun t ht _ => ⟨rfl, ht⟩) (fun q h => absurd h List.not_mem_nil) dX1_isSacks_15
    · have h := iq h c2
      refine lv_iconst (v := 1) hx hb dX1_isSacks_10 (by decide) ?_
      refine lv_goto (tgt := 15) hx hb dX1_isSacks_11 (by decide) ?_
      cases h
      exact W.zret (v := 1) hx hb hr rfl (fun t ht _ => ⟨rfl, ht⟩) (fun q h => absurd h List.not_mem_nil) dX1_isSacks_15

theorem in_X1_sealFor : ∀ w ∈ wsX10, w ∈ wsX1_sealFor := by decide +kernel
def fX1_sealFor (σ : St) (p1 : Int32) (p2 : Int32) : Option (Int32) := if 0 < (σ 0 2) then (if oob p1 24 then none else if (σ 3 p1.toNatClampNeg) < 0 then (if (σ 0 2) = 0 then none else some (((((σ 0 0) * p2) + ((σ 0 1) * 0)) + p1) - ((((σ 0 0) * p2) + ((σ 0 1) * 0)) + p1) / (σ 0 2) * (σ 0 2))) else (if (σ 6 0) ≤ (σ 3 p1.toNatClampNeg) then (if (σ 0 2) = 0 then none else some (((((σ 0 0) * p2) + ((σ 0 1) * 0)) + p1) - ((((σ 0 0) * p2) + ((σ 0 1) * 0)) + p1) / (σ 0 2) * (σ 0 2))) else (if oob (σ 3 p1.toNatClampNeg) 24 then none else if (σ 0 2) = 0 then none else some (((((σ 0 0) * p2) + ((σ 0 1) * (σ 4 (σ 3 p1.toNatClampNeg).toNatClampNeg))) + p1) - ((((σ 0 0) * p2) + ((σ 0 1) * (σ 4 (σ 3 p1.toNatClampNeg).toNatClampNeg))) + p1) / (σ 0 2) * (σ 0 2))))) else (some 0)
set_option maxHeartbeats 4000000 in
set_option maxRecDepth 100000 in
theorem kX1_sealFor (l : Launch) (G : Gx) (b : Nat) (σ : St) (p1 : Int32) (p2 : Int32) (r : Int32) (h : fX1_sealFor σ p1 p2 = some r) : Met l yX1_sealFor wsX1_sealFor (rmN 0) (pre G [.ref b, .int p1, .int p2] (hAt G b σ)) (QcRead r) 0 0 (fun _ => False) := by
  refine Met.ofW (cc := cX1_sealFor) (maxL := 6) (ret := (some .int)) (by decide) rfl ?_
  intro p e s m args below meth c s₁ B hml hv
  obtain ⟨rfl, X, hK⟩ := hv
  have hx := B.exec
  have hb := B.bytes
  have hr := B.returns
  have hts := atoms_spec (ws := wsX1_sealFor) B.pre
  have hown : s.vm.findClass RX1 = some m.cls := findClass_of_methodNamed B.named
  have hlocks := B.notSynchronized
  have C : Cx p m c cX1_sealFor 6 s _ wsX1_sealFor RX1 G := ⟨⟨hx, hb, hml, hown, hts⟩, hK⟩
  have hin : ∀ w ∈ wsX10, w ∈ wsX1_sealFor := in_X1_sealFor
  have hl := lv_entry ([.ref b, .int p1, .int p2]) (n := 6) (Nat.le_of_ble_eq_true rfl)
  rw [lg_entry_eq]
  generalize (lg_sl ([.ref b, .int p1, .int p2]) ++ List.replicate (6 - (lg_sl ([.ref b, .int p1, .int p2])).length) Slot.unset).toArray = ls at hl ⊢
  have hl : lv_has ls 6 [(0, .ref b), (1, .int p1), (2, .int p2)] := hl
  unfold fX1_sealFor at h
  refine lv_aload_n hx hb dX1_sealFor_0 rfl (lv_at hl 0 rfl) ?_
  refine gt_X1_0 C hin X 1 rfl dX1_sealFor_1 ?_
  refine lv_iconst (v := 2) hx hb dX1_sealFor_4 (by decide) ?_
  refine al_X1_0 (j := 2) C X rfl (by decide) dX1_sealFor_5 ?_
  refine lv_istore_n (lv' := [(3, .int (σ 0 2)), (0, .ref b), (1, .int p1), (2, .int p2)]) hx hb dX1_sealFor_6 rfl hl (by decide) rfl (fun ls hl => ?_)
  refine lv_iload_n hx hb dX1_sealFor_7 rfl (lv_at hl 0 rfl) ?_
  refine lv_if_gt (tgt := 13) hx hb dX1_sealFor_8 (by decide) (fun c1 => ?_) (fun c1 => ?_)
  · have h := ip h c1
    refine lv_aload_n hx hb dX1_sealFor_13 rfl (lv_at hl 1 rfl) ?_
    refine gt_X1_3 C hin X 2 rfl dX1_sealFor_14 ?_
    refine lv_iload_n hx hb dX1_sealFor_17 rfl (lv_at hl 2 rfl) ?_
    obtain ⟨c2, h⟩ := og h
    refine al_X1_3 C X rfl c2 dX1_sealFor_18 ?_
    refine lv_istore (lv' := [(4, .int (σ 3 p1.toNatClampNeg)), (3, .int (σ 0 2)), (0, .ref b), (1, .int p1), (2, .int p2)]) hx hb dX1_sealFor_19 hl (by decide) rfl (fun ls hl => ?_)
    refine lv_iload hx hb dX1_sealFor_21 (lv_at hl 0 rfl) ?_
    refine lv_if_lt (tgt := 45) hx hb dX1_sealFor_23 (by decide) (fun c3 => ?_) (fun c3 => ?_)
    · have h := ip h c3
      refine lv_iconst (v := 0) hx hb dX1_sealFor_45 (by decide) ?_
      refine lv_istore (lv' := [(5, .int 0), (4, .int (σ 3 p1.toNatClampNeg)), (3, .int (σ 0 2)), (0, .ref b), (1, .int p1), (2, .int p2)]) hx hb dX1_sealFor_46 hl (by decide) rfl (fun ls hl => ?_)
      refine lv_aload_n hx hb dX1_sealFor_48 rfl (lv_at hl 3 rfl) ?_
      refine gt_X1_0 C hin X 1 rfl dX1_sealFor_49 ?_
      refine lv_iconst (v := 0) hx hb dX1_sealFor_52 (by decide) ?_
      refine al_X1_0 (j := 0) C X rfl (by decide) dX1_sealFor_53 ?_
      refine lv_iload_n hx hb dX1_sealFor_54 rfl (lv_at hl 5 rfl) ?_
      refine lv_imul hx hb dX1_sealFor_55 ?_
      refine lv_aload_n hx hb dX1_sealFor_56 rfl (lv_at hl 3 rfl) ?_
      refine gt_X1_0 C hin X 1 rfl dX1_sealFor_57 ?_
      refine lv_iconst (v := 1) hx hb dX1_sealFor_60 (by decide) ?_
      refine al_X1_0 (j := 1) C X rfl (by decide) dX1_sealFor_61 ?_
      refine lv_iload hx hb dX1_sealFor_62 (lv_at hl 0 rfl) ?_
      refine lv_imul hx hb dX1_sealFor_64 ?_
      refine lv_iadd hx hb dX1_sealFor_65 ?_
      refine lv_iload_n hx hb dX1_sealFor_66 rfl (lv_at hl 4 rfl) ?_
      refine lv_iadd hx hb dX1_sealFor_67 ?_
      refine lv_iload_n hx hb dX1_sealFor_68 rfl (lv_at hl 2 rfl) ?_
      obtain ⟨c4, h⟩ := og h
      refine lv_irem hx hb dX1_sealFor_69 c4 ?_
      cases h
      exact W.iret (v := ((((σ 0 0) * p2) + ((σ 0 1) * 0)) + p1) - ((((σ 0 0) * p2) + ((σ 0 1) * 0)) + p1) / (σ 0 2) * (σ 0 2)) hx hb hr (fun t ht _ => ⟨rfl, ht⟩) (fun q h => absurd h List.not_mem_nil) dX1_sealFor_70
    · have h := iq h c3
      refine lv_iload hx hb dX1_sealFor_26 (lv_at hl 0 rfl) ?_
      refine lv_aload_n hx hb dX1_sealFor_28 rfl (lv_at hl 2 rfl) ?_
      refine gt_X1_6 C hin X 3 rfl dX1_sealFor_29 ?_
      refine lv_icmp_ge (tgt := 45) hx hb dX1_sealFor_32 (by decide) (fun c5 => ?_) (fun c5 => ?_)
      · have h := ip h c5
        refine lv_iconst (v := 0) hx hb dX1_sealFor_45 (by decide) ?_
        refine lv_istore (lv' := [(5, .int 0), (4, .int (σ 3 p1.toNatClampNeg)), (3, .int (σ 0 2)), (0, .ref b), (1, .int p1), (2, .int p2)]) hx hb dX1_sealFor_46 hl (by decide) rfl (fun ls hl => ?_)
        refine lv_aload_n hx hb dX1_sealFor_48 rfl (lv_at hl 3 rfl) ?_
        refine gt_X1_0 C hin X 1 rfl dX1_sealFor_49 ?_
        refine lv_iconst (v := 0) hx hb dX1_sealFor_52 (by decide) ?_
        refine al_X1_0 (j := 0) C X rfl (by decide) dX1_sealFor_53 ?_
        refine lv_iload_n hx hb dX1_sealFor_54 rfl (lv_at hl 5 rfl) ?_
        refine lv_imul hx hb dX1_sealFor_55 ?_
        refine lv_aload_n hx hb dX1_sealFor_56 rfl (lv_at hl 3 rfl) ?_
        refine gt_X1_0 C hin X 1 rfl dX1_sealFor_57 ?_
        refine lv_iconst (v := 1) hx hb dX1_sealFor_60 (by decide) ?_
        refine al_X1_0 (j := 1) C X rfl (by decide) dX1_sealFor_61 ?_
        refine lv_iload hx hb dX1_sealFor_62 (lv_at hl 0 rfl) ?_
        refine lv_imul hx hb dX1_sealFor_64 ?_
        refine lv_iadd hx hb dX1_sealFor_65 ?_
        refine lv_iload_n hx hb dX1_sealFor_66 rfl (lv_at hl 4 rfl) ?_
        refine lv_iadd hx hb dX1_sealFor_67 ?_
        refine lv_iload_n hx hb dX1_sealFor_68 rfl (lv_at hl 2 rfl) ?_
        obtain ⟨c6, h⟩ := og h
        refine lv_irem hx hb dX1_sealFor_69 c6 ?_
        cases h
        exact W.iret (v := ((((σ 0 0) * p2) + ((σ 0 1) * 0)) + p1) - ((((σ 0 0) * p2) + ((σ 0 1) * 0)) + p1) / (σ 0 2) * (σ 0 2)) hx hb hr (fun t ht _ => ⟨rfl, ht⟩) (fun q h => absurd h List.not_mem_nil) dX1_sealFor_70
      · have h := iq h c5
        refine lv_aload_n hx hb dX1_sealFor_35 rfl (lv_at hl 2 rfl) ?_
        refine gt_X1_4 C hin X 4 rfl dX1_sealFor_36 ?_
        refine lv_iload hx hb dX1_sealFor_39 (lv_at hl 0 rfl) ?_
        obtain ⟨c7, h⟩ := og h
        refine al_X1_4 C X rfl c7 dX1_sealFor_41 ?_
        refine lv_goto (tgt := 46) hx hb dX1_sealFor_42 (by decide) ?_
        refine lv_istore (lv' := [(5, .int (σ 4 (σ 3 p1.toNatClampNeg).toNatClampNeg)), (4, .int (σ 3 p1.toNatClampNeg)), (3, .int (σ 0 2)), (0, .ref b), (1, .int p1), (2, .int p2)]) hx hb dX1_sealFor_46 hl (by decide) rfl (fun ls hl => ?_)
        refine lv_aload_n hx hb dX1_sealFor_48 rfl (lv_at hl 3 rfl) ?_
        refine gt_X1_0 C hin X 1 rfl dX1_sealFor_49 ?_
        refine lv_iconst (v := 0) hx hb dX1_sealFor_52 (by decide) ?_
        refine al_X1_0 (j := 0) C X rfl (by decide) dX1_sealFor_53 ?_
        refine lv_iload_n hx hb dX1_sealFor_54 rfl (lv_at hl 5 rfl) ?_
        refine lv_imul hx hb dX1_sealFor_55 ?_
        refine lv_aload_n hx hb dX1_sealFor_56 rfl (lv_at hl 3 rfl) ?_
        refine gt_X1_0 C hin X 1 rfl dX1_sealFor_57 ?_
        refine lv_iconst (v := 1) hx hb dX1_sealFor_60 (by decide) ?_
        refine al_X1_0 (j := 1) C X rfl (by decide) dX1_sealFor_61 ?_
        refine lv_iload hx hb dX1_sealFor_62 (lv_at hl 0 rfl) ?_
        refine lv_imul hx hb dX1_sealFor_64 ?_
        refine lv_iadd hx hb dX1_sealFor_65 ?_
        refine lv_iload_n hx hb dX1_sealFor_66 rfl (lv_at hl 4 rfl) ?_
        refine lv_iadd hx hb dX1_sealFor_67 ?_
        refine lv_iload_n hx hb dX1_sealFor_68 rfl (lv_at hl 2 rfl) ?_
        obtain ⟨c8, h⟩ := og h
        refine lv_irem hx hb dX1_sealFor_69 c8 ?_
        cases h
        exact W.iret (v := ((((σ 0 0) * p2) + ((σ 0 1) * (σ 4 (σ 3 p1.toNatClampNeg).toNatClampNeg))) + p1) - ((((σ 0 0) * p2) + ((σ 0 1) * (σ 4 (σ 3 p1.toNatClampNeg).toNatClampNeg))) + p1) / (σ 0 2) * (σ 0 2)) hx hb hr (fun t ht _ => ⟨rfl, ht⟩) (fun q h => absurd h List.not_mem_nil) dX1_sealFor_70
  · have h := iq h c1
    refine lv_iconst (v := 0) hx hb dX1_sealFor_11 (by decide) ?_
    cases h
    exact W.iret (v := 0) hx hb hr (fun t ht _ => ⟨rfl, ht⟩) (fun q h => absurd h List.not_mem_nil) dX1_sealFor_12

theorem in_X1_rightSeal : ∀ w ∈ wsX10, w ∈ wsX1_rightSeal := by decide +kernel
def fX1_rightSeal (σ : St) (p1 : Int32) : Option (Int32) := if oob p1 24 then none else (fX1_sealFor σ p1 (σ 1 p1.toNatClampNeg)).bind (fun r2 => some r2)
set_option maxHeartbeats 4000000 in
set_option maxRecDepth 100000 in
theorem kX1_rightSeal (l : Launch) (G : Gx) (b : Nat) (σ : St) (p1 : Int32) (r : Int32) (h : fX1_rightSeal σ p1 = some r) : Met l yX1_rightSeal wsX1_rightSeal (rmN 1) (pre G [.ref b, .int p1] (hAt G b σ)) (QcRead r) 0 0 (fun _ => False) := by
  refine Met.ofW (cc := cX1_rightSeal) (maxL := 2) (ret := (some .int)) (by decide) rfl ?_
  intro p e s m args below meth c s₁ B hml hv
  obtain ⟨rfl, X, hK⟩ := hv
  have hx := B.exec
  have hb := B.bytes
  have hr := B.returns
  have hts := atoms_spec (ws := wsX1_rightSeal) B.pre
  have hown : s.vm.findClass RX1 = some m.cls := findClass_of_methodNamed B.named
  have hlocks := B.notSynchronized
  have C : Cx p m c cX1_rightSeal 2 s _ wsX1_rightSeal RX1 G := ⟨⟨hx, hb, hml, hown, hts⟩, hK⟩
  have hin : ∀ w ∈ wsX10, w ∈ wsX1_rightSeal := in_X1_rightSeal
  have hl := lv_entry ([.ref b, .int p1]) (n := 2) (Nat.le_of_ble_eq_true rfl)
  rw [lg_entry_eq]
  generalize (lg_sl ([.ref b, .int p1]) ++ List.replicate (2 - (lg_sl ([.ref b, .int p1])).length) Slot.unset).toArray = ls at hl ⊢
  have hl : lv_has ls 2 [(0, .ref b), (1, .int p1)] := hl
  unfold fX1_rightSeal at h
  refine lv_aload_n hx hb dX1_rightSeal_0 rfl (lv_at hl 0 rfl) ?_
  refine lv_iload_n hx hb dX1_rightSeal_1 rfl (lv_at hl 1 rfl) ?_
  refine lv_aload_n hx hb dX1_rightSeal_2 rfl (lv_at hl 0 rfl) ?_
  refine gt_X1_1 C hin X 1 rfl dX1_rightSeal_3 ?_
  refine lv_iload_n hx hb dX1_rightSeal_6 rfl (lv_at hl 1 rfl) ?_
  obtain ⟨c1, h⟩ := og h
  refine al_X1_1 C X rfl c1 dX1_rightSeal_7 ?_
  obtain ⟨r2, hr2, h⟩ := ob h
  refine rowV (As := [.int p1, .int (σ 1 p1.toNatClampNeg)]) (rest := []) C (kX1_sealFor l G b σ p1 (σ 1 p1.toNatClampNeg) r2 hr2) (cwV 2 hts gX1_rightSeal_X1_sealFor rfl rfl rfl (by decide +kernel) ⟨Nat.le_of_ble_eq_true rfl, Nat.le_of_ble_eq_true rfl⟩) (rcv_X1 X hK) X rfl hl.1 rfl (Nat.le_of_ble_eq_true rfl) dX1_rightSeal_8 ⟨Nat.zero_le _, Nat.zero_le _⟩ ?_
  cases h
  exact W.iret (v := r2) hx hb hr (fun t ht _ => ⟨rfl, ht⟩) (fun q h => absurd h List.not_mem_nil) dX1_rightSeal_11

theorem in_X1_admit : ∀ w ∈ wsX10, w ∈ wsX1_admit := by decide +kernel
def fX1_admit (σ : St) (p1 : Int32) (p2 : Int32) (p3 : Int32) : Option (Int32 × St) := if p3 = (-1) then ((fX1_isSacks p1).bind (fun r2 => if r2 = 0 then (some ((-2), σ)) else ((fX1_isSacks p2).bind (fun r4 => if r4 = 0 then (some ((-2), σ)) else (if (σ 6 0) < 24 then (if oob (σ 6 0) 24 then none else if oob (σ 6 0) 24 then none else if oob (σ 6 0) 24 then none else if oob (σ 6 0) 24 then none else (fX1_rightSeal (up (up (up (up (up σ 6 0 ((σ 6 0) + 1)) 1 (σ 6 0).toNatClampNeg p1) 2 (σ 6 0).toNatClampNeg p2) 3 (σ 6 0).toNatClampNeg p3) 5 (σ 6 0).toNatClampNeg 0) (σ 6 0)).bind (fun r11 => if oob (σ 6 0) 24 then none else some (σ 6 0, up (up (up (up (up (up (up σ 6 0 ((σ 6 0) + 1)) 1 (σ 6 0).toNatClampNeg p1) 2 (σ 6 0).toNatClampNeg p2) 3 (σ 6 0).toNatClampNeg p3) 5 (σ 6 0).toNatClampNeg 0) 4 (σ 6 0).toNatClampNeg r11) 10 0 (((up (up (up (up (up (up σ 6 0 ((σ 6 0) + 1)) 1 (σ 6 0).toNatClampNeg p1) 2 (σ 6 0).toNatClampNeg p2) 3 (σ 6 0).toNatClampNeg p3) 5 (σ 6 0).toNatClampNeg 0) 4 (σ 6 0).toNatClampNeg r11) 10 0) + p1)))) else (some ((-3), σ))))))) else ((fX1_knows σ p3).bind (fun r13 => if r13 = 0 then (some ((-1), σ)) else ((fX1_isSacks p1).bind (fun r15 => if r15 = 0 then (some ((-2), σ)) else ((fX1_isSacks p2).bind (fun r17 => if r17 = 0 then (some ((-2), σ)) else (if (σ 6 0) < 24 then (if oob (σ 6 0) 24 then none else if oob (σ 6 0) 24 then none else if oob (σ 6 0) 24 then none else if oob (σ 6 0) 24 then none else (fX1_rightSeal (up (up (up (up (up σ 6 0 ((σ 6 0) + 1)) 1 (σ 6 0).toNatClampNeg p1) 2 (σ 6 0).toNatClampNeg p2) 3 (σ 6 0).toNatClampNeg p3) 5 (σ 6 0).toNatClampNeg 0) (σ 6 0)).bind (fun r24 => if oob (σ 6 0) 24 then none else some (σ 6 0, up (up (up (up (up (up (up σ 6 0 ((σ 6 0) + 1)) 1 (σ 6 0).toNatClampNeg p1) 2 (σ 6 0).toNatClampNeg p2) 3 (σ 6 0).toNatClampNeg p3) 5 (σ 6 0).toNatClampNeg 0) 4 (σ 6 0).toNatClampNeg r24) 10 0 (((up (up (up (up (up (up σ 6 0 ((σ 6 0) + 1)) 1 (σ 6 0).toNatClampNeg p1) 2 (σ 6 0).toNatClampNeg p2) 3 (σ 6 0).toNatClampNeg p3) 5 (σ 6 0).toNatClampNeg 0) 4 (σ 6 0).toNatClampNeg r24) 10 0) + p1)))) else (some ((-3), σ)))))))))
set_option maxHeartbeats 4000000 in
set_option maxRecDepth 100000 in
theorem kX1_admit (l : Launch) (G : Gx) (b : Nat) (σ : St) (p1 : Int32) (p2 : Int32) (p3 : Int32) (r : Int32) (σ' : St) (h : fX1_admit σ p1 p2 p3 = some (r, σ')) : Met l yX1_admit wsX1_admit (rmN 2) (pre G [.ref b, .int p1, .int p2, .int p3] (hAt G b σ)) (QcW b (b + 7) (hAt G b σ') (some (.int r))) 0 0 (lw_Fr b (b + 7)) := by
  refine Met.ofW (cc := cX1_admit) (maxL := 5) (ret := (some .int)) (by decide) rfl ?_
  intro p e s m args below meth c s₁ B hml hv
  obtain ⟨rfl, X, hK⟩ := hv
  have hx := B.exec
  have hb := B.bytes
  have hr := B.returns
  have hts := atoms_spec (ws := wsX1_admit) B.pre
  have hown : s.vm.findClass RX1 = some m.cls := findClass_of_methodNamed B.named
  have hlocks := B.notSynchronized
  have C : Cx p m c cX1_admit 5 s _ wsX1_admit RX1 G := ⟨⟨hx, hb, hml, hown, hts⟩, hK⟩
  have hin : ∀ w ∈ wsX10, w ∈ wsX1_admit := in_X1_admit
  have hS : va_S (lw_Fr b (b + 7)) s.heap s.heap [] := va_S.rf
  have hl := lv_entry ([.ref b, .int p1, .int p2, .int p3]) (n := 5) (Nat.le_of_ble_eq_true rfl)
  rw [lg_entry_eq]
  generalize (lg_sl ([.ref b, .int p1, .int p2, .int p3]) ++ List.replicate (5 - (lg_sl ([.ref b, .int p1, .int p2, .int p3])).length) Slot.unset).toArray = ls at hl ⊢
  have hl : lv_has ls 5 [(0, .ref b), (1, .int p1), (2, .int p2), (3, .int p3)] := hl
  unfold fX1_admit at h
  refine lv_iload_n hx hb dX1_admit_0 rfl (lv_at hl 3 rfl) ?_
  refine lv_iconst (v := (-1)) hx hb dX1_admit_1 (by decide) ?_
  refine lv_icmp_eq (tgt := 15) hx hb dX1_admit_2 (by decide) (fun c1 => ?_) (fun c1 => ?_)
  · have h := ip h c1
    refine lv_iload_n hx hb dX1_admit_15 rfl (lv_at hl 1 rfl) ?_
    obtain ⟨r2, hr2, h⟩ := ob h
    refine rowS (As := [.int p1]) (rest := []) (B := fun _ => True) C (kX1_isSacks l G p1 r2 hr2) (va_cwS 1 hts gX1_admit_X1_isSacks rfl rfl rfl (by decide +kernel) ⟨Nat.le_of_ble_eq_true rfl, Nat.le_of_ble_eq_true rfl⟩) trivial rfl hl.1 rfl (Nat.le_of_ble_eq_true rfl) dX1_admit_16 ⟨Nat.zero_le _, Nat.zero_le _⟩ ?_
    refine lv_if_eq (tgt := 29) hx hb dX1_admit_19 (by decide) (fun c3 => ?_) (fun c3 => ?_)
    · have h := ip h c3
      refine lv_bipush (v := (-2)) hx hb dX1_admit_29 (by decide) ?_
      cases h
      exact W.iret (v := (-2)) hx hb hr (fun t ht _ => ⟨rfl, by rw [ht]; exact X, hS.F ht⟩) hS.2.2 dX1_admit_31
    · have h := iq h c3
      refine lv_iload_n hx hb dX1_admit_22 rfl (lv_at hl 2 rfl) ?_
      obtain ⟨r4, hr4, h⟩ := ob h
      refine rowS (As := [.int p2]) (rest := []) (B := fun _ => True) C (kX1_isSacks l G p2 r4 hr4) (va_cwS 1 hts gX1_admit_X1_isSacks rfl rfl rfl (by decide +kernel) ⟨Nat.le_of_ble_eq_true rfl, Nat.le_of_ble_eq_true rfl⟩) trivial rfl hl.1 rfl (Nat.le_of_ble_eq_true rfl) dX1_admit_23 ⟨Nat.zero_le _, Nat.zero_le _⟩ ?_
      refine lv_if_ne (tgt := 32) hx hb dX1_admit_26 (by decide) (fun c5 => ?_) (fun c5 => ?_)
      · have h := iq h c5
        refine lv_aload_n hx hb dX1_admit_32 rfl (lv_at hl 0 rfl) ?_
        refine gt_X1_6 C hin X 1 rfl dX1_admit_33 ?_
        refine lv_bipush (v := 24) hx hb dX1_admit_36 (by decide) ?_
        refine lv_icmp_lt (tgt := 44) hx hb dX1_admit_38 (by decide) (fun c6 => ?_) (fun c6 => ?_)
        · have h := ip h c6
          refine lv_aload_n hx hb dX1_admit_44 rfl (lv_at hl 0 rfl) ?_
          refine gt_X1_6 C hin X 1 rfl dX1_admit_45 ?_
          refine lv_istore (lv' := [(4, .int (σ 6 0)), (0, .ref b), (1, .int p1), (2, .int p2), (3, .int p3)]) hx hb dX1_admit_48 hl (by decide) rfl (fun ls hl => ?_)
          refine lv_aload_n hx hb dX1_admit_50 rfl (lv_at hl 1 rfl) ?_
          refine lv_dup hx hb dX1_admit_51 rfl ?_
          refine gt_X1_6 C hin X 1 rfl dX1_admit_52 ?_
          refine lv_iconst (v := 1) hx hb dX1_admit_55 (by decide) ?_
          refine lv_iadd hx hb dX1_admit_56 ?_
          refine pt_X1_6 C hin X hS 1 rfl dX1_admit_57 (fun H locs X hS => ?_)
          refine lv_aload_n hx hb dX1_admit_60 rfl (lv_at hl 1 rfl) ?_
          refine gt_X1_1 C hin X 2 rfl dX1_admit_61 ?_
          refine lv_iload hx hb dX1_admit_64 (lv_at hl 0 rfl) ?_
          refine lv_iload_n hx hb dX1_admit_66 rfl (lv_at hl 2 rfl) ?_
          obtain ⟨c7, h⟩ := og h
          refine as_X1_1 C X hS rfl c7 dX1_admit_67 (fun H locs X hS => ?_)
          refine lv_aload_n hx hb dX1_admit_68 rfl (lv_at hl 1 rfl) ?_
          refine gt_X1_2 C hin X 3 rfl dX1_admit_69 ?_
          refine lv_iload hx hb dX1_admit_72 (lv_at hl 0 rfl) ?_
          refine lv_iload_n hx hb dX1_admit_74 rfl (lv_at hl 3 rfl) ?_
          obtain ⟨c8, h⟩ := og h
          refine as_X1_2 C X hS rfl c8 dX1_admit_75 (fun H locs X hS => ?_)
          refine lv_aload_n hx hb dX1_admit_76 rfl (lv_at hl 1 rfl) ?_
          refine gt_X1_3 C hin X 4 rfl dX1_admit_77 ?_
          refine lv_iload hx hb dX1_admit_80 (lv_at hl 0 rfl) ?_
          refine lv_iload_n hx hb dX1_admit_82 rfl (lv_at hl 4 rfl) ?_
          obtain ⟨c9, h⟩ := og h
          refine as_X1_3 C X hS rfl c9 dX1_admit_83 (fun H locs X hS => ?_)
          refine lv_aload_n hx hb dX1_admit_84 rfl (lv_at hl 1 rfl) ?_
          refine gt_X1_5 C hin X 5 rfl dX1_admit_85 ?_
          refine lv_iload hx hb dX1_admit_88 (lv_at hl 0 rfl) ?_
          refine lv_iconst (v := 0) hx hb dX1_admit_90 (by decide) ?_
          obtain ⟨c10, h⟩ := og h
          refine as_X1_5 C X hS rfl c10 dX1_admit_91 (fun H locs X hS => ?_)
          refine lv_aload_n hx hb dX1_admit_92 rfl (lv_at hl 1 rfl) ?_
          refine gt_X1_4 C hin X 6 rfl dX1_admit_93 ?_
          refine lv_iload hx hb dX1_admit_96 (lv_at hl 0 rfl) ?_
          refine lv_aload_n hx hb dX1_admit_98 rfl (lv_at hl 1 rfl) ?_
          refine lv_iload hx hb dX1_admit_99 (lv_at hl 0 rfl) ?_
          obtain ⟨r11, hr11, h⟩ := ob h
          refine rowV (As := [.int (σ 6 0)]) (rest := [.int (σ 6 0), .ref (b + 5)]) C (kX1_rightSeal l G b (up (up (up (up (up σ 6 0 ((σ 6 0) + 1)) 1 (σ 6 0).toNatClampNeg p1) 2 (σ 6 0).toNatClampNeg p2) 3 (σ 6 0).toNatClampNeg p3) 5 (σ 6 0).toNatClampNeg 0) (σ 6 0) r11 hr11) (cwV 1 hts gX1_admit_X1_rightSeal rfl rfl rfl (by decide +kernel) ⟨Nat.le_of_ble_eq_true rfl, Nat.le_of_ble_eq_true rfl⟩) (rcv_X1 X hK) X rfl hl.1 rfl (Nat.le_of_ble_eq_true rfl) dX1_admit_101 ⟨Nat.zero_le _, Nat.zero_le _⟩ ?_
          obtain ⟨c12, h⟩ := og h
          refine as_X1_4 C X hS rfl c12 dX1_admit_104 (fun H locs X hS => ?_)
          refine lv_aload_n hx hb dX1_admit_105 rfl (lv_at hl 1 rfl) ?_
          refine lv_dup hx hb dX1_admit_106 rfl ?_
          refine gt_X1_10 C hin X 7 rfl dX1_admit_107 ?_
          refine lv_iload_n hx hb dX1_admit_110 rfl (lv_at hl 2 rfl) ?_
          refine lv_iadd hx hb dX1_admit_111 ?_
          refine pt_X1_10 C hin X hS 7 rfl dX1_admit_112 (fun H locs X hS => ?_)
          refine lv_iload hx hb dX1_admit_115 (lv_at hl 0 rfl) ?_
          cases h
          exact W.iret (v := σ 6 0) hx hb hr (fun t ht _ => ⟨rfl, by rw [ht]; exact X, hS.F ht⟩) hS.2.2 dX1_admit_117
        · have h := iq h c6
          refine lv_bipush (v := (-3)) hx hb dX1_admit_41 (by decide) ?_
          cases h
          exact W.iret (v := (-3)) hx hb hr (fun t ht _ => ⟨rfl, by rw [ht]; exact X, hS.F ht⟩) hS.2.2 dX1_admit_43
      · have h := ip h c5
        refine lv_bipush (v := (-2)) hx hb dX1_admit_29 (by decide) ?_
        cases h
        exact W.iret (v := (-2)) hx hb hr (fun t ht _ => ⟨rfl, by rw [ht]; exact X, hS.F ht⟩) hS.2.2 dX1_admit_31
  · have h := iq h c1
    refine lv_aload_n hx hb dX1_admit_5 rfl (lv_at hl 0 rfl) ?_
    refine lv_iload_n hx hb dX1_admit_6 rfl (lv_at hl 3 rfl) ?_
    obtain ⟨r13, hr13, h⟩ := ob h
    refine rowV (As := [.int p3]) (rest := []) C (kX1_knows l G b σ p3 r13 hr13) (cwV 1 hts gX1_admit_X1_knows rfl rfl rfl (by decide +kernel) ⟨Nat.le_of_ble_eq_true rfl, Nat.le_of_ble_eq_true rfl⟩) (rcv_X1 X hK) X rfl hl.1 rfl (Nat.le_of_ble_eq_true rfl) dX1_admit_7 ⟨Nat.zero_le _, Nat.zero_le _⟩ ?_
    refine lv_if_ne (tgt := 15) hx hb dX1_admit_10 (by decide) (fun c14 => ?_) (fun c14 => ?_)
    · have h := iq h c14
      refine lv_iload_n hx hb dX1_admit_15 rfl (lv_at hl 1 rfl) ?_
      obtain ⟨r15, hr15, h⟩ := ob h
      refine rowS (As := [.int p1]) (rest := []) (B := fun _ => True) C (kX1_isSacks l G p1 r15 hr15) (va_cwS 1 hts gX1_admit_X1_isSacks rfl rfl rfl (by decide +kernel) ⟨Nat.le_of_ble_eq_true rfl, Nat.le_of_ble_eq_true rfl⟩) trivial rfl hl.1 rfl (Nat.le_of_ble_eq_true rfl) dX1_admit_16 ⟨Nat.zero_le _, Nat.zero_le _⟩ ?_
      refine lv_if_eq (tgt := 29) hx hb dX1_admit_19 (by decide) (fun c16 => ?_) (fun c16 => ?_)
      · have h := ip h c16
        refine lv_bipush (v := (-2)) hx hb dX1_admit_29 (by decide) ?_
        cases h
        exact W.iret (v := (-2)) hx hb hr (fun t ht _ => ⟨rfl, by rw [ht]; exact X, hS.F ht⟩) hS.2.2 dX1_admit_31
      · have h := iq h c16
        refine lv_iload_n hx hb dX1_admit_22 rfl (lv_at hl 2 rfl) ?_
        obtain ⟨r17, hr17, h⟩ := ob h
        refine rowS (As := [.int p2]) (rest := []) (B := fun _ => True) C (kX1_isSacks l G p2 r17 hr17) (va_cwS 1 hts gX1_admit_X1_isSacks rfl rfl rfl (by decide +kernel) ⟨Nat.le_of_ble_eq_true rfl, Nat.le_of_ble_eq_true rfl⟩) trivial rfl hl.1 rfl (Nat.le_of_ble_eq_true rfl) dX1_admit_23 ⟨Nat.zero_le _, Nat.zero_le _⟩ ?_
        refine lv_if_ne (tgt := 32) hx hb dX1_admit_26 (by decide) (fun c18 => ?_) (fun c18 => ?_)
        · have h := iq h c18
          refine lv_aload_n hx hb dX1_admit_32 rfl (lv_at hl 0 rfl) ?_
          refine gt_X1_6 C hin X 1 rfl dX1_admit_33 ?_
          refine lv_bipush (v := 24) hx hb dX1_admit_36 (by decide) ?_
          refine lv_icmp_lt (tgt := 44) hx hb dX1_admit_38 (by decide) (fun c19 => ?_) (fun c19 => ?_)
          · have h := ip h c19
            refine lv_aload_n hx hb dX1_admit_44 rfl (lv_at hl 0 rfl) ?_
            refine gt_X1_6 C hin X 1 rfl dX1_admit_45 ?_
            refine lv_istore (lv' := [(4, .int (σ 6 0)), (0, .ref b), (1, .int p1), (2, .int p2), (3, .int p3)]) hx hb dX1_admit_48 hl (by decide) rfl (fun ls hl => ?_)
            refine lv_aload_n hx hb dX1_admit_50 rfl (lv_at hl 1 rfl) ?_
            refine lv_dup hx hb dX1_admit_51 rfl ?_
            refine gt_X1_6 C hin X 1 rfl dX1_admit_52 ?_
            refine lv_iconst (v := 1) hx hb dX1_admit_55 (by decide) ?_
            refine lv_iadd hx hb dX1_admit_56 ?_
            refine pt_X1_6 C hin X hS 1 rfl dX1_admit_57 (fun H locs X hS => ?_)
            refine lv_aload_n hx hb dX1_admit_60 rfl (lv_at hl 1 rfl) ?_
            refine gt_X1_1 C hin X 2 rfl dX1_admit_61 ?_
            refine lv_iload hx hb dX1_admit_64 (lv_at hl 0 rfl) ?_
            refine lv_iload_n hx hb dX1_admit_66 rfl (lv_at hl 2 rfl) ?_
            obtain ⟨c20, h⟩ := og h
            refine as_X1_1 C X hS rfl c20 dX1_admit_67 (fun H locs X hS => ?_)
            refine lv_aload_n hx hb dX1_admit_68 rfl (lv_at hl 1 rfl) ?_
            refine gt_X1_2 C hin X 3 rfl dX1_admit_69 ?_
            refine lv_iload hx hb dX1_admit_72 (lv_at hl 0 rfl) ?_
            refine lv_iload_n hx hb dX1_admit_74 rfl (lv_at hl 3 rfl) ?_
            obtain ⟨c21, h⟩ := og h
            refine as_X1_2 C X hS rfl c21 dX1_admit_75 (fun H locs X hS => ?_)
            refine lv_aload_n hx hb dX1_admit_76 rfl (lv_at hl 1 rfl) ?_
            refine gt_X1_3 C hin X 4 rfl dX1_admit_77 ?_
            refine lv_iload hx hb dX1_admit_80 (lv_at hl 0 rfl) ?_
            refine lv_iload_n hx hb dX1_admit_82 rfl (lv_at hl 4 rfl) ?_
            obtain ⟨c22, h⟩ := og h
            refine as_X1_3 C X hS rfl c22 dX1_admit_83 (fun H locs X hS => ?_)
            refine lv_aload_n hx hb dX1_admit_84 rfl (lv_at hl 1 rfl) ?_
            refine gt_X1_5 C hin X 5 rfl dX1_admit_85 ?_
            refine lv_iload hx hb dX1_admit_88 (lv_at hl 0 rfl) ?_
            refine lv_iconst (v := 0) hx hb dX1_admit_90 (by decide) ?_
            obtain ⟨c23, h⟩ := og h
            refine as_X1_5 C X hS rfl c23 dX1_admit_91 (fun H locs X hS => ?_)
            refine lv_aload_n hx hb dX1_admit_92 rfl (lv_at hl 1 rfl) ?_
            refine gt_X1_4 C hin X 6 rfl dX1_admit_93 ?_
            refine lv_iload hx hb dX1_admit_96 (lv_at hl 0 rfl) ?_
            refine lv_aload_n hx hb dX1_admit_98 rfl (lv_at hl 1 rfl) ?_
            refine lv_iload hx hb dX1_admit_99 (lv_at hl 0 rfl) ?_
            obtain ⟨r24, hr24, h⟩ := ob h
            refine rowV (As := [.int (σ 6 0)]) (rest := [.int (σ 6 0), .ref (b + 5)]) C (kX1_rightSeal l G b (up (up (up (up (up σ 6 0 ((σ 6 0) + 1)) 1 (σ 6 0).toNatClampNeg p1) 2 (σ 6 0).toNatClampNeg p2) 3 (σ 6 0).toNatClampNeg p3) 5 (σ 6 0).toNatClampNeg 0) (σ 6 0) r24 hr24) (cwV 1 hts gX1_admit_X1_rightSeal rfl rfl rfl (by decide +kernel) ⟨Nat.le_of_ble_eq_true rfl, Nat.le_of_ble_eq_true rfl⟩) (rcv_X1 X hK) X rfl hl.1 rfl (Nat.le_of_ble_eq_true rfl) dX1_admit_101 ⟨Nat.zero_le _, Nat.zero_le _⟩ ?_
            obtain ⟨c25, h⟩ := og h
            refine as_X1_4 C X hS rfl c25 dX1_admit_104 (fun H locs X hS => ?_)
            refine lv_aload_n hx hb dX1_admit_105 rfl (lv_at hl 1 rfl) ?_
            refine lv_dup hx hb dX1_admit_106 rfl ?_
            refine gt_X1_10 C hin X 7 rfl dX1_admit_107 ?_
            refine lv_iload_n hx hb dX1_admit_110 rfl (lv_at hl 2 rfl) ?_
            refine lv_iadd hx hb dX1_admit_111 ?_
            refine pt_X1_10 C hin X hS 7 rfl dX1_admit_112 (fun H locs X hS => ?_)
            refine lv_iload hx hb dX1_admit_115 (lv_at hl 0 rfl) ?_
            cases h
            exact W.iret (v := σ 6 0) hx hb hr (fun t ht _ => ⟨rfl, by rw [ht]; exact X, hS.F ht⟩) hS.2.2 dX1_admit_117
          · have h := iq h c19
            refine lv_bipush (v := (-3)) hx hb dX1_admit_41 (by decide) ?_
            cases h
            exact W.iret (v := (-3)) hx hb hr (fun t ht _ => ⟨rfl, by rw [ht]; exact X, hS.F ht⟩) hS.2.2 dX1_admit_43
        · have h := ip h c18
          refine lv_bipush (v := (-2)) hx hb dX1_admit_29 (by decide) ?_
          cases h
          exact W.iret (v := (-2)) hx hb hr (fun t ht _ => ⟨rfl, by rw [ht]; exact X, hS.F ht⟩) hS.2.2 dX1_admit_31
    · have h := ip h c14
      refine lv_iconst (v := (-1)) hx hb dX1_admit_13 (by decide) ?_
      cases h
      exact W.iret (v := (-1)) hx hb hr (fun t ht _ => ⟨rfl, by rw [ht]; exact X, hS.F ht⟩) hS.2.2 dX1_admit_14

def fX1_bit (p1 : Int32) : Option (Int32) := some (1 <<< (p1 &&& 31))
set_option maxHeartbeats 4000000 in
set_option maxRecDepth 100000 in
theorem kX1_bit (l : Launch) (G : Gx) (p1 : Int32) (r : Int32) (h : fX1_bit p1 = some r) : Met l yX1_bit wsX1_bit (rmN 0) (pre G [.int p1] (fun _ => True)) (QcRead r) 0 0 (fun _ => False) := by
  refine Met.ofW (cc := cX1_bit) (maxL := 1) (ret := (some .int)) (by decide) rfl ?_
  intro p e s m args below meth c s₁ B hml hv
  obtain ⟨rfl, -, hK⟩ := hv
  have hx := B.exec
  have hb := B.bytes
  have hr := B.returns
  have hts := atoms_spec (ws := wsX1_bit) B.pre
  have hown : s.vm.findClass RX1 = some m.cls := findClass_of_methodNamed B.named
  have hlocks := B.notSynchronized
  have C : Cx p m c cX1_bit 1 s _ wsX1_bit RX1 G := ⟨⟨hx, hb, hml, hown, hts⟩, hK⟩
  have hl := lv_entry ([.int p1]) (n := 1) (Nat.le_of_ble_eq_true rfl)
  rw [lg_entry_eq]
  generalize (lg_sl ([.int p1]) ++ List.replicate (1 - (lg_sl ([.int p1])).length) Slot.unset).toArray = ls at hl ⊢
  have hl : lv_has ls 1 [(0, .int p1)] := hl
  unfold fX1_bit at h
  refine lv_iconst (v := 1) hx hb dX1_bit_0 (by decide) ?_
  refine lv_iload_n hx hb dX1_bit_1 rfl (lv_at hl 0 rfl) ?_
  refine lv_ishl hx hb dX1_bit_2 ?_
  cases h
  exact W.iret (v := 1 <<< (p1 &&& 31)) hx hb hr (fun t ht _ => ⟨rfl, ht⟩) (fun q h => absurd h List.not_mem_nil) dX1_bit_3

def fX1_isIn (p1 : Int32) (p2 : Int32) : Option (Int32) := (fX1_bit p2).bind (fun r1 => if (p1 &&& r1) = 0 then (some 0) else (some 1))
set_option maxHeartbeats 4000000 in
set_option maxRecDepth 100000 in
theorem kX1_isIn (l : Launch) (G : Gx) (p1 : Int32) (p2 : Int32) (r : Int32) (h : fX1_isIn p1 p2 = some r) : Met l yX1_isIn wsX1_isIn (rmN 1) (pre G [.int p1, .int p2] (fun _ => True)) (QcRead r) 0 0 (fun _ => False) := by
  refine Met.ofW (cc := cX1_isIn) (maxL := 2) (ret := (some .boolean)) (by decide) rfl ?_
  intro p e s m args below meth c s₁ B hml hv
  obtain ⟨rfl, -, hK⟩ := hv
  have hx := B.exec
  have hb := B.bytes
  have hr := B.returns
  have hts := atoms_spec (ws := wsX1_isIn) B.pre
  have hown : s.vm.findClass RX1 = some m.cls := findClass_of_methodNamed B.named
  have hlocks := B.notSynchronized
  have C : Cx p m c cX1_isIn 2 s _ wsX1_isIn RX1 G := ⟨⟨hx, hb, hml, hown, hts⟩, hK⟩
  have hl := lv_entry ([.int p1, .int p2]) (n := 2) (Nat.le_of_ble_eq_true rfl)
  rw [lg_entry_eq]
  generalize (lg_sl ([.int p1, .int p2]) ++ List.replicate (2 - (lg_sl ([.int p1, .int p2])).length) Slot.unset).toArray = ls at hl ⊢
  have hl : lv_has ls 2 [(0, .int p1), (1, .int p2)] := hl
  unfold fX1_isIn at h
  refine lv_iload_n hx hb dX1_isIn_0 rfl (lv_at hl 0 rfl) ?_
  refine lv_iload_n hx hb dX1_isIn_1 rfl (lv_at hl 1 rfl) ?_
  obtain ⟨r1, hr1, h⟩ := ob h
  refine rowS (As := [.int p2]) (rest := [.int p1]) (B := fun _ => True) C (kX1_bit l G p2 r1 hr1) (va_cwS 1 hts gX1_isIn_X1_bit rfl rfl rfl (by decide +kernel) ⟨Nat.le_of_ble_eq_true rfl, Nat.le_of_ble_eq_true rfl⟩) trivial rfl hl.1 rfl (Nat.le_of_ble_eq_true rfl) dX1_isIn_2 ⟨Nat.zero_le _, Nat.zero_le _⟩ ?_
  refine lv_iand hx hb dX1_isIn_5 ?_
  refine lv_if_eq (tgt := 13) hx hb dX1_isIn_6 (by decide) (fun c2 => ?_) (fun c2 => ?_)
  · have h := ip h c2
    refine lv_iconst (v := 0) hx hb dX1_isIn_13 (by decide) ?_
    cases h
    exact W.zret (v := 0) hx hb hr rfl (fun t ht _ => ⟨rfl, ht⟩) (fun q h => absurd h List.not_mem_nil) dX1_isIn_14
  · have h := iq h c2
    refine lv_iconst (v := 1) hx hb dX1_isIn_9 (by decide) ?_
    refine lv_goto (tgt := 14) hx hb dX1_isIn_10 (by decide) ?_
    cases h
    exact W.zret (v := 1) hx hb hr rfl (fun t ht _ => ⟨rfl, ht⟩) (fun q h => absurd h List.not_mem_nil) dX1_isIn_14

theorem in_X1_changeClaim : ∀ w ∈ wsX10, w ∈ wsX1_changeClaim := by decide +kernel
def fX1_changeClaim (σ : St) (p1 : Int32) (p2 : Int32) : Option (Int32 × St) := (fX1_knows σ p1).bind (fun r1 => if r1 = 0 then (some ((-1), σ)) else ((fX1_isSacks p2).bind (fun r3 => if r3 = 0 then (some ((-2), σ)) else ((fX1_isIn (σ 7 0) p1).bind (fun r5 => if r5 = 0 then (if oob p1 24 then none else if (σ 1 p1.toNatClampNeg) = p2 then (some ((-5), σ)) else (if oob p1 24 then none else some (σ 1 p1.toNatClampNeg, up σ 1 p1.toNatClampNeg p2))) else (some ((-4), σ)))))))
set_option maxHeartbeats 4000000 in
set_option maxRecDepth 100000 in
theorem kX1_changeClaim (l : Launch) (G : Gx) (b : Nat) (σ : St) (p1 : Int32) (p2 : Int32) (r : Int32) (σ' : St) (h : fX1_changeClaim σ p1 p2 = some (r, σ')) : Met l yX1_changeClaim wsX1_changeClaim (rmN 2) (pre G [.ref b, .int p1, .int p2] (hAt G b σ)) (QcW b (b + 7) (hAt G b σ') (some (.int r))) 0 0 (lw_Fr b (b + 7)) := by
  refine Met.ofW (cc := cX1_changeClaim) (maxL := 4) (ret := (some .int)) (by decide) rfl ?_
  intro p e s m args below meth c s₁ B hml hv
  obtain ⟨rfl, X, hK⟩ := hv
  have hx := B.exec
  have hb := B.bytes
  have hr := B.returns
  have hts := atoms_spec (ws := wsX1_changeClaim) B.pre
  have hown : s.vm.findClass RX1 = some m.cls := findClass_of_methodNamed B.named
  have hlocks := B.notSynchronized
  have C : Cx p m c cX1_changeClaim 4 s _ wsX1_changeClaim RX1 G := ⟨⟨hx, hb, hml, hown, hts⟩, hK⟩
  have hin : ∀ w ∈ wsX10, w ∈ wsX1_changeClaim := in_X1_changeClaim
  have hS : va_S (lw_Fr b (b + 7)) s.heap s.heap [] := va_S.rf
  have hl := lv_entry ([.ref b, .int p1, .int p2]) (n := 4) (Nat.le_of_ble_eq_true rfl)
  rw [lg_entry_eq]
  generalize (lg_sl ([.ref b, .int p1, .int p2]) ++ List.replicate (4 - (lg_sl ([.ref b, .int p1, .int p2])).length) Slot.unset).toArray = ls at hl ⊢
  have hl : lv_has ls 4 [(0, .ref b), (1, .int p1), (2, .int p2)] := hl
  unfold fX1_changeClaim at h
  refine lv_aload_n hx hb dX1_changeClaim_0 rfl (lv_at hl 0 rfl) ?_
  refine lv_iload_n hx hb dX1_changeClaim_1 rfl (lv_at hl 1 rfl) ?_
  obtain ⟨r1, hr1, h⟩ := ob h
  refine rowV (As := [.int p1]) (rest := []) C (kX1_knows l G b σ p1 r1 hr1) (cwV 1 hts gX1_changeClaim_X1_knows rfl rfl rfl (by decide +kernel) ⟨Nat.le_of_ble_eq_true rfl, Nat.le_of_ble_eq_true rfl⟩) (rcv_X1 X hK) X rfl hl.1 rfl (Nat.le_of_ble_eq_true rfl) dX1_changeClaim_2 ⟨Nat.zero_le _, Nat.zero_le _⟩ ?_
  refine lv_if_ne (tgt := 10) hx hb dX1_changeClaim_5 (by decide) (fun c2 => ?_) (fun c2 => ?_)
  · have h := iq h c2
    refine lv_iload_n hx hb dX1_changeClaim_10 rfl (lv_at hl 2 rfl) ?_
    obtain ⟨r3, hr3, h⟩ := ob h
    refine rowS (As := [.int p2]) (rest := []) (B := fun _ => True) C (kX1_isSacks l G p2 r3 hr3) (va_cwS 1 hts gX1_changeClaim_X1_isSacks rfl rfl rfl (by decide +kernel) ⟨Nat.le_of_ble_eq_true rfl, Nat.le_of_ble_eq_true rfl⟩) trivial rfl hl.1 rfl (Nat.le_of_ble_eq_true rfl) dX1_changeClaim_11 ⟨Nat.zero_le _, Nat.zero_le _⟩ ?_
    refine lv_if_ne (tgt := 20) hx hb dX1_changeClaim_14 (by decide) (fun c4 => ?_) (fun c4 => ?_)
    · have h := iq h c4
      refine lv_aload_n hx hb dX1_changeClaim_20 rfl (lv_at hl 0 rfl) ?_
      refine gt_X1_7 C hin X 1 rfl dX1_changeClaim_21 ?_
      refine lv_iload_n hx hb dX1_changeClaim_24 rfl (lv_at hl 1 rfl) ?_
      obtain ⟨r5, hr5, h⟩ := ob h
      refine rowS (As := [.int (σ 7 0), .int p1]) (rest := []) (B := fun _ => True) C (kX1_isIn l G (σ 7 0) p1 r5 hr5) (va_cwS 2 hts gX1_changeClaim_X1_isIn rfl rfl rfl (by decide +kernel) ⟨Nat.le_of_ble_eq_true rfl, Nat.le_of_ble_eq_true rfl⟩) trivial rfl hl.1 rfl (Nat.le_of_ble_eq_true rfl) dX1_changeClaim_25 ⟨Nat.zero_le _, Nat.zero_le _⟩ ?_
      refine lv_if_eq (tgt := 34) hx hb dX1_changeClaim_28 (by decide) (fun c6 => ?_) (fun c6 => ?_)
      · have h := ip h c6
        refine lv_aload_n hx hb dX1_changeClaim_34 rfl (lv_at hl 0 rfl) ?_
        refine gt_X1_1 C hin X 2 rfl dX1_changeClaim_35 ?_
        refine lv_iload_n hx hb dX1_changeClaim_38 rfl (lv_at hl 1 rfl) ?_
        obtain ⟨c7, h⟩ := og h
        refine al_X1_1 C X rfl c7 dX1_changeClaim_39 ?_
        refine lv_istore_n (lv' := [(3, .int (σ 1 p1.toNatClampNeg)), (0, .ref b), (1, .int p1), (2, .int p2)]) hx hb dX1_changeClaim_40 rfl hl (by decide) rfl (fun ls hl => ?_)
        refine lv_iload_n hx hb dX1_changeClaim_41 rfl (lv_at hl 0 rfl) ?_
        refine lv_iload_n hx hb dX1_changeClaim_42 rfl (lv_at hl 3 rfl) ?_
        refine lv_icmp_ne (tgt := 49) hx hb dX1_changeClaim_43 (by decide) (fun c8 => ?_) (fun c8 => ?_)
        · have h := iq h c8
          refine lv_aload_n hx hb dX1_changeClaim_49 rfl (lv_at hl 1 rfl) ?_
          refine gt_X1_1 C hin X 2 rfl dX1_changeClaim_50 ?_
          refine lv_iload_n hx hb dX1_changeClaim_53 rfl (lv_at hl 2 rfl) ?_
          refine lv_iload_n hx hb dX1_changeClaim_54 rfl (lv_at hl 3 rfl) ?_
          obtain ⟨c9, h⟩ := og h
          refine as_X1_1 C X hS rfl c9 dX1_changeClaim_55 (fun H locs X hS => ?_)
          refine lv_iload_n hx hb dX1_changeClaim_56 rfl (lv_at hl 0 rfl) ?_
          cases h
          exact W.iret (v := σ 1 p1.toNatClampNeg) hx hb hr (fun t ht _ => ⟨rfl, by rw [ht]; exact X, hS.F ht⟩) hS.2.2 dX1_changeClaim_57
        · have h := ip h c8
          refine lv_bipush (v := (-5)) hx hb dX1_changeClaim_46 (by decide) ?_
          cases h
          exact W.iret (v := (-5)) hx hb hr (fun t ht _ => ⟨rfl, by rw [ht]; exact X, hS.F ht⟩) hS.2.2 dX1_changeClaim_48
      · have h := iq h c6
        refine lv_bipush (v := (-4)) hx hb dX1_changeClaim_31 (by decide) ?_
        cases h
        exact W.iret (v := (-4)) hx hb hr (fun t ht _ => ⟨rfl, by rw [ht]; exact X, hS.F ht⟩) hS.2.2 dX1_changeClaim_33
    · have h := ip h c4
      refine lv_bipush (v := (-2)) hx hb dX1_changeClaim_17 (by decide) ?_
      cases h
      exact W.iret (v := (-2)) hx hb hr (fun t ht _ => ⟨rfl, by rw [ht]; exact X, hS.F ht⟩) hS.2.2 dX1_changeClaim_19
  · have h := ip h c2
    refine lv_iconst (v := (-1)) hx hb dX1_changeClaim_8 (by decide) ?_
    cases h
    exact W.iret (v := (-1)) hx hb hr (fun t ht _ => ⟨rfl, by rw [ht]; exact X, hS.F ht⟩) hS.2.2 dX1_changeClaim_9
