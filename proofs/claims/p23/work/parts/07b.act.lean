def fL_act (σ : XS) (p1 : Int32) (p2 : Int32) : Option (Int32 × XS) := (fX3_total σ 5).bind (fun q1 => (fL_low (p1 >>> ((4 : Int32) &&& 31)) (q1 + 1)).bind (fun q2 => if (p1 &&& 15) = 0 then ((fL_low p2 20).bind (fun q4 => (if ((p2 >>> ((5 : Int32) &&& 31)) &&& 3) ≤ 0 then ((fL_low (p2 >>> ((7 : Int32) &&& 31)) 102).bind (fun q7 => some q7)) else (some q4)).bind (fun w5 : Int32 => (if ((p2 >>> ((19 : Int32) &&& 31)) &&& 3) ≤ 0 then ((fL_low (p2 >>> ((12 : Int32) &&& 31)) (q1 + 2)).bind (fun q10 => some (q10 - 1))) else (some (q1 - 1))).bind (fun w8 : Int32 => (fX3_come σ q4 w5 w8).bind (fun q11 => some (q11.1, q11.2)))))) else if (p1 &&& 15) = 1 then ((fL_low p2 20).bind (fun q13 => (if ((p2 >>> ((5 : Int32) &&& 31)) &&& 3) ≤ 0 then ((fL_low (p2 >>> ((7 : Int32) &&& 31)) 102).bind (fun q16 => some q16)) else (some q13)).bind (fun w14 : Int32 => (if ((p2 >>> ((19 : Int32) &&& 31)) &&& 3) ≤ 0 then ((fL_low (p2 >>> ((12 : Int32) &&& 31)) (q1 + 2)).bind (fun q19 => some (q19 - 1))) else (some (q1 - 1))).bind (fun w17 : Int32 => (fX3_come σ q13 w14 w17).bind (fun q20 => some (q20.1, q20.2)))))) else if (p1 &&& 15) = 2 then ((fL_low p2 20).bind (fun q22 => (if ((p2 >>> ((5 : Int32) &&& 31)) &&& 3) ≤ 0 then ((fL_low (p2 >>> ((7 : Int32) &&& 31)) 102).bind (fun q25 => some q25)) else (some q22)).bind (fun w23 : Int32 => (if ((p2 >>> ((19 : Int32) &&& 31)) &&& 3) ≤ 0 then ((fL_low (p2 >>> ((12 : Int32) &&& 31)) (q1 + 2)).bind (fun q28 => some (q28 - 1))) else (some (q1 - 1))).bind (fun w26 : Int32 => (fX3_come σ q22 w23 w26).bind (fun q29 => some (q29.1, q29.2)))))) else if (p1 &&& 15) = 3 then ((fL_low p2 20).bind (fun q31 => (if ((p2 >>> ((5 : Int32) &&& 31)) &&& 3) ≤ 0 then ((fL_low (p2 >>> ((7 : Int32) &&& 31)) 102).bind (fun q34 => some q34)) else (some q31)).bind (fun w32 : Int32 => (if ((p2 >>> ((19 : Int32) &&& 31)) &&& 3) ≤ 0 then ((fL_low (p2 >>> ((12 : Int32) &&& 31)) (q1 + 2)).bind (fun q37 => some (q37 - 1))) else (some (q1 - 1))).bind (fun w35 : Int32 => (fX3_come σ q31 w32 w35).bind (fun q38 => some (q38.1, q38.2)))))) else if (p1 &&& 15) = 4 then ((fL_low p2 20).bind (fun q40 => (if ((p2 >>> ((5 : Int32) &&& 31)) &&& 3) ≤ 0 then ((fL_low (p2 >>> ((7 : Int32) &&& 31)) 102).bind (fun q43 => some q43)) else (some q40)).bind (fun w41 : Int32 => (if ((p2 >>> ((19 : Int32) &&& 31)) &&& 3) ≤ 0 then ((fL_low (p2 >>> ((12 : Int32) &&& 31)) (q1 + 2)).bind (fun q46 => some (q46 - 1))) else (some (q1 - 1))).bind (fun w44 : Int32 => (fX3_come σ q40 w41 w44).bind (fun q47 => some (q47.1, q47.2)))))) else if (p1 &&& 15) = 5 then ((if ((p2 >>> ((20 : Int32) &&& 31)) &&& 1) = 0 then (some 20) else (some 102)).bind (fun w49 : Int32 => (fL_low p2 w49).bind (fun q51 => (fX3_alter σ q2 q51).bind (fun q52 => some (q52.1, q52.2))))) else if (p1 &&& 15) = 6 then ((if ((p2 >>> ((20 : Int32) &&& 31)) &&& 1) = 0 then (some 20) else (some 102)).bind (fun w54 : Int32 => (fL_low p2 w54).bind (fun q56 => (fX3_alter σ q2 q56).bind (fun q57 => some (q57.1, q57.2))))) else if (p1 &&& 15) = 7 then (if (p2 &&& 3) = 0 then ((fX3_restore σ).bind (fun q61 => some (q61.1, q61.2))) else ((fX3_reseal σ q2).bind (fun q60 => some (q60.1, q60.2)))) else if (p1 &&& 15) = 8 then ((fX3_reseal σ q2).bind (fun q63 => some (q63.1, q63.2))) else if (p1 &&& 15) = 9 then ((fX3_reseal σ q2).bind (fun q65 => some (q65.1, q65.2))) else if (p1 &&& 15) = 10 then ((fX3_open σ q2).bind (fun q67 => some (q67.1, q67.2))) else if (p1 &&& 15) = 11 then ((fX3_open σ q2).bind (fun q69 => some (q69.1, q69.2))) else if (p1 &&& 15) = 12 then ((fX3_open σ q2).bind (fun q71 => some (q71.1, q71.2))) else if (p1 &&& 15) = 13 then ((fL_low p2 6).bind (fun q73 => (fL_low (p2 >>> ((3 : Int32) &&& 31)) 102).bind (fun q74 => (fX3_set σ q73 q74).bind (fun q75 => some (q75.1, q75.2))))) else if (p1 &&& 15) = 14 then (if (p2 &&& 1) = 0 then ((fX3_openAll σ).bind (fun q78 => some (q78.1, q78.2))) else (some ((-5), σ))) else ((fX3_sameSeal σ q2).bind (fun q79 => if 0 ≤ q79 then ((fX3_alter σ q2 q79).bind (fun q81 => some (q81.1, q81.2))) else (some (q79, σ))))))
set_option maxHeartbeats 4000000 in
set_option maxRecDepth 100000 in
theorem kL_act (l : Launch) (G : Gx) (A0 : Nat → Prop) (b : Nat) (σ : XS) (p1 : Int32) (p2 : Int32) (r : Int32) (σ' : XS) (hA0 : ∀ q, lw_Fr b (b + 54) q → A0 q) (h : fL_act σ p1 p2 = some (r, σ')) : Met l yL_act wsL_act (rmN 7) (preS G [.ref b, .int p1, .int p2] (xAt G b σ) A0) (QcW b (b + 54) (xAt G b σ') (some (.int r))) 0 0 (lw_Fr b (b + 54)) := by
  refine Met.ofW (cc := cL_act) (maxL := 8) (ret := (some .int)) (by decide) rfl ?_
  intro p e s m args below meth c s₁ B hml hv
  obtain ⟨rfl, X, hK, hst⟩ := hv
  have hx := B.exec
  have hb := B.bytes
  have hr := B.returns
  have hts := atoms_spec (ws := wsL_act) B.pre
  have hown : s.vm.findClass RL = some m.cls := findClass_of_methodNamed B.named
  have hlocks := B.notSynchronized
  have C : Cx p m c cL_act 8 s _ wsL_act RL G := ⟨⟨hx, hb, hml, hown, hts⟩, hK⟩
  have hS : va_S (lw_Fr b (b + 54)) s.heap s.heap [] := va_S.rf
  have hl := lv_entry ([.ref b, .int p1, .int p2]) (n := 8) (Nat.le_of_ble_eq_true rfl)
  rw [lg_entry_eq]
  generalize (lg_sl ([.ref b, .int p1, .int p2]) ++ List.replicate (8 - (lg_sl ([.ref b, .int p1, .int p2])).length) Slot.unset).toArray = ls at hl ⊢
  have hl : lv_has ls 8 [(0, .ref b), (1, .int p1), (2, .int p2)] := hl
  unfold fL_act at h
  refine lv_aload_n hx hb dL_act_0 rfl (lv_at hl 0 rfl) ?_
  refine lv_iconst (v := 5) hx hb dL_act_1 (by decide) ?_
  obtain ⟨q1, hq1, h⟩ := ob h
  refine rowV (As := [.int 5]) (rest := []) C (kX3_total l G b σ 5 q1 hq1) (cwV 1 hts gL_act_X3_total rfl rfl rfl (by decide +kernel) ⟨Nat.le_of_ble_eq_true rfl, Nat.le_of_ble_eq_true rfl⟩) (rcv_X3 X hK) X rfl hl.1 rfl (Nat.le_of_ble_eq_true rfl) dL_act_2 ⟨Nat.zero_le _, Nat.zero_le _⟩ ?_
  refine lv_istore_n (lv' := [(3, .int q1), (0, .ref b), (1, .int p1), (2, .int p2)]) hx hb dL_act_5 rfl hl (by decide) rfl (fun ls hl => ?_)
  refine lv_iload_n hx hb dL_act_6 rfl (lv_at hl 2 rfl) ?_
  refine lv_iconst (v := 4) hx hb dL_act_7 (by decide) ?_
  refine lv_ishr hx hb dL_act_8 ?_
  refine lv_iload_n hx hb dL_act_9 rfl (lv_at hl 0 rfl) ?_
  refine lv_iconst (v := 1) hx hb dL_act_10 (by decide) ?_
  refine lv_iadd hx hb dL_act_11 ?_
  obtain ⟨q2, hq2, h⟩ := ob h
  refine rowS (As := [.int (p1 >>> ((4 : Int32) &&& 31)), .int (q1 + 1)]) (rest := []) (B := fun _ => True) C (kL_low l G (p1 >>> ((4 : Int32) &&& 31)) (q1 + 1) q2 hq2) (va_cwS 2 hts gL_act_L_low rfl rfl rfl (by decide +kernel) ⟨Nat.le_of_ble_eq_true rfl, Nat.le_of_ble_eq_true rfl⟩) trivial rfl hl.1 rfl (Nat.le_of_ble_eq_true rfl) dL_act_12 ⟨Nat.zero_le _, Nat.zero_le _⟩ ?_
  refine lv_istore (lv' := [(4, .int q2), (3, .int q1), (0, .ref b), (1, .int p1), (2, .int p2)]) hx hb dL_act_15 hl (by decide) rfl (fun ls hl => ?_)
  refine lv_iload_n hx hb dL_act_17 rfl (lv_at hl 3 rfl) ?_
  refine lv_bipush (v := 15) hx hb dL_act_18 (by decide) ?_
  refine lv_iand hx hb dL_act_20 ?_
  by_cases c3 : (p1 &&& 15) = 0
  · have h := ip h c3
    refine rowTab (K := 0) (off := 75) (tgt := 96) hx hb c3 dL_act_21 (by decide) (by decide) (by decide) (by decide) ?_
    refine lv_iload_n hx hb dL_act_96 rfl (lv_at hl 4 rfl) ?_
    refine lv_bipush (v := 20) hx hb dL_act_97 (by decide) ?_
    obtain ⟨q4, hq4, h⟩ := ob h
    refine rowS (As := [.int p2, .int 20]) (rest := []) (B := fun _ => True) C (kL_low l G p2 20 q4 hq4) (va_cwS 2 hts gL_act_L_low rfl rfl rfl (by decide +kernel) ⟨Nat.le_of_ble_eq_true rfl, Nat.le_of_ble_eq_true rfl⟩) trivial rfl hl.1 rfl (Nat.le_of_ble_eq_true rfl) dL_act_99 ⟨Nat.zero_le _, Nat.zero_le _⟩ ?_
    refine lv_istore (lv' := [(5, .int q4), (4, .int q2), (3, .int q1), (0, .ref b), (1, .int p1), (2, .int p2)]) hx hb dL_act_102 hl (by decide) rfl (fun ls hl => ?_)
    refine lv_iload_n hx hb dL_act_104 rfl (lv_at hl 5 rfl) ?_
    refine lv_iconst (v := 5) hx hb dL_act_105 (by decide) ?_
    refine lv_ishr hx hb dL_act_106 ?_
    refine lv_iconst (v := 3) hx hb dL_act_107 (by decide) ?_
    refine lv_iand hx hb dL_act_108 ?_
    obtain ⟨w5, hw5, h⟩ := ob h
    have jw5 : W p l e (rmN 7) s m #[Value.ref b, Value.int p1, Value.int p2] below meth c s.heap [] 0 0 (MQ below (QcW b (b + 54) (xAt G b σ') (some (.int r))) #[Value.ref b, Value.int p1, Value.int p2] s 0 0 (lw_Fr b (b + 54))) (F0 m 126 ls [.int w5]) := by
      refine lv_istore (lv' := [(6, .int w5), (5, .int q4), (4, .int q2), (3, .int q1), (0, .ref b), (1, .int p1), (2, .int p2)]) hx hb dL_act_126 hl (by decide) rfl (fun ls hl => ?_)
      refine lv_aload_n hx hb dL_act_128 rfl (lv_at hl 4 rfl) ?_
      refine lv_iload hx hb dL_act_129 (lv_at hl 1 rfl) ?_
      refine lv_iload hx hb dL_act_131 (lv_at hl 0 rfl) ?_
      refine lv_iload_n hx hb dL_act_133 rfl (lv_at hl 6 rfl) ?_
      refine lv_bipush (v := 19) hx hb dL_act_134 (by decide) ?_
      refine lv_ishr hx hb dL_act_136 ?_
      refine lv_iconst (v := 3) hx hb dL_act_137 (by decide) ?_
      refine lv_iand hx hb dL_act_138 ?_
      obtain ⟨w8, hw8, h⟩ := ob h
      have jw8 : W p l e (rmN 7) s m #[Value.ref b, Value.int p1, Value.int p2] below meth c s.heap [] 0 0 (MQ below (QcW b (b + 54) (xAt G b σ') (some (.int r))) #[Value.ref b, Value.int p1, Value.int p2] s 0 0 (lw_Fr b (b + 54))) (F0 m 160 ls [.int w8, .int w5, .int q4, .ref b]) := by
        obtain ⟨q11, hq11, h⟩ := ob h
        refine rowW (As := [.int q4, .int w5, .int w8]) (rest := []) C (kX3_come l G b σ q4 w5 w8 q11.1 q11.2 hq11) (cwV 3 hts gL_act_X3_come rfl rfl rfl (by decide +kernel) ⟨Nat.le_of_ble_eq_true rfl, Nat.le_of_ble_eq_true rfl⟩) (rcv_X3 X hK) X hS (fun _ z => z) rfl hl.1 rfl (Nat.le_of_ble_eq_true rfl) dL_act_160 ⟨Nat.zero_le _, Nat.zero_le _⟩ (fun H locs X hS _ _ => ?_)
        show W p l e _ s m _ below meth c H locs 0 0 _ (F0 m 163 ls [.int q11.1])
        obtain ⟨h, h9⟩ := pr h
        subst h
        subst h9
        exact W.iret hx hb hr (fun t ht _ => ⟨rfl, by rw [ht]; exact X, hS.F ht⟩) hS.2.2 dL_act_163
      have h := hw8
      refine lv_if_le (tgt := 148) hx hb dL_act_139 (by decide) (fun c9 => ?_) (fun c9 => ?_)
      · have h := ip h c9
        refine lv_iload_n hx hb dL_act_148 rfl (lv_at hl 6 rfl) ?_
        refine lv_bipush (v := 12) hx hb dL_act_149 (by decide) ?_
        refine lv_ishr hx hb dL_act_151 ?_
        refine lv_iload_n hx hb dL_act_152 rfl (lv_at hl 3 rfl) ?_
        refine lv_iconst (v := 2) hx hb dL_act_153 (by decide) ?_
        refine lv_iadd hx hb dL_act_154 ?_
        obtain ⟨q10, hq10, h⟩ := ob h
        refine rowS (As := [.int (p2 >>> ((12 : Int32) &&& 31)), .int (q1 + 2)]) (rest := [.int w5, .int q4, .ref b]) (B := fun _ => True) C (kL_low l G (p2 >>> ((12 : Int32) &&& 31)) (q1 + 2) q10 hq10) (va_cwS 2 hts gL_act_L_low rfl rfl rfl (by decide +kernel) ⟨Nat.le_of_ble_eq_true rfl, Nat.le_of_ble_eq_true rfl⟩) trivial rfl hl.1 rfl (Nat.le_of_ble_eq_true rfl) dL_act_155 ⟨Nat.zero_le _, Nat.zero_le _⟩ ?_
        refine lv_iconst (v := 1) hx hb dL_act_158 (by decide) ?_
        refine lv_isub hx hb dL_act_159 ?_
        have h := so h
        subst h
        exact jw8
      · have h := iq h c9
        refine lv_iload_n hx hb dL_act_142 rfl (lv_at hl 3 rfl) ?_
        refine lv_iconst (v := 1) hx hb dL_act_143 (by decide) ?_
        refine lv_isub hx hb dL_act_144 ?_
        refine lv_goto (tgt := 160) hx hb dL_act_145 (by decide) ?_
        have h := so h
        subst h
        exact jw8
    have h := hw5
    refine lv_if_le (tgt := 117) hx hb dL_act_109 (by decide) (fun c6 => ?_) (fun c6 => ?_)
    · have h := ip h c6
      refine lv_iload_n hx hb dL_act_117 rfl (lv_at hl 5 rfl) ?_
      refine lv_bipush (v := 7) hx hb dL_act_118 (by decide) ?_
      refine lv_ishr hx hb dL_act_120 ?_
      refine lv_bipush (v := 102) hx hb dL_act_121 (by decide) ?_
      obtain ⟨q7, hq7, h⟩ := ob h
      refine rowS (As := [.int (p2 >>> ((7 : Int32) &&& 31)), .int 102]) (rest := []) (B := fun _ => True) C (kL_low l G (p2 >>> ((7 : Int32) &&& 31)) 102 q7 hq7) (va_cwS 2 hts gL_act_L_low rfl rfl rfl (by decide +kernel) ⟨Nat.le_of_ble_eq_true rfl, Nat.le_of_ble_eq_true rfl⟩) trivial rfl hl.1 rfl (Nat.le_of_ble_eq_true rfl) dL_act_123 ⟨Nat.zero_le _, Nat.zero_le _⟩ ?_
      have h := so h
      subst h
      exact jw5
    · have h := iq h c6
      refine lv_iload hx hb dL_act_112 (lv_at hl 0 rfl) ?_
      refine lv_goto (tgt := 126) hx hb dL_act_114 (by decide) ?_
      have h := so h
      subst h
      exact jw5
  · have h := iq h c3
    by_cases c12 : (p1 &&& 15) = 1
    · have h := ip h c12
      refine rowTab (K := 1) (off := 75) (tgt := 96) hx hb c12 dL_act_21 (by decide) (by decide) (by decide) (by decide) ?_
      refine lv_iload_n hx hb dL_act_96 rfl (lv_at hl 4 rfl) ?_
      refine lv_bipush (v := 20) hx hb dL_act_97 (by decide) ?_
      obtain ⟨q13, hq13, h⟩ := ob h
      refine rowS (As := [.int p2, .int 20]) (rest := []) (B := fun _ => True) C (kL_low l G p2 20 q13 hq13) (va_cwS 2 hts gL_act_L_low rfl rfl rfl (by decide +kernel) ⟨Nat.le_of_ble_eq_true rfl, Nat.le_of_ble_eq_true rfl⟩) trivial rfl hl.1 rfl (Nat.le_of_ble_eq_true rfl) dL_act_99 ⟨Nat.zero_le _, Nat.zero_le _⟩ ?_
      refine lv_istore (lv' := [(5, .int q13), (4, .int q2), (3, .int q1), (0, .ref b), (1, .int p1), (2, .int p2)]) hx hb dL_act_102 hl (by decide) rfl (fun ls hl => ?_)
      refine lv_iload_n hx hb dL_act_104 rfl (lv_at hl 5 rfl) ?_
      refine lv_iconst (v := 5) hx hb dL_act_105 (by decide) ?_
      refine lv_ishr hx hb dL_act_106 ?_
      refine lv_iconst (v := 3) hx hb dL_act_107 (by decide) ?_
      refine lv_iand hx hb dL_act_108 ?_
      obtain ⟨w14, hw14, h⟩ := ob h
      have jw14 : W p l e (rmN 7) s m #[Value.ref b, Value.int p1, Value.int p2] below meth c s.heap [] 0 0 (MQ below (QcW b (b + 54) (xAt G b σ') (some (.int r))) #[Value.ref b, Value.int p1, Value.int p2] s 0 0 (lw_Fr b (b + 54))) (F0 m 126 ls [.int w14]) := by
        refine lv_istore (lv' := [(6, .int w14), (5, .int q13), (4, .int q2), (3, .int q1), (0, .ref b), (1, .int p1), (2, .int p2)]) hx hb dL_act_126 hl (by decide) rfl (fun ls hl => ?_)
        refine lv_aload_n hx hb dL_act_128 rfl (lv_at hl 4 rfl) ?_
        refine lv_iload hx hb dL_act_129 (lv_at hl 1 rfl) ?_
        refine lv_iload hx hb dL_act_131 (lv_at hl 0 rfl) ?_
        refine lv_iload_n hx hb dL_act_133 rfl (lv_at hl 6 rfl) ?_
        refine lv_bipush (v := 19) hx hb dL_act_134 (by decide) ?_
        refine lv_ishr hx hb dL_act_136 ?_
        refine lv_iconst (v := 3) hx hb dL_act_137 (by decide) ?_
        refine lv_iand hx hb dL_act_138 ?_
        obtain ⟨w17, hw17, h⟩ := ob h
        have jw17 : W p l e (rmN 7) s m #[Value.ref b, Value.int p1, Value.int p2] below meth c s.heap [] 0 0 (MQ below (QcW b (b + 54) (xAt G b σ') (some (.int r))) #[Value.ref b, Value.int p1, Value.int p2] s 0 0 (lw_Fr b (b + 54))) (F0 m 160 ls [.int w17, .int w14, .int q13, .ref b]) := by
          obtain ⟨q20, hq20, h⟩ := ob h
          refine rowW (As := [.int q13, .int w14, .int w17]) (rest := []) C (kX3_come l G b σ q13 w14 w17 q20.1 q20.2 hq20) (cwV 3 hts gL_act_X3_come rfl rfl rfl (by decide +kernel) ⟨Nat.le_of_ble_eq_true rfl, Nat.le_of_ble_eq_true rfl⟩) (rcv_X3 X hK) X hS (fun _ z => z) rfl hl.1 rfl (Nat.le_of_ble_eq_true rfl) dL_act_160 ⟨Nat.zero_le _, Nat.zero_le _⟩ (fun H locs X hS _ _ => ?_)
          show W p l e _ s m _ below meth c H locs 0 0 _ (F0 m 163 ls [.int q20.1])
          obtain ⟨h, h9⟩ := pr h
          subst h
          subst h9
          exact W.iret hx hb hr (fun t ht _ => ⟨rfl, by rw [ht]; exact X, hS.F ht⟩) hS.2.2 dL_act_163
        have h := hw17
        refine lv_if_le (tgt := 148) hx hb dL_act_139 (by decide) (fun c18 => ?_) (fun c18 => ?_)
        · have h := ip h c18
          refine lv_iload_n hx hb dL_act_148 rfl (lv_at hl 6 rfl) ?_
          refine lv_bipush (v := 12) hx hb dL_act_149 (by decide) ?_
          refine lv_ishr hx hb dL_act_151 ?_
          refine lv_iload_n hx hb dL_act_152 rfl (lv_at hl 3 rfl) ?_
          refine lv_iconst (v := 2) hx hb dL_act_153 (by decide) ?_
          refine lv_iadd hx hb dL_act_154 ?_
          obtain ⟨q19, hq19, h⟩ := ob h
          refine rowS (As := [.int (p2 >>> ((12 : Int32) &&& 31)), .int (q1 + 2)]) (rest := [.int w14, .int q13, .ref b]) (B := fun _ => True) C (kL_low l G (p2 >>> ((12 : Int32) &&& 31)) (q1 + 2) q19 hq19) (va_cwS 2 hts gL_act_L_low rfl rfl rfl (by decide +kernel) ⟨Nat.le_of_ble_eq_true rfl, Nat.le_of_ble_eq_true rfl⟩) trivial rfl hl.1 rfl (Nat.le_of_ble_eq_true rfl) dL_act_155 ⟨Nat.zero_le _, Nat.zero_le _⟩ ?_
          refine lv_iconst (v := 1) hx hb dL_act_158 (by decide) ?_
          refine lv_isub hx hb dL_act_159 ?_
          have h := so h
          subst h
          exact jw17
        · have h := iq h c18
          refine lv_iload_n hx hb dL_act_142 rfl (lv_at hl 3 rfl) ?_
          refine lv_iconst (v := 1) hx hb dL_act_143 (by decide) ?_
          refine lv_isub hx hb dL_act_144 ?_
          refine lv_goto (tgt := 160) hx hb dL_act_145 (by decide) ?_
          have h := so h
          subst h
          exact jw17
      have h := hw14
      refine lv_if_le (tgt := 117) hx hb dL_act_109 (by decide) (fun c15 => ?_) (fun c15 => ?_)
      · have h := ip h c15
        refine lv_iload_n hx hb dL_act_117 rfl (lv_at hl 5 rfl) ?_
        refine lv_bipush (v := 7) hx hb dL_act_118 (by decide) ?_
        refine lv_ishr hx hb dL_act_120 ?_
        refine lv_bipush (v := 102) hx hb dL_act_121 (by decide) ?_
        obtain ⟨q16, hq16, h⟩ := ob h
        refine rowS (As := [.int (p2 >>> ((7 : Int32) &&& 31)), .int 102]) (rest := []) (B := fun _ => True) C (kL_low l G (p2 >>> ((7 : Int32) &&& 31)) 102 q16 hq16) (va_cwS 2 hts gL_act_L_low rfl rfl rfl (by decide +kernel) ⟨Nat.le_of_ble_eq_true rfl, Nat.le_of_ble_eq_true rfl⟩) trivial rfl hl.1 rfl (Nat.le_of_ble_eq_true rfl) dL_act_123 ⟨Nat.zero_le _, Nat.zero_le _⟩ ?_
        have h := so h
        subst h
        exact jw14
      · have h := iq h c15
        refine lv_iload hx hb dL_act_112 (lv_at hl 0 rfl) ?_
        refine lv_goto (tgt := 126) hx hb dL_act_114 (by decide) ?_
        have h := so h
        subst h
        exact jw14
    · have h := iq h c12
      by_cases c21 : (p1 &&& 15) = 2
      · have h := ip h c21
        refine rowTab (K := 2) (off := 75) (tgt := 96) hx hb c21 dL_act_21 (by decide) (by decide) (by decide) (by decide) ?_
        refine lv_iload_n hx hb dL_act_96 rfl (lv_at hl 4 rfl) ?_
        refine lv_bipush (v := 20) hx hb dL_act_97 (by decide) ?_
        obtain ⟨q22, hq22, h⟩ := ob h
        refine rowS (As := [.int p2, .int 20]) (rest := []) (B := fun _ => True) C (kL_low l G p2 20 q22 hq22) (va_cwS 2 hts gL_act_L_low rfl rfl rfl (by decide +kernel) ⟨Nat.le_of_ble_eq_true rfl, Nat.le_of_ble_eq_true rfl⟩) trivial rfl hl.1 rfl (Nat.le_of_ble_eq_true rfl) dL_act_99 ⟨Nat.zero_le _, Nat.zero_le _⟩ ?_
        refine lv_istore (lv' := [(5, .int q22), (4, .int q2), (3, .int q1), (0, .ref b), (1, .int p1), (2, .int p2)]) hx hb dL_act_102 hl (by decide) rfl (fun ls hl => ?_)
        refine lv_iload_n hx hb dL_act_104 rfl (lv_at hl 5 rfl) ?_
        refine lv_iconst (v := 5) hx hb dL_act_105 (by decide) ?_
        refine lv_ishr hx hb dL_act_106 ?_
        refine lv_iconst (v := 3) hx hb dL_act_107 (by decide) ?_
        refine lv_iand hx hb dL_act_108 ?_
        obtain ⟨w23, hw23, h⟩ := ob h
        have jw23 : W p l e (rmN 7) s m #[Value.ref b, Value.int p1, Value.int p2] below meth c s.heap [] 0 0 (MQ below (QcW b (b + 54) (xAt G b σ') (some (.int r))) #[Value.ref b, Value.int p1, Value.int p2] s 0 0 (lw_Fr b (b + 54))) (F0 m 126 ls [.int w23]) := by
          refine lv_istore (lv' := [(6, .int w23), (5, .int q22), (4, .int q2), (3, .int q1), (0, .ref b), (1, .int p1), (2, .int p2)]) hx hb dL_act_126 hl (by decide) rfl (fun ls hl => ?_)
          refine lv_aload_n hx hb dL_act_128 rfl (lv_at hl 4 rfl) ?_
          refine lv_iload hx hb dL_act_129 (lv_at hl 1 rfl) ?_
          refine lv_iload hx hb dL_act_131 (lv_at hl 0 rfl) ?_
          refine lv_iload_n hx hb dL_act_133 rfl (lv_at hl 6 rfl) ?_
          refine lv_bipush (v := 19) hx hb dL_act_134 (by decide) ?_
          refine lv_ishr hx hb dL_act_136 ?_
          refine lv_iconst (v := 3) hx hb dL_act_137 (by decide) ?_
          refine lv_iand hx hb dL_act_138 ?_
          obtain ⟨w26, hw26, h⟩ := ob h
          have jw26 : W p l e (rmN 7) s m #[Value.ref b, Value.int p1, Value.int p2] below meth c s.heap [] 0 0 (MQ below (QcW b (b + 54) (xAt G b σ') (some (.int r))) #[Value.ref b, Value.int p1, Value.int p2] s 0 0 (lw_Fr b (b + 54))) (F0 m 160 ls [.int w26, .int w23, .int q22, .ref b]) := by
            obtain ⟨q29, hq29, h⟩ := ob h
            refine rowW (As := [.int q22, .int w23, .int w26]) (rest := []) C (kX3_come l G b σ q22 w23 w26 q29.1 q29.2 hq29) (cwV 3 hts gL_act_X3_come rfl rfl rfl (by decide +kernel) ⟨Nat.le_of_ble_eq_true rfl, Nat.le_of_ble_eq_true rfl⟩) (rcv_X3 X hK) X hS (fun _ z => z) rfl hl.1 rfl (Nat.le_of_ble_eq_true rfl) dL_act_160 ⟨Nat.zero_le _, Nat.zero_le _⟩ (fun H locs X hS _ _ => ?_)
            show W p l e _ s m _ below meth c H locs 0 0 _ (F0 m 163 ls [.int q29.1])
            obtain ⟨h, h9⟩ := pr h
            subst h
            subst h9
            exact W.iret hx hb hr (fun t ht _ => ⟨rfl, by rw [ht]; exact X, hS.F ht⟩) hS.2.2 dL_act_163
          have h := hw26
          refine lv_if_le (tgt := 148) hx hb dL_act_139 (by decide) (fun c27 => ?_) (fun c27 => ?_)
          · have h := ip h c27
            refine lv_iload_n hx hb dL_act_148 rfl (lv_at hl 6 rfl) ?_
            refine lv_bipush (v := 12) hx hb dL_act_149 (by decide) ?_
            refine lv_ishr hx hb dL_act_151 ?_
            refine lv_iload_n hx hb dL_act_152 rfl (lv_at hl 3 rfl) ?_
            refine lv_iconst (v := 2) hx hb dL_act_153 (by decide) ?_
            refine lv_iadd hx hb dL_act_154 ?_
            obtain ⟨q28, hq28, h⟩ := ob h
            refine rowS (As := [.int (p2 >>> ((12 : Int32) &&& 31)), .int (q1 + 2)]) (rest := [.int w23, .int q22, .ref b]) (B := fun _ => True) C (kL_low l G (p2 >>> ((12 : Int32) &&& 31)) (q1 + 2) q28 hq28) (va_cwS 2 hts gL_act_L_low rfl rfl rfl (by decide +kernel) ⟨Nat.le_of_ble_eq_true rfl, Nat.le_of_ble_eq_true rfl⟩) trivial rfl hl.1 rfl (Nat.le_of_ble_eq_true rfl) dL_act_155 ⟨Nat.zero_le _, Nat.zero_le _⟩ ?_
            refine lv_iconst (v := 1) hx hb dL_act_158 (by decide) ?_
            refine lv_isub hx hb dL_act_159 ?_
            have h := so h
            subst h
            exact jw26
          · have h := iq h c27
            refine lv_iload_n hx hb dL_act_142 rfl (lv_at hl 3 rfl) ?_
            refine lv_iconst (v := 1) hx hb dL_act_143 (by decide) ?_
            refine lv_isub hx hb dL_act_144 ?_
            refine lv_goto (tgt := 160) hx hb dL_act_145 (by decide) ?_
            have h := so h
            subst h
            exact jw26
        have h := hw23
        refine lv_if_le (tgt := 117) hx hb dL_act_109 (by decide) (fun c24 => ?_) (fun c24 => ?_)
        · have h := ip h c24
          refine lv_iload_n hx hb dL_act_117 rfl (lv_at hl 5 rfl) ?_
          refine lv_bipush (v := 7) hx hb dL_act_118 (by decide) ?_
          refine lv_ishr hx hb dL_act_120 ?_
          refine lv_bipush (v := 102) hx hb dL_act_121 (by decide) ?_
          obtain ⟨q25, hq25, h⟩ := ob h
          refine rowS (As := [.int (p2 >>> ((7 : Int32) &&& 31)), .int 102]) (rest := []) (B := fun _ => True) C (kL_low l G (p2 >>> ((7 : Int32) &&& 31)) 102 q25 hq25) (va_cwS 2 hts gL_act_L_low rfl rfl rfl (by decide +kernel) ⟨Nat.le_of_ble_eq_true rfl, Nat.le_of_ble_eq_true rfl⟩) trivial rfl hl.1 rfl (Nat.le_of_ble_eq_true rfl) dL_act_123 ⟨Nat.zero_le _, Nat.zero_le _⟩ ?_
          have h := so h
          subst h
          exact jw23
        · have h := iq h c24
          refine lv_iload hx hb dL_act_112 (lv_at hl 0 rfl) ?_
          refine lv_goto (tgt := 126) hx hb dL_act_114 (by decide) ?_
          have h := so h
          subst h
          exact jw23
      · have h := iq h c21
        by_cases c30 : (p1 &&& 15) = 3
        · have h := ip h c30
          refine rowTab (K := 3) (off := 75) (tgt := 96) hx hb c30 dL_act_21 (by decide) (by decide) (by decide) (by decide) ?_
          refine lv_iload_n hx hb dL_act_96 rfl (lv_at hl 4 rfl) ?_
          refine lv_bipush (v := 20) hx hb dL_act_97 (by decide) ?_
          obtain ⟨q31, hq31, h⟩ := ob h
          refine rowS (As := [.int p2, .int 20]) (rest := []) (B := fun _ => True) C (kL_low l G p2 20 q31 hq31) (va_cwS 2 hts gL_act_L_low rfl rfl rfl (by decide +kernel) ⟨Nat.le_of_ble_eq_true rfl, Nat.le_of_ble_eq_true rfl⟩) trivial rfl hl.1 rfl (Nat.le_of_ble_eq_true rfl) dL_act_99 ⟨Nat.zero_le _, Nat.zero_le _⟩ ?_
          refine lv_istore (lv' := [(5, .int q31), (4, .int q2), (3, .int q1), (0, .ref b), (1, .int p1), (2, .int p2)]) hx hb dL_act_102 hl (by decide) rfl (fun ls hl => ?_)
          refine lv_iload_n hx hb dL_act_104 rfl (lv_at hl 5 rfl) ?_
          refine lv_iconst (v := 5) hx hb dL_act_105 (by decide) ?_
          refine lv_ishr hx hb dL_act_106 ?_
          refine lv_iconst (v := 3) hx hb dL_act_107 (by decide) ?_
          refine lv_iand hx hb dL_act_108 ?_
          obtain ⟨w32, hw32, h⟩ := ob h
          have jw32 : W p l e (rmN 7) s m #[Value.ref b, Value.int p1, Value.int p2] below meth c s.heap [] 0 0 (MQ below (QcW b (b + 54) (xAt G b σ') (some (.int r))) #[Value.ref b, Value.int p1, Value.int p2] s 0 0 (lw_Fr b (b + 54))) (F0 m 126 ls [.int w32]) := by
            refine lv_istore (lv' := [(6, .int w32), (5, .int q31), (4, .int q2), (3, .int q1), (0, .ref b), (1, .int p1), (2, .int p2)]) hx hb dL_act_126 hl (by decide) rfl (fun ls hl => ?_)
            refine lv_aload_n hx hb dL_act_128 rfl (lv_at hl 4 rfl) ?_
            refine lv_iload hx hb dL_act_129 (lv_at hl 1 rfl) ?_
            refine lv_iload hx hb dL_act_131 (lv_at hl 0 rfl) ?_
            refine lv_iload_n hx hb dL_act_133 rfl (lv_at hl 6 rfl) ?_
            refine lv_bipush (v := 19) hx hb dL_act_134 (by decide) ?_
            refine lv_ishr hx hb dL_act_136 ?_
            refine lv_iconst (v := 3) hx hb dL_act_137 (by decide) ?_
            refine lv_iand hx hb dL_act_138 ?_
            obtain ⟨w35, hw35, h⟩ := ob h
            have jw35 : W p l e (rmN 7) s m #[Value.ref b, Value.int p1, Value.int p2] below meth c s.heap [] 0 0 (MQ below (QcW b (b + 54) (xAt G b σ') (some (.int r))) #[Value.ref b, Value.int p1, Value.int p2] s 0 0 (lw_Fr b (b + 54))) (F0 m 160 ls [.int w35, .int w32, .int q31, .ref b]) := by
              obtain ⟨q38, hq38, h⟩ := ob h
              refine rowW (As := [.int q31, .int w32, .int w35]) (rest := []) C (kX3_come l G b σ q31 w32 w35 q38.1 q38.2 hq38) (cwV 3 hts gL_act_X3_come rfl rfl rfl (by decide +kernel) ⟨Nat.le_of_ble_eq_true rfl, Nat.le_of_ble_eq_true rfl⟩) (rcv_X3 X hK) X hS (fun _ z => z) rfl hl.1 rfl (Nat.le_of_ble_eq_true rfl) dL_act_160 ⟨Nat.zero_le _, Nat.zero_le _⟩ (fun H locs X hS _ _ => ?_)
              show W p l e _ s m _ below meth c H locs 0 0 _ (F0 m 163 ls [.int q38.1])
              obtain ⟨h, h9⟩ := pr h
              subst h
              subst h9
              exact W.iret hx hb hr (fun t ht _ => ⟨rfl, by rw [ht]; exact X, hS.F ht⟩) hS.2.2 dL_act_163
            have h := hw35
            refine lv_if_le (tgt := 148) hx hb dL_act_139 (by decide) (fun c36 => ?_) (fun c36 => ?_)
            · have h := ip h c36
              refine lv_iload_n hx hb dL_act_148 rfl (lv_at hl 6 rfl) ?_
              refine lv_bipush (v := 12) hx hb dL_act_149 (by decide) ?_
              refine lv_ishr hx hb dL_act_151 ?_
              refine lv_iload_n hx hb dL_act_152 rfl (lv_at hl 3 rfl) ?_
              refine lv_iconst (v := 2) hx hb dL_act_153 (by decide) ?_
              refine lv_iadd hx hb dL_act_154 ?_
              obtain ⟨q37, hq37, h⟩ := ob h
              refine rowS (As := [.int (p2 >>> ((12 : Int32) &&& 31)), .int (q1 + 2)]) (rest := [.int w32, .int q31, .ref b]) (B := fun _ => True) C (kL_low l G (p2 >>> ((12 : Int32) &&& 31)) (q1 + 2) q37 hq37) (va_cwS 2 hts gL_act_L_low rfl rfl rfl (by decide +kernel) ⟨Nat.le_of_ble_eq_true rfl, Nat.le_of_ble_eq_true rfl⟩) trivial rfl hl.1 rfl (Nat.le_of_ble_eq_true rfl) dL_act_155 ⟨Nat.zero_le _, Nat.zero_le _⟩ ?_
              refine lv_iconst (v := 1) hx hb dL_act_158 (by decide) ?_
              refine lv_isub hx hb dL_act_159 ?_
              have h := so h
              subst h
              exact jw35
            · have h := iq h c36
              refine lv_iload_n hx hb dL_act_142 rfl (lv_at hl 3 rfl) ?_
              refine lv_iconst (v := 1) hx hb dL_act_143 (by decide) ?_
              refine lv_isub hx hb dL_act_144 ?_
              refine lv_goto (tgt := 160) hx hb dL_act_145 (by decide) ?_
              have h := so h
              subst h
              exact jw35
          have h := hw32
          refine lv_if_le (tgt := 117) hx hb dL_act_109 (by decide) (fun c33 => ?_) (fun c33 => ?_)
          · have h := ip h c33
            refine lv_iload_n hx hb dL_act_117 rfl (lv_at hl 5 rfl) ?_
            refine lv_bipush (v := 7) hx hb dL_act_118 (by decide) ?_
            refine lv_ishr hx hb dL_act_120 ?_
            refine lv_bipush (v := 102) hx hb dL_act_121 (by decide) ?_
            obtain ⟨q34, hq34, h⟩ := ob h
            refine rowS (As := [.int (p2 >>> ((7 : Int32) &&& 31)), .int 102]) (rest := []) (B := fun _ => True) C (kL_low l G (p2 >>> ((7 : Int32) &&& 31)) 102 q34 hq34) (va_cwS 2 hts gL_act_L_low rfl rfl rfl (by decide +kernel) ⟨Nat.le_of_ble_eq_true rfl, Nat.le_of_ble_eq_true rfl⟩) trivial rfl hl.1 rfl (Nat.le_of_ble_eq_true rfl) dL_act_123 ⟨Nat.zero_le _, Nat.zero_le _⟩ ?_
            have h := so h
            subst h
            exact jw32
          · have h := iq h c33
            refine lv_iload hx hb dL_act_112 (lv_at hl 0 rfl) ?_
            refine lv_goto (tgt := 126) hx hb dL_act_114 (by decide) ?_
            have h := so h
            subst h
            exact jw32
        · have h := iq h c30
          by_cases c39 : (p1 &&& 15) = 4
          · have h := ip h c39
            refine rowTab (K := 4) (off := 75) (tgt := 96) hx hb c39 dL_act_21 (by decide) (by decide) (by decide) (by decide) ?_
            refine lv_iload_n hx hb dL_act_96 rfl (lv_at hl 4 rfl) ?_
            refine lv_bipush (v := 20) hx hb dL_act_97 (by decide) ?_
            obtain ⟨q40, hq40, h⟩ := ob h
            refine rowS (As := [.int p2, .int 20]) (rest := []) (B := fun _ => True) C (kL_low l G p2 20 q40 hq40) (va_cwS 2 hts gL_act_L_low rfl rfl rfl (by decide +kernel) ⟨Nat.le_of_ble_eq_true rfl, Nat.le_of_ble_eq_true rfl⟩) trivial rfl hl.1 rfl (Nat.le_of_ble_eq_true rfl) dL_act_99 ⟨Nat.zero_le _, Nat.zero_le _⟩ ?_
            refine lv_istore (lv' := [(5, .int q40), (4, .int q2), (3, .int q1), (0, .ref b), (1, .int p1), (2, .int p2)]) hx hb dL_act_102 hl (by decide) rfl (fun ls hl => ?_)
            refine lv_iload_n hx hb dL_act_104 rfl (lv_at hl 5 rfl) ?_
            refine lv_iconst (v := 5) hx hb dL_act_105 (by decide) ?_
            refine lv_ishr hx hb dL_act_106 ?_
            refine lv_iconst (v := 3) hx hb dL_act_107 (by decide) ?_
            refine lv_iand hx hb dL_act_108 ?_
            obtain ⟨w41, hw41, h⟩ := ob h
            have jw41 : W p l e (rmN 7) s m #[Value.ref b, Value.int p1, Value.int p2] below meth c s.heap [] 0 0 (MQ below (QcW b (b + 54) (xAt G b σ') (some (.int r))) #[Value.ref b, Value.int p1, Value.int p2] s 0 0 (lw_Fr b (b + 54))) (F0 m 126 ls [.int w41]) := by
              refine lv_istore (lv' := [(6, .int w41), (5, .int q40), (4, .int q2), (3, .int q1), (0, .ref b), (1, .int p1), (2, .int p2)]) hx hb dL_act_126 hl (by decide) rfl (fun ls hl => ?_)
              refine lv_aload_n hx hb dL_act_128 rfl (lv_at hl 4 rfl) ?_
              refine lv_iload hx hb dL_act_129 (lv_at hl 1 rfl) ?_
              refine lv_iload hx hb dL_act_131 (lv_at hl 0 rfl) ?_
              refine lv_iload_n hx hb dL_act_133 rfl (lv_at hl 6 rfl) ?_
              refine lv_bipush (v := 19) hx hb dL_act_134 (by decide) ?_
              refine lv_ishr hx hb dL_act_136 ?_
              refine lv_iconst (v := 3) hx hb dL_act_137 (by decide) ?_
              refine lv_iand hx hb dL_act_138 ?_
              obtain ⟨w44, hw44, h⟩ := ob h
              have jw44 : W p l e (rmN 7) s m #[Value.ref b, Value.int p1, Value.int p2] below meth c s.heap [] 0 0 (MQ below (QcW b (b + 54) (xAt G b σ') (some (.int r))) #[Value.ref b, Value.int p1, Value.int p2] s 0 0 (lw_Fr b (b + 54))) (F0 m 160 ls [.int w44, .int w41, .int q40, .ref b]) := by
                obtain ⟨q47, hq47, h⟩ := ob h
                refine rowW (As := [.int q40, .int w41, .int w44]) (rest := []) C (kX3_come l G b σ q40 w41 w44 q47.1 q47.2 hq47) (cwV 3 hts gL_act_X3_come rfl rfl rfl (by decide +kernel) ⟨Nat.le_of_ble_eq_true rfl, Nat.le_of_ble_eq_true rfl⟩) (rcv_X3 X hK) X hS (fun _ z => z) rfl hl.1 rfl (Nat.le_of_ble_eq_true rfl) dL_act_160 ⟨Nat.zero_le _, Nat.zero_le _⟩ (fun H locs X hS _ _ => ?_)
                show W p l e _ s m _ below meth c H locs 0 0 _ (F0 m 163 ls [.int q47.1])
                obtain ⟨h, h9⟩ := pr h
                subst h
                subst h9
                exact W.iret hx hb hr (fun t ht _ => ⟨rfl, by rw [ht]; exact X, hS.F ht⟩) hS.2.2 dL_act_163
              have h := hw44
              refine lv_if_le (tgt := 148) hx hb dL_act_139 (by decide) (fun c45 => ?_) (fun c45 => ?_)
              · have h := ip h c45
                refine lv_iload_n hx hb dL_act_148 rfl (lv_at hl 6 rfl) ?_
                refine lv_bipush (v := 12) hx hb dL_act_149 (by decide) ?_
                refine lv_ishr hx hb dL_act_151 ?_
                refine lv_iload_n hx hb dL_act_152 rfl (lv_at hl 3 rfl) ?_
                refine lv_iconst (v := 2) hx hb dL_act_153 (by decide) ?_
                refine lv_iadd hx hb dL_act_154 ?_
                obtain ⟨q46, hq46, h⟩ := ob h
                refine rowS (As := [.int (p2 >>> ((12 : Int32) &&& 31)), .int (q1 + 2)]) (rest := [.int w41, .int q40, .ref b]) (B := fun _ => True) C (kL_low l G (p2 >>> ((12 : Int32) &&& 31)) (q1 + 2) q46 hq46) (va_cwS 2 hts gL_act_L_low rfl rfl rfl (by decide +kernel) ⟨Nat.le_of_ble_eq_true rfl, Nat.le_of_ble_eq_true rfl⟩) trivial rfl hl.1 rfl (Nat.le_of_ble_eq_true rfl) dL_act_155 ⟨Nat.zero_le _, Nat.zero_le _⟩ ?_
                refine lv_iconst (v := 1) hx hb dL_act_158 (by decide) ?_
                refine lv_isub hx hb dL_act_159 ?_
                have h := so h
                subst h
                exact jw44
              · have h := iq h c45
                refine lv_iload_n hx hb dL_act_142 rfl (lv_at hl 3 rfl) ?_
                refine lv_iconst (v := 1) hx hb dL_act_143 (by decide) ?_
                refine lv_isub hx hb dL_act_144 ?_
                refine lv_goto (tgt := 160) hx hb dL_act_145 (by decide) ?_
                have h := so h
                subst h
                exact jw44
            have h := hw41
            refine lv_if_le (tgt := 117) hx hb dL_act_109 (by decide) (fun c42 => ?_) (fun c42 => ?_)
            · have h := ip h c42
              refine lv_iload_n hx hb dL_act_117 rfl (lv_at hl 5 rfl) ?_
              refine lv_bipush (v := 7) hx hb dL_act_118 (by decide) ?_
              refine lv_ishr hx hb dL_act_120 ?_
              refine lv_bipush (v := 102) hx hb dL_act_121 (by decide) ?_
              obtain ⟨q43, hq43, h⟩ := ob h
              refine rowS (As := [.int (p2 >>> ((7 : Int32) &&& 31)), .int 102]) (rest := []) (B := fun _ => True) C (kL_low l G (p2 >>> ((7 : Int32) &&& 31)) 102 q43 hq43) (va_cwS 2 hts gL_act_L_low rfl rfl rfl (by decide +kernel) ⟨Nat.le_of_ble_eq_true rfl, Nat.le_of_ble_eq_true rfl⟩) trivial rfl hl.1 rfl (Nat.le_of_ble_eq_true rfl) dL_act_123 ⟨Nat.zero_le _, Nat.zero_le _⟩ ?_
              have h := so h
              subst h
              exact jw41
            · have h := iq h c42
              refine lv_iload hx hb dL_act_112 (lv_at hl 0 rfl) ?_
              refine lv_goto (tgt := 126) hx hb dL_act_114 (by decide) ?_
              have h := so h
              subst h
              exact jw41
          · have h := iq h c39
            by_cases c48 : (p1 &&& 15) = 5
            · have h := ip h c48
              refine rowTab (K := 5) (off := 143) (tgt := 164) hx hb c48 dL_act_21 (by decide) (by decide) (by decide) (by decide) ?_
              refine lv_aload_n hx hb dL_act_164 rfl (lv_at hl 2 rfl) ?_
              refine lv_iload hx hb dL_act_165 (lv_at hl 0 rfl) ?_
              refine lv_iload_n hx hb dL_act_167 rfl (lv_at hl 4 rfl) ?_
              refine lv_iload_n hx hb dL_act_168 rfl (lv_at hl 4 rfl) ?_
              refine lv_bipush (v := 20) hx hb dL_act_169 (by decide) ?_
              refine lv_ishr hx hb dL_act_171 ?_
              refine lv_iconst (v := 1) hx hb dL_act_172 (by decide) ?_
              refine lv_iand hx hb dL_act_173 ?_
              obtain ⟨w49, hw49, h⟩ := ob h
              have jw49 : W p l e (rmN 7) s m #[Value.ref b, Value.int p1, Value.int p2] below meth c s.heap [] 0 0 (MQ below (QcW b (b + 54) (xAt G b σ') (some (.int r))) #[Value.ref b, Value.int p1, Value.int p2] s 0 0 (lw_Fr b (b + 54))) (F0 m 184 ls [.int w49, .int p2, .int q2, .ref b]) := by
                obtain ⟨q51, hq51, h⟩ := ob h
                refine rowS (As := [.int p2, .int w49]) (rest := [.int q2, .ref b]) (B := fun _ => True) C (kL_low l G p2 w49 q51 hq51) (va_cwS 2 hts gL_act_L_low rfl rfl rfl (by decide +kernel) ⟨Nat.le_of_ble_eq_true rfl, Nat.le_of_ble_eq_true rfl⟩) trivial rfl hl.1 rfl (Nat.le_of_ble_eq_true rfl) dL_act_184 ⟨Nat.zero_le _, Nat.zero_le _⟩ ?_
                obtain ⟨q52, hq52, h⟩ := ob h
                refine rowW (As := [.int q2, .int q51]) (rest := []) C (kX3_alter l G b σ q2 q51 q52.1 q52.2 hq52) (cwV 2 hts gL_act_X3_alter rfl rfl rfl (by decide +kernel) ⟨Nat.le_of_ble_eq_true rfl, Nat.le_of_ble_eq_true rfl⟩) (rcv_X3 X hK) X hS (fun _ z => z) rfl hl.1 rfl (Nat.le_of_ble_eq_true rfl) dL_act_187 ⟨Nat.zero_le _, Nat.zero_le _⟩ (fun H locs X hS _ _ => ?_)
                show W p l e _ s m _ below meth c H locs 0 0 _ (F0 m 190 ls [.int q52.1])
                obtain ⟨h, h9⟩ := pr h
                subst h
                subst h9
                exact W.iret hx hb hr (fun t ht _ => ⟨rfl, by rw [ht]; exact X, hS.F ht⟩) hS.2.2 dL_act_190
              have h := hw49
              refine lv_if_ne (tgt := 182) hx hb dL_act_174 (by decide) (fun c50 => ?_) (fun c50 => ?_)
              · have h := iq h c50
                refine lv_bipush (v := 102) hx hb dL_act_182 (by decide) ?_
                have h := so h
                subst h
                exact jw49
              · have h := ip h c50
                refine lv_bipush (v := 20) hx hb dL_act_177 (by decide) ?_
                refine lv_goto (tgt := 184) hx hb dL_act_179 (by decide) ?_
                have h := so h
                subst h
                exact jw49
            · have h := iq h c48
              by_cases c53 : (p1 &&& 15) = 6
              · have h := ip h c53
                refine rowTab (K := 6) (off := 143) (tgt := 164) hx hb c53 dL_act_21 (by decide) (by decide) (by decide) (by decide) ?_
                refine lv_aload_n hx hb dL_act_164 rfl (lv_at hl 2 rfl) ?_
                refine lv_iload hx hb dL_act_165 (lv_at hl 0 rfl) ?_
                refine lv_iload_n hx hb dL_act_167 rfl (lv_at hl 4 rfl) ?_
                refine lv_iload_n hx hb dL_act_168 rfl (lv_at hl 4 rfl) ?_
                refine lv_bipush (v := 20) hx hb dL_act_169 (by decide) ?_
                refine lv_ishr hx hb dL_act_171 ?_
                refine lv_iconst (v := 1) hx hb dL_act_172 (by decide) ?_
                refine lv_iand hx hb dL_act_173 ?_
                obtain ⟨w54, hw54, h⟩ := ob h
                have jw54 : W p l e (rmN 7) s m #[Value.ref b, Value.int p1, Value.int p2] below meth c s.heap [] 0 0 (MQ below (QcW b (b + 54) (xAt G b σ') (some (.int r))) #[Value.ref b, Value.int p1, Value.int p2] s 0 0 (lw_Fr b (b + 54))) (F0 m 184 ls [.int w54, .int p2, .int q2, .ref b]) := by
                  obtain ⟨q56, hq56, h⟩ := ob h
                  refine rowS (As := [.int p2, .int w54]) (rest := [.int q2, .ref b]) (B := fun _ => True) C (kL_low l G p2 w54 q56 hq56) (va_cwS 2 hts gL_act_L_low rfl rfl rfl (by decide +kernel) ⟨Nat.le_of_ble_eq_true rfl, Nat.le_of_ble_eq_true rfl⟩) trivial rfl hl.1 rfl (Nat.le_of_ble_eq_true rfl) dL_act_184 ⟨Nat.zero_le _, Nat.zero_le _⟩ ?_
                  obtain ⟨q57, hq57, h⟩ := ob h
                  refine rowW (As := [.int q2, .int q56]) (rest := []) C (kX3_alter l G b σ q2 q56 q57.1 q57.2 hq57) (cwV 2 hts gL_act_X3_alter rfl rfl rfl (by decide +kernel) ⟨Nat.le_of_ble_eq_true rfl, Nat.le_of_ble_eq_true rfl⟩) (rcv_X3 X hK) X hS (fun _ z => z) rfl hl.1 rfl (Nat.le_of_ble_eq_true rfl) dL_act_187 ⟨Nat.zero_le _, Nat.zero_le _⟩ (fun H locs X hS _ _ => ?_)
                  show W p l e _ s m _ below meth c H locs 0 0 _ (F0 m 190 ls [.int q57.1])
                  obtain ⟨h, h9⟩ := pr h
                  subst h
                  subst h9
                  exact W.iret hx hb hr (fun t ht _ => ⟨rfl, by rw [ht]; exact X, hS.F ht⟩) hS.2.2 dL_act_190
                have h := hw54
                refine lv_if_ne (tgt := 182) hx hb dL_act_174 (by decide) (fun c55 => ?_) (fun c55 => ?_)
                · have h := iq h c55
                  refine lv_bipush (v := 102) hx hb dL_act_182 (by decide) ?_
                  have h := so h
                  subst h
                  exact jw54
                · have h := ip h c55
                  refine lv_bipush (v := 20) hx hb dL_act_177 (by decide) ?_
                  refine lv_goto (tgt := 184) hx hb dL_act_179 (by decide) ?_
                  have h := so h
                  subst h
                  exact jw54
              · have h := iq h c53
                by_cases c58 : (p1 &&& 15) = 7
                · have h := ip h c58
                  refine rowTab (K := 7) (off := 170) (tgt := 191) hx hb c58 dL_act_21 (by decide) (by decide) (by decide) (by decide) ?_
                  refine lv_iload_n hx hb dL_act_191 rfl (lv_at hl 4 rfl) ?_
                  refine lv_iconst (v := 3) hx hb dL_act_192 (by decide) ?_
                  refine lv_iand hx hb dL_act_193 ?_
                  refine lv_if_ne (tgt := 204) hx hb dL_act_194 (by decide) (fun c59 => ?_) (fun c59 => ?_)
                  · have h := iq h c59
                    refine lv_aload_n hx hb dL_act_204 rfl (lv_at hl 2 rfl) ?_
                    refine lv_iload hx hb dL_act_205 (lv_at hl 0 rfl) ?_
                    obtain ⟨q60, hq60, h⟩ := ob h
                    refine rowW (As := [.int q2]) (rest := []) C (kX3_reseal l G b σ q2 q60.1 q60.2 hq60) (cwV 1 hts gL_act_X3_reseal rfl rfl rfl (by decide +kernel) ⟨Nat.le_of_ble_eq_true rfl, Nat.le_of_ble_eq_true rfl⟩) (rcv_X3 X hK) X hS (fun _ z => z) rfl hl.1 rfl (Nat.le_of_ble_eq_true rfl) dL_act_207 ⟨Nat.zero_le _, Nat.zero_le _⟩ (fun H locs X hS _ _ => ?_)
                    show W p l e _ s m _ below meth c H locs 0 0 _ (F0 m 210 ls [.int q60.1])
                    obtain ⟨h, h9⟩ := pr h
                    subst h
                    subst h9
                    exact W.iret hx hb hr (fun t ht _ => ⟨rfl, by rw [ht]; exact X, hS.F ht⟩) hS.2.2 dL_act_210
                  · have h := ip h c59
                    refine lv_aload_n hx hb dL_act_197 rfl (lv_at hl 2 rfl) ?_
                    obtain ⟨q61, hq61, h⟩ := ob h
                    refine rowW (As := []) (rest := []) C (kX3_restore l G b σ q61.1 q61.2 hq61) (cwV 0 hts gL_act_X3_restore rfl rfl rfl (by decide +kernel) ⟨Nat.le_of_ble_eq_true rfl, Nat.le_of_ble_eq_true rfl⟩) (rcv_X3 X hK) X hS (fun _ z => z) rfl hl.1 rfl (Nat.le_of_ble_eq_true rfl) dL_act_198 ⟨Nat.zero_le _, Nat.zero_le _⟩ (fun H locs X hS _ _ => ?_)
                    show W p l e _ s m _ below meth c H locs 0 0 _ (F0 m 201 ls [.int q61.1])
                    refine lv_goto (tgt := 210) hx hb dL_act_201 (by decide) ?_
                    obtain ⟨h, h9⟩ := pr h
                    subst h
                    subst h9
                    exact W.iret hx hb hr (fun t ht _ => ⟨rfl, by rw [ht]; exact X, hS.F ht⟩) hS.2.2 dL_act_210
                · have h := iq h c58
                  by_cases c62 : (p1 &&& 15) = 8
                  · have h := ip h c62
                    refine rowTab (K := 8) (off := 190) (tgt := 211) hx hb c62 dL_act_21 (by decide) (by decide) (by decide) (by decide) ?_
                    refine lv_aload_n hx hb dL_act_211 rfl (lv_at hl 2 rfl) ?_
                    refine lv_iload hx hb dL_act_212 (lv_at hl 0 rfl) ?_
                    obtain ⟨q63, hq63, h⟩ := ob h
                    refine rowW (As := [.int q2]) (rest := []) C (kX3_reseal l G b σ q2 q63.1 q63.2 hq63) (cwV 1 hts gL_act_X3_reseal rfl rfl rfl (by decide +kernel) ⟨Nat.le_of_ble_eq_true rfl, Nat.le_of_ble_eq_true rfl⟩) (rcv_X3 X hK) X hS (fun _ z => z) rfl hl.1 rfl (Nat.le_of_ble_eq_true rfl) dL_act_214 ⟨Nat.zero_le _, Nat.zero_le _⟩ (fun H locs X hS _ _ => ?_)
                    show W p l e _ s m _ below meth c H locs 0 0 _ (F0 m 217 ls [.int q63.1])
                    obtain ⟨h, h9⟩ := pr h
                    subst h
                    subst h9
                    exact W.iret hx hb hr (fun t ht _ => ⟨rfl, by rw [ht]; exact X, hS.F ht⟩) hS.2.2 dL_act_217
                  · have h := iq h c62
                    by_cases c64 : (p1 &&& 15) = 9
                    · have h := ip h c64
                      refine rowTab (K := 9) (off := 190) (tgt := 211) hx hb c64 dL_act_21 (by decide) (by decide) (by decide) (by decide) ?_
                      refine lv_aload_n hx hb dL_act_211 rfl (lv_at hl 2 rfl) ?_
                      refine lv_iload hx hb dL_act_212 (lv_at hl 0 rfl) ?_
                      obtain ⟨q65, hq65, h⟩ := ob h
                      refine rowW (As := [.int q2]) (rest := []) C (kX3_reseal l G b σ q2 q65.1 q65.2 hq65) (cwV 1 hts gL_act_X3_reseal rfl rfl rfl (by decide +kernel) ⟨Nat.le_of_ble_eq_true rfl, Nat.le_of_ble_eq_true rfl⟩) (rcv_X3 X hK) X hS (fun _ z => z) rfl hl.1 rfl (Nat.le_of_ble_eq_true rfl) dL_act_214 ⟨Nat.zero_le _, Nat.zero_le _⟩ (fun H locs X hS _ _ => ?_)
                      show W p l e _ s m _ below meth c H locs 0 0 _ (F0 m 217 ls [.int q65.1])
                      obtain ⟨h, h9⟩ := pr h
                      subst h
                      subst h9
                      exact W.iret hx hb hr (fun t ht _ => ⟨rfl, by rw [ht]; exact X, hS.F ht⟩) hS.2.2 dL_act_217
                    · have h := iq h c64
                      by_cases c66 : (p1 &&& 15) = 10
                      · have h := ip h c66
                        refine rowTab (K := 10) (off := 197) (tgt := 218) hx hb c66 dL_act_21 (by decide) (by decide) (by decide) (by decide) ?_
                        refine lv_aload_n hx hb dL_act_218 rfl (lv_at hl 2 rfl) ?_
                        refine lv_iload hx hb dL_act_219 (lv_at hl 0 rfl) ?_
                        obtain ⟨q67, hq67, h⟩ := ob h
                        refine rowW (As := [.int q2]) (rest := []) C (kX3_open l G b σ q2 q67.1 q67.2 hq67) (cwV 1 hts gL_act_X3_open rfl rfl rfl (by decide +kernel) ⟨Nat.le_of_ble_eq_true rfl, Nat.le_of_ble_eq_true rfl⟩) (rcv_X3 X hK) X hS (fun _ z => z) rfl hl.1 rfl (Nat.le_of_ble_eq_true rfl) dL_act_221 ⟨Nat.zero_le _, Nat.zero_le _⟩ (fun H locs X hS _ _ => ?_)
                        show W p l e _ s m _ below meth c H locs 0 0 _ (F0 m 224 ls [.int q67.1])
                        obtain ⟨h, h9⟩ := pr h
                        subst h
                        subst h9
                        exact W.iret hx hb hr (fun t ht _ => ⟨rfl, by rw [ht]; exact X, hS.F ht⟩) hS.2.2 dL_act_224
                      · have h := iq h c66
                        by_cases c68 : (p1 &&& 15) = 11
                        · have h := ip h c68
                          refine rowTab (K := 11) (off := 197) (tgt := 218) hx hb c68 dL_act_21 (by decide) (by decide) (by decide) (by decide) ?_
                          refine lv_aload_n hx hb dL_act_218 rfl (lv_at hl 2 rfl) ?_
                          refine lv_iload hx hb dL_act_219 (lv_at hl 0 rfl) ?_
                          obtain ⟨q69, hq69, h⟩ := ob h
                          refine rowW (As := [.int q2]) (rest := []) C (kX3_open l G b σ q2 q69.1 q69.2 hq69) (cwV 1 hts gL_act_X3_open rfl rfl rfl (by decide +kernel) ⟨Nat.le_of_ble_eq_true rfl, Nat.le_of_ble_eq_true rfl⟩) (rcv_X3 X hK) X hS (fun _ z => z) rfl hl.1 rfl (Nat.le_of_ble_eq_true rfl) dL_act_221 ⟨Nat.zero_le _, Nat.zero_le _⟩ (fun H locs X hS _ _ => ?_)
                          show W p l e _ s m _ below meth c H locs 0 0 _ (F0 m 224 ls [.int q69.1])
                          obtain ⟨h, h9⟩ := pr h
                          subst h
                          subst h9
                          exact W.iret hx hb hr (fun t ht _ => ⟨rfl, by rw [ht]; exact X, hS.F ht⟩) hS.2.2 dL_act_224
                        · have h := iq h c68
                          by_cases c70 : (p1 &&& 15) = 12
                          · have h := ip h c70
                            refine rowTab (K := 12) (off := 197) (tgt := 218) hx hb c70 dL_act_21 (by decide) (by decide) (by decide) (by decide) ?_
                            refine lv_aload_n hx hb dL_act_218 rfl (lv_at hl 2 rfl) ?_
                            refine lv_iload hx hb dL_act_219 (lv_at hl 0 rfl) ?_
                            obtain ⟨q71, hq71, h⟩ := ob h
                            refine rowW (As := [.int q2]) (rest := []) C (kX3_open l G b σ q2 q71.1 q71.2 hq71) (cwV 1 hts gL_act_X3_open rfl rfl rfl (by decide +kernel) ⟨Nat.le_of_ble_eq_true rfl, Nat.le_of_ble_eq_true rfl⟩) (rcv_X3 X hK) X hS (fun _ z => z) rfl hl.1 rfl (Nat.le_of_ble_eq_true rfl) dL_act_221 ⟨Nat.zero_le _, Nat.zero_le _⟩ (fun H locs X hS _ _ => ?_)
                            show W p l e _ s m _ below meth c H locs 0 0 _ (F0 m 224 ls [.int q71.1])
                            obtain ⟨h, h9⟩ := pr h
                            subst h
                            subst h9
                            exact W.iret hx hb hr (fun t ht _ => ⟨rfl, by rw [ht]; exact X, hS.F ht⟩) hS.2.2 dL_act_224
                          · have h := iq h c70
                            by_cases c72 : (p1 &&& 15) = 13
                            · have h := ip h c72
                              refine rowTab (K := 13) (off := 204) (tgt := 225) hx hb c72 dL_act_21 (by decide) (by decide) (by decide) (by decide) ?_
                              refine lv_aload_n hx hb dL_act_225 rfl (lv_at hl 2 rfl) ?_
                              refine lv_iload_n hx hb dL_act_226 rfl (lv_at hl 4 rfl) ?_
                              refine lv_bipush (v := 6) hx hb dL_act_227 (by decide) ?_
                              obtain ⟨q73, hq73, h⟩ := ob h
                              refine rowS (As := [.int p2, .int 6]) (rest := [.ref b]) (B := fun _ => True) C (kL_low l G p2 6 q73 hq73) (va_cwS 2 hts gL_act_L_low rfl rfl rfl (by decide +kernel) ⟨Nat.le_of_ble_eq_true rfl, Nat.le_of_ble_eq_true rfl⟩) trivial rfl hl.1 rfl (Nat.le_of_ble_eq_true rfl) dL_act_229 ⟨Nat.zero_le _, Nat.zero_le _⟩ ?_
                              refine lv_iload_n hx hb dL_act_232 rfl (lv_at hl 4 rfl) ?_
                              refine lv_iconst (v := 3) hx hb dL_act_233 (by decide) ?_
                              refine lv_ishr hx hb dL_act_234 ?_
                              refine lv_bipush (v := 102) hx hb dL_act_235 (by decide) ?_
                              obtain ⟨q74, hq74, h⟩ := ob h
                              refine rowS (As := [.int (p2 >>> ((3 : Int32) &&& 31)), .int 102]) (rest := [.int q73, .ref b]) (B := fun _ => True) C (kL_low l G (p2 >>> ((3 : Int32) &&& 31)) 102 q74 hq74) (va_cwS 2 hts gL_act_L_low rfl rfl rfl (by decide +kernel) ⟨Nat.le_of_ble_eq_true rfl, Nat.le_of_ble_eq_true rfl⟩) trivial rfl hl.1 rfl (Nat.le_of_ble_eq_true rfl) dL_act_237 ⟨Nat.zero_le _, Nat.zero_le _⟩ ?_
                              obtain ⟨q75, hq75, h⟩ := ob h
                              refine rowWs (As := [.int q73, .int q74]) (rest := []) C (kX3_set l G A0 b σ q73 q74 q75.1 q75.2 hA0 hq75) (cwV 2 hts gL_act_X3_set rfl rfl rfl (by decide +kernel) ⟨Nat.le_of_ble_eq_true rfl, Nat.le_of_ble_eq_true rfl⟩) (rcv_X3 X hK) X (hst.kept (fun q h1 h2 => hS.2.1 q h1 (fun z => h2 (hA0 q z)))) hS (fun _ z => z) rfl hl.1 rfl (Nat.le_of_ble_eq_true rfl) dL_act_240 ⟨Nat.zero_le _, Nat.zero_le _⟩ (fun H locs X hS _ _ => ?_)
                              show W p l e _ s m _ below meth c H locs 0 0 _ (F0 m 243 ls [.int q75.1])
                              obtain ⟨h, h9⟩ := pr h
                              subst h
                              subst h9
                              exact W.iret hx hb hr (fun t ht _ => ⟨rfl, by rw [ht]; exact X, hS.F ht⟩) hS.2.2 dL_act_243
                            · have h := iq h c72
                              by_cases c76 : (p1 &&& 15) = 14
                              · have h := ip h c76
                                refine rowTab (K := 14) (off := 223) (tgt := 244) hx hb c76 dL_act_21 (by decide) (by decide) (by decide) (by decide) ?_
                                refine lv_iload_n hx hb dL_act_244 rfl (lv_at hl 4 rfl) ?_
                                refine lv_iconst (v := 1) hx hb dL_act_245 (by decide) ?_
                                refine lv_iand hx hb dL_act_246 ?_
                                refine lv_if_ne (tgt := 257) hx hb dL_act_247 (by decide) (fun c77 => ?_) (fun c77 => ?_)
                                · have h := iq h c77
                                  refine lv_bipush (v := (-5)) hx hb dL_act_257 (by decide) ?_
                                  obtain ⟨h, h9⟩ := pr h
                                  subst h
                                  subst h9
                                  exact W.iret hx hb hr (fun t ht _ => ⟨rfl, by rw [ht]; exact X, hS.F ht⟩) hS.2.2 dL_act_259
                                · have h := ip h c77
                                  refine lv_aload_n hx hb dL_act_250 rfl (lv_at hl 2 rfl) ?_
                                  obtain ⟨q78, hq78, h⟩ := ob h
                                  refine rowW (As := []) (rest := []) C (kX3_openAll l G b σ q78.1 q78.2 hq78) (cwV 0 hts gL_act_X3_openAll rfl rfl rfl (by decide +kernel) ⟨Nat.le_of_ble_eq_true rfl, Nat.le_of_ble_eq_true rfl⟩) (rcv_X3 X hK) X hS (fun _ z => z) rfl hl.1 rfl (Nat.le_of_ble_eq_true rfl) dL_act_251 ⟨Nat.zero_le _, Nat.zero_le _⟩ (fun H locs X hS _ _ => ?_)
                                  show W p l e _ s m _ below meth c H locs 0 0 _ (F0 m 254 ls [.int q78.1])
                                  refine lv_goto (tgt := 259) hx hb dL_act_254 (by decide) ?_
                                  obtain ⟨h, h9⟩ := pr h
                                  subst h
                                  subst h9
                                  exact W.iret hx hb hr (fun t ht _ => ⟨rfl, by rw [ht]; exact X, hS.F ht⟩) hS.2.2 dL_act_259
                              · have h := iq h c76
                                have c3t : ¬ (p1 &&& 15).toInt = 0 := lv_neT c3 (by decide)
                                have c12t : ¬ (p1 &&& 15).toInt = 1 := lv_neT c12 (by decide)
                                have c21t : ¬ (p1 &&& 15).toInt = 2 := lv_neT c21 (by decide)
                                have c30t : ¬ (p1 &&& 15).toInt = 3 := lv_neT c30 (by decide)
                                have c39t : ¬ (p1 &&& 15).toInt = 4 := lv_neT c39 (by decide)
                                have c48t : ¬ (p1 &&& 15).toInt = 5 := lv_neT c48 (by decide)
                                have c53t : ¬ (p1 &&& 15).toInt = 6 := lv_neT c53 (by decide)
                                have c58t : ¬ (p1 &&& 15).toInt = 7 := lv_neT c58 (by decide)
                                have c62t : ¬ (p1 &&& 15).toInt = 8 := lv_neT c62 (by decide)
                                have c64t : ¬ (p1 &&& 15).toInt = 9 := lv_neT c64 (by decide)
                                have c66t : ¬ (p1 &&& 15).toInt = 10 := lv_neT c66 (by decide)
                                have c68t : ¬ (p1 &&& 15).toInt = 11 := lv_neT c68 (by decide)
                                have c70t : ¬ (p1 &&& 15).toInt = 12 := lv_neT c70 (by decide)
                                have c72t : ¬ (p1 &&& 15).toInt = 13 := lv_neT c72 (by decide)
                                have c76t : ¬ (p1 &&& 15).toInt = 14 := lv_neT c76 (by decide)
                                refine lv_tableOut (tgt := 260) hx hb dL_act_21 (by omega) (by decide) ?_
                                refine lv_aload_n hx hb dL_act_260 rfl (lv_at hl 2 rfl) ?_
                                refine lv_iload hx hb dL_act_261 (lv_at hl 0 rfl) ?_
                                obtain ⟨q79, hq79, h⟩ := ob h
                                refine rowV (As := [.int q2]) (rest := []) C (kX3_sameSeal l G b σ q2 q79 hq79) (cwV 1 hts gL_act_X3_sameSeal rfl rfl rfl (by decide +kernel) ⟨Nat.le_of_ble_eq_true rfl, Nat.le_of_ble_eq_true rfl⟩) (rcv_X3 X hK) X rfl hl.1 rfl (Nat.le_of_ble_eq_true rfl) dL_act_263 ⟨Nat.zero_le _, Nat.zero_le _⟩ ?_
                                refine lv_istore (lv' := [(7, .int q79), (4, .int q2), (3, .int q1), (0, .ref b), (1, .int p1), (2, .int p2)]) hx hb dL_act_266 hl (by decide) rfl (fun ls hl => ?_)
                                refine lv_iload hx hb dL_act_268 (lv_at hl 0 rfl) ?_
                                refine lv_if_ge (tgt := 278) hx hb dL_act_270 (by decide) (fun c80 => ?_) (fun c80 => ?_)
                                · have h := ip h c80
                                  refine lv_aload_n hx hb dL_act_278 rfl (lv_at hl 3 rfl) ?_
                                  refine lv_iload hx hb dL_act_279 (lv_at hl 1 rfl) ?_
                                  refine lv_iload hx hb dL_act_281 (lv_at hl 0 rfl) ?_
                                  obtain ⟨q81, hq81, h⟩ := ob h
                                  refine rowW (As := [.int q2, .int q79]) (rest := []) C (kX3_alter l G b σ q2 q79 q81.1 q81.2 hq81) (cwV 2 hts gL_act_X3_alter rfl rfl rfl (by decide +kernel) ⟨Nat.le_of_ble_eq_true rfl, Nat.le_of_ble_eq_true rfl⟩) (rcv_X3 X hK) X hS (fun _ z => z) rfl hl.1 rfl (Nat.le_of_ble_eq_true rfl) dL_act_283 ⟨Nat.zero_le _, Nat.zero_le _⟩ (fun H locs X hS _ _ => ?_)
                                  show W p l e _ s m _ below meth c H locs 0 0 _ (F0 m 286 ls [.int q81.1])
                                  obtain ⟨h, h9⟩ := pr h
                                  subst h
                                  subst h9
                                  exact W.iret hx hb hr (fun t ht _ => ⟨rfl, by rw [ht]; exact X, hS.F ht⟩) hS.2.2 dL_act_286
                                · have h := iq h c80
                                  refine lv_iload hx hb dL_act_273 (lv_at hl 0 rfl) ?_
                                  refine lv_goto (tgt := 286) hx hb dL_act_275 (by decide) ?_
                                  obtain ⟨h, h9⟩ := pr h
                                  subst h
                                  subst h9
                                  exact W.iret hx hb hr (fun t ht _ => ⟨rfl, by rw [ht]; exact X, hS.F ht⟩) hS.2.2 dL_act_286
