def fL_isSame (σ : XS) (p1 : Int32) : Option (Int32 × XS) := (fX3_sameSeal σ p1).bind (fun q1 => if q1 < 0 then (some (1, σ)) else ((fX3_cart σ p1 6).bind (fun q3 => if q3 = 1 then (some (1, σ)) else ((fL_told σ).bind (fun q5 => (fX3_total σ 9).bind (fun q6 => (fX3_cart σ p1 0).bind (fun q7 => if q1 = q7 then (some (0, σ)) else ((fX3_alter σ p1 q1).bind (fun q10 => (if q10.1 = q7 then ((fX3_total q10.2 9).bind (fun q13 => if q13 = q6 then (some 1) else (some 0))) else (some 0)).bind (fun w11 : Int32 => if w11 = 0 then (some (0, q10.2)) else ((fX3_undo q10.2).bind (fun q16 => if q16.1 < 0 then (some (0, q16.2)) else ((fL_told q16.2).bind (fun q18 => if (lg_cmp q18 q5) = 0 then (some (1, q16.2)) else (some (0, q16.2))))))))))))))))
set_option maxHeartbeats 4000000 in
set_option maxRecDepth 100000 in
theorem kL_isSame (l : Launch) (G : Gx) (b : Nat) (σ : XS) (p1 : Int32) (r : Int32) (σ' : XS) (h : fL_isSame σ p1 = some (r, σ')) : Met l yL_isSame wsL_isSame (rmN 6) (pre G [.ref b, .int p1] (xAt G b σ)) (QcW b (b + 54) (xAt G b σ') (some (.int r))) 0 0 (lw_Fr b (b + 54)) := by
  refine Met.ofW (cc := cL_isSame) (maxL := 8) (ret := (some .boolean)) (by decide) rfl ?_
  intro p e s m args below meth c s₁ B hml hv
  obtain ⟨rfl, X, hK⟩ := hv
  have hx := B.exec
  have hb := B.bytes
  have hr := B.returns
  have hts := atoms_spec (ws := wsL_isSame) B.pre
  have hown : s.vm.findClass RL = some m.cls := findClass_of_methodNamed B.named
  have hlocks := B.notSynchronized
  have C : Cx p m c cL_isSame 8 s _ wsL_isSame RL G := ⟨⟨hx, hb, hml, hown, hts⟩, hK⟩
  have hS : va_S (lw_Fr b (b + 54)) s.heap s.heap [] := va_S.rf
  have hl := lv_entry ([.ref b, .int p1]) (n := 8) (Nat.le_of_ble_eq_true rfl)
  rw [lg_entry_eq]
  generalize (lg_sl ([.ref b, .int p1]) ++ List.replicate (8 - (lg_sl ([.ref b, .int p1])).length) Slot.unset).toArray = ls at hl ⊢
  have hl : lv_has ls 8 [(0, .ref b), (1, .int p1)] := hl
  unfold fL_isSame at h
  refine lv_aload_n hx hb dL_isSame_0 rfl (lv_at hl 0 rfl) ?_
  refine lv_iload_n hx hb dL_isSame_1 rfl (lv_at hl 1 rfl) ?_
  obtain ⟨q1, hq1, h⟩ := ob h
  refine rowV (As := [.int p1]) (rest := []) C (kX3_sameSeal l G b σ p1 q1 hq1) (cwV 1 hts gL_isSame_X3_sameSeal rfl rfl rfl (by decide +kernel) ⟨Nat.le_of_ble_eq_true rfl, Nat.le_of_ble_eq_true rfl⟩) (rcv_X3 X hK) X rfl hl.1 rfl (Nat.le_of_ble_eq_true rfl) dL_isSame_2 ⟨Nat.zero_le _, Nat.zero_le _⟩ ?_
  refine lv_istore_n (lv' := [(2, .int q1), (0, .ref b), (1, .int p1)]) hx hb dL_isSame_5 rfl hl (by decide) rfl (fun ls hl => ?_)
  refine lv_iload_n hx hb dL_isSame_6 rfl (lv_at hl 0 rfl) ?_
  refine lv_if_lt (tgt := 21) hx hb dL_isSame_7 (by decide) (fun c2 => ?_) (fun c2 => ?_)
  · have h := ip h c2
    refine lv_iconst (v := 1) hx hb dL_isSame_21 (by decide) ?_
    obtain ⟨h, h9⟩ := pr h
    subst h
    subst h9
    exact W.zret hx hb hr rfl (fun t ht _ => ⟨rfl, by rw [ht]; exact X, hS.F ht⟩) hS.2.2 dL_isSame_22
  · have h := iq h c2
    refine lv_aload_n hx hb dL_isSame_10 rfl (lv_at hl 1 rfl) ?_
    refine lv_iload_n hx hb dL_isSame_11 rfl (lv_at hl 2 rfl) ?_
    refine lv_bipush (v := 6) hx hb dL_isSame_12 (by decide) ?_
    obtain ⟨q3, hq3, h⟩ := ob h
    refine rowV (As := [.int p1, .int 6]) (rest := []) C (kX3_cart l G b σ p1 6 q3 hq3) (cwV 2 hts gL_isSame_X3_cart rfl rfl rfl (by decide +kernel) ⟨Nat.le_of_ble_eq_true rfl, Nat.le_of_ble_eq_true rfl⟩) (rcv_X3 X hK) X rfl hl.1 rfl (Nat.le_of_ble_eq_true rfl) dL_isSame_14 ⟨Nat.zero_le _, Nat.zero_le _⟩ ?_
    refine lv_iconst (v := 1) hx hb dL_isSame_17 (by decide) ?_
    refine lv_icmp_ne (tgt := 23) hx hb dL_isSame_18 (by decide) (fun c4 => ?_) (fun c4 => ?_)
    · have h := iq h c4
      refine lv_aload_n hx hb dL_isSame_23 rfl (lv_at hl 1 rfl) ?_
      obtain ⟨q5, hq5, h⟩ := ob h
      refine rowSV (As := [.ref b]) (rest := []) C (kL_told l G b σ q5 hq5) (va_cwS 1 hts gL_isSame_L_told rfl rfl rfl (by decide +kernel) ⟨Nat.le_of_ble_eq_true rfl, Nat.le_of_ble_eq_true rfl⟩) X rfl hl.1 rfl (Nat.le_of_ble_eq_true rfl) dL_isSame_24 ⟨Nat.zero_le _, Nat.zero_le _⟩ ?_
      refine lv_lstore_n (lv' := [(3, .long q5), (2, .int q1), (0, .ref b), (1, .int p1)]) hx hb dL_isSame_27 rfl hl (by decide) rfl (fun ls hl => ?_)
      refine lv_aload_n hx hb dL_isSame_28 rfl (lv_at hl 2 rfl) ?_
      refine lv_bipush (v := 9) hx hb dL_isSame_29 (by decide) ?_
      obtain ⟨q6, hq6, h⟩ := ob h
      refine rowV (As := [.int 9]) (rest := []) C (kX3_total l G b σ 9 q6 hq6) (cwV 1 hts gL_isSame_X3_total rfl rfl rfl (by decide +kernel) ⟨Nat.le_of_ble_eq_true rfl, Nat.le_of_ble_eq_true rfl⟩) (rcv_X3 X hK) X rfl hl.1 rfl (Nat.le_of_ble_eq_true rfl) dL_isSame_31 ⟨Nat.zero_le _, Nat.zero_le _⟩ ?_
      refine lv_istore (lv' := [(5, .int q6), (3, .long q5), (2, .int q1), (0, .ref b), (1, .int p1)]) hx hb dL_isSame_34 hl (by decide) rfl (fun ls hl => ?_)
      refine lv_aload_n hx hb dL_isSame_36 rfl (lv_at hl 3 rfl) ?_
      refine lv_iload_n hx hb dL_isSame_37 rfl (lv_at hl 4 rfl) ?_
      refine lv_iconst (v := 0) hx hb dL_isSame_38 (by decide) ?_
      obtain ⟨q7, hq7, h⟩ := ob h
      refine rowV (As := [.int p1, .int 0]) (rest := []) C (kX3_cart l G b σ p1 0 q7 hq7) (cwV 2 hts gL_isSame_X3_cart rfl rfl rfl (by decide +kernel) ⟨Nat.le_of_ble_eq_true rfl, Nat.le_of_ble_eq_true rfl⟩) (rcv_X3 X hK) X rfl hl.1 rfl (Nat.le_of_ble_eq_true rfl) dL_isSame_39 ⟨Nat.zero_le _, Nat.zero_le _⟩ ?_
      refine lv_istore (lv' := [(6, .int q7), (5, .int q6), (3, .long q5), (2, .int q1), (0, .ref b), (1, .int p1)]) hx hb dL_isSame_42 hl (by decide) rfl (fun ls hl => ?_)
      refine lv_iload_n hx hb dL_isSame_44 rfl (lv_at hl 3 rfl) ?_
      refine lv_iload hx hb dL_isSame_45 (lv_at hl 0 rfl) ?_
      refine lv_icmp_eq (tgt := 76) hx hb dL_isSame_47 (by decide) (fun c8 => ?_) (fun c8 => ?_)
      · have h := ip h c8
        refine lv_iconst (v := 0) hx hb dL_isSame_76 (by decide) ?_
        refine lv_istore (lv' := [(7, .int 0), (6, .int q7), (5, .int q6), (3, .long q5), (2, .int q1), (0, .ref b), (1, .int p1)]) hx hb dL_isSame_77 hl (by decide) rfl (fun ls hl => ?_)
        refine lv_iload hx hb dL_isSame_79 (lv_at hl 0 rfl) ?_
        refine lv_if_eq (tgt := 104) hx hb dL_isSame_81 (by decide) (fun c9 => ?_) (fun c9 => ?_)
        · skip
          refine lv_iconst (v := 0) hx hb dL_isSame_104 (by decide) ?_
          obtain ⟨h, h9⟩ := pr h
          subst h
          subst h9
          exact W.zret hx hb hr rfl (fun t ht _ => ⟨rfl, by rw [ht]; exact X, hS.F ht⟩) hS.2.2 dL_isSame_105
        · exact absurd c9 (by decide)
      · have h := iq h c8
        refine lv_aload_n hx hb dL_isSame_50 rfl (lv_at hl 4 rfl) ?_
        refine lv_iload_n hx hb dL_isSame_51 rfl (lv_at hl 5 rfl) ?_
        refine lv_iload_n hx hb dL_isSame_52 rfl (lv_at hl 3 rfl) ?_
        obtain ⟨q10, hq10, h⟩ := ob h
        refine rowW (As := [.int p1, .int q1]) (rest := []) C (kX3_alter l G b σ p1 q1 q10.1 q10.2 hq10) (cwV 2 hts gL_isSame_X3_alter rfl rfl rfl (by decide +kernel) ⟨Nat.le_of_ble_eq_true rfl, Nat.le_of_ble_eq_true rfl⟩) (rcv_X3 X hK) X hS (fun _ z => z) rfl hl.1 rfl (Nat.le_of_ble_eq_true rfl) dL_isSame_53 ⟨Nat.zero_le _, Nat.zero_le _⟩ (fun H locs X hS _ _ => ?_)
        show W p l e _ s m _ below meth c H locs 0 0 _ (F0 m 56 ls [.int q10.1])
        refine lv_iload hx hb dL_isSame_56 (lv_at hl 0 rfl) ?_
        obtain ⟨w11, hw11, h⟩ := ob h
        have jw11 : W p l e (rmN 6) s m #[Value.ref b, Value.int p1] below meth c H locs 0 0 (MQ below (QcW b (b + 54) (xAt G b σ') (some (.int r))) #[Value.ref b, Value.int p1] s 0 0 (lw_Fr b (b + 54))) (F0 m 77 ls [.int w11]) := by
          refine lv_istore (lv' := [(7, .int w11), (6, .int q7), (5, .int q6), (3, .long q5), (2, .int q1), (0, .ref b), (1, .int p1)]) hx hb dL_isSame_77 hl (by decide) rfl (fun ls hl => ?_)
          refine lv_iload hx hb dL_isSame_79 (lv_at hl 0 rfl) ?_
          refine lv_if_eq (tgt := 104) hx hb dL_isSame_81 (by decide) (fun c15 => ?_) (fun c15 => ?_)
          · have h := ip h c15
            refine lv_iconst (v := 0) hx hb dL_isSame_104 (by decide) ?_
            obtain ⟨h, h9⟩ := pr h
            subst h
            subst h9
            exact W.zret hx hb hr rfl (fun t ht _ => ⟨rfl, by rw [ht]; exact X, hS.F ht⟩) hS.2.2 dL_isSame_105
          · have h := iq h c15
            refine lv_aload_n hx hb dL_isSame_84 rfl (lv_at hl 5 rfl) ?_
            obtain ⟨q16, hq16, h⟩ := ob h
            refine rowW (As := []) (rest := []) C (kX3_undo l G b q10.2 q16.1 q16.2 hq16) (cwV 0 hts gL_isSame_X3_undo rfl rfl rfl (by decide +kernel) ⟨Nat.le_of_ble_eq_true rfl, Nat.le_of_ble_eq_true rfl⟩) (rcv_X3 X hK) X hS (fun _ z => z) rfl hl.1 rfl (Nat.le_of_ble_eq_true rfl) dL_isSame_85 ⟨Nat.zero_le _, Nat.zero_le _⟩ (fun H locs X hS _ _ => ?_)
            show W p l e _ s m _ below meth c H locs 0 0 _ (F0 m 88 ls [.int q16.1])
            refine lv_if_lt (tgt := 104) hx hb dL_isSame_88 (by decide) (fun c17 => ?_) (fun c17 => ?_)
            · have h := ip h c17
              refine lv_iconst (v := 0) hx hb dL_isSame_104 (by decide) ?_
              obtain ⟨h, h9⟩ := pr h
              subst h
              subst h9
              exact W.zret hx hb hr rfl (fun t ht _ => ⟨rfl, by rw [ht]; exact X, hS.F ht⟩) hS.2.2 dL_isSame_105
            · have h := iq h c17
              refine lv_aload_n hx hb dL_isSame_91 rfl (lv_at hl 5 rfl) ?_
              obtain ⟨q18, hq18, h⟩ := ob h
              refine rowSV (As := [.ref b]) (rest := []) C (kL_told l G b q16.2 q18 hq18) (va_cwS 1 hts gL_isSame_L_told rfl rfl rfl (by decide +kernel) ⟨Nat.le_of_ble_eq_true rfl, Nat.le_of_ble_eq_true rfl⟩) X rfl hl.1 rfl (Nat.le_of_ble_eq_true rfl) dL_isSame_92 ⟨Nat.zero_le _, Nat.zero_le _⟩ ?_
              refine lv_lload_n hx hb dL_isSame_95 rfl (lv_at hl 3 rfl) ?_
              refine W.lcmp hx hb dL_isSame_96 ?_
              refine lv_if_ne (tgt := 104) hx hb dL_isSame_97 (by decide) (fun c19 => ?_) (fun c19 => ?_)
              · have h := iq h c19
                refine lv_iconst (v := 0) hx hb dL_isSame_104 (by decide) ?_
                obtain ⟨h, h9⟩ := pr h
                subst h
                subst h9
                exact W.zret hx hb hr rfl (fun t ht _ => ⟨rfl, by rw [ht]; exact X, hS.F ht⟩) hS.2.2 dL_isSame_105
              · have h := ip h c19
                refine lv_iconst (v := 1) hx hb dL_isSame_100 (by decide) ?_
                refine lv_goto (tgt := 105) hx hb dL_isSame_101 (by decide) ?_
                obtain ⟨h, h9⟩ := pr h
                subst h
                subst h9
                exact W.zret hx hb hr rfl (fun t ht _ => ⟨rfl, by rw [ht]; exact X, hS.F ht⟩) hS.2.2 dL_isSame_105
        have h := hw11
        refine lv_icmp_ne (tgt := 76) hx hb dL_isSame_58 (by decide) (fun c12 => ?_) (fun c12 => ?_)
        · have h := iq h c12
          refine lv_iconst (v := 0) hx hb dL_isSame_76 (by decide) ?_
          have h := so h
          subst h
          exact jw11
        · have h := ip h c12
          refine lv_aload_n hx hb dL_isSame_61 rfl (lv_at hl 4 rfl) ?_
          refine lv_bipush (v := 9) hx hb dL_isSame_62 (by decide) ?_
          obtain ⟨q13, hq13, h⟩ := ob h
          refine rowV (As := [.int 9]) (rest := []) C (kX3_total l G b q10.2 9 q13 hq13) (cwV 1 hts gL_isSame_X3_total rfl rfl rfl (by decide +kernel) ⟨Nat.le_of_ble_eq_true rfl, Nat.le_of_ble_eq_true rfl⟩) (rcv_X3 X hK) X rfl hl.1 rfl (Nat.le_of_ble_eq_true rfl) dL_isSame_64 ⟨Nat.zero_le _, Nat.zero_le _⟩ ?_
          refine lv_iload hx hb dL_isSame_67 (lv_at hl 1 rfl) ?_
          refine lv_icmp_ne (tgt := 76) hx hb dL_isSame_69 (by decide) (fun c14 => ?_) (fun c14 => ?_)
          · have h := iq h c14
            refine lv_iconst (v := 0) hx hb dL_isSame_76 (by decide) ?_
            have h := so h
            subst h
            exact jw11
          · have h := ip h c14
            refine lv_iconst (v := 1) hx hb dL_isSame_72 (by decide) ?_
            refine lv_goto (tgt := 77) hx hb dL_isSame_73 (by decide) ?_
            have h := so h
            subst h
            exact jw11
    · have h := ip h c4
      refine lv_iconst (v := 1) hx hb dL_isSame_21 (by decide) ?_
      obtain ⟨h, h9⟩ := pr h
      subst h
      subst h9
      exact W.zret hx hb hr rfl (fun t ht _ => ⟨rfl, by rw [ht]; exact X, hS.F ht⟩) hS.2.2 dL_isSame_22
