def fL_holds_167 (k : Int32 → Int32 → Int32 → Int32 → Int32 → Int32 → Int32 → Int32 → Int32 → Int32 → Int32 → Int32 → Int32 → Option (Int32)) : Nat → XS → Int32 → Int32 → Int32 → Int32 → Int32 → Int32 → Int32 → Int32 → Int32 → Int32 → Int32 → Int32 → Int32 → Option (Int32)
  | 0, _, _, _, _, _, _, _, _, _, _, _, _, _, _ => none
  | n + 1, σ, v1, v2, v3, v4, v5, v6, v7, v8, v9, v10, v11, v12, v13 => if v10 ≤ v13 then (k v1 v2 v3 v4 v5 v6 v7 v8 v9 v10 v11 v12 v13) else ((if v12 = 0 then ((fX3_chain σ v8 v13).bind (fun q39 => (fX3_cart σ q39 5).bind (fun q40 => if q40 = 0 then (some 1) else (some 0)))) else (some 1)).bind (fun w37 : Int32 => fL_holds_167 k n σ v1 v2 v3 v4 v5 v6 v7 v8 v9 v10 v11 w37 (v13 + 1)))
theorem fL_holds_167_0 (k : Int32 → Int32 → Int32 → Int32 → Int32 → Int32 → Int32 → Int32 → Int32 → Int32 → Int32 → Int32 → Int32 → Option (Int32)) (σ : XS) (v1 : Int32) (v2 : Int32) (v3 : Int32) (v4 : Int32) (v5 : Int32) (v6 : Int32) (v7 : Int32) (v8 : Int32) (v9 : Int32) (v10 : Int32) (v11 : Int32) (v12 : Int32) (v13 : Int32) : fL_holds_167 k 0 σ v1 v2 v3 v4 v5 v6 v7 v8 v9 v10 v11 v12 v13 = none := rfl
theorem fL_holds_167_s (k : Int32 → Int32 → Int32 → Int32 → Int32 → Int32 → Int32 → Int32 → Int32 → Int32 → Int32 → Int32 → Int32 → Option (Int32)) (n : Nat) (σ : XS) (v1 : Int32) (v2 : Int32) (v3 : Int32) (v4 : Int32) (v5 : Int32) (v6 : Int32) (v7 : Int32) (v8 : Int32) (v9 : Int32) (v10 : Int32) (v11 : Int32) (v12 : Int32) (v13 : Int32) : fL_holds_167 k (n + 1) σ v1 v2 v3 v4 v5 v6 v7 v8 v9 v10 v11 v12 v13 = (if v10 ≤ v13 then (k v1 v2 v3 v4 v5 v6 v7 v8 v9 v10 v11 v12 v13) else ((if v12 = 0 then ((fX3_chain σ v8 v13).bind (fun q39 => (fX3_cart σ q39 5).bind (fun q40 => if q40 = 0 then (some 1) else (some 0)))) else (some 1)).bind (fun w37 : Int32 => fL_holds_167 k n σ v1 v2 v3 v4 v5 v6 v7 v8 v9 v10 v11 w37 (v13 + 1)))) := rfl
def fL_holds_25 : Nat → XS → Int32 → Int32 → Int32 → Int32 → Int32 → Int32 → Int32 → Int32 → Option (Int32)
  | 0, _, _, _, _, _, _, _, _, _ => none
  | n + 1, σ, v1, v2, v3, v4, v5, v6, v7, v8 => if v1 ≤ v8 then ((fX3_fewestOpenings σ 0).bind (fun q3 => (fX3_total σ 6).bind (fun q4 => (if q4 = v2 then ((fX3_total σ 7).bind (fun q7 => if q7 = v3 then (if v4 = v5 then ((fX3_total σ 13).bind (fun q10 => if q10 = v6 then (some 1) else (some 0))) else (some 0)) else (some 0))) else (some 0)).bind (fun w5 : Int32 => if w5 = 0 then (some 0) else ((fX3_fewestOpenings σ 1).bind (fun q13 => if q3 = q13 then ((if q3 = 0 then (some 1) else (some 0)).bind (fun w15 : Int32 => (if v7 = 0 then (some 1) else (some 0)).bind (fun w17 : Int32 => if w15 = w17 then (if v7 < q3 then (some 0) else (some 1)) else (some 0)))) else (some 0))))))) else ((fX3_cart σ v8 2).bind (fun q21 => (fX3_cart σ v8 9).bind (fun q22 => (fX3_cart σ v8 5).bind (fun q23 => (if q23 = 1 then (some 1) else (some 0)).bind (fun w24 : Int32 => (fX3_cart σ v8 6).bind (fun q26 => (fX3_cart σ v8 7).bind (fun q27 => (fX3_cart σ v8 11).bind (fun q28 => (fX3_cart σ v8 10).bind (fun q29 => (if q29 = 0 then (some 1) else (some 0)).bind (fun w30 : Int32 => (fX3_cart σ v8 6).bind (fun q32 => (fX3_cart σ v8 7).bind (fun q33 => (if (q32 + q33) = 0 then (some 1) else (some 0)).bind (fun w34 : Int32 => fL_holds_167 (fun v1 v2 v3 v4 v5 v6 v7 v8 v9 v10 v11 v12 v13 => (fX3_cart σ v8 3).bind (fun q42 => (fX3_cart σ v8 4).bind (fun q43 => (if q42 = q43 then (some 1) else (some 0)).bind (fun w44 : Int32 => if v11 = w44 then (if v8 ≤ v9 then (some 0) else ((if 0 ≤ v9 then ((fX3_cart σ v9 9).bind (fun q50 => some (1 + q50))) else (some 1)).bind (fun w48 : Int32 => if v10 = w48 then ((fX3_chain σ v8 v10).bind (fun q52 => if q52 = (-5) then ((fX3_brokenIn σ v8).bind (fun q54 => (if 0 ≤ q54 then (some 0) else (some 1)).bind (fun w55 : Int32 => if w55 = v12 then (some 0) else ((fX3_cart σ v8 10).bind (fun q58 => (fX3_cart σ v8 11).bind (fun q59 => if (q59 - 1) < q58 then (some 0) else ((fX3_cart σ v8 12).bind (fun q61 => (if q61 = 0 then (some 1) else (some 0)).bind (fun w62 : Int32 => (fX3_cart σ v8 7).bind (fun q64 => (if q64 = 1 then (some 1) else (some 0)).bind (fun w65 : Int32 => if w62 = w65 then ((fX3_ifOpened σ v8 0).bind (fun q68 => (if q68 = (-4) then (some 1) else (some 0)).bind (fun w69 : Int32 => (fX3_cart σ v8 6).bind (fun q71 => (if q71 = 1 then (some 1) else (some 0)).bind (fun w72 : Int32 => if w69 = w72 then (fL_holds_25 n σ v1 v2 v3 v4 v5 v6 v7 (v8 + 1)) else (some 0)))))) else (some 0)))))))))))) else (some 0))) else (some 0)))) else (some 0))))) 1000 σ v1 (v2 + q26) (v3 + q27) (v4 + q22) (v5 + q28) (v6 + w30) (v7 + w34) v8 q21 q22 w24 0 0)))))))))))))
theorem fL_holds_25_0 (σ : XS) (v1 : Int32) (v2 : Int32) (v3 : Int32) (v4 : Int32) (v5 : Int32) (v6 : Int32) (v7 : Int32) (v8 : Int32) : fL_holds_25 0 σ v1 v2 v3 v4 v5 v6 v7 v8 = none := rfl
theorem fL_holds_25_s (n : Nat) (σ : XS) (v1 : Int32) (v2 : Int32) (v3 : Int32) (v4 : Int32) (v5 : Int32) (v6 : Int32) (v7 : Int32) (v8 : Int32) : fL_holds_25 (n + 1) σ v1 v2 v3 v4 v5 v6 v7 v8 = (if v1 ≤ v8 then ((fX3_fewestOpenings σ 0).bind (fun q3 => (fX3_total σ 6).bind (fun q4 => (if q4 = v2 then ((fX3_total σ 7).bind (fun q7 => if q7 = v3 then (if v4 = v5 then ((fX3_total σ 13).bind (fun q10 => if q10 = v6 then (some 1) else (some 0))) else (some 0)) else (some 0))) else (some 0)).bind (fun w5 : Int32 => if w5 = 0 then (some 0) else ((fX3_fewestOpenings σ 1).bind (fun q13 => if q3 = q13 then ((if q3 = 0 then (some 1) else (some 0)).bind (fun w15 : Int32 => (if v7 = 0 then (some 1) else (some 0)).bind (fun w17 : Int32 => if w15 = w17 then (if v7 < q3 then (some 0) else (some 1)) else (some 0)))) else (some 0))))))) else ((fX3_cart σ v8 2).bind (fun q21 => (fX3_cart σ v8 9).bind (fun q22 => (fX3_cart σ v8 5).bind (fun q23 => (if q23 = 1 then (some 1) else (some 0)).bind (fun w24 : Int32 => (fX3_cart σ v8 6).bind (fun q26 => (fX3_cart σ v8 7).bind (fun q27 => (fX3_cart σ v8 11).bind (fun q28 => (fX3_cart σ v8 10).bind (fun q29 => (if q29 = 0 then (some 1) else (some 0)).bind (fun w30 : Int32 => (fX3_cart σ v8 6).bind (fun q32 => (fX3_cart σ v8 7).bind (fun q33 => (if (q32 + q33) = 0 then (some 1) else (some 0)).bind (fun w34 : Int32 => fL_holds_167 (fun v1 v2 v3 v4 v5 v6 v7 v8 v9 v10 v11 v12 v13 => (fX3_cart σ v8 3).bind (fun q42 => (fX3_cart σ v8 4).bind (fun q43 => (if q42 = q43 then (some 1) else (some 0)).bind (fun w44 : Int32 => if v11 = w44 then (if v8 ≤ v9 then (some 0) else ((if 0 ≤ v9 then ((fX3_cart σ v9 9).bind (fun q50 => some (1 + q50))) else (some 1)).bind (fun w48 : Int32 => if v10 = w48 then ((fX3_chain σ v8 v10).bind (fun q52 => if q52 = (-5) then ((fX3_brokenIn σ v8).bind (fun q54 => (if 0 ≤ q54 then (some 0) else (some 1)).bind (fun w55 : Int32 => if w55 = v12 then (some 0) else ((fX3_cart σ v8 10).bind (fun q58 => (fX3_cart σ v8 11).bind (fun q59 => if (q59 - 1) < q58 then (some 0) else ((fX3_cart σ v8 12).bind (fun q61 => (if q61 = 0 then (some 1) else (some 0)).bind (fun w62 : Int32 => (fX3_cart σ v8 7).bind (fun q64 => (if q64 = 1 then (some 1) else (some 0)).bind (fun w65 : Int32 => if w62 = w65 then ((fX3_ifOpened σ v8 0).bind (fun q68 => (if q68 = (-4) then (some 1) else (some 0)).bind (fun w69 : Int32 => (fX3_cart σ v8 6).bind (fun q71 => (if q71 = 1 then (some 1) else (some 0)).bind (fun w72 : Int32 => if w69 = w72 then (fL_holds_25 n σ v1 v2 v3 v4 v5 v6 v7 (v8 + 1)) else (some 0)))))) else (some 0)))))))))))) else (some 0))) else (some 0)))) else (some 0))))) 1000 σ v1 (v2 + q26) (v3 + q27) (v4 + q22) (v5 + q28) (v6 + w30) (v7 + w34) v8 q21 q22 w24 0 0)))))))))))))) := rfl
def fL_holds (σ : XS) : Option (Int32) := (fX3_total σ 5).bind (fun q1 => fL_holds_25 1000 σ q1 0 0 0 0 0 0 0)
set_option maxHeartbeats 4000000 in
set_option maxRecDepth 100000 in
theorem kL_holds (l : Launch) (G : Gx) (b : Nat) (σ : XS) (r : Int32) (h : fL_holds σ = some r) : Met l yL_holds wsL_holds (rmN 6) (pre G [.ref b] (xAt G b σ)) (QcRead r) 0 0 (fun _ => False) := by
  refine Met.ofW (cc := cL_holds) (maxL := 14) (ret := (some .boolean)) (by decide) rfl ?_
  intro p e s m args below meth c s₁ B hml hv
  obtain ⟨rfl, X, hK⟩ := hv
  have hx := B.exec
  have hb := B.bytes
  have hr := B.returns
  have hts := atoms_spec (ws := wsL_holds) B.pre
  have hown : s.vm.findClass RL = some m.cls := findClass_of_methodNamed B.named
  have hlocks := B.notSynchronized
  have C : Cx p m c cL_holds 14 s _ wsL_holds RL G := ⟨⟨hx, hb, hml, hown, hts⟩, hK⟩
  have hl := lv_entry ([.ref b]) (n := 14) (Nat.le_of_ble_eq_true rfl)
  rw [lg_entry_eq]
  generalize (lg_sl ([.ref b]) ++ List.replicate (14 - (lg_sl ([.ref b])).length) Slot.unset).toArray = ls at hl ⊢
  have hl : lv_has ls 14 [(0, .ref b)] := hl
  have loop167 : ∀ (k : Int32 → Int32 → Int32 → Int32 → Int32 → Int32 → Int32 → Int32 → Int32 → Int32 → Int32 → Int32 → Int32 → Option (Int32)), (∀ (v1 : Int32) (v2 : Int32) (v3 : Int32) (v4 : Int32) (v5 : Int32) (v6 : Int32) (v7 : Int32) (v8 : Int32) (v9 : Int32) (v10 : Int32) (v11 : Int32) (v12 : Int32) (v13 : Int32) (ls : Array Slot), k v1 v2 v3 v4 v5 v6 v7 v8 v9 v10 v11 v12 v13 = some r → lv_has ls 14 [(0, .ref b), (1, .int v1), (2, .int v2), (3, .int v3), (4, .int v4), (5, .int v5), (6, .int v6), (7, .int v7), (8, .int v8), (9, .int v9), (10, .int v10), (11, .int v11), (12, .int v12), (13, .int v13)] → W p l e (rmN 6) s m #[Value.ref b] below meth c s.heap [] 0 0 (MQ below (QcRead r) #[Value.ref b] s 0 0 (fun _ => False)) (F0 m 208 ls [])) → ∀ (n : Nat) (v1 : Int32) (v2 : Int32) (v3 : Int32) (v4 : Int32) (v5 : Int32) (v6 : Int32) (v7 : Int32) (v8 : Int32) (v9 : Int32) (v10 : Int32) (v11 : Int32) (v12 : Int32) (v13 : Int32) (ls : Array Slot), fL_holds_167 k n σ v1 v2 v3 v4 v5 v6 v7 v8 v9 v10 v11 v12 v13 = some r → lv_has ls 14 [(0, .ref b), (1, .int v1), (2, .int v2), (3, .int v3), (4, .int v4), (5, .int v5), (6, .int v6), (7, .int v7), (8, .int v8), (9, .int v9), (10, .int v10), (11, .int v11), (12, .int v12), (13, .int v13)] → W p l e (rmN 6) s m #[Value.ref b] below meth c s.heap [] 0 0 (MQ below (QcRead r) #[Value.ref b] s 0 0 (fun _ => False)) (F0 m 167 ls []) := by
    intro k hk n
    induction n with
    | zero =>
      intro v1 v2 v3 v4 v5 v6 v7 v8 v9 v10 v11 v12 v13 ls h hl
      rw [fL_holds_167_0] at h
      cases h
    | succ n ih =>
      intro v1 v2 v3 v4 v5 v6 v7 v8 v9 v10 v11 v12 v13 ls h hl
      rw [fL_holds_167_s] at h
      refine lv_iload hx hb dL_holds_167 (lv_at hl 13 rfl) ?_
      refine lv_iload hx hb dL_holds_169 (lv_at hl 10 rfl) ?_
      refine lv_icmp_ge (tgt := 208) hx hb dL_holds_171 (by decide) (fun c36 => ?_) (fun c36 => ?_)
      · have h := ip h c36
        exact hk _ _ _ _ _ _ _ _ _ _ _ _ _ _ h (lv_sub hl [0, 1, 2, 3, 4, 5, 6, 7, 8, 9, 10, 11, 12, 13] rfl)
      · have h := iq h c36
        refine lv_iload hx hb dL_holds_174 (lv_at hl 12 rfl) ?_
        obtain ⟨w37, hw37, h⟩ := ob h
        have jw37 : W p l e (rmN 6) s m #[Value.ref b] below meth c s.heap [] 0 0 (MQ below (QcRead r) #[Value.ref b] s 0 0 (fun _ => False)) (F0 m 200 ls [.int w37]) := by
          refine lv_istore (lv' := [(12, .int w37), (0, .ref b), (1, .int v1), (2, .int v2), (3, .int v3), (4, .int v4), (5, .int v5), (6, .int v6), (7, .int v7), (8, .int v8), (9, .int v9), (10, .int v10), (11, .int v11), (13, .int v13)]) hx hb dL_holds_200 hl (by decide) rfl (fun ls hl => ?_)
          refine lv_iinc (v := v13 + 1) (lv' := [(13, .int (v13 + 1)), (12, .int w37), (0, .ref b), (1, .int v1), (2, .int v2), (3, .int v3), (4, .int v4), (5, .int v5), (6, .int v6), (7, .int v7), (8, .int v8), (9, .int v9), (10, .int v10), (11, .int v11)]) hx hb dL_holds_202 hl (k := 13) rfl rfl (by decide) rfl (fun ls hl => ?_)
          refine lv_goto (tgt := 167) hx hb dL_holds_205 (by decide) ?_
          exact ih _ _ _ _ _ _ _ _ _ _ _ _ _ _ h (lv_sub hl [2, 3, 4, 5, 6, 7, 8, 9, 10, 11, 12, 13, 1, 0] rfl)
        have h := hw37
        refine lv_if_ne (tgt := 195) hx hb dL_holds_176 (by decide) (fun c38 => ?_) (fun c38 => ?_)
        · have h := iq h c38
          refine lv_iconst (v := 1) hx hb dL_holds_195 (by decide) ?_
          refine lv_goto (tgt := 200) hx hb dL_holds_196 (by decide) ?_
          have h := so h
          subst h
          exact jw37
        · have h := ip h c38
          refine lv_aload_n hx hb dL_holds_179 rfl (lv_at hl 0 rfl) ?_
          refine lv_aload_n hx hb dL_holds_180 rfl (lv_at hl 0 rfl) ?_
          refine lv_iload hx hb dL_holds_181 (lv_at hl 8 rfl) ?_
          refine lv_iload hx hb dL_holds_183 (lv_at hl 13 rfl) ?_
          obtain ⟨q39, hq39, h⟩ := ob h
          refine rowV (As := [.int v8, .int v13]) (rest := [.ref b]) C (kX3_chain l G b σ v8 v13 q39 hq39) (cwV 2 hts gL_holds_X3_chain rfl rfl rfl (by decide +kernel) ⟨Nat.le_of_ble_eq_true rfl, Nat.le_of_ble_eq_true rfl⟩) (rcv_X3 X hK) X rfl hl.1 rfl (Nat.le_of_ble_eq_true rfl) dL_holds_185 ⟨Nat.zero_le _, Nat.zero_le _⟩ ?_
          refine lv_iconst (v := 5) hx hb dL_holds_188 (by decide) ?_
          obtain ⟨q40, hq40, h⟩ := ob h
          refine rowV (As := [.int q39, .int 5]) (rest := []) C (kX3_cart l G b σ q39 5 q40 hq40) (cwV 2 hts gL_holds_X3_cart rfl rfl rfl (by decide +kernel) ⟨Nat.le_of_ble_eq_true rfl, Nat.le_of_ble_eq_true rfl⟩) (rcv_X3 X hK) X rfl hl.1 rfl (Nat.le_of_ble_eq_true rfl) dL_holds_189 ⟨Nat.zero_le _, Nat.zero_le _⟩ ?_
          refine lv_if_ne (tgt := 199) hx hb dL_holds_192 (by decide) (fun c41 => ?_) (fun c41 => ?_)
          · have h := iq h c41
            refine lv_iconst (v := 0) hx hb dL_holds_199 (by decide) ?_
            have h := so h
            subst h
            exact jw37
          · have h := ip h c41
            refine lv_iconst (v := 1) hx hb dL_holds_195 (by decide) ?_
            refine lv_goto (tgt := 200) hx hb dL_holds_196 (by decide) ?_
            have h := so h
            subst h
            exact jw37
  have loop25 : ∀ (n : Nat) (v1 : Int32) (v2 : Int32) (v3 : Int32) (v4 : Int32) (v5 : Int32) (v6 : Int32) (v7 : Int32) (v8 : Int32) (ls : Array Slot), fL_holds_25 n σ v1 v2 v3 v4 v5 v6 v7 v8 = some r → lv_has ls 14 [(0, .ref b), (1, .int v1), (2, .int v2), (3, .int v3), (4, .int v4), (5, .int v5), (6, .int v6), (7, .int v7), (8, .int v8)] → W p l e (rmN 6) s m #[Value.ref b] below meth c s.heap [] 0 0 (MQ below (QcRead r) #[Value.ref b] s 0 0 (fun _ => False)) (F0 m 25 ls []) := by
    intro n
    induction n with
    | zero =>
      intro v1 v2 v3 v4 v5 v6 v7 v8 ls h hl
      rw [fL_holds_25_0] at h
      cases h
    | succ n ih =>
      intro v1 v2 v3 v4 v5 v6 v7 v8 ls h hl
      rw [fL_holds_25_s] at h
      refine lv_iload hx hb dL_holds_25 (lv_at hl 8 rfl) ?_
      refine lv_iload_n hx hb dL_holds_27 rfl (lv_at hl 1 rfl) ?_
      refine lv_icmp_ge (tgt := 402) hx hb dL_holds_28 (by decide) (fun c2 => ?_) (fun c2 => ?_)
      · have h := ip h c2
        refine lv_aload_n hx hb dL_holds_402 rfl (lv_at hl 0 rfl) ?_
        refine lv_iconst (v := 0) hx hb dL_holds_403 (by decide) ?_
        obtain ⟨q3, hq3, h⟩ := ob h
        refine rowV (As := [.int 0]) (rest := []) C (kX3_fewestOpenings l G b σ 0 q3 hq3) (cwV 1 hts gL_holds_X3_fewestOpenings rfl rfl rfl (by decide +kernel) ⟨Nat.le_of_ble_eq_true rfl, Nat.le_of_ble_eq_true rfl⟩) (rcv_X3 X hK) X rfl hl.1 rfl (Nat.le_of_ble_eq_true rfl) dL_holds_404 ⟨Nat.zero_le _, Nat.zero_le _⟩ ?_
        refine lv_istore (lv' := [(8, .int q3), (0, .ref b), (1, .int v1), (2, .int v2), (3, .int v3), (4, .int v4), (5, .int v5), (6, .int v6), (7, .int v7)]) hx hb dL_holds_407 hl (by decide) rfl (fun ls hl => ?_)
        refine lv_aload_n hx hb dL_holds_409 rfl (lv_at hl 1 rfl) ?_
        refine lv_bipush (v := 6) hx hb dL_holds_410 (by decide) ?_
        obtain ⟨q4, hq4, h⟩ := ob h
        refine rowV (As := [.int 6]) (rest := []) C (kX3_total l G b σ 6 q4 hq4) (cwV 1 hts gL_holds_X3_total rfl rfl rfl (by decide +kernel) ⟨Nat.le_of_ble_eq_true rfl, Nat.le_of_ble_eq_true rfl⟩) (rcv_X3 X hK) X rfl hl.1 rfl (Nat.le_of_ble_eq_true rfl) dL_holds_412 ⟨Nat.zero_le _, Nat.zero_le _⟩ ?_
        refine lv_iload_n hx hb dL_holds_415 rfl (lv_at hl 3 rfl) ?_
        obtain ⟨w5, hw5, h⟩ := ob h
        have jw5 : W p l e (rmN 6) s m #[Value.ref b] below meth c s.heap [] 0 0 (MQ below (QcRead r) #[Value.ref b] s 0 0 (fun _ => False)) (F0 m 452 ls [.int w5]) := by
          refine lv_istore (lv' := [(9, .int w5), (8, .int q3), (0, .ref b), (1, .int v1), (2, .int v2), (3, .int v3), (4, .int v4), (5, .int v5), (6, .int v6), (7, .int v7)]) hx hb dL_holds_452 hl (by decide) rfl (fun ls hl => ?_)
          refine lv_iload hx hb dL_holds_454 (lv_at hl 0 rfl) ?_
          refine lv_if_eq (tgt := 503) hx hb dL_holds_456 (by decide) (fun c12 => ?_) (fun c12 => ?_)
          · have h := ip h c12
            refine lv_iconst (v := 0) hx hb dL_holds_503 (by decide) ?_
            have h := so h
            subst h
            exact W.zret hx hb hr rfl (fun t ht _ => ⟨rfl, ht⟩) (fun q h => absurd h List.not_mem_nil) dL_holds_504
          · have h := iq h c12
            refine lv_iload hx hb dL_holds_459 (lv_at hl 1 rfl) ?_
            refine lv_aload_n hx hb dL_holds_461 rfl (lv_at hl 2 rfl) ?_
            refine lv_iconst (v := 1) hx hb dL_holds_462 (by decide) ?_
            obtain ⟨q13, hq13, h⟩ := ob h
            refine rowV (As := [.int 1]) (rest := [.int q3]) C (kX3_fewestOpenings l G b σ 1 q13 hq13) (cwV 1 hts gL_holds_X3_fewestOpenings rfl rfl rfl (by decide +kernel) ⟨Nat.le_of_ble_eq_true rfl, Nat.le_of_ble_eq_true rfl⟩) (rcv_X3 X hK) X rfl hl.1 rfl (Nat.le_of_ble_eq_true rfl) dL_holds_463 ⟨Nat.zero_le _, Nat.zero_le _⟩ ?_
            refine lv_icmp_ne (tgt := 503) hx hb dL_holds_466 (by decide) (fun c14 => ?_) (fun c14 => ?_)
            · have h := iq h c14
              refine lv_iconst (v := 0) hx hb dL_holds_503 (by decide) ?_
              have h := so h
              subst h
              exact W.zret hx hb hr rfl (fun t ht _ => ⟨rfl, ht⟩) (fun q h => absurd h List.not_mem_nil) dL_holds_504
            · have h := ip h c14
              refine lv_iload hx hb dL_holds_469 (lv_at hl 1 rfl) ?_
              obtain ⟨w15, hw15, h⟩ := ob h
              have jw15 : W p l e (rmN 6) s m #[Value.ref b] below meth c s.heap [] 0 0 (MQ below (QcRead r) #[Value.ref b] s 0 0 (fun _ => False)) (F0 m 479 ls [.int w15]) := by
                refine lv_iload hx hb dL_holds_479 (lv_at hl 9 rfl) ?_
                obtain ⟨w17, hw17, h⟩ := ob h
                have jw17 : W p l e (rmN 6) s m #[Value.ref b] below meth c s.heap [] 0 0 (MQ below (QcRead r) #[Value.ref b] s 0 0 (fun _ => False)) (F0 m 489 ls [.int w17, .int w15]) := by
                  refine lv_icmp_ne (tgt := 503) hx hb dL_holds_489 (by decide) (fun c19 => ?_) (fun c19 => ?_)
                  · have h := iq h c19
                    refine lv_iconst (v := 0) hx hb dL_holds_503 (by decide) ?_
                    have h := so h
                    subst h
                    exact W.zret hx hb hr rfl (fun t ht _ => ⟨rfl, ht⟩) (fun q h => absurd h List.not_mem_nil) dL_holds_504
                  · have h := ip h c19
                    refine lv_iload hx hb dL_holds_492 (lv_at hl 1 rfl) ?_
                    refine lv_iload hx hb dL_holds_494 (lv_at hl 9 rfl) ?_
                    refine lv_icmp_gt (tgt := 503) hx hb dL_holds_496 (by decide) (fun c20 => ?_) (fun c20 => ?_)
                    · have h := ip h c20
                      refine lv_iconst (v := 0) hx hb dL_holds_503 (by decide) ?_
                      have h := so h
                      subst h
                      exact W.zret hx hb hr rfl (fun t ht _ => ⟨rfl, ht⟩) (fun q h => absurd h List.not_mem_nil) dL_holds_504
                    · have h := iq h c20
                      refine lv_iconst (v := 1) hx hb dL_holds_499 (by decide) ?_
                      refine lv_goto (tgt := 504) hx hb dL_holds_500 (by decide) ?_
                      have h := so h
                      subst h
                      exact W.zret hx hb hr rfl (fun t ht _ => ⟨rfl, ht⟩) (fun q h => absurd h List.not_mem_nil) dL_holds_504
                have h := hw17
                refine lv_if_ne (tgt := 488) hx hb dL_holds_481 (by decide) (fun c18 => ?_) (fun c18 => ?_)
                · have h := iq h c18
                  refine lv_iconst (v := 0) hx hb dL_holds_488 (by decide) ?_
                  have h := so h
                  subst h
                  exact jw17
                · have h := ip h c18
                  refine lv_iconst (v := 1) hx hb dL_holds_484 (by decide) ?_
                  refine lv_goto (tgt := 489) hx hb dL_holds_485 (by decide) ?_
                  have h := so h
                  subst h
                  exact jw17
              have h := hw15
              refine lv_if_ne (tgt := 478) hx hb dL_holds_471 (by decide) (fun c16 => ?_) (fun c16 => ?_)
              · have h := iq h c16
                refine lv_iconst (v := 0) hx hb dL_holds_478 (by decide) ?_
                have h := so h
                subst h
                exact jw15
              · have h := ip h c16
                refine lv_iconst (v := 1) hx hb dL_holds_474 (by decide) ?_
                refine lv_goto (tgt := 479) hx hb dL_holds_475 (by decide) ?_
                have h := so h
                subst h
                exact jw15
        have h := hw5
        refine lv_icmp_ne (tgt := 451) hx hb dL_holds_416 (by decide) (fun c6 => ?_) (fun c6 => ?_)
        · have h := iq h c6
          refine lv_iconst (v := 0) hx hb dL_holds_451 (by decide) ?_
          have h := so h
          subst h
          exact jw5
        · have h := ip h c6
          refine lv_aload_n hx hb dL_holds_419 rfl (lv_at hl 1 rfl) ?_
          refine lv_bipush (v := 7) hx hb dL_holds_420 (by decide) ?_
          obtain ⟨q7, hq7, h⟩ := ob h
          refine rowV (As := [.int 7]) (rest := []) C (kX3_total l G b σ 7 q7 hq7) (cwV 1 hts gL_holds_X3_total rfl rfl rfl (by decide +kernel) ⟨Nat.le_of_ble_eq_true rfl, Nat.le_of_ble_eq_true rfl⟩) (rcv_X3 X hK) X rfl hl.1 rfl (Nat.le_of_ble_eq_true rfl) dL_holds_422 ⟨Nat.zero_le _, Nat.zero_le _⟩ ?_
          refine lv_iload_n hx hb dL_holds_425 rfl (lv_at hl 4 rfl) ?_
          refine lv_icmp_ne (tgt := 451) hx hb dL_holds_426 (by decide) (fun c8 => ?_) (fun c8 => ?_)
          · have h := iq h c8
            refine lv_iconst (v := 0) hx hb dL_holds_451 (by decide) ?_
            have h := so h
            subst h
            exact jw5
          · have h := ip h c8
            refine lv_iload hx hb dL_holds_429 (lv_at hl 5 rfl) ?_
            refine lv_iload hx hb dL_holds_431 (lv_at hl 6 rfl) ?_
            refine lv_icmp_ne (tgt := 451) hx hb dL_holds_433 (by decide) (fun c9 => ?_) (fun c9 => ?_)
            · have h := iq h c9
              refine lv_iconst (v := 0) hx hb dL_holds_451 (by decide) ?_
              have h := so h
              subst h
              exact jw5
            · have h := ip h c9
              refine lv_aload_n hx hb dL_holds_436 rfl (lv_at hl 1 rfl) ?_
              refine lv_bipush (v := 13) hx hb dL_holds_437 (by decide) ?_
              obtain ⟨q10, hq10, h⟩ := ob h
              refine rowV (As := [.int 13]) (rest := []) C (kX3_total l G b σ 13 q10 hq10) (cwV 1 hts gL_holds_X3_total rfl rfl rfl (by decide +kernel) ⟨Nat.le_of_ble_eq_true rfl, Nat.le_of_ble_eq_true rfl⟩) (rcv_X3 X hK) X rfl hl.1 rfl (Nat.le_of_ble_eq_true rfl) dL_holds_439 ⟨Nat.zero_le _, Nat.zero_le _⟩ ?_
              refine lv_iload hx hb dL_holds_442 (lv_at hl 7 rfl) ?_
              refine lv_icmp_ne (tgt := 451) hx hb dL_holds_444 (by decide) (fun c11 => ?_) (fun c11 => ?_)
              · have h := iq h c11
                refine lv_iconst (v := 0) hx hb dL_holds_451 (by decide) ?_
                have h := so h
                subst h
                exact jw5
              · have h := ip h c11
                refine lv_iconst (v := 1) hx hb dL_holds_447 (by decide) ?_
                refine lv_goto (tgt := 452) hx hb dL_holds_448 (by decide) ?_
                have h := so h
                subst h
                exact jw5
      · have h := iq h c2
        refine lv_aload_n hx hb dL_holds_31 rfl (lv_at hl 0 rfl) ?_
        refine lv_iload hx hb dL_holds_32 (lv_at hl 8 rfl) ?_
        refine lv_iconst (v := 2) hx hb dL_holds_34 (by decide) ?_
        obtain ⟨q21, hq21, h⟩ := ob h
        refine rowV (As := [.int v8, .int 2]) (rest := []) C (kX3_cart l G b σ v8 2 q21 hq21) (cwV 2 hts gL_holds_X3_cart rfl rfl rfl (by decide +kernel) ⟨Nat.le_of_ble_eq_true rfl, Nat.le_of_ble_eq_true rfl⟩) (rcv_X3 X hK) X rfl hl.1 rfl (Nat.le_of_ble_eq_true rfl) dL_holds_35 ⟨Nat.zero_le _, Nat.zero_le _⟩ ?_
        refine lv_istore (lv' := [(9, .int q21), (0, .ref b), (1, .int v1), (2, .int v2), (3, .int v3), (4, .int v4), (5, .int v5), (6, .int v6), (7, .int v7), (8, .int v8)]) hx hb dL_holds_38 hl (by decide) rfl (fun ls hl => ?_)
        refine lv_aload_n hx hb dL_holds_40 rfl (lv_at hl 1 rfl) ?_
        refine lv_iload hx hb dL_holds_41 (lv_at hl 9 rfl) ?_
        refine lv_bipush (v := 9) hx hb dL_holds_43 (by decide) ?_
        obtain ⟨q22, hq22, h⟩ := ob h
        refine rowV (As := [.int v8, .int 9]) (rest := []) C (kX3_cart l G b σ v8 9 q22 hq22) (cwV 2 hts gL_holds_X3_cart rfl rfl rfl (by decide +kernel) ⟨Nat.le_of_ble_eq_true rfl, Nat.le_of_ble_eq_true rfl⟩) (rcv_X3 X hK) X rfl hl.1 rfl (Nat.le_of_ble_eq_true rfl) dL_holds_45 ⟨Nat.zero_le _, Nat.zero_le _⟩ ?_
        refine lv_istore (lv' := [(10, .int q22), (9, .int q21), (0, .ref b), (1, .int v1), (2, .int v2), (3, .int v3), (4, .int v4), (5, .int v5), (6, .int v6), (7, .int v7), (8, .int v8)]) hx hb dL_holds_48 hl (by decide) rfl (fun ls hl => ?_)
        refine lv_aload_n hx hb dL_holds_50 rfl (lv_at hl 2 rfl) ?_
        refine lv_iload hx hb dL_holds_51 (lv_at hl 10 rfl) ?_
        refine lv_iconst (v := 5) hx hb dL_holds_53 (by decide) ?_
        obtain ⟨q23, hq23, h⟩ := ob h
        refine rowV (As := [.int v8, .int 5]) (rest := []) C (kX3_cart l G b σ v8 5 q23 hq23) (cwV 2 hts gL_holds_X3_cart rfl rfl rfl (by decide +kernel) ⟨Nat.le_of_ble_eq_true rfl, Nat.le_of_ble_eq_true rfl⟩) (rcv_X3 X hK) X rfl hl.1 rfl (Nat.le_of_ble_eq_true rfl) dL_holds_54 ⟨Nat.zero_le _, Nat.zero_le _⟩ ?_
        refine lv_iconst (v := 1) hx hb dL_holds_57 (by decide) ?_
        obtain ⟨w24, hw24, h⟩ := ob h
        have jw24 : W p l e (rmN 6) s m #[Value.ref b] below meth c s.heap [] 0 0 (MQ below (QcRead r) #[Value.ref b] s 0 0 (fun _ => False)) (F0 m 66 ls [.int w24]) := by
          refine lv_istore (lv' := [(11, .int w24), (10, .int q22), (9, .int q21), (0, .ref b), (1, .int v1), (2, .int v2), (3, .int v3), (4, .int v4), (5, .int v5), (6, .int v6), (7, .int v7), (8, .int v8)]) hx hb dL_holds_66 hl (by decide) rfl (fun ls hl => ?_)
          refine lv_iload_n hx hb dL_holds_68 rfl (lv_at hl 5 rfl) ?_
          refine lv_aload_n hx hb dL_holds_69 rfl (lv_at hl 3 rfl) ?_
          refine lv_iload hx hb dL_holds_70 (lv_at hl 11 rfl) ?_
          refine lv_bipush (v := 6) hx hb dL_holds_72 (by decide) ?_
          obtain ⟨q26, hq26, h⟩ := ob h
          refine rowV (As := [.int v8, .int 6]) (rest := [.int v2]) C (kX3_cart l G b σ v8 6 q26 hq26) (cwV 2 hts gL_holds_X3_cart rfl rfl rfl (by decide +kernel) ⟨Nat.le_of_ble_eq_true rfl, Nat.le_of_ble_eq_true rfl⟩) (rcv_X3 X hK) X rfl hl.1 rfl (Nat.le_of_ble_eq_true rfl) dL_holds_74 ⟨Nat.zero_le _, Nat.zero_le _⟩ ?_
          refine lv_iadd hx hb dL_holds_77 ?_
          refine lv_istore_n (lv' := [(2, .int (v2 + q26)), (11, .int w24), (10, .int q22), (9, .int q21), (0, .ref b), (1, .int v1), (3, .int v3), (4, .int v4), (5, .int v5), (6, .int v6), (7, .int v7), (8, .int v8)]) hx hb dL_holds_78 rfl hl (by decide) rfl (fun ls hl => ?_)
          refine lv_iload_n hx hb dL_holds_79 rfl (lv_at hl 6 rfl) ?_
          refine lv_aload_n hx hb dL_holds_80 rfl (lv_at hl 4 rfl) ?_
          refine lv_iload hx hb dL_holds_81 (lv_at hl 11 rfl) ?_
          refine lv_bipush (v := 7) hx hb dL_holds_83 (by decide) ?_
          obtain ⟨q27, hq27, h⟩ := ob h
          refine rowV (As := [.int v8, .int 7]) (rest := [.int v3]) C (kX3_cart l G b σ v8 7 q27 hq27) (cwV 2 hts gL_holds_X3_cart rfl rfl rfl (by decide +kernel) ⟨Nat.le_of_ble_eq_true rfl, Nat.le_of_ble_eq_true rfl⟩) (rcv_X3 X hK) X rfl hl.1 rfl (Nat.le_of_ble_eq_true rfl) dL_holds_85 ⟨Nat.zero_le _, Nat.zero_le _⟩ ?_
          refine lv_iadd hx hb dL_holds_88 ?_
          refine lv_istore_n (lv' := [(3, .int (v3 + q27)), (2, .int (v2 + q26)), (11, .int w24), (10, .int q22), (9, .int q21), (0, .ref b), (1, .int v1), (4, .int v4), (5, .int v5), (6, .int v6), (7, .int v7), (8, .int v8)]) hx hb dL_holds_89 rfl hl (by decide) rfl (fun ls hl => ?_)
          refine lv_iload hx hb dL_holds_90 (lv_at hl 7 rfl) ?_
          refine lv_iload hx hb dL_holds_92 (lv_at hl 3 rfl) ?_
          refine lv_iadd hx hb dL_holds_94 ?_
          refine lv_istore (lv' := [(4, .int (v4 + q22)), (3, .int (v3 + q27)), (2, .int (v2 + q26)), (11, .int w24), (10, .int q22), (9, .int q21), (0, .ref b), (1, .int v1), (5, .int v5), (6, .int v6), (7, .int v7), (8, .int v8)]) hx hb dL_holds_95 hl (by decide) rfl (fun ls hl => ?_)
          refine lv_iload hx hb dL_holds_97 (lv_at hl 8 rfl) ?_
          refine lv_aload_n hx hb dL_holds_99 rfl (lv_at hl 6 rfl) ?_
          refine lv_iload hx hb dL_holds_100 (lv_at hl 11 rfl) ?_
          refine lv_bipush (v := 11) hx hb dL_holds_102 (by decide) ?_
          obtain ⟨q28, hq28, h⟩ := ob h
          refine rowV (As := [.int v8, .int 11]) (rest := [.int v5]) C (kX3_cart l G b σ v8 11 q28 hq28) (cwV 2 hts gL_holds_X3_cart rfl rfl rfl (by decide +kernel) ⟨Nat.le_of_ble_eq_true rfl, Nat.le_of_ble_eq_true rfl⟩) (rcv_X3 X hK) X rfl hl.1 rfl (Nat.le_of_ble_eq_true rfl) dL_holds_104 ⟨Nat.zero_le _, Nat.zero_le _⟩ ?_
          refine lv_iadd hx hb dL_holds_107 ?_
          refine lv_istore (lv' := [(5, .int (v5 + q28)), (4, .int (v4 + q22)), (3, .int (v3 + q27)), (2, .int (v2 + q26)), (11, .int w24), (10, .int q22), (9, .int q21), (0, .ref b), (1, .int v1), (6, .int v6), (7, .int v7), (8, .int v8)]) hx hb dL_holds_108 hl (by decide) rfl (fun ls hl => ?_)
          refine lv_iload hx hb dL_holds_110 (lv_at hl 9 rfl) ?_
          refine lv_aload_n hx hb dL_holds_112 rfl (lv_at hl 7 rfl) ?_
          refine lv_iload hx hb dL_holds_113 (lv_at hl 11 rfl) ?_
          refine lv_bipush (v := 10) hx hb dL_holds_115 (by decide) ?_
          obtain ⟨q29, hq29, h⟩ := ob h
          refine rowV (As := [.int v8, .int 10]) (rest := [.int v6]) C (kX3_cart l G b σ v8 10 q29 hq29) (cwV 2 hts gL_holds_X3_cart rfl rfl rfl (by decide +kernel) ⟨Nat.le_of_ble_eq_true rfl, Nat.le_of_ble_eq_true rfl⟩) (rcv_X3 X hK) X rfl hl.1 rfl (Nat.le_of_ble_eq_true rfl) dL_holds_117 ⟨Nat.zero_le _, Nat.zero_le _⟩ ?_
          obtain ⟨w30, hw30, h⟩ := ob h
          have jw30 : W p l e (rmN 6) s m #[Value.ref b] below meth c s.heap [] 0 0 (MQ below (QcRead r) #[Value.ref b] s 0 0 (fun _ => False)) (F0 m 128 ls [.int w30, .int v6]) := by
            refine lv_iadd hx hb dL_holds_128 ?_
            refine lv_istore (lv' := [(6, .int (v6 + w30)), (5, .int (v5 + q28)), (4, .int (v4 + q22)), (3, .int (v3 + q27)), (2, .int (v2 + q26)), (11, .int w24), (10, .int q22), (9, .int q21), (0, .ref b), (1, .int v1), (7, .int v7), (8, .int v8)]) hx hb dL_holds_129 hl (by decide) rfl (fun ls hl => ?_)
            refine lv_iload hx hb dL_holds_131 (lv_at hl 10 rfl) ?_
            refine lv_aload_n hx hb dL_holds_133 rfl (lv_at hl 8 rfl) ?_
            refine lv_iload hx hb dL_holds_134 (lv_at hl 11 rfl) ?_
            refine lv_bipush (v := 6) hx hb dL_holds_136 (by decide) ?_
            obtain ⟨q32, hq32, h⟩ := ob h
            refine rowV (As := [.int v8, .int 6]) (rest := [.int v7]) C (kX3_cart l G b σ v8 6 q32 hq32) (cwV 2 hts gL_holds_X3_cart rfl rfl rfl (by decide +kernel) ⟨Nat.le_of_ble_eq_true rfl, Nat.le_of_ble_eq_true rfl⟩) (rcv_X3 X hK) X rfl hl.1 rfl (Nat.le_of_ble_eq_true rfl) dL_holds_138 ⟨Nat.zero_le _, Nat.zero_le _⟩ ?_
            refine lv_aload_n hx hb dL_holds_141 rfl (lv_at hl 8 rfl) ?_
            refine lv_iload hx hb dL_holds_142 (lv_at hl 11 rfl) ?_
            refine lv_bipush (v := 7) hx hb dL_holds_144 (by decide) ?_
            obtain ⟨q33, hq33, h⟩ := ob h
            refine rowV (As := [.int v8, .int 7]) (rest := [.int q32, .int v7]) C (kX3_cart l G b σ v8 7 q33 hq33) (cwV 2 hts gL_holds_X3_cart rfl rfl rfl (by decide +kernel) ⟨Nat.le_of_ble_eq_true rfl, Nat.le_of_ble_eq_true rfl⟩) (rcv_X3 X hK) X rfl hl.1 rfl (Nat.le_of_ble_eq_true rfl) dL_holds_146 ⟨Nat.zero_le _, Nat.zero_le _⟩ ?_
            refine lv_iadd hx hb dL_holds_149 ?_
            obtain ⟨w34, hw34, h⟩ := ob h
            have jw34 : W p l e (rmN 6) s m #[Value.ref b] below meth c s.heap [] 0 0 (MQ below (QcRead r) #[Value.ref b] s 0 0 (fun _ => False)) (F0 m 158 ls [.int w34, .int v7]) := by
              refine lv_iadd hx hb dL_holds_158 ?_
              refine lv_istore (lv' := [(7, .int (v7 + w34)), (6, .int (v6 + w30)), (5, .int (v5 + q28)), (4, .int (v4 + q22)), (3, .int (v3 + q27)), (2, .int (v2 + q26)), (11, .int w24), (10, .int q22), (9, .int q21), (0, .ref b), (1, .int v1), (8, .int v8)]) hx hb dL_holds_159 hl (by decide) rfl (fun ls hl => ?_)
              refine lv_iconst (v := 0) hx hb dL_holds_161 (by decide) ?_
              refine lv_istore (lv' := [(12, .int 0), (7, .int (v7 + w34)), (6, .int (v6 + w30)), (5, .int (v5 + q28)), (4, .int (v4 + q22)), (3, .int (v3 + q27)), (2, .int (v2 + q26)), (11, .int w24), (10, .int q22), (9, .int q21), (0, .ref b), (1, .int v1), (8, .int v8)]) hx hb dL_holds_162 hl (by decide) rfl (fun ls hl => ?_)
              refine lv_iconst (v := 0) hx hb dL_holds_164 (by decide) ?_
              refine lv_istore (lv' := [(13, .int 0), (12, .int 0), (7, .int (v7 + w34)), (6, .int (v6 + w30)), (5, .int (v5 + q28)), (4, .int (v4 + q22)), (3, .int (v3 + q27)), (2, .int (v2 + q26)), (11, .int w24), (10, .int q22), (9, .int q21), (0, .ref b), (1, .int v1), (8, .int v8)]) hx hb dL_holds_165 hl (by decide) rfl (fun ls hl => ?_)
              refine loop167 _ (fun v1 v2 v3 v4 v5 v6 v7 v8 v9 v10 v11 v12 v13 ls h hl => ?_) _ _ _ _ _ _ _ _ _ _ _ _ _ _ _ h (lv_sub hl [11, 12, 7, 6, 5, 4, 3, 2, 13, 10, 9, 8, 1, 0] rfl)
              refine lv_iload hx hb dL_holds_208 (lv_at hl 11 rfl) ?_
              refine lv_aload_n hx hb dL_holds_210 rfl (lv_at hl 0 rfl) ?_
              refine lv_iload hx hb dL_holds_211 (lv_at hl 8 rfl) ?_
              refine lv_iconst (v := 3) hx hb dL_holds_213 (by decide) ?_
              obtain ⟨q42, hq42, h⟩ := ob h
              refine rowV (As := [.int v8, .int 3]) (rest := [.int v11]) C (kX3_cart l G b σ v8 3 q42 hq42) (cwV 2 hts gL_holds_X3_cart rfl rfl rfl (by decide +kernel) ⟨Nat.le_of_ble_eq_true rfl, Nat.le_of_ble_eq_true rfl⟩) (rcv_X3 X hK) X rfl hl.1 rfl (Nat.le_of_ble_eq_true rfl) dL_holds_214 ⟨Nat.zero_le _, Nat.zero_le _⟩ ?_
              refine lv_aload_n hx hb dL_holds_217 rfl (lv_at hl 0 rfl) ?_
              refine lv_iload hx hb dL_holds_218 (lv_at hl 8 rfl) ?_
              refine lv_iconst (v := 4) hx hb dL_holds_220 (by decide) ?_
              obtain ⟨q43, hq43, h⟩ := ob h
              refine rowV (As := [.int v8, .int 4]) (rest := [.int q42, .int v11]) C (kX3_cart l G b σ v8 4 q43 hq43) (cwV 2 hts gL_holds_X3_cart rfl rfl rfl (by decide +kernel) ⟨Nat.le_of_ble_eq_true rfl, Nat.le_of_ble_eq_true rfl⟩) (rcv_X3 X hK) X rfl hl.1 rfl (Nat.le_of_ble_eq_true rfl) dL_holds_221 ⟨Nat.zero_le _, Nat.zero_le _⟩ ?_
              obtain ⟨w44, hw44, h⟩ := ob h
              have jw44 : W p l e (rmN 6) s m #[Value.ref b] below meth c s.heap [] 0 0 (MQ below (QcRead r) #[Value.ref b] s 0 0 (fun _ => False)) (F0 m 232 ls [.int w44, .int v11]) := by
                refine lv_icmp_ne (tgt := 298) hx hb dL_holds_232 (by decide) (fun c46 => ?_) (fun c46 => ?_)
                · have h := iq h c46
                  refine lv_iconst (v := 0) hx hb dL_holds_298 (by decide) ?_
                  have h := so h
                  subst h
                  exact W.zret hx hb hr rfl (fun t ht _ => ⟨rfl, ht⟩) (fun q h => absurd h List.not_mem_nil) dL_holds_299
                · have h := ip h c46
                  refine lv_iload hx hb dL_holds_235 (lv_at hl 9 rfl) ?_
                  refine lv_iload hx hb dL_holds_237 (lv_at hl 8 rfl) ?_
                  refine lv_icmp_ge (tgt := 298) hx hb dL_holds_239 (by decide) (fun c47 => ?_) (fun c47 => ?_)
                  · have h := ip h c47
                    refine lv_iconst (v := 0) hx hb dL_holds_298 (by decide) ?_
                    have h := so h
                    subst h
                    exact W.zret hx hb hr rfl (fun t ht _ => ⟨rfl, ht⟩) (fun q h => absurd h List.not_mem_nil) dL_holds_299
                  · have h := iq h c47
                    refine lv_iload hx hb dL_holds_242 (lv_at hl 10 rfl) ?_
                    refine lv_iload hx hb dL_holds_244 (lv_at hl 9 rfl) ?_
                    obtain ⟨w48, hw48, h⟩ := ob h
                    have jw48 : W p l e (rmN 6) s m #[Value.ref b] below meth c s.heap [] 0 0 (MQ below (QcRead r) #[Value.ref b] s 0 0 (fun _ => False)) (F0 m 263 ls [.int w48, .int v10]) := by
                      refine lv_icmp_ne (tgt := 298) hx hb dL_holds_263 (by decide) (fun c51 => ?_) (fun c51 => ?_)
                      · have h := iq h c51
                        refine lv_iconst (v := 0) hx hb dL_holds_298 (by decide) ?_
                        have h := so h
                        subst h
                        exact W.zret hx hb hr rfl (fun t ht _ => ⟨rfl, ht⟩) (fun q h => absurd h List.not_mem_nil) dL_holds_299
                      · have h := ip h c51
                        refine lv_aload_n hx hb dL_holds_266 rfl (lv_at hl 0 rfl) ?_
                        refine lv_iload hx hb dL_holds_267 (lv_at hl 8 rfl) ?_
                        refine lv_iload hx hb dL_holds_269 (lv_at hl 10 rfl) ?_
                        obtain ⟨q52, hq52, h⟩ := ob h
                        refine rowV (As := [.int v8, .int v10]) (rest := []) C (kX3_chain l G b σ v8 v10 q52 hq52) (cwV 2 hts gL_holds_X3_chain rfl rfl rfl (by decide +kernel) ⟨Nat.le_of_ble_eq_true rfl, Nat.le_of_ble_eq_true rfl⟩) (rcv_X3 X hK) X rfl hl.1 rfl (Nat.le_of_ble_eq_true rfl) dL_holds_271 ⟨Nat.zero_le _, Nat.zero_le _⟩ ?_
                        refine lv_bipush (v := (-5)) hx hb dL_holds_274 (by decide) ?_
                        refine lv_icmp_ne (tgt := 298) hx hb dL_holds_276 (by decide) (fun c53 => ?_) (fun c53 => ?_)
                        · have h := iq h c53
                          refine lv_iconst (v := 0) hx hb dL_holds_298 (by decide) ?_
                          have h := so h
                          subst h
                          exact W.zret hx hb hr rfl (fun t ht _ => ⟨rfl, ht⟩) (fun q h => absurd h List.not_mem_nil) dL_holds_299
                        · have h := ip h c53
                          refine lv_aload_n hx hb dL_holds_279 rfl (lv_at hl 0 rfl) ?_
                          refine lv_iload hx hb dL_holds_280 (lv_at hl 8 rfl) ?_
                          obtain ⟨q54, hq54, h⟩ := ob h
                          refine rowV (As := [.int v8]) (rest := []) C (kX3_brokenIn l G b σ v8 q54 hq54) (cwV 1 hts gL_holds_X3_brokenIn rfl rfl rfl (by decide +kernel) ⟨Nat.le_of_ble_eq_true rfl, Nat.le_of_ble_eq_true rfl⟩) (rcv_X3 X hK) X rfl hl.1 rfl (Nat.le_of_ble_eq_true rfl) dL_holds_282 ⟨Nat.zero_le _, Nat.zero_le _⟩ ?_
                          obtain ⟨w55, hw55, h⟩ := ob h
                          have jw55 : W p l e (rmN 6) s m #[Value.ref b] below meth c s.heap [] 0 0 (MQ below (QcRead r) #[Value.ref b] s 0 0 (fun _ => False)) (F0 m 293 ls [.int w55]) := by
                            refine lv_iload hx hb dL_holds_293 (lv_at hl 12 rfl) ?_
                            refine lv_icmp_ne (tgt := 300) hx hb dL_holds_295 (by decide) (fun c57 => ?_) (fun c57 => ?_)
                            · have h := iq h c57
                              refine lv_aload_n hx hb dL_holds_300 rfl (lv_at hl 0 rfl) ?_
                              refine lv_iload hx hb dL_holds_301 (lv_at hl 8 rfl) ?_
                              refine lv_bipush (v := 10) hx hb dL_holds_303 (by decide) ?_
                              obtain ⟨q58, hq58, h⟩ := ob h
                              refine rowV (As := [.int v8, .int 10]) (rest := []) C (kX3_cart l G b σ v8 10 q58 hq58) (cwV 2 hts gL_holds_X3_cart rfl rfl rfl (by decide +kernel) ⟨Nat.le_of_ble_eq_true rfl, Nat.le_of_ble_eq_true rfl⟩) (rcv_X3 X hK) X rfl hl.1 rfl (Nat.le_of_ble_eq_true rfl) dL_holds_305 ⟨Nat.zero_le _, Nat.zero_le _⟩ ?_
                              refine lv_aload_n hx hb dL_holds_308 rfl (lv_at hl 0 rfl) ?_
                              refine lv_iload hx hb dL_holds_309 (lv_at hl 8 rfl) ?_
                              refine lv_bipush (v := 11) hx hb dL_holds_311 (by decide) ?_
                              obtain ⟨q59, hq59, h⟩ := ob h
                              refine rowV (As := [.int v8, .int 11]) (rest := [.int q58]) C (kX3_cart l G b σ v8 11 q59 hq59) (cwV 2 hts gL_holds_X3_cart rfl rfl rfl (by decide +kernel) ⟨Nat.le_of_ble_eq_true rfl, Nat.le_of_ble_eq_true rfl⟩) (rcv_X3 X hK) X rfl hl.1 rfl (Nat.le_of_ble_eq_true rfl) dL_holds_313 ⟨Nat.zero_le _, Nat.zero_le _⟩ ?_
                              refine lv_iconst (v := 1) hx hb dL_holds_316 (by decide) ?_
                              refine lv_isub hx hb dL_holds_317 ?_
                              refine lv_icmp_gt (tgt := 394) hx hb dL_holds_318 (by decide) (fun c60 => ?_) (fun c60 => ?_)
                              · have h := ip h c60
                                refine lv_iconst (v := 0) hx hb dL_holds_394 (by decide) ?_
                                have h := so h
                                subst h
                                exact W.zret hx hb hr rfl (fun t ht _ => ⟨rfl, ht⟩) (fun q h => absurd h List.not_mem_nil) dL_holds_395
                              · have h := iq h c60
                                refine lv_aload_n hx hb dL_holds_321 rfl (lv_at hl 0 rfl) ?_
                                refine lv_iload hx hb dL_holds_322 (lv_at hl 8 rfl) ?_
                                refine lv_bipush (v := 12) hx hb dL_holds_324 (by decide) ?_
                                obtain ⟨q61, hq61, h⟩ := ob h
                                refine rowV (As := [.int v8, .int 12]) (rest := []) C (kX3_cart l G b σ v8 12 q61 hq61) (cwV 2 hts gL_holds_X3_cart rfl rfl rfl (by decide +kernel) ⟨Nat.le_of_ble_eq_true rfl, Nat.le_of_ble_eq_true rfl⟩) (rcv_X3 X hK) X rfl hl.1 rfl (Nat.le_of_ble_eq_true rfl) dL_holds_326 ⟨Nat.zero_le _, Nat.zero_le _⟩ ?_
                                obtain ⟨w62, hw62, h⟩ := ob h
                                have jw62 : W p l e (rmN 6) s m #[Value.ref b] below meth c s.heap [] 0 0 (MQ below (QcRead r) #[Value.ref b] s 0 0 (fun _ => False)) (F0 m 337 ls [.int w62]) := by
                                  refine lv_aload_n hx hb dL_holds_337 rfl (lv_at hl 0 rfl) ?_
                                  refine lv_iload hx hb dL_holds_338 (lv_at hl 8 rfl) ?_
                                  refine lv_bipush (v := 7) hx hb dL_holds_340 (by decide) ?_
                                  obtain ⟨q64, hq64, h⟩ := ob h
                                  refine rowV (As := [.int v8, .int 7]) (rest := [.int w62]) C (kX3_cart l G b σ v8 7 q64 hq64) (cwV 2 hts gL_holds_X3_cart rfl rfl rfl (by decide +kernel) ⟨Nat.le_of_ble_eq_true rfl, Nat.le_of_ble_eq_true rfl⟩) (rcv_X3 X hK) X rfl hl.1 rfl (Nat.le_of_ble_eq_true rfl) dL_holds_342 ⟨Nat.zero_le _, Nat.zero_le _⟩ ?_
                                  refine lv_iconst (v := 1) hx hb dL_holds_345 (by decide) ?_
                                  obtain ⟨w65, hw65, h⟩ := ob h
                                  have jw65 : W p l e (rmN 6) s m #[Value.ref b] below meth c s.heap [] 0 0 (MQ below (QcRead r) #[Value.ref b] s 0 0 (fun _ => False)) (F0 m 354 ls [.int w65, .int w62]) := by
                                    refine lv_icmp_ne (tgt := 394) hx hb dL_holds_354 (by decide) (fun c67 => ?_) (fun c67 => ?_)
                                    · have h := iq h c67
                                      refine lv_iconst (v := 0) hx hb dL_holds_394 (by decide) ?_
                                      have h := so h
                                      subst h
                                      exact W.zret hx hb hr rfl (fun t ht _ => ⟨rfl, ht⟩) (fun q h => absurd h List.not_mem_nil) dL_holds_395
                                    · have h := ip h c67
                                      refine lv_aload_n hx hb dL_holds_357 rfl (lv_at hl 0 rfl) ?_
                                      refine lv_iload hx hb dL_holds_358 (lv_at hl 8 rfl) ?_
                                      refine lv_iconst (v := 0) hx hb dL_holds_360 (by decide) ?_
                                      obtain ⟨q68, hq68, h⟩ := ob h
                                      refine rowV (As := [.int v8, .int 0]) (rest := []) C (kX3_ifOpened l G b σ v8 0 q68 hq68) (cwV 2 hts gL_holds_X3_ifOpened rfl rfl rfl (by decide +kernel) ⟨Nat.le_of_ble_eq_true rfl, Nat.le_of_ble_eq_true rfl⟩) (rcv_X3 X hK) X rfl hl.1 rfl (Nat.le_of_ble_eq_true rfl) dL_holds_361 ⟨Nat.zero_le _, Nat.zero_le _⟩ ?_
                                      refine lv_bipush (v := (-4)) hx hb dL_holds_364 (by decide) ?_
                                      obtain ⟨w69, hw69, h⟩ := ob h
                                      have jw69 : W p l e (rmN 6) s m #[Value.ref b] below meth c s.heap [] 0 0 (MQ below (QcRead r) #[Value.ref b] s 0 0 (fun _ => False)) (F0 m 374 ls [.int w69]) := by
                                        refine lv_aload_n hx hb dL_holds_374 rfl (lv_at hl 0 rfl) ?_
                                        refine lv_iload hx hb dL_holds_375 (lv_at hl 8 rfl) ?_
                                        refine lv_bipush (v := 6) hx hb dL_holds_377 (by decide) ?_
                                        obtain ⟨q71, hq71, h⟩ := ob h
                                        refine rowV (As := [.int v8, .int 6]) (rest := [.int w69]) C (kX3_cart l G b σ v8 6 q71 hq71) (cwV 2 hts gL_holds_X3_cart rfl rfl rfl (by decide +kernel) ⟨Nat.le_of_ble_eq_true rfl, Nat.le_of_ble_eq_true rfl⟩) (rcv_X3 X hK) X rfl hl.1 rfl (Nat.le_of_ble_eq_true rfl) dL_holds_379 ⟨Nat.zero_le _, Nat.zero_le _⟩ ?_
                                        refine lv_iconst (v := 1) hx hb dL_holds_382 (by decide) ?_
                                        obtain ⟨w72, hw72, h⟩ := ob h
                                        have jw72 : W p l e (rmN 6) s m #[Value.ref b] below meth c s.heap [] 0 0 (MQ below (QcRead r) #[Value.ref b] s 0 0 (fun _ => False)) (F0 m 391 ls [.int w72, .int w69]) := by
                                          refine lv_icmp_eq (tgt := 396) hx hb dL_holds_391 (by decide) (fun c74 => ?_) (fun c74 => ?_)
                                          · have h := ip h c74
                                            refine lv_iinc (v := v8 + 1) (lv' := [(8, .int (v8 + 1)), (0, .ref b), (1, .int v1), (2, .int v2), (3, .int v3), (4, .int v4), (5, .int v5), (6, .int v6), (7, .int v7), (9, .int v9), (10, .int v10), (11, .int v11), (12, .int v12), (13, .int v13)]) hx hb dL_holds_396 hl (k := 8) rfl rfl (by decide) rfl (fun ls hl => ?_)
                                            refine lv_goto (tgt := 25) hx hb dL_holds_399 (by decide) ?_
                                            exact ih _ _ _ _ _ _ _ _ _ h (lv_sub hl [1, 2, 3, 4, 5, 6, 7, 8, 0] rfl)
                                          · have h := iq h c74
                                            refine lv_iconst (v := 0) hx hb dL_holds_394 (by decide) ?_
                                            have h := so h
                                            subst h
                                            exact W.zret hx hb hr rfl (fun t ht _ => ⟨rfl, ht⟩) (fun q h => absurd h List.not_mem_nil) dL_holds_395
                                        have h := hw72
                                        refine lv_icmp_ne (tgt := 390) hx hb dL_holds_383 (by decide) (fun c73 => ?_) (fun c73 => ?_)
                                        · have h := iq h c73
                                          refine lv_iconst (v := 0) hx hb dL_holds_390 (by decide) ?_
                                          have h := so h
                                          subst h
                                          exact jw72
                                        · have h := ip h c73
                                          refine lv_iconst (v := 1) hx hb dL_holds_386 (by decide) ?_
                                          refine lv_goto (tgt := 391) hx hb dL_holds_387 (by decide) ?_
                                          have h := so h
                                          subst h
                                          exact jw72
                                      have h := hw69
                                      refine lv_icmp_ne (tgt := 373) hx hb dL_holds_366 (by decide) (fun c70 => ?_) (fun c70 => ?_)
                                      · have h := iq h c70
                                        refine lv_iconst (v := 0) hx hb dL_holds_373 (by decide) ?_
                                        have h := so h
                                        subst h
                                        exact jw69
                                      · have h := ip h c70
                                        refine lv_iconst (v := 1) hx hb dL_holds_369 (by decide) ?_
                                        refine lv_goto (tgt := 374) hx hb dL_holds_370 (by decide) ?_
                                        have h := so h
                                        subst h
                                        exact jw69
                                  have h := hw65
                                  refine lv_icmp_ne (tgt := 353) hx hb dL_holds_346 (by decide) (fun c66 => ?_) (fun c66 => ?_)
                                  · have h := iq h c66
                                    refine lv_iconst (v := 0) hx hb dL_holds_353 (by decide) ?_
                                    have h := so h
                                    subst h
                                    exact jw65
                                  · have h := ip h c66
                                    refine lv_iconst (v := 1) hx hb dL_holds_349 (by decide) ?_
                                    refine lv_goto (tgt := 354) hx hb dL_holds_350 (by decide) ?_
                                    have h := so h
                                    subst h
                                    exact jw65
                                have h := hw62
                                refine lv_if_ne (tgt := 336) hx hb dL_holds_329 (by decide) (fun c63 => ?_) (fun c63 => ?_)
                                · have h := iq h c63
                                  refine lv_iconst (v := 0) hx hb dL_holds_336 (by decide) ?_
                                  have h := so h
                                  subst h
                                  exact jw62
                                · have h := ip h c63
                                  refine lv_iconst (v := 1) hx hb dL_holds_332 (by decide) ?_
                                  refine lv_goto (tgt := 337) hx hb dL_holds_333 (by decide) ?_
                                  have h := so h
                                  subst h
                                  exact jw62
                            · have h := ip h c57
                              refine lv_iconst (v := 0) hx hb dL_holds_298 (by decide) ?_
                              have h := so h
                              subst h
                              exact W.zret hx hb hr rfl (fun t ht _ => ⟨rfl, ht⟩) (fun q h => absurd h List.not_mem_nil) dL_holds_299
                          have h := hw55
                          refine lv_if_ge (tgt := 292) hx hb dL_holds_285 (by decide) (fun c56 => ?_) (fun c56 => ?_)
                          · have h := ip h c56
                            refine lv_iconst (v := 0) hx hb dL_holds_292 (by decide) ?_
                            have h := so h
                            subst h
                            exact jw55
                          · have h := iq h c56
                            refine lv_iconst (v := 1) hx hb dL_holds_288 (by decide) ?_
                            refine lv_goto (tgt := 293) hx hb dL_holds_289 (by decide) ?_
                            have h := so h
                            subst h
                            exact jw55
                    have h := hw48
                    refine lv_if_ge (tgt := 253) hx hb dL_holds_246 (by decide) (fun c49 => ?_) (fun c49 => ?_)
                    · have h := ip h c49
                      refine lv_iconst (v := 1) hx hb dL_holds_253 (by decide) ?_
                      refine lv_aload_n hx hb dL_holds_254 rfl (lv_at hl 0 rfl) ?_
                      refine lv_iload hx hb dL_holds_255 (lv_at hl 9 rfl) ?_
                      refine lv_bipush (v := 9) hx hb dL_holds_257 (by decide) ?_
                      obtain ⟨q50, hq50, h⟩ := ob h
                      refine rowV (As := [.int v9, .int 9]) (rest := [.int 1, .int v10]) C (kX3_cart l G b σ v9 9 q50 hq50) (cwV 2 hts gL_holds_X3_cart rfl rfl rfl (by decide +kernel) ⟨Nat.le_of_ble_eq_true rfl, Nat.le_of_ble_eq_true rfl⟩) (rcv_X3 X hK) X rfl hl.1 rfl (Nat.le_of_ble_eq_true rfl) dL_holds_259 ⟨Nat.zero_le _, Nat.zero_le _⟩ ?_
                      refine lv_iadd hx hb dL_holds_262 ?_
                      have h := so h
                      subst h
                      exact jw48
                    · have h := iq h c49
                      refine lv_iconst (v := 1) hx hb dL_holds_249 (by decide) ?_
                      refine lv_goto (tgt := 263) hx hb dL_holds_250 (by decide) ?_
                      have h := so h
                      subst h
                      exact jw48
              have h := hw44
              refine lv_icmp_ne (tgt := 231) hx hb dL_holds_224 (by decide) (fun c45 => ?_) (fun c45 => ?_)
              · have h := iq h c45
                refine lv_iconst (v := 0) hx hb dL_holds_231 (by decide) ?_
                have h := so h
                subst h
                exact jw44
              · have h := ip h c45
                refine lv_iconst (v := 1) hx hb dL_holds_227 (by decide) ?_
                refine lv_goto (tgt := 232) hx hb dL_holds_228 (by decide) ?_
                have h := so h
                subst h
                exact jw44
            have h := hw34
            refine lv_if_ne (tgt := 157) hx hb dL_holds_150 (by decide) (fun c35 => ?_) (fun c35 => ?_)
            · have h := iq h c35
              refine lv_iconst (v := 0) hx hb dL_holds_157 (by decide) ?_
              have h := so h
              subst h
              exact jw34
            · have h := ip h c35
              refine lv_iconst (v := 1) hx hb dL_holds_153 (by decide) ?_
              refine lv_goto (tgt := 158) hx hb dL_holds_154 (by decide) ?_
              have h := so h
              subst h
              exact jw34
          have h := hw30
          refine lv_if_ne (tgt := 127) hx hb dL_holds_120 (by decide) (fun c31 => ?_) (fun c31 => ?_)
          · have h := iq h c31
            refine lv_iconst (v := 0) hx hb dL_holds_127 (by decide) ?_
            have h := so h
            subst h
            exact jw30
          · have h := ip h c31
            refine lv_iconst (v := 1) hx hb dL_holds_123 (by decide) ?_
            refine lv_goto (tgt := 128) hx hb dL_holds_124 (by decide) ?_
            have h := so h
            subst h
            exact jw30
        have h := hw24
        refine lv_icmp_ne (tgt := 65) hx hb dL_holds_58 (by decide) (fun c25 => ?_) (fun c25 => ?_)
        · have h := iq h c25
          refine lv_iconst (v := 0) hx hb dL_holds_65 (by decide) ?_
          have h := so h
          subst h
          exact jw24
        · have h := ip h c25
          refine lv_iconst (v := 1) hx hb dL_holds_61 (by decide) ?_
          refine lv_goto (tgt := 66) hx hb dL_holds_62 (by decide) ?_
          have h := so h
          subst h
          exact jw24
  unfold fL_holds at h
  refine lv_aload_n hx hb dL_holds_0 rfl (lv_at hl 0 rfl) ?_
  refine lv_iconst (v := 5) hx hb dL_holds_1 (by decide) ?_
  obtain ⟨q1, hq1, h⟩ := ob h
  refine rowV (As := [.int 5]) (rest := []) C (kX3_total l G b σ 5 q1 hq1) (cwV 1 hts gL_holds_X3_total rfl rfl rfl (by decide +kernel) ⟨Nat.le_of_ble_eq_true rfl, Nat.le_of_ble_eq_true rfl⟩) (rcv_X3 X hK) X rfl hl.1 rfl (Nat.le_of_ble_eq_true rfl) dL_holds_2 ⟨Nat.zero_le _, Nat.zero_le _⟩ ?_
  refine lv_istore_n (lv' := [(1, .int q1), (0, .ref b)]) hx hb dL_holds_5 rfl hl (by decide) rfl (fun ls hl => ?_)
  refine lv_iconst (v := 0) hx hb dL_holds_6 (by decide) ?_
  refine lv_istore_n (lv' := [(2, .int 0), (1, .int q1), (0, .ref b)]) hx hb dL_holds_7 rfl hl (by decide) rfl (fun ls hl => ?_)
  refine lv_iconst (v := 0) hx hb dL_holds_8 (by decide) ?_
  refine lv_istore_n (lv' := [(3, .int 0), (2, .int 0), (1, .int q1), (0, .ref b)]) hx hb dL_holds_9 rfl hl (by decide) rfl (fun ls hl => ?_)
  refine lv_iconst (v := 0) hx hb dL_holds_10 (by decide) ?_
  refine lv_istore (lv' := [(4, .int 0), (3, .int 0), (2, .int 0), (1, .int q1), (0, .ref b)]) hx hb dL_holds_11 hl (by decide) rfl (fun ls hl => ?_)
  refine lv_iconst (v := 0) hx hb dL_holds_13 (by decide) ?_
  refine lv_istore (lv' := [(5, .int 0), (4, .int 0), (3, .int 0), (2, .int 0), (1, .int q1), (0, .ref b)]) hx hb dL_holds_14 hl (by decide) rfl (fun ls hl => ?_)
  refine lv_iconst (v := 0) hx hb dL_holds_16 (by decide) ?_
  refine lv_istore (lv' := [(6, .int 0), (5, .int 0), (4, .int 0), (3, .int 0), (2, .int 0), (1, .int q1), (0, .ref b)]) hx hb dL_holds_17 hl (by decide) rfl (fun ls hl => ?_)
  refine lv_iconst (v := 0) hx hb dL_holds_19 (by decide) ?_
  refine lv_istore (lv' := [(7, .int 0), (6, .int 0), (5, .int 0), (4, .int 0), (3, .int 0), (2, .int 0), (1, .int q1), (0, .ref b)]) hx hb dL_holds_20 hl (by decide) rfl (fun ls hl => ?_)
  refine lv_iconst (v := 0) hx hb dL_holds_22 (by decide) ?_
  refine lv_istore (lv' := [(8, .int 0), (7, .int 0), (6, .int 0), (5, .int 0), (4, .int 0), (3, .int 0), (2, .int 0), (1, .int q1), (0, .ref b)]) hx hb dL_holds_23 hl (by decide) rfl (fun ls hl => ?_)
  exact loop25 _ _ _ _ _ _ _ _ _ _ h (lv_sub hl [8, 7, 6, 5, 4, 3, 2, 1, 0] rfl)
