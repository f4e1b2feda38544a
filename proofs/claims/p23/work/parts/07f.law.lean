def fL_law_253 (xs : Nat → Int32) (L : Nat) (k : XS → Int32 → Option Int32) (σ : XS) (v2 : Int32) (v4 : Int32) : Option Int32 := (fL_holds σ).bind (fun q27 => if q27 = 0 then (some 0) else ((fX3_total σ 5).bind (fun q29 => if q29 ≤ 0 then (k σ (v2 + 1)) else ((fX3_total σ 5).bind (fun q31 => (fL_low (v4 >>> ((2 : Int32) &&& 31)) q31).bind (fun q32 => (fL_isSame σ q32).bind (fun q33 => if q33.1 = 0 then (some 0) else (k q33.2 (v2 + 1)))))))))
def fL_law_186 (xs : Nat → Int32) (L : Nat) (k : XS → Int32 → Option Int32) (σ : XS) (v2 : Int32) (v3 : Int32) (v4 : Int32) (v5 : Int64) (v8 : Int32) (v9 : Int64) : Option Int32 := if v8 < 0 then (fL_law_253 xs L k σ v2 v4) else (if ((v3 >>> ((10 : Int32) &&& 31)) &&& 1) = 0 then ((fX3_total σ 15).bind (fun q36 => (fX3_undo σ).bind (fun q37 => if q37.1 = (q36 - 1) then ((fL_told q37.2).bind (fun q39 => if (lg_cmp q39 v5) = 0 then ((fL_act q37.2 v3 v4).bind (fun q41 => if q41.1 = v8 then ((fL_told q41.2).bind (fun q43 => if (lg_cmp q43 v9) = 0 then (fL_law_253 xs L k q41.2 v2 v4) else (some 0))) else (some 0))) else (some 0))) else (some 0)))) else (fL_law_253 xs L k σ v2 v4))
def fL_law_105 (xs : Nat → Int32) (L : Nat) (k : XS → Int32 → Option Int32) (σ : XS) (v2 : Int32) (v3 : Int32) (v4 : Int32) : Option Int32 := (fL_told σ).bind (fun q17 => (fX3_total σ 15).bind (fun q18 => (fL_act σ v3 v4).bind (fun q19 => (fL_told q19.2).bind (fun q20 => if 0 ≤ q19.1 then ((fX3_total q19.2 15).bind (fun q22 => (if 4 ≤ q18 then (some 4) else (some (q18 + 1))).bind (fun w23 : Int32 => if q22 = w23 then (fL_law_186 xs L k q19.2 v2 v3 v4 q17 q19.1 q20) else (some 0)))) else (if (lg_cmp q20 q17) = 0 then ((fX3_total q19.2 15).bind (fun q46 => if q46 = q18 then (fL_law_186 xs L k q19.2 v2 v3 v4 q17 q19.1 q20) else (some 0))) else (some 0))))))
def fL_law_55 (xs : Nat → Int32) (L : Nat) : Nat → XS → Int32 → Option Int32
  | 0, _, _ => none
  | n + 1, σ, v2 => if 44 ≤ v2 then (some 1) else (if (2 * v2) < 0 then none else (if 4 ≤ v2 then (some (cellV xs L (2 * v2))) else (some ((cellV xs L (2 * v2)) &&& (-16)))).bind (fun w13 : Int32 => if ((2 * v2) + 1) < 0 then none else if v2 = 10 then ((fX3_keep σ).bind (fun q48 => fL_law_105 xs L (fL_law_55 xs L n) q48.2 v2 w13 (cellV xs L ((2 * v2) + 1)))) else (fL_law_105 xs L (fL_law_55 xs L n) σ v2 w13 (cellV xs L ((2 * v2) + 1)))))
theorem fL_law_55_0 (xs : Nat → Int32) (L : Nat) (σ : XS) (v2 : Int32) : fL_law_55 xs L 0 σ v2 = none := rfl
theorem fL_law_55_s (xs : Nat → Int32) (L : Nat) (n : Nat) (σ : XS) (v2 : Int32) : fL_law_55 xs L (n + 1) σ v2 = (if 44 ≤ v2 then (some 1) else (if (2 * v2) < 0 then none else (if 4 ≤ v2 then (some (cellV xs L (2 * v2))) else (some ((cellV xs L (2 * v2)) &&& (-16)))).bind (fun w13 : Int32 => if ((2 * v2) + 1) < 0 then none else if v2 = 10 then ((fX3_keep σ).bind (fun q48 => fL_law_105 xs L (fL_law_55 xs L n) q48.2 v2 w13 (cellV xs L ((2 * v2) + 1)))) else (fL_law_105 xs L (fL_law_55 xs L n) σ v2 w13 (cellV xs L ((2 * v2) + 1)))))) := rfl
def fL_law_8 (xs : Nat → Int32) (L : Nat) (σ : XS) : Option Int32 := (fX3_undo σ).bind (fun q1 => if q1.1 = (-5) then ((fX3_restore q1.2).bind (fun q3 => if q3.1 = (-5) then ((fX3_openAll q3.2).bind (fun q5 => if q5.1 = (-5) then ((fX3_keep q5.2).bind (fun q7 => if q7.1 = 0 then ((fX3_bestOpening q7.2).bind (fun q9 => if q9 = (-5) then (fL_law_55 xs L 1000 q7.2 0) else (some 0))) else (some 0))) else (some 0))) else (some 0))) else (some 0))
set_option maxHeartbeats 8000000 in
set_option maxRecDepth 100000 in
theorem law_loop {p : Program} {l : Launch} {e : Env} {s : State} {m : MethodId} {below : List Frame} {meth : Method} {c : Code} {G : Gx} {b L : Nat} {xs : Nat → Int32} (hL : L ≤ 260) (C0 : lw_At p s m meth c b L xs) (hK : gK G s) (hst : stA (fun q => s.heap.size ≤ q) s s.heap) :
    ∀ (n : Nat) (σ : XS) (v2 : Int32) (H : Heap) (locs : List Loc) (ls : Array Slot), fL_law_55 xs L n σ v2 = some 1 → xAt G s.heap.size σ H → va_S (fun q : Nat => s.heap.size ≤ q) s.heap H locs → lv_has ls 12 [(0, .ref b), (1, .ref s.heap.size), (2, .int v2)] → W p l e room_1 s m #[Value.ref b] below meth c H locs 54 1100 (lw_Z below #[Value.ref b] s) (F0 m 55 ls []) := by
  obtain ⟨hx, hb, hr, hml, hown, hts9, hX, hbl, hlocks, hgv⟩ := C0
  have hts : ∀ w ∈ wsL_law, w.before #[Value.ref b] s = true := fun w h => hts9 w (wsL_law_in w h)
  have C : Cx p m c cL_law 12 s #[Value.ref b] wsL_law RL G := ⟨⟨hx, hb, hml, hown, hts⟩, hK⟩
  have hbA : ¬ (fun q : Nat => s.heap.size ≤ q) b := Nat.not_le.mpr hbl
  intro n
  induction n with
  | zero =>
    intro σ v2 H locs ls h X hS hl
    rw [fL_law_55_0] at h
    cases h
  | succ n ih =>
    have cut253 : ∀ (σ : XS) (v2 : Int32) (v4 : Int32) (H : Heap) (locs : List Loc) (ls : Array Slot), fL_law_253 xs L (fL_law_55 xs L n) σ v2 v4 = some 1 → xAt G s.heap.size σ H → va_S (fun q : Nat => s.heap.size ≤ q) s.heap H locs → lv_has ls 12 [(0, .ref b), (1, .ref s.heap.size), (2, .int v2), (4, .int v4)] → W p l e room_1 s m #[Value.ref b] below meth c H locs 54 1100 (lw_Z below #[Value.ref b] s) (F0 m 253 ls []) := by
      intro σ v2 v4 H locs ls h X hS hl
      unfold fL_law_253 at h
      refine lv_aload_n hx hb dL_law_253 rfl (lv_at hl 1 rfl) ?_
      obtain ⟨q27, hq27, h⟩ := ob h
      refine rowSV (As := [.ref s.heap.size]) (rest := []) C (kL_holds l G s.heap.size σ q27 hq27) (va_cwS 1 hts gL_law_L_holds rfl rfl rfl (by decide +kernel) ⟨Nat.le_of_ble_eq_true rfl, Nat.le_of_ble_eq_true rfl⟩) X rfl hl.1 rfl (Nat.le_of_ble_eq_true rfl) dL_law_254 ⟨Nat.le_of_ble_eq_true rfl, Nat.le_of_ble_eq_true rfl⟩ ?_
      refine lv_if_eq (tgt := 287) hx hb dL_law_257 (by decide) (fun c28 => ?_) (fun c28 => ?_)
      · have h := ip h c28
        refine lv_iconst (v := 0) hx hb dL_law_287 (by decide) ?_
        exact absurd (so h) (by decide)
      · have h := iq h c28
        refine lv_aload_n hx hb dL_law_260 rfl (lv_at hl 1 rfl) ?_
        refine lv_iconst (v := 5) hx hb dL_law_261 (by decide) ?_
        obtain ⟨q29, hq29, h⟩ := ob h
        refine rowV (As := [.int 5]) (rest := []) C (kX3_total l G s.heap.size σ 5 q29 hq29) (cwV 1 hts gL_law_X3_total rfl rfl rfl (by decide +kernel) ⟨Nat.le_of_ble_eq_true rfl, Nat.le_of_ble_eq_true rfl⟩) (rcv_X3 X hK) X rfl hl.1 rfl (Nat.le_of_ble_eq_true rfl) dL_law_262 ⟨Nat.le_of_ble_eq_true rfl, Nat.le_of_ble_eq_true rfl⟩ ?_
        refine lv_if_le (tgt := 289) hx hb dL_law_265 (by decide) (fun c30 => ?_) (fun c30 => ?_)
        · have h := ip h c30
          refine lv_iinc (v := v2 + 1) (lv' := [(2, .int (v2 + 1)), (0, .ref b), (1, .ref s.heap.size), (4, .int v4)]) hx hb dL_law_289 hl (k := 2) rfl rfl (by decide) rfl (fun ls hl => ?_)
          refine lv_goto (tgt := 55) hx hb dL_law_292 (by decide) ?_
          exact ih _ _ _ _ _ h X hS (lv_sub hl [1, 2, 0] rfl)
        · have h := iq h c30
          refine lv_aload_n hx hb dL_law_268 rfl (lv_at hl 1 rfl) ?_
          refine lv_iload hx hb dL_law_269 (lv_at hl 3 rfl) ?_
          refine lv_iconst (v := 2) hx hb dL_law_271 (by decide) ?_
          refine lv_ishr hx hb dL_law_272 ?_
          refine lv_aload_n hx hb dL_law_273 rfl (lv_at hl 1 rfl) ?_
          refine lv_iconst (v := 5) hx hb dL_law_274 (by decide) ?_
          obtain ⟨q31, hq31, h⟩ := ob h
          refine rowV (As := [.int 5]) (rest := [.int (v4 >>> ((2 : Int32) &&& 31)), .ref s.heap.size]) C (kX3_total l G s.heap.size σ 5 q31 hq31) (cwV 1 hts gL_law_X3_total rfl rfl rfl (by decide +kernel) ⟨Nat.le_of_ble_eq_true rfl, Nat.le_of_ble_eq_true rfl⟩) (rcv_X3 X hK) X rfl hl.1 rfl (Nat.le_of_ble_eq_true rfl) dL_law_275 ⟨Nat.le_of_ble_eq_true rfl, Nat.le_of_ble_eq_true rfl⟩ ?_
          obtain ⟨q32, hq32, h⟩ := ob h
          refine rowS (As := [.int (v4 >>> ((2 : Int32) &&& 31)), .int q31]) (rest := [.ref s.heap.size]) (B := fun _ => True) C (kL_low l G (v4 >>> ((2 : Int32) &&& 31)) q31 q32 hq32) (va_cwS 2 hts gL_law_L_low rfl rfl rfl (by decide +kernel) ⟨Nat.le_of_ble_eq_true rfl, Nat.le_of_ble_eq_true rfl⟩) trivial rfl hl.1 rfl (Nat.le_of_ble_eq_true rfl) dL_law_278 ⟨Nat.le_of_ble_eq_true rfl, Nat.le_of_ble_eq_true rfl⟩ ?_
          obtain ⟨q33, hq33, h⟩ := ob h
          refine rowSW (As := [.ref s.heap.size, .int q32]) (rest := []) C (kL_isSame l G s.heap.size σ q32 q33.1 q33.2 hq33) (va_cwS 2 hts gL_law_L_isSame rfl rfl rfl (by decide +kernel) ⟨Nat.le_of_ble_eq_true rfl, Nat.le_of_ble_eq_true rfl⟩) X hS (fun q z => (fr_iff.mp z).1) rfl hl.1 rfl (Nat.le_of_ble_eq_true rfl) dL_law_281 ⟨Nat.le_of_ble_eq_true rfl, Nat.le_of_ble_eq_true rfl⟩ (fun H locs X hS _ _ => ?_)
          show W p l e _ s m _ below meth c H locs 54 1100 _ (F0 m 284 ls [.int q33.1])
          refine lv_if_ne (tgt := 289) hx hb dL_law_284 (by decide) (fun c34 => ?_) (fun c34 => ?_)
          · have h := iq h c34
            refine lv_iinc (v := v2 + 1) (lv' := [(2, .int (v2 + 1)), (0, .ref b), (1, .ref s.heap.size), (4, .int v4)]) hx hb dL_law_289 hl (k := 2) rfl rfl (by decide) rfl (fun ls hl => ?_)
            refine lv_goto (tgt := 55) hx hb dL_law_292 (by decide) ?_
            exact ih _ _ _ _ _ h X hS (lv_sub hl [1, 2, 0] rfl)
          · have h := ip h c34
            refine lv_iconst (v := 0) hx hb dL_law_287 (by decide) ?_
            exact absurd (so h) (by decide)
    have cut186 : ∀ (σ : XS) (v2 : Int32) (v3 : Int32) (v4 : Int32) (v5 : Int64) (v8 : Int32) (v9 : Int64) (H : Heap) (locs : List Loc) (ls : Array Slot), fL_law_186 xs L (fL_law_55 xs L n) σ v2 v3 v4 v5 v8 v9 = some 1 → xAt G s.heap.size σ H → va_S (fun q : Nat => s.heap.size ≤ q) s.heap H locs → lv_has ls 12 [(0, .ref b), (1, .ref s.heap.size), (2, .int v2), (3, .int v3), (4, .int v4), (5, .long v5), (8, .int v8), (9, .long v9)] → W p l e room_1 s m #[Value.ref b] below meth c H locs 54 1100 (lw_Z below #[Value.ref b] s) (F0 m 186 ls []) := by
      intro σ v2 v3 v4 v5 v8 v9 H locs ls h X hS hl
      unfold fL_law_186 at h
      refine lv_iload hx hb dL_law_186 (lv_at hl 6 rfl) ?_
      refine lv_if_lt (tgt := 253) hx hb dL_law_188 (by decide) (fun c26 => ?_) (fun c26 => ?_)
      · have h := ip h c26
        exact cut253 _ _ _ _ _ _ h X hS (lv_sub hl [0, 1, 2, 4] rfl)
      · have h := iq h c26
        refine lv_iload_n hx hb dL_law_191 rfl (lv_at hl 3 rfl) ?_
        refine lv_bipush (v := 10) hx hb dL_law_192 (by decide) ?_
        refine lv_ishr hx hb dL_law_194 ?_
        refine lv_iconst (v := 1) hx hb dL_law_195 (by decide) ?_
        refine lv_iand hx hb dL_law_196 ?_
        refine lv_if_ne (tgt := 253) hx hb dL_law_197 (by decide) (fun c35 => ?_) (fun c35 => ?_)
        · have h := iq h c35
          exact cut253 _ _ _ _ _ _ h X hS (lv_sub hl [0, 1, 2, 4] rfl)
        · have h := ip h c35
          refine lv_aload_n hx hb dL_law_200 rfl (lv_at hl 1 rfl) ?_
          refine lv_bipush (v := 15) hx hb dL_law_201 (by decide) ?_
          obtain ⟨q36, hq36, h⟩ := ob h
          refine rowV (As := [.int 15]) (rest := []) C (kX3_total l G s.heap.size σ 15 q36 hq36) (cwV 1 hts gL_law_X3_total rfl rfl rfl (by decide +kernel) ⟨Nat.le_of_ble_eq_true rfl, Nat.le_of_ble_eq_true rfl⟩) (rcv_X3 X hK) X rfl hl.1 rfl (Nat.le_of_ble_eq_true rfl) dL_law_203 ⟨Nat.le_of_ble_eq_true rfl, Nat.le_of_ble_eq_true rfl⟩ ?_
          refine lv_iconst (v := 1) hx hb dL_law_206 (by decide) ?_
          refine lv_isub hx hb dL_law_207 ?_
          refine lv_istore (lv' := [(11, .int (q36 - 1)), (0, .ref b), (1, .ref s.heap.size), (2, .int v2), (3, .int v3), (4, .int v4), (5, .long v5), (8, .int v8), (9, .long v9)]) hx hb dL_law_208 hl (by decide) rfl (fun ls hl => ?_)
          refine lv_aload_n hx hb dL_law_210 rfl (lv_at hl 2 rfl) ?_
          obtain ⟨q37, hq37, h⟩ := ob h
          refine rowW (As := []) (rest := []) C (kX3_undo l G s.heap.size σ q37.1 q37.2 hq37) (cwV 0 hts gL_law_X3_undo rfl rfl rfl (by decide +kernel) ⟨Nat.le_of_ble_eq_true rfl, Nat.le_of_ble_eq_true rfl⟩) (rcv_X3 X hK) X hS (fun q z => (fr_iff.mp z).1) rfl hl.1 rfl (Nat.le_of_ble_eq_true rfl) dL_law_211 ⟨Nat.le_of_ble_eq_true rfl, Nat.le_of_ble_eq_true rfl⟩ (fun H locs X hS _ _ => ?_)
          show W p l e _ s m _ below meth c H locs 54 1100 _ (F0 m 214 ls [.int q37.1])
          refine lv_iload hx hb dL_law_214 (lv_at hl 0 rfl) ?_
          refine lv_icmp_ne (tgt := 251) hx hb dL_law_216 (by decide) (fun c38 => ?_) (fun c38 => ?_)
          · have h := iq h c38
            refine lv_iconst (v := 0) hx hb dL_law_251 (by decide) ?_
            exact absurd (so h) (by decide)
          · have h := ip h c38
            refine lv_aload_n hx hb dL_law_219 rfl (lv_at hl 2 rfl) ?_
            obtain ⟨q39, hq39, h⟩ := ob h
            refine rowSV (As := [.ref s.heap.size]) (rest := []) C (kL_told l G s.heap.size q37.2 q39 hq39) (va_cwS 1 hts gL_law_L_told rfl rfl rfl (by decide +kernel) ⟨Nat.le_of_ble_eq_true rfl, Nat.le_of_ble_eq_true rfl⟩) X rfl hl.1 rfl (Nat.le_of_ble_eq_true rfl) dL_law_220 ⟨Nat.le_of_ble_eq_true rfl, Nat.le_of_ble_eq_true rfl⟩ ?_
            refine lv_lload hx hb dL_law_223 (lv_at hl 6 rfl) ?_
            refine W.lcmp hx hb dL_law_225 ?_
            refine lv_if_ne (tgt := 251) hx hb dL_law_226 (by decide) (fun c40 => ?_) (fun c40 => ?_)
            · have h := iq h c40
              refine lv_iconst (v := 0) hx hb dL_law_251 (by decide) ?_
              exact absurd (so h) (by decide)
            · have h := ip h c40
              refine lv_aload_n hx hb dL_law_229 rfl (lv_at hl 2 rfl) ?_
              refine lv_iload_n hx hb dL_law_230 rfl (lv_at hl 4 rfl) ?_
              refine lv_iload hx hb dL_law_231 (lv_at hl 5 rfl) ?_
              obtain ⟨q41, hq41, h⟩ := ob h
              refine rowSWs (As := [.ref s.heap.size, .int v3, .int v4]) (rest := []) C (kL_act l G (fun q => s.heap.size ≤ q) s.heap.size q37.2 v3 v4 q41.1 q41.2 (fun q z => (fr_iff.mp z).1) hq41) (va_cwS 3 hts gL_law_L_act rfl rfl rfl (by decide +kernel) ⟨Nat.le_of_ble_eq_true rfl, Nat.le_of_ble_eq_true rfl⟩) X (hst.kept (fun q h1 h2 => hS.2.1 q h1 h2)) hS (fun q z => (fr_iff.mp z).1) rfl hl.1 rfl (Nat.le_of_ble_eq_true rfl) dL_law_233 ⟨Nat.le_of_ble_eq_true rfl, Nat.le_of_ble_eq_true rfl⟩ (fun H locs X hS _ _ => ?_)
              show W p l e _ s m _ below meth c H locs 54 1100 _ (F0 m 236 ls [.int q41.1])
              refine lv_iload hx hb dL_law_236 (lv_at hl 7 rfl) ?_
              refine lv_icmp_ne (tgt := 251) hx hb dL_law_238 (by decide) (fun c42 => ?_) (fun c42 => ?_)
              · have h := iq h c42
                refine lv_iconst (v := 0) hx hb dL_law_251 (by decide) ?_
                exact absurd (so h) (by decide)
              · have h := ip h c42
                refine lv_aload_n hx hb dL_law_241 rfl (lv_at hl 2 rfl) ?_
                obtain ⟨q43, hq43, h⟩ := ob h
                refine rowSV (As := [.ref s.heap.size]) (rest := []) C (kL_told l G s.heap.size q41.2 q43 hq43) (va_cwS 1 hts gL_law_L_told rfl rfl rfl (by decide +kernel) ⟨Nat.le_of_ble_eq_true rfl, Nat.le_of_ble_eq_true rfl⟩) X rfl hl.1 rfl (Nat.le_of_ble_eq_true rfl) dL_law_242 ⟨Nat.le_of_ble_eq_true rfl, Nat.le_of_ble_eq_true rfl⟩ ?_
                refine lv_lload hx hb dL_law_245 (lv_at hl 8 rfl) ?_
                refine W.lcmp hx hb dL_law_247 ?_
                refine lv_if_eq (tgt := 253) hx hb dL_law_248 (by decide) (fun c44 => ?_) (fun c44 => ?_)
                · have h := ip h c44
                  exact cut253 _ _ _ _ _ _ h X hS (lv_sub hl [1, 2, 3, 5] rfl)
                · have h := iq h c44
                  refine lv_iconst (v := 0) hx hb dL_law_251 (by decide) ?_
                  exact absurd (so h) (by decide)
    have cut105 : ∀ (σ : XS) (v2 : Int32) (v3 : Int32) (v4 : Int32) (H : Heap) (locs : List Loc) (ls : Array Slot), fL_law_105 xs L (fL_law_55 xs L n) σ v2 v3 v4 = some 1 → xAt G s.heap.size σ H → va_S (fun q : Nat => s.heap.size ≤ q) s.heap H locs → lv_has ls 12 [(0, .ref b), (1, .ref s.heap.size), (2, .int v2), (3, .int v3), (4, .int v4)] → W p l e room_1 s m #[Value.ref b] below meth c H locs 54 1100 (lw_Z below #[Value.ref b] s) (F0 m 105 ls []) := by
      intro σ v2 v3 v4 H locs ls h X hS hl
      unfold fL_law_105 at h
      refine lv_aload_n hx hb dL_law_105 rfl (lv_at hl 1 rfl) ?_
      obtain ⟨q17, hq17, h⟩ := ob h
      refine rowSV (As := [.ref s.heap.size]) (rest := []) C (kL_told l G s.heap.size σ q17 hq17) (va_cwS 1 hts gL_law_L_told rfl rfl rfl (by decide +kernel) ⟨Nat.le_of_ble_eq_true rfl, Nat.le_of_ble_eq_true rfl⟩) X rfl hl.1 rfl (Nat.le_of_ble_eq_true rfl) dL_law_106 ⟨Nat.le_of_ble_eq_true rfl, Nat.le_of_ble_eq_true rfl⟩ ?_
      refine lv_lstore (lv' := [(5, .long q17), (0, .ref b), (1, .ref s.heap.size), (2, .int v2), (3, .int v3), (4, .int v4)]) hx hb dL_law_109 hl (by decide) rfl (fun ls hl => ?_)
      refine lv_aload_n hx hb dL_law_111 rfl (lv_at hl 2 rfl) ?_
      refine lv_bipush (v := 15) hx hb dL_law_112 (by decide) ?_
      obtain ⟨q18, hq18, h⟩ := ob h
      refine rowV (As := [.int 15]) (rest := []) C (kX3_total l G s.heap.size σ 15 q18 hq18) (cwV 1 hts gL_law_X3_total rfl rfl rfl (by decide +kernel) ⟨Nat.le_of_ble_eq_true rfl, Nat.le_of_ble_eq_true rfl⟩) (rcv_X3 X hK) X rfl hl.1 rfl (Nat.le_of_ble_eq_true rfl) dL_law_114 ⟨Nat.le_of_ble_eq_true rfl, Nat.le_of_ble_eq_true rfl⟩ ?_
      refine lv_istore (lv' := [(7, .int q18), (5, .long q17), (0, .ref b), (1, .ref s.heap.size), (2, .int v2), (3, .int v3), (4, .int v4)]) hx hb dL_law_117 hl (by decide) rfl (fun ls hl => ?_)
      refine lv_aload_n hx hb dL_law_119 rfl (lv_at hl 3 rfl) ?_
      refine lv_iload_n hx hb dL_law_120 rfl (lv_at hl 5 rfl) ?_
      refine lv_iload hx hb dL_law_121 (lv_at hl 6 rfl) ?_
      obtain ⟨q19, hq19, h⟩ := ob h
      refine rowSWs (As := [.ref s.heap.size, .int v3, .int v4]) (rest := []) C (kL_act l G (fun q => s.heap.size ≤ q) s.heap.size σ v3 v4 q19.1 q19.2 (fun q z => (fr_iff.mp z).1) hq19) (va_cwS 3 hts gL_law_L_act rfl rfl rfl (by decide +kernel) ⟨Nat.le_of_ble_eq_true rfl, Nat.le_of_ble_eq_true rfl⟩) X (hst.kept (fun q h1 h2 => hS.2.1 q h1 h2)) hS (fun q z => (fr_iff.mp z).1) rfl hl.1 rfl (Nat.le_of_ble_eq_true rfl) dL_law_123 ⟨Nat.le_of_ble_eq_true rfl, Nat.le_of_ble_eq_true rfl⟩ (fun H locs X hS _ _ => ?_)
      show W p l e _ s m _ below meth c H locs 54 1100 _ (F0 m 126 ls [.int q19.1])
      refine lv_istore (lv' := [(8, .int q19.1), (7, .int q18), (5, .long q17), (0, .ref b), (1, .ref s.heap.size), (2, .int v2), (3, .int v3), (4, .int v4)]) hx hb dL_law_126 hl (by decide) rfl (fun ls hl => ?_)
      refine lv_aload_n hx hb dL_law_128 rfl (lv_at hl 4 rfl) ?_
      obtain ⟨q20, hq20, h⟩ := ob h
      refine rowSV (As := [.ref s.heap.size]) (rest := []) C (kL_told l G s.heap.size q19.2 q20 hq20) (va_cwS 1 hts gL_law_L_told rfl rfl rfl (by decide +kernel) ⟨Nat.le_of_ble_eq_true rfl, Nat.le_of_ble_eq_true rfl⟩) X rfl hl.1 rfl (Nat.le_of_ble_eq_true rfl) dL_law_129 ⟨Nat.le_of_ble_eq_true rfl, Nat.le_of_ble_eq_true rfl⟩ ?_
      refine lv_lstore (lv' := [(9, .long q20), (8, .int q19.1), (7, .int q18), (5, .long q17), (0, .ref b), (1, .ref s.heap.size), (2, .int v2), (3, .int v3), (4, .int v4)]) hx hb dL_law_132 hl (by decide) rfl (fun ls hl => ?_)
      refine lv_iload hx hb dL_law_134 (lv_at hl 1 rfl) ?_
      refine lv_if_ge (tgt := 161) hx hb dL_law_136 (by decide) (fun c21 => ?_) (fun c21 => ?_)
      · have h := ip h c21
        refine lv_aload_n hx hb dL_law_161 rfl (lv_at hl 5 rfl) ?_
        refine lv_bipush (v := 15) hx hb dL_law_162 (by decide) ?_
        obtain ⟨q22, hq22, h⟩ := ob h
        refine rowV (As := [.int 15]) (rest := []) C (kX3_total l G s.heap.size q19.2 15 q22 hq22) (cwV 1 hts gL_law_X3_total rfl rfl rfl (by decide +kernel) ⟨Nat.le_of_ble_eq_true rfl, Nat.le_of_ble_eq_true rfl⟩) (rcv_X3 X hK) X rfl hl.1 rfl (Nat.le_of_ble_eq_true rfl) dL_law_164 ⟨Nat.le_of_ble_eq_true rfl, Nat.le_of_ble_eq_true rfl⟩ ?_
        refine lv_iload hx hb dL_law_167 (lv_at hl 2 rfl) ?_
        refine lv_iconst (v := 4) hx hb dL_law_169 (by decide) ?_
        obtain ⟨w23, hw23, h⟩ := ob h
        have jw23 : W p l e room_1 s m #[Value.ref b] below meth c H locs 54 1100 (lw_Z below #[Value.ref b] s) (F0 m 181 ls [.int w23, .int q22]) := by
          refine lv_icmp_eq (tgt := 186) hx hb dL_law_181 (by decide) (fun c25 => ?_) (fun c25 => ?_)
          · have h := ip h c25
            exact cut186 _ _ _ _ _ _ _ _ _ _ h X hS (lv_sub hl [4, 5, 6, 7, 8, 3, 1, 0] rfl)
          · have h := iq h c25
            refine lv_iconst (v := 0) hx hb dL_law_184 (by decide) ?_
            exact absurd (so h) (by decide)
        have h := hw23
        refine lv_icmp_ge (tgt := 180) hx hb dL_law_170 (by decide) (fun c24 => ?_) (fun c24 => ?_)
        · have h := ip h c24
          refine lv_iconst (v := 4) hx hb dL_law_180 (by decide) ?_
          have h := so h
          subst h
          exact jw23
        · have h := iq h c24
          refine lv_iload hx hb dL_law_173 (lv_at hl 2 rfl) ?_
          refine lv_iconst (v := 1) hx hb dL_law_175 (by decide) ?_
          refine lv_iadd hx hb dL_law_176 ?_
          refine lv_goto (tgt := 181) hx hb dL_law_177 (by decide) ?_
          have h := so h
          subst h
          exact jw23
      · have h := iq h c21
        refine lv_lload hx hb dL_law_139 (lv_at hl 0 rfl) ?_
        refine lv_lload hx hb dL_law_141 (lv_at hl 3 rfl) ?_
        refine W.lcmp hx hb dL_law_143 ?_
        refine lv_if_ne (tgt := 184) hx hb dL_law_144 (by decide) (fun c45 => ?_) (fun c45 => ?_)
        · have h := iq h c45
          refine lv_iconst (v := 0) hx hb dL_law_184 (by decide) ?_
          exact absurd (so h) (by decide)
        · have h := ip h c45
          refine lv_aload_n hx hb dL_law_147 rfl (lv_at hl 5 rfl) ?_
          refine lv_bipush (v := 15) hx hb dL_law_148 (by decide) ?_
          obtain ⟨q46, hq46, h⟩ := ob h
          refine rowV (As := [.int 15]) (rest := []) C (kX3_total l G s.heap.size q19.2 15 q46 hq46) (cwV 1 hts gL_law_X3_total rfl rfl rfl (by decide +kernel) ⟨Nat.le_of_ble_eq_true rfl, Nat.le_of_ble_eq_true rfl⟩) (rcv_X3 X hK) X rfl hl.1 rfl (Nat.le_of_ble_eq_true rfl) dL_law_150 ⟨Nat.le_of_ble_eq_true rfl, Nat.le_of_ble_eq_true rfl⟩ ?_
          refine lv_iload hx hb dL_law_153 (lv_at hl 2 rfl) ?_
          refine lv_icmp_eq (tgt := 186) hx hb dL_law_155 (by decide) (fun c47 => ?_) (fun c47 => ?_)
          · have h := ip h c47
            exact cut186 _ _ _ _ _ _ _ _ _ _ h X hS (lv_sub hl [4, 5, 6, 7, 8, 3, 1, 0] rfl)
          · have h := iq h c47
            refine lv_goto (tgt := 184) hx hb dL_law_158 (by decide) ?_
            refine lv_iconst (v := 0) hx hb dL_law_184 (by decide) ?_
            exact absurd (so h) (by decide)
    intro σ v2 H locs ls h X hS hl
    rw [fL_law_55_s] at h
    refine lv_iload_n hx hb dL_law_55 rfl (lv_at hl 2 rfl) ?_
    refine lv_bipush (v := 44) hx hb dL_law_56 (by decide) ?_
    refine lv_icmp_ge (tgt := 295) hx hb dL_law_58 (by decide) (fun c11 => ?_) (fun c11 => ?_)
    · have h := ip h c11
      refine lv_iconst (v := 1) hx hb dL_law_295 (by decide) ?_
      refine va_forget (fun q hq => hS.2.2 q hq) ?_
      refine W.widen (k := 600000) (n := 7302250) (Nat.le_of_ble_eq_true rfl) (Nat.le_of_ble_eq_true rfl) ?_
      exact lw_ret hx hb hr hlocks dL_law_296
    · have h := iq h c11
      refine lv_aload_n hx hb dL_law_61 rfl (lv_at hl 0 rfl) ?_
      refine lv_iconst (v := 2) hx hb dL_law_62 (by decide) ?_
      refine lv_iload_n hx hb dL_law_63 rfl (lv_at hl 2 rfl) ?_
      refine lv_imul hx hb dL_law_64 ?_
      obtain ⟨c12, h⟩ := og h
      refine rowC (As := [.ref b, .int (2 * v2)]) (rest := []) C (kL_cell l b L hL xs (2 * v2) c12) (va_cwS 2 hts gL_law_L_cell rfl rfl rfl (by decide +kernel) ⟨Nat.le_of_ble_eq_true rfl, Nat.le_of_ble_eq_true rfl⟩) hX hbl hbA hS rfl hl.1 rfl (Nat.le_of_ble_eq_true rfl) dL_law_65 ⟨Nat.le_of_ble_eq_true rfl, Nat.le_of_ble_eq_true rfl⟩ ?_
      refine lv_istore_n (lv' := [(3, .int (cellV xs L (2 * v2))), (0, .ref b), (1, .ref s.heap.size), (2, .int v2)]) hx hb dL_law_68 rfl hl (by decide) rfl (fun ls hl => ?_)
      refine lv_iload_n hx hb dL_law_69 rfl (lv_at hl 3 rfl) ?_
      refine lv_iconst (v := 4) hx hb dL_law_70 (by decide) ?_
      obtain ⟨w13, hw13, h⟩ := ob h
      have jw13 : W p l e room_1 s m #[Value.ref b] below meth c H locs 54 1100 (lw_Z below #[Value.ref b] s) (F0 m 82 ls [.int w13]) := by
        refine lv_istore_n (lv' := [(3, .int w13), (0, .ref b), (1, .ref s.heap.size), (2, .int v2)]) hx hb dL_law_82 rfl hl (by decide) rfl (fun ls hl => ?_)
        refine lv_aload_n hx hb dL_law_83 rfl (lv_at hl 1 rfl) ?_
        refine lv_iconst (v := 2) hx hb dL_law_84 (by decide) ?_
        refine lv_iload_n hx hb dL_law_85 rfl (lv_at hl 3 rfl) ?_
        refine lv_imul hx hb dL_law_86 ?_
        refine lv_iconst (v := 1) hx hb dL_law_87 (by decide) ?_
        refine lv_iadd hx hb dL_law_88 ?_
        obtain ⟨c15, h⟩ := og h
        refine rowC (As := [.ref b, .int ((2 * v2) + 1)]) (rest := []) C (kL_cell l b L hL xs ((2 * v2) + 1) c15) (va_cwS 2 hts gL_law_L_cell rfl rfl rfl (by decide +kernel) ⟨Nat.le_of_ble_eq_true rfl, Nat.le_of_ble_eq_true rfl⟩) hX hbl hbA hS rfl hl.1 rfl (Nat.le_of_ble_eq_true rfl) dL_law_89 ⟨Nat.le_of_ble_eq_true rfl, Nat.le_of_ble_eq_true rfl⟩ ?_
        refine lv_istore (lv' := [(4, .int (cellV xs L ((2 * v2) + 1))), (3, .int w13), (0, .ref b), (1, .ref s.heap.size), (2, .int v2)]) hx hb dL_law_92 hl (by decide) rfl (fun ls hl => ?_)
        refine lv_iload_n hx hb dL_law_94 rfl (lv_at hl 4 rfl) ?_
        refine lv_bipush (v := 10) hx hb dL_law_95 (by decide) ?_
        refine lv_icmp_ne (tgt := 105) hx hb dL_law_97 (by decide) (fun c16 => ?_) (fun c16 => ?_)
        · have h := iq h c16
          exact cut105 _ _ _ _ _ _ _ h X hS (lv_sub hl [2, 3, 4, 1, 0] rfl)
        · have h := ip h c16
          refine lv_aload_n hx hb dL_law_100 rfl (lv_at hl 3 rfl) ?_
          obtain ⟨q48, hq48, h⟩ := ob h
          refine rowW (As := []) (rest := []) C (kX3_keep l G s.heap.size σ q48.1 q48.2 hq48) (cwV 0 hts gL_law_X3_keep rfl rfl rfl (by decide +kernel) ⟨Nat.le_of_ble_eq_true rfl, Nat.le_of_ble_eq_true rfl⟩) (rcv_X3 X hK) X hS (fun q z => (fr_iff.mp z).1) rfl hl.1 rfl (Nat.le_of_ble_eq_true rfl) dL_law_101 ⟨Nat.le_of_ble_eq_true rfl, Nat.le_of_ble_eq_true rfl⟩ (fun H locs X hS _ _ => ?_)
          show W p l e _ s m _ below meth c H locs 54 1100 _ (F0 m 104 ls [.int q48.1])
          refine lv_pop hx hb dL_law_104 rfl ?_
          exact cut105 _ _ _ _ _ _ _ h X hS (lv_sub hl [2, 3, 4, 1, 0] rfl)
      have h := hw13
      refine lv_icmp_ge (tgt := 81) hx hb dL_law_71 (by decide) (fun c14 => ?_) (fun c14 => ?_)
      · have h := ip h c14
        refine lv_iload_n hx hb dL_law_81 rfl (lv_at hl 0 rfl) ?_
        have h := so h
        subst h
        exact jw13
      · have h := iq h c14
        refine lv_iload_n hx hb dL_law_74 rfl (lv_at hl 0 rfl) ?_
        refine lv_bipush (v := (-16)) hx hb dL_law_75 (by decide) ?_
        refine lv_iand hx hb dL_law_77 ?_
        refine lv_goto (tgt := 82) hx hb dL_law_78 (by decide) ?_
        have h := so h
        subst h
        exact jw13
set_option maxHeartbeats 8000000 in
set_option maxRecDepth 100000 in
theorem law_rest {p : Program} {l : Launch} {e : Env} {s : State} {m : MethodId} {below : List Frame} {meth : Method} {c : Code} {G : Gx} {b L : Nat} {xs : Nat → Int32} (hL : L ≤ 260) (C0 : lw_At p s m meth c b L xs) (hK : gK G s) (hst : stA (fun q => s.heap.size ≤ q) s s.heap) (σ : XS) (H : Heap) (locs : List Loc) (ls : Array Slot) (h : fL_law_8 xs L σ = some 1) (X : xAt G s.heap.size σ H) (hS : va_S (fun q : Nat => s.heap.size ≤ q) s.heap H locs) (hl : lv_has ls 12 [(1, .ref s.heap.size), (0, .ref b)]) : W p l e room_1 s m #[Value.ref b] below meth c H locs 54 1100 (lw_Z below #[Value.ref b] s) (F0 m 8 ls []) := by
  have loop55 := @law_loop p l e s m below meth c G b L xs hL C0 hK hst
  obtain ⟨hx, hb, hr, hml, hown, hts9, hX, hbl, hlocks, hgv⟩ := C0
  have hts : ∀ w ∈ wsL_law, w.before #[Value.ref b] s = true := fun w h => hts9 w (wsL_law_in w h)
  have C : Cx p m c cL_law 12 s #[Value.ref b] wsL_law RL G := ⟨⟨hx, hb, hml, hown, hts⟩, hK⟩
  have hbA : ¬ (fun q : Nat => s.heap.size ≤ q) b := Nat.not_le.mpr hbl
  unfold fL_law_8 at h
  refine lv_aload_n hx hb dL_law_8 rfl (lv_at hl 0 rfl) ?_
  obtain ⟨q1, hq1, h⟩ := ob h
  refine rowW (As := []) (rest := []) C (kX3_undo l G s.heap.size σ q1.1 q1.2 hq1) (cwV 0 hts gL_law_X3_undo rfl rfl rfl (by decide +kernel) ⟨Nat.le_of_ble_eq_true rfl, Nat.le_of_ble_eq_true rfl⟩) (rcv_X3 X hK) X hS (fun q z => (fr_iff.mp z).1) rfl hl.1 rfl (Nat.le_of_ble_eq_true rfl) dL_law_9 ⟨Nat.le_of_ble_eq_true rfl, Nat.le_of_ble_eq_true rfl⟩ (fun H locs X hS _ _ => ?_)
  show W p l e _ s m _ below meth c H locs 54 1100 _ (F0 m 12 ls [.int q1.1])
  refine lv_bipush (v := (-5)) hx hb dL_law_12 (by decide) ?_
  refine lv_icmp_ne (tgt := 51) hx hb dL_law_14 (by decide) (fun c2 => ?_) (fun c2 => ?_)
  · have h := iq h c2
    refine lv_iconst (v := 0) hx hb dL_law_51 (by decide) ?_
    exact absurd (so h) (by decide)
  · have h := ip h c2
    refine lv_aload_n hx hb dL_law_17 rfl (lv_at hl 0 rfl) ?_
    obtain ⟨q3, hq3, h⟩ := ob h
    refine rowW (As := []) (rest := []) C (kX3_restore l G s.heap.size q1.2 q3.1 q3.2 hq3) (cwV 0 hts gL_law_X3_restore rfl rfl rfl (by decide +kernel) ⟨Nat.le_of_ble_eq_true rfl, Nat.le_of_ble_eq_true rfl⟩) (rcv_X3 X hK) X hS (fun q z => (fr_iff.mp z).1) rfl hl.1 rfl (Nat.le_of_ble_eq_true rfl) dL_law_18 ⟨Nat.le_of_ble_eq_true rfl, Nat.le_of_ble_eq_true rfl⟩ (fun H locs X hS _ _ => ?_)
    show W p l e _ s m _ below meth c H locs 54 1100 _ (F0 m 21 ls [.int q3.1])
    refine lv_bipush (v := (-5)) hx hb dL_law_21 (by decide) ?_
    refine lv_icmp_ne (tgt := 51) hx hb dL_law_23 (by decide) (fun c4 => ?_) (fun c4 => ?_)
    · have h := iq h c4
      refine lv_iconst (v := 0) hx hb dL_law_51 (by decide) ?_
      exact absurd (so h) (by decide)
    · have h := ip h c4
      refine lv_aload_n hx hb dL_law_26 rfl (lv_at hl 0 rfl) ?_
      obtain ⟨q5, hq5, h⟩ := ob h
      refine rowW (As := []) (rest := []) C (kX3_openAll l G s.heap.size q3.2 q5.1 q5.2 hq5) (cwV 0 hts gL_law_X3_openAll rfl rfl rfl (by decide +kernel) ⟨Nat.le_of_ble_eq_true rfl, Nat.le_of_ble_eq_true rfl⟩) (rcv_X3 X hK) X hS (fun q z => (fr_iff.mp z).1) rfl hl.1 rfl (Nat.le_of_ble_eq_true rfl) dL_law_27 ⟨Nat.le_of_ble_eq_true rfl, Nat.le_of_ble_eq_true rfl⟩ (fun H locs X hS _ _ => ?_)
      show W p l e _ s m _ below meth c H locs 54 1100 _ (F0 m 30 ls [.int q5.1])
      refine lv_bipush (v := (-5)) hx hb dL_law_30 (by decide) ?_
      refine lv_icmp_ne (tgt := 51) hx hb dL_law_32 (by decide) (fun c6 => ?_) (fun c6 => ?_)
      · have h := iq h c6
        refine lv_iconst (v := 0) hx hb dL_law_51 (by decide) ?_
        exact absurd (so h) (by decide)
      · have h := ip h c6
        refine lv_aload_n hx hb dL_law_35 rfl (lv_at hl 0 rfl) ?_
        obtain ⟨q7, hq7, h⟩ := ob h
        refine rowW (As := []) (rest := []) C (kX3_keep l G s.heap.size q5.2 q7.1 q7.2 hq7) (cwV 0 hts gL_law_X3_keep rfl rfl rfl (by decide +kernel) ⟨Nat.le_of_ble_eq_true rfl, Nat.le_of_ble_eq_true rfl⟩) (rcv_X3 X hK) X hS (fun q z => (fr_iff.mp z).1) rfl hl.1 rfl (Nat.le_of_ble_eq_true rfl) dL_law_36 ⟨Nat.le_of_ble_eq_true rfl, Nat.le_of_ble_eq_true rfl⟩ (fun H locs X hS _ _ => ?_)
        show W p l e _ s m _ below meth c H locs 54 1100 _ (F0 m 39 ls [.int q7.1])
        refine lv_if_ne (tgt := 51) hx hb dL_law_39 (by decide) (fun c8 => ?_) (fun c8 => ?_)
        · have h := iq h c8
          refine lv_iconst (v := 0) hx hb dL_law_51 (by decide) ?_
          exact absurd (so h) (by decide)
        · have h := ip h c8
          refine lv_aload_n hx hb dL_law_42 rfl (lv_at hl 0 rfl) ?_
          obtain ⟨q9, hq9, h⟩ := ob h
          refine rowV (As := []) (rest := []) C (kX3_bestOpening l G s.heap.size q7.2 q9 hq9) (cwV 0 hts gL_law_X3_bestOpening rfl rfl rfl (by decide +kernel) ⟨Nat.le_of_ble_eq_true rfl, Nat.le_of_ble_eq_true rfl⟩) (rcv_X3 X hK) X rfl hl.1 rfl (Nat.le_of_ble_eq_true rfl) dL_law_43 ⟨Nat.le_of_ble_eq_true rfl, Nat.le_of_ble_eq_true rfl⟩ ?_
          refine lv_bipush (v := (-5)) hx hb dL_law_46 (by decide) ?_
          refine lv_icmp_eq (tgt := 53) hx hb dL_law_48 (by decide) (fun c10 => ?_) (fun c10 => ?_)
          · have h := ip h c10
            refine lv_iconst (v := 0) hx hb dL_law_53 (by decide) ?_
            refine lv_istore_n (lv' := [(2, .int 0), (1, .ref s.heap.size), (0, .ref b)]) hx hb dL_law_54 rfl hl (by decide) rfl (fun ls hl => ?_)
            exact loop55 _ _ _ _ _ _ h X hS (lv_sub hl [2, 1, 0] rfl)
          · have h := iq h c10
            refine lv_iconst (v := 0) hx hb dL_law_51 (by decide) ?_
            exact absurd (so h) (by decide)
