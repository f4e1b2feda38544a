set_option maxHeartbeats 4000000 in
set_option maxRecDepth 100000 in
theorem start_stA {s : State} {b : Nat} (hgv : (Jvm.Cond.and given_1 narrow_1).before #[Value.ref b] s = true) (hts9 : ∀ w ∈ lw_tbl, w.before #[Value.ref b] s = true) : stA (fun q => s.heap.size ≤ q) s s.heap := by
  have hs := flat_of_before _ hgv
  have hA : ∀ a : Nat, a < s.heap.size → ¬ s.heap.size ≤ a := fun a h => Nat.not_le.mpr h
  have a1 : (Cond.arrayOf (.static "RopeSeals$House" "LEAST" "[I") .int).before #[Value.ref b] s = true := hs _ (by decide +kernel)
  have n1 := va_eqt (hs (Cond.eq (.length (.static "RopeSeals$House" "LEAST" "[I")) (.int 5)) (by decide +kernel))
  have v10 := va_eqt (hs (Cond.eq (.elem (.static "RopeSeals$House" "LEAST" "[I") (.int 0)) (.int 1)) (by decide +kernel))
  have v11 := va_eqt (hs (Cond.eq (.elem (.static "RopeSeals$House" "LEAST" "[I") (.int 1)) (.int 1)) (by decide +kernel))
  have v12 := va_eqt (hs (Cond.eq (.elem (.static "RopeSeals$House" "LEAST" "[I") (.int 2)) (.int 10)) (by decide +kernel))
  have v13 := va_eqt (hs (Cond.eq (.elem (.static "RopeSeals$House" "LEAST" "[I") (.int 3)) (.int 0)) (by decide +kernel))
  have v14 := va_eqt (hs (Cond.eq (.elem (.static "RopeSeals$House" "LEAST" "[I") (.int 4)) (.int 0)) (by decide +kernel))
  obtain ⟨t1, q1, T1⟩ := va_Tof (N := 5) (f := fun j => .int (tLEAST j)) (A := fun q => s.heap.size ≤ q) (by decide) a1 n1 (at5 v10 v11 v12 v13 v14) hA
  have a2 : (Cond.arrayOf (.static "RopeSeals$House" "GREATEST" "[I") .int).before #[Value.ref b] s = true := hs _ (by decide +kernel)
  have n2 := va_eqt (hs (Cond.eq (.length (.static "RopeSeals$House" "GREATEST" "[I")) (.int 5)) (by decide +kernel))
  have v20 := va_eqt (hs (Cond.eq (.elem (.static "RopeSeals$House" "GREATEST" "[I") (.int 0)) (.int 99)) (by decide +kernel))
  have v21 := va_eqt (hs (Cond.eq (.elem (.static "RopeSeals$House" "GREATEST" "[I") (.int 1)) (.int 99)) (by decide +kernel))
  have v22 := va_eqt (hs (Cond.eq (.elem (.static "RopeSeals$House" "GREATEST" "[I") (.int 2)) (.int 999)) (by decide +kernel))
  have v23 := va_eqt (hs (Cond.eq (.elem (.static "RopeSeals$House" "GREATEST" "[I") (.int 3)) (.int 99)) (by decide +kernel))
  have v24 := va_eqt (hs (Cond.eq (.elem (.static "RopeSeals$House" "GREATEST" "[I") (.int 4)) (.int 99)) (by decide +kernel))
  obtain ⟨t2, q2, T2⟩ := va_Tof (N := 5) (f := fun j => .int (tGREATEST j)) (A := fun q => s.heap.size ≤ q) (by decide) a2 n2 (at5 v20 v21 v22 v23 v24) hA
  exact ⟨t1, t2, va_Zref (hts9 _ (List.mem_of_getElem? (i := 334) rfl)) (hts9 _ (List.mem_of_getElem? (i := 78) rfl)) q1 hA, T1, va_Zref (hts9 _ (List.mem_of_getElem? (i := 336) rfl)) (hts9 _ (List.mem_of_getElem? (i := 78) rfl)) q2 hA, T2⟩
set_option maxHeartbeats 4000000 in
set_option maxRecDepth 100000 in
theorem start_gK {s : State} {b : Nat} (hts9 : ∀ w ∈ lw_tbl, w.before #[Value.ref b] s = true) : ∃ G : Gx, gK G s := by
  obtain ⟨c0, i0, k0⟩ := u_known (C := RX0) (T := TX0) (N := 2) (n := 2) hts9 inX0 (hts9 _ (List.mem_of_getElem? (i := 135) rfl))
  obtain ⟨c1, i1, k1⟩ := u_known (C := RX1) (T := TX1) (N := 11) (n := 11) hts9 inX1 (hts9 _ (List.mem_of_getElem? (i := 94) rfl))
  obtain ⟨c2, i2, k2⟩ := u_known (C := RX2) (T := TX2) (N := 7) (n := 7) hts9 inX2 (hts9 _ (List.mem_of_getElem? (i := 151) rfl))
  obtain ⟨c3, i3, k3⟩ := u_known (C := RX3) (T := TX3) (N := 6) (n := 6) hts9 inX3 (hts9 _ (List.mem_of_getElem? (i := 86) rfl))
  obtain ⟨c4, i4, k4⟩ := u_known (C := RX4) (T := TX4) (N := 13) (n := 13) hts9 inX4 (hts9 _ (List.mem_of_getElem? (i := 565) rfl))
  obtain ⟨cI, kI, pI, a1, a2, a3⟩ := Cond.arrayClass_spec (hts9 _ (List.mem_of_getElem? (i := 133) rfl))
  obtain ⟨cC, kC, pC, b1, b2, b3⟩ := Cond.arrayClass_spec (hts9 _ (List.mem_of_getElem? (i := 178) rfl))
  obtain ⟨comp, cO, kO, d1, -, d2, d3, d4⟩ := Cond.arrayOver_spec (hts9 _ (List.mem_of_getElem? (i := 141) rfl))
  refine ⟨((fun k => if k = 0 then c0 else if k = 1 then c1 else if k = 2 then c2 else if k = 3 then c3 else c4, fun k => if k = 0 then i0 else if k = 1 then i1 else if k = 2 then i2 else if k = 3 then i3 else i4), fun k => if k = 0 then cI else if k = 1 then cC else cO), fun k q hq => ?_, fun k q hq => ?_⟩
  · match k, hq with
    | 0, hq => cases hq; exact k0
    | 1, hq => cases hq; exact k1
    | 2, hq => cases hq; exact k2
    | 3, hq => cases hq; exact k3
    | 4, hq => cases hq; exact k4
    | k + 5, hq => simp [vwCl] at hq
  · match k, hq with
    | 0, hq => cases hq; exact ⟨fun n z => ⟨(fun k h => by cases h), kI, a2, pI, a3⟩, a1⟩
    | 1, hq => cases hq; exact ⟨fun n z => ⟨(fun k h => by cases h), kC, b2, pC, b3⟩, b1⟩
    | 2, hq => cases hq; exact ⟨fun n z => ⟨(fun k h => by cases h), kO, d2, comp, d3⟩, kO, comp, d2, d3, d1, d4⟩
    | k + 3, hq => simp at hq
set_option maxHeartbeats 4000000 in
set_option maxRecDepth 100000 in
/-- THE LAW, from its entry -/
theorem whole_start {p : Program} {e : Env} {s : State} {m : MethodId} {below : List Frame} {meth : Method} {c : Code} (l : Launch) (hflags : l.flags = flags0) {b L : Nat} {xs : Nat → Int32} (hL : L ≤ 2048) (C0 : lw_At p s m meth c b L xs) : W p l e room_1 s m #[Value.ref b] below meth c s.heap [] 0 0 (lw_Z below #[Value.ref b] s) (entryFrame m ([Value.ref b] : List Value).toArray 4) := by
  obtain ⟨hx, hb, hr, hml, hown, hts9, hX, hbl, hlocks, hgv⟩ := id C0
  have hts : ∀ w ∈ wsL_law, w.before #[Value.ref b] s = true := fun w h => hts9 w (wsL_law_in w h)
  obtain ⟨G, hK⟩ := start_gK hts9
  have hst := start_stA hgv hts9
  have C : Cx p m c cL_law 4 s #[Value.ref b] wsL_law RL G := ⟨⟨hx, hb, hml, hown, hts⟩, hK⟩
  have hnw : nwS s := ⟨va_Nw.of rfl (hts9 _ (List.mem_of_getElem? (i := 142) rfl)), va_Nw.of rfl (hts9 _ (List.mem_of_getElem? (i := 95) rfl)), va_Nw.of rfl (hts9 _ (List.mem_of_getElem? (i := 152) rfl)), va_AO.of (hts9 _ (List.mem_of_getElem? (i := 141) rfl))⟩
  have hS : va_S (fun q : Nat => s.heap.size ≤ q) s.heap s.heap [] := va_S.rf
  have hl := lv_entry ([.ref b]) (n := 4) (Nat.le_of_ble_eq_true rfl)
  rw [lg_entry_eq]
  generalize (lg_sl ([.ref b]) ++ List.replicate (4 - (lg_sl ([.ref b])).length) Slot.unset).toArray = ls at hl ⊢
  have hl : lv_has ls 4 [(0, .ref b)] := hl
  refine newO (h := s.heap.size) (ci := 3) (fs := [.null, .null, .null, .int 0, .null, .null]) C inlX3 tyX3 tyX3_ok (hts _ (List.mem_of_getElem? (i := 0) rfl)) (hts _ (List.mem_of_getElem? (i := 1) rfl)) (hts _ (List.mem_of_getElem? (i := 2) rfl)) rfl hS rfl (fun j hj => by rcases (show j = 0 ∨ j = 1 ∨ j = 2 ∨ j = 3 ∨ j = 4 ∨ j = 5 by omega) with rfl | rfl | rfl | rfl | rfl | rfl <;> rfl) (Nat.le_of_ble_eq_true rfl) (Nat.le_of_ble_eq_true rfl) dL_law_0 (fun H Z0 sz o1 hS => ?_)
  refine lv_dup hx hb dL_law_3 rfl ?_
  refine rowN (va_runI (As := []) (rest := [.ref s.heap.size]) C.1 (kX3_init l G s.heap.size) (cwI 0 hts gL_law_X3_init rfl rfl rfl (hts _ (List.mem_of_getElem? (i := 2) rfl)) (hts _ (List.mem_of_getElem? (i := 6) rfl)) (hts _ (List.mem_of_getElem? (i := 7) rfl)) rfl (by decide +kernel) ⟨Nat.le_of_ble_eq_true rfl, Nat.le_of_ble_eq_true rfl⟩) ⟨preN2_blind, fun U hU hW => ⟨rfl, ⟨by rw [hU]; exact Z0, by rw [hU]; exact sz⟩, gK.moved hW.alike hK, hnw.warm hW⟩⟩ rfl rfl hl.1 rfl (lv_room (Nat.le_of_ble_eq_true rfl)) dL_law_4 ⟨Nat.le_of_ble_eq_true rfl, Nat.le_of_ble_eq_true rfl⟩) hS (fun q z => z) (fun H1 locs X sz f1 hS => ?_)
  refine lv_astore_n (lv' := [(1, .ref s.heap.size), (0, .ref b)]) hx hb dL_law_7 rfl hl (by decide) rfl (fun ls hl => ?_)
  refine newO (h := s.heap.size + 54) (ci := 4) (fs := [.int 0, .null, .null, .null, .int 0, .null, .int 0, .null, .int 0, .int 0, .int 0, .null, .int 0]) C inlX4 tyX4 tyX4_ok (hts _ (List.mem_of_getElem? (i := 3) rfl)) (hts _ (List.mem_of_getElem? (i := 4) rfl)) (hts _ (List.mem_of_getElem? (i := 5) rfl)) sz hS rfl (fun j hj => by rcases (show j = 0 ∨ j = 1 ∨ j = 2 ∨ j = 3 ∨ j = 4 ∨ j = 5 ∨ j = 6 ∨ j = 7 ∨ j = 8 ∨ j = 9 ∨ j = 10 ∨ j = 11 ∨ j = 12 by omega) with rfl | rfl | rfl | rfl | rfl | rfl | rfl | rfl | rfl | rfl | rfl | rfl | rfl <;> rfl) (Nat.le_of_ble_eq_true rfl) (Nat.le_of_ble_eq_true rfl) dL_law_8 (fun H2 Z0 sz2 o2 hS => ?_)
  refine lv_dup hx hb dL_law_11 rfl ?_
  refine rowN (va_runI (As := []) (rest := [.ref (s.heap.size + 54)]) C.1 (kX4_init l G (s.heap.size + 54)) (cwI 0 hts gL_law_X4_init rfl rfl rfl (hts _ (List.mem_of_getElem? (i := 5) rfl)) (hts _ (List.mem_of_getElem? (i := 60) rfl)) (hts _ (List.mem_of_getElem? (i := 61) rfl)) rfl (by decide +kernel) ⟨Nat.le_of_ble_eq_true rfl, Nat.le_of_ble_eq_true rfl⟩) ⟨preN_blind, fun U hU hW => ⟨rfl, ⟨by rw [hU]; exact Z0, by rw [hU]; exact sz2⟩, gK.moved hW.alike hK⟩⟩ rfl rfl hl.1 rfl (lv_room (Nat.le_of_ble_eq_true rfl)) dL_law_12 ⟨Nat.le_of_ble_eq_true rfl, Nat.le_of_ble_eq_true rfl⟩) hS (fun q z => by have z : s.heap.size + 54 ≤ q := z; show s.heap.size ≤ q; omega) (fun H3 locs Z sz3 f3 hS => ?_)
  have X : xAt G s.heap.size (x0 s.heap.size) H3 := X.keep (A := fun q => s.heap.size + 54 ≤ q) (fun q h1 h2 => (f3 q (by omega) h2).trans (o2 q (by omega))) (fun q h1 h2 => by omega)
  refine lv_astore_n (lv' := [(2, .ref (s.heap.size + 54)), (1, .ref s.heap.size), (0, .ref b)]) hx hb dL_law_15 rfl hl (by decide) rfl (fun ls hl => ?_)
  refine lv_iconst (v := nI 0) hx hb dL_law_16 (by decide) ?_
  refine lv_istore_n (lv' := [(3, .int (nI 0)), (2, .ref (s.heap.size + 54)), (1, .ref s.heap.size), (0, .ref b)]) hx hb dL_law_17 rfl hl (by decide) rfl (fun ls hl => ?_)
  refine W.widen (k := 61) (n := 2600) (by decide) (by decide) ?_
  exact law_loop hL C0 hK hst (L + 4) 0 (by omega) (Nat.zero_le L) _ m0 H3 locs ls (RX_start s.heap.size) X Z hS (lv_sub hl [3, 2, 1, 0] rfl)
