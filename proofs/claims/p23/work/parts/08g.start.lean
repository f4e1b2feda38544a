set_option maxHeartbeats 4000000 in
set_option maxRecDepth 100000 in
theorem start_stA {s : State} {b : Nat} (hgv : (Jvm.Cond.and given_1 narrow_1).before #[Value.ref b] s = true) (hts9 : ∀ w ∈ lw_tbl, w.before #[Value.ref b] s = true) : stA (fun q => s.heap.size ≤ q) s s.heap := by
  have hs := flat_of_before _ hgv
  have hA : ∀ a : Nat, a < s.heap.size → ¬ s.heap.size ≤ a := fun a h => Nat.not_le.mpr h
  have a1 : (Cond.arrayOf (.static "RopeSeals$House" "LEAST" "[I") .int).before #[Value.ref b] s = true := hs _ (by decide +kernel)
  have n1 := va_eqt (hs (Cond.eq (.length (.static "RopeSeals$House" "LEAST" "[I")) (.int 5)) (by decide +kernel))
  have v10 := va_eqt (hs (Cond.eq (.elem (.static "RopeSeals$House" "LEAST" "[I") (.int 0)) (.int 1)) (by decide +kernel))
  have v11 := va_eqt (hs (Cond.eq (.elem (.static "RopeSeals$House" "LEAST" "[I") (.int 1)) (.int 1)) (by decide +kernel))
  have v12 := va_eqt (hs (Cond.eq (.elem (.static "RopeSeals$House" "LEAST" "[I") (.int 2)) (.int 10)) (by decide +kernel))
  have v13 := va_eqt (hs (Cond.eq (.elem (.static "RopeSeals$House" "LEAST" "[I") (.int 3)) (.int 0)) (by decide +kernel))
  have v14 := va_eqt (hs (Cond.eq (.elem (.static "RopeSeals$House" "LEAST" "[I") (.int 4)) (.int 0)) (by decide +kernel))
  obtain ⟨t1, q1, T1⟩ := va_Tof (N := 5) (f := fun j => .int (tLEAST j)) (A := fun q => s.heap.size ≤ q) (by decide) a1 n1 (at5 v10 v11 v12 v13 v14) hA
  have a2 : (Cond.arrayOf (.static "RopeSeals$House" "GREATEST" "[I") .int).before #[Value.ref b] s = true := hs _ (by decide +kernel)
  have n2 := va_eqt (hs (Cond.eq (.length (.static "RopeSeals$House" "GREATEST" "[I")) (.int 5)) (by decide +kernel))
  have v20 := va_eqt (hs (Cond.eq (.elem (.static "RopeSeals$House" "GREATEST" "[I") (.int 0)) (.int 99)) (by decide +kernel))
  have v21 := va_eqt (hs (Cond.eq (.elem (.static "RopeSeals$House" "GREATEST" "[I") (.int 1)) (.int 99)) (by decide +kernel))
  have v22 := va_eqt (hs (Cond.eq (.elem (.static "RopeSeals$House" "GREATEST" "[I") (.int 2)) (.int 999)) (by decide +kernel))
  have v23 := va_eqt (hs (Cond.eq (.elem (.static "RopeSeals$House" "GREATEST" "[I") (.int 3)) (.int 99)) (by decide +kernel))
  have v24 := va_eqt (hs (Cond.eq (.elem (.static "RopeSeals$House" "GREATEST" "[I") (.int 4)) (.int 99)) (by decide +kernel))
  obtain ⟨t2, q2, T2⟩ := va_Tof (N := 5) (f := fun j => .int (tGREATEST j)) (A := fun q => s.heap.size ≤ q) (by decide) a2 n2 (at5 v20 v21 v22 v23 v24) hA
  exact ⟨t1, t2, va_Zref (hts9 _ (List.mem_of_getElem? (i := 386) rfl)) (hts9 _ (List.mem_of_getElem? (i := 25) rfl)) q1 hA, T1, va_Zref (hts9 _ (List.mem_of_getElem? (i := 388) rfl)) (hts9 _ (List.mem_of_getElem? (i := 25) rfl)) q2 hA, T2⟩
set_option maxHeartbeats 4000000 in
set_option maxRecDepth 100000 in
theorem start_gK {s : State} {b : Nat} (hts9 : ∀ w ∈ lw_tbl, w.before #[Value.ref b] s = true) : ∃ G : Gx, gK G s := by
  obtain ⟨c0, i0, k0⟩ := u_known (C := RX0) (T := TX0) (N := 2) (n := 2) hts9 inX0 (hts9 _ (List.mem_of_getElem? (i := 81) rfl))
  obtain ⟨c1, i1, k1⟩ := u_known (C := RX1) (T := TX1) (N := 11) (n := 11) hts9 inX1 (hts9 _ (List.mem_of_getElem? (i := 40) rfl))
  obtain ⟨c2, i2, k2⟩ := u_known (C := RX2) (T := TX2) (N := 7) (n := 7) hts9 inX2 (hts9 _ (List.mem_of_getElem? (i := 97) rfl))
  obtain ⟨c3, i3, k3⟩ := u_known (C := RX3) (T := TX3) (N := 6) (n := 6) hts9 inX3 (hts9 _ (List.mem_of_getElem? (i := 32) rfl))
  obtain ⟨cI, kI, pI, a1, a2, a3⟩ := Cond.arrayClass_spec (hts9 _ (List.mem_of_getElem? (i := 79) rfl))
  obtain ⟨cC, kC, pC, b1, b2, b3⟩ := Cond.arrayClass_spec (hts9 _ (List.mem_of_getElem? (i := 124) rfl))
  obtain ⟨comp, cO, kO, d1, -, d2, d3, d4⟩ := Cond.arrayOver_spec (hts9 _ (List.mem_of_getElem? (i := 87) rfl))
  refine ⟨((fun k => if k = 0 then c0 else if k = 1 then c1 else if k = 2 then c2 else c3, fun k => if k = 0 then i0 else if k = 1 then i1 else if k = 2 then i2 else i3), fun k => if k = 0 then cI else if k = 1 then cC else cO), fun k q hq => ?_, fun k q hq => ?_⟩
  · match k, hq with
    | 0, hq => cases hq; exact k0
    | 1, hq => cases hq; exact k1
    | 2, hq => cases hq; exact k2
    | 3, hq => cases hq; exact k3
    | k + 4, hq => simp [vwCl] at hq
  · match k, hq with
    | 0, hq => cases hq; exact ⟨fun n z => ⟨(fun k h => by cases h), kI, a2, pI, a3⟩, a1⟩
    | 1, hq => cases hq; exact ⟨fun n z => ⟨(fun k h => by cases h), kC, b2, pC, b3⟩, b1⟩
    | 2, hq => cases hq; exact ⟨fun n z => ⟨(fun k h => by cases h), kO, d2, comp, d3⟩, kO, comp, d2, d3, d1, d4⟩
    | k + 3, hq => simp at hq
set_option maxHeartbeats 4000000 in
set_option maxRecDepth 100000 in
/-- THE LAW, from its entry -/
theorem whole_start {p : Program} {e : Env} {s : State} {m : MethodId} {below : List Frame} {meth : Method} {c : Code} (l : Launch) (hflags : l.flags = flags0) {b L : Nat} {xs : Nat → Int32} (hL : L ≤ 260) (C0 : lw_At p s m meth c b L xs) : W p l e room_1 s m #[Value.ref b] below meth c s.heap [] 0 0 (lw_Z below #[Value.ref b] s) (entryFrame m ([Value.ref b] : List Value).toArray 12) := by
  obtain ⟨hx, hb, hr, hml, hown, hts9, hX, hbl, hlocks, hgv⟩ := id C0
  have hts : ∀ w ∈ wsL_law, w.before #[Value.ref b] s = true := fun w h => hts9 w (wsL_law_in w h)
  obtain ⟨G, hK⟩ := start_gK hts9
  have hst := start_stA hgv hts9
  have C : Cx p m c cL_law 12 s #[Value.ref b] wsL_law RL G := ⟨⟨hx, hb, hml, hown, hts⟩, hK⟩
  have hnw : nwS s := ⟨va_Nw.of rfl (hts9 _ (List.mem_of_getElem? (i := 88) rfl)), va_Nw.of rfl (hts9 _ (List.mem_of_getElem? (i := 41) rfl)), va_Nw.of rfl (hts9 _ (List.mem_of_getElem? (i := 98) rfl)), va_AO.of (hts9 _ (List.mem_of_getElem? (i := 87) rfl))⟩
  have hS : va_S (fun q : Nat => s.heap.size ≤ q) s.heap s.heap [] := va_S.rf
  have hl := lv_entry ([.ref b]) (n := 12) (Nat.le_of_ble_eq_true rfl)
  rw [lg_entry_eq]
  generalize (lg_sl ([.ref b]) ++ List.replicate (12 - (lg_sl ([.ref b])).length) Slot.unset).toArray = ls at hl ⊢
  have hl : lv_has ls 12 [(0, .ref b)] := hl
  refine newO (h := s.heap.size) (ci := 3) (fs := [.null, .null, .null, .int 0, .null, .null]) C inlX3 tyX3 tyX3_ok (hts _ (List.mem_of_getElem? (i := 0) rfl)) (hts _ (List.mem_of_getElem? (i := 1) rfl)) (hts _ (List.mem_of_getElem? (i := 2) rfl)) rfl hS rfl (fun j hj => by rcases (show j = 0 ∨ j = 1 ∨ j = 2 ∨ j = 3 ∨ j = 4 ∨ j = 5 by omega) with rfl | rfl | rfl | rfl | rfl | rfl <;> rfl) (Nat.le_of_ble_eq_true rfl) (Nat.le_of_ble_eq_true rfl) dL_law_0 (fun H Z0 sz o1 hS => ?_)
  refine lv_dup hx hb dL_law_3 rfl ?_
  refine rowN (va_runI (As := []) (rest := [.ref s.heap.size]) C.1 (kX3_init l G s.heap.size) (cwI 0 hts gL_law_X3_init rfl rfl rfl (hts _ (List.mem_of_getElem? (i := 2) rfl)) (hts _ (List.mem_of_getElem? (i := 3) rfl)) (hts _ (List.mem_of_getElem? (i := 4) rfl)) rfl (by decide +kernel) ⟨Nat.le_of_ble_eq_true rfl, Nat.le_of_ble_eq_true rfl⟩) ⟨preN2_blind, fun U hU hW => ⟨rfl, ⟨by rw [hU]; exact Z0, by rw [hU]; exact sz⟩, gK.moved hW.alike hK, hnw.warm hW⟩⟩ rfl rfl hl.1 rfl (lv_room (Nat.le_of_ble_eq_true rfl)) dL_law_4 ⟨Nat.le_of_ble_eq_true rfl, Nat.le_of_ble_eq_true rfl⟩) hS (fun q z => z) (fun H1 locs X sz f1 hS => ?_)
  refine lv_astore_n (lv' := [(1, .ref s.heap.size), (0, .ref b)]) hx hb dL_law_7 rfl hl (by decide) rfl (fun ls hl => ?_)
  refine W.widen (k := 54) (n := 1100) (by decide) (by decide) ?_
  exact law_rest hL C0 hK hst (x0 s.heap.size) H1 locs ls (law_ok xs L s.heap.size) X hS hl
