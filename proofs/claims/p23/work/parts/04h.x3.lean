theorem in_X3_recorded : ∀ w ∈ wsX30, w ∈ wsX3_recorded := by decide +kernel
def fX3_recorded (σ : XS) (p1 : Int32) : Option (Int32 × XS) := if p1 < 0 then (some (p1, σ)) else (some (p1, xY σ (addY (σ.2.2.2.2.1) (σ.2.2.1))))
set_option maxHeartbeats 4000000 in
set_option maxRecDepth 100000 in
theorem kX3_recorded (l : Launch) (G : Gx) (b : Nat) (σ : XS) (p1 : Int32) (r : Int32) (σ' : XS) (h : fX3_recorded σ p1 = some (r, σ')) : Met l yX3_recorded wsX3_recorded (rmN 3) (pre G [.ref b, .int p1] (xAt G b σ)) (QcW b (b + 54) (xAt G b σ') (some (.int r))) 0 0 (lw_Fr b (b + 54)) := by
  refine Met.ofW (cc := cX3_recorded) (maxL := 2) (ret := (some .int)) (by decide) rfl ?_
  intro p e s m args below meth c s₁ B hml hv
  obtain ⟨rfl, X, hK⟩ := hv
  have hx := B.exec
  have hb := B.bytes
  have hr := B.returns
  have hts := atoms_spec (ws := wsX3_recorded) B.pre
  have hown : s.vm.findClass RX3 = some m.cls := findClass_of_methodNamed B.named
  have hlocks := B.notSynchronized
  have C : Cx p m c cX3_recorded 2 s _ wsX3_recorded RX3 G := ⟨⟨hx, hb, hml, hown, hts⟩, hK⟩
  have hin : ∀ w ∈ wsX30, w ∈ wsX3_recorded := in_X3_recorded
  have hS : va_S (lw_Fr b (b + 54)) s.heap s.heap [] := va_S.rf
  have hl := lv_entry ([.ref b, .int p1]) (n := 2) (Nat.le_of_ble_eq_true rfl)
  rw [lg_entry_eq]
  generalize (lg_sl ([.ref b, .int p1]) ++ List.replicate (2 - (lg_sl ([.ref b, .int p1])).length) Slot.unset).toArray = ls at hl ⊢
  have hl : lv_has ls 2 [(0, .ref b), (1, .int p1)] := hl
  unfold fX3_recorded at h
  refine lv_iload_n hx hb dX3_recorded_0 rfl (lv_at hl 1 rfl) ?_
  refine lv_if_lt (tgt := 15) hx hb dX3_recorded_1 (by decide) (fun c1 => ?_) (fun c1 => ?_)
  · have h := ip h c1
    refine lv_iload_n hx hb dX3_recorded_15 rfl (lv_at hl 1 rfl) ?_
    obtain ⟨h, h9⟩ := pr h
    subst h
    subst h9
    exact W.iret hx hb hr (fun t ht _ => ⟨rfl, by rw [ht]; exact X, hS.F ht⟩) hS.2.2 dX3_recorded_16
  · have h := iq h c1
    refine lv_aload_n hx hb dX3_recorded_4 rfl (lv_at hl 0 rfl) ?_
    refine gt_X3_4 C hin X 1 rfl dX3_recorded_5 ?_
    refine lv_aload_n hx hb dX3_recorded_8 rfl (lv_at hl 0 rfl) ?_
    refine gt_X3_1 C hin X 2 rfl dX3_recorded_9 ?_
    refine rowA (As := [.ref (b + 8)]) (rest := []) C (kX0_add l G (b + 22) (b + 8) _ _ (by omega)) (cwV 1 hts gX3_recorded_X0_add rfl rfl rfl (by decide +kernel) ⟨Nat.le_of_ble_eq_true rfl, Nat.le_of_ble_eq_true rfl⟩) (rcv_X0 X.2.2.2.2.1.1 hK) ⟨X.2.2.2.2.1, X.2.2.1⟩ hS (fun q z => in_xY (by decide) z) rfl hl.1 rfl (Nat.le_of_ble_eq_true rfl) dX3_recorded_12 ⟨Nat.zero_le _, Nat.zero_le _⟩ (fun H locs X9 hS _ hf => ?_)
    have X := xAt.add X X9 hf
    show W p l e _ s m _ below meth c H locs 0 0 _ (F0 m 15 ls [])
    refine lv_iload_n hx hb dX3_recorded_15 rfl (lv_at hl 1 rfl) ?_
    obtain ⟨h, h9⟩ := pr h
    subst h
    subst h9
    exact W.iret hx hb hr (fun t ht _ => ⟨rfl, by rw [ht]; exact X, hS.F ht⟩) hS.2.2 dX3_recorded_16

theorem in_X3_come : ∀ w ∈ wsX30, w ∈ wsX3_come := by decide +kernel
def fX3_come (σ : XS) (p1 : Int32) (p2 : Int32) (p3 : Int32) : Option (Int32 × XS) := (fX1_admit ((xB σ (σ.2.1)).2.1) p1 p2 p3).bind (fun q1 => (fX3_recorded (xH (xB σ (σ.2.1)) q1.2) q1.1).bind (fun q2 => some (q2.1, q2.2)))
set_option maxHeartbeats 4000000 in
set_option maxRecDepth 100000 in
theorem kX3_come (l : Launch) (G : Gx) (b : Nat) (σ : XS) (p1 : Int32) (p2 : Int32) (p3 : Int32) (r : Int32) (σ' : XS) (h : fX3_come σ p1 p2 p3 = some (r, σ')) : Met l yX3_come wsX3_come (rmN 4) (pre G [.ref b, .int p1, .int p2, .int p3] (xAt G b σ)) (QcW b (b + 54) (xAt G b σ') (some (.int r))) 0 0 (lw_Fr b (b + 54)) := by
  refine Met.ofW (cc := cX3_come) (maxL := 4) (ret := (some .int)) (by decide) rfl ?_
  intro p e s m args below meth c s₁ B hml hv
  obtain ⟨rfl, X, hK⟩ := hv
  have hx := B.exec
  have hb := B.bytes
  have hr := B.returns
  have hts := atoms_spec (ws := wsX3_come) B.pre
  have hown : s.vm.findClass RX3 = some m.cls := findClass_of_methodNamed B.named
  have hlocks := B.notSynchronized
  have C : Cx p m c cX3_come 4 s _ wsX3_come RX3 G := ⟨⟨hx, hb, hml, hown, hts⟩, hK⟩
  have hin : ∀ w ∈ wsX30, w ∈ wsX3_come := in_X3_come
  have hS : va_S (lw_Fr b (b + 54)) s.heap s.heap [] := va_S.rf
  have hl := lv_entry ([.ref b, .int p1, .int p2, .int p3]) (n := 4) (Nat.le_of_ble_eq_true rfl)
  rw [lg_entry_eq]
  generalize (lg_sl ([.ref b, .int p1, .int p2, .int p3]) ++ List.replicate (4 - (lg_sl ([.ref b, .int p1, .int p2, .int p3])).length) Slot.unset).toArray = ls at hl ⊢
  have hl : lv_has ls 4 [(0, .ref b), (1, .int p1), (2, .int p2), (3, .int p3)] := hl
  unfold fX3_come at h
  refine lv_aload_n hx hb dX3_come_0 rfl (lv_at hl 0 rfl) ?_
  refine gt_X3_1 C hin X 1 rfl dX3_come_1 ?_
  refine lv_aload_n hx hb dX3_come_4 rfl (lv_at hl 0 rfl) ?_
  refine gt_X3_0 C hin X 2 rfl dX3_come_5 ?_
  refine rowA (As := [.ref (b + 1)]) (rest := []) C (kX1_copyFrom l G (b + 8) (b + 1) _ _ (by omega)) (cwV 1 hts gX3_come_X1_copyFrom rfl rfl rfl (by decide +kernel) ⟨Nat.le_of_ble_eq_true rfl, Nat.le_of_ble_eq_true rfl⟩) (rcv_X1 X.2.2.1 hK) ⟨X.2.2.1, X.2.1⟩ hS (fun q z => in_x2 (by decide) (by decide) z) rfl hl.1 rfl (Nat.le_of_ble_eq_true rfl) dX3_come_8 ⟨Nat.zero_le _, Nat.zero_le _⟩ (fun H locs X9 hS _ hf => ?_)
  have X := xAt.cpB X X9 hf
  show W p l e _ s m _ below meth c H locs 0 0 _ (F0 m 11 ls [])
  refine lv_aload_n hx hb dX3_come_11 rfl (lv_at hl 0 rfl) ?_
  refine lv_aload_n hx hb dX3_come_12 rfl (lv_at hl 0 rfl) ?_
  refine gt_X3_0 C hin X 2 rfl dX3_come_13 ?_
  refine lv_iload_n hx hb dX3_come_16 rfl (lv_at hl 1 rfl) ?_
  refine lv_iload_n hx hb dX3_come_17 rfl (lv_at hl 2 rfl) ?_
  refine lv_iload_n hx hb dX3_come_18 rfl (lv_at hl 3 rfl) ?_
  obtain ⟨q1, hq1, h⟩ := ob h
  refine rowW (As := [.int p1, .int p2, .int p3]) (rest := [.ref b]) C (kX1_admit l G (b + 1) ((xB σ (σ.2.1)).2.1) p1 p2 p3 q1.1 q1.2 hq1) (cwV 3 hts gX3_come_X1_admit rfl rfl rfl (by decide +kernel) ⟨Nat.le_of_ble_eq_true rfl, Nat.le_of_ble_eq_true rfl⟩) (rcv_X1 X.2.1 hK) X.2.1 hS (fun q z => in_x (by decide) z) rfl hl.1 rfl (Nat.le_of_ble_eq_true rfl) dX3_come_19 ⟨Nat.zero_le _, Nat.zero_le _⟩ (fun H locs X9 hS _ hf => ?_)
  have X := xAt.house X X9 hf
  show W p l e _ s m _ below meth c H locs 0 0 _ (F0 m 22 ls [.int q1.1, .ref b])
  obtain ⟨q2, hq2, h⟩ := ob h
  refine rowW (As := [.int q1.1]) (rest := []) C (kX3_recorded l G b (xH (xB σ (σ.2.1)) q1.2) q1.1 q2.1 q2.2 hq2) (cwV 1 hts gX3_come_X3_recorded rfl rfl rfl (by decide +kernel) ⟨Nat.le_of_ble_eq_true rfl, Nat.le_of_ble_eq_true rfl⟩) (rcv_X3 X hK) X hS (fun _ z => z) rfl hl.1 rfl (Nat.le_of_ble_eq_true rfl) dX3_come_22 ⟨Nat.zero_le _, Nat.zero_le _⟩ (fun H locs X hS _ _ => ?_)
  show W p l e _ s m _ below meth c H locs 0 0 _ (F0 m 25 ls [.int q2.1])
  obtain ⟨h, h9⟩ := pr h
  subst h
  subst h9
  exact W.iret hx hb hr (fun t ht _ => ⟨rfl, by rw [ht]; exact X, hS.F ht⟩) hS.2.2 dX3_come_25

theorem in_X3_alter : ∀ w ∈ wsX30, w ∈ wsX3_alter := by decide +kernel
def fX3_alter (σ : XS) (p1 : Int32) (p2 : Int32) : Option (Int32 × XS) := (fX1_changeClaim ((xB σ (σ.2.1)).2.1) p1 p2).bind (fun q1 => (fX3_recorded (xH (xB σ (σ.2.1)) q1.2) q1.1).bind (fun q2 => some (q2.1, q2.2)))
set_option maxHeartbeats 4000000 in
set_option maxRecDepth 100000 in
theorem kX3_alter (l : Launch) (G : Gx) (b : Nat) (σ : XS) (p1 : Int32) (p2 : Int32) (r : Int32) (σ' : XS) (h : fX3_alter σ p1 p2 = some (r, σ')) : Met l yX3_alter wsX3_alter (rmN 4) (pre G [.ref b, .int p1, .int p2] (xAt G b σ)) (QcW b (b + 54) (xAt G b σ') (some (.int r))) 0 0 (lw_Fr b (b + 54)) := by
  refine Met.ofW (cc := cX3_alter) (maxL := 3) (ret := (some .int)) (by decide) rfl ?_
  intro p e s m args below meth c s₁ B hml hv
  obtain ⟨rfl, X, hK⟩ := hv
  have hx := B.exec
  have hb := B.bytes
  have hr := B.returns
  have hts := atoms_spec (ws := wsX3_alter) B.pre
  have hown : s.vm.findClass RX3 = some m.cls := findClass_of_methodNamed B.named
  have hlocks := B.notSynchronized
  have C : Cx p m c cX3_alter 3 s _ wsX3_alter RX3 G := ⟨⟨hx, hb, hml, hown, hts⟩, hK⟩
  have hin : ∀ w ∈ wsX30, w ∈ wsX3_alter := in_X3_alter
  have hS : va_S (lw_Fr b (b + 54)) s.heap s.heap [] := va_S.rf
  have hl := lv_entry ([.ref b, .int p1, .int p2]) (n := 3) (Nat.le_of_ble_eq_true rfl)
  rw [lg_entry_eq]
  generalize (lg_sl ([.ref b, .int p1, .int p2]) ++ List.replicate (3 - (lg_sl ([.ref b, .int p1, .int p2])).length) Slot.unset).toArray = ls at hl ⊢
  have hl : lv_has ls 3 [(0, .ref b), (1, .int p1), (2, .int p2)] := hl
  unfold fX3_alter at h
  refine lv_aload_n hx hb dX3_alter_0 rfl (lv_at hl 0 rfl) ?_
  refine gt_X3_1 C hin X 1 rfl dX3_alter_1 ?_
  refine lv_aload_n hx hb dX3_alter_4 rfl (lv_at hl 0 rfl) ?_
  refine gt_X3_0 C hin X 2 rfl dX3_alter_5 ?_
  refine rowA (As := [.ref (b + 1)]) (rest := []) C (kX1_copyFrom l G (b + 8) (b + 1) _ _ (by omega)) (cwV 1 hts gX3_alter_X1_copyFrom rfl rfl rfl (by decide +kernel) ⟨Nat.le_of_ble_eq_true rfl, Nat.le_of_ble_eq_true rfl⟩) (rcv_X1 X.2.2.1 hK) ⟨X.2.2.1, X.2.1⟩ hS (fun q z => in_x2 (by decide) (by decide) z) rfl hl.1 rfl (Nat.le_of_ble_eq_true rfl) dX3_alter_8 ⟨Nat.zero_le _, Nat.zero_le _⟩ (fun H locs X9 hS _ hf => ?_)
  have X := xAt.cpB X X9 hf
  show W p l e _ s m _ below meth c H locs 0 0 _ (F0 m 11 ls [])
  refine lv_aload_n hx hb dX3_alter_11 rfl (lv_at hl 0 rfl) ?_
  refine lv_aload_n hx hb dX3_alter_12 rfl (lv_at hl 0 rfl) ?_
  refine gt_X3_0 C hin X 2 rfl dX3_alter_13 ?_
  refine lv_iload_n hx hb dX3_alter_16 rfl (lv_at hl 1 rfl) ?_
  refine lv_iload_n hx hb dX3_alter_17 rfl (lv_at hl 2 rfl) ?_
  obtain ⟨q1, hq1, h⟩ := ob h
  refine rowW (As := [.int p1, .int p2]) (rest := [.ref b]) C (kX1_changeClaim l G (b + 1) ((xB σ (σ.2.1)).2.1) p1 p2 q1.1 q1.2 hq1) (cwV 2 hts gX3_alter_X1_changeClaim rfl rfl rfl (by decide +kernel) ⟨Nat.le_of_ble_eq_true rfl, Nat.le_of_ble_eq_true rfl⟩) (rcv_X1 X.2.1 hK) X.2.1 hS (fun q z => in_x (by decide) z) rfl hl.1 rfl (Nat.le_of_ble_eq_true rfl) dX3_alter_18 ⟨Nat.zero_le _, Nat.zero_le _⟩ (fun H locs X9 hS _ hf => ?_)
  have X := xAt.house X X9 hf
  show W p l e _ s m _ below meth c H locs 0 0 _ (F0 m 21 ls [.int q1.1, .ref b])
  obtain ⟨q2, hq2, h⟩ := ob h
  refine rowW (As := [.int q1.1]) (rest := []) C (kX3_recorded l G b (xH (xB σ (σ.2.1)) q1.2) q1.1 q2.1 q2.2 hq2) (cwV 1 hts gX3_alter_X3_recorded rfl rfl rfl (by decide +kernel) ⟨Nat.le_of_ble_eq_true rfl, Nat.le_of_ble_eq_true rfl⟩) (rcv_X3 X hK) X hS (fun _ z => z) rfl hl.1 rfl (Nat.le_of_ble_eq_true rfl) dX3_alter_21 ⟨Nat.zero_le _, Nat.zero_le _⟩ (fun H locs X hS _ _ => ?_)
  show W p l e _ s m _ below meth c H locs 0 0 _ (F0 m 24 ls [.int q2.1])
  obtain ⟨h, h9⟩ := pr h
  subst h
  subst h9
  exact W.iret hx hb hr (fun t ht _ => ⟨rfl, by rw [ht]; exact X, hS.F ht⟩) hS.2.2 dX3_alter_24

theorem in_X3_reseal : ∀ w ∈ wsX30, w ∈ wsX3_reseal := by decide +kernel
def fX3_reseal (σ : XS) (p1 : Int32) : Option (Int32 × XS) := (fX1_mendSeal ((xB σ (σ.2.1)).2.1) p1).bind (fun q1 => (fX3_recorded (xH (xB σ (σ.2.1)) q1.2) q1.1).bind (fun q2 => some (q2.1, q2.2)))
set_option maxHeartbeats 4000000 in
set_option maxRecDepth 100000 in
theorem kX3_reseal (l : Launch) (G : Gx) (b : Nat) (σ : XS) (p1 : Int32) (r : Int32) (σ' : XS) (h : fX3_reseal σ p1 = some (r, σ')) : Met l yX3_reseal wsX3_reseal (rmN 4) (pre G [.ref b, .int p1] (xAt G b σ)) (QcW b (b + 54) (xAt G b σ') (some (.int r))) 0 0 (lw_Fr b (b + 54)) := by
  refine Met.ofW (cc := cX3_reseal) (maxL := 2) (ret := (some .int)) (by decide) rfl ?_
  intro p e s m args below meth c s₁ B hml hv
  obtain ⟨rfl, X, hK⟩ := hv
  have hx := B.exec
  have hb := B.bytes
  have hr := B.returns
  have hts := atoms_spec (ws := wsX3_reseal) B.pre
  have hown : s.vm.findClass RX3 = some m.cls := findClass_of_methodNamed B.named
  have hlocks := B.notSynchronized
  have C : Cx p m c cX3_reseal 2 s _ wsX3_reseal RX3 G := ⟨⟨hx, hb, hml, hown, hts⟩, hK⟩
  have hin : ∀ w ∈ wsX30, w ∈ wsX3_reseal := in_X3_reseal
  have hS : va_S (lw_Fr b (b + 54)) s.heap s.heap [] := va_S.rf
  have hl := lv_entry ([.ref b, .int p1]) (n := 2) (Nat.le_of_ble_eq_true rfl)
  rw [lg_entry_eq]
  generalize (lg_sl ([.ref b, .int p1]) ++ List.replicate (2 - (lg_sl ([.ref b, .int p1])).length) Slot.unset).toArray = ls at hl ⊢
  have hl : lv_has ls 2 [(0, .ref b), (1, .int p1)] := hl
  unfold fX3_reseal at h
  refine lv_aload_n hx hb dX3_reseal_0 rfl (lv_at hl 0 rfl) ?_
  refine gt_X3_1 C hin X 1 rfl dX3_reseal_1 ?_
  refine lv_aload_n hx hb dX3_reseal_4 rfl (lv_at hl 0 rfl) ?_
  refine gt_X3_0 C hin X 2 rfl dX3_reseal_5 ?_
  refine rowA (As := [.ref (b + 1)]) (rest := []) C (kX1_copyFrom l G (b + 8) (b + 1) _ _ (by omega)) (cwV 1 hts gX3_reseal_X1_copyFrom rfl rfl rfl (by decide +kernel) ⟨Nat.le_of_ble_eq_true rfl, Nat.le_of_ble_eq_true rfl⟩) (rcv_X1 X.2.2.1 hK) ⟨X.2.2.1, X.2.1⟩ hS (fun q z => in_x2 (by decide) (by decide) z) rfl hl.1 rfl (Nat.le_of_ble_eq_true rfl) dX3_reseal_8 ⟨Nat.zero_le _, Nat.zero_le _⟩ (fun H locs X9 hS _ hf => ?_)
  have X := xAt.cpB X X9 hf
  show W p l e _ s m _ below meth c H locs 0 0 _ (F0 m 11 ls [])
  refine lv_aload_n hx hb dX3_reseal_11 rfl (lv_at hl 0 rfl) ?_
  refine lv_aload_n hx hb dX3_reseal_12 rfl (lv_at hl 0 rfl) ?_
  refine gt_X3_0 C hin X 2 rfl dX3_reseal_13 ?_
  refine lv_iload_n hx hb dX3_reseal_16 rfl (lv_at hl 1 rfl) ?_
  obtain ⟨q1, hq1, h⟩ := ob h
  refine rowW (As := [.int p1]) (rest := [.ref b]) C (kX1_mendSeal l G (b + 1) ((xB σ (σ.2.1)).2.1) p1 q1.1 q1.2 hq1) (cwV 1 hts gX3_reseal_X1_mendSeal rfl rfl rfl (by decide +kernel) ⟨Nat.le_of_ble_eq_true rfl, Nat.le_of_ble_eq_true rfl⟩) (rcv_X1 X.2.1 hK) X.2.1 hS (fun q z => in_x (by decide) z) rfl hl.1 rfl (Nat.le_of_ble_eq_true rfl) dX3_reseal_17 ⟨Nat.zero_le _, Nat.zero_le _⟩ (fun H locs X9 hS _ hf => ?_)
  have X := xAt.house X X9 hf
  show W p l e _ s m _ below meth c H locs 0 0 _ (F0 m 20 ls [.int q1.1, .ref b])
  obtain ⟨q2, hq2, h⟩ := ob h
  refine rowW (As := [.int q1.1]) (rest := []) C (kX3_recorded l G b (xH (xB σ (σ.2.1)) q1.2) q1.1 q2.1 q2.2 hq2) (cwV 1 hts gX3_reseal_X3_recorded rfl rfl rfl (by decide +kernel) ⟨Nat.le_of_ble_eq_true rfl, Nat.le_of_ble_eq_true rfl⟩) (rcv_X3 X hK) X hS (fun _ z => z) rfl hl.1 rfl (Nat.le_of_ble_eq_true rfl) dX3_reseal_20 ⟨Nat.zero_le _, Nat.zero_le _⟩ (fun H locs X hS _ _ => ?_)
  show W p l e _ s m _ below meth c H locs 0 0 _ (F0 m 23 ls [.int q2.1])
  obtain ⟨h, h9⟩ := pr h
  subst h
  subst h9
  exact W.iret hx hb hr (fun t ht _ => ⟨rfl, by rw [ht]; exact X, hS.F ht⟩) hS.2.2 dX3_reseal_23

theorem in_X3_open : ∀ w ∈ wsX30, w ∈ wsX3_open := by decide +kernel
def fX3_open (σ : XS) (p1 : Int32) : Option (Int32 × XS) := (fX1_inspect ((xB σ (σ.2.1)).2.1) p1).bind (fun q1 => (fX3_recorded (xH (xB σ (σ.2.1)) q1.2) q1.1).bind (fun q2 => some (q2.1, q2.2)))
set_option maxHeartbeats 4000000 in
set_option maxRecDepth 100000 in
theorem kX3_open (l : Launch) (G : Gx) (b : Nat) (σ : XS) (p1 : Int32) (r : Int32) (σ' : XS) (h : fX3_open σ p1 = some (r, σ')) : Met l yX3_open wsX3_open (rmN 5) (pre G [.ref b, .int p1] (xAt G b σ)) (QcW b (b + 54) (xAt G b σ') (some (.int r))) 0 0 (lw_Fr b (b + 54)) := by
  refine Met.ofW (cc := cX3_open) (maxL := 2) (ret := (some .int)) (by decide) rfl ?_
  intro p e s m args below meth c s₁ B hml hv
  obtain ⟨rfl, X, hK⟩ := hv
  have hx := B.exec
  have hb := B.bytes
  have hr := B.returns
  have hts := atoms_spec (ws := wsX3_open) B.pre
  have hown : s.vm.findClass RX3 = some m.cls := findClass_of_methodNamed B.named
  have hlocks := B.notSynchronized
  have C : Cx p m c cX3_open 2 s _ wsX3_open RX3 G := ⟨⟨hx, hb, hml, hown, hts⟩, hK⟩
  have hin : ∀ w ∈ wsX30, w ∈ wsX3_open := in_X3_open
  have hS : va_S (lw_Fr b (b + 54)) s.heap s.heap [] := va_S.rf
  have hl := lv_entry ([.ref b, .int p1]) (n := 2) (Nat.le_of_ble_eq_true rfl)
  rw [lg_entry_eq]
  generalize (lg_sl ([.ref b, .int p1]) ++ List.replicate (2 - (lg_sl ([.ref b, .int p1])).length) Slot.unset).toArray = ls at hl ⊢
  have hl : lv_has ls 2 [(0, .ref b), (1, .int p1)] := hl
  unfold fX3_open at h
  refine lv_aload_n hx hb dX3_open_0 rfl (lv_at hl 0 rfl) ?_
  refine gt_X3_1 C hin X 1 rfl dX3_open_1 ?_
  refine lv_aload_n hx hb dX3_open_4 rfl (lv_at hl 0 rfl) ?_
  refine gt_X3_0 C hin X 2 rfl dX3_open_5 ?_
  refine rowA (As := [.ref (b + 1)]) (rest := []) C (kX1_copyFrom l G (b + 8) (b + 1) _ _ (by omega)) (cwV 1 hts gX3_open_X1_copyFrom rfl rfl rfl (by decide +kernel) ⟨Nat.le_of_ble_eq_true rfl, Nat.le_of_ble_eq_true rfl⟩) (rcv_X1 X.2.2.1 hK) ⟨X.2.2.1, X.2.1⟩ hS (fun q z => in_x2 (by decide) (by decide) z) rfl hl.1 rfl (Nat.le_of_ble_eq_true rfl) dX3_open_8 ⟨Nat.zero_le _, Nat.zero_le _⟩ (fun H locs X9 hS _ hf => ?_)
  have X := xAt.cpB X X9 hf
  show W p l e _ s m _ below meth c H locs 0 0 _ (F0 m 11 ls [])
  refine lv_aload_n hx hb dX3_open_11 rfl (lv_at hl 0 rfl) ?_
  refine lv_aload_n hx hb dX3_open_12 rfl (lv_at hl 0 rfl) ?_
  refine gt_X3_0 C hin X 2 rfl dX3_open_13 ?_
  refine lv_iload_n hx hb dX3_open_16 rfl (lv_at hl 1 rfl) ?_
  obtain ⟨q1, hq1, h⟩ := ob h
  refine rowW (As := [.int p1]) (rest := [.ref b]) C (kX1_inspect l G (b + 1) ((xB σ (σ.2.1)).2.1) p1 q1.1 q1.2 hq1) (cwV 1 hts gX3_open_X1_inspect rfl rfl rfl (by decide +kernel) ⟨Nat.le_of_ble_eq_true rfl, Nat.le_of_ble_eq_true rfl⟩) (rcv_X1 X.2.1 hK) X.2.1 hS (fun q z => in_x (by decide) z) rfl hl.1 rfl (Nat.le_of_ble_eq_true rfl) dX3_open_17 ⟨Nat.zero_le _, Nat.zero_le _⟩ (fun H locs X9 hS _ hf => ?_)
  have X := xAt.house X X9 hf
  show W p l e _ s m _ below meth c H locs 0 0 _ (F0 m 20 ls [.int q1.1, .ref b])
  obtain ⟨q2, hq2, h⟩ := ob h
  refine rowW (As := [.int q1.1]) (rest := []) C (kX3_recorded l G b (xH (xB σ (σ.2.1)) q1.2) q1.1 q2.1 q2.2 hq2) (cwV 1 hts gX3_open_X3_recorded rfl rfl rfl (by decide +kernel) ⟨Nat.le_of_ble_eq_true rfl, Nat.le_of_ble_eq_true rfl⟩) (rcv_X3 X hK) X hS (fun _ z => z) rfl hl.1 rfl (Nat.le_of_ble_eq_true rfl) dX3_open_20 ⟨Nat.zero_le _, Nat.zero_le _⟩ (fun H locs X hS _ _ => ?_)
  show W p l e _ s m _ below meth c H locs 0 0 _ (F0 m 23 ls [.int q2.1])
  obtain ⟨h, h9⟩ := pr h
  subst h
  subst h9
  exact W.iret hx hb hr (fun t ht _ => ⟨rfl, by rw [ht]; exact X, hS.F ht⟩) hS.2.2 dX3_open_23

theorem in_X3_openAll : ∀ w ∈ wsX30, w ∈ wsX3_openAll := by decide +kernel
def fX3_openAll (σ : XS) : Option (Int32 × XS) := (fX1_inspectAll ((xB σ (σ.2.1)).2.1)).bind (fun q1 => (fX3_recorded (xH (xB σ (σ.2.1)) q1.2) q1.1).bind (fun q2 => some (q2.1, q2.2)))
set_option maxHeartbeats 4000000 in
set_option maxRecDepth 100000 in
theorem kX3_openAll (l : Launch) (G : Gx) (b : Nat) (σ : XS) (r : Int32) (σ' : XS) (h : fX3_openAll σ = some (r, σ')) : Met l yX3_openAll wsX3_openAll (rmN 6) (pre G [.ref b] (xAt G b σ)) (QcW b (b + 54) (xAt G b σ') (some (.int r))) 0 0 (lw_Fr b (b + 54)) := by
  refine Met.ofW (cc := cX3_openAll) (maxL := 1) (ret := (some .int)) (by decide) rfl ?_
  intro p e s m args below meth c s₁ B hml hv
  obtain ⟨rfl, X, hK⟩ := hv
  have hx := B.exec
  have hb := B.bytes
  have hr := B.returns
  have hts := atoms_spec (ws := wsX3_openAll) B.pre
  have hown : s.vm.findClass RX3 = some m.cls := findClass_of_methodNamed B.named
  have hlocks := B.notSynchronized
  have C : Cx p m c cX3_openAll 1 s _ wsX3_openAll RX3 G := ⟨⟨hx, hb, hml, hown, hts⟩, hK⟩
  have hin : ∀ w ∈ wsX30, w ∈ wsX3_openAll := in_X3_openAll
  have hS : va_S (lw_Fr b (b + 54)) s.heap s.heap [] := va_S.rf
  have hl := lv_entry ([.ref b]) (n := 1) (Nat.le_of_ble_eq_true rfl)
  rw [lg_entry_eq]
  generalize (lg_sl ([.ref b]) ++ List.replicate (1 - (lg_sl ([.ref b])).length) Slot.unset).toArray = ls at hl ⊢
  have hl : lv_has ls 1 [(0, .ref b)] := hl
  unfold fX3_openAll at h
  refine lv_aload_n hx hb dX3_openAll_0 rfl (lv_at hl 0 rfl) ?_
  refine gt_X3_1 C hin X 1 rfl dX3_openAll_1 ?_
  refine lv_aload_n hx hb dX3_openAll_4 rfl (lv_at hl 0 rfl) ?_
  refine gt_X3_0 C hin X 2 rfl dX3_openAll_5 ?_
  refine rowA (As := [.ref (b + 1)]) (rest := []) C (kX1_copyFrom l G (b + 8) (b + 1) _ _ (by omega)) (cwV 1 hts gX3_openAll_X1_copyFrom rfl rfl rfl (by decide +kernel) ⟨Nat.le_of_ble_eq_true rfl, Nat.le_of_ble_eq_true rfl⟩) (rcv_X1 X.2.2.1 hK) ⟨X.2.2.1, X.2.1⟩ hS (fun q z => in_x2 (by decide) (by decide) z) rfl hl.1 rfl (Nat.le_of_ble_eq_true rfl) dX3_openAll_8 ⟨Nat.zero_le _, Nat.zero_le _⟩ (fun H locs X9 hS _ hf => ?_)
  have X := xAt.cpB X X9 hf
  show W p l e _ s m _ below meth c H locs 0 0 _ (F0 m 11 ls [])
  refine lv_aload_n hx hb dX3_openAll_11 rfl (lv_at hl 0 rfl) ?_
  refine lv_aload_n hx hb dX3_openAll_12 rfl (lv_at hl 0 rfl) ?_
  refine gt_X3_0 C hin X 2 rfl dX3_openAll_13 ?_
  obtain ⟨q1, hq1, h⟩ := ob h
  refine rowW (As := []) (rest := [.ref b]) C (kX1_inspectAll l G (b + 1) ((xB σ (σ.2.1)).2.1) q1.1 q1.2 hq1) (cwV 0 hts gX3_openAll_X1_inspectAll rfl rfl rfl (by decide +kernel) ⟨Nat.le_of_ble_eq_true rfl, Nat.le_of_ble_eq_true rfl⟩) (rcv_X1 X.2.1 hK) X.2.1 hS (fun q z => in_x (by decide) z) rfl hl.1 rfl (Nat.le_of_ble_eq_true rfl) dX3_openAll_16 ⟨Nat.zero_le _, Nat.zero_le _⟩ (fun H locs X9 hS _ hf => ?_)
  have X := xAt.house X X9 hf
  show W p l e _ s m _ below meth c H locs 0 0 _ (F0 m 19 ls [.int q1.1, .ref b])
  obtain ⟨q2, hq2, h⟩ := ob h
  refine rowW (As := [.int q1.1]) (rest := []) C (kX3_recorded l G b (xH (xB σ (σ.2.1)) q1.2) q1.1 q2.1 q2.2 hq2) (cwV 1 hts gX3_openAll_X3_recorded rfl rfl rfl (by decide +kernel) ⟨Nat.le_of_ble_eq_true rfl, Nat.le_of_ble_eq_true rfl⟩) (rcv_X3 X hK) X hS (fun _ z => z) rfl hl.1 rfl (Nat.le_of_ble_eq_true rfl) dX3_openAll_19 ⟨Nat.zero_le _, Nat.zero_le _⟩ (fun H locs X hS _ _ => ?_)
  show W p l e _ s m _ below meth c H locs 0 0 _ (F0 m 22 ls [.int q2.1])
  obtain ⟨h, h9⟩ := pr h
  subst h
  subst h9
  exact W.iret hx hb hr (fun t ht _ => ⟨rfl, by rw [ht]; exact X, hS.F ht⟩) hS.2.2 dX3_openAll_22

theorem in_X3_set : ∀ w ∈ wsX30, w ∈ wsX3_set := by decide +kernel
def fX3_set (σ : XS) (p1 : Int32) (p2 : Int32) : Option (Int32 × XS) := (fX1_changeSetting ((xB σ (σ.2.1)).2.1) p1 p2).bind (fun q1 => (fX3_recorded (xH (xB σ (σ.2.1)) q1.2) q1.1).bind (fun q2 => some (q2.1, q2.2)))
set_option maxHeartbeats 4000000 in
set_option maxRecDepth 100000 in
theorem kX3_set (l : Launch) (G : Gx) (A0 : Nat → Prop) (b : Nat) (σ : XS) (p1 : Int32) (p2 : Int32) (r : Int32) (σ' : XS) (hA0 : ∀ q, lw_Fr b (b + 54) q → A0 q) (h : fX3_set σ p1 p2 = some (r, σ')) : Met l yX3_set wsX3_set (rmN 4) (preS G [.ref b, .int p1, .int p2] (xAt G b σ) A0) (QcW b (b + 54) (xAt G b σ') (some (.int r))) 0 0 (lw_Fr b (b + 54)) := by
  refine Met.ofW (cc := cX3_set) (maxL := 3) (ret := (some .int)) (by decide) rfl ?_
  intro p e s m args below meth c s₁ B hml hv
  obtain ⟨rfl, X, hK, hst⟩ := hv
  have hx := B.exec
  have hb := B.bytes
  have hr := B.returns
  have hts := atoms_spec (ws := wsX3_set) B.pre
  have hown : s.vm.findClass RX3 = some m.cls := findClass_of_methodNamed B.named
  have hlocks := B.notSynchronized
  have C : Cx p m c cX3_set 3 s _ wsX3_set RX3 G := ⟨⟨hx, hb, hml, hown, hts⟩, hK⟩
  have hin : ∀ w ∈ wsX30, w ∈ wsX3_set := in_X3_set
  have hS : va_S (lw_Fr b (b + 54)) s.heap s.heap [] := va_S.rf
  have hl := lv_entry ([.ref b, .int p1, .int p2]) (n := 3) (Nat.le_of_ble_eq_true rfl)
  rw [lg_entry_eq]
  generalize (lg_sl ([.ref b, .int p1, .int p2]) ++ List.replicate (3 - (lg_sl ([.ref b, .int p1, .int p2])).length) Slot.unset).toArray = ls at hl ⊢
  have hl : lv_has ls 3 [(0, .ref b), (1, .int p1), (2, .int p2)] := hl
  unfold fX3_set at h
  refine lv_aload_n hx hb dX3_set_0 rfl (lv_at hl 0 rfl) ?_
  refine gt_X3_1 C hin X 1 rfl dX3_set_1 ?_
  refine lv_aload_n hx hb dX3_set_4 rfl (lv_at hl 0 rfl) ?_
  refine gt_X3_0 C hin X 2 rfl dX3_set_5 ?_
  refine rowA (As := [.ref (b + 1)]) (rest := []) C (kX1_copyFrom l G (b + 8) (b + 1) _ _ (by omega)) (cwV 1 hts gX3_set_X1_copyFrom rfl rfl rfl (by decide +kernel) ⟨Nat.le_of_ble_eq_true rfl, Nat.le_of_ble_eq_true rfl⟩) (rcv_X1 X.2.2.1 hK) ⟨X.2.2.1, X.2.1⟩ hS (fun q z => in_x2 (by decide) (by decide) z) rfl hl.1 rfl (Nat.le_of_ble_eq_true rfl) dX3_set_8 ⟨Nat.zero_le _, Nat.zero_le _⟩ (fun H locs X9 hS _ hf => ?_)
  have X := xAt.cpB X X9 hf
  show W p l e _ s m _ below meth c H locs 0 0 _ (F0 m 11 ls [])
  refine lv_aload_n hx hb dX3_set_11 rfl (lv_at hl 0 rfl) ?_
  refine lv_aload_n hx hb dX3_set_12 rfl (lv_at hl 0 rfl) ?_
  refine gt_X3_0 C hin X 2 rfl dX3_set_13 ?_
  refine lv_iload_n hx hb dX3_set_16 rfl (lv_at hl 1 rfl) ?_
  refine lv_iload_n hx hb dX3_set_17 rfl (lv_at hl 2 rfl) ?_
  obtain ⟨q1, hq1, h⟩ := ob h
  refine rowWs (As := [.int p1, .int p2]) (rest := [.ref b]) C (kX1_changeSetting l G A0 (b + 1) ((xB σ (σ.2.1)).2.1) p1 p2 q1.1 q1.2 (fun q z => hA0 q (in_x (i := 1) (n := 7) (by decide) z)) hq1) (cwV 2 hts gX3_set_X1_changeSetting rfl rfl rfl (by decide +kernel) ⟨Nat.le_of_ble_eq_true rfl, Nat.le_of_ble_eq_true rfl⟩) (rcv_X1 X.2.1 hK) X.2.1 (hst.kept (fun q h1 h2 => hS.2.1 q h1 (fun z => h2 (hA0 q z)))) hS (fun q z => in_x (by decide) z) rfl hl.1 rfl (Nat.le_of_ble_eq_true rfl) dX3_set_18 ⟨Nat.zero_le _, Nat.zero_le _⟩ (fun H locs X9 hS _ hf => ?_)
  have X := xAt.house X X9 hf
  show W p l e _ s m _ below meth c H locs 0 0 _ (F0 m 21 ls [.int q1.1, .ref b])
  obtain ⟨q2, hq2, h⟩ := ob h
  refine rowW (As := [.int q1.1]) (rest := []) C (kX3_recorded l G b (xH (xB σ (σ.2.1)) q1.2) q1.1 q2.1 q2.2 hq2) (cwV 1 hts gX3_set_X3_recorded rfl rfl rfl (by decide +kernel) ⟨Nat.le_of_ble_eq_true rfl, Nat.le_of_ble_eq_true rfl⟩) (rcv_X3 X hK) X hS (fun _ z => z) rfl hl.1 rfl (Nat.le_of_ble_eq_true rfl) dX3_set_21 ⟨Nat.zero_le _, Nat.zero_le _⟩ (fun H locs X hS _ _ => ?_)
  show W p l e _ s m _ below meth c H locs 0 0 _ (F0 m 24 ls [.int q2.1])
  obtain ⟨h, h9⟩ := pr h
  subst h
  subst h9
  exact W.iret hx hb hr (fun t ht _ => ⟨rfl, by rw [ht]; exact X, hS.F ht⟩) hS.2.2 dX3_set_24

theorem in_X3_undo : ∀ w ∈ wsX30, w ∈ wsX3_undo := by decide +kernel
def fX3_undo (σ : XS) : Option (Int32 × XS) := some ((takeY (σ.2.2.2.2.1) (σ.2.1)).1, xH (xY σ (takeY (σ.2.2.2.2.1) (σ.2.1)).2.1) (takeY (σ.2.2.2.2.1) (σ.2.1)).2.2)
set_option maxHeartbeats 4000000 in
set_option maxRecDepth 100000 in
theorem kX3_undo (l : Launch) (G : Gx) (b : Nat) (σ : XS) (r : Int32) (σ' : XS) (h : fX3_undo σ = some (r, σ')) : Met l yX3_undo wsX3_undo (rmN 3) (pre G [.ref b] (xAt G b σ)) (QcW b (b + 54) (xAt G b σ') (some (.int r))) 0 0 (lw_Fr b (b + 54)) := by
  refine Met.ofW (cc := cX3_undo) (maxL := 1) (ret := (some .int)) (by decide) rfl ?_
  intro p e s m args below meth c s₁ B hml hv
  obtain ⟨rfl, X, hK⟩ := hv
  have hx := B.exec
  have hb := B.bytes
  have hr := B.returns
  have hts := atoms_spec (ws := wsX3_undo) B.pre
  have hown : s.vm.findClass RX3 = some m.cls := findClass_of_methodNamed B.named
  have hlocks := B.notSynchronized
  have C : Cx p m c cX3_undo 1 s _ wsX3_undo RX3 G := ⟨⟨hx, hb, hml, hown, hts⟩, hK⟩
  have hin : ∀ w ∈ wsX30, w ∈ wsX3_undo := in_X3_undo
  have hS : va_S (lw_Fr b (b + 54)) s.heap s.heap [] := va_S.rf
  have hl := lv_entry ([.ref b]) (n := 1) (Nat.le_of_ble_eq_true rfl)
  rw [lg_entry_eq]
  generalize (lg_sl ([.ref b]) ++ List.replicate (1 - (lg_sl ([.ref b])).length) Slot.unset).toArray = ls at hl ⊢
  have hl : lv_has ls 1 [(0, .ref b)] := hl
  unfold fX3_undo at h
  refine lv_aload_n hx hb dX3_undo_0 rfl (lv_at hl 0 rfl) ?_
  refine gt_X3_4 C hin X 1 rfl dX3_undo_1 ?_
  refine lv_aload_n hx hb dX3_undo_4 rfl (lv_at hl 0 rfl) ?_
  refine gt_X3_0 C hin X 2 rfl dX3_undo_5 ?_
  refine rowA (As := [.ref (b + 1)]) (rest := []) C (kX0_takeLatest l G (b + 22) (b + 1) _ _ (by omega)) (cwV 1 hts gX3_undo_X0_takeLatest rfl rfl rfl (by decide +kernel) ⟨Nat.le_of_ble_eq_true rfl, Nat.le_of_ble_eq_true rfl⟩) (rcv_X0 X.2.2.2.2.1.1 hK) ⟨X.2.2.2.2.1, X.2.1⟩ hS (fun q z => in_xY (by decide) z) rfl hl.1 rfl (Nat.le_of_ble_eq_true rfl) dX3_undo_8 ⟨Nat.zero_le _, Nat.zero_le _⟩ (fun H locs X9 hS _ hf => ?_)
  have X := xAt.take X X9 hf
  show W p l e _ s m _ below meth c H locs 0 0 _ (F0 m 11 ls [.int ((takeY (σ.2.2.2.2.1) (σ.2.1)).1)])
  obtain ⟨h, h9⟩ := pr h
  subst h
  subst h9
  exact W.iret hx hb hr (fun t ht _ => ⟨rfl, by rw [ht]; exact X, hS.F ht⟩) hS.2.2 dX3_undo_11

theorem in_X3_keep : ∀ w ∈ wsX30, w ∈ wsX3_keep := by decide +kernel
def fX3_keep (σ : XS) : Option (Int32 × XS) := (fX1_carts ((xF (xS σ (σ.2.1)) 1).2.1)).bind (fun q1 => some (q1, xF (xS σ (σ.2.1)) 1))
set_option maxHeartbeats 4000000 in
set_option maxRecDepth 100000 in
theorem kX3_keep (l : Launch) (G : Gx) (b : Nat) (σ : XS) (r : Int32) (σ' : XS) (h : fX3_keep σ = some (r, σ')) : Met l yX3_keep wsX3_keep (rmN 2) (pre G [.ref b] (xAt G b σ)) (QcW b (b + 54) (xAt G b σ') (some (.int r))) 0 0 (lw_Fr b (b + 54)) := by
  refine Met.ofW (cc := cX3_keep) (maxL := 1) (ret := (some .int)) (by decide) rfl ?_
  intro p e s m args below meth c s₁ B hml hv
  obtain ⟨rfl, X, hK⟩ := hv
  have hx := B.exec
  have hb := B.bytes
  have hr := B.returns
  have hts := atoms_spec (ws := wsX3_keep) B.pre
  have hown : s.vm.findClass RX3 = some m.cls := findClass_of_methodNamed B.named
  have hlocks := B.notSynchronized
  have C : Cx p m c cX3_keep 1 s _ wsX3_keep RX3 G := ⟨⟨hx, hb, hml, hown, hts⟩, hK⟩
  have hin : ∀ w ∈ wsX30, w ∈ wsX3_keep := in_X3_keep
  have hS : va_S (lw_Fr b (b + 54)) s.heap s.heap [] := va_S.rf
  have hl := lv_entry ([.ref b]) (n := 1) (Nat.le_of_ble_eq_true rfl)
  rw [lg_entry_eq]
  generalize (lg_sl ([.ref b]) ++ List.replicate (1 - (lg_sl ([.ref b])).length) Slot.unset).toArray = ls at hl ⊢
  have hl : lv_has ls 1 [(0, .ref b)] := hl
  unfold fX3_keep at h
  refine lv_aload_n hx hb dX3_keep_0 rfl (lv_at hl 0 rfl) ?_
  refine gt_X3_2 C hin X 1 rfl dX3_keep_1 ?_
  refine lv_aload_n hx hb dX3_keep_4 rfl (lv_at hl 0 rfl) ?_
  refine gt_X3_0 C hin X 2 rfl dX3_keep_5 ?_
  refine rowA (As := [.ref (b + 1)]) (rest := []) C (kX1_copyFrom l G (b + 15) (b + 1) _ _ (by omega)) (cwV 1 hts gX3_keep_X1_copyFrom rfl rfl rfl (by decide +kernel) ⟨Nat.le_of_ble_eq_true rfl, Nat.le_of_ble_eq_true rfl⟩) (rcv_X1 X.2.2.2.1 hK) ⟨X.2.2.2.1, X.2.1⟩ hS (fun q z => in_x2 (by decide) (by decide) z) rfl hl.1 rfl (Nat.le_of_ble_eq_true rfl) dX3_keep_8 ⟨Nat.zero_le _, Nat.zero_le _⟩ (fun H locs X9 hS _ hf => ?_)
  have X := xAt.cpS X X9 hf
  show W p l e _ s m _ below meth c H locs 0 0 _ (F0 m 11 ls [])
  refine lv_aload_n hx hb dX3_keep_11 rfl (lv_at hl 0 rfl) ?_
  refine lv_iconst (v := 1) hx hb dX3_keep_12 (by decide) ?_
  refine pt_X3_3 C hin X hS (fr_iff.mpr ⟨Nat.le_refl _, by omega⟩) 3 rfl rfl (by decide) dX3_keep_13 (fun H locs X hS => ?_)
  refine lv_aload_n hx hb dX3_keep_16 rfl (lv_at hl 0 rfl) ?_
  refine gt_X3_0 C hin X 2 rfl dX3_keep_17 ?_
  obtain ⟨q1, hq1, h⟩ := ob h
  refine rowV (As := []) (rest := []) C (kX1_carts l G (b + 1) ((xF (xS σ (σ.2.1)) 1).2.1) q1 hq1) (cwV 0 hts gX3_keep_X1_carts rfl rfl rfl (by decide +kernel) ⟨Nat.le_of_ble_eq_true rfl, Nat.le_of_ble_eq_true rfl⟩) (rcv_X1 X.2.1 hK) X.2.1 rfl hl.1 rfl (Nat.le_of_ble_eq_true rfl) dX3_keep_20 ⟨Nat.zero_le _, Nat.zero_le _⟩ ?_
  obtain ⟨h, h9⟩ := pr h
  subst h
  subst h9
  exact W.iret hx hb hr (fun t ht _ => ⟨rfl, by rw [ht]; exact X, hS.F ht⟩) hS.2.2 dX3_keep_23

theorem in_X3_restore : ∀ w ∈ wsX30, w ∈ wsX3_restore := by decide +kernel
def fX3_restore (σ : XS) : Option (Int32 × XS) := if σ.1 = 0 then (some ((-5), σ)) else ((fX1_carts ((xH (xB σ (σ.2.1)) ((xB σ (σ.2.1)).2.2.2.1)).2.1)).bind (fun q2 => (fX3_recorded (xH (xB σ (σ.2.1)) ((xB σ (σ.2.1)).2.2.2.1)) q2).bind (fun q3 => some (q3.1, q3.2))))
set_option maxHeartbeats 4000000 in
set_option maxRecDepth 100000 in
theorem kX3_restore (l : Launch) (G : Gx) (b : Nat) (σ : XS) (r : Int32) (σ' : XS) (h : fX3_restore σ = some (r, σ')) : Met l yX3_restore wsX3_restore (rmN 4) (pre G [.ref b] (xAt G b σ)) (QcW b (b + 54) (xAt G b σ') (some (.int r))) 0 0 (lw_Fr b (b + 54)) := by
  refine Met.ofW (cc := cX3_restore) (maxL := 1) (ret := (some .int)) (by decide) rfl ?_
  intro p e s m args below meth c s₁ B hml hv
  obtain ⟨rfl, X, hK⟩ := hv
  have hx := B.exec
  have hb := B.bytes
  have hr := B.returns
  have hts := atoms_spec (ws := wsX3_restore) B.pre
  have hown : s.vm.findClass RX3 = some m.cls := findClass_of_methodNamed B.named
  have hlocks := B.notSynchronized
  have C : Cx p m c cX3_restore 1 s _ wsX3_restore RX3 G := ⟨⟨hx, hb, hml, hown, hts⟩, hK⟩
  have hin : ∀ w ∈ wsX30, w ∈ wsX3_restore := in_X3_restore
  have hS : va_S (lw_Fr b (b + 54)) s.heap s.heap [] := va_S.rf
  have hl := lv_entry ([.ref b]) (n := 1) (Nat.le_of_ble_eq_true rfl)
  rw [lg_entry_eq]
  generalize (lg_sl ([.ref b]) ++ List.replicate (1 - (lg_sl ([.ref b])).length) Slot.unset).toArray = ls at hl ⊢
  have hl : lv_has ls 1 [(0, .ref b)] := hl
  unfold fX3_restore at h
  refine lv_aload_n hx hb dX3_restore_0 rfl (lv_at hl 0 rfl) ?_
  refine gt_X3_3 C hin X 1 rfl dX3_restore_1 ?_
  refine lv_if_ne (tgt := 10) hx hb dX3_restore_4 (by decide) (fun c1 => ?_) (fun c1 => ?_)
  · have h := iq h c1
    refine lv_aload_n hx hb dX3_restore_10 rfl (lv_at hl 0 rfl) ?_
    refine gt_X3_1 C hin X 2 rfl dX3_restore_11 ?_
    refine lv_aload_n hx hb dX3_restore_14 rfl (lv_at hl 0 rfl) ?_
    refine gt_X3_0 C hin X 3 rfl dX3_restore_15 ?_
    refine rowA (As := [.ref (b + 1)]) (rest := []) C (kX1_copyFrom l G (b + 8) (b + 1) _ _ (by omega)) (cwV 1 hts gX3_restore_X1_copyFrom rfl rfl rfl (by decide +kernel) ⟨Nat.le_of_ble_eq_true rfl, Nat.le_of_ble_eq_true rfl⟩) (rcv_X1 X.2.2.1 hK) ⟨X.2.2.1, X.2.1⟩ hS (fun q z => in_x2 (by decide) (by decide) z) rfl hl.1 rfl (Nat.le_of_ble_eq_true rfl) dX3_restore_18 ⟨Nat.zero_le _, Nat.zero_le _⟩ (fun H locs X9 hS _ hf => ?_)
    have X := xAt.cpB X X9 hf
    show W p l e _ s m _ below meth c H locs 0 0 _ (F0 m 21 ls [])
    refine lv_aload_n hx hb dX3_restore_21 rfl (lv_at hl 0 rfl) ?_
    refine gt_X3_0 C hin X 3 rfl dX3_restore_22 ?_
    refine lv_aload_n hx hb dX3_restore_25 rfl (lv_at hl 0 rfl) ?_
    refine gt_X3_2 C hin X 4 rfl dX3_restore_26 ?_
    refine rowA (As := [.ref (b + 15)]) (rest := []) C (kX1_copyFrom l G (b + 1) (b + 15) _ _ (by omega)) (cwV 1 hts gX3_restore_X1_copyFrom rfl rfl rfl (by decide +kernel) ⟨Nat.le_of_ble_eq_true rfl, Nat.le_of_ble_eq_true rfl⟩) (rcv_X1 X.2.1 hK) ⟨X.2.1, X.2.2.2.1⟩ hS (fun q z => in_x2 (by decide) (by decide) z) rfl hl.1 rfl (Nat.le_of_ble_eq_true rfl) dX3_restore_29 ⟨Nat.zero_le _, Nat.zero_le _⟩ (fun H locs X9 hS _ hf => ?_)
    have X := xAt.cpHS X X9 hf
    show W p l e _ s m _ below meth c H locs 0 0 _ (F0 m 32 ls [])
    refine lv_aload_n hx hb dX3_restore_32 rfl (lv_at hl 0 rfl) ?_
    refine lv_aload_n hx hb dX3_restore_33 rfl (lv_at hl 0 rfl) ?_
    refine gt_X3_0 C hin X 3 rfl dX3_restore_34 ?_
    obtain ⟨q2, hq2, h⟩ := ob h
    refine rowV (As := []) (rest := [.ref b]) C (kX1_carts l G (b + 1) ((xH (xB σ (σ.2.1)) ((xB σ (σ.2.1)).2.2.2.1)).2.1) q2 hq2) (cwV 0 hts gX3_restore_X1_carts rfl rfl rfl (by decide +kernel) ⟨Nat.le_of_ble_eq_true rfl, Nat.le_of_ble_eq_true rfl⟩) (rcv_X1 X.2.1 hK) X.2.1 rfl hl.1 rfl (Nat.le_of_ble_eq_true rfl) dX3_restore_37 ⟨Nat.zero_le _, Nat.zero_le _⟩ ?_
    obtain ⟨q3, hq3, h⟩ := ob h
    refine rowW (As := [.int q2]) (rest := []) C (kX3_recorded l G b (xH (xB σ (σ.2.1)) ((xB σ (σ.2.1)).2.2.2.1)) q2 q3.1 q3.2 hq3) (cwV 1 hts gX3_restore_X3_recorded rfl rfl rfl (by decide +kernel) ⟨Nat.le_of_ble_eq_true rfl, Nat.le_of_ble_eq_true rfl⟩) (rcv_X3 X hK) X hS (fun _ z => z) rfl hl.1 rfl (Nat.le_of_ble_eq_true rfl) dX3_restore_40 ⟨Nat.zero_le _, Nat.zero_le _⟩ (fun H locs X hS _ _ => ?_)
    show W p l e _ s m _ below meth c H locs 0 0 _ (F0 m 43 ls [.int q3.1])
    obtain ⟨h, h9⟩ := pr h
    subst h
    subst h9
    exact W.iret hx hb hr (fun t ht _ => ⟨rfl, by rw [ht]; exact X, hS.F ht⟩) hS.2.2 dX3_restore_43
  · have h := ip h c1
    refine lv_bipush (v := (-5)) hx hb dX3_restore_7 (by decide) ?_
    obtain ⟨h, h9⟩ := pr h
    subst h
    subst h9
    exact W.iret hx hb hr (fun t ht _ => ⟨rfl, by rw [ht]; exact X, hS.F ht⟩) hS.2.2 dX3_restore_9

theorem in_X3_cart : ∀ w ∈ wsX30, w ∈ wsX3_cart := by decide +kernel
def fX3_cart (σ : XS) (p1 : Int32) (p2 : Int32) : Option (Int32) := (fX1_tellOfCart (σ.2.1) p1 p2).bind (fun q1 => some q1)
set_option maxHeartbeats 4000000 in
set_option maxRecDepth 100000 in
theorem kX3_cart (l : Launch) (G : Gx) (b : Nat) (σ : XS) (p1 : Int32) (p2 : Int32) (r : Int32) (h : fX3_cart σ p1 p2 = some r) : Met l yX3_cart wsX3_cart (rmN 4) (pre G [.ref b, .int p1, .int p2] (xAt G b σ)) (QcRead r) 0 0 (fun _ => False) := by
  refine Met.ofW (cc := cX3_cart) (maxL := 3) (ret := (some .int)) (by decide) rfl ?_
  intro p e s m args below meth c s₁ B hml hv
  obtain ⟨rfl, X, hK⟩ := hv
  have hx := B.exec
  have hb := B.bytes
  have hr := B.returns
  have hts := atoms_spec (ws := wsX3_cart) B.pre
  have hown : s.vm.findClass RX3 = some m.cls := findClass_of_methodNamed B.named
  have hlocks := B.notSynchronized
  have C : Cx p m c cX3_cart 3 s _ wsX3_cart RX3 G := ⟨⟨hx, hb, hml, hown, hts⟩, hK⟩
  have hin : ∀ w ∈ wsX30, w ∈ wsX3_cart := in_X3_cart
  have hl := lv_entry ([.ref b, .int p1, .int p2]) (n := 3) (Nat.le_of_ble_eq_true rfl)
  rw [lg_entry_eq]
  generalize (lg_sl ([.ref b, .int p1, .int p2]) ++ List.replicate (3 - (lg_sl ([.ref b, .int p1, .int p2])).length) Slot.unset).toArray = ls at hl ⊢
  have hl : lv_has ls 3 [(0, .ref b), (1, .int p1), (2, .int p2)] := hl
  unfold fX3_cart at h
  refine lv_aload_n hx hb dX3_cart_0 rfl (lv_at hl 0 rfl) ?_
  refine gt_X3_0 C hin X 1 rfl dX3_cart_1 ?_
  refine lv_iload_n hx hb dX3_cart_4 rfl (lv_at hl 1 rfl) ?_
  refine lv_iload_n hx hb dX3_cart_5 rfl (lv_at hl 2 rfl) ?_
  obtain ⟨q1, hq1, h⟩ := ob h
  refine rowV (As := [.int p1, .int p2]) (rest := []) C (kX1_tellOfCart l G (b + 1) (σ.2.1) p1 p2 q1 hq1) (cwV 2 hts gX3_cart_X1_tellOfCart rfl rfl rfl (by decide +kernel) ⟨Nat.le_of_ble_eq_true rfl, Nat.le_of_ble_eq_true rfl⟩) (rcv_X1 X.2.1 hK) X.2.1 rfl hl.1 rfl (Nat.le_of_ble_eq_true rfl) dX3_cart_6 ⟨Nat.zero_le _, Nat.zero_le _⟩ ?_
  have h := so h
  subst h
  exact W.iret hx hb hr (fun t ht _ => ⟨rfl, ht⟩) (fun q h => absurd h List.not_mem_nil) dX3_cart_9

theorem in_X3_chain : ∀ w ∈ wsX30, w ∈ wsX3_chain := by decide +kernel
def fX3_chain (σ : XS) (p1 : Int32) (p2 : Int32) : Option (Int32) := (fX1_cartOfChain (σ.2.1) p1 p2).bind (fun q1 => some q1)
set_option maxHeartbeats 4000000 in
set_option maxRecDepth 100000 in
theorem kX3_chain (l : Launch) (G : Gx) (b : Nat) (σ : XS) (p1 : Int32) (p2 : Int32) (r : Int32) (h : fX3_chain σ p1 p2 = some r) : Met l yX3_chain wsX3_chain (rmN 2) (pre G [.ref b, .int p1, .int p2] (xAt G b σ)) (QcRead r) 0 0 (fun _ => False) := by
  refine Met.ofW (cc := cX3_chain) (maxL := 3) (ret := (some .int)) (by decide) rfl ?_
  intro p e s m args below meth c s₁ B hml hv
  obtain ⟨rfl, X, hK⟩ := hv
  have hx := B.exec
  have hb := B.bytes
  have hr := B.returns
  have hts := atoms_spec (ws := wsX3_chain) B.pre
  have hown : s.vm.findClass RX3 = some m.cls := findClass_of_methodNamed B.named
  have hlocks := B.notSynchronized
  have C : Cx p m c cX3_chain 3 s _ wsX3_chain RX3 G := ⟨⟨hx, hb, hml, hown, hts⟩, hK⟩
  have hin : ∀ w ∈ wsX30, w ∈ wsX3_chain := in_X3_chain
  have hl := lv_entry ([.ref b, .int p1, .int p2]) (n := 3) (Nat.le_of_ble_eq_true rfl)
  rw [lg_entry_eq]
  generalize (lg_sl ([.ref b, .int p1, .int p2]) ++ List.replicate (3 - (lg_sl ([.ref b, .int p1, .int p2])).length) Slot.unset).toArray = ls at hl ⊢
  have hl : lv_has ls 3 [(0, .ref b), (1, .int p1), (2, .int p2)] := hl
  unfold fX3_chain at h
  refine lv_aload_n hx hb dX3_chain_0 rfl (lv_at hl 0 rfl) ?_
  refine gt_X3_0 C hin X 1 rfl dX3_chain_1 ?_
  refine lv_iload_n hx hb dX3_chain_4 rfl (lv_at hl 1 rfl) ?_
  refine lv_iload_n hx hb dX3_chain_5 rfl (lv_at hl 2 rfl) ?_
  obtain ⟨q1, hq1, h⟩ := ob h
  refine rowV (As := [.int p1, .int p2]) (rest := []) C (kX1_cartOfChain l G (b + 1) (σ.2.1) p1 p2 q1 hq1) (cwV 2 hts gX3_chain_X1_cartOfChain rfl rfl rfl (by decide +kernel) ⟨Nat.le_of_ble_eq_true rfl, Nat.le_of_ble_eq_true rfl⟩) (rcv_X1 X.2.1 hK) X.2.1 rfl hl.1 rfl (Nat.le_of_ble_eq_true rfl) dX3_chain_6 ⟨Nat.zero_le _, Nat.zero_le _⟩ ?_
  have h := so h
  subst h
  exact W.iret hx hb hr (fun t ht _ => ⟨rfl, ht⟩) (fun q h => absurd h List.not_mem_nil) dX3_chain_9

theorem in_X3_brokenIn : ∀ w ∈ wsX30, w ∈ wsX3_brokenIn := by decide +kernel
def fX3_brokenIn (σ : XS) (p1 : Int32) : Option (Int32) := (fX1_firstBroken (σ.2.1) p1).bind (fun q1 => some q1)
set_option maxHeartbeats 4000000 in
set_option maxRecDepth 100000 in
theorem kX3_brokenIn (l : Launch) (G : Gx) (b : Nat) (σ : XS) (p1 : Int32) (r : Int32) (h : fX3_brokenIn σ p1 = some r) : Met l yX3_brokenIn wsX3_brokenIn (rmN 3) (pre G [.ref b, .int p1] (xAt G b σ)) (QcRead r) 0 0 (fun _ => False) := by
  refine Met.ofW (cc := cX3_brokenIn) (maxL := 2) (ret := (some .int)) (by decide) rfl ?_
  intro p e s m args below meth c s₁ B hml hv
  obtain ⟨rfl, X, hK⟩ := hv
  have hx := B.exec
  have hb := B.bytes
  have hr := B.returns
  have hts := atoms_spec (ws := wsX3_brokenIn) B.pre
  have hown : s.vm.findClass RX3 = some m.cls := findClass_of_methodNamed B.named
  have hlocks := B.notSynchronized
  have C : Cx p m c cX3_brokenIn 2 s _ wsX3_brokenIn RX3 G := ⟨⟨hx, hb, hml, hown, hts⟩, hK⟩
  have hin : ∀ w ∈ wsX30, w ∈ wsX3_brokenIn := in_X3_brokenIn
  have hl := lv_entry ([.ref b, .int p1]) (n := 2) (Nat.le_of_ble_eq_true rfl)
  rw [lg_entry_eq]
  generalize (lg_sl ([.ref b, .int p1]) ++ List.replicate (2 - (lg_sl ([.ref b, .int p1])).length) Slot.unset).toArray = ls at hl ⊢
  have hl : lv_has ls 2 [(0, .ref b), (1, .int p1)] := hl
  unfold fX3_brokenIn at h
  refine lv_aload_n hx hb dX3_brokenIn_0 rfl (lv_at hl 0 rfl) ?_
  refine gt_X3_0 C hin X 1 rfl dX3_brokenIn_1 ?_
  refine lv_iload_n hx hb dX3_brokenIn_4 rfl (lv_at hl 1 rfl) ?_
  obtain ⟨q1, hq1, h⟩ := ob h
  refine rowV (As := [.int p1]) (rest := []) C (kX1_firstBroken l G (b + 1) (σ.2.1) p1 q1 hq1) (cwV 1 hts gX3_brokenIn_X1_firstBroken rfl rfl rfl (by decide +kernel) ⟨Nat.le_of_ble_eq_true rfl, Nat.le_of_ble_eq_true rfl⟩) (rcv_X1 X.2.1 hK) X.2.1 rfl hl.1 rfl (Nat.le_of_ble_eq_true rfl) dX3_brokenIn_5 ⟨Nat.zero_le _, Nat.zero_le _⟩ ?_
  have h := so h
  subst h
  exact W.iret hx hb hr (fun t ht _ => ⟨rfl, ht⟩) (fun q h => absurd h List.not_mem_nil) dX3_brokenIn_8

theorem in_X3_total : ∀ w ∈ wsX30, w ∈ wsX3_total := by decide +kernel
def fX3_total (σ : XS) (p1 : Int32) : Option (Int32) := if p1 = 15 then (some (nI (σ.2.2.2.2.1).2.1)) else (if p1 = 16 then ((fX2_length (σ.2.2.2.2.2)).bind (fun q4 => some q4)) else ((fX1_tellOfAll (σ.2.1) p1).bind (fun q3 => some q3)))
set_option maxHeartbeats 4000000 in
set_option maxRecDepth 100000 in
theorem kX3_total (l : Launch) (G : Gx) (b : Nat) (σ : XS) (p1 : Int32) (r : Int32) (h : fX3_total σ p1 = some r) : Met l yX3_total wsX3_total (rmN 4) (pre G [.ref b, .int p1] (xAt G b σ)) (QcRead r) 0 0 (fun _ => False) := by
  refine Met.ofW (cc := cX3_total) (maxL := 2) (ret := (some .int)) (by decide) rfl ?_
  intro p e s m args below meth c s₁ B hml hv
  obtain ⟨rfl, X, hK⟩ := hv
  have hx := B.exec
  have hb := B.bytes
  have hr := B.returns
  have hts := atoms_spec (ws := wsX3_total) B.pre
  have hown : s.vm.findClass RX3 = some m.cls := findClass_of_methodNamed B.named
  have hlocks := B.notSynchronized
  have C : Cx p m c cX3_total 2 s _ wsX3_total RX3 G := ⟨⟨hx, hb, hml, hown, hts⟩, hK⟩
  have hin : ∀ w ∈ wsX30, w ∈ wsX3_total := in_X3_total
  have hl := lv_entry ([.ref b, .int p1]) (n := 2) (Nat.le_of_ble_eq_true rfl)
  rw [lg_entry_eq]
  generalize (lg_sl ([.ref b, .int p1]) ++ List.replicate (2 - (lg_sl ([.ref b, .int p1])).length) Slot.unset).toArray = ls at hl ⊢
  have hl : lv_has ls 2 [(0, .ref b), (1, .int p1)] := hl
  unfold fX3_total at h
  refine lv_iload_n hx hb dX3_total_0 rfl (lv_at hl 1 rfl) ?_
  refine lv_bipush (v := 15) hx hb dX3_total_1 (by decide) ?_
  refine lv_icmp_ne (tgt := 14) hx hb dX3_total_3 (by decide) (fun c1 => ?_) (fun c1 => ?_)
  · have h := iq h c1
    refine lv_iload_n hx hb dX3_total_14 rfl (lv_at hl 1 rfl) ?_
    refine lv_bipush (v := 16) hx hb dX3_total_15 (by decide) ?_
    refine lv_icmp_ne (tgt := 28) hx hb dX3_total_17 (by decide) (fun c2 => ?_) (fun c2 => ?_)
    · have h := iq h c2
      refine lv_aload_n hx hb dX3_total_28 rfl (lv_at hl 0 rfl) ?_
      refine gt_X3_0 C hin X 3 rfl dX3_total_29 ?_
      refine lv_iload_n hx hb dX3_total_32 rfl (lv_at hl 1 rfl) ?_
      obtain ⟨q3, hq3, h⟩ := ob h
      refine rowV (As := [.int p1]) (rest := []) C (kX1_tellOfAll l G (b + 1) (σ.2.1) p1 q3 hq3) (cwV 1 hts gX3_total_X1_tellOfAll rfl rfl rfl (by decide +kernel) ⟨Nat.le_of_ble_eq_true rfl, Nat.le_of_ble_eq_true rfl⟩) (rcv_X1 X.2.1 hK) X.2.1 rfl hl.1 rfl (Nat.le_of_ble_eq_true rfl) dX3_total_33 ⟨Nat.zero_le _, Nat.zero_le _⟩ ?_
      have h := so h
      subst h
      exact W.iret hx hb hr (fun t ht _ => ⟨rfl, ht⟩) (fun q h => absurd h List.not_mem_nil) dX3_total_36
    · have h := ip h c2
      refine lv_aload_n hx hb dX3_total_20 rfl (lv_at hl 0 rfl) ?_
      refine gt_X3_5 C hin X 2 rfl dX3_total_21 ?_
      obtain ⟨q4, hq4, h⟩ := ob h
      refine rowV (As := []) (rest := []) C (kX2_length l G (b + 52) (σ.2.2.2.2.2) q4 hq4) (cwV 0 hts gX3_total_X2_length rfl rfl rfl (by decide +kernel) ⟨Nat.le_of_ble_eq_true rfl, Nat.le_of_ble_eq_true rfl⟩) (rcv_X2 X.2.2.2.2.2 hK) X.2.2.2.2.2 rfl hl.1 rfl (Nat.le_of_ble_eq_true rfl) dX3_total_24 ⟨Nat.zero_le _, Nat.zero_le _⟩ ?_
      have h := so h
      subst h
      exact W.iret hx hb hr (fun t ht _ => ⟨rfl, ht⟩) (fun q h => absurd h List.not_mem_nil) dX3_total_27
  · have h := ip h c1
    refine lv_aload_n hx hb dX3_total_6 rfl (lv_at hl 0 rfl) ?_
    refine gt_X3_4 C hin X 1 rfl dX3_total_7 ?_
    refine rowV (As := []) (rest := []) C (kX0_states l G (b + 22) _ _) (cwV 0 hts gX3_total_X0_states rfl rfl rfl (by decide +kernel) ⟨Nat.le_of_ble_eq_true rfl, Nat.le_of_ble_eq_true rfl⟩) (rcv_X0 X.2.2.2.2.1.1 hK) X.2.2.2.2.1.1 rfl hl.1 rfl (Nat.le_of_ble_eq_true rfl) dX3_total_10 ⟨Nat.zero_le _, Nat.zero_le _⟩ ?_
    have h := so h
    subst h
    exact W.iret hx hb hr (fun t ht _ => ⟨rfl, ht⟩) (fun q h => absurd h List.not_mem_nil) dX3_total_13

theorem in_X3_ifOpened : ∀ w ∈ wsX30, w ∈ wsX3_ifOpened := by decide +kernel
def fX3_ifOpened (σ : XS) (p1 : Int32) (p2 : Int32) : Option (Int32) := (fX1_foretell (σ.2.1) p1 p2).bind (fun q1 => some q1)
set_option maxHeartbeats 4000000 in
set_option maxRecDepth 100000 in
theorem kX3_ifOpened (l : Launch) (G : Gx) (b : Nat) (σ : XS) (p1 : Int32) (p2 : Int32) (r : Int32) (h : fX3_ifOpened σ p1 p2 = some r) : Met l yX3_ifOpened wsX3_ifOpened (rmN 5) (pre G [.ref b, .int p1, .int p2] (xAt G b σ)) (QcRead r) 0 0 (fun _ => False) := by
  refine Met.ofW (cc := cX3_ifOpened) (maxL := 3) (ret := (some .int)) (by decide) rfl ?_
  intro p e s m args below meth c s₁ B hml hv
  obtain ⟨rfl, X, hK⟩ := hv
  have hx := B.exec
  have hb := B.bytes
  have hr := B.returns
  have hts := atoms_spec (ws := wsX3_ifOpened) B.pre
  have hown : s.vm.findClass RX3 = some m.cls := findClass_of_methodNamed B.named
  have hlocks := B.notSynchronized
  have C : Cx p m c cX3_ifOpened 3 s _ wsX3_ifOpened RX3 G := ⟨⟨hx, hb, hml, hown, hts⟩, hK⟩
  have hin : ∀ w ∈ wsX30, w ∈ wsX3_ifOpened := in_X3_ifOpened
  have hl := lv_entry ([.ref b, .int p1, .int p2]) (n := 3) (Nat.le_of_ble_eq_true rfl)
  rw [lg_entry_eq]
  generalize (lg_sl ([.ref b, .int p1, .int p2]) ++ List.replicate (3 - (lg_sl ([.ref b, .int p1, .int p2])).length) Slot.unset).toArray = ls at hl ⊢
  have hl : lv_has ls 3 [(0, .ref b), (1, .int p1), (2, .int p2)] := hl
  unfold fX3_ifOpened at h
  refine lv_aload_n hx hb dX3_ifOpened_0 rfl (lv_at hl 0 rfl) ?_
  refine gt_X3_0 C hin X 1 rfl dX3_ifOpened_1 ?_
  refine lv_iload_n hx hb dX3_ifOpened_4 rfl (lv_at hl 1 rfl) ?_
  refine lv_iload_n hx hb dX3_ifOpened_5 rfl (lv_at hl 2 rfl) ?_
  obtain ⟨q1, hq1, h⟩ := ob h
  refine rowV (As := [.int p1, .int p2]) (rest := []) C (kX1_foretell l G (b + 1) (σ.2.1) p1 p2 q1 hq1) (cwV 2 hts gX3_ifOpened_X1_foretell rfl rfl rfl (by decide +kernel) ⟨Nat.le_of_ble_eq_true rfl, Nat.le_of_ble_eq_true rfl⟩) (rcv_X1 X.2.1 hK) X.2.1 rfl hl.1 rfl (Nat.le_of_ble_eq_true rfl) dX3_ifOpened_6 ⟨Nat.zero_le _, Nat.zero_le _⟩ ?_
  have h := so h
  subst h
  exact W.iret hx hb hr (fun t ht _ => ⟨rfl, ht⟩) (fun q h => absurd h List.not_mem_nil) dX3_ifOpened_9

theorem in_X3_fewestOpenings : ∀ w ∈ wsX30, w ∈ wsX3_fewestOpenings := by decide +kernel
def fX3_fewestOpenings (σ : XS) (p1 : Int32) : Option (Int32) := if p1 = 0 then ((fX1_countEnds (σ.2.1)).bind (fun q4 => some q4)) else (if p1 = 1 then ((fX1_countHonestOpenings (σ.2.1)).bind (fun q3 => some q3)) else (some (-2)))
set_option maxHeartbeats 4000000 in
set_option maxRecDepth 100000 in
theorem kX3_fewestOpenings (l : Launch) (G : Gx) (b : Nat) (σ : XS) (p1 : Int32) (r : Int32) (h : fX3_fewestOpenings σ p1 = some r) : Met l yX3_fewestOpenings wsX3_fewestOpenings (rmN 4) (pre G [.ref b, .int p1] (xAt G b σ)) (QcRead r) 0 0 (fun _ => False) := by
  refine Met.ofW (cc := cX3_fewestOpenings) (maxL := 2) (ret := (some .int)) (by decide) rfl ?_
  intro p e s m args below meth c s₁ B hml hv
  obtain ⟨rfl, X, hK⟩ := hv
  have hx := B.exec
  have hb := B.bytes
  have hr := B.returns
  have hts := atoms_spec (ws := wsX3_fewestOpenings) B.pre
  have hown : s.vm.findClass RX3 = some m.cls := findClass_of_methodNamed B.named
  have hlocks := B.notSynchronized
  have C : Cx p m c cX3_fewestOpenings 2 s _ wsX3_fewestOpenings RX3 G := ⟨⟨hx, hb, hml, hown, hts⟩, hK⟩
  have hin : ∀ w ∈ wsX30, w ∈ wsX3_fewestOpenings := in_X3_fewestOpenings
  have hl := lv_entry ([.ref b, .int p1]) (n := 2) (Nat.le_of_ble_eq_true rfl)
  rw [lg_entry_eq]
  generalize (lg_sl ([.ref b, .int p1]) ++ List.replicate (2 - (lg_sl ([.ref b, .int p1])).length) Slot.unset).toArray = ls at hl ⊢
  have hl : lv_has ls 2 [(0, .ref b), (1, .int p1)] := hl
  unfold fX3_fewestOpenings at h
  refine lv_iload_n hx hb dX3_fewestOpenings_0 rfl (lv_at hl 1 rfl) ?_
  refine lv_if_ne (tgt := 12) hx hb dX3_fewestOpenings_1 (by decide) (fun c1 => ?_) (fun c1 => ?_)
  · have h := iq h c1
    refine lv_iload_n hx hb dX3_fewestOpenings_12 rfl (lv_at hl 1 rfl) ?_
    refine lv_iconst (v := 1) hx hb dX3_fewestOpenings_13 (by decide) ?_
    refine lv_icmp_ne (tgt := 25) hx hb dX3_fewestOpenings_14 (by decide) (fun c2 => ?_) (fun c2 => ?_)
    · have h := iq h c2
      refine lv_bipush (v := (-2)) hx hb dX3_fewestOpenings_25 (by decide) ?_
      have h := so h
      subst h
      exact W.iret hx hb hr (fun t ht _ => ⟨rfl, ht⟩) (fun q h => absurd h List.not_mem_nil) dX3_fewestOpenings_27
    · have h := ip h c2
      refine lv_aload_n hx hb dX3_fewestOpenings_17 rfl (lv_at hl 0 rfl) ?_
      refine gt_X3_0 C hin X 1 rfl dX3_fewestOpenings_18 ?_
      obtain ⟨q3, hq3, h⟩ := ob h
      refine rowV (As := []) (rest := []) C (kX1_countHonestOpenings l G (b + 1) (σ.2.1) q3 hq3) (cwV 0 hts gX3_fewestOpenings_X1_countHonestOpenings rfl rfl rfl (by decide +kernel) ⟨Nat.le_of_ble_eq_true rfl, Nat.le_of_ble_eq_true rfl⟩) (rcv_X1 X.2.1 hK) X.2.1 rfl hl.1 rfl (Nat.le_of_ble_eq_true rfl) dX3_fewestOpenings_21 ⟨Nat.zero_le _, Nat.zero_le _⟩ ?_
      have h := so h
      subst h
      exact W.iret hx hb hr (fun t ht _ => ⟨rfl, ht⟩) (fun q h => absurd h List.not_mem_nil) dX3_fewestOpenings_24
  · have h := ip h c1
    refine lv_aload_n hx hb dX3_fewestOpenings_4 rfl (lv_at hl 0 rfl) ?_
    refine gt_X3_0 C hin X 1 rfl dX3_fewestOpenings_5 ?_
    obtain ⟨q4, hq4, h⟩ := ob h
    refine rowV (As := []) (rest := []) C (kX1_countEnds l G (b + 1) (σ.2.1) q4 hq4) (cwV 0 hts gX3_fewestOpenings_X1_countEnds rfl rfl rfl (by decide +kernel) ⟨Nat.le_of_ble_eq_true rfl, Nat.le_of_ble_eq_true rfl⟩) (rcv_X1 X.2.1 hK) X.2.1 rfl hl.1 rfl (Nat.le_of_ble_eq_true rfl) dX3_fewestOpenings_8 ⟨Nat.zero_le _, Nat.zero_le _⟩ ?_
    have h := so h
    subst h
    exact W.iret hx hb hr (fun t ht _ => ⟨rfl, ht⟩) (fun q h => absurd h List.not_mem_nil) dX3_fewestOpenings_11

theorem in_X3_bestOpening : ∀ w ∈ wsX30, w ∈ wsX3_bestOpening := by decide +kernel
def fX3_bestOpening (σ : XS) : Option (Int32) := (fX1_mostClearing (σ.2.1)).bind (fun q1 => some q1)
set_option maxHeartbeats 4000000 in
set_option maxRecDepth 100000 in
theorem kX3_bestOpening (l : Launch) (G : Gx) (b : Nat) (σ : XS) (r : Int32) (h : fX3_bestOpening σ = some r) : Met l yX3_bestOpening wsX3_bestOpening (rmN 5) (pre G [.ref b] (xAt G b σ)) (QcRead r) 0 0 (fun _ => False) := by
  refine Met.ofW (cc := cX3_bestOpening) (maxL := 1) (ret := (some .int)) (by decide) rfl ?_
  intro p e s m args below meth c s₁ B hml hv
  obtain ⟨rfl, X, hK⟩ := hv
  have hx := B.exec
  have hb := B.bytes
  have hr := B.returns
  have hts := atoms_spec (ws := wsX3_bestOpening) B.pre
  have hown : s.vm.findClass RX3 = some m.cls := findClass_of_methodNamed B.named
  have hlocks := B.notSynchronized
  have C : Cx p m c cX3_bestOpening 1 s _ wsX3_bestOpening RX3 G := ⟨⟨hx, hb, hml, hown, hts⟩, hK⟩
  have hin : ∀ w ∈ wsX30, w ∈ wsX3_bestOpening := in_X3_bestOpening
  have hl := lv_entry ([.ref b]) (n := 1) (Nat.le_of_ble_eq_true rfl)
  rw [lg_entry_eq]
  generalize (lg_sl ([.ref b]) ++ List.replicate (1 - (lg_sl ([.ref b])).length) Slot.unset).toArray = ls at hl ⊢
  have hl : lv_has ls 1 [(0, .ref b)] := hl
  unfold fX3_bestOpening at h
  refine lv_aload_n hx hb dX3_bestOpening_0 rfl (lv_at hl 0 rfl) ?_
  refine gt_X3_0 C hin X 1 rfl dX3_bestOpening_1 ?_
  obtain ⟨q1, hq1, h⟩ := ob h
  refine rowV (As := []) (rest := []) C (kX1_mostClearing l G (b + 1) (σ.2.1) q1 hq1) (cwV 0 hts gX3_bestOpening_X1_mostClearing rfl rfl rfl (by decide +kernel) ⟨Nat.le_of_ble_eq_true rfl, Nat.le_of_ble_eq_true rfl⟩) (rcv_X1 X.2.1 hK) X.2.1 rfl hl.1 rfl (Nat.le_of_ble_eq_true rfl) dX3_bestOpening_4 ⟨Nat.zero_le _, Nat.zero_le _⟩ ?_
  have h := so h
  subst h
  exact W.iret hx hb hr (fun t ht _ => ⟨rfl, ht⟩) (fun q h => absurd h List.not_mem_nil) dX3_bestOpening_7

theorem in_X3_sameSeal : ∀ w ∈ wsX30, w ∈ wsX3_sameSeal := by decide +kernel
def fX3_sameSeal (σ : XS) (p1 : Int32) : Option (Int32) := (fX1_otherClaimForSeal (σ.2.1) p1).bind (fun q1 => some q1)
set_option maxHeartbeats 4000000 in
set_option maxRecDepth 100000 in
theorem kX3_sameSeal (l : Launch) (G : Gx) (b : Nat) (σ : XS) (p1 : Int32) (r : Int32) (h : fX3_sameSeal σ p1 = some r) : Met l yX3_sameSeal wsX3_sameSeal (rmN 3) (pre G [.ref b, .int p1] (xAt G b σ)) (QcRead r) 0 0 (fun _ => False) := by
  refine Met.ofW (cc := cX3_sameSeal) (maxL := 2) (ret := (some .int)) (by decide) rfl ?_
  intro p e s m args below meth c s₁ B hml hv
  obtain ⟨rfl, X, hK⟩ := hv
  have hx := B.exec
  have hb := B.bytes
  have hr := B.returns
  have hts := atoms_spec (ws := wsX3_sameSeal) B.pre
  have hown : s.vm.findClass RX3 = some m.cls := findClass_of_methodNamed B.named
  have hlocks := B.notSynchronized
  have C : Cx p m c cX3_sameSeal 2 s _ wsX3_sameSeal RX3 G := ⟨⟨hx, hb, hml, hown, hts⟩, hK⟩
  have hin : ∀ w ∈ wsX30, w ∈ wsX3_sameSeal := in_X3_sameSeal
  have hl := lv_entry ([.ref b, .int p1]) (n := 2) (Nat.le_of_ble_eq_true rfl)
  rw [lg_entry_eq]
  generalize (lg_sl ([.ref b, .int p1]) ++ List.replicate (2 - (lg_sl ([.ref b, .int p1])).length) Slot.unset).toArray = ls at hl ⊢
  have hl : lv_has ls 2 [(0, .ref b), (1, .int p1)] := hl
  unfold fX3_sameSeal at h
  refine lv_aload_n hx hb dX3_sameSeal_0 rfl (lv_at hl 0 rfl) ?_
  refine gt_X3_0 C hin X 1 rfl dX3_sameSeal_1 ?_
  refine lv_iload_n hx hb dX3_sameSeal_4 rfl (lv_at hl 1 rfl) ?_
  obtain ⟨q1, hq1, h⟩ := ob h
  refine rowV (As := [.int p1]) (rest := []) C (kX1_otherClaimForSeal l G (b + 1) (σ.2.1) p1 q1 hq1) (cwV 1 hts gX3_sameSeal_X1_otherClaimForSeal rfl rfl rfl (by decide +kernel) ⟨Nat.le_of_ble_eq_true rfl, Nat.le_of_ble_eq_true rfl⟩) (rcv_X1 X.2.1 hK) X.2.1 rfl hl.1 rfl (Nat.le_of_ble_eq_true rfl) dX3_sameSeal_5 ⟨Nat.zero_le _, Nat.zero_le _⟩ ?_
  have h := so h
  subst h
  exact W.iret hx hb hr (fun t ht _ => ⟨rfl, ht⟩) (fun q h => absurd h List.not_mem_nil) dX3_sameSeal_8
