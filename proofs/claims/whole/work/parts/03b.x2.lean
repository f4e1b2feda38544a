theorem in_X2_append : ∀ w ∈ wsX20, w ∈ wsX2_append := by decide +kernel
def fX2_append (σ : St) (p1 : Int32) : Option (Int32 × St) := if (σ 1 0) < 60 then (if oob (σ 1 0) 60 then none else some ((up (up σ 0 (σ 1 0).toNatClampNeg (vp_nar .char p1)) 1 0 (((up σ 0 (σ 1 0).toNatClampNeg (vp_nar .char p1)) 1 0) + 1)) 1 0, up (up σ 0 (σ 1 0).toNatClampNeg (vp_nar .char p1)) 1 0 (((up σ 0 (σ 1 0).toNatClampNeg (vp_nar .char p1)) 1 0) + 1))) else (some ((-3), σ))
set_option maxHeartbeats 4000000 in
set_option maxRecDepth 100000 in
theorem kX2_append (l : Launch) (G : Gx) (b : Nat) (σ : St) (p1 : Int32) (r : Int32) (σ' : St) (h : fX2_append σ p1 = some (r, σ')) : Met l yX2_append wsX2_append (rmN 0) (pre G [.ref b, .int p1] (tAt G b σ)) (QcW b (b + 2) (tAt G b σ') (some (.int r))) 0 0 (lw_Fr b (b + 2)) := by
  refine Met.ofW (cc := cX2_append) (maxL := 2) (ret := (some .int)) (by decide) rfl ?_
  intro p e s m args below meth c s₁ B hml hv
  obtain ⟨rfl, X, hK⟩ := hv
  have hx := B.exec
  have hb := B.bytes
  have hr := B.returns
  have hts := atoms_spec (ws := wsX2_append) B.pre
  have hown : s.vm.findClass RX2 = some m.cls := findClass_of_methodNamed B.named
  have hlocks := B.notSynchronized
  have C : Cx p m c cX2_append 2 s _ wsX2_append RX2 G := ⟨⟨hx, hb, hml, hown, hts⟩, hK⟩
  have hin : ∀ w ∈ wsX20, w ∈ wsX2_append := in_X2_append
  have hS : va_S (lw_Fr b (b + 2)) s.heap s.heap [] := va_S.rf
  have hl := lv_entry ([.ref b, .int p1]) (n := 2) (Nat.le_of_ble_eq_true rfl)
  rw [lg_entry_eq]
  generalize (lg_sl ([.ref b, .int p1]) ++ List.replicate (2 - (lg_sl ([.ref b, .int p1])).length) Slot.unset).toArray = ls at hl ⊢
  have hl : lv_has ls 2 [(0, .ref b), (1, .int p1)] := hl
  unfold fX2_append at h
  refine lv_aload_n hx hb dX2_append_0 rfl (lv_at hl 0 rfl) ?_
  refine gt_X2_1 C hin X 1 rfl dX2_append_1 ?_
  refine lv_bipush (v := 60) hx hb dX2_append_4 (by decide) ?_
  refine lv_icmp_lt (tgt := 12) hx hb dX2_append_6 (by decide) (fun c1 => ?_) (fun c1 => ?_)
  · have h := ip h c1
    refine lv_aload_n hx hb dX2_append_12 rfl (lv_at hl 0 rfl) ?_
    refine gt_X2_0 C hin X 2 rfl dX2_append_13 ?_
    refine lv_aload_n hx hb dX2_append_16 rfl (lv_at hl 0 rfl) ?_
    refine gt_X2_1 C hin X 1 rfl dX2_append_17 ?_
    refine lv_iload_n hx hb dX2_append_20 rfl (lv_at hl 1 rfl) ?_
    obtain ⟨c2, h⟩ := og h
    refine as_X2_0 C X hS rfl c2 dX2_append_21 (fun H locs X hS => ?_)
    refine lv_aload_n hx hb dX2_append_22 rfl (lv_at hl 0 rfl) ?_
    refine lv_dup hx hb dX2_append_23 rfl ?_
    refine gt_X2_1 C hin X 1 rfl dX2_append_24 ?_
    refine lv_iconst (v := 1) hx hb dX2_append_27 (by decide) ?_
    refine lv_iadd hx hb dX2_append_28 ?_
    refine pt_X2_1 C hin X hS 1 rfl dX2_append_29 (fun H locs X hS => ?_)
    refine lv_aload_n hx hb dX2_append_32 rfl (lv_at hl 0 rfl) ?_
    refine gt_X2_1 C hin X 1 rfl dX2_append_33 ?_
    obtain ⟨h, h9⟩ := pr h
    subst h
    subst h9
    exact W.iret hx hb hr (fun t ht _ => ⟨rfl, by rw [ht]; exact X, hS.F ht⟩) hS.2.2 dX2_append_36
  · have h := iq h c1
    refine lv_bipush (v := (-3)) hx hb dX2_append_9 (by decide) ?_
    obtain ⟨h, h9⟩ := pr h
    subst h
    subst h9
    exact W.iret hx hb hr (fun t ht _ => ⟨rfl, by rw [ht]; exact X, hS.F ht⟩) hS.2.2 dX2_append_11

theorem in_X2_empty : ∀ w ∈ wsX20, w ∈ wsX2_empty := by decide +kernel
def fX2_empty (σ : St) : Option (Int32 × St) := some (σ 1 0, up σ 1 0 0)
set_option maxHeartbeats 4000000 in
set_option maxRecDepth 100000 in
theorem kX2_empty (l : Launch) (G : Gx) (b : Nat) (σ : St) (r : Int32) (σ' : St) (h : fX2_empty σ = some (r, σ')) : Met l yX2_empty wsX2_empty (rmN 0) (pre G [.ref b] (tAt G b σ)) (QcW b (b + 2) (tAt G b σ') (some (.int r))) 0 0 (lw_Fr b (b + 2)) := by
  refine Met.ofW (cc := cX2_empty) (maxL := 2) (ret := (some .int)) (by decide) rfl ?_
  intro p e s m args below meth c s₁ B hml hv
  obtain ⟨rfl, X, hK⟩ := hv
  have hx := B.exec
  have hb := B.bytes
  have hr := B.returns
  have hts := atoms_spec (ws := wsX2_empty) B.pre
  have hown : s.vm.findClass RX2 = some m.cls := findClass_of_methodNamed B.named
  have hlocks := B.notSynchronized
  have C : Cx p m c cX2_empty 2 s _ wsX2_empty RX2 G := ⟨⟨hx, hb, hml, hown, hts⟩, hK⟩
  have hin : ∀ w ∈ wsX20, w ∈ wsX2_empty := in_X2_empty
  have hS : va_S (lw_Fr b (b + 2)) s.heap s.heap [] := va_S.rf
  have hl := lv_entry ([.ref b]) (n := 2) (Nat.le_of_ble_eq_true rfl)
  rw [lg_entry_eq]
  generalize (lg_sl ([.ref b]) ++ List.replicate (2 - (lg_sl ([.ref b])).length) Slot.unset).toArray = ls at hl ⊢
  have hl : lv_has ls 2 [(0, .ref b)] := hl
  unfold fX2_empty at h
  refine lv_aload_n hx hb dX2_empty_0 rfl (lv_at hl 0 rfl) ?_
  refine gt_X2_1 C hin X 1 rfl dX2_empty_1 ?_
  refine lv_istore_n (lv' := [(1, .int (σ 1 0)), (0, .ref b)]) hx hb dX2_empty_4 rfl hl (by decide) rfl (fun ls hl => ?_)
  refine lv_aload_n hx hb dX2_empty_5 rfl (lv_at hl 1 rfl) ?_
  refine lv_iconst (v := 0) hx hb dX2_empty_6 (by decide) ?_
  refine pt_X2_1 C hin X hS 1 rfl dX2_empty_7 (fun H locs X hS => ?_)
  refine lv_iload_n hx hb dX2_empty_10 rfl (lv_at hl 0 rfl) ?_
  obtain ⟨h, h9⟩ := pr h
  subst h
  subst h9
  exact W.iret hx hb hr (fun t ht _ => ⟨rfl, by rw [ht]; exact X, hS.F ht⟩) hS.2.2 dX2_empty_11

theorem in_X2_length : ∀ w ∈ wsX20, w ∈ wsX2_length := by decide +kernel
def fX2_length (σ : St) : Option (Int32) := some (σ 1 0)
set_option maxHeartbeats 4000000 in
set_option maxRecDepth 100000 in
theorem kX2_length (l : Launch) (G : Gx) (b : Nat) (σ : St) (r : Int32) (h : fX2_length σ = some r) : Met l yX2_length wsX2_length (rmN 0) (pre G [.ref b] (tAt G b σ)) (QcRead r) 0 0 (fun _ => False) := by
  refine Met.ofW (cc := cX2_length) (maxL := 1) (ret := (some .int)) (by decide) rfl ?_
  intro p e s m args below meth c s₁ B hml hv
  obtain ⟨rfl, X, hK⟩ := hv
  have hx := B.exec
  have hb := B.bytes
  have hr := B.returns
  have hts := atoms_spec (ws := wsX2_length) B.pre
  have hown : s.vm.findClass RX2 = some m.cls := findClass_of_methodNamed B.named
  have hlocks := B.notSynchronized
  have C : Cx p m c cX2_length 1 s _ wsX2_length RX2 G := ⟨⟨hx, hb, hml, hown, hts⟩, hK⟩
  have hin : ∀ w ∈ wsX20, w ∈ wsX2_length := in_X2_length
  have hl := lv_entry ([.ref b]) (n := 1) (Nat.le_of_ble_eq_true rfl)
  rw [lg_entry_eq]
  generalize (lg_sl ([.ref b]) ++ List.replicate (1 - (lg_sl ([.ref b])).length) Slot.unset).toArray = ls at hl ⊢
  have hl : lv_has ls 1 [(0, .ref b)] := hl
  unfold fX2_length at h
  refine lv_aload_n hx hb dX2_length_0 rfl (lv_at hl 0 rfl) ?_
  refine gt_X2_1 C hin X 1 rfl dX2_length_1 ?_
  have h := so h
  subst h
  exact W.iret hx hb hr (fun t ht _ => ⟨rfl, ht⟩) (fun q h => absurd h List.not_mem_nil) dX2_length_4

theorem in_X2_reached : ∀ w ∈ wsX20, w ∈ wsX2_reached := by decide +kernel
def fX2_reached (σ : St) : Option (Int32) := some (σ 2 0)
set_option maxHeartbeats 4000000 in
set_option maxRecDepth 100000 in
theorem kX2_reached (l : Launch) (G : Gx) (b : Nat) (σ : St) (r : Int32) (h : fX2_reached σ = some r) : Met l yX2_reached wsX2_reached (rmN 0) (pre G [.ref b] (tAt G b σ)) (QcRead r) 0 0 (fun _ => False) := by
  refine Met.ofW (cc := cX2_reached) (maxL := 1) (ret := (some .int)) (by decide) rfl ?_
  intro p e s m args below meth c s₁ B hml hv
  obtain ⟨rfl, X, hK⟩ := hv
  have hx := B.exec
  have hb := B.bytes
  have hr := B.returns
  have hts := atoms_spec (ws := wsX2_reached) B.pre
  have hown : s.vm.findClass RX2 = some m.cls := findClass_of_methodNamed B.named
  have hlocks := B.notSynchronized
  have C : Cx p m c cX2_reached 1 s _ wsX2_reached RX2 G := ⟨⟨hx, hb, hml, hown, hts⟩, hK⟩
  have hin : ∀ w ∈ wsX20, w ∈ wsX2_reached := in_X2_reached
  have hl := lv_entry ([.ref b]) (n := 1) (Nat.le_of_ble_eq_true rfl)
  rw [lg_entry_eq]
  generalize (lg_sl ([.ref b]) ++ List.replicate (1 - (lg_sl ([.ref b])).length) Slot.unset).toArray = ls at hl ⊢
  have hl : lv_has ls 1 [(0, .ref b)] := hl
  unfold fX2_reached at h
  refine lv_aload_n hx hb dX2_reached_0 rfl (lv_at hl 0 rfl) ?_
  refine gt_X2_2 C hin X 1 rfl dX2_reached_1 ?_
  have h := so h
  subst h
  exact W.iret hx hb hr (fun t ht _ => ⟨rfl, ht⟩) (fun q h => absurd h List.not_mem_nil) dX2_reached_4

theorem in_X2_kind : ∀ w ∈ wsX20, w ∈ wsX2_kind := by decide +kernel
def fX2_kind (σ : St) : Option (Int32) := if ¬ isC (σ 3 0) then none else some (σ 3 0)
set_option maxHeartbeats 4000000 in
set_option maxRecDepth 100000 in
theorem kX2_kind (l : Launch) (G : Gx) (b : Nat) (σ : St) (r : Int32) (h : fX2_kind σ = some r) : Met l yX2_kind wsX2_kind (rmN 0) (pre G [.ref b] (tAt G b σ)) (QcRead r) 0 0 (fun _ => False) := by
  refine Met.ofW (cc := cX2_kind) (maxL := 1) (ret := (some .char)) (by decide) rfl ?_
  intro p e s m args below meth c s₁ B hml hv
  obtain ⟨rfl, X, hK⟩ := hv
  have hx := B.exec
  have hb := B.bytes
  have hr := B.returns
  have hts := atoms_spec (ws := wsX2_kind) B.pre
  have hown : s.vm.findClass RX2 = some m.cls := findClass_of_methodNamed B.named
  have hlocks := B.notSynchronized
  have C : Cx p m c cX2_kind 1 s _ wsX2_kind RX2 G := ⟨⟨hx, hb, hml, hown, hts⟩, hK⟩
  have hin : ∀ w ∈ wsX20, w ∈ wsX2_kind := in_X2_kind
  have hl := lv_entry ([.ref b]) (n := 1) (Nat.le_of_ble_eq_true rfl)
  rw [lg_entry_eq]
  generalize (lg_sl ([.ref b]) ++ List.replicate (1 - (lg_sl ([.ref b])).length) Slot.unset).toArray = ls at hl ⊢
  have hl : lv_has ls 1 [(0, .ref b)] := hl
  unfold fX2_kind at h
  refine lv_aload_n hx hb dX2_kind_0 rfl (lv_at hl 0 rfl) ?_
  refine gt_X2_3 C hin X 1 rfl dX2_kind_1 ?_
  obtain ⟨c2, h⟩ := og h
  have n1 := nc_of c2
  have h := so h
  subst h
  exact W.zret hx hb hr n1.1 (fun t ht _ => ⟨rfl, ht⟩) (fun q h => absurd h List.not_mem_nil) dX2_kind_4

theorem in_X2_cartNumber : ∀ w ∈ wsX20, w ∈ wsX2_cartNumber := by decide +kernel
def fX2_cartNumber (σ : St) : Option (Int32) := some (σ 4 0)
set_option maxHeartbeats 4000000 in
set_option maxRecDepth 100000 in
theorem kX2_cartNumber (l : Launch) (G : Gx) (b : Nat) (σ : St) (r : Int32) (h : fX2_cartNumber σ = some r) : Met l yX2_cartNumber wsX2_cartNumber (rmN 0) (pre G [.ref b] (tAt G b σ)) (QcRead r) 0 0 (fun _ => False) := by
  refine Met.ofW (cc := cX2_cartNumber) (maxL := 1) (ret := (some .int)) (by decide) rfl ?_
  intro p e s m args below meth c s₁ B hml hv
  obtain ⟨rfl, X, hK⟩ := hv
  have hx := B.exec
  have hb := B.bytes
  have hr := B.returns
  have hts := atoms_spec (ws := wsX2_cartNumber) B.pre
  have hown : s.vm.findClass RX2 = some m.cls := findClass_of_methodNamed B.named
  have hlocks := B.notSynchronized
  have C : Cx p m c cX2_cartNumber 1 s _ wsX2_cartNumber RX2 G := ⟨⟨hx, hb, hml, hown, hts⟩, hK⟩
  have hin : ∀ w ∈ wsX20, w ∈ wsX2_cartNumber := in_X2_cartNumber
  have hl := lv_entry ([.ref b]) (n := 1) (Nat.le_of_ble_eq_true rfl)
  rw [lg_entry_eq]
  generalize (lg_sl ([.ref b]) ++ List.replicate (1 - (lg_sl ([.ref b])).length) Slot.unset).toArray = ls at hl ⊢
  have hl : lv_has ls 1 [(0, .ref b)] := hl
  unfold fX2_cartNumber at h
  refine lv_aload_n hx hb dX2_cartNumber_0 rfl (lv_at hl 0 rfl) ?_
  refine gt_X2_4 C hin X 1 rfl dX2_cartNumber_1 ?_
  have h := so h
  subst h
  exact W.iret hx hb hr (fun t ht _ => ⟨rfl, ht⟩) (fun q h => absurd h List.not_mem_nil) dX2_cartNumber_4

theorem in_X2_claim : ∀ w ∈ wsX20, w ∈ wsX2_claim := by decide +kernel
def fX2_claim (σ : St) : Option (Int32) := some (σ 5 0)
set_option maxHeartbeats 4000000 in
set_option maxRecDepth 100000 in
theorem kX2_claim (l : Launch) (G : Gx) (b : Nat) (σ : St) (r : Int32) (h : fX2_claim σ = some r) : Met l yX2_claim wsX2_claim (rmN 0) (pre G [.ref b] (tAt G b σ)) (QcRead r) 0 0 (fun _ => False) := by
  refine Met.ofW (cc := cX2_claim) (maxL := 1) (ret := (some .int)) (by decide) rfl ?_
  intro p e s m args below meth c s₁ B hml hv
  obtain ⟨rfl, X, hK⟩ := hv
  have hx := B.exec
  have hb := B.bytes
  have hr := B.returns
  have hts := atoms_spec (ws := wsX2_claim) B.pre
  have hown : s.vm.findClass RX2 = some m.cls := findClass_of_methodNamed B.named
  have hlocks := B.notSynchronized
  have C : Cx p m c cX2_claim 1 s _ wsX2_claim RX2 G := ⟨⟨hx, hb, hml, hown, hts⟩, hK⟩
  have hin : ∀ w ∈ wsX20, w ∈ wsX2_claim := in_X2_claim
  have hl := lv_entry ([.ref b]) (n := 1) (Nat.le_of_ble_eq_true rfl)
  rw [lg_entry_eq]
  generalize (lg_sl ([.ref b]) ++ List.replicate (1 - (lg_sl ([.ref b])).length) Slot.unset).toArray = ls at hl ⊢
  have hl : lv_has ls 1 [(0, .ref b)] := hl
  unfold fX2_claim at h
  refine lv_aload_n hx hb dX2_claim_0 rfl (lv_at hl 0 rfl) ?_
  refine gt_X2_5 C hin X 1 rfl dX2_claim_1 ?_
  have h := so h
  subst h
  exact W.iret hx hb hr (fun t ht _ => ⟨rfl, ht⟩) (fun q h => absurd h List.not_mem_nil) dX2_claim_4

theorem in_X2_load : ∀ w ∈ wsX20, w ∈ wsX2_load := by decide +kernel
def fX2_load (σ : St) : Option (Int32) := some (σ 6 0)
set_option maxHeartbeats 4000000 in
set_option maxRecDepth 100000 in
theorem kX2_load (l : Launch) (G : Gx) (b : Nat) (σ : St) (r : Int32) (h : fX2_load σ = some r) : Met l yX2_load wsX2_load (rmN 0) (pre G [.ref b] (tAt G b σ)) (QcRead r) 0 0 (fun _ => False) := by
  refine Met.ofW (cc := cX2_load) (maxL := 1) (ret := (some .int)) (by decide) rfl ?_
  intro p e s m args below meth c s₁ B hml hv
  obtain ⟨rfl, X, hK⟩ := hv
  have hx := B.exec
  have hb := B.bytes
  have hr := B.returns
  have hts := atoms_spec (ws := wsX2_load) B.pre
  have hown : s.vm.findClass RX2 = some m.cls := findClass_of_methodNamed B.named
  have hlocks := B.notSynchronized
  have C : Cx p m c cX2_load 1 s _ wsX2_load RX2 G := ⟨⟨hx, hb, hml, hown, hts⟩, hK⟩
  have hin : ∀ w ∈ wsX20, w ∈ wsX2_load := in_X2_load
  have hl := lv_entry ([.ref b]) (n := 1) (Nat.le_of_ble_eq_true rfl)
  rw [lg_entry_eq]
  generalize (lg_sl ([.ref b]) ++ List.replicate (1 - (lg_sl ([.ref b])).length) Slot.unset).toArray = ls at hl ⊢
  have hl : lv_has ls 1 [(0, .ref b)] := hl
  unfold fX2_load at h
  refine lv_aload_n hx hb dX2_load_0 rfl (lv_at hl 0 rfl) ?_
  refine gt_X2_6 C hin X 1 rfl dX2_load_1 ?_
  have h := so h
  subst h
  exact W.iret hx hb hr (fun t ht _ => ⟨rfl, ht⟩) (fun q h => absurd h List.not_mem_nil) dX2_load_4

theorem in_X2_rewind : ∀ w ∈ wsX20, w ∈ wsX2_rewind := by decide +kernel
def fX2_rewind (σ : St) : Option (St) := some (up σ 2 0 0)
set_option maxHeartbeats 4000000 in
set_option maxRecDepth 100000 in
theorem kX2_rewind (l : Launch) (G : Gx) (b : Nat) (σ : St) (σ' : St) (h : fX2_rewind σ = some σ') : Met l yX2_rewind wsX2_rewind (rmN 0) (pre G [.ref b] (tAt G b σ)) (QcW b (b + 2) (tAt G b σ') none) 0 0 (lw_Fr b (b + 2)) := by
  refine Met.ofW (cc := cX2_rewind) (maxL := 1) (ret := none) (by decide) rfl ?_
  intro p e s m args below meth c s₁ B hml hv
  obtain ⟨rfl, X, hK⟩ := hv
  have hx := B.exec
  have hb := B.bytes
  have hr := B.returns
  have hts := atoms_spec (ws := wsX2_rewind) B.pre
  have hown : s.vm.findClass RX2 = some m.cls := findClass_of_methodNamed B.named
  have hlocks := B.notSynchronized
  have C : Cx p m c cX2_rewind 1 s _ wsX2_rewind RX2 G := ⟨⟨hx, hb, hml, hown, hts⟩, hK⟩
  have hin : ∀ w ∈ wsX20, w ∈ wsX2_rewind := in_X2_rewind
  have hS : va_S (lw_Fr b (b + 2)) s.heap s.heap [] := va_S.rf
  have hl := lv_entry ([.ref b]) (n := 1) (Nat.le_of_ble_eq_true rfl)
  rw [lg_entry_eq]
  generalize (lg_sl ([.ref b]) ++ List.replicate (1 - (lg_sl ([.ref b])).length) Slot.unset).toArray = ls at hl ⊢
  have hl : lv_has ls 1 [(0, .ref b)] := hl
  unfold fX2_rewind at h
  refine lv_aload_n hx hb dX2_rewind_0 rfl (lv_at hl 0 rfl) ?_
  refine lv_iconst (v := 0) hx hb dX2_rewind_1 (by decide) ?_
  refine pt_X2_2 C hin X hS 1 rfl dX2_rewind_2 (fun H locs X hS => ?_)
  have h := so h
  subst h
  exact W.vret hx hb hr (fun t ht _ => ⟨rfl, by rw [ht]; exact X, hS.F ht⟩) hS.2.2 dX2_rewind_5

theorem in_X2_takes : ∀ w ∈ wsX20, w ∈ wsX2_takes := by decide +kernel
def fX2_takes (σ : St) (p1 : Int32) : Option (Int32 × St) := if (σ 1 0) ≤ (σ 2 0) then (some (0, σ)) else (if oob (σ 2 0) 60 then none else if (σ 0 (σ 2 0).toNatClampNeg) = p1 then (some (1, up σ 2 0 ((σ 2 0) + 1))) else (some (0, σ)))
set_option maxHeartbeats 4000000 in
set_option maxRecDepth 100000 in
theorem kX2_takes (l : Launch) (G : Gx) (b : Nat) (σ : St) (p1 : Int32) (r : Int32) (σ' : St) (h : fX2_takes σ p1 = some (r, σ')) : Met l yX2_takes wsX2_takes (rmN 0) (pre G [.ref b, .int p1] (tAt G b σ)) (QcW b (b + 2) (tAt G b σ') (some (.int r))) 0 0 (lw_Fr b (b + 2)) := by
  refine Met.ofW (cc := cX2_takes) (maxL := 2) (ret := (some .boolean)) (by decide) rfl ?_
  intro p e s m args below meth c s₁ B hml hv
  obtain ⟨rfl, X, hK⟩ := hv
  have hx := B.exec
  have hb := B.bytes
  have hr := B.returns
  have hts := atoms_spec (ws := wsX2_takes) B.pre
  have hown : s.vm.findClass RX2 = some m.cls := findClass_of_methodNamed B.named
  have hlocks := B.notSynchronized
  have C : Cx p m c cX2_takes 2 s _ wsX2_takes RX2 G := ⟨⟨hx, hb, hml, hown, hts⟩, hK⟩
  have hin : ∀ w ∈ wsX20, w ∈ wsX2_takes := in_X2_takes
  have hS : va_S (lw_Fr b (b + 2)) s.heap s.heap [] := va_S.rf
  have hl := lv_entry ([.ref b, .int p1]) (n := 2) (Nat.le_of_ble_eq_true rfl)
  rw [lg_entry_eq]
  generalize (lg_sl ([.ref b, .int p1]) ++ List.replicate (2 - (lg_sl ([.ref b, .int p1])).length) Slot.unset).toArray = ls at hl ⊢
  have hl : lv_has ls 2 [(0, .ref b), (1, .int p1)] := hl
  unfold fX2_takes at h
  refine lv_aload_n hx hb dX2_takes_0 rfl (lv_at hl 0 rfl) ?_
  refine gt_X2_2 C hin X 1 rfl dX2_takes_1 ?_
  refine lv_aload_n hx hb dX2_takes_4 rfl (lv_at hl 0 rfl) ?_
  refine gt_X2_1 C hin X 2 rfl dX2_takes_5 ?_
  refine lv_icmp_ge (tgt := 24) hx hb dX2_takes_8 (by decide) (fun c1 => ?_) (fun c1 => ?_)
  · have h := ip h c1
    refine lv_iconst (v := 0) hx hb dX2_takes_24 (by decide) ?_
    obtain ⟨h, h9⟩ := pr h
    subst h
    subst h9
    exact W.zret hx hb hr rfl (fun t ht _ => ⟨rfl, by rw [ht]; exact X, hS.F ht⟩) hS.2.2 dX2_takes_25
  · have h := iq h c1
    refine lv_aload_n hx hb dX2_takes_11 rfl (lv_at hl 0 rfl) ?_
    refine gt_X2_0 C hin X 3 rfl dX2_takes_12 ?_
    refine lv_aload_n hx hb dX2_takes_15 rfl (lv_at hl 0 rfl) ?_
    refine gt_X2_2 C hin X 1 rfl dX2_takes_16 ?_
    obtain ⟨c2, h⟩ := og h
    refine al_X2_0 C X rfl c2 dX2_takes_19 ?_
    refine lv_iload_n hx hb dX2_takes_20 rfl (lv_at hl 1 rfl) ?_
    refine lv_icmp_eq (tgt := 26) hx hb dX2_takes_21 (by decide) (fun c3 => ?_) (fun c3 => ?_)
    · have h := ip h c3
      refine lv_aload_n hx hb dX2_takes_26 rfl (lv_at hl 0 rfl) ?_
      refine lv_dup hx hb dX2_takes_27 rfl ?_
      refine gt_X2_2 C hin X 1 rfl dX2_takes_28 ?_
      refine lv_iconst (v := 1) hx hb dX2_takes_31 (by decide) ?_
      refine lv_iadd hx hb dX2_takes_32 ?_
      refine pt_X2_2 C hin X hS 1 rfl dX2_takes_33 (fun H locs X hS => ?_)
      refine lv_iconst (v := 1) hx hb dX2_takes_36 (by decide) ?_
      obtain ⟨h, h9⟩ := pr h
      subst h
      subst h9
      exact W.zret hx hb hr rfl (fun t ht _ => ⟨rfl, by rw [ht]; exact X, hS.F ht⟩) hS.2.2 dX2_takes_37
    · have h := iq h c3
      refine lv_iconst (v := 0) hx hb dX2_takes_24 (by decide) ?_
      obtain ⟨h, h9⟩ := pr h
      subst h
      subst h9
      exact W.zret hx hb hr rfl (fun t ht _ => ⟨rfl, by rw [ht]; exact X, hS.F ht⟩) hS.2.2 dX2_takes_25

theorem in_X2_takesKind : ∀ w ∈ wsX20, w ∈ wsX2_takesKind := by decide +kernel
def fX2_takesKind (σ : St) (p1 : Int32) : Option (Int32 × St) := (fX2_takes σ p1).bind (fun q3 => if q3.1 = 0 then (some (0, q3.2)) else (if ¬ isC p1 then none else some (1, up q3.2 3 0 p1)))
set_option maxHeartbeats 4000000 in
set_option maxRecDepth 100000 in
theorem kX2_takesKind (l : Launch) (G : Gx) (b : Nat) (σ : St) (p1 : Int32) (r : Int32) (σ' : St) (h : fX2_takesKind σ p1 = some (r, σ')) : Met l yX2_takesKind wsX2_takesKind (rmN 1) (pre G [.ref b, .int p1] (tAt G b σ)) (QcW b (b + 2) (tAt G b σ') (some (.int r))) 0 0 (lw_Fr b (b + 2)) := by
  refine Met.ofW (cc := cX2_takesKind) (maxL := 2) (ret := (some .boolean)) (by decide) rfl ?_
  intro p e s m args below meth c s₁ B hml hv
  obtain ⟨rfl, X, hK⟩ := hv
  have hx := B.exec
  have hb := B.bytes
  have hr := B.returns
  have hts := atoms_spec (ws := wsX2_takesKind) B.pre
  have hown : s.vm.findClass RX2 = some m.cls := findClass_of_methodNamed B.named
  have hlocks := B.notSynchronized
  have C : Cx p m c cX2_takesKind 2 s _ wsX2_takesKind RX2 G := ⟨⟨hx, hb, hml, hown, hts⟩, hK⟩
  have hin : ∀ w ∈ wsX20, w ∈ wsX2_takesKind := in_X2_takesKind
  have hS : va_S (lw_Fr b (b + 2)) s.heap s.heap [] := va_S.rf
  have hl := lv_entry ([.ref b, .int p1]) (n := 2) (Nat.le_of_ble_eq_true rfl)
  rw [lg_entry_eq]
  generalize (lg_sl ([.ref b, .int p1]) ++ List.replicate (2 - (lg_sl ([.ref b, .int p1])).length) Slot.unset).toArray = ls at hl ⊢
  have hl : lv_has ls 2 [(0, .ref b), (1, .int p1)] := hl
  unfold fX2_takesKind at h
  refine lv_aload_n hx hb dX2_takesKind_0 rfl (lv_at hl 0 rfl) ?_
  refine lv_iload_n hx hb dX2_takesKind_1 rfl (lv_at hl 1 rfl) ?_
  obtain ⟨q3, hr1, h⟩ := ob h
  refine rowW (As := [.int p1]) (rest := []) C (kX2_takes l G b σ p1 q3.1 q3.2 hr1) (cwV 1 hts gX2_takesKind_X2_takes rfl rfl rfl (by decide +kernel) ⟨Nat.le_of_ble_eq_true rfl, Nat.le_of_ble_eq_true rfl⟩) (rcv_X2 X hK) X hS (fun _ z => z) rfl hl.1 rfl (Nat.le_of_ble_eq_true rfl) dX2_takesKind_2 ⟨Nat.zero_le _, Nat.zero_le _⟩ (fun H locs X hS _ _ => ?_)
  show W p l e _ s m _ below meth c H locs 0 0 _ (F0 m 5 ls [.int q3.1])
  refine lv_if_ne (tgt := 10) hx hb dX2_takesKind_5 (by decide) (fun c4 => ?_) (fun c4 => ?_)
  · have h := iq h c4
    refine lv_aload_n hx hb dX2_takesKind_10 rfl (lv_at hl 0 rfl) ?_
    refine lv_iload_n hx hb dX2_takesKind_11 rfl (lv_at hl 1 rfl) ?_
    obtain ⟨c6, h⟩ := og h
    have n5 := nc_of c6
    refine pt_X2_3 C hin X hS 1 rfl n5.1 n5.2 dX2_takesKind_12 (fun H locs X hS => ?_)
    refine lv_iconst (v := 1) hx hb dX2_takesKind_15 (by decide) ?_
    obtain ⟨h, h9⟩ := pr h
    subst h
    subst h9
    exact W.zret hx hb hr rfl (fun t ht _ => ⟨rfl, by rw [ht]; exact X, hS.F ht⟩) hS.2.2 dX2_takesKind_16
  · have h := ip h c4
    refine lv_iconst (v := 0) hx hb dX2_takesKind_8 (by decide) ?_
    obtain ⟨h, h9⟩ := pr h
    subst h
    subst h9
    exact W.zret hx hb hr rfl (fun t ht _ => ⟨rfl, by rw [ht]; exact X, hS.F ht⟩) hS.2.2 dX2_takesKind_9

theorem in_X2_digitHere : ∀ w ∈ wsX20, w ∈ wsX2_digitHere := by decide +kernel
def fX2_digitHere (σ : St) : Option (Int32) := if (σ 2 0) < (σ 1 0) then (if oob (σ 2 0) 60 then none else if (σ 0 (σ 2 0).toNatClampNeg) < 48 then (some (-1)) else (if 57 < (σ 0 (σ 2 0).toNatClampNeg) then (some (-1)) else (some ((σ 0 (σ 2 0).toNatClampNeg) - 48)))) else (some (-1))
set_option maxHeartbeats 4000000 in
set_option maxRecDepth 100000 in
theorem kX2_digitHere (l : Launch) (G : Gx) (b : Nat) (σ : St) (r : Int32) (h : fX2_digitHere σ = some r) : Met l yX2_digitHere wsX2_digitHere (rmN 0) (pre G [.ref b] (tAt G b σ)) (QcRead r) 0 0 (fun _ => False) := by
  refine Met.ofW (cc := cX2_digitHere) (maxL := 2) (ret := (some .int)) (by decide) rfl ?_
  intro p e s m args below meth c s₁ B hml hv
  obtain ⟨rfl, X, hK⟩ := hv
  have hx := B.exec
  have hb := B.bytes
  have hr := B.returns
  have hts := atoms_spec (ws := wsX2_digitHere) B.pre
  have hown : s.vm.findClass RX2 = some m.cls := findClass_of_methodNamed B.named
  have hlocks := B.notSynchronized
  have C : Cx p m c cX2_digitHere 2 s _ wsX2_digitHere RX2 G := ⟨⟨hx, hb, hml, hown, hts⟩, hK⟩
  have hin : ∀ w ∈ wsX20, w ∈ wsX2_digitHere := in_X2_digitHere
  have hl := lv_entry ([.ref b]) (n := 2) (Nat.le_of_ble_eq_true rfl)
  rw [lg_entry_eq]
  generalize (lg_sl ([.ref b]) ++ List.replicate (2 - (lg_sl ([.ref b])).length) Slot.unset).toArray = ls at hl ⊢
  have hl : lv_has ls 2 [(0, .ref b)] := hl
  unfold fX2_digitHere at h
  refine lv_aload_n hx hb dX2_digitHere_0 rfl (lv_at hl 0 rfl) ?_
  refine gt_X2_2 C hin X 1 rfl dX2_digitHere_1 ?_
  refine lv_aload_n hx hb dX2_digitHere_4 rfl (lv_at hl 0 rfl) ?_
  refine gt_X2_1 C hin X 2 rfl dX2_digitHere_5 ?_
  refine lv_icmp_lt (tgt := 13) hx hb dX2_digitHere_8 (by decide) (fun c1 => ?_) (fun c1 => ?_)
  · have h := ip h c1
    refine lv_aload_n hx hb dX2_digitHere_13 rfl (lv_at hl 0 rfl) ?_
    refine gt_X2_0 C hin X 3 rfl dX2_digitHere_14 ?_
    refine lv_aload_n hx hb dX2_digitHere_17 rfl (lv_at hl 0 rfl) ?_
    refine gt_X2_2 C hin X 1 rfl dX2_digitHere_18 ?_
    obtain ⟨c2, h⟩ := og h
    refine al_X2_0 C X rfl c2 dX2_digitHere_21 ?_
    refine lv_istore_n (lv' := [(1, .int (σ 0 (σ 2 0).toNatClampNeg)), (0, .ref b)]) hx hb dX2_digitHere_22 rfl hl (by decide) rfl (fun ls hl => ?_)
    refine lv_iload_n hx hb dX2_digitHere_23 rfl (lv_at hl 0 rfl) ?_
    refine lv_bipush (v := 48) hx hb dX2_digitHere_24 (by decide) ?_
    refine lv_icmp_lt (tgt := 42) hx hb dX2_digitHere_26 (by decide) (fun c3 => ?_) (fun c3 => ?_)
    · have h := ip h c3
      refine lv_iconst (v := (-1)) hx hb dX2_digitHere_42 (by decide) ?_
      have h := so h
      subst h
      exact W.iret hx hb hr (fun t ht _ => ⟨rfl, ht⟩) (fun q h => absurd h List.not_mem_nil) dX2_digitHere_43
    · have h := iq h c3
      refine lv_iload_n hx hb dX2_digitHere_29 rfl (lv_at hl 0 rfl) ?_
      refine lv_bipush (v := 57) hx hb dX2_digitHere_30 (by decide) ?_
      refine lv_icmp_gt (tgt := 42) hx hb dX2_digitHere_32 (by decide) (fun c4 => ?_) (fun c4 => ?_)
      · have h := ip h c4
        refine lv_iconst (v := (-1)) hx hb dX2_digitHere_42 (by decide) ?_
        have h := so h
        subst h
        exact W.iret hx hb hr (fun t ht _ => ⟨rfl, ht⟩) (fun q h => absurd h List.not_mem_nil) dX2_digitHere_43
      · have h := iq h c4
        refine lv_iload_n hx hb dX2_digitHere_35 rfl (lv_at hl 0 rfl) ?_
        refine lv_bipush (v := 48) hx hb dX2_digitHere_36 (by decide) ?_
        refine lv_isub hx hb dX2_digitHere_38 ?_
        refine lv_goto (tgt := 43) hx hb dX2_digitHere_39 (by decide) ?_
        have h := so h
        subst h
        exact W.iret hx hb hr (fun t ht _ => ⟨rfl, ht⟩) (fun q h => absurd h List.not_mem_nil) dX2_digitHere_43
  · have h := iq h c1
    refine lv_iconst (v := (-1)) hx hb dX2_digitHere_11 (by decide) ?_
    have h := so h
    subst h
    exact W.iret hx hb hr (fun t ht _ => ⟨rfl, ht⟩) (fun q h => absurd h List.not_mem_nil) dX2_digitHere_12

theorem in_X2_takeNumber : ∀ w ∈ wsX20, w ∈ wsX2_takeNumber := by decide +kernel
def fX2_takeNumber (σ : St) (p1 : Int32) : Option (Int32 × St) := (fX2_digitHere σ).bind (fun r1 => if r1 = (-1) then (some ((-1), σ)) else ((fX2_digitHere (up σ 2 0 ((σ 2 0) + 1))).bind (fun r3 => if r1 = 0 then (some (r1, up σ 2 0 ((σ 2 0) + 1))) else (if r3 = (-1) then (some (r1, up σ 2 0 ((σ 2 0) + 1))) else (if ((r1 * 10) + r3) ≤ p1 then (some ((r1 * 10) + r3, up (up σ 2 0 ((σ 2 0) + 1)) 2 0 (((up σ 2 0 ((σ 2 0) + 1)) 2 0) + 1))) else (some (r1, up σ 2 0 ((σ 2 0) + 1))))))))
set_option maxHeartbeats 4000000 in
set_option maxRecDepth 100000 in
theorem kX2_takeNumber (l : Launch) (G : Gx) (b : Nat) (σ : St) (p1 : Int32) (r : Int32) (σ' : St) (h : fX2_takeNumber σ p1 = some (r, σ')) : Met l yX2_takeNumber wsX2_takeNumber (rmN 1) (pre G [.ref b, .int p1] (tAt G b σ)) (QcW b (b + 2) (tAt G b σ') (some (.int r))) 0 0 (lw_Fr b (b + 2)) := by
  refine Met.ofW (cc := cX2_takeNumber) (maxL := 4) (ret := (some .int)) (by decide) rfl ?_
  intro p e s m args below meth c s₁ B hml hv
  obtain ⟨rfl, X, hK⟩ := hv
  have hx := B.exec
  have hb := B.bytes
  have hr := B.returns
  have hts := atoms_spec (ws := wsX2_takeNumber) B.pre
  have hown : s.vm.findClass RX2 = some m.cls := findClass_of_methodNamed B.named
  have hlocks := B.notSynchronized
  have C : Cx p m c cX2_takeNumber 4 s _ wsX2_takeNumber RX2 G := ⟨⟨hx, hb, hml, hown, hts⟩, hK⟩
  have hin : ∀ w ∈ wsX20, w ∈ wsX2_takeNumber := in_X2_takeNumber
  have hS : va_S (lw_Fr b (b + 2)) s.heap s.heap [] := va_S.rf
  have hl := lv_entry ([.ref b, .int p1]) (n := 4) (Nat.le_of_ble_eq_true rfl)
  rw [lg_entry_eq]
  generalize (lg_sl ([.ref b, .int p1]) ++ List.replicate (4 - (lg_sl ([.ref b, .int p1])).length) Slot.unset).toArray = ls at hl ⊢
  have hl : lv_has ls 4 [(0, .ref b), (1, .int p1)] := hl
  unfold fX2_takeNumber at h
  refine lv_aload_n hx hb dX2_takeNumber_0 rfl (lv_at hl 0 rfl) ?_
  obtain ⟨r1, hr1, h⟩ := ob h
  refine rowV (As := []) (rest := []) C (kX2_digitHere l G b σ r1 hr1) (cwV 0 hts gX2_takeNumber_X2_digitHere rfl rfl rfl (by decide +kernel) ⟨Nat.le_of_ble_eq_true rfl, Nat.le_of_ble_eq_true rfl⟩) (rcv_X2 X hK) X rfl hl.1 rfl (Nat.le_of_ble_eq_true rfl) dX2_takeNumber_1 ⟨Nat.zero_le _, Nat.zero_le _⟩ ?_
  refine lv_istore_n (lv' := [(2, .int r1), (0, .ref b), (1, .int p1)]) hx hb dX2_takeNumber_4 rfl hl (by decide) rfl (fun ls hl => ?_)
  refine lv_iload_n hx hb dX2_takeNumber_5 rfl (lv_at hl 0 rfl) ?_
  refine lv_iconst (v := (-1)) hx hb dX2_takeNumber_6 (by decide) ?_
  refine lv_icmp_ne (tgt := 12) hx hb dX2_takeNumber_7 (by decide) (fun c2 => ?_) (fun c2 => ?_)
  · have h := iq h c2
    refine lv_aload_n hx hb dX2_takeNumber_12 rfl (lv_at hl 1 rfl) ?_
    refine lv_dup hx hb dX2_takeNumber_13 rfl ?_
    refine gt_X2_2 C hin X 1 rfl dX2_takeNumber_14 ?_
    refine lv_iconst (v := 1) hx hb dX2_takeNumber_17 (by decide) ?_
    refine lv_iadd hx hb dX2_takeNumber_18 ?_
    refine pt_X2_2 C hin X hS 1 rfl dX2_takeNumber_19 (fun H locs X hS => ?_)
    refine lv_aload_n hx hb dX2_takeNumber_22 rfl (lv_at hl 1 rfl) ?_
    obtain ⟨r3, hr3, h⟩ := ob h
    refine rowV (As := []) (rest := []) C (kX2_digitHere l G b (up σ 2 0 ((σ 2 0) + 1)) r3 hr3) (cwV 0 hts gX2_takeNumber_X2_digitHere rfl rfl rfl (by decide +kernel) ⟨Nat.le_of_ble_eq_true rfl, Nat.le_of_ble_eq_true rfl⟩) (rcv_X2 X hK) X rfl hl.1 rfl (Nat.le_of_ble_eq_true rfl) dX2_takeNumber_23 ⟨Nat.zero_le _, Nat.zero_le _⟩ ?_
    refine lv_istore_n (lv' := [(3, .int r3), (2, .int r1), (0, .ref b), (1, .int p1)]) hx hb dX2_takeNumber_26 rfl hl (by decide) rfl (fun ls hl => ?_)
    refine lv_iload_n hx hb dX2_takeNumber_27 rfl (lv_at hl 1 rfl) ?_
    refine lv_if_eq (tgt := 46) hx hb dX2_takeNumber_28 (by decide) (fun c4 => ?_) (fun c4 => ?_)
    · have h := ip h c4
      refine lv_iload_n hx hb dX2_takeNumber_46 rfl (lv_at hl 1 rfl) ?_
      obtain ⟨h, h9⟩ := pr h
      subst h
      subst h9
      exact W.iret hx hb hr (fun t ht _ => ⟨rfl, by rw [ht]; exact X, hS.F ht⟩) hS.2.2 dX2_takeNumber_47
    · have h := iq h c4
      refine lv_iload_n hx hb dX2_takeNumber_31 rfl (lv_at hl 0 rfl) ?_
      refine lv_iconst (v := (-1)) hx hb dX2_takeNumber_32 (by decide) ?_
      refine lv_icmp_eq (tgt := 46) hx hb dX2_takeNumber_33 (by decide) (fun c5 => ?_) (fun c5 => ?_)
      · have h := ip h c5
        refine lv_iload_n hx hb dX2_takeNumber_46 rfl (lv_at hl 1 rfl) ?_
        obtain ⟨h, h9⟩ := pr h
        subst h
        subst h9
        exact W.iret hx hb hr (fun t ht _ => ⟨rfl, by rw [ht]; exact X, hS.F ht⟩) hS.2.2 dX2_takeNumber_47
      · have h := iq h c5
        refine lv_iload_n hx hb dX2_takeNumber_36 rfl (lv_at hl 1 rfl) ?_
        refine lv_bipush (v := 10) hx hb dX2_takeNumber_37 (by decide) ?_
        refine lv_imul hx hb dX2_takeNumber_39 ?_
        refine lv_iload_n hx hb dX2_takeNumber_40 rfl (lv_at hl 0 rfl) ?_
        refine lv_iadd hx hb dX2_takeNumber_41 ?_
        refine lv_iload_n hx hb dX2_takeNumber_42 rfl (lv_at hl 3 rfl) ?_
        refine lv_icmp_le (tgt := 48) hx hb dX2_takeNumber_43 (by decide) (fun c6 => ?_) (fun c6 => ?_)
        · have h := ip h c6
          refine lv_aload_n hx hb dX2_takeNumber_48 rfl (lv_at hl 2 rfl) ?_
          refine lv_dup hx hb dX2_takeNumber_49 rfl ?_
          refine gt_X2_2 C hin X 1 rfl dX2_takeNumber_50 ?_
          refine lv_iconst (v := 1) hx hb dX2_takeNumber_53 (by decide) ?_
          refine lv_iadd hx hb dX2_takeNumber_54 ?_
          refine pt_X2_2 C hin X hS 1 rfl dX2_takeNumber_55 (fun H locs X hS => ?_)
          refine lv_iload_n hx hb dX2_takeNumber_58 rfl (lv_at hl 1 rfl) ?_
          refine lv_bipush (v := 10) hx hb dX2_takeNumber_59 (by decide) ?_
          refine lv_imul hx hb dX2_takeNumber_61 ?_
          refine lv_iload_n hx hb dX2_takeNumber_62 rfl (lv_at hl 0 rfl) ?_
          refine lv_iadd hx hb dX2_takeNumber_63 ?_
          obtain ⟨h, h9⟩ := pr h
          subst h
          subst h9
          exact W.iret hx hb hr (fun t ht _ => ⟨rfl, by rw [ht]; exact X, hS.F ht⟩) hS.2.2 dX2_takeNumber_64
        · have h := iq h c6
          refine lv_iload_n hx hb dX2_takeNumber_46 rfl (lv_at hl 1 rfl) ?_
          obtain ⟨h, h9⟩ := pr h
          subst h
          subst h9
          exact W.iret hx hb hr (fun t ht _ => ⟨rfl, by rw [ht]; exact X, hS.F ht⟩) hS.2.2 dX2_takeNumber_47
  · have h := ip h c2
    refine lv_iconst (v := (-1)) hx hb dX2_takeNumber_10 (by decide) ?_
    obtain ⟨h, h9⟩ := pr h
    subst h
    subst h9
    exact W.iret hx hb hr (fun t ht _ => ⟨rfl, by rw [ht]; exact X, hS.F ht⟩) hS.2.2 dX2_takeNumber_11

theorem in_X2_readClaim : ∀ w ∈ wsX20, w ∈ wsX2_readClaim := by decide +kernel
def fX2_readClaim (σ : St) : Option (Int32 × St) := (fX2_takeNumber σ 99).bind (fun q3 => if ((up q3.2 5 0 q3.1) 5 0) = (-1) then (some (0, up q3.2 5 0 q3.1)) else (some (1, up q3.2 5 0 q3.1)))
set_option maxHeartbeats 4000000 in
set_option maxRecDepth 100000 in
theorem kX2_readClaim (l : Launch) (G : Gx) (b : Nat) (σ : St) (r : Int32) (σ' : St) (h : fX2_readClaim σ = some (r, σ')) : Met l yX2_readClaim wsX2_readClaim (rmN 2) (pre G [.ref b] (tAt G b σ)) (QcW b (b + 2) (tAt G b σ') (some (.int r))) 0 0 (lw_Fr b (b + 2)) := by
  refine Met.ofW (cc := cX2_readClaim) (maxL := 1) (ret := (some .boolean)) (by decide) rfl ?_
  intro p e s m args below meth c s₁ B hml hv
  obtain ⟨rfl, X, hK⟩ := hv
  have hx := B.exec
  have hb := B.bytes
  have hr := B.returns
  have hts := atoms_spec (ws := wsX2_readClaim) B.pre
  have hown : s.vm.findClass RX2 = some m.cls := findClass_of_methodNamed B.named
  have hlocks := B.notSynchronized
  have C : Cx p m c cX2_readClaim 1 s _ wsX2_readClaim RX2 G := ⟨⟨hx, hb, hml, hown, hts⟩, hK⟩
  have hin : ∀ w ∈ wsX20, w ∈ wsX2_readClaim := in_X2_readClaim
  have hS : va_S (lw_Fr b (b + 2)) s.heap s.heap [] := va_S.rf
  have hl := lv_entry ([.ref b]) (n := 1) (Nat.le_of_ble_eq_true rfl)
  rw [lg_entry_eq]
  generalize (lg_sl ([.ref b]) ++ List.replicate (1 - (lg_sl ([.ref b])).length) Slot.unset).toArray = ls at hl ⊢
  have hl : lv_has ls 1 [(0, .ref b)] := hl
  unfold fX2_readClaim at h
  refine lv_aload_n hx hb dX2_readClaim_0 rfl (lv_at hl 0 rfl) ?_
  refine lv_aload_n hx hb dX2_readClaim_1 rfl (lv_at hl 0 rfl) ?_
  refine lv_bipush (v := 99) hx hb dX2_readClaim_2 (by decide) ?_
  obtain ⟨q3, hr1, h⟩ := ob h
  refine rowW (As := [.int 99]) (rest := [.ref b]) C (kX2_takeNumber l G b σ 99 q3.1 q3.2 hr1) (cwV 1 hts gX2_readClaim_X2_takeNumber rfl rfl rfl (by decide +kernel) ⟨Nat.le_of_ble_eq_true rfl, Nat.le_of_ble_eq_true rfl⟩) (rcv_X2 X hK) X hS (fun _ z => z) rfl hl.1 rfl (Nat.le_of_ble_eq_true rfl) dX2_readClaim_4 ⟨Nat.zero_le _, Nat.zero_le _⟩ (fun H locs X hS _ _ => ?_)
  show W p l e _ s m _ below meth c H locs 0 0 _ (F0 m 7 ls [.int q3.1, .ref b])
  refine pt_X2_5 C hin X hS 1 rfl dX2_readClaim_7 (fun H locs X hS => ?_)
  refine lv_aload_n hx hb dX2_readClaim_10 rfl (lv_at hl 0 rfl) ?_
  refine gt_X2_5 C hin X 1 rfl dX2_readClaim_11 ?_
  refine lv_iconst (v := (-1)) hx hb dX2_readClaim_14 (by decide) ?_
  refine lv_icmp_eq (tgt := 22) hx hb dX2_readClaim_15 (by decide) (fun c4 => ?_) (fun c4 => ?_)
  · have h := ip h c4
    refine lv_iconst (v := 0) hx hb dX2_readClaim_22 (by decide) ?_
    obtain ⟨h, h9⟩ := pr h
    subst h
    subst h9
    exact W.zret hx hb hr rfl (fun t ht _ => ⟨rfl, by rw [ht]; exact X, hS.F ht⟩) hS.2.2 dX2_readClaim_23
  · have h := iq h c4
    refine lv_iconst (v := 1) hx hb dX2_readClaim_18 (by decide) ?_
    refine lv_goto (tgt := 23) hx hb dX2_readClaim_19 (by decide) ?_
    obtain ⟨h, h9⟩ := pr h
    subst h
    subst h9
    exact W.zret hx hb hr rfl (fun t ht _ => ⟨rfl, by rw [ht]; exact X, hS.F ht⟩) hS.2.2 dX2_readClaim_23

theorem in_X2_readLoad : ∀ w ∈ wsX20, w ∈ wsX2_readLoad := by decide +kernel
def fX2_readLoad (σ : St) : Option (Int32 × St) := (fX2_takeNumber σ 99).bind (fun q3 => if ((up q3.2 6 0 q3.1) 6 0) = (-1) then (some (0, up q3.2 6 0 q3.1)) else (some (1, up q3.2 6 0 q3.1)))
set_option maxHeartbeats 4000000 in
set_option maxRecDepth 100000 in
theorem kX2_readLoad (l : Launch) (G : Gx) (b : Nat) (σ : St) (r : Int32) (σ' : St) (h : fX2_readLoad σ = some (r, σ')) : Met l yX2_readLoad wsX2_readLoad (rmN 2) (pre G [.ref b] (tAt G b σ)) (QcW b (b + 2) (tAt G b σ') (some (.int r))) 0 0 (lw_Fr b (b + 2)) := by
  refine Met.ofW (cc := cX2_readLoad) (maxL := 1) (ret := (some .boolean)) (by decide) rfl ?_
  intro p e s m args below meth c s₁ B hml hv
  obtain ⟨rfl, X, hK⟩ := hv
  have hx := B.exec
  have hb := B.bytes
  have hr := B.returns
  have hts := atoms_spec (ws := wsX2_readLoad) B.pre
  have hown : s.vm.findClass RX2 = some m.cls := findClass_of_methodNamed B.named
  have hlocks := B.notSynchronized
  have C : Cx p m c cX2_readLoad 1 s _ wsX2_readLoad RX2 G := ⟨⟨hx, hb, hml, hown, hts⟩, hK⟩
  have hin : ∀ w ∈ wsX20, w ∈ wsX2_readLoad := in_X2_readLoad
  have hS : va_S (lw_Fr b (b + 2)) s.heap s.heap [] := va_S.rf
  have hl := lv_entry ([.ref b]) (n := 1) (Nat.le_of_ble_eq_true rfl)
  rw [lg_entry_eq]
  generalize (lg_sl ([.ref b]) ++ List.replicate (1 - (lg_sl ([.ref b])).length) Slot.unset).toArray = ls at hl ⊢
  have hl : lv_has ls 1 [(0, .ref b)] := hl
  unfold fX2_readLoad at h
  refine lv_aload_n hx hb dX2_readLoad_0 rfl (lv_at hl 0 rfl) ?_
  refine lv_aload_n hx hb dX2_readLoad_1 rfl (lv_at hl 0 rfl) ?_
  refine lv_bipush (v := 99) hx hb dX2_readLoad_2 (by decide) ?_
  obtain ⟨q3, hr1, h⟩ := ob h
  refine rowW (As := [.int 99]) (rest := [.ref b]) C (kX2_takeNumber l G b σ 99 q3.1 q3.2 hr1) (cwV 1 hts gX2_readLoad_X2_takeNumber rfl rfl rfl (by decide +kernel) ⟨Nat.le_of_ble_eq_true rfl, Nat.le_of_ble_eq_true rfl⟩) (rcv_X2 X hK) X hS (fun _ z => z) rfl hl.1 rfl (Nat.le_of_ble_eq_true rfl) dX2_readLoad_4 ⟨Nat.zero_le _, Nat.zero_le _⟩ (fun H locs X hS _ _ => ?_)
  show W p l e _ s m _ below meth c H locs 0 0 _ (F0 m 7 ls [.int q3.1, .ref b])
  refine pt_X2_6 C hin X hS 1 rfl dX2_readLoad_7 (fun H locs X hS => ?_)
  refine lv_aload_n hx hb dX2_readLoad_10 rfl (lv_at hl 0 rfl) ?_
  refine gt_X2_6 C hin X 1 rfl dX2_readLoad_11 ?_
  refine lv_iconst (v := (-1)) hx hb dX2_readLoad_14 (by decide) ?_
  refine lv_icmp_eq (tgt := 22) hx hb dX2_readLoad_15 (by decide) (fun c4 => ?_) (fun c4 => ?_)
  · have h := ip h c4
    refine lv_iconst (v := 0) hx hb dX2_readLoad_22 (by decide) ?_
    obtain ⟨h, h9⟩ := pr h
    subst h
    subst h9
    exact W.zret hx hb hr rfl (fun t ht _ => ⟨rfl, by rw [ht]; exact X, hS.F ht⟩) hS.2.2 dX2_readLoad_23
  · have h := iq h c4
    refine lv_iconst (v := 1) hx hb dX2_readLoad_18 (by decide) ?_
    refine lv_goto (tgt := 23) hx hb dX2_readLoad_19 (by decide) ?_
    obtain ⟨h, h9⟩ := pr h
    subst h
    subst h9
    exact W.zret hx hb hr rfl (fun t ht _ => ⟨rfl, by rw [ht]; exact X, hS.F ht⟩) hS.2.2 dX2_readLoad_23

theorem in_X2_readCart : ∀ w ∈ wsX20, w ∈ wsX2_readCart := by decide +kernel
def fX2_readCart (σ : St) : Option (Int32 × St) := (fX2_takeNumber σ 23).bind (fun q3 => if ((up q3.2 4 0 q3.1) 4 0) = (-1) then (some (0, up q3.2 4 0 q3.1)) else (some (1, up q3.2 4 0 q3.1)))
set_option maxHeartbeats 4000000 in
set_option maxRecDepth 100000 in
theorem kX2_readCart (l : Launch) (G : Gx) (b : Nat) (σ : St) (r : Int32) (σ' : St) (h : fX2_readCart σ = some (r, σ')) : Met l yX2_readCart wsX2_readCart (rmN 2) (pre G [.ref b] (tAt G b σ)) (QcW b (b + 2) (tAt G b σ') (some (.int r))) 0 0 (lw_Fr b (b + 2)) := by
  refine Met.ofW (cc := cX2_readCart) (maxL := 1) (ret := (some .boolean)) (by decide) rfl ?_
  intro p e s m args below meth c s₁ B hml hv
  obtain ⟨rfl, X, hK⟩ := hv
  have hx := B.exec
  have hb := B.bytes
  have hr := B.returns
  have hts := atoms_spec (ws := wsX2_readCart) B.pre
  have hown : s.vm.findClass RX2 = some m.cls := findClass_of_methodNamed B.named
  have hlocks := B.notSynchronized
  have C : Cx p m c cX2_readCart 1 s _ wsX2_readCart RX2 G := ⟨⟨hx, hb, hml, hown, hts⟩, hK⟩
  have hin : ∀ w ∈ wsX20, w ∈ wsX2_readCart := in_X2_readCart
  have hS : va_S (lw_Fr b (b + 2)) s.heap s.heap [] := va_S.rf
  have hl := lv_entry ([.ref b]) (n := 1) (Nat.le_of_ble_eq_true rfl)
  rw [lg_entry_eq]
  generalize (lg_sl ([.ref b]) ++ List.replicate (1 - (lg_sl ([.ref b])).length) Slot.unset).toArray = ls at hl ⊢
  have hl : lv_has ls 1 [(0, .ref b)] := hl
  unfold fX2_readCart at h
  refine lv_aload_n hx hb dX2_readCart_0 rfl (lv_at hl 0 rfl) ?_
  refine lv_aload_n hx hb dX2_readCart_1 rfl (lv_at hl 0 rfl) ?_
  refine lv_bipush (v := 23) hx hb dX2_readCart_2 (by decide) ?_
  obtain ⟨q3, hr1, h⟩ := ob h
  refine rowW (As := [.int 23]) (rest := [.ref b]) C (kX2_takeNumber l G b σ 23 q3.1 q3.2 hr1) (cwV 1 hts gX2_readCart_X2_takeNumber rfl rfl rfl (by decide +kernel) ⟨Nat.le_of_ble_eq_true rfl, Nat.le_of_ble_eq_true rfl⟩) (rcv_X2 X hK) X hS (fun _ z => z) rfl hl.1 rfl (Nat.le_of_ble_eq_true rfl) dX2_readCart_4 ⟨Nat.zero_le _, Nat.zero_le _⟩ (fun H locs X hS _ _ => ?_)
  show W p l e _ s m _ below meth c H locs 0 0 _ (F0 m 7 ls [.int q3.1, .ref b])
  refine pt_X2_4 C hin X hS 1 rfl dX2_readCart_7 (fun H locs X hS => ?_)
  refine lv_aload_n hx hb dX2_readCart_10 rfl (lv_at hl 0 rfl) ?_
  refine gt_X2_4 C hin X 1 rfl dX2_readCart_11 ?_
  refine lv_iconst (v := (-1)) hx hb dX2_readCart_14 (by decide) ?_
  refine lv_icmp_eq (tgt := 22) hx hb dX2_readCart_15 (by decide) (fun c4 => ?_) (fun c4 => ?_)
  · have h := ip h c4
    refine lv_iconst (v := 0) hx hb dX2_readCart_22 (by decide) ?_
    obtain ⟨h, h9⟩ := pr h
    subst h
    subst h9
    exact W.zret hx hb hr rfl (fun t ht _ => ⟨rfl, by rw [ht]; exact X, hS.F ht⟩) hS.2.2 dX2_readCart_23
  · have h := iq h c4
    refine lv_iconst (v := 1) hx hb dX2_readCart_18 (by decide) ?_
    refine lv_goto (tgt := 23) hx hb dX2_readCart_19 (by decide) ?_
    obtain ⟨h, h9⟩ := pr h
    subst h
    subst h9
    exact W.zret hx hb hr rfl (fun t ht _ => ⟨rfl, by rw [ht]; exact X, hS.F ht⟩) hS.2.2 dX2_readCart_23

theorem in_X2_readOrder : ∀ w ∈ wsX20, w ∈ wsX2_readOrder := by decide +kernel
def fX2_readOrder (σ : St) : Option (Int32 × St) := (fX2_takesKind (up σ 4 0 (-1)) 99).bind (fun q3 => if q3.1 = 0 then ((fX2_takesKind q3.2 111).bind (fun q7 => if q7.1 = 0 then ((fX2_takesKind q7.2 115).bind (fun q16 => if q16.1 = 0 then ((fX2_takesKind q16.2 120).bind (fun q20 => if q20.1 = 0 then (some (0, q20.2)) else ((fX2_readCart q20.2).bind (fun q24 => if q24.1 = 0 then (some (0, q24.2)) else ((fX2_takes q24.2 61).bind (fun q28 => if q28.1 = 0 then (some (0, q28.2)) else ((fX2_readClaim q28.2).bind (fun q32 => if q32.1 = 0 then (some (0, q32.2)) else (some (1, q32.2)))))))))) else ((fX2_readCart q16.2).bind (fun q36 => if ¬ (q36.1 = 0 ∨ q36.1 = 1) then none else some (q36.1, q36.2))))) else ((fX2_readCart q7.2).bind (fun q11 => if ¬ (q11.1 = 0 ∨ q11.1 = 1) then none else some (q11.1, q11.2))))) else ((fX2_readClaim q3.2).bind (fun q41 => if q41.1 = 0 then (some (0, q41.2)) else ((fX2_takes q41.2 47).bind (fun q45 => if q45.1 = 0 then (some (0, q45.2)) else ((fX2_readLoad q45.2).bind (fun q49 => if q49.1 = 0 then (some (0, q49.2)) else ((fX2_takes q49.2 62).bind (fun q53 => if q53.1 = 0 then (some (1, q53.2)) else ((fX2_readCart q53.2).bind (fun q57 => if q57.1 = 0 then (some (0, q57.2)) else (some (1, q57.2)))))))))))))
set_option maxHeartbeats 4000000 in
set_option maxRecDepth 100000 in
theorem kX2_readOrder (l : Launch) (G : Gx) (b : Nat) (σ : St) (r : Int32) (σ' : St) (h : fX2_readOrder σ = some (r, σ')) : Met l yX2_readOrder wsX2_readOrder (rmN 3) (pre G [.ref b] (tAt G b σ)) (QcW b (b + 2) (tAt G b σ') (some (.int r))) 0 0 (lw_Fr b (b + 2)) := by
  refine Met.ofW (cc := cX2_readOrder) (maxL := 1) (ret := (some .boolean)) (by decide) rfl ?_
  intro p e s m args below meth c s₁ B hml hv
  obtain ⟨rfl, X, hK⟩ := hv
  have hx := B.exec
  have hb := B.bytes
  have hr := B.returns
  have hts := atoms_spec (ws := wsX2_readOrder) B.pre
  have hown : s.vm.findClass RX2 = some m.cls := findClass_of_methodNamed B.named
  have hlocks := B.notSynchronized
  have C : Cx p m c cX2_readOrder 1 s _ wsX2_readOrder RX2 G := ⟨⟨hx, hb, hml, hown, hts⟩, hK⟩
  have hin : ∀ w ∈ wsX20, w ∈ wsX2_readOrder := in_X2_readOrder
  have hS : va_S (lw_Fr b (b + 2)) s.heap s.heap [] := va_S.rf
  have hl := lv_entry ([.ref b]) (n := 1) (Nat.le_of_ble_eq_true rfl)
  rw [lg_entry_eq]
  generalize (lg_sl ([.ref b]) ++ List.replicate (1 - (lg_sl ([.ref b])).length) Slot.unset).toArray = ls at hl ⊢
  have hl : lv_has ls 1 [(0, .ref b)] := hl
  unfold fX2_readOrder at h
  refine lv_aload_n hx hb dX2_readOrder_0 rfl (lv_at hl 0 rfl) ?_
  refine lv_iconst (v := (-1)) hx hb dX2_readOrder_1 (by decide) ?_
  refine pt_X2_4 C hin X hS 1 rfl dX2_readOrder_2 (fun H locs X hS => ?_)
  refine lv_aload_n hx hb dX2_readOrder_5 rfl (lv_at hl 0 rfl) ?_
  refine lv_bipush (v := 99) hx hb dX2_readOrder_6 (by decide) ?_
  obtain ⟨q3, hr1, h⟩ := ob h
  refine rowW (As := [.int 99]) (rest := []) C (kX2_takesKind l G b (up σ 4 0 (-1)) 99 q3.1 q3.2 hr1) (cwV 1 hts gX2_readOrder_X2_takesKind rfl rfl rfl (by decide +kernel) ⟨Nat.le_of_ble_eq_true rfl, Nat.le_of_ble_eq_true rfl⟩) (rcv_X2 X hK) X hS (fun _ z => z) rfl hl.1 rfl (Nat.le_of_ble_eq_true rfl) dX2_readOrder_8 ⟨Nat.zero_le _, Nat.zero_le _⟩ (fun H locs X hS _ _ => ?_)
  show W p l e _ s m _ below meth c H locs 0 0 _ (F0 m 11 ls [.int q3.1])
  refine lv_if_eq (tgt := 59) hx hb dX2_readOrder_11 (by decide) (fun c4 => ?_) (fun c4 => ?_)
  · have h := ip h c4
    refine lv_aload_n hx hb dX2_readOrder_59 rfl (lv_at hl 0 rfl) ?_
    refine lv_bipush (v := 111) hx hb dX2_readOrder_60 (by decide) ?_
    obtain ⟨q7, hr5, h⟩ := ob h
    refine rowW (As := [.int 111]) (rest := []) C (kX2_takesKind l G b q3.2 111 q7.1 q7.2 hr5) (cwV 1 hts gX2_readOrder_X2_takesKind rfl rfl rfl (by decide +kernel) ⟨Nat.le_of_ble_eq_true rfl, Nat.le_of_ble_eq_true rfl⟩) (rcv_X2 X hK) X hS (fun _ z => z) rfl hl.1 rfl (Nat.le_of_ble_eq_true rfl) dX2_readOrder_62 ⟨Nat.zero_le _, Nat.zero_le _⟩ (fun H locs X hS _ _ => ?_)
    show W p l e _ s m _ below meth c H locs 0 0 _ (F0 m 65 ls [.int q7.1])
    refine lv_if_ne (tgt := 77) hx hb dX2_readOrder_65 (by decide) (fun c8 => ?_) (fun c8 => ?_)
    · have h := iq h c8
      refine lv_aload_n hx hb dX2_readOrder_77 rfl (lv_at hl 0 rfl) ?_
      obtain ⟨q11, hr9, h⟩ := ob h
      refine rowW (As := []) (rest := []) C (kX2_readCart l G b q7.2 q11.1 q11.2 hr9) (cwV 0 hts gX2_readOrder_X2_readCart rfl rfl rfl (by decide +kernel) ⟨Nat.le_of_ble_eq_true rfl, Nat.le_of_ble_eq_true rfl⟩) (rcv_X2 X hK) X hS (fun _ z => z) rfl hl.1 rfl (Nat.le_of_ble_eq_true rfl) dX2_readOrder_78 ⟨Nat.zero_le _, Nat.zero_le _⟩ (fun H locs X hS _ _ => ?_)
      show W p l e _ s m _ below meth c H locs 0 0 _ (F0 m 81 ls [.int q11.1])
      obtain ⟨c13, h⟩ := og h
      have n12 := nz_of c13
      obtain ⟨h, h9⟩ := pr h
      subst h
      subst h9
      exact W.zret hx hb hr n12.1 (fun t ht _ => ⟨rfl, by rw [ht]; exact X, hS.F ht⟩) hS.2.2 dX2_readOrder_81
    · have h := ip h c8
      refine lv_aload_n hx hb dX2_readOrder_68 rfl (lv_at hl 0 rfl) ?_
      refine lv_bipush (v := 115) hx hb dX2_readOrder_69 (by decide) ?_
      obtain ⟨q16, hr14, h⟩ := ob h
      refine rowW (As := [.int 115]) (rest := []) C (kX2_takesKind l G b q7.2 115 q16.1 q16.2 hr14) (cwV 1 hts gX2_readOrder_X2_takesKind rfl rfl rfl (by decide +kernel) ⟨Nat.le_of_ble_eq_true rfl, Nat.le_of_ble_eq_true rfl⟩) (rcv_X2 X hK) X hS (fun _ z => z) rfl hl.1 rfl (Nat.le_of_ble_eq_true rfl) dX2_readOrder_71 ⟨Nat.zero_le _, Nat.zero_le _⟩ (fun H locs X hS _ _ => ?_)
      show W p l e _ s m _ below meth c H locs 0 0 _ (F0 m 74 ls [.int q16.1])
      refine lv_if_eq (tgt := 82) hx hb dX2_readOrder_74 (by decide) (fun c17 => ?_) (fun c17 => ?_)
      · have h := ip h c17
        refine lv_aload_n hx hb dX2_readOrder_82 rfl (lv_at hl 0 rfl) ?_
        refine lv_bipush (v := 120) hx hb dX2_readOrder_83 (by decide) ?_
        obtain ⟨q20, hr18, h⟩ := ob h
        refine rowW (As := [.int 120]) (rest := []) C (kX2_takesKind l G b q16.2 120 q20.1 q20.2 hr18) (cwV 1 hts gX2_readOrder_X2_takesKind rfl rfl rfl (by decide +kernel) ⟨Nat.le_of_ble_eq_true rfl, Nat.le_of_ble_eq_true rfl⟩) (rcv_X2 X hK) X hS (fun _ z => z) rfl hl.1 rfl (Nat.le_of_ble_eq_true rfl) dX2_readOrder_85 ⟨Nat.zero_le _, Nat.zero_le _⟩ (fun H locs X hS _ _ => ?_)
        show W p l e _ s m _ below meth c H locs 0 0 _ (F0 m 88 ls [.int q20.1])
        refine lv_if_eq (tgt := 118) hx hb dX2_readOrder_88 (by decide) (fun c21 => ?_) (fun c21 => ?_)
        · have h := ip h c21
          refine lv_iconst (v := 0) hx hb dX2_readOrder_118 (by decide) ?_
          obtain ⟨h, h9⟩ := pr h
          subst h
          subst h9
          exact W.zret hx hb hr rfl (fun t ht _ => ⟨rfl, by rw [ht]; exact X, hS.F ht⟩) hS.2.2 dX2_readOrder_119
        · have h := iq h c21
          refine lv_aload_n hx hb dX2_readOrder_91 rfl (lv_at hl 0 rfl) ?_
          obtain ⟨q24, hr22, h⟩ := ob h
          refine rowW (As := []) (rest := []) C (kX2_readCart l G b q20.2 q24.1 q24.2 hr22) (cwV 0 hts gX2_readOrder_X2_readCart rfl rfl rfl (by decide +kernel) ⟨Nat.le_of_ble_eq_true rfl, Nat.le_of_ble_eq_true rfl⟩) (rcv_X2 X hK) X hS (fun _ z => z) rfl hl.1 rfl (Nat.le_of_ble_eq_true rfl) dX2_readOrder_92 ⟨Nat.zero_le _, Nat.zero_le _⟩ (fun H locs X hS _ _ => ?_)
          show W p l e _ s m _ below meth c H locs 0 0 _ (F0 m 95 ls [.int q24.1])
          refine lv_if_eq (tgt := 118) hx hb dX2_readOrder_95 (by decide) (fun c25 => ?_) (fun c25 => ?_)
          · have h := ip h c25
            refine lv_iconst (v := 0) hx hb dX2_readOrder_118 (by decide) ?_
            obtain ⟨h, h9⟩ := pr h
            subst h
            subst h9
            exact W.zret hx hb hr rfl (fun t ht _ => ⟨rfl, by rw [ht]; exact X, hS.F ht⟩) hS.2.2 dX2_readOrder_119
          · have h := iq h c25
            refine lv_aload_n hx hb dX2_readOrder_98 rfl (lv_at hl 0 rfl) ?_
            refine lv_bipush (v := 61) hx hb dX2_readOrder_99 (by decide) ?_
            obtain ⟨q28, hr26, h⟩ := ob h
            refine rowW (As := [.int 61]) (rest := []) C (kX2_takes l G b q24.2 61 q28.1 q28.2 hr26) (cwV 1 hts gX2_readOrder_X2_takes rfl rfl rfl (by decide +kernel) ⟨Nat.le_of_ble_eq_true rfl, Nat.le_of_ble_eq_true rfl⟩) (rcv_X2 X hK) X hS (fun _ z => z) rfl hl.1 rfl (Nat.le_of_ble_eq_true rfl) dX2_readOrder_101 ⟨Nat.zero_le _, Nat.zero_le _⟩ (fun H locs X hS _ _ => ?_)
            show W p l e _ s m _ below meth c H locs 0 0 _ (F0 m 104 ls [.int q28.1])
            refine lv_if_eq (tgt := 118) hx hb dX2_readOrder_104 (by decide) (fun c29 => ?_) (fun c29 => ?_)
            · have h := ip h c29
              refine lv_iconst (v := 0) hx hb dX2_readOrder_118 (by decide) ?_
              obtain ⟨h, h9⟩ := pr h
              subst h
              subst h9
              exact W.zret hx hb hr rfl (fun t ht _ => ⟨rfl, by rw [ht]; exact X, hS.F ht⟩) hS.2.2 dX2_readOrder_119
            · have h := iq h c29
              refine lv_aload_n hx hb dX2_readOrder_107 rfl (lv_at hl 0 rfl) ?_
              obtain ⟨q32, hr30, h⟩ := ob h
              refine rowW (As := []) (rest := []) C (kX2_readClaim l G b q28.2 q32.1 q32.2 hr30) (cwV 0 hts gX2_readOrder_X2_readClaim rfl rfl rfl (by decide +kernel) ⟨Nat.le_of_ble_eq_true rfl, Nat.le_of_ble_eq_true rfl⟩) (rcv_X2 X hK) X hS (fun _ z => z) rfl hl.1 rfl (Nat.le_of_ble_eq_true rfl) dX2_readOrder_108 ⟨Nat.zero_le _, Nat.zero_le _⟩ (fun H locs X hS _ _ => ?_)
              show W p l e _ s m _ below meth c H locs 0 0 _ (F0 m 111 ls [.int q32.1])
              refine lv_if_eq (tgt := 118) hx hb dX2_readOrder_111 (by decide) (fun c33 => ?_) (fun c33 => ?_)
              · have h := ip h c33
                refine lv_iconst (v := 0) hx hb dX2_readOrder_118 (by decide) ?_
                obtain ⟨h, h9⟩ := pr h
                subst h
                subst h9
                exact W.zret hx hb hr rfl (fun t ht _ => ⟨rfl, by rw [ht]; exact X, hS.F ht⟩) hS.2.2 dX2_readOrder_119
              · have h := iq h c33
                refine lv_iconst (v := 1) hx hb dX2_readOrder_114 (by decide) ?_
                refine lv_goto (tgt := 119) hx hb dX2_readOrder_115 (by decide) ?_
                obtain ⟨h, h9⟩ := pr h
                subst h
                subst h9
                exact W.zret hx hb hr rfl (fun t ht _ => ⟨rfl, by rw [ht]; exact X, hS.F ht⟩) hS.2.2 dX2_readOrder_119
      · have h := iq h c17
        refine lv_aload_n hx hb dX2_readOrder_77 rfl (lv_at hl 0 rfl) ?_
        obtain ⟨q36, hr34, h⟩ := ob h
        refine rowW (As := []) (rest := []) C (kX2_readCart l G b q16.2 q36.1 q36.2 hr34) (cwV 0 hts gX2_readOrder_X2_readCart rfl rfl rfl (by decide +kernel) ⟨Nat.le_of_ble_eq_true rfl, Nat.le_of_ble_eq_true rfl⟩) (rcv_X2 X hK) X hS (fun _ z => z) rfl hl.1 rfl (Nat.le_of_ble_eq_true rfl) dX2_readOrder_78 ⟨Nat.zero_le _, Nat.zero_le _⟩ (fun H locs X hS _ _ => ?_)
        show W p l e _ s m _ below meth c H locs 0 0 _ (F0 m 81 ls [.int q36.1])
        obtain ⟨c38, h⟩ := og h
        have n37 := nz_of c38
        obtain ⟨h, h9⟩ := pr h
        subst h
        subst h9
        exact W.zret hx hb hr n37.1 (fun t ht _ => ⟨rfl, by rw [ht]; exact X, hS.F ht⟩) hS.2.2 dX2_readOrder_81
  · have h := iq h c4
    refine lv_aload_n hx hb dX2_readOrder_14 rfl (lv_at hl 0 rfl) ?_
    obtain ⟨q41, hr39, h⟩ := ob h
    refine rowW (As := []) (rest := []) C (kX2_readClaim l G b q3.2 q41.1 q41.2 hr39) (cwV 0 hts gX2_readOrder_X2_readClaim rfl rfl rfl (by decide +kernel) ⟨Nat.le_of_ble_eq_true rfl, Nat.le_of_ble_eq_true rfl⟩) (rcv_X2 X hK) X hS (fun _ z => z) rfl hl.1 rfl (Nat.le_of_ble_eq_true rfl) dX2_readOrder_15 ⟨Nat.zero_le _, Nat.zero_le _⟩ (fun H locs X hS _ _ => ?_)
    show W p l e _ s m _ below meth c H locs 0 0 _ (F0 m 18 ls [.int q41.1])
    refine lv_if_eq (tgt := 57) hx hb dX2_readOrder_18 (by decide) (fun c42 => ?_) (fun c42 => ?_)
    · have h := ip h c42
      refine lv_iconst (v := 0) hx hb dX2_readOrder_57 (by decide) ?_
      obtain ⟨h, h9⟩ := pr h
      subst h
      subst h9
      exact W.zret hx hb hr rfl (fun t ht _ => ⟨rfl, by rw [ht]; exact X, hS.F ht⟩) hS.2.2 dX2_readOrder_58
    · have h := iq h c42
      refine lv_aload_n hx hb dX2_readOrder_21 rfl (lv_at hl 0 rfl) ?_
      refine lv_bipush (v := 47) hx hb dX2_readOrder_22 (by decide) ?_
      obtain ⟨q45, hr43, h⟩ := ob h
      refine rowW (As := [.int 47]) (rest := []) C (kX2_takes l G b q41.2 47 q45.1 q45.2 hr43) (cwV 1 hts gX2_readOrder_X2_takes rfl rfl rfl (by decide +kernel) ⟨Nat.le_of_ble_eq_true rfl, Nat.le_of_ble_eq_true rfl⟩) (rcv_X2 X hK) X hS (fun _ z => z) rfl hl.1 rfl (Nat.le_of_ble_eq_true rfl) dX2_readOrder_24 ⟨Nat.zero_le _, Nat.zero_le _⟩ (fun H locs X hS _ _ => ?_)
      show W p l e _ s m _ below meth c H locs 0 0 _ (F0 m 27 ls [.int q45.1])
      refine lv_if_eq (tgt := 57) hx hb dX2_readOrder_27 (by decide) (fun c46 => ?_) (fun c46 => ?_)
      · have h := ip h c46
        refine lv_iconst (v := 0) hx hb dX2_readOrder_57 (by decide) ?_
        obtain ⟨h, h9⟩ := pr h
        subst h
        subst h9
        exact W.zret hx hb hr rfl (fun t ht _ => ⟨rfl, by rw [ht]; exact X, hS.F ht⟩) hS.2.2 dX2_readOrder_58
      · have h := iq h c46
        refine lv_aload_n hx hb dX2_readOrder_30 rfl (lv_at hl 0 rfl) ?_
        obtain ⟨q49, hr47, h⟩ := ob h
        refine rowW (As := []) (rest := []) C (kX2_readLoad l G b q45.2 q49.1 q49.2 hr47) (cwV 0 hts gX2_readOrder_X2_readLoad rfl rfl rfl (by decide +kernel) ⟨Nat.le_of_ble_eq_true rfl, Nat.le_of_ble_eq_true rfl⟩) (rcv_X2 X hK) X hS (fun _ z => z) rfl hl.1 rfl (Nat.le_of_ble_eq_true rfl) dX2_readOrder_31 ⟨Nat.zero_le _, Nat.zero_le _⟩ (fun H locs X hS _ _ => ?_)
        show W p l e _ s m _ below meth c H locs 0 0 _ (F0 m 34 ls [.int q49.1])
        refine lv_if_eq (tgt := 57) hx hb dX2_readOrder_34 (by decide) (fun c50 => ?_) (fun c50 => ?_)
        · have h := ip h c50
          refine lv_iconst (v := 0) hx hb dX2_readOrder_57 (by decide) ?_
          obtain ⟨h, h9⟩ := pr h
          subst h
          subst h9
          exact W.zret hx hb hr rfl (fun t ht _ => ⟨rfl, by rw [ht]; exact X, hS.F ht⟩) hS.2.2 dX2_readOrder_58
        · have h := iq h c50
          refine lv_aload_n hx hb dX2_readOrder_37 rfl (lv_at hl 0 rfl) ?_
          refine lv_bipush (v := 62) hx hb dX2_readOrder_38 (by decide) ?_
          obtain ⟨q53, hr51, h⟩ := ob h
          refine rowW (As := [.int 62]) (rest := []) C (kX2_takes l G b q49.2 62 q53.1 q53.2 hr51) (cwV 1 hts gX2_readOrder_X2_takes rfl rfl rfl (by decide +kernel) ⟨Nat.le_of_ble_eq_true rfl, Nat.le_of_ble_eq_true rfl⟩) (rcv_X2 X hK) X hS (fun _ z => z) rfl hl.1 rfl (Nat.le_of_ble_eq_true rfl) dX2_readOrder_40 ⟨Nat.zero_le _, Nat.zero_le _⟩ (fun H locs X hS _ _ => ?_)
          show W p l e _ s m _ below meth c H locs 0 0 _ (F0 m 43 ls [.int q53.1])
          refine lv_if_eq (tgt := 53) hx hb dX2_readOrder_43 (by decide) (fun c54 => ?_) (fun c54 => ?_)
          · have h := ip h c54
            refine lv_iconst (v := 1) hx hb dX2_readOrder_53 (by decide) ?_
            refine lv_goto (tgt := 58) hx hb dX2_readOrder_54 (by decide) ?_
            obtain ⟨h, h9⟩ := pr h
            subst h
            subst h9
            exact W.zret hx hb hr rfl (fun t ht _ => ⟨rfl, by rw [ht]; exact X, hS.F ht⟩) hS.2.2 dX2_readOrder_58
          · have h := iq h c54
            refine lv_aload_n hx hb dX2_readOrder_46 rfl (lv_at hl 0 rfl) ?_
            obtain ⟨q57, hr55, h⟩ := ob h
            refine rowW (As := []) (rest := []) C (kX2_readCart l G b q53.2 q57.1 q57.2 hr55) (cwV 0 hts gX2_readOrder_X2_readCart rfl rfl rfl (by decide +kernel) ⟨Nat.le_of_ble_eq_true rfl, Nat.le_of_ble_eq_true rfl⟩) (rcv_X2 X hK) X hS (fun _ z => z) rfl hl.1 rfl (Nat.le_of_ble_eq_true rfl) dX2_readOrder_47 ⟨Nat.zero_le _, Nat.zero_le _⟩ (fun H locs X hS _ _ => ?_)
            show W p l e _ s m _ below meth c H locs 0 0 _ (F0 m 50 ls [.int q57.1])
            refine lv_if_eq (tgt := 57) hx hb dX2_readOrder_50 (by decide) (fun c58 => ?_) (fun c58 => ?_)
            · have h := ip h c58
              refine lv_iconst (v := 0) hx hb dX2_readOrder_57 (by decide) ?_
              obtain ⟨h, h9⟩ := pr h
              subst h
              subst h9
              exact W.zret hx hb hr rfl (fun t ht _ => ⟨rfl, by rw [ht]; exact X, hS.F ht⟩) hS.2.2 dX2_readOrder_58
            · have h := iq h c58
              refine lv_iconst (v := 1) hx hb dX2_readOrder_53 (by decide) ?_
              refine lv_goto (tgt := 58) hx hb dX2_readOrder_54 (by decide) ?_
              obtain ⟨h, h9⟩ := pr h
              subst h
              subst h9
              exact W.zret hx hb hr rfl (fun t ht _ => ⟨rfl, by rw [ht]; exact X, hS.F ht⟩) hS.2.2 dX2_readOrder_58

theorem in_X2_countOrders : ∀ w ∈ wsX20, w ∈ wsX2_countOrders := by decide +kernel
def fX2_countOrders_6 : Nat → St → Int32 → Option (Int32 × St)
  | 0, _, _ => none
  | n + 1, σ, v1 => if 60 < v1 then (some ((-1), σ)) else ((fX2_readOrder σ).bind (fun q6 => if q6.1 = 0 then (some ((-1), q6.2)) else (if (q6.2 2 0) = (q6.2 1 0) then (some (v1, q6.2)) else ((fX2_takes q6.2 59).bind (fun q11 => if q11.1 = 0 then (some ((-1), q11.2)) else (fX2_countOrders_6 n q11.2 (v1 + 1)))))))
theorem fX2_countOrders_6_0 (σ : St) (v1 : Int32) : fX2_countOrders_6 0 σ v1 = none := rfl
theorem fX2_countOrders_6_s (n : Nat) (σ : St) (v1 : Int32) : fX2_countOrders_6 (n + 1) σ v1 = (if 60 < v1 then (some ((-1), σ)) else ((fX2_readOrder σ).bind (fun q6 => if q6.1 = 0 then (some ((-1), q6.2)) else (if (q6.2 2 0) = (q6.2 1 0) then (some (v1, q6.2)) else ((fX2_takes q6.2 59).bind (fun q11 => if q11.1 = 0 then (some ((-1), q11.2)) else (fX2_countOrders_6 n q11.2 (v1 + 1)))))))) := rfl
def fX2_countOrders (σ : St) : Option (Int32 × St) := (fX2_rewind σ).bind (fun σ2 => fX2_countOrders_6 1000 σ2 1)
set_option maxHeartbeats 4000000 in
set_option maxRecDepth 100000 in
theorem kX2_countOrders (l : Launch) (G : Gx) (b : Nat) (σ : St) (r : Int32) (σ' : St) (h : fX2_countOrders σ = some (r, σ')) : Met l yX2_countOrders wsX2_countOrders (rmN 4) (pre G [.ref b] (tAt G b σ)) (QcW b (b + 2) (tAt G b σ') (some (.int r))) 0 0 (lw_Fr b (b + 2)) := by
  refine Met.ofW (cc := cX2_countOrders) (maxL := 2) (ret := (some .int)) (by decide) rfl ?_
  intro p e s m args below meth c s₁ B hml hv
  obtain ⟨rfl, X, hK⟩ := hv
  have hx := B.exec
  have hb := B.bytes
  have hr := B.returns
  have hts := atoms_spec (ws := wsX2_countOrders) B.pre
  have hown : s.vm.findClass RX2 = some m.cls := findClass_of_methodNamed B.named
  have hlocks := B.notSynchronized
  have C : Cx p m c cX2_countOrders 2 s _ wsX2_countOrders RX2 G := ⟨⟨hx, hb, hml, hown, hts⟩, hK⟩
  have hin : ∀ w ∈ wsX20, w ∈ wsX2_countOrders := in_X2_countOrders
  have hS : va_S (lw_Fr b (b + 2)) s.heap s.heap [] := va_S.rf
  have hl := lv_entry ([.ref b]) (n := 2) (Nat.le_of_ble_eq_true rfl)
  rw [lg_entry_eq]
  generalize (lg_sl ([.ref b]) ++ List.replicate (2 - (lg_sl ([.ref b])).length) Slot.unset).toArray = ls at hl ⊢
  have hl : lv_has ls 2 [(0, .ref b)] := hl
  have loop6 : ∀ (n : Nat) (σ : St) (v1 : Int32) (H : Heap) (locs : List Loc) (ls : Array Slot), fX2_countOrders_6 n σ v1 = some (r, σ') → tAt G b σ H → va_S (lw_Fr b (b + 2)) s.heap H locs → lv_has ls 2 [(0, .ref b), (1, .int v1)] → W p l e (rmN 4) s m #[Value.ref b] below meth c H locs 0 0 (MQ below (QcW b (b + 2) (tAt G b σ') (some (.int r))) #[Value.ref b] s 0 0 (lw_Fr b (b + 2))) (F0 m 6 ls []) := by
    intro n
    induction n with
    | zero =>
      intro σ v1 H locs ls h X hS hl
      rw [fX2_countOrders_6_0] at h
      cases h
    | succ n ih =>
      intro σ v1 H locs ls h X hS hl
      rw [fX2_countOrders_6_s] at h
      refine lv_iload_n hx hb dX2_countOrders_6 rfl (lv_at hl 1 rfl) ?_
      refine lv_bipush (v := 60) hx hb dX2_countOrders_7 (by decide) ?_
      refine lv_icmp_gt (tgt := 51) hx hb dX2_countOrders_9 (by decide) (fun c3 => ?_) (fun c3 => ?_)
      · have h := ip h c3
        refine lv_iconst (v := (-1)) hx hb dX2_countOrders_51 (by decide) ?_
        obtain ⟨h, h9⟩ := pr h
        subst h
        subst h9
        exact W.iret hx hb hr (fun t ht _ => ⟨rfl, by rw [ht]; exact X, hS.F ht⟩) hS.2.2 dX2_countOrders_52
      · have h := iq h c3
        refine lv_aload_n hx hb dX2_countOrders_12 rfl (lv_at hl 0 rfl) ?_
        obtain ⟨q6, hr4, h⟩ := ob h
        refine rowW (As := []) (rest := []) C (kX2_readOrder l G b σ q6.1 q6.2 hr4) (cwV 0 hts gX2_countOrders_X2_readOrder rfl rfl rfl (by decide +kernel) ⟨Nat.le_of_ble_eq_true rfl, Nat.le_of_ble_eq_true rfl⟩) (rcv_X2 X hK) X hS (fun _ z => z) rfl hl.1 rfl (Nat.le_of_ble_eq_true rfl) dX2_countOrders_13 ⟨Nat.zero_le _, Nat.zero_le _⟩ (fun H locs X hS _ _ => ?_)
        show W p l e _ s m _ below meth c H locs 0 0 _ (F0 m 16 ls [.int q6.1])
        refine lv_if_ne (tgt := 21) hx hb dX2_countOrders_16 (by decide) (fun c7 => ?_) (fun c7 => ?_)
        · have h := iq h c7
          refine lv_aload_n hx hb dX2_countOrders_21 rfl (lv_at hl 0 rfl) ?_
          refine gt_X2_2 C hin X 1 rfl dX2_countOrders_22 ?_
          refine lv_aload_n hx hb dX2_countOrders_25 rfl (lv_at hl 0 rfl) ?_
          refine gt_X2_1 C hin X 2 rfl dX2_countOrders_26 ?_
          refine lv_icmp_ne (tgt := 34) hx hb dX2_countOrders_29 (by decide) (fun c8 => ?_) (fun c8 => ?_)
          · have h := iq h c8
            refine lv_aload_n hx hb dX2_countOrders_34 rfl (lv_at hl 0 rfl) ?_
            refine lv_bipush (v := 59) hx hb dX2_countOrders_35 (by decide) ?_
            obtain ⟨q11, hr9, h⟩ := ob h
            refine rowW (As := [.int 59]) (rest := []) C (kX2_takes l G b q6.2 59 q11.1 q11.2 hr9) (cwV 1 hts gX2_countOrders_X2_takes rfl rfl rfl (by decide +kernel) ⟨Nat.le_of_ble_eq_true rfl, Nat.le_of_ble_eq_true rfl⟩) (rcv_X2 X hK) X hS (fun _ z => z) rfl hl.1 rfl (Nat.le_of_ble_eq_true rfl) dX2_countOrders_37 ⟨Nat.zero_le _, Nat.zero_le _⟩ (fun H locs X hS _ _ => ?_)
            show W p l e _ s m _ below meth c H locs 0 0 _ (F0 m 40 ls [.int q11.1])
            refine lv_if_ne (tgt := 45) hx hb dX2_countOrders_40 (by decide) (fun c12 => ?_) (fun c12 => ?_)
            · have h := iq h c12
              refine lv_iinc (v := v1 + 1) (lv' := [(1, .int (v1 + 1)), (0, .ref b)]) hx hb dX2_countOrders_45 hl (k := 1) rfl rfl (by decide) rfl (fun ls hl => ?_)
              refine lv_goto (tgt := 6) hx hb dX2_countOrders_48 (by decide) ?_
              exact ih _ _ _ _ _ h X hS (lv_sub hl [1, 0] rfl)
            · have h := ip h c12
              refine lv_iconst (v := (-1)) hx hb dX2_countOrders_43 (by decide) ?_
              obtain ⟨h, h9⟩ := pr h
              subst h
              subst h9
              exact W.iret hx hb hr (fun t ht _ => ⟨rfl, by rw [ht]; exact X, hS.F ht⟩) hS.2.2 dX2_countOrders_44
          · have h := ip h c8
            refine lv_iload_n hx hb dX2_countOrders_32 rfl (lv_at hl 1 rfl) ?_
            obtain ⟨h, h9⟩ := pr h
            subst h
            subst h9
            exact W.iret hx hb hr (fun t ht _ => ⟨rfl, by rw [ht]; exact X, hS.F ht⟩) hS.2.2 dX2_countOrders_33
        · have h := ip h c7
          refine lv_iconst (v := (-1)) hx hb dX2_countOrders_19 (by decide) ?_
          obtain ⟨h, h9⟩ := pr h
          subst h
          subst h9
          exact W.iret hx hb hr (fun t ht _ => ⟨rfl, by rw [ht]; exact X, hS.F ht⟩) hS.2.2 dX2_countOrders_20
  unfold fX2_countOrders at h
  refine lv_aload_n hx hb dX2_countOrders_0 rfl (lv_at hl 0 rfl) ?_
  obtain ⟨σ2, hr1, h⟩ := ob h
  refine rowW (As := []) (rest := []) C (kX2_rewind l G b σ σ2 hr1) (cwV 0 hts gX2_countOrders_X2_rewind rfl rfl rfl (by decide +kernel) ⟨Nat.le_of_ble_eq_true rfl, Nat.le_of_ble_eq_true rfl⟩) (rcv_X2 X hK) X hS (fun _ z => z) rfl hl.1 rfl (Nat.le_of_ble_eq_true rfl) dX2_countOrders_1 ⟨Nat.zero_le _, Nat.zero_le _⟩ (fun H locs X hS _ _ => ?_)
  show W p l e _ s m _ below meth c H locs 0 0 _ (F0 m 4 ls [])
  refine lv_iconst (v := 1) hx hb dX2_countOrders_4 (by decide) ?_
  refine lv_istore_n (lv' := [(1, .int 1), (0, .ref b)]) hx hb dX2_countOrders_5 rfl hl (by decide) rfl (fun ls hl => ?_)
  exact loop6 _ _ _ _ _ _ h X hS (lv_sub hl [1, 0] rfl)

def fX2_nextOrder (σ : St) : Option (St) := (fX2_takes σ 59).bind (fun q3 => (fX2_readOrder q3.2).bind (fun q6 => some q6.2))
set_option maxHeartbeats 4000000 in
set_option maxRecDepth 100000 in
theorem kX2_nextOrder (l : Launch) (G : Gx) (b : Nat) (σ : St) (σ' : St) (h : fX2_nextOrder σ = some σ') : Met l yX2_nextOrder wsX2_nextOrder (rmN 4) (pre G [.ref b] (tAt G b σ)) (QcW b (b + 2) (tAt G b σ') none) 0 0 (lw_Fr b (b + 2)) := by
  refine Met.ofW (cc := cX2_nextOrder) (maxL := 1) (ret := none) (by decide) rfl ?_
  intro p e s m args below meth c s₁ B hml hv
  obtain ⟨rfl, X, hK⟩ := hv
  have hx := B.exec
  have hb := B.bytes
  have hr := B.returns
  have hts := atoms_spec (ws := wsX2_nextOrder) B.pre
  have hown : s.vm.findClass RX2 = some m.cls := findClass_of_methodNamed B.named
  have hlocks := B.notSynchronized
  have C : Cx p m c cX2_nextOrder 1 s _ wsX2_nextOrder RX2 G := ⟨⟨hx, hb, hml, hown, hts⟩, hK⟩
  have hS : va_S (lw_Fr b (b + 2)) s.heap s.heap [] := va_S.rf
  have hl := lv_entry ([.ref b]) (n := 1) (Nat.le_of_ble_eq_true rfl)
  rw [lg_entry_eq]
  generalize (lg_sl ([.ref b]) ++ List.replicate (1 - (lg_sl ([.ref b])).length) Slot.unset).toArray = ls at hl ⊢
  have hl : lv_has ls 1 [(0, .ref b)] := hl
  unfold fX2_nextOrder at h
  refine lv_aload_n hx hb dX2_nextOrder_0 rfl (lv_at hl 0 rfl) ?_
  refine lv_bipush (v := 59) hx hb dX2_nextOrder_1 (by decide) ?_
  obtain ⟨q3, hr1, h⟩ := ob h
  refine rowW (As := [.int 59]) (rest := []) C (kX2_takes l G b σ 59 q3.1 q3.2 hr1) (cwV 1 hts gX2_nextOrder_X2_takes rfl rfl rfl (by decide +kernel) ⟨Nat.le_of_ble_eq_true rfl, Nat.le_of_ble_eq_true rfl⟩) (rcv_X2 X hK) X hS (fun _ z => z) rfl hl.1 rfl (Nat.le_of_ble_eq_true rfl) dX2_nextOrder_3 ⟨Nat.zero_le _, Nat.zero_le _⟩ (fun H locs X hS _ _ => ?_)
  show W p l e _ s m _ below meth c H locs 0 0 _ (F0 m 6 ls [.int q3.1])
  refine lv_pop hx hb dX2_nextOrder_6 rfl ?_
  refine lv_aload_n hx hb dX2_nextOrder_7 rfl (lv_at hl 0 rfl) ?_
  obtain ⟨q6, hr4, h⟩ := ob h
  refine rowW (As := []) (rest := []) C (kX2_readOrder l G b q3.2 q6.1 q6.2 hr4) (cwV 0 hts gX2_nextOrder_X2_readOrder rfl rfl rfl (by decide +kernel) ⟨Nat.le_of_ble_eq_true rfl, Nat.le_of_ble_eq_true rfl⟩) (rcv_X2 X hK) X hS (fun _ z => z) rfl hl.1 rfl (Nat.le_of_ble_eq_true rfl) dX2_nextOrder_8 ⟨Nat.zero_le _, Nat.zero_le _⟩ (fun H locs X hS _ _ => ?_)
  show W p l e _ s m _ below meth c H locs 0 0 _ (F0 m 11 ls [.int q6.1])
  refine lv_pop hx hb dX2_nextOrder_11 rfl ?_
  have h := so h
  subst h
  exact W.vret hx hb hr (fun t ht _ => ⟨rfl, by rw [ht]; exact X, hS.F ht⟩) hS.2.2 dX2_nextOrder_12
