def fX4_in (p1 : Int32) (p2 : Int32) (p3 : Int32) : Option (Int32) := if p1 < p2 then (some 0) else (if p3 < p1 then (some 0) else (some 1))
set_option maxHeartbeats 4000000 in
set_option maxRecDepth 100000 in
theorem kX4_in (l : Launch) (G : Gx) (p1 : Int32) (p2 : Int32) (p3 : Int32) (r : Int32) (h : fX4_in p1 p2 p3 = some r) : Met l yX4_in wsX4_in (rmN 0) (pre G [.int p1, .int p2, .int p3] (fun _ => True)) (QcRead r) 0 0 (fun _ => False) := by
  refine Met.ofW (cc := cX4_in) (maxL := 3) (ret := (some .boolean)) (by decide) rfl ?_
  intro p e s m args below meth c s₁ B hml hv
  obtain ⟨rfl, -, hK⟩ := hv
  have hx := B.exec
  have hb := B.bytes
  have hr := B.returns
  have hts := atoms_spec (ws := wsX4_in) B.pre
  have hown : s.vm.findClass RX4 = some m.cls := findClass_of_methodNamed B.named
  have hlocks := B.notSynchronized
  have C : Cx p m c cX4_in 3 s _ wsX4_in RX4 G := ⟨⟨hx, hb, hml, hown, hts⟩, hK⟩
  have hl := lv_entry ([.int p1, .int p2, .int p3]) (n := 3) (Nat.le_of_ble_eq_true rfl)
  rw [lg_entry_eq]
  generalize (lg_sl ([.int p1, .int p2, .int p3]) ++ List.replicate (3 - (lg_sl ([.int p1, .int p2, .int p3])).length) Slot.unset).toArray = ls at hl ⊢
  have hl : lv_has ls 3 [(0, .int p1), (1, .int p2), (2, .int p3)] := hl
  unfold fX4_in at h
  refine lv_iload_n hx hb dX4_in_0 rfl (lv_at hl 0 rfl) ?_
  refine lv_iload_n hx hb dX4_in_1 rfl (lv_at hl 1 rfl) ?_
  refine lv_icmp_lt (tgt := 14) hx hb dX4_in_2 (by decide) (fun c1 => ?_) (fun c1 => ?_)
  · have h := ip h c1
    refine lv_iconst (v := 0) hx hb dX4_in_14 (by decide) ?_
    have h := so h
    subst h
    exact W.zret hx hb hr rfl (fun t ht _ => ⟨rfl, ht⟩) (fun q h => absurd h List.not_mem_nil) dX4_in_15
  · have h := iq h c1
    refine lv_iload_n hx hb dX4_in_5 rfl (lv_at hl 0 rfl) ?_
    refine lv_iload_n hx hb dX4_in_6 rfl (lv_at hl 2 rfl) ?_
    refine lv_icmp_gt (tgt := 14) hx hb dX4_in_7 (by decide) (fun c2 => ?_) (fun c2 => ?_)
    · have h := ip h c2
      refine lv_iconst (v := 0) hx hb dX4_in_14 (by decide) ?_
      have h := so h
      subst h
      exact W.zret hx hb hr rfl (fun t ht _ => ⟨rfl, ht⟩) (fun q h => absurd h List.not_mem_nil) dX4_in_15
    · have h := iq h c2
      refine lv_iconst (v := 1) hx hb dX4_in_10 (by decide) ?_
      refine lv_goto (tgt := 15) hx hb dX4_in_11 (by decide) ?_
      have h := so h
      subst h
      exact W.zret hx hb hr rfl (fun t ht _ => ⟨rfl, ht⟩) (fun q h => absurd h List.not_mem_nil) dX4_in_15

theorem in_X4_isCart : ∀ w ∈ wsX40, w ∈ wsX4_isCart := by decide +kernel
def fX4_isCart (σ : St) (p1 : Int32) : Option (Int32) := (fX4_in p1 0 ((σ 1 5) - 1)).bind (fun r1 => if ¬ (r1 = 0 ∨ r1 = 1) then none else some r1)
set_option maxHeartbeats 4000000 in
set_option maxRecDepth 100000 in
theorem kX4_isCart (l : Launch) (G : Gx) (b : Nat) (σ : St) (p1 : Int32) (r : Int32) (h : fX4_isCart σ p1 = some r) : Met l yX4_isCart wsX4_isCart (rmN 1) (pre G [.ref b, .int p1] (mAt G b σ)) (QcRead r) 0 0 (fun _ => False) := by
  refine Met.ofW (cc := cX4_isCart) (maxL := 2) (ret := (some .boolean)) (by decide) rfl ?_
  intro p e s m args below meth c s₁ B hml hv
  obtain ⟨rfl, X, hK⟩ := hv
  have hx := B.exec
  have hb := B.bytes
  have hr := B.returns
  have hts := atoms_spec (ws := wsX4_isCart) B.pre
  have hown : s.vm.findClass RX4 = some m.cls := findClass_of_methodNamed B.named
  have hlocks := B.notSynchronized
  have C : Cx p m c cX4_isCart 2 s _ wsX4_isCart RX4 G := ⟨⟨hx, hb, hml, hown, hts⟩, hK⟩
  have hin : ∀ w ∈ wsX40, w ∈ wsX4_isCart := in_X4_isCart
  have hl := lv_entry ([.ref b, .int p1]) (n := 2) (Nat.le_of_ble_eq_true rfl)
  rw [lg_entry_eq]
  generalize (lg_sl ([.ref b, .int p1]) ++ List.replicate (2 - (lg_sl ([.ref b, .int p1])).length) Slot.unset).toArray = ls at hl ⊢
  have hl : lv_has ls 2 [(0, .ref b), (1, .int p1)] := hl
  unfold fX4_isCart at h
  refine lv_iload_n hx hb dX4_isCart_0 rfl (lv_at hl 1 rfl) ?_
  refine lv_iconst (v := 0) hx hb dX4_isCart_1 (by decide) ?_
  refine lv_aload_n hx hb dX4_isCart_2 rfl (lv_at hl 0 rfl) ?_
  refine gt_X4_1 C hin X 1 rfl dX4_isCart_3 ?_
  refine lv_iconst (v := 5) hx hb dX4_isCart_6 (by decide) ?_
  refine al_X4_1 (j := 5) C X rfl (by decide) dX4_isCart_7 ?_
  refine lv_iconst (v := 1) hx hb dX4_isCart_8 (by decide) ?_
  refine lv_isub hx hb dX4_isCart_9 ?_
  obtain ⟨r1, hr1, h⟩ := ob h
  refine rowS (As := [.int p1, .int 0, .int ((σ 1 5) - 1)]) (rest := []) (B := fun _ => True) C (kX4_in l G p1 0 ((σ 1 5) - 1) r1 hr1) (va_cwS 3 hts gX4_isCart_X4_in rfl rfl rfl (by decide +kernel) ⟨Nat.le_of_ble_eq_true rfl, Nat.le_of_ble_eq_true rfl⟩) trivial rfl hl.1 rfl (Nat.le_of_ble_eq_true rfl) dX4_isCart_10 ⟨Nat.zero_le _, Nat.zero_le _⟩ ?_
  obtain ⟨c3, h⟩ := og h
  have n2 := nz_of c3
  have h := so h
  subst h
  exact W.zret hx hb hr n2.1 (fun t ht _ => ⟨rfl, ht⟩) (fun q h => absurd h List.not_mem_nil) dX4_isCart_13

theorem in_X4_of : ∀ w ∈ wsX40, w ∈ wsX4_of := by decide +kernel
def fX4_of (σ : St) (p1 : Int32) (p2 : Int32) : Option (Int32) := if oob ((8 + (8 * p1)) + p2) 200 then none else some (σ 1 ((8 + (8 * p1)) + p2).toNatClampNeg)
set_option maxHeartbeats 4000000 in
set_option maxRecDepth 100000 in
theorem kX4_of (l : Launch) (G : Gx) (b : Nat) (σ : St) (p1 : Int32) (p2 : Int32) (r : Int32) (h : fX4_of σ p1 p2 = some r) : Met l yX4_of wsX4_of (rmN 0) (pre G [.ref b, .int p1, .int p2] (mAt G b σ)) (QcRead r) 0 0 (fun _ => False) := by
  refine Met.ofW (cc := cX4_of) (maxL := 3) (ret := (some .int)) (by decide) rfl ?_
  intro p e s m args below meth c s₁ B hml hv
  obtain ⟨rfl, X, hK⟩ := hv
  have hx := B.exec
  have hb := B.bytes
  have hr := B.returns
  have hts := atoms_spec (ws := wsX4_of) B.pre
  have hown : s.vm.findClass RX4 = some m.cls := findClass_of_methodNamed B.named
  have hlocks := B.notSynchronized
  have C : Cx p m c cX4_of 3 s _ wsX4_of RX4 G := ⟨⟨hx, hb, hml, hown, hts⟩, hK⟩
  have hin : ∀ w ∈ wsX40, w ∈ wsX4_of := in_X4_of
  have hl := lv_entry ([.ref b, .int p1, .int p2]) (n := 3) (Nat.le_of_ble_eq_true rfl)
  rw [lg_entry_eq]
  generalize (lg_sl ([.ref b, .int p1, .int p2]) ++ List.replicate (3 - (lg_sl ([.ref b, .int p1, .int p2])).length) Slot.unset).toArray = ls at hl ⊢
  have hl : lv_has ls 3 [(0, .ref b), (1, .int p1), (2, .int p2)] := hl
  unfold fX4_of at h
  refine lv_aload_n hx hb dX4_of_0 rfl (lv_at hl 0 rfl) ?_
  refine gt_X4_1 C hin X 1 rfl dX4_of_1 ?_
  refine lv_bipush (v := 8) hx hb dX4_of_4 (by decide) ?_
  refine lv_bipush (v := 8) hx hb dX4_of_6 (by decide) ?_
  refine lv_iload_n hx hb dX4_of_8 rfl (lv_at hl 1 rfl) ?_
  refine lv_imul hx hb dX4_of_9 ?_
  refine lv_iadd hx hb dX4_of_10 ?_
  refine lv_iload_n hx hb dX4_of_11 rfl (lv_at hl 2 rfl) ?_
  refine lv_iadd hx hb dX4_of_12 ?_
  obtain ⟨c1, h⟩ := og h
  refine al_X4_1 C X rfl c1 dX4_of_13 ?_
  have h := so h
  subst h
  exact W.iret hx hb hr (fun t ht _ => ⟨rfl, ht⟩) (fun q h => absurd h List.not_mem_nil) dX4_of_14

theorem in_X4_lay : ∀ w ∈ wsX40, w ∈ wsX4_lay := by decide +kernel
def fX4_lay (σ : St) (p1 : Int32) (p2 : Int32) (p3 : Int32) : Option (St) := if oob ((8 + (8 * p1)) + p2) 200 then none else some (up σ 1 ((8 + (8 * p1)) + p2).toNatClampNeg p3)
set_option maxHeartbeats 4000000 in
set_option maxRecDepth 100000 in
theorem kX4_lay (l : Launch) (G : Gx) (b : Nat) (σ : St) (p1 : Int32) (p2 : Int32) (p3 : Int32) (σ' : St) (h : fX4_lay σ p1 p2 p3 = some σ') : Met l yX4_lay wsX4_lay (rmN 0) (pre G [.ref b, .int p1, .int p2, .int p3] (mAt G b σ)) (QcW b (b + 7) (mAt G b σ') none) 0 0 (lw_Fr b (b + 7)) := by
  refine Met.ofW (cc := cX4_lay) (maxL := 4) (ret := none) (by decide) rfl ?_
  intro p e s m args below meth c s₁ B hml hv
  obtain ⟨rfl, X, hK⟩ := hv
  have hx := B.exec
  have hb := B.bytes
  have hr := B.returns
  have hts := atoms_spec (ws := wsX4_lay) B.pre
  have hown : s.vm.findClass RX4 = some m.cls := findClass_of_methodNamed B.named
  have hlocks := B.notSynchronized
  have C : Cx p m c cX4_lay 4 s _ wsX4_lay RX4 G := ⟨⟨hx, hb, hml, hown, hts⟩, hK⟩
  have hin : ∀ w ∈ wsX40, w ∈ wsX4_lay := in_X4_lay
  have hS : va_S (lw_Fr b (b + 7)) s.heap s.heap [] := va_S.rf
  have hl := lv_entry ([.ref b, .int p1, .int p2, .int p3]) (n := 4) (Nat.le_of_ble_eq_true rfl)
  rw [lg_entry_eq]
  generalize (lg_sl ([.ref b, .int p1, .int p2, .int p3]) ++ List.replicate (4 - (lg_sl ([.ref b, .int p1, .int p2, .int p3])).length) Slot.unset).toArray = ls at hl ⊢
  have hl : lv_has ls 4 [(0, .ref b), (1, .int p1), (2, .int p2), (3, .int p3)] := hl
  unfold fX4_lay at h
  refine lv_aload_n hx hb dX4_lay_0 rfl (lv_at hl 0 rfl) ?_
  refine gt_X4_1 C hin X 1 rfl dX4_lay_1 ?_
  refine lv_bipush (v := 8) hx hb dX4_lay_4 (by decide) ?_
  refine lv_bipush (v := 8) hx hb dX4_lay_6 (by decide) ?_
  refine lv_iload_n hx hb dX4_lay_8 rfl (lv_at hl 1 rfl) ?_
  refine lv_imul hx hb dX4_lay_9 ?_
  refine lv_iadd hx hb dX4_lay_10 ?_
  refine lv_iload_n hx hb dX4_lay_11 rfl (lv_at hl 2 rfl) ?_
  refine lv_iadd hx hb dX4_lay_12 ?_
  refine lv_iload_n hx hb dX4_lay_13 rfl (lv_at hl 3 rfl) ?_
  obtain ⟨c1, h⟩ := og h
  refine as_X4_1 C X hS rfl c1 dX4_lay_14 (fun H locs X hS => ?_)
  have h := so h
  subst h
  exact W.vret hx hb hr (fun t ht _ => ⟨rfl, by rw [ht]; exact X, hS.F ht⟩) hS.2.2 dX4_lay_15

theorem in_X4_records : ∀ w ∈ wsX40, w ∈ wsX4_records := by decide +kernel
def fX4_records_51 : Nat → St → Int32 → Option (St)
  | 0, _, _ => none
  | n + 1, σ, v1 => if 200 ≤ v1 then (some (up σ 4 0 ((σ 4 0) + 1))) else (if oob v1 200 then none else if oob ((200 * (σ 4 0)) + v1) 800 then none else fX4_records_51 n (up σ 3 ((200 * (σ 4 0)) + v1).toNatClampNeg (σ 1 v1.toNatClampNeg)) (v1 + 1))
theorem fX4_records_51_0 (σ : St) (v1 : Int32) : fX4_records_51 0 σ v1 = none := rfl
theorem fX4_records_51_s (n : Nat) (σ : St) (v1 : Int32) : fX4_records_51 (n + 1) σ v1 = (if 200 ≤ v1 then (some (up σ 4 0 ((σ 4 0) + 1))) else (if oob v1 200 then none else if oob ((200 * (σ 4 0)) + v1) 800 then none else fX4_records_51 n (up σ 3 ((200 * (σ 4 0)) + v1).toNatClampNeg (σ 1 v1.toNatClampNeg)) (v1 + 1))) := rfl
def fX4_records_10 : Nat → St → Int32 → Option (St)
  | 0, _, _ => none
  | n + 1, σ, v1 => if 600 ≤ v1 then (fX4_records_51 1000 (up σ 4 0 ((σ 4 0) - 1)) 0) else (if oob (v1 + 200) 800 then none else if oob v1 800 then none else fX4_records_10 n (up σ 3 v1.toNatClampNeg (σ 3 (v1 + 200).toNatClampNeg)) (v1 + 1))
theorem fX4_records_10_0 (σ : St) (v1 : Int32) : fX4_records_10 0 σ v1 = none := rfl
theorem fX4_records_10_s (n : Nat) (σ : St) (v1 : Int32) : fX4_records_10 (n + 1) σ v1 = (if 600 ≤ v1 then (fX4_records_51 1000 (up σ 4 0 ((σ 4 0) - 1)) 0) else (if oob (v1 + 200) 800 then none else if oob v1 800 then none else fX4_records_10 n (up σ 3 v1.toNatClampNeg (σ 3 (v1 + 200).toNatClampNeg)) (v1 + 1))) := rfl
def fX4_records (σ : St) : Option (St) := if (σ 4 0) = 4 then (fX4_records_10 1000 σ 0) else (fX4_records_51 1000 σ 0)
set_option maxHeartbeats 4000000 in
set_option maxRecDepth 100000 in
theorem kX4_records (l : Launch) (G : Gx) (b : Nat) (σ : St) (σ' : St) (h : fX4_records σ = some σ') : Met l yX4_records wsX4_records (rmN 0) (pre G [.ref b] (mAt G b σ)) (QcW b (b + 7) (mAt G b σ') none) 0 0 (lw_Fr b (b + 7)) := by
  refine Met.ofW (cc := cX4_records) (maxL := 2) (ret := none) (by decide) rfl ?_
  intro p e s m args below meth c s₁ B hml hv
  obtain ⟨rfl, X, hK⟩ := hv
  have hx := B.exec
  have hb := B.bytes
  have hr := B.returns
  have hts := atoms_spec (ws := wsX4_records) B.pre
  have hown : s.vm.findClass RX4 = some m.cls := findClass_of_methodNamed B.named
  have hlocks := B.notSynchronized
  have C : Cx p m c cX4_records 2 s _ wsX4_records RX4 G := ⟨⟨hx, hb, hml, hown, hts⟩, hK⟩
  have hin : ∀ w ∈ wsX40, w ∈ wsX4_records := in_X4_records
  have hS : va_S (lw_Fr b (b + 7)) s.heap s.heap [] := va_S.rf
  have hl := lv_entry ([.ref b]) (n := 2) (Nat.le_of_ble_eq_true rfl)
  rw [lg_entry_eq]
  generalize (lg_sl ([.ref b]) ++ List.replicate (2 - (lg_sl ([.ref b])).length) Slot.unset).toArray = ls at hl ⊢
  have hl : lv_has ls 2 [(0, .ref b)] := hl
  have loop51 : ∀ (n : Nat) (σ : St) (v1 : Int32) (H : Heap) (locs : List Loc) (ls : Array Slot), fX4_records_51 n σ v1 = some σ' → mAt G b σ H → va_S (lw_Fr b (b + 7)) s.heap H locs → lv_has ls 2 [(0, .ref b), (1, .int v1)] → W p l e (rmN 0) s m #[Value.ref b] below meth c H locs 0 0 (MQ below (QcW b (b + 7) (mAt G b σ') none) #[Value.ref b] s 0 0 (lw_Fr b (b + 7))) (F0 m 51 ls []) := by
    intro n
    induction n with
    | zero =>
      intro σ v1 H locs ls h X hS hl
      rw [fX4_records_51_0] at h
      cases h
    | succ n ih =>
      intro σ v1 H locs ls h X hS hl
      rw [fX4_records_51_s] at h
      refine lv_iload_n hx hb dX4_records_51 rfl (lv_at hl 1 rfl) ?_
      refine lv_sipush (v := 200) hx hb dX4_records_52 (by decide) ?_
      refine lv_icmp_ge (tgt := 85) hx hb dX4_records_55 (by decide) (fun c2 => ?_) (fun c2 => ?_)
      · have h := ip h c2
        refine lv_aload_n hx hb dX4_records_85 rfl (lv_at hl 0 rfl) ?_
        refine lv_dup hx hb dX4_records_86 rfl ?_
        refine gt_X4_4 C hin X 1 rfl dX4_records_87 ?_
        refine lv_iconst (v := 1) hx hb dX4_records_90 (by decide) ?_
        refine lv_iadd hx hb dX4_records_91 ?_
        refine pt_X4_4 C hin X hS 1 rfl dX4_records_92 (fun H locs X hS => ?_)
        have h := so h
        subst h
        exact W.vret hx hb hr (fun t ht _ => ⟨rfl, by rw [ht]; exact X, hS.F ht⟩) hS.2.2 dX4_records_95
      · have h := iq h c2
        refine lv_aload_n hx hb dX4_records_58 rfl (lv_at hl 0 rfl) ?_
        refine gt_X4_3 C hin X 2 rfl dX4_records_59 ?_
        refine lv_sipush (v := 200) hx hb dX4_records_62 (by decide) ?_
        refine lv_aload_n hx hb dX4_records_65 rfl (lv_at hl 0 rfl) ?_
        refine gt_X4_4 C hin X 1 rfl dX4_records_66 ?_
        refine lv_imul hx hb dX4_records_69 ?_
        refine lv_iload_n hx hb dX4_records_70 rfl (lv_at hl 1 rfl) ?_
        refine lv_iadd hx hb dX4_records_71 ?_
        refine lv_aload_n hx hb dX4_records_72 rfl (lv_at hl 0 rfl) ?_
        refine gt_X4_1 C hin X 3 rfl dX4_records_73 ?_
        refine lv_iload_n hx hb dX4_records_76 rfl (lv_at hl 1 rfl) ?_
        obtain ⟨c3, h⟩ := og h
        refine al_X4_1 C X rfl c3 dX4_records_77 ?_
        obtain ⟨c4, h⟩ := og h
        refine as_X4_3 C X hS rfl c4 dX4_records_78 (fun H locs X hS => ?_)
        refine lv_iinc (v := v1 + 1) (lv' := [(1, .int (v1 + 1)), (0, .ref b)]) hx hb dX4_records_79 hl (k := 1) rfl rfl (by decide) rfl (fun ls hl => ?_)
        refine lv_goto (tgt := 51) hx hb dX4_records_82 (by decide) ?_
        exact ih _ _ _ _ _ h X hS (lv_sub hl [1, 0] rfl)
  have loop10 : ∀ (n : Nat) (σ : St) (v1 : Int32) (H : Heap) (locs : List Loc) (ls : Array Slot), fX4_records_10 n σ v1 = some σ' → mAt G b σ H → va_S (lw_Fr b (b + 7)) s.heap H locs → lv_has ls 2 [(0, .ref b), (1, .int v1)] → W p l e (rmN 0) s m #[Value.ref b] below meth c H locs 0 0 (MQ below (QcW b (b + 7) (mAt G b σ') none) #[Value.ref b] s 0 0 (lw_Fr b (b + 7))) (F0 m 10 ls []) := by
    intro n
    induction n with
    | zero =>
      intro σ v1 H locs ls h X hS hl
      rw [fX4_records_10_0] at h
      cases h
    | succ n ih =>
      intro σ v1 H locs ls h X hS hl
      rw [fX4_records_10_s] at h
      refine lv_iload_n hx hb dX4_records_10 rfl (lv_at hl 1 rfl) ?_
      refine lv_sipush (v := 600) hx hb dX4_records_11 (by decide) ?_
      refine lv_icmp_ge (tgt := 39) hx hb dX4_records_14 (by decide) (fun c5 => ?_) (fun c5 => ?_)
      · have h := ip h c5
        refine lv_aload_n hx hb dX4_records_39 rfl (lv_at hl 0 rfl) ?_
        refine lv_dup hx hb dX4_records_40 rfl ?_
        refine gt_X4_4 C hin X 1 rfl dX4_records_41 ?_
        refine lv_iconst (v := 1) hx hb dX4_records_44 (by decide) ?_
        refine lv_isub hx hb dX4_records_45 ?_
        refine pt_X4_4 C hin X hS 1 rfl dX4_records_46 (fun H locs X hS => ?_)
        refine lv_iconst (v := 0) hx hb dX4_records_49 (by decide) ?_
        refine lv_istore_n (lv' := [(1, .int 0), (0, .ref b)]) hx hb dX4_records_50 rfl hl (by decide) rfl (fun ls hl => ?_)
        exact loop51 _ _ _ _ _ _ h X hS (lv_sub hl [1, 0] rfl)
      · have h := iq h c5
        refine lv_aload_n hx hb dX4_records_17 rfl (lv_at hl 0 rfl) ?_
        refine gt_X4_3 C hin X 2 rfl dX4_records_18 ?_
        refine lv_iload_n hx hb dX4_records_21 rfl (lv_at hl 1 rfl) ?_
        refine lv_aload_n hx hb dX4_records_22 rfl (lv_at hl 0 rfl) ?_
        refine gt_X4_3 C hin X 2 rfl dX4_records_23 ?_
        refine lv_iload_n hx hb dX4_records_26 rfl (lv_at hl 1 rfl) ?_
        refine lv_sipush (v := 200) hx hb dX4_records_27 (by decide) ?_
        refine lv_iadd hx hb dX4_records_30 ?_
        obtain ⟨c6, h⟩ := og h
        refine al_X4_3 C X rfl c6 dX4_records_31 ?_
        obtain ⟨c7, h⟩ := og h
        refine as_X4_3 C X hS rfl c7 dX4_records_32 (fun H locs X hS => ?_)
        refine lv_iinc (v := v1 + 1) (lv' := [(1, .int (v1 + 1)), (0, .ref b)]) hx hb dX4_records_33 hl (k := 1) rfl rfl (by decide) rfl (fun ls hl => ?_)
        refine lv_goto (tgt := 10) hx hb dX4_records_36 (by decide) ?_
        exact ih _ _ _ _ _ h X hS (lv_sub hl [1, 0] rfl)
  unfold fX4_records at h
  refine lv_aload_n hx hb dX4_records_0 rfl (lv_at hl 0 rfl) ?_
  refine gt_X4_4 C hin X 1 rfl dX4_records_1 ?_
  refine lv_iconst (v := 4) hx hb dX4_records_4 (by decide) ?_
  refine lv_icmp_ne (tgt := 49) hx hb dX4_records_5 (by decide) (fun c1 => ?_) (fun c1 => ?_)
  · have h := iq h c1
    refine lv_iconst (v := 0) hx hb dX4_records_49 (by decide) ?_
    refine lv_istore_n (lv' := [(1, .int 0), (0, .ref b)]) hx hb dX4_records_50 rfl hl (by decide) rfl (fun ls hl => ?_)
    exact loop51 _ _ _ _ _ _ h X hS (lv_sub hl [1, 0] rfl)
  · have h := ip h c1
    refine lv_iconst (v := 0) hx hb dX4_records_8 (by decide) ?_
    refine lv_istore_n (lv' := [(1, .int 0), (0, .ref b)]) hx hb dX4_records_9 rfl hl (by decide) rfl (fun ls hl => ?_)
    exact loop10 _ _ _ _ _ _ h X hS (lv_sub hl [1, 0] rfl)

theorem in_X4_putAside : ∀ w ∈ wsX40, w ∈ wsX4_putAside := by decide +kernel
def fX4_putAside_2 : Nat → St → Int32 → Option (St)
  | 0, _, _ => none
  | n + 1, σ, v1 => if 200 ≤ v1 then (some σ) else (if oob v1 200 then none else if oob v1 200 then none else fX4_putAside_2 n (up σ 2 v1.toNatClampNeg (σ 1 v1.toNatClampNeg)) (v1 + 1))
theorem fX4_putAside_2_0 (σ : St) (v1 : Int32) : fX4_putAside_2 0 σ v1 = none := rfl
theorem fX4_putAside_2_s (n : Nat) (σ : St) (v1 : Int32) : fX4_putAside_2 (n + 1) σ v1 = (if 200 ≤ v1 then (some σ) else (if oob v1 200 then none else if oob v1 200 then none else fX4_putAside_2 n (up σ 2 v1.toNatClampNeg (σ 1 v1.toNatClampNeg)) (v1 + 1))) := rfl
def fX4_putAside (σ : St) : Option (St) := fX4_putAside_2 1000 σ 0
set_option maxHeartbeats 4000000 in
set_option maxRecDepth 100000 in
theorem kX4_putAside (l : Launch) (G : Gx) (b : Nat) (σ : St) (σ' : St) (h : fX4_putAside σ = some σ') : Met l yX4_putAside wsX4_putAside (rmN 0) (pre G [.ref b] (mAt G b σ)) (QcW b (b + 7) (mAt G b σ') none) 0 0 (lw_Fr b (b + 7)) := by
  refine Met.ofW (cc := cX4_putAside) (maxL := 2) (ret := none) (by decide) rfl ?_
  intro p e s m args below meth c s₁ B hml hv
  obtain ⟨rfl, X, hK⟩ := hv
  have hx := B.exec
  have hb := B.bytes
  have hr := B.returns
  have hts := atoms_spec (ws := wsX4_putAside) B.pre
  have hown : s.vm.findClass RX4 = some m.cls := findClass_of_methodNamed B.named
  have hlocks := B.notSynchronized
  have C : Cx p m c cX4_putAside 2 s _ wsX4_putAside RX4 G := ⟨⟨hx, hb, hml, hown, hts⟩, hK⟩
  have hin : ∀ w ∈ wsX40, w ∈ wsX4_putAside := in_X4_putAside
  have hS : va_S (lw_Fr b (b + 7)) s.heap s.heap [] := va_S.rf
  have hl := lv_entry ([.ref b]) (n := 2) (Nat.le_of_ble_eq_true rfl)
  rw [lg_entry_eq]
  generalize (lg_sl ([.ref b]) ++ List.replicate (2 - (lg_sl ([.ref b])).length) Slot.unset).toArray = ls at hl ⊢
  have hl : lv_has ls 2 [(0, .ref b)] := hl
  have loop2 : ∀ (n : Nat) (σ : St) (v1 : Int32) (H : Heap) (locs : List Loc) (ls : Array Slot), fX4_putAside_2 n σ v1 = some σ' → mAt G b σ H → va_S (lw_Fr b (b + 7)) s.heap H locs → lv_has ls 2 [(0, .ref b), (1, .int v1)] → W p l e (rmN 0) s m #[Value.ref b] below meth c H locs 0 0 (MQ below (QcW b (b + 7) (mAt G b σ') none) #[Value.ref b] s 0 0 (lw_Fr b (b + 7))) (F0 m 2 ls []) := by
    intro n
    induction n with
    | zero =>
      intro σ v1 H locs ls h X hS hl
      rw [fX4_putAside_2_0] at h
      cases h
    | succ n ih =>
      intro σ v1 H locs ls h X hS hl
      rw [fX4_putAside_2_s] at h
      refine lv_iload_n hx hb dX4_putAside_2 rfl (lv_at hl 1 rfl) ?_
      refine lv_sipush (v := 200) hx hb dX4_putAside_3 (by decide) ?_
      refine lv_icmp_ge (tgt := 27) hx hb dX4_putAside_6 (by decide) (fun c1 => ?_) (fun c1 => ?_)
      · have h := ip h c1
        have h := so h
        subst h
        exact W.vret hx hb hr (fun t ht _ => ⟨rfl, by rw [ht]; exact X, hS.F ht⟩) hS.2.2 dX4_putAside_27
      · have h := iq h c1
        refine lv_aload_n hx hb dX4_putAside_9 rfl (lv_at hl 0 rfl) ?_
        refine gt_X4_2 C hin X 1 rfl dX4_putAside_10 ?_
        refine lv_iload_n hx hb dX4_putAside_13 rfl (lv_at hl 1 rfl) ?_
        refine lv_aload_n hx hb dX4_putAside_14 rfl (lv_at hl 0 rfl) ?_
        refine gt_X4_1 C hin X 2 rfl dX4_putAside_15 ?_
        refine lv_iload_n hx hb dX4_putAside_18 rfl (lv_at hl 1 rfl) ?_
        obtain ⟨c2, h⟩ := og h
        refine al_X4_1 C X rfl c2 dX4_putAside_19 ?_
        obtain ⟨c3, h⟩ := og h
        refine as_X4_2 C X hS rfl c3 dX4_putAside_20 (fun H locs X hS => ?_)
        refine lv_iinc (v := v1 + 1) (lv' := [(1, .int (v1 + 1)), (0, .ref b)]) hx hb dX4_putAside_21 hl (k := 1) rfl rfl (by decide) rfl (fun ls hl => ?_)
        refine lv_goto (tgt := 2) hx hb dX4_putAside_24 (by decide) ?_
        exact ih _ _ _ _ _ h X hS (lv_sub hl [1, 0] rfl)
  unfold fX4_putAside at h
  refine lv_iconst (v := 0) hx hb dX4_putAside_0 (by decide) ?_
  refine lv_istore_n (lv' := [(1, .int 0), (0, .ref b)]) hx hb dX4_putAside_1 rfl hl (by decide) rfl (fun ls hl => ?_)
  exact loop2 _ _ _ _ _ _ h X hS (lv_sub hl [1, 0] rfl)

theorem in_X4_takeBack : ∀ w ∈ wsX40, w ∈ wsX4_takeBack := by decide +kernel
def fX4_takeBack_2 : Nat → St → Int32 → Option (St)
  | 0, _, _ => none
  | n + 1, σ, v1 => if 200 ≤ v1 then (some σ) else (if oob v1 200 then none else if oob v1 200 then none else fX4_takeBack_2 n (up σ 1 v1.toNatClampNeg (σ 2 v1.toNatClampNeg)) (v1 + 1))
theorem fX4_takeBack_2_0 (σ : St) (v1 : Int32) : fX4_takeBack_2 0 σ v1 = none := rfl
theorem fX4_takeBack_2_s (n : Nat) (σ : St) (v1 : Int32) : fX4_takeBack_2 (n + 1) σ v1 = (if 200 ≤ v1 then (some σ) else (if oob v1 200 then none else if oob v1 200 then none else fX4_takeBack_2 n (up σ 1 v1.toNatClampNeg (σ 2 v1.toNatClampNeg)) (v1 + 1))) := rfl
def fX4_takeBack (σ : St) : Option (St) := fX4_takeBack_2 1000 σ 0
set_option maxHeartbeats 4000000 in
set_option maxRecDepth 100000 in
theorem kX4_takeBack (l : Launch) (G : Gx) (b : Nat) (σ : St) (σ' : St) (h : fX4_takeBack σ = some σ') : Met l yX4_takeBack wsX4_takeBack (rmN 0) (pre G [.ref b] (mAt G b σ)) (QcW b (b + 7) (mAt G b σ') none) 0 0 (lw_Fr b (b + 7)) := by
  refine Met.ofW (cc := cX4_takeBack) (maxL := 2) (ret := none) (by decide) rfl ?_
  intro p e s m args below meth c s₁ B hml hv
  obtain ⟨rfl, X, hK⟩ := hv
  have hx := B.exec
  have hb := B.bytes
  have hr := B.returns
  have hts := atoms_spec (ws := wsX4_takeBack) B.pre
  have hown : s.vm.findClass RX4 = some m.cls := findClass_of_methodNamed B.named
  have hlocks := B.notSynchronized
  have C : Cx p m c cX4_takeBack 2 s _ wsX4_takeBack RX4 G := ⟨⟨hx, hb, hml, hown, hts⟩, hK⟩
  have hin : ∀ w ∈ wsX40, w ∈ wsX4_takeBack := in_X4_takeBack
  have hS : va_S (lw_Fr b (b + 7)) s.heap s.heap [] := va_S.rf
  have hl := lv_entry ([.ref b]) (n := 2) (Nat.le_of_ble_eq_true rfl)
  rw [lg_entry_eq]
  generalize (lg_sl ([.ref b]) ++ List.replicate (2 - (lg_sl ([.ref b])).length) Slot.unset).toArray = ls at hl ⊢
  have hl : lv_has ls 2 [(0, .ref b)] := hl
  have loop2 : ∀ (n : Nat) (σ : St) (v1 : Int32) (H : Heap) (locs : List Loc) (ls : Array Slot), fX4_takeBack_2 n σ v1 = some σ' → mAt G b σ H → va_S (lw_Fr b (b + 7)) s.heap H locs → lv_has ls 2 [(0, .ref b), (1, .int v1)] → W p l e (rmN 0) s m #[Value.ref b] below meth c H locs 0 0 (MQ below (QcW b (b + 7) (mAt G b σ') none) #[Value.ref b] s 0 0 (lw_Fr b (b + 7))) (F0 m 2 ls []) := by
    intro n
    induction n with
    | zero =>
      intro σ v1 H locs ls h X hS hl
      rw [fX4_takeBack_2_0] at h
      cases h
    | succ n ih =>
      intro σ v1 H locs ls h X hS hl
      rw [fX4_takeBack_2_s] at h
      refine lv_iload_n hx hb dX4_takeBack_2 rfl (lv_at hl 1 rfl) ?_
      refine lv_sipush (v := 200) hx hb dX4_takeBack_3 (by decide) ?_
      refine lv_icmp_ge (tgt := 27) hx hb dX4_takeBack_6 (by decide) (fun c1 => ?_) (fun c1 => ?_)
      · have h := ip h c1
        have h := so h
        subst h
        exact W.vret hx hb hr (fun t ht _ => ⟨rfl, by rw [ht]; exact X, hS.F ht⟩) hS.2.2 dX4_takeBack_27
      · have h := iq h c1
        refine lv_aload_n hx hb dX4_takeBack_9 rfl (lv_at hl 0 rfl) ?_
        refine gt_X4_1 C hin X 1 rfl dX4_takeBack_10 ?_
        refine lv_iload_n hx hb dX4_takeBack_13 rfl (lv_at hl 1 rfl) ?_
        refine lv_aload_n hx hb dX4_takeBack_14 rfl (lv_at hl 0 rfl) ?_
        refine gt_X4_2 C hin X 2 rfl dX4_takeBack_15 ?_
        refine lv_iload_n hx hb dX4_takeBack_18 rfl (lv_at hl 1 rfl) ?_
        obtain ⟨c2, h⟩ := og h
        refine al_X4_2 C X rfl c2 dX4_takeBack_19 ?_
        obtain ⟨c3, h⟩ := og h
        refine as_X4_1 C X hS rfl c3 dX4_takeBack_20 (fun H locs X hS => ?_)
        refine lv_iinc (v := v1 + 1) (lv' := [(1, .int (v1 + 1)), (0, .ref b)]) hx hb dX4_takeBack_21 hl (k := 1) rfl rfl (by decide) rfl (fun ls hl => ?_)
        refine lv_goto (tgt := 2) hx hb dX4_takeBack_24 (by decide) ?_
        exact ih _ _ _ _ _ h X hS (lv_sub hl [1, 0] rfl)
  unfold fX4_takeBack at h
  refine lv_iconst (v := 0) hx hb dX4_takeBack_0 (by decide) ?_
  refine lv_istore_n (lv' := [(1, .int 0), (0, .ref b)]) hx hb dX4_takeBack_1 rfl hl (by decide) rfl (fun ls hl => ?_)
  exact loop2 _ _ _ _ _ _ h X hS (lv_sub hl [1, 0] rfl)

theorem in_X4_sealBy : ∀ w ∈ wsX40, w ∈ wsX4_sealBy := by decide +kernel
def fX4_sealBy (σ : St) (p1 : Int32) (p2 : Int32) : Option (Int32) := (fX4_of σ p1 2).bind (fun r1 => if 0 ≤ r1 then ((fX4_of σ r1 3).bind (fun r3 => if (σ 1 2) = 0 then none else some (((((σ 1 0) * p2) + ((σ 1 1) * r3)) + p1) - ((((σ 1 0) * p2) + ((σ 1 1) * r3)) + p1) / (σ 1 2) * (σ 1 2)))) else (if (σ 1 2) = 0 then none else some (((((σ 1 0) * p2) + ((σ 1 1) * 0)) + p1) - ((((σ 1 0) * p2) + ((σ 1 1) * 0)) + p1) / (σ 1 2) * (σ 1 2))))
set_option maxHeartbeats 4000000 in
set_option maxRecDepth 100000 in
theorem kX4_sealBy (l : Launch) (G : Gx) (b : Nat) (σ : St) (p1 : Int32) (p2 : Int32) (r : Int32) (h : fX4_sealBy σ p1 p2 = some r) : Met l yX4_sealBy wsX4_sealBy (rmN 1) (pre G [.ref b, .int p1, .int p2] (mAt G b σ)) (QcRead r) 0 0 (fun _ => False) := by
  refine Met.ofW (cc := cX4_sealBy) (maxL := 4) (ret := (some .int)) (by decide) rfl ?_
  intro p e s m args below meth c s₁ B hml hv
  obtain ⟨rfl, X, hK⟩ := hv
  have hx := B.exec
  have hb := B.bytes
  have hr := B.returns
  have hts := atoms_spec (ws := wsX4_sealBy) B.pre
  have hown : s.vm.findClass RX4 = some m.cls := findClass_of_methodNamed B.named
  have hlocks := B.notSynchronized
  have C : Cx p m c cX4_sealBy 4 s _ wsX4_sealBy RX4 G := ⟨⟨hx, hb, hml, hown, hts⟩, hK⟩
  have hin : ∀ w ∈ wsX40, w ∈ wsX4_sealBy := in_X4_sealBy
  have hl := lv_entry ([.ref b, .int p1, .int p2]) (n := 4) (Nat.le_of_ble_eq_true rfl)
  rw [lg_entry_eq]
  generalize (lg_sl ([.ref b, .int p1, .int p2]) ++ List.replicate (4 - (lg_sl ([.ref b, .int p1, .int p2])).length) Slot.unset).toArray = ls at hl ⊢
  have hl : lv_has ls 4 [(0, .ref b), (1, .int p1), (2, .int p2)] := hl
  unfold fX4_sealBy at h
  refine lv_aload_n hx hb dX4_sealBy_0 rfl (lv_at hl 0 rfl) ?_
  refine lv_iload_n hx hb dX4_sealBy_1 rfl (lv_at hl 1 rfl) ?_
  refine lv_iconst (v := 2) hx hb dX4_sealBy_2 (by decide) ?_
  obtain ⟨r1, hr1, h⟩ := ob h
  refine rowV (As := [.int p1, .int 2]) (rest := []) C (kX4_of l G b σ p1 2 r1 hr1) (cwV 2 hts gX4_sealBy_X4_of rfl rfl rfl (by decide +kernel) ⟨Nat.le_of_ble_eq_true rfl, Nat.le_of_ble_eq_true rfl⟩) (rcv_X4 X hK) X rfl hl.1 rfl (Nat.le_of_ble_eq_true rfl) dX4_sealBy_3 ⟨Nat.zero_le _, Nat.zero_le _⟩ ?_
  refine lv_istore_n (lv' := [(3, .int r1), (0, .ref b), (1, .int p1), (2, .int p2)]) hx hb dX4_sealBy_6 rfl hl (by decide) rfl (fun ls hl => ?_)
  refine lv_aload_n hx hb dX4_sealBy_7 rfl (lv_at hl 1 rfl) ?_
  refine gt_X4_1 C hin X 1 rfl dX4_sealBy_8 ?_
  refine lv_iconst (v := 0) hx hb dX4_sealBy_11 (by decide) ?_
  refine al_X4_1 (j := 0) C X rfl (by decide) dX4_sealBy_12 ?_
  refine lv_iload_n hx hb dX4_sealBy_13 rfl (lv_at hl 3 rfl) ?_
  refine lv_imul hx hb dX4_sealBy_14 ?_
  refine lv_aload_n hx hb dX4_sealBy_15 rfl (lv_at hl 1 rfl) ?_
  refine gt_X4_1 C hin X 1 rfl dX4_sealBy_16 ?_
  refine lv_iconst (v := 1) hx hb dX4_sealBy_19 (by decide) ?_
  refine al_X4_1 (j := 1) C X rfl (by decide) dX4_sealBy_20 ?_
  refine lv_iload_n hx hb dX4_sealBy_21 rfl (lv_at hl 0 rfl) ?_
  refine lv_if_ge (tgt := 29) hx hb dX4_sealBy_22 (by decide) (fun c2 => ?_) (fun c2 => ?_)
  · have h := ip h c2
    refine lv_aload_n hx hb dX4_sealBy_29 rfl (lv_at hl 1 rfl) ?_
    refine lv_iload_n hx hb dX4_sealBy_30 rfl (lv_at hl 0 rfl) ?_
    refine lv_iconst (v := 3) hx hb dX4_sealBy_31 (by decide) ?_
    obtain ⟨r3, hr3, h⟩ := ob h
    refine rowV (As := [.int r1, .int 3]) (rest := [.int (σ 1 1), .int ((σ 1 0) * p2)]) C (kX4_of l G b σ r1 3 r3 hr3) (cwV 2 hts gX4_sealBy_X4_of rfl rfl rfl (by decide +kernel) ⟨Nat.le_of_ble_eq_true rfl, Nat.le_of_ble_eq_true rfl⟩) (rcv_X4 X hK) X rfl hl.1 rfl (Nat.le_of_ble_eq_true rfl) dX4_sealBy_32 ⟨Nat.zero_le _, Nat.zero_le _⟩ ?_
    refine lv_imul hx hb dX4_sealBy_35 ?_
    refine lv_iadd hx hb dX4_sealBy_36 ?_
    refine lv_iload_n hx hb dX4_sealBy_37 rfl (lv_at hl 2 rfl) ?_
    refine lv_iadd hx hb dX4_sealBy_38 ?_
    refine lv_aload_n hx hb dX4_sealBy_39 rfl (lv_at hl 1 rfl) ?_
    refine gt_X4_1 C hin X 1 rfl dX4_sealBy_40 ?_
    refine lv_iconst (v := 2) hx hb dX4_sealBy_43 (by decide) ?_
    refine al_X4_1 (j := 2) C X rfl (by decide) dX4_sealBy_44 ?_
    obtain ⟨c4, h⟩ := og h
    refine lv_irem hx hb dX4_sealBy_45 c4 ?_
    have h := so h
    subst h
    exact W.iret hx hb hr (fun t ht _ => ⟨rfl, ht⟩) (fun q h => absurd h List.not_mem_nil) dX4_sealBy_46
  · have h := iq h c2
    refine lv_iconst (v := 0) hx hb dX4_sealBy_25 (by decide) ?_
    refine lv_goto (tgt := 35) hx hb dX4_sealBy_26 (by decide) ?_
    refine lv_imul hx hb dX4_sealBy_35 ?_
    refine lv_iadd hx hb dX4_sealBy_36 ?_
    refine lv_iload_n hx hb dX4_sealBy_37 rfl (lv_at hl 2 rfl) ?_
    refine lv_iadd hx hb dX4_sealBy_38 ?_
    refine lv_aload_n hx hb dX4_sealBy_39 rfl (lv_at hl 1 rfl) ?_
    refine gt_X4_1 C hin X 1 rfl dX4_sealBy_40 ?_
    refine lv_iconst (v := 2) hx hb dX4_sealBy_43 (by decide) ?_
    refine al_X4_1 (j := 2) C X rfl (by decide) dX4_sealBy_44 ?_
    obtain ⟨c5, h⟩ := og h
    refine lv_irem hx hb dX4_sealBy_45 c5 ?_
    have h := so h
    subst h
    exact W.iret hx hb hr (fun t ht _ => ⟨rfl, ht⟩) (fun q h => absurd h List.not_mem_nil) dX4_sealBy_46

def fX4_rightSeal (σ : St) (p1 : Int32) : Option (Int32) := (fX4_of σ p1 0).bind (fun r1 => (fX4_sealBy σ p1 r1).bind (fun r2 => some r2))
set_option maxHeartbeats 4000000 in
set_option maxRecDepth 100000 in
theorem kX4_rightSeal (l : Launch) (G : Gx) (b : Nat) (σ : St) (p1 : Int32) (r : Int32) (h : fX4_rightSeal σ p1 = some r) : Met l yX4_rightSeal wsX4_rightSeal (rmN 2) (pre G [.ref b, .int p1] (mAt G b σ)) (QcRead r) 0 0 (fun _ => False) := by
  refine Met.ofW (cc := cX4_rightSeal) (maxL := 2) (ret := (some .int)) (by decide) rfl ?_
  intro p e s m args below meth c s₁ B hml hv
  obtain ⟨rfl, X, hK⟩ := hv
  have hx := B.exec
  have hb := B.bytes
  have hr := B.returns
  have hts := atoms_spec (ws := wsX4_rightSeal) B.pre
  have hown : s.vm.findClass RX4 = some m.cls := findClass_of_methodNamed B.named
  have hlocks := B.notSynchronized
  have C : Cx p m c cX4_rightSeal 2 s _ wsX4_rightSeal RX4 G := ⟨⟨hx, hb, hml, hown, hts⟩, hK⟩
  have hl := lv_entry ([.ref b, .int p1]) (n := 2) (Nat.le_of_ble_eq_true rfl)
  rw [lg_entry_eq]
  generalize (lg_sl ([.ref b, .int p1]) ++ List.replicate (2 - (lg_sl ([.ref b, .int p1])).length) Slot.unset).toArray = ls at hl ⊢
  have hl : lv_has ls 2 [(0, .ref b), (1, .int p1)] := hl
  unfold fX4_rightSeal at h
  refine lv_aload_n hx hb dX4_rightSeal_0 rfl (lv_at hl 0 rfl) ?_
  refine lv_iload_n hx hb dX4_rightSeal_1 rfl (lv_at hl 1 rfl) ?_
  refine lv_aload_n hx hb dX4_rightSeal_2 rfl (lv_at hl 0 rfl) ?_
  refine lv_iload_n hx hb dX4_rightSeal_3 rfl (lv_at hl 1 rfl) ?_
  refine lv_iconst (v := 0) hx hb dX4_rightSeal_4 (by decide) ?_
  obtain ⟨r1, hr1, h⟩ := ob h
  refine rowV (As := [.int p1, .int 0]) (rest := [.int p1, .ref b]) C (kX4_of l G b σ p1 0 r1 hr1) (cwV 2 hts gX4_rightSeal_X4_of rfl rfl rfl (by decide +kernel) ⟨Nat.le_of_ble_eq_true rfl, Nat.le_of_ble_eq_true rfl⟩) (rcv_X4 X hK) X rfl hl.1 rfl (Nat.le_of_ble_eq_true rfl) dX4_rightSeal_5 ⟨Nat.zero_le _, Nat.zero_le _⟩ ?_
  obtain ⟨r2, hr2, h⟩ := ob h
  refine rowV (As := [.int p1, .int r1]) (rest := []) C (kX4_sealBy l G b σ p1 r1 r2 hr2) (cwV 2 hts gX4_rightSeal_X4_sealBy rfl rfl rfl (by decide +kernel) ⟨Nat.le_of_ble_eq_true rfl, Nat.le_of_ble_eq_true rfl⟩) (rcv_X4 X hK) X rfl hl.1 rfl (Nat.le_of_ble_eq_true rfl) dX4_rightSeal_8 ⟨Nat.zero_le _, Nat.zero_le _⟩ ?_
  have h := so h
  subst h
  exact W.iret hx hb hr (fun t ht _ => ⟨rfl, ht⟩) (fun q h => absurd h List.not_mem_nil) dX4_rightSeal_11

def fX4_isWhole (σ : St) (p1 : Int32) : Option (Int32) := (fX4_of σ p1 3).bind (fun r1 => (fX4_rightSeal σ p1).bind (fun r2 => if r1 = r2 then (some 1) else (some 0)))
set_option maxHeartbeats 4000000 in
set_option maxRecDepth 100000 in
theorem kX4_isWhole (l : Launch) (G : Gx) (b : Nat) (σ : St) (p1 : Int32) (r : Int32) (h : fX4_isWhole σ p1 = some r) : Met l yX4_isWhole wsX4_isWhole (rmN 3) (pre G [.ref b, .int p1] (mAt G b σ)) (QcRead r) 0 0 (fun _ => False) := by
  refine Met.ofW (cc := cX4_isWhole) (maxL := 2) (ret := (some .boolean)) (by decide) rfl ?_
  intro p e s m args below meth c s₁ B hml hv
  obtain ⟨rfl, X, hK⟩ := hv
  have hx := B.exec
  have hb := B.bytes
  have hr := B.returns
  have hts := atoms_spec (ws := wsX4_isWhole) B.pre
  have hown : s.vm.findClass RX4 = some m.cls := findClass_of_methodNamed B.named
  have hlocks := B.notSynchronized
  have C : Cx p m c cX4_isWhole 2 s _ wsX4_isWhole RX4 G := ⟨⟨hx, hb, hml, hown, hts⟩, hK⟩
  have hl := lv_entry ([.ref b, .int p1]) (n := 2) (Nat.le_of_ble_eq_true rfl)
  rw [lg_entry_eq]
  generalize (lg_sl ([.ref b, .int p1]) ++ List.replicate (2 - (lg_sl ([.ref b, .int p1])).length) Slot.unset).toArray = ls at hl ⊢
  have hl : lv_has ls 2 [(0, .ref b), (1, .int p1)] := hl
  unfold fX4_isWhole at h
  refine lv_aload_n hx hb dX4_isWhole_0 rfl (lv_at hl 0 rfl) ?_
  refine lv_iload_n hx hb dX4_isWhole_1 rfl (lv_at hl 1 rfl) ?_
  refine lv_iconst (v := 3) hx hb dX4_isWhole_2 (by decide) ?_
  obtain ⟨r1, hr1, h⟩ := ob h
  refine rowV (As := [.int p1, .int 3]) (rest := []) C (kX4_of l G b σ p1 3 r1 hr1) (cwV 2 hts gX4_isWhole_X4_of rfl rfl rfl (by decide +kernel) ⟨Nat.le_of_ble_eq_true rfl, Nat.le_of_ble_eq_true rfl⟩) (rcv_X4 X hK) X rfl hl.1 rfl (Nat.le_of_ble_eq_true rfl) dX4_isWhole_3 ⟨Nat.zero_le _, Nat.zero_le _⟩ ?_
  refine lv_aload_n hx hb dX4_isWhole_6 rfl (lv_at hl 0 rfl) ?_
  refine lv_iload_n hx hb dX4_isWhole_7 rfl (lv_at hl 1 rfl) ?_
  obtain ⟨r2, hr2, h⟩ := ob h
  refine rowV (As := [.int p1]) (rest := [.int r1]) C (kX4_rightSeal l G b σ p1 r2 hr2) (cwV 1 hts gX4_isWhole_X4_rightSeal rfl rfl rfl (by decide +kernel) ⟨Nat.le_of_ble_eq_true rfl, Nat.le_of_ble_eq_true rfl⟩) (rcv_X4 X hK) X rfl hl.1 rfl (Nat.le_of_ble_eq_true rfl) dX4_isWhole_8 ⟨Nat.zero_le _, Nat.zero_le _⟩ ?_
  refine lv_icmp_ne (tgt := 18) hx hb dX4_isWhole_11 (by decide) (fun c3 => ?_) (fun c3 => ?_)
  · have h := iq h c3
    refine lv_iconst (v := 0) hx hb dX4_isWhole_18 (by decide) ?_
    have h := so h
    subst h
    exact W.zret hx hb hr rfl (fun t ht _ => ⟨rfl, ht⟩) (fun q h => absurd h List.not_mem_nil) dX4_isWhole_19
  · have h := ip h c3
    refine lv_iconst (v := 1) hx hb dX4_isWhole_14 (by decide) ?_
    refine lv_goto (tgt := 19) hx hb dX4_isWhole_15 (by decide) ?_
    have h := so h
    subst h
    exact W.zret hx hb hr rfl (fun t ht _ => ⟨rfl, ht⟩) (fun q h => absurd h List.not_mem_nil) dX4_isWhole_19

def fX4_depth_4 : Nat → St → Int32 → Int32 → Int32 → Option (Int32)
  | 0, _, _, _, _ => none
  | n + 1, σ, v1, v2, v3 => if v3 < 0 then (some v2) else ((fX4_of σ v3 2).bind (fun r2 => fX4_depth_4 n σ v1 (v2 + 1) r2))
theorem fX4_depth_4_0 (σ : St) (v1 : Int32) (v2 : Int32) (v3 : Int32) : fX4_depth_4 0 σ v1 v2 v3 = none := rfl
theorem fX4_depth_4_s (n : Nat) (σ : St) (v1 : Int32) (v2 : Int32) (v3 : Int32) : fX4_depth_4 (n + 1) σ v1 v2 v3 = (if v3 < 0 then (some v2) else ((fX4_of σ v3 2).bind (fun r2 => fX4_depth_4 n σ v1 (v2 + 1) r2))) := rfl
def fX4_depth (σ : St) (p1 : Int32) : Option (Int32) := fX4_depth_4 1000 σ p1 0 p1
set_option maxHeartbeats 4000000 in
set_option maxRecDepth 100000 in
theorem kX4_depth (l : Launch) (G : Gx) (b : Nat) (σ : St) (p1 : Int32) (r : Int32) (h : fX4_depth σ p1 = some r) : Met l yX4_depth wsX4_depth (rmN 1) (pre G [.ref b, .int p1] (mAt G b σ)) (QcRead r) 0 0 (fun _ => False) := by
  refine Met.ofW (cc := cX4_depth) (maxL := 4) (ret := (some .int)) (by decide) rfl ?_
  intro p e s m args below meth c s₁ B hml hv
  obtain ⟨rfl, X, hK⟩ := hv
  have hx := B.exec
  have hb := B.bytes
  have hr := B.returns
  have hts := atoms_spec (ws := wsX4_depth) B.pre
  have hown : s.vm.findClass RX4 = some m.cls := findClass_of_methodNamed B.named
  have hlocks := B.notSynchronized
  have C : Cx p m c cX4_depth 4 s _ wsX4_depth RX4 G := ⟨⟨hx, hb, hml, hown, hts⟩, hK⟩
  have hl := lv_entry ([.ref b, .int p1]) (n := 4) (Nat.le_of_ble_eq_true rfl)
  rw [lg_entry_eq]
  generalize (lg_sl ([.ref b, .int p1]) ++ List.replicate (4 - (lg_sl ([.ref b, .int p1])).length) Slot.unset).toArray = ls at hl ⊢
  have hl : lv_has ls 4 [(0, .ref b), (1, .int p1)] := hl
  have loop4 : ∀ (n : Nat) (v1 : Int32) (v2 : Int32) (v3 : Int32) (ls : Array Slot), fX4_depth_4 n σ v1 v2 v3 = some r → lv_has ls 4 [(0, .ref b), (1, .int v1), (2, .int v2), (3, .int v3)] → W p l e (rmN 1) s m #[Value.ref b, Value.int p1] below meth c s.heap [] 0 0 (MQ below (QcRead r) #[Value.ref b, Value.int p1] s 0 0 (fun _ => False)) (F0 m 4 ls []) := by
    intro n
    induction n with
    | zero =>
      intro v1 v2 v3 ls h hl
      rw [fX4_depth_4_0] at h
      cases h
    | succ n ih =>
      intro v1 v2 v3 ls h hl
      rw [fX4_depth_4_s] at h
      refine lv_iload_n hx hb dX4_depth_4 rfl (lv_at hl 3 rfl) ?_
      refine lv_if_lt (tgt := 21) hx hb dX4_depth_5 (by decide) (fun c1 => ?_) (fun c1 => ?_)
      · have h := ip h c1
        refine lv_iload_n hx hb dX4_depth_21 rfl (lv_at hl 2 rfl) ?_
        have h := so h
        subst h
        exact W.iret hx hb hr (fun t ht _ => ⟨rfl, ht⟩) (fun q h => absurd h List.not_mem_nil) dX4_depth_22
      · have h := iq h c1
        refine lv_iinc (v := v2 + 1) (lv' := [(2, .int (v2 + 1)), (0, .ref b), (1, .int v1), (3, .int v3)]) hx hb dX4_depth_8 hl (k := 2) rfl rfl (by decide) rfl (fun ls hl => ?_)
        refine lv_aload_n hx hb dX4_depth_11 rfl (lv_at hl 1 rfl) ?_
        refine lv_iload_n hx hb dX4_depth_12 rfl (lv_at hl 3 rfl) ?_
        refine lv_iconst (v := 2) hx hb dX4_depth_13 (by decide) ?_
        obtain ⟨r2, hr2, h⟩ := ob h
        refine rowV (As := [.int v3, .int 2]) (rest := []) C (kX4_of l G b σ v3 2 r2 hr2) (cwV 2 hts gX4_depth_X4_of rfl rfl rfl (by decide +kernel) ⟨Nat.le_of_ble_eq_true rfl, Nat.le_of_ble_eq_true rfl⟩) (rcv_X4 X hK) X rfl hl.1 rfl (Nat.le_of_ble_eq_true rfl) dX4_depth_14 ⟨Nat.zero_le _, Nat.zero_le _⟩ ?_
        refine lv_istore_n (lv' := [(3, .int r2), (2, .int (v2 + 1)), (0, .ref b), (1, .int v1)]) hx hb dX4_depth_17 rfl hl (by decide) rfl (fun ls hl => ?_)
        refine lv_goto (tgt := 4) hx hb dX4_depth_18 (by decide) ?_
        exact ih _ _ _ _ h (lv_sub hl [2, 3, 1, 0] rfl)
  unfold fX4_depth at h
  refine lv_iconst (v := 0) hx hb dX4_depth_0 (by decide) ?_
  refine lv_istore_n (lv' := [(2, .int 0), (0, .ref b), (1, .int p1)]) hx hb dX4_depth_1 rfl hl (by decide) rfl (fun ls hl => ?_)
  refine lv_iload_n hx hb dX4_depth_2 rfl (lv_at hl 2 rfl) ?_
  refine lv_istore_n (lv' := [(3, .int p1), (2, .int 0), (0, .ref b), (1, .int p1)]) hx hb dX4_depth_3 rfl hl (by decide) rfl (fun ls hl => ?_)
  exact loop4 _ _ _ _ _ h (lv_sub hl [2, 3, 1, 0] rfl)

theorem in_X4_vouchers : ∀ w ∈ wsX40, w ∈ wsX4_vouchers := by decide +kernel
def fX4_vouchers_4 : Nat → St → Int32 → Int32 → Int32 → Option (Int32)
  | 0, _, _, _, _ => none
  | n + 1, σ, v1, v2, v3 => if (σ 1 5) ≤ v3 then (some v2) else ((fX4_of σ v3 2).bind (fun r2 => if r2 = v1 then (fX4_vouchers_4 n σ v1 (v2 + 1) (v3 + 1)) else (fX4_vouchers_4 n σ v1 (v2 + 0) (v3 + 1))))
theorem fX4_vouchers_4_0 (σ : St) (v1 : Int32) (v2 : Int32) (v3 : Int32) : fX4_vouchers_4 0 σ v1 v2 v3 = none := rfl
theorem fX4_vouchers_4_s (n : Nat) (σ : St) (v1 : Int32) (v2 : Int32) (v3 : Int32) : fX4_vouchers_4 (n + 1) σ v1 v2 v3 = (if (σ 1 5) ≤ v3 then (some v2) else ((fX4_of σ v3 2).bind (fun r2 => if r2 = v1 then (fX4_vouchers_4 n σ v1 (v2 + 1) (v3 + 1)) else (fX4_vouchers_4 n σ v1 (v2 + 0) (v3 + 1))))) := rfl
def fX4_vouchers (σ : St) (p1 : Int32) : Option (Int32) := fX4_vouchers_4 1000 σ p1 0 0
set_option maxHeartbeats 4000000 in
set_option maxRecDepth 100000 in
theorem kX4_vouchers (l : Launch) (G : Gx) (b : Nat) (σ : St) (p1 : Int32) (r : Int32) (h : fX4_vouchers σ p1 = some r) : Met l yX4_vouchers wsX4_vouchers (rmN 1) (pre G [.ref b, .int p1] (mAt G b σ)) (QcRead r) 0 0 (fun _ => False) := by
  refine Met.ofW (cc := cX4_vouchers) (maxL := 4) (ret := (some .int)) (by decide) rfl ?_
  intro p e s m args below meth c s₁ B hml hv
  obtain ⟨rfl, X, hK⟩ := hv
  have hx := B.exec
  have hb := B.bytes
  have hr := B.returns
  have hts := atoms_spec (ws := wsX4_vouchers) B.pre
  have hown : s.vm.findClass RX4 = some m.cls := findClass_of_methodNamed B.named
  have hlocks := B.notSynchronized
  have C : Cx p m c cX4_vouchers 4 s _ wsX4_vouchers RX4 G := ⟨⟨hx, hb, hml, hown, hts⟩, hK⟩
  have hin : ∀ w ∈ wsX40, w ∈ wsX4_vouchers := in_X4_vouchers
  have hl := lv_entry ([.ref b, .int p1]) (n := 4) (Nat.le_of_ble_eq_true rfl)
  rw [lg_entry_eq]
  generalize (lg_sl ([.ref b, .int p1]) ++ List.replicate (4 - (lg_sl ([.ref b, .int p1])).length) Slot.unset).toArray = ls at hl ⊢
  have hl : lv_has ls 4 [(0, .ref b), (1, .int p1)] := hl
  have loop4 : ∀ (n : Nat) (v1 : Int32) (v2 : Int32) (v3 : Int32) (ls : Array Slot), fX4_vouchers_4 n σ v1 v2 v3 = some r → lv_has ls 4 [(0, .ref b), (1, .int v1), (2, .int v2), (3, .int v3)] → W p l e (rmN 1) s m #[Value.ref b, Value.int p1] below meth c s.heap [] 0 0 (MQ below (QcRead r) #[Value.ref b, Value.int p1] s 0 0 (fun _ => False)) (F0 m 4 ls []) := by
    intro n
    induction n with
    | zero =>
      intro v1 v2 v3 ls h hl
      rw [fX4_vouchers_4_0] at h
      cases h
    | succ n ih =>
      intro v1 v2 v3 ls h hl
      rw [fX4_vouchers_4_s] at h
      refine lv_iload_n hx hb dX4_vouchers_4 rfl (lv_at hl 3 rfl) ?_
      refine lv_aload_n hx hb dX4_vouchers_5 rfl (lv_at hl 0 rfl) ?_
      refine gt_X4_1 C hin X 1 rfl dX4_vouchers_6 ?_
      refine lv_iconst (v := 5) hx hb dX4_vouchers_9 (by decide) ?_
      refine al_X4_1 (j := 5) C X rfl (by decide) dX4_vouchers_10 ?_
      refine lv_icmp_ge (tgt := 38) hx hb dX4_vouchers_11 (by decide) (fun c1 => ?_) (fun c1 => ?_)
      · have h := ip h c1
        refine lv_iload_n hx hb dX4_vouchers_38 rfl (lv_at hl 2 rfl) ?_
        have h := so h
        subst h
        exact W.iret hx hb hr (fun t ht _ => ⟨rfl, ht⟩) (fun q h => absurd h List.not_mem_nil) dX4_vouchers_39
      · have h := iq h c1
        refine lv_iload_n hx hb dX4_vouchers_14 rfl (lv_at hl 2 rfl) ?_
        refine lv_aload_n hx hb dX4_vouchers_15 rfl (lv_at hl 0 rfl) ?_
        refine lv_iload_n hx hb dX4_vouchers_16 rfl (lv_at hl 3 rfl) ?_
        refine lv_iconst (v := 2) hx hb dX4_vouchers_17 (by decide) ?_
        obtain ⟨r2, hr2, h⟩ := ob h
        refine rowV (As := [.int v3, .int 2]) (rest := [.int v2]) C (kX4_of l G b σ v3 2 r2 hr2) (cwV 2 hts gX4_vouchers_X4_of rfl rfl rfl (by decide +kernel) ⟨Nat.le_of_ble_eq_true rfl, Nat.le_of_ble_eq_true rfl⟩) (rcv_X4 X hK) X rfl hl.1 rfl (Nat.le_of_ble_eq_true rfl) dX4_vouchers_18 ⟨Nat.zero_le _, Nat.zero_le _⟩ ?_
        refine lv_iload_n hx hb dX4_vouchers_21 rfl (lv_at hl 1 rfl) ?_
        refine lv_icmp_ne (tgt := 29) hx hb dX4_vouchers_22 (by decide) (fun c3 => ?_) (fun c3 => ?_)
        · have h := iq h c3
          refine lv_iconst (v := 0) hx hb dX4_vouchers_29 (by decide) ?_
          refine lv_iadd hx hb dX4_vouchers_30 ?_
          refine lv_istore_n (lv' := [(2, .int (v2 + 0)), (0, .ref b), (1, .int v1), (3, .int v3)]) hx hb dX4_vouchers_31 rfl hl (by decide) rfl (fun ls hl => ?_)
          refine lv_iinc (v := v3 + 1) (lv' := [(3, .int (v3 + 1)), (2, .int (v2 + 0)), (0, .ref b), (1, .int v1)]) hx hb dX4_vouchers_32 hl (k := 3) rfl rfl (by decide) rfl (fun ls hl => ?_)
          refine lv_goto (tgt := 4) hx hb dX4_vouchers_35 (by decide) ?_
          exact ih _ _ _ _ h (lv_sub hl [2, 3, 1, 0] rfl)
        · have h := ip h c3
          refine lv_iconst (v := 1) hx hb dX4_vouchers_25 (by decide) ?_
          refine lv_goto (tgt := 30) hx hb dX4_vouchers_26 (by decide) ?_
          refine lv_iadd hx hb dX4_vouchers_30 ?_
          refine lv_istore_n (lv' := [(2, .int (v2 + 1)), (0, .ref b), (1, .int v1), (3, .int v3)]) hx hb dX4_vouchers_31 rfl hl (by decide) rfl (fun ls hl => ?_)
          refine lv_iinc (v := v3 + 1) (lv' := [(3, .int (v3 + 1)), (2, .int (v2 + 1)), (0, .ref b), (1, .int v1)]) hx hb dX4_vouchers_32 hl (k := 3) rfl rfl (by decide) rfl (fun ls hl => ?_)
          refine lv_goto (tgt := 4) hx hb dX4_vouchers_35 (by decide) ?_
          exact ih _ _ _ _ h (lv_sub hl [2, 3, 1, 0] rfl)
  unfold fX4_vouchers at h
  refine lv_iconst (v := 0) hx hb dX4_vouchers_0 (by decide) ?_
  refine lv_istore_n (lv' := [(2, .int 0), (0, .ref b), (1, .int p1)]) hx hb dX4_vouchers_1 rfl hl (by decide) rfl (fun ls hl => ?_)
  refine lv_iconst (v := 0) hx hb dX4_vouchers_2 (by decide) ?_
  refine lv_istore_n (lv' := [(3, .int 0), (2, .int 0), (0, .ref b), (1, .int p1)]) hx hb dX4_vouchers_3 rfl hl (by decide) rfl (fun ls hl => ?_)
  exact loop4 _ _ _ _ _ h (lv_sub hl [2, 3, 1, 0] rfl)

def fX4_isInChain_2 : Nat → St → Int32 → Int32 → Int32 → Option (Int32)
  | 0, _, _, _, _ => none
  | n + 1, σ, v1, v2, v3 => if v3 < 0 then (if v3 = v1 then (some 1) else (some 0)) else (if v3 = v1 then (if v3 = v1 then (some 1) else (some 0)) else ((fX4_of σ v3 2).bind (fun r5 => fX4_isInChain_2 n σ v1 v2 r5)))
theorem fX4_isInChain_2_0 (σ : St) (v1 : Int32) (v2 : Int32) (v3 : Int32) : fX4_isInChain_2 0 σ v1 v2 v3 = none := rfl
theorem fX4_isInChain_2_s (n : Nat) (σ : St) (v1 : Int32) (v2 : Int32) (v3 : Int32) : fX4_isInChain_2 (n + 1) σ v1 v2 v3 = (if v3 < 0 then (if v3 = v1 then (some 1) else (some 0)) else (if v3 = v1 then (if v3 = v1 then (some 1) else (some 0)) else ((fX4_of σ v3 2).bind (fun r5 => fX4_isInChain_2 n σ v1 v2 r5)))) := rfl
def fX4_isInChain (σ : St) (p1 : Int32) (p2 : Int32) : Option (Int32) := fX4_isInChain_2 1000 σ p1 p2 p2
set_option maxHeartbeats 4000000 in
set_option maxRecDepth 100000 in
theorem kX4_isInChain (l : Launch) (G : Gx) (b : Nat) (σ : St) (p1 : Int32) (p2 : Int32) (r : Int32) (h : fX4_isInChain σ p1 p2 = some r) : Met l yX4_isInChain wsX4_isInChain (rmN 1) (pre G [.ref b, .int p1, .int p2] (mAt G b σ)) (QcRead r) 0 0 (fun _ => False) := by
  refine Met.ofW (cc := cX4_isInChain) (maxL := 4) (ret := (some .boolean)) (by decide) rfl ?_
  intro p e s m args below meth c s₁ B hml hv
  obtain ⟨rfl, X, hK⟩ := hv
  have hx := B.exec
  have hb := B.bytes
  have hr := B.returns
  have hts := atoms_spec (ws := wsX4_isInChain) B.pre
  have hown : s.vm.findClass RX4 = some m.cls := findClass_of_methodNamed B.named
  have hlocks := B.notSynchronized
  have C : Cx p m c cX4_isInChain 4 s _ wsX4_isInChain RX4 G := ⟨⟨hx, hb, hml, hown, hts⟩, hK⟩
  have hl := lv_entry ([.ref b, .int p1, .int p2]) (n := 4) (Nat.le_of_ble_eq_true rfl)
  rw [lg_entry_eq]
  generalize (lg_sl ([.ref b, .int p1, .int p2]) ++ List.replicate (4 - (lg_sl ([.ref b, .int p1, .int p2])).length) Slot.unset).toArray = ls at hl ⊢
  have hl : lv_has ls 4 [(0, .ref b), (1, .int p1), (2, .int p2)] := hl
  have loop2 : ∀ (n : Nat) (v1 : Int32) (v2 : Int32) (v3 : Int32) (ls : Array Slot), fX4_isInChain_2 n σ v1 v2 v3 = some r → lv_has ls 4 [(0, .ref b), (1, .int v1), (2, .int v2), (3, .int v3)] → W p l e (rmN 1) s m #[Value.ref b, Value.int p1, Value.int p2] below meth c s.heap [] 0 0 (MQ below (QcRead r) #[Value.ref b, Value.int p1, Value.int p2] s 0 0 (fun _ => False)) (F0 m 2 ls []) := by
    intro n
    induction n with
    | zero =>
      intro v1 v2 v3 ls h hl
      rw [fX4_isInChain_2_0] at h
      cases h
    | succ n ih =>
      intro v1 v2 v3 ls h hl
      rw [fX4_isInChain_2_s] at h
      refine lv_iload_n hx hb dX4_isInChain_2 rfl (lv_at hl 3 rfl) ?_
      refine lv_if_lt (tgt := 21) hx hb dX4_isInChain_3 (by decide) (fun c1 => ?_) (fun c1 => ?_)
      · have h := ip h c1
        refine lv_iload_n hx hb dX4_isInChain_21 rfl (lv_at hl 3 rfl) ?_
        refine lv_iload_n hx hb dX4_isInChain_22 rfl (lv_at hl 1 rfl) ?_
        refine lv_icmp_ne (tgt := 30) hx hb dX4_isInChain_23 (by decide) (fun c2 => ?_) (fun c2 => ?_)
        · have h := iq h c2
          refine lv_iconst (v := 0) hx hb dX4_isInChain_30 (by decide) ?_
          have h := so h
          subst h
          exact W.zret hx hb hr rfl (fun t ht _ => ⟨rfl, ht⟩) (fun q h => absurd h List.not_mem_nil) dX4_isInChain_31
        · have h := ip h c2
          refine lv_iconst (v := 1) hx hb dX4_isInChain_26 (by decide) ?_
          refine lv_goto (tgt := 31) hx hb dX4_isInChain_27 (by decide) ?_
          have h := so h
          subst h
          exact W.zret hx hb hr rfl (fun t ht _ => ⟨rfl, ht⟩) (fun q h => absurd h List.not_mem_nil) dX4_isInChain_31
      · have h := iq h c1
        refine lv_iload_n hx hb dX4_isInChain_6 rfl (lv_at hl 3 rfl) ?_
        refine lv_iload_n hx hb dX4_isInChain_7 rfl (lv_at hl 1 rfl) ?_
        refine lv_icmp_eq (tgt := 21) hx hb dX4_isInChain_8 (by decide) (fun c3 => ?_) (fun c3 => ?_)
        · have h := ip h c3
          refine lv_iload_n hx hb dX4_isInChain_21 rfl (lv_at hl 3 rfl) ?_
          refine lv_iload_n hx hb dX4_isInChain_22 rfl (lv_at hl 1 rfl) ?_
          refine lv_icmp_ne (tgt := 30) hx hb dX4_isInChain_23 (by decide) (fun c4 => ?_) (fun c4 => ?_)
          · have h := iq h c4
            refine lv_iconst (v := 0) hx hb dX4_isInChain_30 (by decide) ?_
            have h := so h
            subst h
            exact W.zret hx hb hr rfl (fun t ht _ => ⟨rfl, ht⟩) (fun q h => absurd h List.not_mem_nil) dX4_isInChain_31
          · have h := ip h c4
            refine lv_iconst (v := 1) hx hb dX4_isInChain_26 (by decide) ?_
            refine lv_goto (tgt := 31) hx hb dX4_isInChain_27 (by decide) ?_
            have h := so h
            subst h
            exact W.zret hx hb hr rfl (fun t ht _ => ⟨rfl, ht⟩) (fun q h => absurd h List.not_mem_nil) dX4_isInChain_31
        · have h := iq h c3
          refine lv_aload_n hx hb dX4_isInChain_11 rfl (lv_at hl 0 rfl) ?_
          refine lv_iload_n hx hb dX4_isInChain_12 rfl (lv_at hl 3 rfl) ?_
          refine lv_iconst (v := 2) hx hb dX4_isInChain_13 (by decide) ?_
          obtain ⟨r5, hr5, h⟩ := ob h
          refine rowV (As := [.int v3, .int 2]) (rest := []) C (kX4_of l G b σ v3 2 r5 hr5) (cwV 2 hts gX4_isInChain_X4_of rfl rfl rfl (by decide +kernel) ⟨Nat.le_of_ble_eq_true rfl, Nat.le_of_ble_eq_true rfl⟩) (rcv_X4 X hK) X rfl hl.1 rfl (Nat.le_of_ble_eq_true rfl) dX4_isInChain_14 ⟨Nat.zero_le _, Nat.zero_le _⟩ ?_
          refine lv_istore_n (lv' := [(3, .int r5), (0, .ref b), (1, .int v1), (2, .int v2)]) hx hb dX4_isInChain_17 rfl hl (by decide) rfl (fun ls hl => ?_)
          refine lv_goto (tgt := 2) hx hb dX4_isInChain_18 (by decide) ?_
          exact ih _ _ _ _ h (lv_sub hl [1, 2, 3, 0] rfl)
  unfold fX4_isInChain at h
  refine lv_iload_n hx hb dX4_isInChain_0 rfl (lv_at hl 2 rfl) ?_
  refine lv_istore_n (lv' := [(3, .int p2), (0, .ref b), (1, .int p1), (2, .int p2)]) hx hb dX4_isInChain_1 rfl hl (by decide) rfl (fun ls hl => ?_)
  exact loop2 _ _ _ _ _ h (lv_sub hl [1, 2, 3, 0] rfl)

theorem in_X4_refusesCart : ∀ w ∈ wsX40, w ∈ wsX4_refusesCart := by decide +kernel
def fX4_refusesCart (σ : St) (p1 : Int32) (p2 : Int32) (p3 : Int32) : Option (Int32) := if p3 = (-1) then ((fX4_in p1 0 99).bind (fun r2 => if r2 = 0 then (some (-2)) else ((fX4_in p2 0 99).bind (fun r4 => if r4 = 0 then (some (-2)) else (if (σ 1 5) = 24 then (some (-3)) else (some 0)))))) else ((fX4_isCart σ p3).bind (fun r7 => if r7 = 0 then (some (-1)) else ((fX4_in p1 0 99).bind (fun r9 => if r9 = 0 then (some (-2)) else ((fX4_in p2 0 99).bind (fun r11 => if r11 = 0 then (some (-2)) else (if (σ 1 5) = 24 then (some (-3)) else (some 0))))))))
set_option maxHeartbeats 4000000 in
set_option maxRecDepth 100000 in
theorem kX4_refusesCart (l : Launch) (G : Gx) (b : Nat) (σ : St) (p1 : Int32) (p2 : Int32) (p3 : Int32) (r : Int32) (h : fX4_refusesCart σ p1 p2 p3 = some r) : Met l yX4_refusesCart wsX4_refusesCart (rmN 2) (pre G [.ref b, .int p1, .int p2, .int p3] (mAt G b σ)) (QcRead r) 0 0 (fun _ => False) := by
  refine Met.ofW (cc := cX4_refusesCart) (maxL := 4) (ret := (some .int)) (by decide) rfl ?_
  intro p e s m args below meth c s₁ B hml hv
  obtain ⟨rfl, X, hK⟩ := hv
  have hx := B.exec
  have hb := B.bytes
  have hr := B.returns
  have hts := atoms_spec (ws := wsX4_refusesCart) B.pre
  have hown : s.vm.findClass RX4 = some m.cls := findClass_of_methodNamed B.named
  have hlocks := B.notSynchronized
  have C : Cx p m c cX4_refusesCart 4 s _ wsX4_refusesCart RX4 G := ⟨⟨hx, hb, hml, hown, hts⟩, hK⟩
  have hin : ∀ w ∈ wsX40, w ∈ wsX4_refusesCart := in_X4_refusesCart
  have hl := lv_entry ([.ref b, .int p1, .int p2, .int p3]) (n := 4) (Nat.le_of_ble_eq_true rfl)
  rw [lg_entry_eq]
  generalize (lg_sl ([.ref b, .int p1, .int p2, .int p3]) ++ List.replicate (4 - (lg_sl ([.ref b, .int p1, .int p2, .int p3])).length) Slot.unset).toArray = ls at hl ⊢
  have hl : lv_has ls 4 [(0, .ref b), (1, .int p1), (2, .int p2), (3, .int p3)] := hl
  unfold fX4_refusesCart at h
  refine lv_iload_n hx hb dX4_refusesCart_0 rfl (lv_at hl 3 rfl) ?_
  refine lv_iconst (v := (-1)) hx hb dX4_refusesCart_1 (by decide) ?_
  refine lv_icmp_eq (tgt := 15) hx hb dX4_refusesCart_2 (by decide) (fun c1 => ?_) (fun c1 => ?_)
  · have h := ip h c1
    refine lv_iload_n hx hb dX4_refusesCart_15 rfl (lv_at hl 1 rfl) ?_
    refine lv_iconst (v := 0) hx hb dX4_refusesCart_16 (by decide) ?_
    refine lv_bipush (v := 99) hx hb dX4_refusesCart_17 (by decide) ?_
    obtain ⟨r2, hr2, h⟩ := ob h
    refine rowS (As := [.int p1, .int 0, .int 99]) (rest := []) (B := fun _ => True) C (kX4_in l G p1 0 99 r2 hr2) (va_cwS 3 hts gX4_refusesCart_X4_in rfl rfl rfl (by decide +kernel) ⟨Nat.le_of_ble_eq_true rfl, Nat.le_of_ble_eq_true rfl⟩) trivial rfl hl.1 rfl (Nat.le_of_ble_eq_true rfl) dX4_refusesCart_19 ⟨Nat.zero_le _, Nat.zero_le _⟩ ?_
    refine lv_if_eq (tgt := 35) hx hb dX4_refusesCart_22 (by decide) (fun c3 => ?_) (fun c3 => ?_)
    · have h := ip h c3
      refine lv_bipush (v := (-2)) hx hb dX4_refusesCart_35 (by decide) ?_
      have h := so h
      subst h
      exact W.iret hx hb hr (fun t ht _ => ⟨rfl, ht⟩) (fun q h => absurd h List.not_mem_nil) dX4_refusesCart_37
    · have h := iq h c3
      refine lv_iload_n hx hb dX4_refusesCart_25 rfl (lv_at hl 2 rfl) ?_
      refine lv_iconst (v := 0) hx hb dX4_refusesCart_26 (by decide) ?_
      refine lv_bipush (v := 99) hx hb dX4_refusesCart_27 (by decide) ?_
      obtain ⟨r4, hr4, h⟩ := ob h
      refine rowS (As := [.int p2, .int 0, .int 99]) (rest := []) (B := fun _ => True) C (kX4_in l G p2 0 99 r4 hr4) (va_cwS 3 hts gX4_refusesCart_X4_in rfl rfl rfl (by decide +kernel) ⟨Nat.le_of_ble_eq_true rfl, Nat.le_of_ble_eq_true rfl⟩) trivial rfl hl.1 rfl (Nat.le_of_ble_eq_true rfl) dX4_refusesCart_29 ⟨Nat.zero_le _, Nat.zero_le _⟩ ?_
      refine lv_if_ne (tgt := 38) hx hb dX4_refusesCart_32 (by decide) (fun c5 => ?_) (fun c5 => ?_)
      · have h := iq h c5
        refine lv_aload_n hx hb dX4_refusesCart_38 rfl (lv_at hl 0 rfl) ?_
        refine gt_X4_1 C hin X 1 rfl dX4_refusesCart_39 ?_
        refine lv_iconst (v := 5) hx hb dX4_refusesCart_42 (by decide) ?_
        refine al_X4_1 (j := 5) C X rfl (by decide) dX4_refusesCart_43 ?_
        refine lv_bipush (v := 24) hx hb dX4_refusesCart_44 (by decide) ?_
        refine lv_icmp_ne (tgt := 54) hx hb dX4_refusesCart_46 (by decide) (fun c6 => ?_) (fun c6 => ?_)
        · have h := iq h c6
          refine lv_iconst (v := 0) hx hb dX4_refusesCart_54 (by decide) ?_
          have h := so h
          subst h
          exact W.iret hx hb hr (fun t ht _ => ⟨rfl, ht⟩) (fun q h => absurd h List.not_mem_nil) dX4_refusesCart_55
        · have h := ip h c6
          refine lv_bipush (v := (-3)) hx hb dX4_refusesCart_49 (by decide) ?_
          refine lv_goto (tgt := 55) hx hb dX4_refusesCart_51 (by decide) ?_
          have h := so h
          subst h
          exact W.iret hx hb hr (fun t ht _ => ⟨rfl, ht⟩) (fun q h => absurd h List.not_mem_nil) dX4_refusesCart_55
      · have h := ip h c5
        refine lv_bipush (v := (-2)) hx hb dX4_refusesCart_35 (by decide) ?_
        have h := so h
        subst h
        exact W.iret hx hb hr (fun t ht _ => ⟨rfl, ht⟩) (fun q h => absurd h List.not_mem_nil) dX4_refusesCart_37
  · have h := iq h c1
    refine lv_aload_n hx hb dX4_refusesCart_5 rfl (lv_at hl 0 rfl) ?_
    refine lv_iload_n hx hb dX4_refusesCart_6 rfl (lv_at hl 3 rfl) ?_
    obtain ⟨r7, hr7, h⟩ := ob h
    refine rowV (As := [.int p3]) (rest := []) C (kX4_isCart l G b σ p3 r7 hr7) (cwV 1 hts gX4_refusesCart_X4_isCart rfl rfl rfl (by decide +kernel) ⟨Nat.le_of_ble_eq_true rfl, Nat.le_of_ble_eq_true rfl⟩) (rcv_X4 X hK) X rfl hl.1 rfl (Nat.le_of_ble_eq_true rfl) dX4_refusesCart_7 ⟨Nat.zero_le _, Nat.zero_le _⟩ ?_
    refine lv_if_ne (tgt := 15) hx hb dX4_refusesCart_10 (by decide) (fun c8 => ?_) (fun c8 => ?_)
    · have h := iq h c8
      refine lv_iload_n hx hb dX4_refusesCart_15 rfl (lv_at hl 1 rfl) ?_
      refine lv_iconst (v := 0) hx hb dX4_refusesCart_16 (by decide) ?_
      refine lv_bipush (v := 99) hx hb dX4_refusesCart_17 (by decide) ?_
      obtain ⟨r9, hr9, h⟩ := ob h
      refine rowS (As := [.int p1, .int 0, .int 99]) (rest := []) (B := fun _ => True) C (kX4_in l G p1 0 99 r9 hr9) (va_cwS 3 hts gX4_refusesCart_X4_in rfl rfl rfl (by decide +kernel) ⟨Nat.le_of_ble_eq_true rfl, Nat.le_of_ble_eq_true rfl⟩) trivial rfl hl.1 rfl (Nat.le_of_ble_eq_true rfl) dX4_refusesCart_19 ⟨Nat.zero_le _, Nat.zero_le _⟩ ?_
      refine lv_if_eq (tgt := 35) hx hb dX4_refusesCart_22 (by decide) (fun c10 => ?_) (fun c10 => ?_)
      · have h := ip h c10
        refine lv_bipush (v := (-2)) hx hb dX4_refusesCart_35 (by decide) ?_
        have h := so h
        subst h
        exact W.iret hx hb hr (fun t ht _ => ⟨rfl, ht⟩) (fun q h => absurd h List.not_mem_nil) dX4_refusesCart_37
      · have h := iq h c10
        refine lv_iload_n hx hb dX4_refusesCart_25 rfl (lv_at hl 2 rfl) ?_
        refine lv_iconst (v := 0) hx hb dX4_refusesCart_26 (by decide) ?_
        refine lv_bipush (v := 99) hx hb dX4_refusesCart_27 (by decide) ?_
        obtain ⟨r11, hr11, h⟩ := ob h
        refine rowS (As := [.int p2, .int 0, .int 99]) (rest := []) (B := fun _ => True) C (kX4_in l G p2 0 99 r11 hr11) (va_cwS 3 hts gX4_refusesCart_X4_in rfl rfl rfl (by decide +kernel) ⟨Nat.le_of_ble_eq_true rfl, Nat.le_of_ble_eq_true rfl⟩) trivial rfl hl.1 rfl (Nat.le_of_ble_eq_true rfl) dX4_refusesCart_29 ⟨Nat.zero_le _, Nat.zero_le _⟩ ?_
        refine lv_if_ne (tgt := 38) hx hb dX4_refusesCart_32 (by decide) (fun c12 => ?_) (fun c12 => ?_)
        · have h := iq h c12
          refine lv_aload_n hx hb dX4_refusesCart_38 rfl (lv_at hl 0 rfl) ?_
          refine gt_X4_1 C hin X 1 rfl dX4_refusesCart_39 ?_
          refine lv_iconst (v := 5) hx hb dX4_refusesCart_42 (by decide) ?_
          refine al_X4_1 (j := 5) C X rfl (by decide) dX4_refusesCart_43 ?_
          refine lv_bipush (v := 24) hx hb dX4_refusesCart_44 (by decide) ?_
          refine lv_icmp_ne (tgt := 54) hx hb dX4_refusesCart_46 (by decide) (fun c13 => ?_) (fun c13 => ?_)
          · have h := iq h c13
            refine lv_iconst (v := 0) hx hb dX4_refusesCart_54 (by decide) ?_
            have h := so h
            subst h
            exact W.iret hx hb hr (fun t ht _ => ⟨rfl, ht⟩) (fun q h => absurd h List.not_mem_nil) dX4_refusesCart_55
          · have h := ip h c13
            refine lv_bipush (v := (-3)) hx hb dX4_refusesCart_49 (by decide) ?_
            refine lv_goto (tgt := 55) hx hb dX4_refusesCart_51 (by decide) ?_
            have h := so h
            subst h
            exact W.iret hx hb hr (fun t ht _ => ⟨rfl, ht⟩) (fun q h => absurd h List.not_mem_nil) dX4_refusesCart_55
        · have h := ip h c12
          refine lv_bipush (v := (-2)) hx hb dX4_refusesCart_35 (by decide) ?_
          have h := so h
          subst h
          exact W.iret hx hb hr (fun t ht _ => ⟨rfl, ht⟩) (fun q h => absurd h List.not_mem_nil) dX4_refusesCart_37
    · have h := ip h c8
      refine lv_iconst (v := (-1)) hx hb dX4_refusesCart_13 (by decide) ?_
      have h := so h
      subst h
      exact W.iret hx hb hr (fun t ht _ => ⟨rfl, ht⟩) (fun q h => absurd h List.not_mem_nil) dX4_refusesCart_14

theorem in_X4_comes : ∀ w ∈ wsX40, w ∈ wsX4_comes := by decide +kernel
def fX4_comes (σ : St) (p1 : Int32) (p2 : Int32) (p3 : Int32) : Option (Int32 × St) := (fX4_lay σ (σ 1 5) 0 p1).bind (fun σ2 => (fX4_lay σ2 (σ 1 5) 1 p2).bind (fun σ4 => (fX4_lay σ4 (σ 1 5) 2 p3).bind (fun σ6 => (fX4_rightSeal σ6 (σ 1 5)).bind (fun r7 => (fX4_lay σ6 (σ 1 5) 3 r7).bind (fun σ9 => some (σ 1 5, up (up σ9 1 5 ((σ9 1 5) + 1)) 1 6 (((up σ9 1 5 ((σ9 1 5) + 1)) 1 6) + p1)))))))
set_option maxHeartbeats 4000000 in
set_option maxRecDepth 100000 in
theorem kX4_comes (l : Launch) (G : Gx) (b : Nat) (σ : St) (p1 : Int32) (p2 : Int32) (p3 : Int32) (r : Int32) (σ' : St) (h : fX4_comes σ p1 p2 p3 = some (r, σ')) : Met l yX4_comes wsX4_comes (rmN 3) (pre G [.ref b, .int p1, .int p2, .int p3] (mAt G b σ)) (QcW b (b + 7) (mAt G b σ') (some (.int r))) 0 0 (lw_Fr b (b + 7)) := by
  refine Met.ofW (cc := cX4_comes) (maxL := 5) (ret := (some .int)) (by decide) rfl ?_
  intro p e s m args below meth c s₁ B hml hv
  obtain ⟨rfl, X, hK⟩ := hv
  have hx := B.exec
  have hb := B.bytes
  have hr := B.returns
  have hts := atoms_spec (ws := wsX4_comes) B.pre
  have hown : s.vm.findClass RX4 = some m.cls := findClass_of_methodNamed B.named
  have hlocks := B.notSynchronized
  have C : Cx p m c cX4_comes 5 s _ wsX4_comes RX4 G := ⟨⟨hx, hb, hml, hown, hts⟩, hK⟩
  have hin : ∀ w ∈ wsX40, w ∈ wsX4_comes := in_X4_comes
  have hS : va_S (lw_Fr b (b + 7)) s.heap s.heap [] := va_S.rf
  have hl := lv_entry ([.ref b, .int p1, .int p2, .int p3]) (n := 5) (Nat.le_of_ble_eq_true rfl)
  rw [lg_entry_eq]
  generalize (lg_sl ([.ref b, .int p1, .int p2, .int p3]) ++ List.replicate (5 - (lg_sl ([.ref b, .int p1, .int p2, .int p3])).length) Slot.unset).toArray = ls at hl ⊢
  have hl : lv_has ls 5 [(0, .ref b), (1, .int p1), (2, .int p2), (3, .int p3)] := hl
  unfold fX4_comes at h
  refine lv_aload_n hx hb dX4_comes_0 rfl (lv_at hl 0 rfl) ?_
  refine gt_X4_1 C hin X 1 rfl dX4_comes_1 ?_
  refine lv_iconst (v := 5) hx hb dX4_comes_4 (by decide) ?_
  refine al_X4_1 (j := 5) C X rfl (by decide) dX4_comes_5 ?_
  refine lv_istore (lv' := [(4, .int (σ 1 5)), (0, .ref b), (1, .int p1), (2, .int p2), (3, .int p3)]) hx hb dX4_comes_6 hl (by decide) rfl (fun ls hl => ?_)
  refine lv_aload_n hx hb dX4_comes_8 rfl (lv_at hl 1 rfl) ?_
  refine lv_iload hx hb dX4_comes_9 (lv_at hl 0 rfl) ?_
  refine lv_iconst (v := 0) hx hb dX4_comes_11 (by decide) ?_
  refine lv_iload_n hx hb dX4_comes_12 rfl (lv_at hl 2 rfl) ?_
  obtain ⟨σ2, hr1, h⟩ := ob h
  refine rowW (As := [.int (σ 1 5), .int 0, .int p1]) (rest := []) C (kX4_lay l G b σ (σ 1 5) 0 p1 σ2 hr1) (cwV 3 hts gX4_comes_X4_lay rfl rfl rfl (by decide +kernel) ⟨Nat.le_of_ble_eq_true rfl, Nat.le_of_ble_eq_true rfl⟩) (rcv_X4 X hK) X hS (fun _ z => z) rfl hl.1 rfl (Nat.le_of_ble_eq_true rfl) dX4_comes_13 ⟨Nat.zero_le _, Nat.zero_le _⟩ (fun H locs X hS _ _ => ?_)
  show W p l e _ s m _ below meth c H locs 0 0 _ (F0 m 16 ls [])
  refine lv_aload_n hx hb dX4_comes_16 rfl (lv_at hl 1 rfl) ?_
  refine lv_iload hx hb dX4_comes_17 (lv_at hl 0 rfl) ?_
  refine lv_iconst (v := 1) hx hb dX4_comes_19 (by decide) ?_
  refine lv_iload_n hx hb dX4_comes_20 rfl (lv_at hl 3 rfl) ?_
  obtain ⟨σ4, hr3, h⟩ := ob h
  refine rowW (As := [.int (σ 1 5), .int 1, .int p2]) (rest := []) C (kX4_lay l G b σ2 (σ 1 5) 1 p2 σ4 hr3) (cwV 3 hts gX4_comes_X4_lay rfl rfl rfl (by decide +kernel) ⟨Nat.le_of_ble_eq_true rfl, Nat.le_of_ble_eq_true rfl⟩) (rcv_X4 X hK) X hS (fun _ z => z) rfl hl.1 rfl (Nat.le_of_ble_eq_true rfl) dX4_comes_21 ⟨Nat.zero_le _, Nat.zero_le _⟩ (fun H locs X hS _ _ => ?_)
  show W p l e _ s m _ below meth c H locs 0 0 _ (F0 m 24 ls [])
  refine lv_aload_n hx hb dX4_comes_24 rfl (lv_at hl 1 rfl) ?_
  refine lv_iload hx hb dX4_comes_25 (lv_at hl 0 rfl) ?_
  refine lv_iconst (v := 2) hx hb dX4_comes_27 (by decide) ?_
  refine lv_iload_n hx hb dX4_comes_28 rfl (lv_at hl 4 rfl) ?_
  obtain ⟨σ6, hr5, h⟩ := ob h
  refine rowW (As := [.int (σ 1 5), .int 2, .int p3]) (rest := []) C (kX4_lay l G b σ4 (σ 1 5) 2 p3 σ6 hr5) (cwV 3 hts gX4_comes_X4_lay rfl rfl rfl (by decide +kernel) ⟨Nat.le_of_ble_eq_true rfl, Nat.le_of_ble_eq_true rfl⟩) (rcv_X4 X hK) X hS (fun _ z => z) rfl hl.1 rfl (Nat.le_of_ble_eq_true rfl) dX4_comes_29 ⟨Nat.zero_le _, Nat.zero_le _⟩ (fun H locs X hS _ _ => ?_)
  show W p l e _ s m _ below meth c H locs 0 0 _ (F0 m 32 ls [])
  refine lv_aload_n hx hb dX4_comes_32 rfl (lv_at hl 1 rfl) ?_
  refine lv_iload hx hb dX4_comes_33 (lv_at hl 0 rfl) ?_
  refine lv_iconst (v := 3) hx hb dX4_comes_35 (by decide) ?_
  refine lv_aload_n hx hb dX4_comes_36 rfl (lv_at hl 1 rfl) ?_
  refine lv_iload hx hb dX4_comes_37 (lv_at hl 0 rfl) ?_
  obtain ⟨r7, hr7, h⟩ := ob h
  refine rowV (As := [.int (σ 1 5)]) (rest := [.int 3, .int (σ 1 5), .ref b]) C (kX4_rightSeal l G b σ6 (σ 1 5) r7 hr7) (cwV 1 hts gX4_comes_X4_rightSeal rfl rfl rfl (by decide +kernel) ⟨Nat.le_of_ble_eq_true rfl, Nat.le_of_ble_eq_true rfl⟩) (rcv_X4 X hK) X rfl hl.1 rfl (Nat.le_of_ble_eq_true rfl) dX4_comes_39 ⟨Nat.zero_le _, Nat.zero_le _⟩ ?_
  obtain ⟨σ9, hr8, h⟩ := ob h
  refine rowW (As := [.int (σ 1 5), .int 3, .int r7]) (rest := []) C (kX4_lay l G b σ6 (σ 1 5) 3 r7 σ9 hr8) (cwV 3 hts gX4_comes_X4_lay rfl rfl rfl (by decide +kernel) ⟨Nat.le_of_ble_eq_true rfl, Nat.le_of_ble_eq_true rfl⟩) (rcv_X4 X hK) X hS (fun _ z => z) rfl hl.1 rfl (Nat.le_of_ble_eq_true rfl) dX4_comes_42 ⟨Nat.zero_le _, Nat.zero_le _⟩ (fun H locs X hS _ _ => ?_)
  show W p l e _ s m _ below meth c H locs 0 0 _ (F0 m 45 ls [])
  refine lv_aload_n hx hb dX4_comes_45 rfl (lv_at hl 1 rfl) ?_
  refine gt_X4_1 C hin X 1 rfl dX4_comes_46 ?_
  refine lv_iconst (v := 5) hx hb dX4_comes_49 (by decide) ?_
  refine lv_dup2_11 hx hb dX4_comes_50 rfl rfl ?_
  refine al_X4_1 (j := 5) C X rfl (by decide) dX4_comes_51 ?_
  refine lv_iconst (v := 1) hx hb dX4_comes_52 (by decide) ?_
  refine lv_iadd hx hb dX4_comes_53 ?_
  refine as_X4_1 (j := 5) C X hS rfl (by decide) dX4_comes_54 (fun H locs X hS => ?_)
  refine lv_aload_n hx hb dX4_comes_55 rfl (lv_at hl 1 rfl) ?_
  refine gt_X4_1 C hin X 1 rfl dX4_comes_56 ?_
  refine lv_bipush (v := 6) hx hb dX4_comes_59 (by decide) ?_
  refine lv_dup2_11 hx hb dX4_comes_61 rfl rfl ?_
  refine al_X4_1 (j := 6) C X rfl (by decide) dX4_comes_62 ?_
  refine lv_iload_n hx hb dX4_comes_63 rfl (lv_at hl 2 rfl) ?_
  refine lv_iadd hx hb dX4_comes_64 ?_
  refine as_X4_1 (j := 6) C X hS rfl (by decide) dX4_comes_65 (fun H locs X hS => ?_)
  refine lv_iload hx hb dX4_comes_66 (lv_at hl 0 rfl) ?_
  obtain ⟨h, h9⟩ := pr h
  subst h
  subst h9
  exact W.iret hx hb hr (fun t ht _ => ⟨rfl, by rw [ht]; exact X, hS.F ht⟩) hS.2.2 dX4_comes_68

theorem in_X4_come : ∀ w ∈ wsX40, w ∈ wsX4_come := by decide +kernel
def fX4_come (σ : St) (p1 : Int32) (p2 : Int32) (p3 : Int32) : Option (Int32 × St) := (fX4_refusesCart (up σ 0 0 0) p1 p2 p3).bind (fun r1 => if r1 = 0 then ((fX4_records (up σ 0 0 0)).bind (fun σ4 => (fX4_comes σ4 p1 p2 p3).bind (fun q7 => some (q7.1, q7.2)))) else (some (r1, up σ 0 0 0)))
set_option maxHeartbeats 4000000 in
set_option maxRecDepth 100000 in
theorem kX4_come (l : Launch) (G : Gx) (b : Nat) (σ : St) (p1 : Int32) (p2 : Int32) (p3 : Int32) (r : Int32) (σ' : St) (h : fX4_come σ p1 p2 p3 = some (r, σ')) : Met l yX4_come wsX4_come (rmN 4) (pre G [.ref b, .int p1, .int p2, .int p3] (mAt G b σ)) (QcW b (b + 7) (mAt G b σ') (some (.int r))) 0 0 (lw_Fr b (b + 7)) := by
  refine Met.ofW (cc := cX4_come) (maxL := 5) (ret := (some .int)) (by decide) rfl ?_
  intro p e s m args below meth c s₁ B hml hv
  obtain ⟨rfl, X, hK⟩ := hv
  have hx := B.exec
  have hb := B.bytes
  have hr := B.returns
  have hts := atoms_spec (ws := wsX4_come) B.pre
  have hown : s.vm.findClass RX4 = some m.cls := findClass_of_methodNamed B.named
  have hlocks := B.notSynchronized
  have C : Cx p m c cX4_come 5 s _ wsX4_come RX4 G := ⟨⟨hx, hb, hml, hown, hts⟩, hK⟩
  have hin : ∀ w ∈ wsX40, w ∈ wsX4_come := in_X4_come
  have hS : va_S (lw_Fr b (b + 7)) s.heap s.heap [] := va_S.rf
  have hl := lv_entry ([.ref b, .int p1, .int p2, .int p3]) (n := 5) (Nat.le_of_ble_eq_true rfl)
  rw [lg_entry_eq]
  generalize (lg_sl ([.ref b, .int p1, .int p2, .int p3]) ++ List.replicate (5 - (lg_sl ([.ref b, .int p1, .int p2, .int p3])).length) Slot.unset).toArray = ls at hl ⊢
  have hl : lv_has ls 5 [(0, .ref b), (1, .int p1), (2, .int p2), (3, .int p3)] := hl
  unfold fX4_come at h
  refine lv_aload_n hx hb dX4_come_0 rfl (lv_at hl 0 rfl) ?_
  refine lv_iconst (v := 0) hx hb dX4_come_1 (by decide) ?_
  refine pt_X4_0 C hin X hS 1 rfl dX4_come_2 (fun H locs X hS => ?_)
  refine lv_aload_n hx hb dX4_come_5 rfl (lv_at hl 0 rfl) ?_
  refine lv_iload_n hx hb dX4_come_6 rfl (lv_at hl 1 rfl) ?_
  refine lv_iload_n hx hb dX4_come_7 rfl (lv_at hl 2 rfl) ?_
  refine lv_iload_n hx hb dX4_come_8 rfl (lv_at hl 3 rfl) ?_
  obtain ⟨r1, hr1, h⟩ := ob h
  refine rowV (As := [.int p1, .int p2, .int p3]) (rest := []) C (kX4_refusesCart l G b (up σ 0 0 0) p1 p2 p3 r1 hr1) (cwV 3 hts gX4_come_X4_refusesCart rfl rfl rfl (by decide +kernel) ⟨Nat.le_of_ble_eq_true rfl, Nat.le_of_ble_eq_true rfl⟩) (rcv_X4 X hK) X rfl hl.1 rfl (Nat.le_of_ble_eq_true rfl) dX4_come_9 ⟨Nat.zero_le _, Nat.zero_le _⟩ ?_
  refine lv_istore (lv' := [(4, .int r1), (0, .ref b), (1, .int p1), (2, .int p2), (3, .int p3)]) hx hb dX4_come_12 hl (by decide) rfl (fun ls hl => ?_)
  refine lv_iload hx hb dX4_come_14 (lv_at hl 0 rfl) ?_
  refine lv_if_eq (tgt := 22) hx hb dX4_come_16 (by decide) (fun c2 => ?_) (fun c2 => ?_)
  · have h := ip h c2
    refine lv_aload_n hx hb dX4_come_22 rfl (lv_at hl 1 rfl) ?_
    obtain ⟨σ4, hr3, h⟩ := ob h
    refine rowW (As := []) (rest := []) C (kX4_records l G b (up σ 0 0 0) σ4 hr3) (cwV 0 hts gX4_come_X4_records rfl rfl rfl (by decide +kernel) ⟨Nat.le_of_ble_eq_true rfl, Nat.le_of_ble_eq_true rfl⟩) (rcv_X4 X hK) X hS (fun _ z => z) rfl hl.1 rfl (Nat.le_of_ble_eq_true rfl) dX4_come_23 ⟨Nat.zero_le _, Nat.zero_le _⟩ (fun H locs X hS _ _ => ?_)
    show W p l e _ s m _ below meth c H locs 0 0 _ (F0 m 26 ls [])
    refine lv_aload_n hx hb dX4_come_26 rfl (lv_at hl 1 rfl) ?_
    refine lv_iload_n hx hb dX4_come_27 rfl (lv_at hl 2 rfl) ?_
    refine lv_iload_n hx hb dX4_come_28 rfl (lv_at hl 3 rfl) ?_
    refine lv_iload_n hx hb dX4_come_29 rfl (lv_at hl 4 rfl) ?_
    obtain ⟨q7, hr5, h⟩ := ob h
    refine rowW (As := [.int p1, .int p2, .int p3]) (rest := []) C (kX4_comes l G b σ4 p1 p2 p3 q7.1 q7.2 hr5) (cwV 3 hts gX4_come_X4_comes rfl rfl rfl (by decide +kernel) ⟨Nat.le_of_ble_eq_true rfl, Nat.le_of_ble_eq_true rfl⟩) (rcv_X4 X hK) X hS (fun _ z => z) rfl hl.1 rfl (Nat.le_of_ble_eq_true rfl) dX4_come_30 ⟨Nat.zero_le _, Nat.zero_le _⟩ (fun H locs X hS _ _ => ?_)
    show W p l e _ s m _ below meth c H locs 0 0 _ (F0 m 33 ls [.int q7.1])
    obtain ⟨h, h9⟩ := pr h
    subst h
    subst h9
    exact W.iret hx hb hr (fun t ht _ => ⟨rfl, by rw [ht]; exact X, hS.F ht⟩) hS.2.2 dX4_come_33
  · have h := iq h c2
    refine lv_iload hx hb dX4_come_19 (lv_at hl 0 rfl) ?_
    obtain ⟨h, h9⟩ := pr h
    subst h
    subst h9
    exact W.iret hx hb hr (fun t ht _ => ⟨rfl, by rw [ht]; exact X, hS.F ht⟩) hS.2.2 dX4_come_21

def fX4_refusesAltering (σ : St) (p1 : Int32) (p2 : Int32) : Option (Int32) := (fX4_isCart σ p1).bind (fun r1 => if r1 = 0 then (some (-1)) else ((fX4_in p2 0 99).bind (fun r3 => if r3 = 0 then (some (-2)) else ((fX4_of σ p1 4).bind (fun r5 => if r5 = 1 then (some (-4)) else ((fX4_of σ p1 0).bind (fun r7 => if r7 = p2 then (some (-5)) else (some 0))))))))
set_option maxHeartbeats 4000000 in
set_option maxRecDepth 100000 in
theorem kX4_refusesAltering (l : Launch) (G : Gx) (b : Nat) (σ : St) (p1 : Int32) (p2 : Int32) (r : Int32) (h : fX4_refusesAltering σ p1 p2 = some r) : Met l yX4_refusesAltering wsX4_refusesAltering (rmN 2) (pre G [.ref b, .int p1, .int p2] (mAt G b σ)) (QcRead r) 0 0 (fun _ => False) := by
  refine Met.ofW (cc := cX4_refusesAltering) (maxL := 3) (ret := (some .int)) (by decide) rfl ?_
  intro p e s m args below meth c s₁ B hml hv
  obtain ⟨rfl, X, hK⟩ := hv
  have hx := B.exec
  have hb := B.bytes
  have hr := B.returns
  have hts := atoms_spec (ws := wsX4_refusesAltering) B.pre
  have hown : s.vm.findClass RX4 = some m.cls := findClass_of_methodNamed B.named
  have hlocks := B.notSynchronized
  have C : Cx p m c cX4_refusesAltering 3 s _ wsX4_refusesAltering RX4 G := ⟨⟨hx, hb, hml, hown, hts⟩, hK⟩
  have hl := lv_entry ([.ref b, .int p1, .int p2]) (n := 3) (Nat.le_of_ble_eq_true rfl)
  rw [lg_entry_eq]
  generalize (lg_sl ([.ref b, .int p1, .int p2]) ++ List.replicate (3 - (lg_sl ([.ref b, .int p1, .int p2])).length) Slot.unset).toArray = ls at hl ⊢
  have hl : lv_has ls 3 [(0, .ref b), (1, .int p1), (2, .int p2)] := hl
  unfold fX4_refusesAltering at h
  refine lv_aload_n hx hb dX4_refusesAltering_0 rfl (lv_at hl 0 rfl) ?_
  refine lv_iload_n hx hb dX4_refusesAltering_1 rfl (lv_at hl 1 rfl) ?_
  obtain ⟨r1, hr1, h⟩ := ob h
  refine rowV (As := [.int p1]) (rest := []) C (kX4_isCart l G b σ p1 r1 hr1) (cwV 1 hts gX4_refusesAltering_X4_isCart rfl rfl rfl (by decide +kernel) ⟨Nat.le_of_ble_eq_true rfl, Nat.le_of_ble_eq_true rfl⟩) (rcv_X4 X hK) X rfl hl.1 rfl (Nat.le_of_ble_eq_true rfl) dX4_refusesAltering_2 ⟨Nat.zero_le _, Nat.zero_le _⟩ ?_
  refine lv_if_ne (tgt := 10) hx hb dX4_refusesAltering_5 (by decide) (fun c2 => ?_) (fun c2 => ?_)
  · have h := iq h c2
    refine lv_iload_n hx hb dX4_refusesAltering_10 rfl (lv_at hl 2 rfl) ?_
    refine lv_iconst (v := 0) hx hb dX4_refusesAltering_11 (by decide) ?_
    refine lv_bipush (v := 99) hx hb dX4_refusesAltering_12 (by decide) ?_
    obtain ⟨r3, hr3, h⟩ := ob h
    refine rowS (As := [.int p2, .int 0, .int 99]) (rest := []) (B := fun _ => True) C (kX4_in l G p2 0 99 r3 hr3) (va_cwS 3 hts gX4_refusesAltering_X4_in rfl rfl rfl (by decide +kernel) ⟨Nat.le_of_ble_eq_true rfl, Nat.le_of_ble_eq_true rfl⟩) trivial rfl hl.1 rfl (Nat.le_of_ble_eq_true rfl) dX4_refusesAltering_14 ⟨Nat.zero_le _, Nat.zero_le _⟩ ?_
    refine lv_if_ne (tgt := 23) hx hb dX4_refusesAltering_17 (by decide) (fun c4 => ?_) (fun c4 => ?_)
    · have h := iq h c4
      refine lv_aload_n hx hb dX4_refusesAltering_23 rfl (lv_at hl 0 rfl) ?_
      refine lv_iload_n hx hb dX4_refusesAltering_24 rfl (lv_at hl 1 rfl) ?_
      refine lv_iconst (v := 4) hx hb dX4_refusesAltering_25 (by decide) ?_
      obtain ⟨r5, hr5, h⟩ := ob h
      refine rowV (As := [.int p1, .int 4]) (rest := []) C (kX4_of l G b σ p1 4 r5 hr5) (cwV 2 hts gX4_refusesAltering_X4_of rfl rfl rfl (by decide +kernel) ⟨Nat.le_of_ble_eq_true rfl, Nat.le_of_ble_eq_true rfl⟩) (rcv_X4 X hK) X rfl hl.1 rfl (Nat.le_of_ble_eq_true rfl) dX4_refusesAltering_26 ⟨Nat.zero_le _, Nat.zero_le _⟩ ?_
      refine lv_iconst (v := 1) hx hb dX4_refusesAltering_29 (by decide) ?_
      refine lv_icmp_ne (tgt := 38) hx hb dX4_refusesAltering_30 (by decide) (fun c6 => ?_) (fun c6 => ?_)
      · have h := iq h c6
        refine lv_aload_n hx hb dX4_refusesAltering_38 rfl (lv_at hl 0 rfl) ?_
        refine lv_iload_n hx hb dX4_refusesAltering_39 rfl (lv_at hl 1 rfl) ?_
        refine lv_iconst (v := 0) hx hb dX4_refusesAltering_40 (by decide) ?_
        obtain ⟨r7, hr7, h⟩ := ob h
        refine rowV (As := [.int p1, .int 0]) (rest := []) C (kX4_of l G b σ p1 0 r7 hr7) (cwV 2 hts gX4_refusesAltering_X4_of rfl rfl rfl (by decide +kernel) ⟨Nat.le_of_ble_eq_true rfl, Nat.le_of_ble_eq_true rfl⟩) (rcv_X4 X hK) X rfl hl.1 rfl (Nat.le_of_ble_eq_true rfl) dX4_refusesAltering_41 ⟨Nat.zero_le _, Nat.zero_le _⟩ ?_
        refine lv_iload_n hx hb dX4_refusesAltering_44 rfl (lv_at hl 2 rfl) ?_
        refine lv_icmp_ne (tgt := 53) hx hb dX4_refusesAltering_45 (by decide) (fun c8 => ?_) (fun c8 => ?_)
        · have h := iq h c8
          refine lv_iconst (v := 0) hx hb dX4_refusesAltering_53 (by decide) ?_
          have h := so h
          subst h
          exact W.iret hx hb hr (fun t ht _ => ⟨rfl, ht⟩) (fun q h => absurd h List.not_mem_nil) dX4_refusesAltering_54
        · have h := ip h c8
          refine lv_bipush (v := (-5)) hx hb dX4_refusesAltering_48 (by decide) ?_
          refine lv_goto (tgt := 54) hx hb dX4_refusesAltering_50 (by decide) ?_
          have h := so h
          subst h
          exact W.iret hx hb hr (fun t ht _ => ⟨rfl, ht⟩) (fun q h => absurd h List.not_mem_nil) dX4_refusesAltering_54
      · have h := ip h c6
        refine lv_bipush (v := (-4)) hx hb dX4_refusesAltering_33 (by decide) ?_
        refine lv_goto (tgt := 54) hx hb dX4_refusesAltering_35 (by decide) ?_
        have h := so h
        subst h
        exact W.iret hx hb hr (fun t ht _ => ⟨rfl, ht⟩) (fun q h => absurd h List.not_mem_nil) dX4_refusesAltering_54
    · have h := ip h c4
      refine lv_bipush (v := (-2)) hx hb dX4_refusesAltering_20 (by decide) ?_
      have h := so h
      subst h
      exact W.iret hx hb hr (fun t ht _ => ⟨rfl, ht⟩) (fun q h => absurd h List.not_mem_nil) dX4_refusesAltering_22
  · have h := ip h c2
    refine lv_iconst (v := (-1)) hx hb dX4_refusesAltering_8 (by decide) ?_
    have h := so h
    subst h
    exact W.iret hx hb hr (fun t ht _ => ⟨rfl, ht⟩) (fun q h => absurd h List.not_mem_nil) dX4_refusesAltering_9

theorem in_X4_alter : ∀ w ∈ wsX40, w ∈ wsX4_alter := by decide +kernel
def fX4_alter (σ : St) (p1 : Int32) (p2 : Int32) : Option (Int32 × St) := (fX4_refusesAltering (up σ 0 0 0) p1 p2).bind (fun r1 => if r1 = 0 then ((fX4_records (up σ 0 0 0)).bind (fun σ4 => (fX4_of σ4 p1 0).bind (fun r5 => (fX4_lay σ4 p1 0 p2).bind (fun σ7 => some (r5, σ7))))) else (some (r1, up σ 0 0 0)))
set_option maxHeartbeats 4000000 in
set_option maxRecDepth 100000 in
theorem kX4_alter (l : Launch) (G : Gx) (b : Nat) (σ : St) (p1 : Int32) (p2 : Int32) (r : Int32) (σ' : St) (h : fX4_alter σ p1 p2 = some (r, σ')) : Met l yX4_alter wsX4_alter (rmN 3) (pre G [.ref b, .int p1, .int p2] (mAt G b σ)) (QcW b (b + 7) (mAt G b σ') (some (.int r))) 0 0 (lw_Fr b (b + 7)) := by
  refine Met.ofW (cc := cX4_alter) (maxL := 5) (ret := (some .int)) (by decide) rfl ?_
  intro p e s m args below meth c s₁ B hml hv
  obtain ⟨rfl, X, hK⟩ := hv
  have hx := B.exec
  have hb := B.bytes
  have hr := B.returns
  have hts := atoms_spec (ws := wsX4_alter) B.pre
  have hown : s.vm.findClass RX4 = some m.cls := findClass_of_methodNamed B.named
  have hlocks := B.notSynchronized
  have C : Cx p m c cX4_alter 5 s _ wsX4_alter RX4 G := ⟨⟨hx, hb, hml, hown, hts⟩, hK⟩
  have hin : ∀ w ∈ wsX40, w ∈ wsX4_alter := in_X4_alter
  have hS : va_S (lw_Fr b (b + 7)) s.heap s.heap [] := va_S.rf
  have hl := lv_entry ([.ref b, .int p1, .int p2]) (n := 5) (Nat.le_of_ble_eq_true rfl)
  rw [lg_entry_eq]
  generalize (lg_sl ([.ref b, .int p1, .int p2]) ++ List.replicate (5 - (lg_sl ([.ref b, .int p1, .int p2])).length) Slot.unset).toArray = ls at hl ⊢
  have hl : lv_has ls 5 [(0, .ref b), (1, .int p1), (2, .int p2)] := hl
  unfold fX4_alter at h
  refine lv_aload_n hx hb dX4_alter_0 rfl (lv_at hl 0 rfl) ?_
  refine lv_iconst (v := 0) hx hb dX4_alter_1 (by decide) ?_
  refine pt_X4_0 C hin X hS 1 rfl dX4_alter_2 (fun H locs X hS => ?_)
  refine lv_aload_n hx hb dX4_alter_5 rfl (lv_at hl 0 rfl) ?_
  refine lv_iload_n hx hb dX4_alter_6 rfl (lv_at hl 1 rfl) ?_
  refine lv_iload_n hx hb dX4_alter_7 rfl (lv_at hl 2 rfl) ?_
  obtain ⟨r1, hr1, h⟩ := ob h
  refine rowV (As := [.int p1, .int p2]) (rest := []) C (kX4_refusesAltering l G b (up σ 0 0 0) p1 p2 r1 hr1) (cwV 2 hts gX4_alter_X4_refusesAltering rfl rfl rfl (by decide +kernel) ⟨Nat.le_of_ble_eq_true rfl, Nat.le_of_ble_eq_true rfl⟩) (rcv_X4 X hK) X rfl hl.1 rfl (Nat.le_of_ble_eq_true rfl) dX4_alter_8 ⟨Nat.zero_le _, Nat.zero_le _⟩ ?_
  refine lv_istore_n (lv' := [(3, .int r1), (0, .ref b), (1, .int p1), (2, .int p2)]) hx hb dX4_alter_11 rfl hl (by decide) rfl (fun ls hl => ?_)
  refine lv_iload_n hx hb dX4_alter_12 rfl (lv_at hl 0 rfl) ?_
  refine lv_if_eq (tgt := 18) hx hb dX4_alter_13 (by decide) (fun c2 => ?_) (fun c2 => ?_)
  · have h := ip h c2
    refine lv_aload_n hx hb dX4_alter_18 rfl (lv_at hl 1 rfl) ?_
    obtain ⟨σ4, hr3, h⟩ := ob h
    refine rowW (As := []) (rest := []) C (kX4_records l G b (up σ 0 0 0) σ4 hr3) (cwV 0 hts gX4_alter_X4_records rfl rfl rfl (by decide +kernel) ⟨Nat.le_of_ble_eq_true rfl, Nat.le_of_ble_eq_true rfl⟩) (rcv_X4 X hK) X hS (fun _ z => z) rfl hl.1 rfl (Nat.le_of_ble_eq_true rfl) dX4_alter_19 ⟨Nat.zero_le _, Nat.zero_le _⟩ (fun H locs X hS _ _ => ?_)
    show W p l e _ s m _ below meth c H locs 0 0 _ (F0 m 22 ls [])
    refine lv_aload_n hx hb dX4_alter_22 rfl (lv_at hl 1 rfl) ?_
    refine lv_iload_n hx hb dX4_alter_23 rfl (lv_at hl 2 rfl) ?_
    refine lv_iconst (v := 0) hx hb dX4_alter_24 (by decide) ?_
    obtain ⟨r5, hr5, h⟩ := ob h
    refine rowV (As := [.int p1, .int 0]) (rest := []) C (kX4_of l G b σ4 p1 0 r5 hr5) (cwV 2 hts gX4_alter_X4_of rfl rfl rfl (by decide +kernel) ⟨Nat.le_of_ble_eq_true rfl, Nat.le_of_ble_eq_true rfl⟩) (rcv_X4 X hK) X rfl hl.1 rfl (Nat.le_of_ble_eq_true rfl) dX4_alter_25 ⟨Nat.zero_le _, Nat.zero_le _⟩ ?_
    refine lv_istore (lv' := [(4, .int r5), (3, .int r1), (0, .ref b), (1, .int p1), (2, .int p2)]) hx hb dX4_alter_28 hl (by decide) rfl (fun ls hl => ?_)
    refine lv_aload_n hx hb dX4_alter_30 rfl (lv_at hl 2 rfl) ?_
    refine lv_iload_n hx hb dX4_alter_31 rfl (lv_at hl 3 rfl) ?_
    refine lv_iconst (v := 0) hx hb dX4_alter_32 (by decide) ?_
    refine lv_iload_n hx hb dX4_alter_33 rfl (lv_at hl 4 rfl) ?_
    obtain ⟨σ7, hr6, h⟩ := ob h
    refine rowW (As := [.int p1, .int 0, .int p2]) (rest := []) C (kX4_lay l G b σ4 p1 0 p2 σ7 hr6) (cwV 3 hts gX4_alter_X4_lay rfl rfl rfl (by decide +kernel) ⟨Nat.le_of_ble_eq_true rfl, Nat.le_of_ble_eq_true rfl⟩) (rcv_X4 X hK) X hS (fun _ z => z) rfl hl.1 rfl (Nat.le_of_ble_eq_true rfl) dX4_alter_34 ⟨Nat.zero_le _, Nat.zero_le _⟩ (fun H locs X hS _ _ => ?_)
    show W p l e _ s m _ below meth c H locs 0 0 _ (F0 m 37 ls [])
    refine lv_iload hx hb dX4_alter_37 (lv_at hl 0 rfl) ?_
    obtain ⟨h, h9⟩ := pr h
    subst h
    subst h9
    exact W.iret hx hb hr (fun t ht _ => ⟨rfl, by rw [ht]; exact X, hS.F ht⟩) hS.2.2 dX4_alter_39
  · have h := iq h c2
    refine lv_iload_n hx hb dX4_alter_16 rfl (lv_at hl 0 rfl) ?_
    obtain ⟨h, h9⟩ := pr h
    subst h
    subst h9
    exact W.iret hx hb hr (fun t ht _ => ⟨rfl, by rw [ht]; exact X, hS.F ht⟩) hS.2.2 dX4_alter_17

def fX4_refusesSeal (σ : St) (p1 : Int32) : Option (Int32) := (fX4_isCart σ p1).bind (fun r1 => if r1 = 0 then (some (-1)) else ((fX4_isWhole σ p1).bind (fun r3 => if r3 = 0 then (some 0) else (some (-5)))))
set_option maxHeartbeats 4000000 in
set_option maxRecDepth 100000 in
theorem kX4_refusesSeal (l : Launch) (G : Gx) (b : Nat) (σ : St) (p1 : Int32) (r : Int32) (h : fX4_refusesSeal σ p1 = some r) : Met l yX4_refusesSeal wsX4_refusesSeal (rmN 4) (pre G [.ref b, .int p1] (mAt G b σ)) (QcRead r) 0 0 (fun _ => False) := by
  refine Met.ofW (cc := cX4_refusesSeal) (maxL := 2) (ret := (some .int)) (by decide) rfl ?_
  intro p e s m args below meth c s₁ B hml hv
  obtain ⟨rfl, X, hK⟩ := hv
  have hx := B.exec
  have hb := B.bytes
  have hr := B.returns
  have hts := atoms_spec (ws := wsX4_refusesSeal) B.pre
  have hown : s.vm.findClass RX4 = some m.cls := findClass_of_methodNamed B.named
  have hlocks := B.notSynchronized
  have C : Cx p m c cX4_refusesSeal 2 s _ wsX4_refusesSeal RX4 G := ⟨⟨hx, hb, hml, hown, hts⟩, hK⟩
  have hl := lv_entry ([.ref b, .int p1]) (n := 2) (Nat.le_of_ble_eq_true rfl)
  rw [lg_entry_eq]
  generalize (lg_sl ([.ref b, .int p1]) ++ List.replicate (2 - (lg_sl ([.ref b, .int p1])).length) Slot.unset).toArray = ls at hl ⊢
  have hl : lv_has ls 2 [(0, .ref b), (1, .int p1)] := hl
  unfold fX4_refusesSeal at h
  refine lv_aload_n hx hb dX4_refusesSeal_0 rfl (lv_at hl 0 rfl) ?_
  refine lv_iload_n hx hb dX4_refusesSeal_1 rfl (lv_at hl 1 rfl) ?_
  obtain ⟨r1, hr1, h⟩ := ob h
  refine rowV (As := [.int p1]) (rest := []) C (kX4_isCart l G b σ p1 r1 hr1) (cwV 1 hts gX4_refusesSeal_X4_isCart rfl rfl rfl (by decide +kernel) ⟨Nat.le_of_ble_eq_true rfl, Nat.le_of_ble_eq_true rfl⟩) (rcv_X4 X hK) X rfl hl.1 rfl (Nat.le_of_ble_eq_true rfl) dX4_refusesSeal_2 ⟨Nat.zero_le _, Nat.zero_le _⟩ ?_
  refine lv_if_ne (tgt := 12) hx hb dX4_refusesSeal_5 (by decide) (fun c2 => ?_) (fun c2 => ?_)
  · have h := iq h c2
    refine lv_aload_n hx hb dX4_refusesSeal_12 rfl (lv_at hl 0 rfl) ?_
    refine lv_iload_n hx hb dX4_refusesSeal_13 rfl (lv_at hl 1 rfl) ?_
    obtain ⟨r3, hr3, h⟩ := ob h
    refine rowV (As := [.int p1]) (rest := []) C (kX4_isWhole l G b σ p1 r3 hr3) (cwV 1 hts gX4_refusesSeal_X4_isWhole rfl rfl rfl (by decide +kernel) ⟨Nat.le_of_ble_eq_true rfl, Nat.le_of_ble_eq_true rfl⟩) (rcv_X4 X hK) X rfl hl.1 rfl (Nat.le_of_ble_eq_true rfl) dX4_refusesSeal_14 ⟨Nat.zero_le _, Nat.zero_le _⟩ ?_
    refine lv_if_eq (tgt := 25) hx hb dX4_refusesSeal_17 (by decide) (fun c4 => ?_) (fun c4 => ?_)
    · have h := ip h c4
      refine lv_iconst (v := 0) hx hb dX4_refusesSeal_25 (by decide) ?_
      have h := so h
      subst h
      exact W.iret hx hb hr (fun t ht _ => ⟨rfl, ht⟩) (fun q h => absurd h List.not_mem_nil) dX4_refusesSeal_26
    · have h := iq h c4
      refine lv_bipush (v := (-5)) hx hb dX4_refusesSeal_20 (by decide) ?_
      refine lv_goto (tgt := 26) hx hb dX4_refusesSeal_22 (by decide) ?_
      have h := so h
      subst h
      exact W.iret hx hb hr (fun t ht _ => ⟨rfl, ht⟩) (fun q h => absurd h List.not_mem_nil) dX4_refusesSeal_26
  · have h := ip h c2
    refine lv_iconst (v := (-1)) hx hb dX4_refusesSeal_8 (by decide) ?_
    refine lv_goto (tgt := 26) hx hb dX4_refusesSeal_9 (by decide) ?_
    have h := so h
    subst h
    exact W.iret hx hb hr (fun t ht _ => ⟨rfl, ht⟩) (fun q h => absurd h List.not_mem_nil) dX4_refusesSeal_26

theorem in_X4_reseal : ∀ w ∈ wsX40, w ∈ wsX4_reseal := by decide +kernel
def fX4_reseal (σ : St) (p1 : Int32) : Option (Int32 × St) := (fX4_refusesSeal (up σ 0 0 0) p1).bind (fun r1 => if r1 = 0 then ((fX4_records (up σ 0 0 0)).bind (fun σ4 => (fX4_of σ4 p1 3).bind (fun r5 => (fX4_rightSeal σ4 p1).bind (fun r6 => (fX4_lay σ4 p1 3 r6).bind (fun σ8 => some (r5, σ8)))))) else (some (r1, up σ 0 0 0)))
set_option maxHeartbeats 4000000 in
set_option maxRecDepth 100000 in
theorem kX4_reseal (l : Launch) (G : Gx) (b : Nat) (σ : St) (p1 : Int32) (r : Int32) (σ' : St) (h : fX4_reseal σ p1 = some (r, σ')) : Met l yX4_reseal wsX4_reseal (rmN 5) (pre G [.ref b, .int p1] (mAt G b σ)) (QcW b (b + 7) (mAt G b σ') (some (.int r))) 0 0 (lw_Fr b (b + 7)) := by
  refine Met.ofW (cc := cX4_reseal) (maxL := 4) (ret := (some .int)) (by decide) rfl ?_
  intro p e s m args below meth c s₁ B hml hv
  obtain ⟨rfl, X, hK⟩ := hv
  have hx := B.exec
  have hb := B.bytes
  have hr := B.returns
  have hts := atoms_spec (ws := wsX4_reseal) B.pre
  have hown : s.vm.findClass RX4 = some m.cls := findClass_of_methodNamed B.named
  have hlocks := B.notSynchronized
  have C : Cx p m c cX4_reseal 4 s _ wsX4_reseal RX4 G := ⟨⟨hx, hb, hml, hown, hts⟩, hK⟩
  have hin : ∀ w ∈ wsX40, w ∈ wsX4_reseal := in_X4_reseal
  have hS : va_S (lw_Fr b (b + 7)) s.heap s.heap [] := va_S.rf
  have hl := lv_entry ([.ref b, .int p1]) (n := 4) (Nat.le_of_ble_eq_true rfl)
  rw [lg_entry_eq]
  generalize (lg_sl ([.ref b, .int p1]) ++ List.replicate (4 - (lg_sl ([.ref b, .int p1])).length) Slot.unset).toArray = ls at hl ⊢
  have hl : lv_has ls 4 [(0, .ref b), (1, .int p1)] := hl
  unfold fX4_reseal at h
  refine lv_aload_n hx hb dX4_reseal_0 rfl (lv_at hl 0 rfl) ?_
  refine lv_iconst (v := 0) hx hb dX4_reseal_1 (by decide) ?_
  refine pt_X4_0 C hin X hS 1 rfl dX4_reseal_2 (fun H locs X hS => ?_)
  refine lv_aload_n hx hb dX4_reseal_5 rfl (lv_at hl 0 rfl) ?_
  refine lv_iload_n hx hb dX4_reseal_6 rfl (lv_at hl 1 rfl) ?_
  obtain ⟨r1, hr1, h⟩ := ob h
  refine rowV (As := [.int p1]) (rest := []) C (kX4_refusesSeal l G b (up σ 0 0 0) p1 r1 hr1) (cwV 1 hts gX4_reseal_X4_refusesSeal rfl rfl rfl (by decide +kernel) ⟨Nat.le_of_ble_eq_true rfl, Nat.le_of_ble_eq_true rfl⟩) (rcv_X4 X hK) X rfl hl.1 rfl (Nat.le_of_ble_eq_true rfl) dX4_reseal_7 ⟨Nat.zero_le _, Nat.zero_le _⟩ ?_
  refine lv_istore_n (lv' := [(2, .int r1), (0, .ref b), (1, .int p1)]) hx hb dX4_reseal_10 rfl hl (by decide) rfl (fun ls hl => ?_)
  refine lv_iload_n hx hb dX4_reseal_11 rfl (lv_at hl 0 rfl) ?_
  refine lv_if_eq (tgt := 17) hx hb dX4_reseal_12 (by decide) (fun c2 => ?_) (fun c2 => ?_)
  · have h := ip h c2
    refine lv_aload_n hx hb dX4_reseal_17 rfl (lv_at hl 1 rfl) ?_
    obtain ⟨σ4, hr3, h⟩ := ob h
    refine rowW (As := []) (rest := []) C (kX4_records l G b (up σ 0 0 0) σ4 hr3) (cwV 0 hts gX4_reseal_X4_records rfl rfl rfl (by decide +kernel) ⟨Nat.le_of_ble_eq_true rfl, Nat.le_of_ble_eq_true rfl⟩) (rcv_X4 X hK) X hS (fun _ z => z) rfl hl.1 rfl (Nat.le_of_ble_eq_true rfl) dX4_reseal_18 ⟨Nat.zero_le _, Nat.zero_le _⟩ (fun H locs X hS _ _ => ?_)
    show W p l e _ s m _ below meth c H locs 0 0 _ (F0 m 21 ls [])
    refine lv_aload_n hx hb dX4_reseal_21 rfl (lv_at hl 1 rfl) ?_
    refine lv_iload_n hx hb dX4_reseal_22 rfl (lv_at hl 2 rfl) ?_
    refine lv_iconst (v := 3) hx hb dX4_reseal_23 (by decide) ?_
    obtain ⟨r5, hr5, h⟩ := ob h
    refine rowV (As := [.int p1, .int 3]) (rest := []) C (kX4_of l G b σ4 p1 3 r5 hr5) (cwV 2 hts gX4_reseal_X4_of rfl rfl rfl (by decide +kernel) ⟨Nat.le_of_ble_eq_true rfl, Nat.le_of_ble_eq_true rfl⟩) (rcv_X4 X hK) X rfl hl.1 rfl (Nat.le_of_ble_eq_true rfl) dX4_reseal_24 ⟨Nat.zero_le _, Nat.zero_le _⟩ ?_
    refine lv_istore_n (lv' := [(3, .int r5), (2, .int r1), (0, .ref b), (1, .int p1)]) hx hb dX4_reseal_27 rfl hl (by decide) rfl (fun ls hl => ?_)
    refine lv_aload_n hx hb dX4_reseal_28 rfl (lv_at hl 2 rfl) ?_
    refine lv_iload_n hx hb dX4_reseal_29 rfl (lv_at hl 3 rfl) ?_
    refine lv_iconst (v := 3) hx hb dX4_reseal_30 (by decide) ?_
    refine lv_aload_n hx hb dX4_reseal_31 rfl (lv_at hl 2 rfl) ?_
    refine lv_iload_n hx hb dX4_reseal_32 rfl (lv_at hl 3 rfl) ?_
    obtain ⟨r6, hr6, h⟩ := ob h
    refine rowV (As := [.int p1]) (rest := [.int 3, .int p1, .ref b]) C (kX4_rightSeal l G b σ4 p1 r6 hr6) (cwV 1 hts gX4_reseal_X4_rightSeal rfl rfl rfl (by decide +kernel) ⟨Nat.le_of_ble_eq_true rfl, Nat.le_of_ble_eq_true rfl⟩) (rcv_X4 X hK) X rfl hl.1 rfl (Nat.le_of_ble_eq_true rfl) dX4_reseal_33 ⟨Nat.zero_le _, Nat.zero_le _⟩ ?_
    obtain ⟨σ8, hr7, h⟩ := ob h
    refine rowW (As := [.int p1, .int 3, .int r6]) (rest := []) C (kX4_lay l G b σ4 p1 3 r6 σ8 hr7) (cwV 3 hts gX4_reseal_X4_lay rfl rfl rfl (by decide +kernel) ⟨Nat.le_of_ble_eq_true rfl, Nat.le_of_ble_eq_true rfl⟩) (rcv_X4 X hK) X hS (fun _ z => z) rfl hl.1 rfl (Nat.le_of_ble_eq_true rfl) dX4_reseal_36 ⟨Nat.zero_le _, Nat.zero_le _⟩ (fun H locs X hS _ _ => ?_)
    show W p l e _ s m _ below meth c H locs 0 0 _ (F0 m 39 ls [])
    refine lv_iload_n hx hb dX4_reseal_39 rfl (lv_at hl 0 rfl) ?_
    obtain ⟨h, h9⟩ := pr h
    subst h
    subst h9
    exact W.iret hx hb hr (fun t ht _ => ⟨rfl, by rw [ht]; exact X, hS.F ht⟩) hS.2.2 dX4_reseal_40
  · have h := iq h c2
    refine lv_iload_n hx hb dX4_reseal_15 rfl (lv_at hl 0 rfl) ?_
    obtain ⟨h, h9⟩ := pr h
    subst h
    subst h9
    exact W.iret hx hb hr (fun t ht _ => ⟨rfl, by rw [ht]; exact X, hS.F ht⟩) hS.2.2 dX4_reseal_16

def fX4_clears_7 : Nat → St → Int32 → Int32 → Int32 → Int32 → Option (Int32 × St)
  | 0, _, _, _, _, _ => none
  | n + 1, σ, v1, v2, v3, v4 => if v4 = 0 then (some (v2, σ)) else ((fX4_of σ v3 6).bind (fun r2 => if r2 = 0 then ((fX4_of σ v3 5).bind (fun r12 => (fX4_lay σ v3 5 1).bind (fun σ14 => (fX4_isWhole σ14 v3).bind (fun r15 => if r15 = 0 then (fX4_clears_7 n σ14 v1 (v2 + (1 - r12)) v3 0) else ((fX4_of σ14 v3 2).bind (fun r18 => if r18 < 0 then (fX4_clears_7 n σ14 v1 (v2 + (1 - r12)) v3 0) else ((fX4_of σ14 v3 2).bind (fun r22 => fX4_clears_7 n σ14 v1 (v2 + (1 - r12)) r22 1)))))))) else ((fX4_isWhole σ v3).bind (fun r4 => if r4 = 0 then (fX4_clears_7 n σ v1 v2 v3 0) else ((fX4_of σ v3 2).bind (fun r7 => if r7 < 0 then (fX4_clears_7 n σ v1 v2 v3 0) else ((fX4_of σ v3 2).bind (fun r11 => fX4_clears_7 n σ v1 v2 r11 1))))))))
theorem fX4_clears_7_0 (σ : St) (v1 : Int32) (v2 : Int32) (v3 : Int32) (v4 : Int32) : fX4_clears_7 0 σ v1 v2 v3 v4 = none := rfl
theorem fX4_clears_7_s (n : Nat) (σ : St) (v1 : Int32) (v2 : Int32) (v3 : Int32) (v4 : Int32) : fX4_clears_7 (n + 1) σ v1 v2 v3 v4 = (if v4 = 0 then (some (v2, σ)) else ((fX4_of σ v3 6).bind (fun r2 => if r2 = 0 then ((fX4_of σ v3 5).bind (fun r12 => (fX4_lay σ v3 5 1).bind (fun σ14 => (fX4_isWhole σ14 v3).bind (fun r15 => if r15 = 0 then (fX4_clears_7 n σ14 v1 (v2 + (1 - r12)) v3 0) else ((fX4_of σ14 v3 2).bind (fun r18 => if r18 < 0 then (fX4_clears_7 n σ14 v1 (v2 + (1 - r12)) v3 0) else ((fX4_of σ14 v3 2).bind (fun r22 => fX4_clears_7 n σ14 v1 (v2 + (1 - r12)) r22 1)))))))) else ((fX4_isWhole σ v3).bind (fun r4 => if r4 = 0 then (fX4_clears_7 n σ v1 v2 v3 0) else ((fX4_of σ v3 2).bind (fun r7 => if r7 < 0 then (fX4_clears_7 n σ v1 v2 v3 0) else ((fX4_of σ v3 2).bind (fun r11 => fX4_clears_7 n σ v1 v2 r11 1))))))))) := rfl
def fX4_clears (σ : St) (p1 : Int32) : Option (Int32 × St) := fX4_clears_7 1000 σ p1 0 p1 1
set_option maxHeartbeats 4000000 in
set_option maxRecDepth 100000 in
theorem kX4_clears (l : Launch) (G : Gx) (b : Nat) (σ : St) (p1 : Int32) (r : Int32) (σ' : St) (h : fX4_clears σ p1 = some (r, σ')) : Met l yX4_clears wsX4_clears (rmN 4) (pre G [.ref b, .int p1] (mAt G b σ)) (QcW b (b + 7) (mAt G b σ') (some (.int r))) 0 0 (lw_Fr b (b + 7)) := by
  refine Met.ofW (cc := cX4_clears) (maxL := 5) (ret := (some .int)) (by decide) rfl ?_
  intro p e s m args below meth c s₁ B hml hv
  obtain ⟨rfl, X, hK⟩ := hv
  have hx := B.exec
  have hb := B.bytes
  have hr := B.returns
  have hts := atoms_spec (ws := wsX4_clears) B.pre
  have hown : s.vm.findClass RX4 = some m.cls := findClass_of_methodNamed B.named
  have hlocks := B.notSynchronized
  have C : Cx p m c cX4_clears 5 s _ wsX4_clears RX4 G := ⟨⟨hx, hb, hml, hown, hts⟩, hK⟩
  have hS : va_S (lw_Fr b (b + 7)) s.heap s.heap [] := va_S.rf
  have hl := lv_entry ([.ref b, .int p1]) (n := 5) (Nat.le_of_ble_eq_true rfl)
  rw [lg_entry_eq]
  generalize (lg_sl ([.ref b, .int p1]) ++ List.replicate (5 - (lg_sl ([.ref b, .int p1])).length) Slot.unset).toArray = ls at hl ⊢
  have hl : lv_has ls 5 [(0, .ref b), (1, .int p1)] := hl
  have loop7 : ∀ (n : Nat) (σ : St) (v1 : Int32) (v2 : Int32) (v3 : Int32) (v4 : Int32) (H : Heap) (locs : List Loc) (ls : Array Slot), fX4_clears_7 n σ v1 v2 v3 v4 = some (r, σ') → mAt G b σ H → va_S (lw_Fr b (b + 7)) s.heap H locs → lv_has ls 5 [(0, .ref b), (1, .int v1), (2, .int v2), (3, .int v3), (4, .int v4)] → W p l e (rmN 4) s m #[Value.ref b, Value.int p1] below meth c H locs 0 0 (MQ below (QcW b (b + 7) (mAt G b σ') (some (.int r))) #[Value.ref b, Value.int p1] s 0 0 (lw_Fr b (b + 7))) (F0 m 7 ls []) := by
    intro n
    induction n with
    | zero =>
      intro σ v1 v2 v3 v4 H locs ls h X hS hl
      rw [fX4_clears_7_0] at h
      cases h
    | succ n ih =>
      intro σ v1 v2 v3 v4 H locs ls h X hS hl
      rw [fX4_clears_7_s] at h
      refine lv_iload hx hb dX4_clears_7 (lv_at hl 4 rfl) ?_
      refine lv_if_eq (tgt := 83) hx hb dX4_clears_9 (by decide) (fun c1 => ?_) (fun c1 => ?_)
      · have h := ip h c1
        refine lv_iload_n hx hb dX4_clears_83 rfl (lv_at hl 2 rfl) ?_
        obtain ⟨h, h9⟩ := pr h
        subst h
        subst h9
        exact W.iret hx hb hr (fun t ht _ => ⟨rfl, by rw [ht]; exact X, hS.F ht⟩) hS.2.2 dX4_clears_84
      · have h := iq h c1
        refine lv_aload_n hx hb dX4_clears_12 rfl (lv_at hl 0 rfl) ?_
        refine lv_iload_n hx hb dX4_clears_13 rfl (lv_at hl 3 rfl) ?_
        refine lv_bipush (v := 6) hx hb dX4_clears_14 (by decide) ?_
        obtain ⟨r2, hr2, h⟩ := ob h
        refine rowV (As := [.int v3, .int 6]) (rest := []) C (kX4_of l G b σ v3 6 r2 hr2) (cwV 2 hts gX4_clears_X4_of rfl rfl rfl (by decide +kernel) ⟨Nat.le_of_ble_eq_true rfl, Nat.le_of_ble_eq_true rfl⟩) (rcv_X4 X hK) X rfl hl.1 rfl (Nat.le_of_ble_eq_true rfl) dX4_clears_16 ⟨Nat.zero_le _, Nat.zero_le _⟩ ?_
        refine lv_if_ne (tgt := 40) hx hb dX4_clears_19 (by decide) (fun c3 => ?_) (fun c3 => ?_)
        · have h := iq h c3
          refine lv_aload_n hx hb dX4_clears_40 rfl (lv_at hl 0 rfl) ?_
          refine lv_iload_n hx hb dX4_clears_41 rfl (lv_at hl 3 rfl) ?_
          obtain ⟨r4, hr4, h⟩ := ob h
          refine rowV (As := [.int v3]) (rest := []) C (kX4_isWhole l G b σ v3 r4 hr4) (cwV 1 hts gX4_clears_X4_isWhole rfl rfl rfl (by decide +kernel) ⟨Nat.le_of_ble_eq_true rfl, Nat.le_of_ble_eq_true rfl⟩) (rcv_X4 X hK) X rfl hl.1 rfl (Nat.le_of_ble_eq_true rfl) dX4_clears_42 ⟨Nat.zero_le _, Nat.zero_le _⟩ ?_
          refine lv_if_eq (tgt := 61) hx hb dX4_clears_45 (by decide) (fun c5 => ?_) (fun c5 => ?_)
          · have h := ip h c5
            refine lv_iconst (v := 0) hx hb dX4_clears_61 (by decide) ?_
            refine lv_istore (lv' := [(4, .int 0), (0, .ref b), (1, .int v1), (2, .int v2), (3, .int v3)]) hx hb dX4_clears_62 hl (by decide) rfl (fun ls hl => ?_)
            refine lv_iload hx hb dX4_clears_64 (lv_at hl 0 rfl) ?_
            refine lv_if_eq (tgt := 78) hx hb dX4_clears_66 (by decide) (fun c6 => ?_) (fun c6 => ?_)
            · skip
              refine lv_iload_n hx hb dX4_clears_78 rfl (lv_at hl 4 rfl) ?_
              refine lv_istore_n (lv' := [(3, .int v3), (4, .int 0), (0, .ref b), (1, .int v1), (2, .int v2)]) hx hb dX4_clears_79 rfl hl (by decide) rfl (fun ls hl => ?_)
              refine lv_goto (tgt := 7) hx hb dX4_clears_80 (by decide) ?_
              exact ih _ _ _ _ _ _ _ _ h X hS (lv_sub hl [2, 3, 4, 0, 1] rfl)
            · exact absurd c6 (by decide)
          · have h := iq h c5
            refine lv_aload_n hx hb dX4_clears_48 rfl (lv_at hl 0 rfl) ?_
            refine lv_iload_n hx hb dX4_clears_49 rfl (lv_at hl 3 rfl) ?_
            refine lv_iconst (v := 2) hx hb dX4_clears_50 (by decide) ?_
            obtain ⟨r7, hr7, h⟩ := ob h
            refine rowV (As := [.int v3, .int 2]) (rest := []) C (kX4_of l G b σ v3 2 r7 hr7) (cwV 2 hts gX4_clears_X4_of rfl rfl rfl (by decide +kernel) ⟨Nat.le_of_ble_eq_true rfl, Nat.le_of_ble_eq_true rfl⟩) (rcv_X4 X hK) X rfl hl.1 rfl (Nat.le_of_ble_eq_true rfl) dX4_clears_51 ⟨Nat.zero_le _, Nat.zero_le _⟩ ?_
            refine lv_if_lt (tgt := 61) hx hb dX4_clears_54 (by decide) (fun c8 => ?_) (fun c8 => ?_)
            · have h := ip h c8
              refine lv_iconst (v := 0) hx hb dX4_clears_61 (by decide) ?_
              refine lv_istore (lv' := [(4, .int 0), (0, .ref b), (1, .int v1), (2, .int v2), (3, .int v3)]) hx hb dX4_clears_62 hl (by decide) rfl (fun ls hl => ?_)
              refine lv_iload hx hb dX4_clears_64 (lv_at hl 0 rfl) ?_
              refine lv_if_eq (tgt := 78) hx hb dX4_clears_66 (by decide) (fun c9 => ?_) (fun c9 => ?_)
              · skip
                refine lv_iload_n hx hb dX4_clears_78 rfl (lv_at hl 4 rfl) ?_
                refine lv_istore_n (lv' := [(3, .int v3), (4, .int 0), (0, .ref b), (1, .int v1), (2, .int v2)]) hx hb dX4_clears_79 rfl hl (by decide) rfl (fun ls hl => ?_)
                refine lv_goto (tgt := 7) hx hb dX4_clears_80 (by decide) ?_
                exact ih _ _ _ _ _ _ _ _ h X hS (lv_sub hl [2, 3, 4, 0, 1] rfl)
              · exact absurd c9 (by decide)
            · have h := iq h c8
              refine lv_iconst (v := 1) hx hb dX4_clears_57 (by decide) ?_
              refine lv_goto (tgt := 62) hx hb dX4_clears_58 (by decide) ?_
              refine lv_istore (lv' := [(4, .int 1), (0, .ref b), (1, .int v1), (2, .int v2), (3, .int v3)]) hx hb dX4_clears_62 hl (by decide) rfl (fun ls hl => ?_)
              refine lv_iload hx hb dX4_clears_64 (lv_at hl 0 rfl) ?_
              refine lv_if_eq (tgt := 78) hx hb dX4_clears_66 (by decide) (fun c10 => ?_) (fun c10 => ?_)
              · exact absurd c10 (by decide)
              · skip
                refine lv_aload_n hx hb dX4_clears_69 rfl (lv_at hl 1 rfl) ?_
                refine lv_iload_n hx hb dX4_clears_70 rfl (lv_at hl 4 rfl) ?_
                refine lv_iconst (v := 2) hx hb dX4_clears_71 (by decide) ?_
                obtain ⟨r11, hr11, h⟩ := ob h
                refine rowV (As := [.int v3, .int 2]) (rest := []) C (kX4_of l G b σ v3 2 r11 hr11) (cwV 2 hts gX4_clears_X4_of rfl rfl rfl (by decide +kernel) ⟨Nat.le_of_ble_eq_true rfl, Nat.le_of_ble_eq_true rfl⟩) (rcv_X4 X hK) X rfl hl.1 rfl (Nat.le_of_ble_eq_true rfl) dX4_clears_72 ⟨Nat.zero_le _, Nat.zero_le _⟩ ?_
                refine lv_goto (tgt := 79) hx hb dX4_clears_75 (by decide) ?_
                refine lv_istore_n (lv' := [(3, .int r11), (4, .int 1), (0, .ref b), (1, .int v1), (2, .int v2)]) hx hb dX4_clears_79 rfl hl (by decide) rfl (fun ls hl => ?_)
                refine lv_goto (tgt := 7) hx hb dX4_clears_80 (by decide) ?_
                exact ih _ _ _ _ _ _ _ _ h X hS (lv_sub hl [2, 3, 4, 0, 1] rfl)
        · have h := ip h c3
          refine lv_iload_n hx hb dX4_clears_22 rfl (lv_at hl 2 rfl) ?_
          refine lv_iconst (v := 1) hx hb dX4_clears_23 (by decide) ?_
          refine lv_aload_n hx hb dX4_clears_24 rfl (lv_at hl 0 rfl) ?_
          refine lv_iload_n hx hb dX4_clears_25 rfl (lv_at hl 3 rfl) ?_
          refine lv_iconst (v := 5) hx hb dX4_clears_26 (by decide) ?_
          obtain ⟨r12, hr12, h⟩ := ob h
          refine rowV (As := [.int v3, .int 5]) (rest := [.int 1, .int v2]) C (kX4_of l G b σ v3 5 r12 hr12) (cwV 2 hts gX4_clears_X4_of rfl rfl rfl (by decide +kernel) ⟨Nat.le_of_ble_eq_true rfl, Nat.le_of_ble_eq_true rfl⟩) (rcv_X4 X hK) X rfl hl.1 rfl (Nat.le_of_ble_eq_true rfl) dX4_clears_27 ⟨Nat.zero_le _, Nat.zero_le _⟩ ?_
          refine lv_isub hx hb dX4_clears_30 ?_
          refine lv_iadd hx hb dX4_clears_31 ?_
          refine lv_istore_n (lv' := [(2, .int (v2 + (1 - r12))), (0, .ref b), (1, .int v1), (3, .int v3), (4, .int v4)]) hx hb dX4_clears_32 rfl hl (by decide) rfl (fun ls hl => ?_)
          refine lv_aload_n hx hb dX4_clears_33 rfl (lv_at hl 1 rfl) ?_
          refine lv_iload_n hx hb dX4_clears_34 rfl (lv_at hl 3 rfl) ?_
          refine lv_iconst (v := 5) hx hb dX4_clears_35 (by decide) ?_
          refine lv_iconst (v := 1) hx hb dX4_clears_36 (by decide) ?_
          obtain ⟨σ14, hr13, h⟩ := ob h
          refine rowW (As := [.int v3, .int 5, .int 1]) (rest := []) C (kX4_lay l G b σ v3 5 1 σ14 hr13) (cwV 3 hts gX4_clears_X4_lay rfl rfl rfl (by decide +kernel) ⟨Nat.le_of_ble_eq_true rfl, Nat.le_of_ble_eq_true rfl⟩) (rcv_X4 X hK) X hS (fun _ z => z) rfl hl.1 rfl (Nat.le_of_ble_eq_true rfl) dX4_clears_37 ⟨Nat.zero_le _, Nat.zero_le _⟩ (fun H locs X hS _ _ => ?_)
          show W p l e _ s m _ below meth c H locs 0 0 _ (F0 m 40 ls [])
          refine lv_aload_n hx hb dX4_clears_40 rfl (lv_at hl 1 rfl) ?_
          refine lv_iload_n hx hb dX4_clears_41 rfl (lv_at hl 3 rfl) ?_
          obtain ⟨r15, hr15, h⟩ := ob h
          refine rowV (As := [.int v3]) (rest := []) C (kX4_isWhole l G b σ14 v3 r15 hr15) (cwV 1 hts gX4_clears_X4_isWhole rfl rfl rfl (by decide +kernel) ⟨Nat.le_of_ble_eq_true rfl, Nat.le_of_ble_eq_true rfl⟩) (rcv_X4 X hK) X rfl hl.1 rfl (Nat.le_of_ble_eq_true rfl) dX4_clears_42 ⟨Nat.zero_le _, Nat.zero_le _⟩ ?_
          refine lv_if_eq (tgt := 61) hx hb dX4_clears_45 (by decide) (fun c16 => ?_) (fun c16 => ?_)
          · have h := ip h c16
            refine lv_iconst (v := 0) hx hb dX4_clears_61 (by decide) ?_
            refine lv_istore (lv' := [(4, .int 0), (2, .int (v2 + (1 - r12))), (0, .ref b), (1, .int v1), (3, .int v3)]) hx hb dX4_clears_62 hl (by decide) rfl (fun ls hl => ?_)
            refine lv_iload hx hb dX4_clears_64 (lv_at hl 0 rfl) ?_
            refine lv_if_eq (tgt := 78) hx hb dX4_clears_66 (by decide) (fun c17 => ?_) (fun c17 => ?_)
            · skip
              refine lv_iload_n hx hb dX4_clears_78 rfl (lv_at hl 4 rfl) ?_
              refine lv_istore_n (lv' := [(3, .int v3), (4, .int 0), (2, .int (v2 + (1 - r12))), (0, .ref b), (1, .int v1)]) hx hb dX4_clears_79 rfl hl (by decide) rfl (fun ls hl => ?_)
              refine lv_goto (tgt := 7) hx hb dX4_clears_80 (by decide) ?_
              exact ih _ _ _ _ _ _ _ _ h X hS (lv_sub hl [3, 4, 2, 0, 1] rfl)
            · exact absurd c17 (by decide)
          · have h := iq h c16
            refine lv_aload_n hx hb dX4_clears_48 rfl (lv_at hl 1 rfl) ?_
            refine lv_iload_n hx hb dX4_clears_49 rfl (lv_at hl 3 rfl) ?_
            refine lv_iconst (v := 2) hx hb dX4_clears_50 (by decide) ?_
            obtain ⟨r18, hr18, h⟩ := ob h
            refine rowV (As := [.int v3, .int 2]) (rest := []) C (kX4_of l G b σ14 v3 2 r18 hr18) (cwV 2 hts gX4_clears_X4_of rfl rfl rfl (by decide +kernel) ⟨Nat.le_of_ble_eq_true rfl, Nat.le_of_ble_eq_true rfl⟩) (rcv_X4 X hK) X rfl hl.1 rfl (Nat.le_of_ble_eq_true rfl) dX4_clears_51 ⟨Nat.zero_le _, Nat.zero_le _⟩ ?_
            refine lv_if_lt (tgt := 61) hx hb dX4_clears_54 (by decide) (fun c19 => ?_) (fun c19 => ?_)
            · have h := ip h c19
              refine lv_iconst (v := 0) hx hb dX4_clears_61 (by decide) ?_
              refine lv_istore (lv' := [(4, .int 0), (2, .int (v2 + (1 - r12))), (0, .ref b), (1, .int v1), (3, .int v3)]) hx hb dX4_clears_62 hl (by decide) rfl (fun ls hl => ?_)
              refine lv_iload hx hb dX4_clears_64 (lv_at hl 0 rfl) ?_
              refine lv_if_eq (tgt := 78) hx hb dX4_clears_66 (by decide) (fun c20 => ?_) (fun c20 => ?_)
              · skip
                refine lv_iload_n hx hb dX4_clears_78 rfl (lv_at hl 4 rfl) ?_
                refine lv_istore_n (lv' := [(3, .int v3), (4, .int 0), (2, .int (v2 + (1 - r12))), (0, .ref b), (1, .int v1)]) hx hb dX4_clears_79 rfl hl (by decide) rfl (fun ls hl => ?_)
                refine lv_goto (tgt := 7) hx hb dX4_clears_80 (by decide) ?_
                exact ih _ _ _ _ _ _ _ _ h X hS (lv_sub hl [3, 4, 2, 0, 1] rfl)
              · exact absurd c20 (by decide)
            · have h := iq h c19
              refine lv_iconst (v := 1) hx hb dX4_clears_57 (by decide) ?_
              refine lv_goto (tgt := 62) hx hb dX4_clears_58 (by decide) ?_
              refine lv_istore (lv' := [(4, .int 1), (2, .int (v2 + (1 - r12))), (0, .ref b), (1, .int v1), (3, .int v3)]) hx hb dX4_clears_62 hl (by decide) rfl (fun ls hl => ?_)
              refine lv_iload hx hb dX4_clears_64 (lv_at hl 0 rfl) ?_
              refine lv_if_eq (tgt := 78) hx hb dX4_clears_66 (by decide) (fun c21 => ?_) (fun c21 => ?_)
              · exact absurd c21 (by decide)
              · skip
                refine lv_aload_n hx hb dX4_clears_69 rfl (lv_at hl 2 rfl) ?_
                refine lv_iload_n hx hb dX4_clears_70 rfl (lv_at hl 4 rfl) ?_
                refine lv_iconst (v := 2) hx hb dX4_clears_71 (by decide) ?_
                obtain ⟨r22, hr22, h⟩ := ob h
                refine rowV (As := [.int v3, .int 2]) (rest := []) C (kX4_of l G b σ14 v3 2 r22 hr22) (cwV 2 hts gX4_clears_X4_of rfl rfl rfl (by decide +kernel) ⟨Nat.le_of_ble_eq_true rfl, Nat.le_of_ble_eq_true rfl⟩) (rcv_X4 X hK) X rfl hl.1 rfl (Nat.le_of_ble_eq_true rfl) dX4_clears_72 ⟨Nat.zero_le _, Nat.zero_le _⟩ ?_
                refine lv_goto (tgt := 79) hx hb dX4_clears_75 (by decide) ?_
                refine lv_istore_n (lv' := [(3, .int r22), (4, .int 1), (2, .int (v2 + (1 - r12))), (0, .ref b), (1, .int v1)]) hx hb dX4_clears_79 rfl hl (by decide) rfl (fun ls hl => ?_)
                refine lv_goto (tgt := 7) hx hb dX4_clears_80 (by decide) ?_
                exact ih _ _ _ _ _ _ _ _ h X hS (lv_sub hl [3, 4, 2, 0, 1] rfl)
  unfold fX4_clears at h
  refine lv_iconst (v := 0) hx hb dX4_clears_0 (by decide) ?_
  refine lv_istore_n (lv' := [(2, .int 0), (0, .ref b), (1, .int p1)]) hx hb dX4_clears_1 rfl hl (by decide) rfl (fun ls hl => ?_)
  refine lv_iload_n hx hb dX4_clears_2 rfl (lv_at hl 2 rfl) ?_
  refine lv_istore_n (lv' := [(3, .int p1), (2, .int 0), (0, .ref b), (1, .int p1)]) hx hb dX4_clears_3 rfl hl (by decide) rfl (fun ls hl => ?_)
  refine lv_iconst (v := 1) hx hb dX4_clears_4 (by decide) ?_
  refine lv_istore (lv' := [(4, .int 1), (3, .int p1), (2, .int 0), (0, .ref b), (1, .int p1)]) hx hb dX4_clears_5 hl (by decide) rfl (fun ls hl => ?_)
  exact loop7 _ _ _ _ _ _ _ _ _ h X hS (lv_sub hl [3, 4, 2, 1, 0] rfl)

def fX4_fines (σ : St) (p1 : Int32) (p2 : Int32) : Option (St) := (fX4_of σ p1 7).bind (fun r1 => (fX4_lay σ p1 7 (r1 + p2)).bind (fun σ3 => some σ3))
set_option maxHeartbeats 4000000 in
set_option maxRecDepth 100000 in
theorem kX4_fines (l : Launch) (G : Gx) (b : Nat) (σ : St) (p1 : Int32) (p2 : Int32) (σ' : St) (h : fX4_fines σ p1 p2 = some σ') : Met l yX4_fines wsX4_fines (rmN 1) (pre G [.ref b, .int p1, .int p2] (mAt G b σ)) (QcW b (b + 7) (mAt G b σ') none) 0 0 (lw_Fr b (b + 7)) := by
  refine Met.ofW (cc := cX4_fines) (maxL := 3) (ret := none) (by decide) rfl ?_
  intro p e s m args below meth c s₁ B hml hv
  obtain ⟨rfl, X, hK⟩ := hv
  have hx := B.exec
  have hb := B.bytes
  have hr := B.returns
  have hts := atoms_spec (ws := wsX4_fines) B.pre
  have hown : s.vm.findClass RX4 = some m.cls := findClass_of_methodNamed B.named
  have hlocks := B.notSynchronized
  have C : Cx p m c cX4_fines 3 s _ wsX4_fines RX4 G := ⟨⟨hx, hb, hml, hown, hts⟩, hK⟩
  have hS : va_S (lw_Fr b (b + 7)) s.heap s.heap [] := va_S.rf
  have hl := lv_entry ([.ref b, .int p1, .int p2]) (n := 3) (Nat.le_of_ble_eq_true rfl)
  rw [lg_entry_eq]
  generalize (lg_sl ([.ref b, .int p1, .int p2]) ++ List.replicate (3 - (lg_sl ([.ref b, .int p1, .int p2])).length) Slot.unset).toArray = ls at hl ⊢
  have hl : lv_has ls 3 [(0, .ref b), (1, .int p1), (2, .int p2)] := hl
  unfold fX4_fines at h
  refine lv_aload_n hx hb dX4_fines_0 rfl (lv_at hl 0 rfl) ?_
  refine lv_iload_n hx hb dX4_fines_1 rfl (lv_at hl 1 rfl) ?_
  refine lv_bipush (v := 7) hx hb dX4_fines_2 (by decide) ?_
  refine lv_aload_n hx hb dX4_fines_4 rfl (lv_at hl 0 rfl) ?_
  refine lv_iload_n hx hb dX4_fines_5 rfl (lv_at hl 1 rfl) ?_
  refine lv_bipush (v := 7) hx hb dX4_fines_6 (by decide) ?_
  obtain ⟨r1, hr1, h⟩ := ob h
  refine rowV (As := [.int p1, .int 7]) (rest := [.int 7, .int p1, .ref b]) C (kX4_of l G b σ p1 7 r1 hr1) (cwV 2 hts gX4_fines_X4_of rfl rfl rfl (by decide +kernel) ⟨Nat.le_of_ble_eq_true rfl, Nat.le_of_ble_eq_true rfl⟩) (rcv_X4 X hK) X rfl hl.1 rfl (Nat.le_of_ble_eq_true rfl) dX4_fines_8 ⟨Nat.zero_le _, Nat.zero_le _⟩ ?_
  refine lv_iload_n hx hb dX4_fines_11 rfl (lv_at hl 2 rfl) ?_
  refine lv_iadd hx hb dX4_fines_12 ?_
  obtain ⟨σ3, hr2, h⟩ := ob h
  refine rowW (As := [.int p1, .int 7, .int (r1 + p2)]) (rest := []) C (kX4_lay l G b σ p1 7 (r1 + p2) σ3 hr2) (cwV 3 hts gX4_fines_X4_lay rfl rfl rfl (by decide +kernel) ⟨Nat.le_of_ble_eq_true rfl, Nat.le_of_ble_eq_true rfl⟩) (rcv_X4 X hK) X hS (fun _ z => z) rfl hl.1 rfl (Nat.le_of_ble_eq_true rfl) dX4_fines_13 ⟨Nat.zero_le _, Nat.zero_le _⟩ (fun H locs X hS _ _ => ?_)
  show W p l e _ s m _ below meth c H locs 0 0 _ (F0 m 16 ls [])
  have h := so h
  subst h
  exact W.vret hx hb hr (fun t ht _ => ⟨rfl, by rw [ht]; exact X, hS.F ht⟩) hS.2.2 dX4_fines_16

theorem in_X4_fineOfLie : ∀ w ∈ wsX40, w ∈ wsX4_fineOfLie := by decide +kernel
def fX4_fineOfLie (σ : St) (p1 : Int32) (p2 : Int32) : Option (Int32) := (fX4_of σ p1 0).bind (fun r1 => if 0 ≤ (r1 - p2) then (some ((σ 1 3) + (2 * (r1 - p2)))) else (some ((σ 1 3) + (2 * (-(r1 - p2))))))
set_option maxHeartbeats 4000000 in
set_option maxRecDepth 100000 in
theorem kX4_fineOfLie (l : Launch) (G : Gx) (b : Nat) (σ : St) (p1 : Int32) (p2 : Int32) (r : Int32) (h : fX4_fineOfLie σ p1 p2 = some r) : Met l yX4_fineOfLie wsX4_fineOfLie (rmN 1) (pre G [.ref b, .int p1, .int p2] (mAt G b σ)) (QcRead r) 0 0 (fun _ => False) := by
  refine Met.ofW (cc := cX4_fineOfLie) (maxL := 4) (ret := (some .int)) (by decide) rfl ?_
  intro p e s m args below meth c s₁ B hml hv
  obtain ⟨rfl, X, hK⟩ := hv
  have hx := B.exec
  have hb := B.bytes
  have hr := B.returns
  have hts := atoms_spec (ws := wsX4_fineOfLie) B.pre
  have hown : s.vm.findClass RX4 = some m.cls := findClass_of_methodNamed B.named
  have hlocks := B.notSynchronized
  have C : Cx p m c cX4_fineOfLie 4 s _ wsX4_fineOfLie RX4 G := ⟨⟨hx, hb, hml, hown, hts⟩, hK⟩
  have hin : ∀ w ∈ wsX40, w ∈ wsX4_fineOfLie := in_X4_fineOfLie
  have hl := lv_entry ([.ref b, .int p1, .int p2]) (n := 4) (Nat.le_of_ble_eq_true rfl)
  rw [lg_entry_eq]
  generalize (lg_sl ([.ref b, .int p1, .int p2]) ++ List.replicate (4 - (lg_sl ([.ref b, .int p1, .int p2])).length) Slot.unset).toArray = ls at hl ⊢
  have hl : lv_has ls 4 [(0, .ref b), (1, .int p1), (2, .int p2)] := hl
  unfold fX4_fineOfLie at h
  refine lv_aload_n hx hb dX4_fineOfLie_0 rfl (lv_at hl 0 rfl) ?_
  refine lv_iload_n hx hb dX4_fineOfLie_1 rfl (lv_at hl 1 rfl) ?_
  refine lv_iconst (v := 0) hx hb dX4_fineOfLie_2 (by decide) ?_
  obtain ⟨r1, hr1, h⟩ := ob h
  refine rowV (As := [.int p1, .int 0]) (rest := []) C (kX4_of l G b σ p1 0 r1 hr1) (cwV 2 hts gX4_fineOfLie_X4_of rfl rfl rfl (by decide +kernel) ⟨Nat.le_of_ble_eq_true rfl, Nat.le_of_ble_eq_true rfl⟩) (rcv_X4 X hK) X rfl hl.1 rfl (Nat.le_of_ble_eq_true rfl) dX4_fineOfLie_3 ⟨Nat.zero_le _, Nat.zero_le _⟩ ?_
  refine lv_iload_n hx hb dX4_fineOfLie_6 rfl (lv_at hl 2 rfl) ?_
  refine lv_isub hx hb dX4_fineOfLie_7 ?_
  refine lv_istore_n (lv' := [(3, .int (r1 - p2)), (0, .ref b), (1, .int p1), (2, .int p2)]) hx hb dX4_fineOfLie_8 rfl hl (by decide) rfl (fun ls hl => ?_)
  refine lv_aload_n hx hb dX4_fineOfLie_9 rfl (lv_at hl 1 rfl) ?_
  refine gt_X4_1 C hin X 1 rfl dX4_fineOfLie_10 ?_
  refine lv_iconst (v := 3) hx hb dX4_fineOfLie_13 (by decide) ?_
  refine al_X4_1 (j := 3) C X rfl (by decide) dX4_fineOfLie_14 ?_
  refine lv_iconst (v := 2) hx hb dX4_fineOfLie_15 (by decide) ?_
  refine lv_iload_n hx hb dX4_fineOfLie_16 rfl (lv_at hl 0 rfl) ?_
  refine lv_if_ge (tgt := 25) hx hb dX4_fineOfLie_17 (by decide) (fun c2 => ?_) (fun c2 => ?_)
  · have h := ip h c2
    refine lv_iload_n hx hb dX4_fineOfLie_25 rfl (lv_at hl 0 rfl) ?_
    refine lv_imul hx hb dX4_fineOfLie_26 ?_
    refine lv_iadd hx hb dX4_fineOfLie_27 ?_
    have h := so h
    subst h
    exact W.iret hx hb hr (fun t ht _ => ⟨rfl, ht⟩) (fun q h => absurd h List.not_mem_nil) dX4_fineOfLie_28
  · have h := iq h c2
    refine lv_iload_n hx hb dX4_fineOfLie_20 rfl (lv_at hl 0 rfl) ?_
    refine lv_ineg hx hb dX4_fineOfLie_21 ?_
    refine lv_goto (tgt := 26) hx hb dX4_fineOfLie_22 (by decide) ?_
    refine lv_imul hx hb dX4_fineOfLie_26 ?_
    refine lv_iadd hx hb dX4_fineOfLie_27 ?_
    have h := so h
    subst h
    exact W.iret hx hb hr (fun t ht _ => ⟨rfl, ht⟩) (fun q h => absurd h List.not_mem_nil) dX4_fineOfLie_28

theorem in_X4_opens : ∀ w ∈ wsX40, w ∈ wsX4_opens := by decide +kernel
def fX4_opens_79 : Nat → St → Int32 → Int32 → Option (Int32 × St)
  | 0, _, _, _ => none
  | n + 1, σ, v1, v2 => if (σ 1 5) ≤ v2 then (some (0, σ)) else ((fX4_of σ v2 2).bind (fun r19 => if r19 = v1 then ((fX4_isWhole σ v2).bind (fun r21 => if r21 = 0 then (fX4_opens_79 n σ v1 (v2 + 1)) else ((fX4_fines σ v2 (σ 1 4)).bind (fun σ24 => fX4_opens_79 n σ24 v1 (v2 + 1))))) else (fX4_opens_79 n σ v1 (v2 + 1))))
theorem fX4_opens_79_0 (σ : St) (v1 : Int32) (v2 : Int32) : fX4_opens_79 0 σ v1 v2 = none := rfl
theorem fX4_opens_79_s (n : Nat) (σ : St) (v1 : Int32) (v2 : Int32) : fX4_opens_79 (n + 1) σ v1 v2 = (if (σ 1 5) ≤ v2 then (some (0, σ)) else ((fX4_of σ v2 2).bind (fun r19 => if r19 = v1 then ((fX4_isWhole σ v2).bind (fun r21 => if r21 = 0 then (fX4_opens_79 n σ v1 (v2 + 1)) else ((fX4_fines σ v2 (σ 1 4)).bind (fun σ24 => fX4_opens_79 n σ24 v1 (v2 + 1))))) else (fX4_opens_79 n σ v1 (v2 + 1))))) := rfl
def fX4_opens (σ : St) (p1 : Int32) : Option (Int32 × St) := (fX4_lay σ p1 4 1).bind (fun σ2 => (fX4_isWhole σ2 p1).bind (fun r3 => if r3 = 0 then ((fX4_fines σ2 p1 3).bind (fun σ6 => (fX4_of σ6 p1 0).bind (fun r7 => (fX4_of σ6 p1 1).bind (fun r8 => if r7 = r8 then ((fX4_clears σ6 p1).bind (fun q27 => some (q27.1, q27.2))) else ((fX4_lay σ6 p1 6 1).bind (fun σ11 => (fX4_lay σ11 p1 5 0).bind (fun σ13 => (fX4_of σ13 p1 1).bind (fun r14 => (fX4_fineOfLie σ13 p1 r14).bind (fun r15 => (fX4_fines σ13 p1 r15).bind (fun σ17 => fX4_opens_79 1000 σ17 p1 0)))))))))) else ((fX4_fines σ2 p1 0).bind (fun σ29 => (fX4_of σ29 p1 0).bind (fun r30 => (fX4_of σ29 p1 1).bind (fun r31 => if r30 = r31 then ((fX4_clears σ29 p1).bind (fun q43 => some (q43.1, q43.2))) else ((fX4_lay σ29 p1 6 1).bind (fun σ34 => (fX4_lay σ34 p1 5 0).bind (fun σ36 => (fX4_of σ36 p1 1).bind (fun r37 => (fX4_fineOfLie σ36 p1 r37).bind (fun r38 => (fX4_fines σ36 p1 r38).bind (fun σ40 => fX4_opens_79 1000 σ40 p1 0))))))))))))
set_option maxHeartbeats 4000000 in
set_option maxRecDepth 100000 in
theorem kX4_opens (l : Launch) (G : Gx) (b : Nat) (σ : St) (p1 : Int32) (r : Int32) (σ' : St) (h : fX4_opens σ p1 = some (r, σ')) : Met l yX4_opens wsX4_opens (rmN 5) (pre G [.ref b, .int p1] (mAt G b σ)) (QcW b (b + 7) (mAt G b σ') (some (.int r))) 0 0 (lw_Fr b (b + 7)) := by
  refine Met.ofW (cc := cX4_opens) (maxL := 3) (ret := (some .int)) (by decide) rfl ?_
  intro p e s m args below meth c s₁ B hml hv
  obtain ⟨rfl, X, hK⟩ := hv
  have hx := B.exec
  have hb := B.bytes
  have hr := B.returns
  have hts := atoms_spec (ws := wsX4_opens) B.pre
  have hown : s.vm.findClass RX4 = some m.cls := findClass_of_methodNamed B.named
  have hlocks := B.notSynchronized
  have C : Cx p m c cX4_opens 3 s _ wsX4_opens RX4 G := ⟨⟨hx, hb, hml, hown, hts⟩, hK⟩
  have hin : ∀ w ∈ wsX40, w ∈ wsX4_opens := in_X4_opens
  have hS : va_S (lw_Fr b (b + 7)) s.heap s.heap [] := va_S.rf
  have hl := lv_entry ([.ref b, .int p1]) (n := 3) (Nat.le_of_ble_eq_true rfl)
  rw [lg_entry_eq]
  generalize (lg_sl ([.ref b, .int p1]) ++ List.replicate (3 - (lg_sl ([.ref b, .int p1])).length) Slot.unset).toArray = ls at hl ⊢
  have hl : lv_has ls 3 [(0, .ref b), (1, .int p1)] := hl
  have loop79 : ∀ (n : Nat) (σ : St) (v1 : Int32) (v2 : Int32) (H : Heap) (locs : List Loc) (ls : Array Slot), fX4_opens_79 n σ v1 v2 = some (r, σ') → mAt G b σ H → va_S (lw_Fr b (b + 7)) s.heap H locs → lv_has ls 3 [(0, .ref b), (1, .int v1), (2, .int v2)] → W p l e (rmN 5) s m #[Value.ref b, Value.int p1] below meth c H locs 0 0 (MQ below (QcW b (b + 7) (mAt G b σ') (some (.int r))) #[Value.ref b, Value.int p1] s 0 0 (lw_Fr b (b + 7))) (F0 m 79 ls []) := by
    intro n
    induction n with
    | zero =>
      intro σ v1 v2 H locs ls h X hS hl
      rw [fX4_opens_79_0] at h
      cases h
    | succ n ih =>
      intro σ v1 v2 H locs ls h X hS hl
      rw [fX4_opens_79_s] at h
      refine lv_iload_n hx hb dX4_opens_79 rfl (lv_at hl 2 rfl) ?_
      refine lv_aload_n hx hb dX4_opens_80 rfl (lv_at hl 0 rfl) ?_
      refine gt_X4_1 C hin X 1 rfl dX4_opens_81 ?_
      refine lv_iconst (v := 5) hx hb dX4_opens_84 (by decide) ?_
      refine al_X4_1 (j := 5) C X rfl (by decide) dX4_opens_85 ?_
      refine lv_icmp_ge (tgt := 124) hx hb dX4_opens_86 (by decide) (fun c18 => ?_) (fun c18 => ?_)
      · have h := ip h c18
        refine lv_iconst (v := 0) hx hb dX4_opens_124 (by decide) ?_
        obtain ⟨h, h9⟩ := pr h
        subst h
        subst h9
        exact W.iret hx hb hr (fun t ht _ => ⟨rfl, by rw [ht]; exact X, hS.F ht⟩) hS.2.2 dX4_opens_125
      · have h := iq h c18
        refine lv_aload_n hx hb dX4_opens_89 rfl (lv_at hl 0 rfl) ?_
        refine lv_iload_n hx hb dX4_opens_90 rfl (lv_at hl 2 rfl) ?_
        refine lv_iconst (v := 2) hx hb dX4_opens_91 (by decide) ?_
        obtain ⟨r19, hr19, h⟩ := ob h
        refine rowV (As := [.int v2, .int 2]) (rest := []) C (kX4_of l G b σ v2 2 r19 hr19) (cwV 2 hts gX4_opens_X4_of rfl rfl rfl (by decide +kernel) ⟨Nat.le_of_ble_eq_true rfl, Nat.le_of_ble_eq_true rfl⟩) (rcv_X4 X hK) X rfl hl.1 rfl (Nat.le_of_ble_eq_true rfl) dX4_opens_92 ⟨Nat.zero_le _, Nat.zero_le _⟩ ?_
        refine lv_iload_n hx hb dX4_opens_95 rfl (lv_at hl 1 rfl) ?_
        refine lv_icmp_ne (tgt := 118) hx hb dX4_opens_96 (by decide) (fun c20 => ?_) (fun c20 => ?_)
        · have h := iq h c20
          refine lv_iinc (v := v2 + 1) (lv' := [(2, .int (v2 + 1)), (0, .ref b), (1, .int v1)]) hx hb dX4_opens_118 hl (k := 2) rfl rfl (by decide) rfl (fun ls hl => ?_)
          refine lv_goto (tgt := 79) hx hb dX4_opens_121 (by decide) ?_
          exact ih _ _ _ _ _ _ h X hS (lv_sub hl [1, 2, 0] rfl)
        · have h := ip h c20
          refine lv_aload_n hx hb dX4_opens_99 rfl (lv_at hl 0 rfl) ?_
          refine lv_iload_n hx hb dX4_opens_100 rfl (lv_at hl 2 rfl) ?_
          obtain ⟨r21, hr21, h⟩ := ob h
          refine rowV (As := [.int v2]) (rest := []) C (kX4_isWhole l G b σ v2 r21 hr21) (cwV 1 hts gX4_opens_X4_isWhole rfl rfl rfl (by decide +kernel) ⟨Nat.le_of_ble_eq_true rfl, Nat.le_of_ble_eq_true rfl⟩) (rcv_X4 X hK) X rfl hl.1 rfl (Nat.le_of_ble_eq_true rfl) dX4_opens_101 ⟨Nat.zero_le _, Nat.zero_le _⟩ ?_
          refine lv_if_eq (tgt := 118) hx hb dX4_opens_104 (by decide) (fun c22 => ?_) (fun c22 => ?_)
          · have h := ip h c22
            refine lv_iinc (v := v2 + 1) (lv' := [(2, .int (v2 + 1)), (0, .ref b), (1, .int v1)]) hx hb dX4_opens_118 hl (k := 2) rfl rfl (by decide) rfl (fun ls hl => ?_)
            refine lv_goto (tgt := 79) hx hb dX4_opens_121 (by decide) ?_
            exact ih _ _ _ _ _ _ h X hS (lv_sub hl [1, 2, 0] rfl)
          · have h := iq h c22
            refine lv_aload_n hx hb dX4_opens_107 rfl (lv_at hl 0 rfl) ?_
            refine lv_iload_n hx hb dX4_opens_108 rfl (lv_at hl 2 rfl) ?_
            refine lv_aload_n hx hb dX4_opens_109 rfl (lv_at hl 0 rfl) ?_
            refine gt_X4_1 C hin X 1 rfl dX4_opens_110 ?_
            refine lv_iconst (v := 4) hx hb dX4_opens_113 (by decide) ?_
            refine al_X4_1 (j := 4) C X rfl (by decide) dX4_opens_114 ?_
            obtain ⟨σ24, hr23, h⟩ := ob h
            refine rowW (As := [.int v2, .int (σ 1 4)]) (rest := []) C (kX4_fines l G b σ v2 (σ 1 4) σ24 hr23) (cwV 2 hts gX4_opens_X4_fines rfl rfl rfl (by decide +kernel) ⟨Nat.le_of_ble_eq_true rfl, Nat.le_of_ble_eq_true rfl⟩) (rcv_X4 X hK) X hS (fun _ z => z) rfl hl.1 rfl (Nat.le_of_ble_eq_true rfl) dX4_opens_115 ⟨Nat.zero_le _, Nat.zero_le _⟩ (fun H locs X hS _ _ => ?_)
            show W p l e _ s m _ below meth c H locs 0 0 _ (F0 m 118 ls [])
            refine lv_iinc (v := v2 + 1) (lv' := [(2, .int (v2 + 1)), (0, .ref b), (1, .int v1)]) hx hb dX4_opens_118 hl (k := 2) rfl rfl (by decide) rfl (fun ls hl => ?_)
            refine lv_goto (tgt := 79) hx hb dX4_opens_121 (by decide) ?_
            exact ih _ _ _ _ _ _ h X hS (lv_sub hl [1, 2, 0] rfl)
  unfold fX4_opens at h
  refine lv_aload_n hx hb dX4_opens_0 rfl (lv_at hl 0 rfl) ?_
  refine lv_iload_n hx hb dX4_opens_1 rfl (lv_at hl 1 rfl) ?_
  refine lv_iconst (v := 4) hx hb dX4_opens_2 (by decide) ?_
  refine lv_iconst (v := 1) hx hb dX4_opens_3 (by decide) ?_
  obtain ⟨σ2, hr1, h⟩ := ob h
  refine rowW (As := [.int p1, .int 4, .int 1]) (rest := []) C (kX4_lay l G b σ p1 4 1 σ2 hr1) (cwV 3 hts gX4_opens_X4_lay rfl rfl rfl (by decide +kernel) ⟨Nat.le_of_ble_eq_true rfl, Nat.le_of_ble_eq_true rfl⟩) (rcv_X4 X hK) X hS (fun _ z => z) rfl hl.1 rfl (Nat.le_of_ble_eq_true rfl) dX4_opens_4 ⟨Nat.zero_le _, Nat.zero_le _⟩ (fun H locs X hS _ _ => ?_)
  show W p l e _ s m _ below meth c H locs 0 0 _ (F0 m 7 ls [])
  refine lv_aload_n hx hb dX4_opens_7 rfl (lv_at hl 0 rfl) ?_
  refine lv_iload_n hx hb dX4_opens_8 rfl (lv_at hl 1 rfl) ?_
  refine lv_aload_n hx hb dX4_opens_9 rfl (lv_at hl 0 rfl) ?_
  refine lv_iload_n hx hb dX4_opens_10 rfl (lv_at hl 1 rfl) ?_
  obtain ⟨r3, hr3, h⟩ := ob h
  refine rowV (As := [.int p1]) (rest := [.int p1, .ref b]) C (kX4_isWhole l G b σ2 p1 r3 hr3) (cwV 1 hts gX4_opens_X4_isWhole rfl rfl rfl (by decide +kernel) ⟨Nat.le_of_ble_eq_true rfl, Nat.le_of_ble_eq_true rfl⟩) (rcv_X4 X hK) X rfl hl.1 rfl (Nat.le_of_ble_eq_true rfl) dX4_opens_11 ⟨Nat.zero_le _, Nat.zero_le _⟩ ?_
  refine lv_if_eq (tgt := 21) hx hb dX4_opens_14 (by decide) (fun c4 => ?_) (fun c4 => ?_)
  · have h := ip h c4
    refine lv_iconst (v := 3) hx hb dX4_opens_21 (by decide) ?_
    obtain ⟨σ6, hr5, h⟩ := ob h
    refine rowW (As := [.int p1, .int 3]) (rest := []) C (kX4_fines l G b σ2 p1 3 σ6 hr5) (cwV 2 hts gX4_opens_X4_fines rfl rfl rfl (by decide +kernel) ⟨Nat.le_of_ble_eq_true rfl, Nat.le_of_ble_eq_true rfl⟩) (rcv_X4 X hK) X hS (fun _ z => z) rfl hl.1 rfl (Nat.le_of_ble_eq_true rfl) dX4_opens_22 ⟨Nat.zero_le _, Nat.zero_le _⟩ (fun H locs X hS _ _ => ?_)
    show W p l e _ s m _ below meth c H locs 0 0 _ (F0 m 25 ls [])
    refine lv_aload_n hx hb dX4_opens_25 rfl (lv_at hl 0 rfl) ?_
    refine lv_iload_n hx hb dX4_opens_26 rfl (lv_at hl 1 rfl) ?_
    refine lv_iconst (v := 0) hx hb dX4_opens_27 (by decide) ?_
    obtain ⟨r7, hr7, h⟩ := ob h
    refine rowV (As := [.int p1, .int 0]) (rest := []) C (kX4_of l G b σ6 p1 0 r7 hr7) (cwV 2 hts gX4_opens_X4_of rfl rfl rfl (by decide +kernel) ⟨Nat.le_of_ble_eq_true rfl, Nat.le_of_ble_eq_true rfl⟩) (rcv_X4 X hK) X rfl hl.1 rfl (Nat.le_of_ble_eq_true rfl) dX4_opens_28 ⟨Nat.zero_le _, Nat.zero_le _⟩ ?_
    refine lv_aload_n hx hb dX4_opens_31 rfl (lv_at hl 0 rfl) ?_
    refine lv_iload_n hx hb dX4_opens_32 rfl (lv_at hl 1 rfl) ?_
    refine lv_iconst (v := 1) hx hb dX4_opens_33 (by decide) ?_
    obtain ⟨r8, hr8, h⟩ := ob h
    refine rowV (As := [.int p1, .int 1]) (rest := [.int r7]) C (kX4_of l G b σ6 p1 1 r8 hr8) (cwV 2 hts gX4_opens_X4_of rfl rfl rfl (by decide +kernel) ⟨Nat.le_of_ble_eq_true rfl, Nat.le_of_ble_eq_true rfl⟩) (rcv_X4 X hK) X rfl hl.1 rfl (Nat.le_of_ble_eq_true rfl) dX4_opens_34 ⟨Nat.zero_le _, Nat.zero_le _⟩ ?_
    refine lv_icmp_ne (tgt := 46) hx hb dX4_opens_37 (by decide) (fun c9 => ?_) (fun c9 => ?_)
    · have h := iq h c9
      refine lv_aload_n hx hb dX4_opens_46 rfl (lv_at hl 0 rfl) ?_
      refine lv_iload_n hx hb dX4_opens_47 rfl (lv_at hl 1 rfl) ?_
      refine lv_bipush (v := 6) hx hb dX4_opens_48 (by decide) ?_
      refine lv_iconst (v := 1) hx hb dX4_opens_50 (by decide) ?_
      obtain ⟨σ11, hr10, h⟩ := ob h
      refine rowW (As := [.int p1, .int 6, .int 1]) (rest := []) C (kX4_lay l G b σ6 p1 6 1 σ11 hr10) (cwV 3 hts gX4_opens_X4_lay rfl rfl rfl (by decide +kernel) ⟨Nat.le_of_ble_eq_true rfl, Nat.le_of_ble_eq_true rfl⟩) (rcv_X4 X hK) X hS (fun _ z => z) rfl hl.1 rfl (Nat.le_of_ble_eq_true rfl) dX4_opens_51 ⟨Nat.zero_le _, Nat.zero_le _⟩ (fun H locs X hS _ _ => ?_)
      show W p l e _ s m _ below meth c H locs 0 0 _ (F0 m 54 ls [])
      refine lv_aload_n hx hb dX4_opens_54 rfl (lv_at hl 0 rfl) ?_
      refine lv_iload_n hx hb dX4_opens_55 rfl (lv_at hl 1 rfl) ?_
      refine lv_iconst (v := 5) hx hb dX4_opens_56 (by decide) ?_
      refine lv_iconst (v := 0) hx hb dX4_opens_57 (by decide) ?_
      obtain ⟨σ13, hr12, h⟩ := ob h
      refine rowW (As := [.int p1, .int 5, .int 0]) (rest := []) C (kX4_lay l G b σ11 p1 5 0 σ13 hr12) (cwV 3 hts gX4_opens_X4_lay rfl rfl rfl (by decide +kernel) ⟨Nat.le_of_ble_eq_true rfl, Nat.le_of_ble_eq_true rfl⟩) (rcv_X4 X hK) X hS (fun _ z => z) rfl hl.1 rfl (Nat.le_of_ble_eq_true rfl) dX4_opens_58 ⟨Nat.zero_le _, Nat.zero_le _⟩ (fun H locs X hS _ _ => ?_)
      show W p l e _ s m _ below meth c H locs 0 0 _ (F0 m 61 ls [])
      refine lv_aload_n hx hb dX4_opens_61 rfl (lv_at hl 0 rfl) ?_
      refine lv_iload_n hx hb dX4_opens_62 rfl (lv_at hl 1 rfl) ?_
      refine lv_aload_n hx hb dX4_opens_63 rfl (lv_at hl 0 rfl) ?_
      refine lv_iload_n hx hb dX4_opens_64 rfl (lv_at hl 1 rfl) ?_
      refine lv_aload_n hx hb dX4_opens_65 rfl (lv_at hl 0 rfl) ?_
      refine lv_iload_n hx hb dX4_opens_66 rfl (lv_at hl 1 rfl) ?_
      refine lv_iconst (v := 1) hx hb dX4_opens_67 (by decide) ?_
      obtain ⟨r14, hr14, h⟩ := ob h
      refine rowV (As := [.int p1, .int 1]) (rest := [.int p1, .ref b, .int p1, .ref b]) C (kX4_of l G b σ13 p1 1 r14 hr14) (cwV 2 hts gX4_opens_X4_of rfl rfl rfl (by decide +kernel) ⟨Nat.le_of_ble_eq_true rfl, Nat.le_of_ble_eq_true rfl⟩) (rcv_X4 X hK) X rfl hl.1 rfl (Nat.le_of_ble_eq_true rfl) dX4_opens_68 ⟨Nat.zero_le _, Nat.zero_le _⟩ ?_
      obtain ⟨r15, hr15, h⟩ := ob h
      refine rowV (As := [.int p1, .int r14]) (rest := [.int p1, .ref b]) C (kX4_fineOfLie l G b σ13 p1 r14 r15 hr15) (cwV 2 hts gX4_opens_X4_fineOfLie rfl rfl rfl (by decide +kernel) ⟨Nat.le_of_ble_eq_true rfl, Nat.le_of_ble_eq_true rfl⟩) (rcv_X4 X hK) X rfl hl.1 rfl (Nat.le_of_ble_eq_true rfl) dX4_opens_71 ⟨Nat.zero_le _, Nat.zero_le _⟩ ?_
      obtain ⟨σ17, hr16, h⟩ := ob h
      refine rowW (As := [.int p1, .int r15]) (rest := []) C (kX4_fines l G b σ13 p1 r15 σ17 hr16) (cwV 2 hts gX4_opens_X4_fines rfl rfl rfl (by decide +kernel) ⟨Nat.le_of_ble_eq_true rfl, Nat.le_of_ble_eq_true rfl⟩) (rcv_X4 X hK) X hS (fun _ z => z) rfl hl.1 rfl (Nat.le_of_ble_eq_true rfl) dX4_opens_74 ⟨Nat.zero_le _, Nat.zero_le _⟩ (fun H locs X hS _ _ => ?_)
      show W p l e _ s m _ below meth c H locs 0 0 _ (F0 m 77 ls [])
      refine lv_iconst (v := 0) hx hb dX4_opens_77 (by decide) ?_
      refine lv_istore_n (lv' := [(2, .int 0), (0, .ref b), (1, .int p1)]) hx hb dX4_opens_78 rfl hl (by decide) rfl (fun ls hl => ?_)
      exact loop79 _ _ _ _ _ _ _ h X hS (lv_sub hl [1, 2, 0] rfl)
    · have h := ip h c9
      refine lv_aload_n hx hb dX4_opens_40 rfl (lv_at hl 0 rfl) ?_
      refine lv_iload_n hx hb dX4_opens_41 rfl (lv_at hl 1 rfl) ?_
      obtain ⟨q27, hr25, h⟩ := ob h
      refine rowW (As := [.int p1]) (rest := []) C (kX4_clears l G b σ6 p1 q27.1 q27.2 hr25) (cwV 1 hts gX4_opens_X4_clears rfl rfl rfl (by decide +kernel) ⟨Nat.le_of_ble_eq_true rfl, Nat.le_of_ble_eq_true rfl⟩) (rcv_X4 X hK) X hS (fun _ z => z) rfl hl.1 rfl (Nat.le_of_ble_eq_true rfl) dX4_opens_42 ⟨Nat.zero_le _, Nat.zero_le _⟩ (fun H locs X hS _ _ => ?_)
      show W p l e _ s m _ below meth c H locs 0 0 _ (F0 m 45 ls [.int q27.1])
      obtain ⟨h, h9⟩ := pr h
      subst h
      subst h9
      exact W.iret hx hb hr (fun t ht _ => ⟨rfl, by rw [ht]; exact X, hS.F ht⟩) hS.2.2 dX4_opens_45
  · have h := iq h c4
    refine lv_iconst (v := 0) hx hb dX4_opens_17 (by decide) ?_
    refine lv_goto (tgt := 22) hx hb dX4_opens_18 (by decide) ?_
    obtain ⟨σ29, hr28, h⟩ := ob h
    refine rowW (As := [.int p1, .int 0]) (rest := []) C (kX4_fines l G b σ2 p1 0 σ29 hr28) (cwV 2 hts gX4_opens_X4_fines rfl rfl rfl (by decide +kernel) ⟨Nat.le_of_ble_eq_true rfl, Nat.le_of_ble_eq_true rfl⟩) (rcv_X4 X hK) X hS (fun _ z => z) rfl hl.1 rfl (Nat.le_of_ble_eq_true rfl) dX4_opens_22 ⟨Nat.zero_le _, Nat.zero_le _⟩ (fun H locs X hS _ _ => ?_)
    show W p l e _ s m _ below meth c H locs 0 0 _ (F0 m 25 ls [])
    refine lv_aload_n hx hb dX4_opens_25 rfl (lv_at hl 0 rfl) ?_
    refine lv_iload_n hx hb dX4_opens_26 rfl (lv_at hl 1 rfl) ?_
    refine lv_iconst (v := 0) hx hb dX4_opens_27 (by decide) ?_
    obtain ⟨r30, hr30, h⟩ := ob h
    refine rowV (As := [.int p1, .int 0]) (rest := []) C (kX4_of l G b σ29 p1 0 r30 hr30) (cwV 2 hts gX4_opens_X4_of rfl rfl rfl (by decide +kernel) ⟨Nat.le_of_ble_eq_true rfl, Nat.le_of_ble_eq_true rfl⟩) (rcv_X4 X hK) X rfl hl.1 rfl (Nat.le_of_ble_eq_true rfl) dX4_opens_28 ⟨Nat.zero_le _, Nat.zero_le _⟩ ?_
    refine lv_aload_n hx hb dX4_opens_31 rfl (lv_at hl 0 rfl) ?_
    refine lv_iload_n hx hb dX4_opens_32 rfl (lv_at hl 1 rfl) ?_
    refine lv_iconst (v := 1) hx hb dX4_opens_33 (by decide) ?_
    obtain ⟨r31, hr31, h⟩ := ob h
    refine rowV (As := [.int p1, .int 1]) (rest := [.int r30]) C (kX4_of l G b σ29 p1 1 r31 hr31) (cwV 2 hts gX4_opens_X4_of rfl rfl rfl (by decide +kernel) ⟨Nat.le_of_ble_eq_true rfl, Nat.le_of_ble_eq_true rfl⟩) (rcv_X4 X hK) X rfl hl.1 rfl (Nat.le_of_ble_eq_true rfl) dX4_opens_34 ⟨Nat.zero_le _, Nat.zero_le _⟩ ?_
    refine lv_icmp_ne (tgt := 46) hx hb dX4_opens_37 (by decide) (fun c32 => ?_) (fun c32 => ?_)
    · have h := iq h c32
      refine lv_aload_n hx hb dX4_opens_46 rfl (lv_at hl 0 rfl) ?_
      refine lv_iload_n hx hb dX4_opens_47 rfl (lv_at hl 1 rfl) ?_
      refine lv_bipush (v := 6) hx hb dX4_opens_48 (by decide) ?_
      refine lv_iconst (v := 1) hx hb dX4_opens_50 (by decide) ?_
      obtain ⟨σ34, hr33, h⟩ := ob h
      refine rowW (As := [.int p1, .int 6, .int 1]) (rest := []) C (kX4_lay l G b σ29 p1 6 1 σ34 hr33) (cwV 3 hts gX4_opens_X4_lay rfl rfl rfl (by decide +kernel) ⟨Nat.le_of_ble_eq_true rfl, Nat.le_of_ble_eq_true rfl⟩) (rcv_X4 X hK) X hS (fun _ z => z) rfl hl.1 rfl (Nat.le_of_ble_eq_true rfl) dX4_opens_51 ⟨Nat.zero_le _, Nat.zero_le _⟩ (fun H locs X hS _ _ => ?_)
      show W p l e _ s m _ below meth c H locs 0 0 _ (F0 m 54 ls [])
      refine lv_aload_n hx hb dX4_opens_54 rfl (lv_at hl 0 rfl) ?_
      refine lv_iload_n hx hb dX4_opens_55 rfl (lv_at hl 1 rfl) ?_
      refine lv_iconst (v := 5) hx hb dX4_opens_56 (by decide) ?_
      refine lv_iconst (v := 0) hx hb dX4_opens_57 (by decide) ?_
      obtain ⟨σ36, hr35, h⟩ := ob h
      refine rowW (As := [.int p1, .int 5, .int 0]) (rest := []) C (kX4_lay l G b σ34 p1 5 0 σ36 hr35) (cwV 3 hts gX4_opens_X4_lay rfl rfl rfl (by decide +kernel) ⟨Nat.le_of_ble_eq_true rfl, Nat.le_of_ble_eq_true rfl⟩) (rcv_X4 X hK) X hS (fun _ z => z) rfl hl.1 rfl (Nat.le_of_ble_eq_true rfl) dX4_opens_58 ⟨Nat.zero_le _, Nat.zero_le _⟩ (fun H locs X hS _ _ => ?_)
      show W p l e _ s m _ below meth c H locs 0 0 _ (F0 m 61 ls [])
      refine lv_aload_n hx hb dX4_opens_61 rfl (lv_at hl 0 rfl) ?_
      refine lv_iload_n hx hb dX4_opens_62 rfl (lv_at hl 1 rfl) ?_
      refine lv_aload_n hx hb dX4_opens_63 rfl (lv_at hl 0 rfl) ?_
      refine lv_iload_n hx hb dX4_opens_64 rfl (lv_at hl 1 rfl) ?_
      refine lv_aload_n hx hb dX4_opens_65 rfl (lv_at hl 0 rfl) ?_
      refine lv_iload_n hx hb dX4_opens_66 rfl (lv_at hl 1 rfl) ?_
      refine lv_iconst (v := 1) hx hb dX4_opens_67 (by decide) ?_
      obtain ⟨r37, hr37, h⟩ := ob h
      refine rowV (As := [.int p1, .int 1]) (rest := [.int p1, .ref b, .int p1, .ref b]) C (kX4_of l G b σ36 p1 1 r37 hr37) (cwV 2 hts gX4_opens_X4_of rfl rfl rfl (by decide +kernel) ⟨Nat.le_of_ble_eq_true rfl, Nat.le_of_ble_eq_true rfl⟩) (rcv_X4 X hK) X rfl hl.1 rfl (Nat.le_of_ble_eq_true rfl) dX4_opens_68 ⟨Nat.zero_le _, Nat.zero_le _⟩ ?_
      obtain ⟨r38, hr38, h⟩ := ob h
      refine rowV (As := [.int p1, .int r37]) (rest := [.int p1, .ref b]) C (kX4_fineOfLie l G b σ36 p1 r37 r38 hr38) (cwV 2 hts gX4_opens_X4_fineOfLie rfl rfl rfl (by decide +kernel) ⟨Nat.le_of_ble_eq_true rfl, Nat.le_of_ble_eq_true rfl⟩) (rcv_X4 X hK) X rfl hl.1 rfl (Nat.le_of_ble_eq_true rfl) dX4_opens_71 ⟨Nat.zero_le _, Nat.zero_le _⟩ ?_
      obtain ⟨σ40, hr39, h⟩ := ob h
      refine rowW (As := [.int p1, .int r38]) (rest := []) C (kX4_fines l G b σ36 p1 r38 σ40 hr39) (cwV 2 hts gX4_opens_X4_fines rfl rfl rfl (by decide +kernel) ⟨Nat.le_of_ble_eq_true rfl, Nat.le_of_ble_eq_true rfl⟩) (rcv_X4 X hK) X hS (fun _ z => z) rfl hl.1 rfl (Nat.le_of_ble_eq_true rfl) dX4_opens_74 ⟨Nat.zero_le _, Nat.zero_le _⟩ (fun H locs X hS _ _ => ?_)
      show W p l e _ s m _ below meth c H locs 0 0 _ (F0 m 77 ls [])
      refine lv_iconst (v := 0) hx hb dX4_opens_77 (by decide) ?_
      refine lv_istore_n (lv' := [(2, .int 0), (0, .ref b), (1, .int p1)]) hx hb dX4_opens_78 rfl hl (by decide) rfl (fun ls hl => ?_)
      exact loop79 _ _ _ _ _ _ _ h X hS (lv_sub hl [1, 2, 0] rfl)
    · have h := ip h c32
      refine lv_aload_n hx hb dX4_opens_40 rfl (lv_at hl 0 rfl) ?_
      refine lv_iload_n hx hb dX4_opens_41 rfl (lv_at hl 1 rfl) ?_
      obtain ⟨q43, hr41, h⟩ := ob h
      refine rowW (As := [.int p1]) (rest := []) C (kX4_clears l G b σ29 p1 q43.1 q43.2 hr41) (cwV 1 hts gX4_opens_X4_clears rfl rfl rfl (by decide +kernel) ⟨Nat.le_of_ble_eq_true rfl, Nat.le_of_ble_eq_true rfl⟩) (rcv_X4 X hK) X hS (fun _ z => z) rfl hl.1 rfl (Nat.le_of_ble_eq_true rfl) dX4_opens_42 ⟨Nat.zero_le _, Nat.zero_le _⟩ (fun H locs X hS _ _ => ?_)
      show W p l e _ s m _ below meth c H locs 0 0 _ (F0 m 45 ls [.int q43.1])
      obtain ⟨h, h9⟩ := pr h
      subst h
      subst h9
      exact W.iret hx hb hr (fun t ht _ => ⟨rfl, by rw [ht]; exact X, hS.F ht⟩) hS.2.2 dX4_opens_45

def fX4_refusesOpening (σ : St) (p1 : Int32) : Option (Int32) := (fX4_isCart σ p1).bind (fun r1 => if r1 = 0 then (some (-1)) else ((fX4_of σ p1 4).bind (fun r3 => if r3 = 1 then (some (-4)) else (some 0))))
set_option maxHeartbeats 4000000 in
set_option maxRecDepth 100000 in
theorem kX4_refusesOpening (l : Launch) (G : Gx) (b : Nat) (σ : St) (p1 : Int32) (r : Int32) (h : fX4_refusesOpening σ p1 = some r) : Met l yX4_refusesOpening wsX4_refusesOpening (rmN 2) (pre G [.ref b, .int p1] (mAt G b σ)) (QcRead r) 0 0 (fun _ => False) := by
  refine Met.ofW (cc := cX4_refusesOpening) (maxL := 2) (ret := (some .int)) (by decide) rfl ?_
  intro p e s m args below meth c s₁ B hml hv
  obtain ⟨rfl, X, hK⟩ := hv
  have hx := B.exec
  have hb := B.bytes
  have hr := B.returns
  have hts := atoms_spec (ws := wsX4_refusesOpening) B.pre
  have hown : s.vm.findClass RX4 = some m.cls := findClass_of_methodNamed B.named
  have hlocks := B.notSynchronized
  have C : Cx p m c cX4_refusesOpening 2 s _ wsX4_refusesOpening RX4 G := ⟨⟨hx, hb, hml, hown, hts⟩, hK⟩
  have hl := lv_entry ([.ref b, .int p1]) (n := 2) (Nat.le_of_ble_eq_true rfl)
  rw [lg_entry_eq]
  generalize (lg_sl ([.ref b, .int p1]) ++ List.replicate (2 - (lg_sl ([.ref b, .int p1])).length) Slot.unset).toArray = ls at hl ⊢
  have hl : lv_has ls 2 [(0, .ref b), (1, .int p1)] := hl
  unfold fX4_refusesOpening at h
  refine lv_aload_n hx hb dX4_refusesOpening_0 rfl (lv_at hl 0 rfl) ?_
  refine lv_iload_n hx hb dX4_refusesOpening_1 rfl (lv_at hl 1 rfl) ?_
  obtain ⟨r1, hr1, h⟩ := ob h
  refine rowV (As := [.int p1]) (rest := []) C (kX4_isCart l G b σ p1 r1 hr1) (cwV 1 hts gX4_refusesOpening_X4_isCart rfl rfl rfl (by decide +kernel) ⟨Nat.le_of_ble_eq_true rfl, Nat.le_of_ble_eq_true rfl⟩) (rcv_X4 X hK) X rfl hl.1 rfl (Nat.le_of_ble_eq_true rfl) dX4_refusesOpening_2 ⟨Nat.zero_le _, Nat.zero_le _⟩ ?_
  refine lv_if_ne (tgt := 12) hx hb dX4_refusesOpening_5 (by decide) (fun c2 => ?_) (fun c2 => ?_)
  · have h := iq h c2
    refine lv_aload_n hx hb dX4_refusesOpening_12 rfl (lv_at hl 0 rfl) ?_
    refine lv_iload_n hx hb dX4_refusesOpening_13 rfl (lv_at hl 1 rfl) ?_
    refine lv_iconst (v := 4) hx hb dX4_refusesOpening_14 (by decide) ?_
    obtain ⟨r3, hr3, h⟩ := ob h
    refine rowV (As := [.int p1, .int 4]) (rest := []) C (kX4_of l G b σ p1 4 r3 hr3) (cwV 2 hts gX4_refusesOpening_X4_of rfl rfl rfl (by decide +kernel) ⟨Nat.le_of_ble_eq_true rfl, Nat.le_of_ble_eq_true rfl⟩) (rcv_X4 X hK) X rfl hl.1 rfl (Nat.le_of_ble_eq_true rfl) dX4_refusesOpening_15 ⟨Nat.zero_le _, Nat.zero_le _⟩ ?_
    refine lv_iconst (v := 1) hx hb dX4_refusesOpening_18 (by decide) ?_
    refine lv_icmp_ne (tgt := 27) hx hb dX4_refusesOpening_19 (by decide) (fun c4 => ?_) (fun c4 => ?_)
    · have h := iq h c4
      refine lv_iconst (v := 0) hx hb dX4_refusesOpening_27 (by decide) ?_
      have h := so h
      subst h
      exact W.iret hx hb hr (fun t ht _ => ⟨rfl, ht⟩) (fun q h => absurd h List.not_mem_nil) dX4_refusesOpening_28
    · have h := ip h c4
      refine lv_bipush (v := (-4)) hx hb dX4_refusesOpening_22 (by decide) ?_
      refine lv_goto (tgt := 28) hx hb dX4_refusesOpening_24 (by decide) ?_
      have h := so h
      subst h
      exact W.iret hx hb hr (fun t ht _ => ⟨rfl, ht⟩) (fun q h => absurd h List.not_mem_nil) dX4_refusesOpening_28
  · have h := ip h c2
    refine lv_iconst (v := (-1)) hx hb dX4_refusesOpening_8 (by decide) ?_
    refine lv_goto (tgt := 28) hx hb dX4_refusesOpening_9 (by decide) ?_
    have h := so h
    subst h
    exact W.iret hx hb hr (fun t ht _ => ⟨rfl, ht⟩) (fun q h => absurd h List.not_mem_nil) dX4_refusesOpening_28

theorem in_X4_open : ∀ w ∈ wsX40, w ∈ wsX4_open := by decide +kernel
def fX4_open (σ : St) (p1 : Int32) : Option (Int32 × St) := (fX4_refusesOpening (up σ 0 0 0) p1).bind (fun r1 => if r1 = 0 then ((fX4_records (up σ 0 0 0)).bind (fun σ4 => (fX4_opens σ4 p1).bind (fun q7 => some (q7.1, q7.2)))) else (some (r1, up σ 0 0 0)))
set_option maxHeartbeats 4000000 in
set_option maxRecDepth 100000 in
theorem kX4_open (l : Launch) (G : Gx) (b : Nat) (σ : St) (p1 : Int32) (r : Int32) (σ' : St) (h : fX4_open σ p1 = some (r, σ')) : Met l yX4_open wsX4_open (rmN 6) (pre G [.ref b, .int p1] (mAt G b σ)) (QcW b (b + 7) (mAt G b σ') (some (.int r))) 0 0 (lw_Fr b (b + 7)) := by
  refine Met.ofW (cc := cX4_open) (maxL := 3) (ret := (some .int)) (by decide) rfl ?_
  intro p e s m args below meth c s₁ B hml hv
  obtain ⟨rfl, X, hK⟩ := hv
  have hx := B.exec
  have hb := B.bytes
  have hr := B.returns
  have hts := atoms_spec (ws := wsX4_open) B.pre
  have hown : s.vm.findClass RX4 = some m.cls := findClass_of_methodNamed B.named
  have hlocks := B.notSynchronized
  have C : Cx p m c cX4_open 3 s _ wsX4_open RX4 G := ⟨⟨hx, hb, hml, hown, hts⟩, hK⟩
  have hin : ∀ w ∈ wsX40, w ∈ wsX4_open := in_X4_open
  have hS : va_S (lw_Fr b (b + 7)) s.heap s.heap [] := va_S.rf
  have hl := lv_entry ([.ref b, .int p1]) (n := 3) (Nat.le_of_ble_eq_true rfl)
  rw [lg_entry_eq]
  generalize (lg_sl ([.ref b, .int p1]) ++ List.replicate (3 - (lg_sl ([.ref b, .int p1])).length) Slot.unset).toArray = ls at hl ⊢
  have hl : lv_has ls 3 [(0, .ref b), (1, .int p1)] := hl
  unfold fX4_open at h
  refine lv_aload_n hx hb dX4_open_0 rfl (lv_at hl 0 rfl) ?_
  refine lv_iconst (v := 0) hx hb dX4_open_1 (by decide) ?_
  refine pt_X4_0 C hin X hS 1 rfl dX4_open_2 (fun H locs X hS => ?_)
  refine lv_aload_n hx hb dX4_open_5 rfl (lv_at hl 0 rfl) ?_
  refine lv_iload_n hx hb dX4_open_6 rfl (lv_at hl 1 rfl) ?_
  obtain ⟨r1, hr1, h⟩ := ob h
  refine rowV (As := [.int p1]) (rest := []) C (kX4_refusesOpening l G b (up σ 0 0 0) p1 r1 hr1) (cwV 1 hts gX4_open_X4_refusesOpening rfl rfl rfl (by decide +kernel) ⟨Nat.le_of_ble_eq_true rfl, Nat.le_of_ble_eq_true rfl⟩) (rcv_X4 X hK) X rfl hl.1 rfl (Nat.le_of_ble_eq_true rfl) dX4_open_7 ⟨Nat.zero_le _, Nat.zero_le _⟩ ?_
  refine lv_istore_n (lv' := [(2, .int r1), (0, .ref b), (1, .int p1)]) hx hb dX4_open_10 rfl hl (by decide) rfl (fun ls hl => ?_)
  refine lv_iload_n hx hb dX4_open_11 rfl (lv_at hl 0 rfl) ?_
  refine lv_if_eq (tgt := 17) hx hb dX4_open_12 (by decide) (fun c2 => ?_) (fun c2 => ?_)
  · have h := ip h c2
    refine lv_aload_n hx hb dX4_open_17 rfl (lv_at hl 1 rfl) ?_
    obtain ⟨σ4, hr3, h⟩ := ob h
    refine rowW (As := []) (rest := []) C (kX4_records l G b (up σ 0 0 0) σ4 hr3) (cwV 0 hts gX4_open_X4_records rfl rfl rfl (by decide +kernel) ⟨Nat.le_of_ble_eq_true rfl, Nat.le_of_ble_eq_true rfl⟩) (rcv_X4 X hK) X hS (fun _ z => z) rfl hl.1 rfl (Nat.le_of_ble_eq_true rfl) dX4_open_18 ⟨Nat.zero_le _, Nat.zero_le _⟩ (fun H locs X hS _ _ => ?_)
    show W p l e _ s m _ below meth c H locs 0 0 _ (F0 m 21 ls [])
    refine lv_aload_n hx hb dX4_open_21 rfl (lv_at hl 1 rfl) ?_
    refine lv_iload_n hx hb dX4_open_22 rfl (lv_at hl 2 rfl) ?_
    obtain ⟨q7, hr5, h⟩ := ob h
    refine rowW (As := [.int p1]) (rest := []) C (kX4_opens l G b σ4 p1 q7.1 q7.2 hr5) (cwV 1 hts gX4_open_X4_opens rfl rfl rfl (by decide +kernel) ⟨Nat.le_of_ble_eq_true rfl, Nat.le_of_ble_eq_true rfl⟩) (rcv_X4 X hK) X hS (fun _ z => z) rfl hl.1 rfl (Nat.le_of_ble_eq_true rfl) dX4_open_23 ⟨Nat.zero_le _, Nat.zero_le _⟩ (fun H locs X hS _ _ => ?_)
    show W p l e _ s m _ below meth c H locs 0 0 _ (F0 m 26 ls [.int q7.1])
    obtain ⟨h, h9⟩ := pr h
    subst h
    subst h9
    exact W.iret hx hb hr (fun t ht _ => ⟨rfl, by rw [ht]; exact X, hS.F ht⟩) hS.2.2 dX4_open_26
  · have h := iq h c2
    refine lv_iload_n hx hb dX4_open_15 rfl (lv_at hl 0 rfl) ?_
    obtain ⟨h, h9⟩ := pr h
    subst h
    subst h9
    exact W.iret hx hb hr (fun t ht _ => ⟨rfl, by rw [ht]; exact X, hS.F ht⟩) hS.2.2 dX4_open_16

def fX4_isLeft (σ : St) (p1 : Int32) : Option (Int32) := (fX4_of σ p1 4).bind (fun r1 => if r1 = 0 then ((fX4_of σ p1 5).bind (fun r3 => if r3 = 0 then (some 1) else (some 0))) else (some 0))
set_option maxHeartbeats 4000000 in
set_option maxRecDepth 100000 in
theorem kX4_isLeft (l : Launch) (G : Gx) (b : Nat) (σ : St) (p1 : Int32) (r : Int32) (h : fX4_isLeft σ p1 = some r) : Met l yX4_isLeft wsX4_isLeft (rmN 1) (pre G [.ref b, .int p1] (mAt G b σ)) (QcRead r) 0 0 (fun _ => False) := by
  refine Met.ofW (cc := cX4_isLeft) (maxL := 2) (ret := (some .boolean)) (by decide) rfl ?_
  intro p e s m args below meth c s₁ B hml hv
  obtain ⟨rfl, X, hK⟩ := hv
  have hx := B.exec
  have hb := B.bytes
  have hr := B.returns
  have hts := atoms_spec (ws := wsX4_isLeft) B.pre
  have hown : s.vm.findClass RX4 = some m.cls := findClass_of_methodNamed B.named
  have hlocks := B.notSynchronized
  have C : Cx p m c cX4_isLeft 2 s _ wsX4_isLeft RX4 G := ⟨⟨hx, hb, hml, hown, hts⟩, hK⟩
  have hl := lv_entry ([.ref b, .int p1]) (n := 2) (Nat.le_of_ble_eq_true rfl)
  rw [lg_entry_eq]
  generalize (lg_sl ([.ref b, .int p1]) ++ List.replicate (2 - (lg_sl ([.ref b, .int p1])).length) Slot.unset).toArray = ls at hl ⊢
  have hl : lv_has ls 2 [(0, .ref b), (1, .int p1)] := hl
  unfold fX4_isLeft at h
  refine lv_aload_n hx hb dX4_isLeft_0 rfl (lv_at hl 0 rfl) ?_
  refine lv_iload_n hx hb dX4_isLeft_1 rfl (lv_at hl 1 rfl) ?_
  refine lv_iconst (v := 4) hx hb dX4_isLeft_2 (by decide) ?_
  obtain ⟨r1, hr1, h⟩ := ob h
  refine rowV (As := [.int p1, .int 4]) (rest := []) C (kX4_of l G b σ p1 4 r1 hr1) (cwV 2 hts gX4_isLeft_X4_of rfl rfl rfl (by decide +kernel) ⟨Nat.le_of_ble_eq_true rfl, Nat.le_of_ble_eq_true rfl⟩) (rcv_X4 X hK) X rfl hl.1 rfl (Nat.le_of_ble_eq_true rfl) dX4_isLeft_3 ⟨Nat.zero_le _, Nat.zero_le _⟩ ?_
  refine lv_if_ne (tgt := 22) hx hb dX4_isLeft_6 (by decide) (fun c2 => ?_) (fun c2 => ?_)
  · have h := iq h c2
    refine lv_iconst (v := 0) hx hb dX4_isLeft_22 (by decide) ?_
    have h := so h
    subst h
    exact W.zret hx hb hr rfl (fun t ht _ => ⟨rfl, ht⟩) (fun q h => absurd h List.not_mem_nil) dX4_isLeft_23
  · have h := ip h c2
    refine lv_aload_n hx hb dX4_isLeft_9 rfl (lv_at hl 0 rfl) ?_
    refine lv_iload_n hx hb dX4_isLeft_10 rfl (lv_at hl 1 rfl) ?_
    refine lv_iconst (v := 5) hx hb dX4_isLeft_11 (by decide) ?_
    obtain ⟨r3, hr3, h⟩ := ob h
    refine rowV (As := [.int p1, .int 5]) (rest := []) C (kX4_of l G b σ p1 5 r3 hr3) (cwV 2 hts gX4_isLeft_X4_of rfl rfl rfl (by decide +kernel) ⟨Nat.le_of_ble_eq_true rfl, Nat.le_of_ble_eq_true rfl⟩) (rcv_X4 X hK) X rfl hl.1 rfl (Nat.le_of_ble_eq_true rfl) dX4_isLeft_12 ⟨Nat.zero_le _, Nat.zero_le _⟩ ?_
    refine lv_if_ne (tgt := 22) hx hb dX4_isLeft_15 (by decide) (fun c4 => ?_) (fun c4 => ?_)
    · have h := iq h c4
      refine lv_iconst (v := 0) hx hb dX4_isLeft_22 (by decide) ?_
      have h := so h
      subst h
      exact W.zret hx hb hr rfl (fun t ht _ => ⟨rfl, ht⟩) (fun q h => absurd h List.not_mem_nil) dX4_isLeft_23
    · have h := ip h c4
      refine lv_iconst (v := 1) hx hb dX4_isLeft_18 (by decide) ?_
      refine lv_goto (tgt := 23) hx hb dX4_isLeft_19 (by decide) ?_
      have h := so h
      subst h
      exact W.zret hx hb hr rfl (fun t ht _ => ⟨rfl, ht⟩) (fun q h => absurd h List.not_mem_nil) dX4_isLeft_23

theorem in_X4_lastLeft : ∀ w ∈ wsX40, w ∈ wsX4_lastLeft := by decide +kernel
def fX4_lastLeft_5 : Nat → St → Int32 → Int32 → Option (Int32)
  | 0, _, _, _ => none
  | n + 1, σ, v1, v2 => if (σ 1 5) ≤ v2 then (some v1) else ((fX4_isLeft σ v2).bind (fun r2 => if r2 = 0 then (fX4_lastLeft_5 n σ v1 (v2 + 1)) else (fX4_lastLeft_5 n σ v2 (v2 + 1))))
theorem fX4_lastLeft_5_0 (σ : St) (v1 : Int32) (v2 : Int32) : fX4_lastLeft_5 0 σ v1 v2 = none := rfl
theorem fX4_lastLeft_5_s (n : Nat) (σ : St) (v1 : Int32) (v2 : Int32) : fX4_lastLeft_5 (n + 1) σ v1 v2 = (if (σ 1 5) ≤ v2 then (some v1) else ((fX4_isLeft σ v2).bind (fun r2 => if r2 = 0 then (fX4_lastLeft_5 n σ v1 (v2 + 1)) else (fX4_lastLeft_5 n σ v2 (v2 + 1))))) := rfl
def fX4_lastLeft (σ : St) : Option (Int32) := fX4_lastLeft_5 1000 σ (-5) 0
set_option maxHeartbeats 4000000 in
set_option maxRecDepth 100000 in
theorem kX4_lastLeft (l : Launch) (G : Gx) (b : Nat) (σ : St) (r : Int32) (h : fX4_lastLeft σ = some r) : Met l yX4_lastLeft wsX4_lastLeft (rmN 2) (pre G [.ref b] (mAt G b σ)) (QcRead r) 0 0 (fun _ => False) := by
  refine Met.ofW (cc := cX4_lastLeft) (maxL := 3) (ret := (some .int)) (by decide) rfl ?_
  intro p e s m args below meth c s₁ B hml hv
  obtain ⟨rfl, X, hK⟩ := hv
  have hx := B.exec
  have hb := B.bytes
  have hr := B.returns
  have hts := atoms_spec (ws := wsX4_lastLeft) B.pre
  have hown : s.vm.findClass RX4 = some m.cls := findClass_of_methodNamed B.named
  have hlocks := B.notSynchronized
  have C : Cx p m c cX4_lastLeft 3 s _ wsX4_lastLeft RX4 G := ⟨⟨hx, hb, hml, hown, hts⟩, hK⟩
  have hin : ∀ w ∈ wsX40, w ∈ wsX4_lastLeft := in_X4_lastLeft
  have hl := lv_entry ([.ref b]) (n := 3) (Nat.le_of_ble_eq_true rfl)
  rw [lg_entry_eq]
  generalize (lg_sl ([.ref b]) ++ List.replicate (3 - (lg_sl ([.ref b])).length) Slot.unset).toArray = ls at hl ⊢
  have hl : lv_has ls 3 [(0, .ref b)] := hl
  have loop5 : ∀ (n : Nat) (v1 : Int32) (v2 : Int32) (ls : Array Slot), fX4_lastLeft_5 n σ v1 v2 = some r → lv_has ls 3 [(0, .ref b), (1, .int v1), (2, .int v2)] → W p l e (rmN 2) s m #[Value.ref b] below meth c s.heap [] 0 0 (MQ below (QcRead r) #[Value.ref b] s 0 0 (fun _ => False)) (F0 m 5 ls []) := by
    intro n
    induction n with
    | zero =>
      intro v1 v2 ls h hl
      rw [fX4_lastLeft_5_0] at h
      cases h
    | succ n ih =>
      intro v1 v2 ls h hl
      rw [fX4_lastLeft_5_s] at h
      refine lv_iload_n hx hb dX4_lastLeft_5 rfl (lv_at hl 2 rfl) ?_
      refine lv_aload_n hx hb dX4_lastLeft_6 rfl (lv_at hl 0 rfl) ?_
      refine gt_X4_1 C hin X 1 rfl dX4_lastLeft_7 ?_
      refine lv_iconst (v := 5) hx hb dX4_lastLeft_10 (by decide) ?_
      refine al_X4_1 (j := 5) C X rfl (by decide) dX4_lastLeft_11 ?_
      refine lv_icmp_ge (tgt := 35) hx hb dX4_lastLeft_12 (by decide) (fun c1 => ?_) (fun c1 => ?_)
      · have h := ip h c1
        refine lv_iload_n hx hb dX4_lastLeft_35 rfl (lv_at hl 1 rfl) ?_
        have h := so h
        subst h
        exact W.iret hx hb hr (fun t ht _ => ⟨rfl, ht⟩) (fun q h => absurd h List.not_mem_nil) dX4_lastLeft_36
      · have h := iq h c1
        refine lv_aload_n hx hb dX4_lastLeft_15 rfl (lv_at hl 0 rfl) ?_
        refine lv_iload_n hx hb dX4_lastLeft_16 rfl (lv_at hl 2 rfl) ?_
        obtain ⟨r2, hr2, h⟩ := ob h
        refine rowV (As := [.int v2]) (rest := []) C (kX4_isLeft l G b σ v2 r2 hr2) (cwV 1 hts gX4_lastLeft_X4_isLeft rfl rfl rfl (by decide +kernel) ⟨Nat.le_of_ble_eq_true rfl, Nat.le_of_ble_eq_true rfl⟩) (rcv_X4 X hK) X rfl hl.1 rfl (Nat.le_of_ble_eq_true rfl) dX4_lastLeft_17 ⟨Nat.zero_le _, Nat.zero_le _⟩ ?_
        refine lv_if_eq (tgt := 27) hx hb dX4_lastLeft_20 (by decide) (fun c3 => ?_) (fun c3 => ?_)
        · have h := ip h c3
          refine lv_iload_n hx hb dX4_lastLeft_27 rfl (lv_at hl 1 rfl) ?_
          refine lv_istore_n (lv' := [(1, .int v1), (0, .ref b), (2, .int v2)]) hx hb dX4_lastLeft_28 rfl hl (by decide) rfl (fun ls hl => ?_)
          refine lv_iinc (v := v2 + 1) (lv' := [(2, .int (v2 + 1)), (1, .int v1), (0, .ref b)]) hx hb dX4_lastLeft_29 hl (k := 2) rfl rfl (by decide) rfl (fun ls hl => ?_)
          refine lv_goto (tgt := 5) hx hb dX4_lastLeft_32 (by decide) ?_
          exact ih _ _ _ h (lv_sub hl [2, 1, 0] rfl)
        · have h := iq h c3
          refine lv_iload_n hx hb dX4_lastLeft_23 rfl (lv_at hl 2 rfl) ?_
          refine lv_goto (tgt := 28) hx hb dX4_lastLeft_24 (by decide) ?_
          refine lv_istore_n (lv' := [(1, .int v2), (0, .ref b), (2, .int v2)]) hx hb dX4_lastLeft_28 rfl hl (by decide) rfl (fun ls hl => ?_)
          refine lv_iinc (v := v2 + 1) (lv' := [(2, .int (v2 + 1)), (1, .int v2), (0, .ref b)]) hx hb dX4_lastLeft_29 hl (k := 2) rfl rfl (by decide) rfl (fun ls hl => ?_)
          refine lv_goto (tgt := 5) hx hb dX4_lastLeft_32 (by decide) ?_
          exact ih _ _ _ h (lv_sub hl [2, 1, 0] rfl)
  unfold fX4_lastLeft at h
  refine lv_bipush (v := (-5)) hx hb dX4_lastLeft_0 (by decide) ?_
  refine lv_istore_n (lv' := [(1, .int (-5)), (0, .ref b)]) hx hb dX4_lastLeft_2 rfl hl (by decide) rfl (fun ls hl => ?_)
  refine lv_iconst (v := 0) hx hb dX4_lastLeft_3 (by decide) ?_
  refine lv_istore_n (lv' := [(2, .int 0), (1, .int (-5)), (0, .ref b)]) hx hb dX4_lastLeft_4 rfl hl (by decide) rfl (fun ls hl => ?_)
  exact loop5 _ _ _ _ h (lv_sub hl [2, 1, 0] rfl)

theorem in_X4_openAll : ∀ w ∈ wsX40, w ∈ wsX4_openAll := by decide +kernel
def fX4_openAll_23 : Nat → St → Int32 → Option (Int32 × St)
  | 0, _, _ => none
  | n + 1, σ, v1 => (fX4_lastLeft σ).bind (fun r5 => if r5 = (-5) then (some (v1, σ)) else ((fX4_lastLeft σ).bind (fun r7 => (fX4_opens σ r7).bind (fun q10 => fX4_openAll_23 n q10.2 (v1 + 1)))))
theorem fX4_openAll_23_0 (σ : St) (v1 : Int32) : fX4_openAll_23 0 σ v1 = none := rfl
theorem fX4_openAll_23_s (n : Nat) (σ : St) (v1 : Int32) : fX4_openAll_23 (n + 1) σ v1 = ((fX4_lastLeft σ).bind (fun r5 => if r5 = (-5) then (some (v1, σ)) else ((fX4_lastLeft σ).bind (fun r7 => (fX4_opens σ r7).bind (fun q10 => fX4_openAll_23 n q10.2 (v1 + 1)))))) := rfl
def fX4_openAll (σ : St) : Option (Int32 × St) := (fX4_lastLeft (up σ 0 0 0)).bind (fun r1 => if r1 = (-5) then (some ((-5), up σ 0 0 0)) else ((fX4_records (up σ 0 0 0)).bind (fun σ4 => fX4_openAll_23 1000 σ4 0)))
set_option maxHeartbeats 4000000 in
set_option maxRecDepth 100000 in
theorem kX4_openAll (l : Launch) (G : Gx) (b : Nat) (σ : St) (r : Int32) (σ' : St) (h : fX4_openAll σ = some (r, σ')) : Met l yX4_openAll wsX4_openAll (rmN 6) (pre G [.ref b] (mAt G b σ)) (QcW b (b + 7) (mAt G b σ') (some (.int r))) 0 0 (lw_Fr b (b + 7)) := by
  refine Met.ofW (cc := cX4_openAll) (maxL := 2) (ret := (some .int)) (by decide) rfl ?_
  intro p e s m args below meth c s₁ B hml hv
  obtain ⟨rfl, X, hK⟩ := hv
  have hx := B.exec
  have hb := B.bytes
  have hr := B.returns
  have hts := atoms_spec (ws := wsX4_openAll) B.pre
  have hown : s.vm.findClass RX4 = some m.cls := findClass_of_methodNamed B.named
  have hlocks := B.notSynchronized
  have C : Cx p m c cX4_openAll 2 s _ wsX4_openAll RX4 G := ⟨⟨hx, hb, hml, hown, hts⟩, hK⟩
  have hin : ∀ w ∈ wsX40, w ∈ wsX4_openAll := in_X4_openAll
  have hS : va_S (lw_Fr b (b + 7)) s.heap s.heap [] := va_S.rf
  have hl := lv_entry ([.ref b]) (n := 2) (Nat.le_of_ble_eq_true rfl)
  rw [lg_entry_eq]
  generalize (lg_sl ([.ref b]) ++ List.replicate (2 - (lg_sl ([.ref b])).length) Slot.unset).toArray = ls at hl ⊢
  have hl : lv_has ls 2 [(0, .ref b)] := hl
  have loop23 : ∀ (n : Nat) (σ : St) (v1 : Int32) (H : Heap) (locs : List Loc) (ls : Array Slot), fX4_openAll_23 n σ v1 = some (r, σ') → mAt G b σ H → va_S (lw_Fr b (b + 7)) s.heap H locs → lv_has ls 2 [(0, .ref b), (1, .int v1)] → W p l e (rmN 6) s m #[Value.ref b] below meth c H locs 0 0 (MQ below (QcW b (b + 7) (mAt G b σ') (some (.int r))) #[Value.ref b] s 0 0 (lw_Fr b (b + 7))) (F0 m 23 ls []) := by
    intro n
    induction n with
    | zero =>
      intro σ v1 H locs ls h X hS hl
      rw [fX4_openAll_23_0] at h
      cases h
    | succ n ih =>
      intro σ v1 H locs ls h X hS hl
      rw [fX4_openAll_23_s] at h
      refine lv_aload_n hx hb dX4_openAll_23 rfl (lv_at hl 0 rfl) ?_
      obtain ⟨r5, hr5, h⟩ := ob h
      refine rowV (As := []) (rest := []) C (kX4_lastLeft l G b σ r5 hr5) (cwV 0 hts gX4_openAll_X4_lastLeft rfl rfl rfl (by decide +kernel) ⟨Nat.le_of_ble_eq_true rfl, Nat.le_of_ble_eq_true rfl⟩) (rcv_X4 X hK) X rfl hl.1 rfl (Nat.le_of_ble_eq_true rfl) dX4_openAll_24 ⟨Nat.zero_le _, Nat.zero_le _⟩ ?_
      refine lv_bipush (v := (-5)) hx hb dX4_openAll_27 (by decide) ?_
      refine lv_icmp_eq (tgt := 47) hx hb dX4_openAll_29 (by decide) (fun c6 => ?_) (fun c6 => ?_)
      · have h := ip h c6
        refine lv_iload_n hx hb dX4_openAll_47 rfl (lv_at hl 1 rfl) ?_
        obtain ⟨h, h9⟩ := pr h
        subst h
        subst h9
        exact W.iret hx hb hr (fun t ht _ => ⟨rfl, by rw [ht]; exact X, hS.F ht⟩) hS.2.2 dX4_openAll_48
      · have h := iq h c6
        refine lv_aload_n hx hb dX4_openAll_32 rfl (lv_at hl 0 rfl) ?_
        refine lv_aload_n hx hb dX4_openAll_33 rfl (lv_at hl 0 rfl) ?_
        obtain ⟨r7, hr7, h⟩ := ob h
        refine rowV (As := []) (rest := [.ref b]) C (kX4_lastLeft l G b σ r7 hr7) (cwV 0 hts gX4_openAll_X4_lastLeft rfl rfl rfl (by decide +kernel) ⟨Nat.le_of_ble_eq_true rfl, Nat.le_of_ble_eq_true rfl⟩) (rcv_X4 X hK) X rfl hl.1 rfl (Nat.le_of_ble_eq_true rfl) dX4_openAll_34 ⟨Nat.zero_le _, Nat.zero_le _⟩ ?_
        obtain ⟨q10, hr8, h⟩ := ob h
        refine rowW (As := [.int r7]) (rest := []) C (kX4_opens l G b σ r7 q10.1 q10.2 hr8) (cwV 1 hts gX4_openAll_X4_opens rfl rfl rfl (by decide +kernel) ⟨Nat.le_of_ble_eq_true rfl, Nat.le_of_ble_eq_true rfl⟩) (rcv_X4 X hK) X hS (fun _ z => z) rfl hl.1 rfl (Nat.le_of_ble_eq_true rfl) dX4_openAll_37 ⟨Nat.zero_le _, Nat.zero_le _⟩ (fun H locs X hS _ _ => ?_)
        show W p l e _ s m _ below meth c H locs 0 0 _ (F0 m 40 ls [.int q10.1])
        refine lv_pop hx hb dX4_openAll_40 rfl ?_
        refine lv_iinc (v := v1 + 1) (lv' := [(1, .int (v1 + 1)), (0, .ref b)]) hx hb dX4_openAll_41 hl (k := 1) rfl rfl (by decide) rfl (fun ls hl => ?_)
        refine lv_goto (tgt := 23) hx hb dX4_openAll_44 (by decide) ?_
        exact ih _ _ _ _ _ h X hS (lv_sub hl [1, 0] rfl)
  unfold fX4_openAll at h
  refine lv_aload_n hx hb dX4_openAll_0 rfl (lv_at hl 0 rfl) ?_
  refine lv_iconst (v := 0) hx hb dX4_openAll_1 (by decide) ?_
  refine pt_X4_0 C hin X hS 1 rfl dX4_openAll_2 (fun H locs X hS => ?_)
  refine lv_aload_n hx hb dX4_openAll_5 rfl (lv_at hl 0 rfl) ?_
  obtain ⟨r1, hr1, h⟩ := ob h
  refine rowV (As := []) (rest := []) C (kX4_lastLeft l G b (up σ 0 0 0) r1 hr1) (cwV 0 hts gX4_openAll_X4_lastLeft rfl rfl rfl (by decide +kernel) ⟨Nat.le_of_ble_eq_true rfl, Nat.le_of_ble_eq_true rfl⟩) (rcv_X4 X hK) X rfl hl.1 rfl (Nat.le_of_ble_eq_true rfl) dX4_openAll_6 ⟨Nat.zero_le _, Nat.zero_le _⟩ ?_
  refine lv_bipush (v := (-5)) hx hb dX4_openAll_9 (by decide) ?_
  refine lv_icmp_ne (tgt := 17) hx hb dX4_openAll_11 (by decide) (fun c2 => ?_) (fun c2 => ?_)
  · have h := iq h c2
    refine lv_aload_n hx hb dX4_openAll_17 rfl (lv_at hl 0 rfl) ?_
    obtain ⟨σ4, hr3, h⟩ := ob h
    refine rowW (As := []) (rest := []) C (kX4_records l G b (up σ 0 0 0) σ4 hr3) (cwV 0 hts gX4_openAll_X4_records rfl rfl rfl (by decide +kernel) ⟨Nat.le_of_ble_eq_true rfl, Nat.le_of_ble_eq_true rfl⟩) (rcv_X4 X hK) X hS (fun _ z => z) rfl hl.1 rfl (Nat.le_of_ble_eq_true rfl) dX4_openAll_18 ⟨Nat.zero_le _, Nat.zero_le _⟩ (fun H locs X hS _ _ => ?_)
    show W p l e _ s m _ below meth c H locs 0 0 _ (F0 m 21 ls [])
    refine lv_iconst (v := 0) hx hb dX4_openAll_21 (by decide) ?_
    refine lv_istore_n (lv' := [(1, .int 0), (0, .ref b)]) hx hb dX4_openAll_22 rfl hl (by decide) rfl (fun ls hl => ?_)
    exact loop23 _ _ _ _ _ _ h X hS (lv_sub hl [1, 0] rfl)
  · have h := ip h c2
    refine lv_bipush (v := (-5)) hx hb dX4_openAll_14 (by decide) ?_
    obtain ⟨h, h9⟩ := pr h
    subst h
    subst h9
    exact W.iret hx hb hr (fun t ht _ => ⟨rfl, by rw [ht]; exact X, hS.F ht⟩) hS.2.2 dX4_openAll_16

def fX4_leastOf (p1 : Int32) : Option (Int32) := if p1 = 2 then (some 10) else (if 2 ≤ p1 then (some 0) else (some 1))
set_option maxHeartbeats 4000000 in
set_option maxRecDepth 100000 in
theorem kX4_leastOf (l : Launch) (G : Gx) (p1 : Int32) (r : Int32) (h : fX4_leastOf p1 = some r) : Met l yX4_leastOf wsX4_leastOf (rmN 0) (pre G [.int p1] (fun _ => True)) (QcRead r) 0 0 (fun _ => False) := by
  refine Met.ofW (cc := cX4_leastOf) (maxL := 1) (ret := (some .int)) (by decide) rfl ?_
  intro p e s m args below meth c s₁ B hml hv
  obtain ⟨rfl, -, hK⟩ := hv
  have hx := B.exec
  have hb := B.bytes
  have hr := B.returns
  have hts := atoms_spec (ws := wsX4_leastOf) B.pre
  have hown : s.vm.findClass RX4 = some m.cls := findClass_of_methodNamed B.named
  have hlocks := B.notSynchronized
  have C : Cx p m c cX4_leastOf 1 s _ wsX4_leastOf RX4 G := ⟨⟨hx, hb, hml, hown, hts⟩, hK⟩
  have hl := lv_entry ([.int p1]) (n := 1) (Nat.le_of_ble_eq_true rfl)
  rw [lg_entry_eq]
  generalize (lg_sl ([.int p1]) ++ List.replicate (1 - (lg_sl ([.int p1])).length) Slot.unset).toArray = ls at hl ⊢
  have hl : lv_has ls 1 [(0, .int p1)] := hl
  unfold fX4_leastOf at h
  refine lv_iload_n hx hb dX4_leastOf_0 rfl (lv_at hl 0 rfl) ?_
  refine lv_iconst (v := 2) hx hb dX4_leastOf_1 (by decide) ?_
  refine lv_icmp_ne (tgt := 10) hx hb dX4_leastOf_2 (by decide) (fun c1 => ?_) (fun c1 => ?_)
  · have h := iq h c1
    refine lv_iload_n hx hb dX4_leastOf_10 rfl (lv_at hl 0 rfl) ?_
    refine lv_iconst (v := 2) hx hb dX4_leastOf_11 (by decide) ?_
    refine lv_icmp_ge (tgt := 19) hx hb dX4_leastOf_12 (by decide) (fun c2 => ?_) (fun c2 => ?_)
    · have h := ip h c2
      refine lv_iconst (v := 0) hx hb dX4_leastOf_19 (by decide) ?_
      have h := so h
      subst h
      exact W.iret hx hb hr (fun t ht _ => ⟨rfl, ht⟩) (fun q h => absurd h List.not_mem_nil) dX4_leastOf_20
    · have h := iq h c2
      refine lv_iconst (v := 1) hx hb dX4_leastOf_15 (by decide) ?_
      refine lv_goto (tgt := 20) hx hb dX4_leastOf_16 (by decide) ?_
      have h := so h
      subst h
      exact W.iret hx hb hr (fun t ht _ => ⟨rfl, ht⟩) (fun q h => absurd h List.not_mem_nil) dX4_leastOf_20
  · have h := ip h c1
    refine lv_bipush (v := 10) hx hb dX4_leastOf_5 (by decide) ?_
    refine lv_goto (tgt := 20) hx hb dX4_leastOf_7 (by decide) ?_
    have h := so h
    subst h
    exact W.iret hx hb hr (fun t ht _ => ⟨rfl, ht⟩) (fun q h => absurd h List.not_mem_nil) dX4_leastOf_20

theorem in_X4_set : ∀ w ∈ wsX40, w ∈ wsX4_set := by decide +kernel
def fX4_set (σ : St) (p1 : Int32) (p2 : Int32) : Option (Int32 × St) := (fX4_in p1 0 4).bind (fun r1 => if r1 = 0 then (some ((-1), up σ 0 0 0)) else ((fX4_leastOf p1).bind (fun r3 => if p1 = 2 then ((fX4_in p2 r3 999).bind (fun r12 => if r12 = 0 then (some ((-2), up σ 0 0 0)) else (if oob p1 200 then none else if ((up σ 0 0 0) 1 p1.toNatClampNeg) = p2 then (some ((-5), up σ 0 0 0)) else ((fX4_records (up σ 0 0 0)).bind (fun σ17 => if oob p1 200 then none else some ((up σ 0 0 0) 1 p1.toNatClampNeg, up σ17 1 p1.toNatClampNeg p2)))))) else ((fX4_in p2 r3 99).bind (fun r5 => if r5 = 0 then (some ((-2), up σ 0 0 0)) else (if oob p1 200 then none else if ((up σ 0 0 0) 1 p1.toNatClampNeg) = p2 then (some ((-5), up σ 0 0 0)) else ((fX4_records (up σ 0 0 0)).bind (fun σ10 => if oob p1 200 then none else some ((up σ 0 0 0) 1 p1.toNatClampNeg, up σ10 1 p1.toNatClampNeg p2)))))))))
set_option maxHeartbeats 4000000 in
set_option maxRecDepth 100000 in
theorem kX4_set (l : Launch) (G : Gx) (b : Nat) (σ : St) (p1 : Int32) (p2 : Int32) (r : Int32) (σ' : St) (h : fX4_set σ p1 p2 = some (r, σ')) : Met l yX4_set wsX4_set (rmN 1) (pre G [.ref b, .int p1, .int p2] (mAt G b σ)) (QcW b (b + 7) (mAt G b σ') (some (.int r))) 0 0 (lw_Fr b (b + 7)) := by
  refine Met.ofW (cc := cX4_set) (maxL := 4) (ret := (some .int)) (by decide) rfl ?_
  intro p e s m args below meth c s₁ B hml hv
  obtain ⟨rfl, X, hK⟩ := hv
  have hx := B.exec
  have hb := B.bytes
  have hr := B.returns
  have hts := atoms_spec (ws := wsX4_set) B.pre
  have hown : s.vm.findClass RX4 = some m.cls := findClass_of_methodNamed B.named
  have hlocks := B.notSynchronized
  have C : Cx p m c cX4_set 4 s _ wsX4_set RX4 G := ⟨⟨hx, hb, hml, hown, hts⟩, hK⟩
  have hin : ∀ w ∈ wsX40, w ∈ wsX4_set := in_X4_set
  have hS : va_S (lw_Fr b (b + 7)) s.heap s.heap [] := va_S.rf
  have hl := lv_entry ([.ref b, .int p1, .int p2]) (n := 4) (Nat.le_of_ble_eq_true rfl)
  rw [lg_entry_eq]
  generalize (lg_sl ([.ref b, .int p1, .int p2]) ++ List.replicate (4 - (lg_sl ([.ref b, .int p1, .int p2])).length) Slot.unset).toArray = ls at hl ⊢
  have hl : lv_has ls 4 [(0, .ref b), (1, .int p1), (2, .int p2)] := hl
  unfold fX4_set at h
  refine lv_aload_n hx hb dX4_set_0 rfl (lv_at hl 0 rfl) ?_
  refine lv_iconst (v := 0) hx hb dX4_set_1 (by decide) ?_
  refine pt_X4_0 C hin X hS 1 rfl dX4_set_2 (fun H locs X hS => ?_)
  refine lv_iload_n hx hb dX4_set_5 rfl (lv_at hl 1 rfl) ?_
  refine lv_iconst (v := 0) hx hb dX4_set_6 (by decide) ?_
  refine lv_iconst (v := 4) hx hb dX4_set_7 (by decide) ?_
  obtain ⟨r1, hr1, h⟩ := ob h
  refine rowS (As := [.int p1, .int 0, .int 4]) (rest := []) (B := fun _ => True) C (kX4_in l G p1 0 4 r1 hr1) (va_cwS 3 hts gX4_set_X4_in rfl rfl rfl (by decide +kernel) ⟨Nat.le_of_ble_eq_true rfl, Nat.le_of_ble_eq_true rfl⟩) trivial rfl hl.1 rfl (Nat.le_of_ble_eq_true rfl) dX4_set_8 ⟨Nat.zero_le _, Nat.zero_le _⟩ ?_
  refine lv_if_ne (tgt := 16) hx hb dX4_set_11 (by decide) (fun c2 => ?_) (fun c2 => ?_)
  · have h := iq h c2
    refine lv_iload_n hx hb dX4_set_16 rfl (lv_at hl 2 rfl) ?_
    refine lv_iload_n hx hb dX4_set_17 rfl (lv_at hl 1 rfl) ?_
    obtain ⟨r3, hr3, h⟩ := ob h
    refine rowS (As := [.int p1]) (rest := [.int p2]) (B := fun _ => True) C (kX4_leastOf l G p1 r3 hr3) (va_cwS 1 hts gX4_set_X4_leastOf rfl rfl rfl (by decide +kernel) ⟨Nat.le_of_ble_eq_true rfl, Nat.le_of_ble_eq_true rfl⟩) trivial rfl hl.1 rfl (Nat.le_of_ble_eq_true rfl) dX4_set_18 ⟨Nat.zero_le _, Nat.zero_le _⟩ ?_
    refine lv_iload_n hx hb dX4_set_21 rfl (lv_at hl 1 rfl) ?_
    refine lv_iconst (v := 2) hx hb dX4_set_22 (by decide) ?_
    refine lv_icmp_ne (tgt := 32) hx hb dX4_set_23 (by decide) (fun c4 => ?_) (fun c4 => ?_)
    · have h := iq h c4
      refine lv_bipush (v := 99) hx hb dX4_set_32 (by decide) ?_
      obtain ⟨r5, hr5, h⟩ := ob h
      refine rowS (As := [.int p2, .int r3, .int 99]) (rest := []) (B := fun _ => True) C (kX4_in l G p2 r3 99 r5 hr5) (va_cwS 3 hts gX4_set_X4_in rfl rfl rfl (by decide +kernel) ⟨Nat.le_of_ble_eq_true rfl, Nat.le_of_ble_eq_true rfl⟩) trivial rfl hl.1 rfl (Nat.le_of_ble_eq_true rfl) dX4_set_34 ⟨Nat.zero_le _, Nat.zero_le _⟩ ?_
      refine lv_if_ne (tgt := 43) hx hb dX4_set_37 (by decide) (fun c6 => ?_) (fun c6 => ?_)
      · have h := iq h c6
        refine lv_aload_n hx hb dX4_set_43 rfl (lv_at hl 0 rfl) ?_
        refine gt_X4_1 C hin X 2 rfl dX4_set_44 ?_
        refine lv_iload_n hx hb dX4_set_47 rfl (lv_at hl 1 rfl) ?_
        obtain ⟨c7, h⟩ := og h
        refine al_X4_1 C X rfl c7 dX4_set_48 ?_
        refine lv_istore_n (lv' := [(3, .int ((up σ 0 0 0) 1 p1.toNatClampNeg)), (0, .ref b), (1, .int p1), (2, .int p2)]) hx hb dX4_set_49 rfl hl (by decide) rfl (fun ls hl => ?_)
        refine lv_iload_n hx hb dX4_set_50 rfl (lv_at hl 0 rfl) ?_
        refine lv_iload_n hx hb dX4_set_51 rfl (lv_at hl 3 rfl) ?_
        refine lv_icmp_ne (tgt := 58) hx hb dX4_set_52 (by decide) (fun c8 => ?_) (fun c8 => ?_)
        · have h := iq h c8
          refine lv_aload_n hx hb dX4_set_58 rfl (lv_at hl 1 rfl) ?_
          obtain ⟨σ10, hr9, h⟩ := ob h
          refine rowW (As := []) (rest := []) C (kX4_records l G b (up σ 0 0 0) σ10 hr9) (cwV 0 hts gX4_set_X4_records rfl rfl rfl (by decide +kernel) ⟨Nat.le_of_ble_eq_true rfl, Nat.le_of_ble_eq_true rfl⟩) (rcv_X4 X hK) X hS (fun _ z => z) rfl hl.1 rfl (Nat.le_of_ble_eq_true rfl) dX4_set_59 ⟨Nat.zero_le _, Nat.zero_le _⟩ (fun H locs X hS _ _ => ?_)
          show W p l e _ s m _ below meth c H locs 0 0 _ (F0 m 62 ls [])
          refine lv_aload_n hx hb dX4_set_62 rfl (lv_at hl 1 rfl) ?_
          refine gt_X4_1 C hin X 2 rfl dX4_set_63 ?_
          refine lv_iload_n hx hb dX4_set_66 rfl (lv_at hl 2 rfl) ?_
          refine lv_iload_n hx hb dX4_set_67 rfl (lv_at hl 3 rfl) ?_
          obtain ⟨c11, h⟩ := og h
          refine as_X4_1 C X hS rfl c11 dX4_set_68 (fun H locs X hS => ?_)
          refine lv_iload_n hx hb dX4_set_69 rfl (lv_at hl 0 rfl) ?_
          obtain ⟨h, h9⟩ := pr h
          subst h
          subst h9
          exact W.iret hx hb hr (fun t ht _ => ⟨rfl, by rw [ht]; exact X, hS.F ht⟩) hS.2.2 dX4_set_70
        · have h := ip h c8
          refine lv_bipush (v := (-5)) hx hb dX4_set_55 (by decide) ?_
          obtain ⟨h, h9⟩ := pr h
          subst h
          subst h9
          exact W.iret hx hb hr (fun t ht _ => ⟨rfl, by rw [ht]; exact X, hS.F ht⟩) hS.2.2 dX4_set_57
      · have h := ip h c6
        refine lv_bipush (v := (-2)) hx hb dX4_set_40 (by decide) ?_
        obtain ⟨h, h9⟩ := pr h
        subst h
        subst h9
        exact W.iret hx hb hr (fun t ht _ => ⟨rfl, by rw [ht]; exact X, hS.F ht⟩) hS.2.2 dX4_set_42
    · have h := ip h c4
      refine lv_sipush (v := 999) hx hb dX4_set_26 (by decide) ?_
      refine lv_goto (tgt := 34) hx hb dX4_set_29 (by decide) ?_
      obtain ⟨r12, hr12, h⟩ := ob h
      refine rowS (As := [.int p2, .int r3, .int 999]) (rest := []) (B := fun _ => True) C (kX4_in l G p2 r3 999 r12 hr12) (va_cwS 3 hts gX4_set_X4_in rfl rfl rfl (by decide +kernel) ⟨Nat.le_of_ble_eq_true rfl, Nat.le_of_ble_eq_true rfl⟩) trivial rfl hl.1 rfl (Nat.le_of_ble_eq_true rfl) dX4_set_34 ⟨Nat.zero_le _, Nat.zero_le _⟩ ?_
      refine lv_if_ne (tgt := 43) hx hb dX4_set_37 (by decide) (fun c13 => ?_) (fun c13 => ?_)
      · have h := iq h c13
        refine lv_aload_n hx hb dX4_set_43 rfl (lv_at hl 0 rfl) ?_
        refine gt_X4_1 C hin X 2 rfl dX4_set_44 ?_
        refine lv_iload_n hx hb dX4_set_47 rfl (lv_at hl 1 rfl) ?_
        obtain ⟨c14, h⟩ := og h
        refine al_X4_1 C X rfl c14 dX4_set_48 ?_
        refine lv_istore_n (lv' := [(3, .int ((up σ 0 0 0) 1 p1.toNatClampNeg)), (0, .ref b), (1, .int p1), (2, .int p2)]) hx hb dX4_set_49 rfl hl (by decide) rfl (fun ls hl => ?_)
        refine lv_iload_n hx hb dX4_set_50 rfl (lv_at hl 0 rfl) ?_
        refine lv_iload_n hx hb dX4_set_51 rfl (lv_at hl 3 rfl) ?_
        refine lv_icmp_ne (tgt := 58) hx hb dX4_set_52 (by decide) (fun c15 => ?_) (fun c15 => ?_)
        · have h := iq h c15
          refine lv_aload_n hx hb dX4_set_58 rfl (lv_at hl 1 rfl) ?_
          obtain ⟨σ17, hr16, h⟩ := ob h
          refine rowW (As := []) (rest := []) C (kX4_records l G b (up σ 0 0 0) σ17 hr16) (cwV 0 hts gX4_set_X4_records rfl rfl rfl (by decide +kernel) ⟨Nat.le_of_ble_eq_true rfl, Nat.le_of_ble_eq_true rfl⟩) (rcv_X4 X hK) X hS (fun _ z => z) rfl hl.1 rfl (Nat.le_of_ble_eq_true rfl) dX4_set_59 ⟨Nat.zero_le _, Nat.zero_le _⟩ (fun H locs X hS _ _ => ?_)
          show W p l e _ s m _ below meth c H locs 0 0 _ (F0 m 62 ls [])
          refine lv_aload_n hx hb dX4_set_62 rfl (lv_at hl 1 rfl) ?_
          refine gt_X4_1 C hin X 2 rfl dX4_set_63 ?_
          refine lv_iload_n hx hb dX4_set_66 rfl (lv_at hl 2 rfl) ?_
          refine lv_iload_n hx hb dX4_set_67 rfl (lv_at hl 3 rfl) ?_
          obtain ⟨c18, h⟩ := og h
          refine as_X4_1 C X hS rfl c18 dX4_set_68 (fun H locs X hS => ?_)
          refine lv_iload_n hx hb dX4_set_69 rfl (lv_at hl 0 rfl) ?_
          obtain ⟨h, h9⟩ := pr h
          subst h
          subst h9
          exact W.iret hx hb hr (fun t ht _ => ⟨rfl, by rw [ht]; exact X, hS.F ht⟩) hS.2.2 dX4_set_70
        · have h := ip h c15
          refine lv_bipush (v := (-5)) hx hb dX4_set_55 (by decide) ?_
          obtain ⟨h, h9⟩ := pr h
          subst h
          subst h9
          exact W.iret hx hb hr (fun t ht _ => ⟨rfl, by rw [ht]; exact X, hS.F ht⟩) hS.2.2 dX4_set_57
      · have h := ip h c13
        refine lv_bipush (v := (-2)) hx hb dX4_set_40 (by decide) ?_
        obtain ⟨h, h9⟩ := pr h
        subst h
        subst h9
        exact W.iret hx hb hr (fun t ht _ => ⟨rfl, by rw [ht]; exact X, hS.F ht⟩) hS.2.2 dX4_set_42
  · have h := ip h c2
    refine lv_iconst (v := (-1)) hx hb dX4_set_14 (by decide) ?_
    obtain ⟨h, h9⟩ := pr h
    subst h
    subst h9
    exact W.iret hx hb hr (fun t ht _ => ⟨rfl, by rw [ht]; exact X, hS.F ht⟩) hS.2.2 dX4_set_15

theorem in_X4_type : ∀ w ∈ wsX40, w ∈ wsX4_type := by decide +kernel
def fX4_type (σ : St) (p1 : Int32) : Option (Int32 × St) := if ((up σ 0 0 0) 8 0) = 60 then (some ((-3), up σ 0 0 0)) else (if oob ((up σ 0 0 0) 8 0) 60 then none else some ((up (up (up σ 0 0 0) 7 ((up σ 0 0 0) 8 0).toNatClampNeg p1) 8 0 (((up (up σ 0 0 0) 7 ((up σ 0 0 0) 8 0).toNatClampNeg p1) 8 0) + 1)) 8 0, up (up (up σ 0 0 0) 7 ((up σ 0 0 0) 8 0).toNatClampNeg p1) 8 0 (((up (up σ 0 0 0) 7 ((up σ 0 0 0) 8 0).toNatClampNeg p1) 8 0) + 1)))
set_option maxHeartbeats 4000000 in
set_option maxRecDepth 100000 in
theorem kX4_type (l : Launch) (G : Gx) (b : Nat) (σ : St) (p1 : Int32) (r : Int32) (σ' : St) (h : fX4_type σ p1 = some (r, σ')) : Met l yX4_type wsX4_type (rmN 0) (pre G [.ref b, .int p1] (mAt G b σ)) (QcW b (b + 7) (mAt G b σ') (some (.int r))) 0 0 (lw_Fr b (b + 7)) := by
  refine Met.ofW (cc := cX4_type) (maxL := 2) (ret := (some .int)) (by decide) rfl ?_
  intro p e s m args below meth c s₁ B hml hv
  obtain ⟨rfl, X, hK⟩ := hv
  have hx := B.exec
  have hb := B.bytes
  have hr := B.returns
  have hts := atoms_spec (ws := wsX4_type) B.pre
  have hown : s.vm.findClass RX4 = some m.cls := findClass_of_methodNamed B.named
  have hlocks := B.notSynchronized
  have C : Cx p m c cX4_type 2 s _ wsX4_type RX4 G := ⟨⟨hx, hb, hml, hown, hts⟩, hK⟩
  have hin : ∀ w ∈ wsX40, w ∈ wsX4_type := in_X4_type
  have hS : va_S (lw_Fr b (b + 7)) s.heap s.heap [] := va_S.rf
  have hl := lv_entry ([.ref b, .int p1]) (n := 2) (Nat.le_of_ble_eq_true rfl)
  rw [lg_entry_eq]
  generalize (lg_sl ([.ref b, .int p1]) ++ List.replicate (2 - (lg_sl ([.ref b, .int p1])).length) Slot.unset).toArray = ls at hl ⊢
  have hl : lv_has ls 2 [(0, .ref b), (1, .int p1)] := hl
  unfold fX4_type at h
  refine lv_aload_n hx hb dX4_type_0 rfl (lv_at hl 0 rfl) ?_
  refine lv_iconst (v := 0) hx hb dX4_type_1 (by decide) ?_
  refine pt_X4_0 C hin X hS 1 rfl dX4_type_2 (fun H locs X hS => ?_)
  refine lv_aload_n hx hb dX4_type_5 rfl (lv_at hl 0 rfl) ?_
  refine gt_X4_8 C hin X 2 rfl dX4_type_6 ?_
  refine lv_bipush (v := 60) hx hb dX4_type_9 (by decide) ?_
  refine lv_icmp_ne (tgt := 17) hx hb dX4_type_11 (by decide) (fun c1 => ?_) (fun c1 => ?_)
  · have h := iq h c1
    refine lv_aload_n hx hb dX4_type_17 rfl (lv_at hl 0 rfl) ?_
    refine gt_X4_7 C hin X 3 rfl dX4_type_18 ?_
    refine lv_aload_n hx hb dX4_type_21 rfl (lv_at hl 0 rfl) ?_
    refine gt_X4_8 C hin X 2 rfl dX4_type_22 ?_
    refine lv_iload_n hx hb dX4_type_25 rfl (lv_at hl 1 rfl) ?_
    obtain ⟨c2, h⟩ := og h
    refine as_X4_7 C X hS rfl c2 dX4_type_26 (fun H locs X hS => ?_)
    refine lv_aload_n hx hb dX4_type_27 rfl (lv_at hl 0 rfl) ?_
    refine lv_dup hx hb dX4_type_28 rfl ?_
    refine gt_X4_8 C hin X 2 rfl dX4_type_29 ?_
    refine lv_iconst (v := 1) hx hb dX4_type_32 (by decide) ?_
    refine lv_iadd hx hb dX4_type_33 ?_
    refine pt_X4_8 C hin X hS 2 rfl dX4_type_34 (fun H locs X hS => ?_)
    refine lv_aload_n hx hb dX4_type_37 rfl (lv_at hl 0 rfl) ?_
    refine gt_X4_8 C hin X 2 rfl dX4_type_38 ?_
    obtain ⟨h, h9⟩ := pr h
    subst h
    subst h9
    exact W.iret hx hb hr (fun t ht _ => ⟨rfl, by rw [ht]; exact X, hS.F ht⟩) hS.2.2 dX4_type_41
  · have h := ip h c1
    refine lv_bipush (v := (-3)) hx hb dX4_type_14 (by decide) ?_
    obtain ⟨h, h9⟩ := pr h
    subst h
    subst h9
    exact W.iret hx hb hr (fun t ht _ => ⟨rfl, by rw [ht]; exact X, hS.F ht⟩) hS.2.2 dX4_type_16

theorem in_X4_clearText : ∀ w ∈ wsX40, w ∈ wsX4_clearText := by decide +kernel
def fX4_clearText (σ : St) : Option (Int32 × St) := some ((up σ 0 0 0) 8 0, up (up σ 0 0 0) 8 0 0)
set_option maxHeartbeats 4000000 in
set_option maxRecDepth 100000 in
theorem kX4_clearText (l : Launch) (G : Gx) (b : Nat) (σ : St) (r : Int32) (σ' : St) (h : fX4_clearText σ = some (r, σ')) : Met l yX4_clearText wsX4_clearText (rmN 0) (pre G [.ref b] (mAt G b σ)) (QcW b (b + 7) (mAt G b σ') (some (.int r))) 0 0 (lw_Fr b (b + 7)) := by
  refine Met.ofW (cc := cX4_clearText) (maxL := 2) (ret := (some .int)) (by decide) rfl ?_
  intro p e s m args below meth c s₁ B hml hv
  obtain ⟨rfl, X, hK⟩ := hv
  have hx := B.exec
  have hb := B.bytes
  have hr := B.returns
  have hts := atoms_spec (ws := wsX4_clearText) B.pre
  have hown : s.vm.findClass RX4 = some m.cls := findClass_of_methodNamed B.named
  have hlocks := B.notSynchronized
  have C : Cx p m c cX4_clearText 2 s _ wsX4_clearText RX4 G := ⟨⟨hx, hb, hml, hown, hts⟩, hK⟩
  have hin : ∀ w ∈ wsX40, w ∈ wsX4_clearText := in_X4_clearText
  have hS : va_S (lw_Fr b (b + 7)) s.heap s.heap [] := va_S.rf
  have hl := lv_entry ([.ref b]) (n := 2) (Nat.le_of_ble_eq_true rfl)
  rw [lg_entry_eq]
  generalize (lg_sl ([.ref b]) ++ List.replicate (2 - (lg_sl ([.ref b])).length) Slot.unset).toArray = ls at hl ⊢
  have hl : lv_has ls 2 [(0, .ref b)] := hl
  unfold fX4_clearText at h
  refine lv_aload_n hx hb dX4_clearText_0 rfl (lv_at hl 0 rfl) ?_
  refine lv_iconst (v := 0) hx hb dX4_clearText_1 (by decide) ?_
  refine pt_X4_0 C hin X hS 1 rfl dX4_clearText_2 (fun H locs X hS => ?_)
  refine lv_aload_n hx hb dX4_clearText_5 rfl (lv_at hl 0 rfl) ?_
  refine gt_X4_8 C hin X 2 rfl dX4_clearText_6 ?_
  refine lv_istore_n (lv' := [(1, .int ((up σ 0 0 0) 8 0)), (0, .ref b)]) hx hb dX4_clearText_9 rfl hl (by decide) rfl (fun ls hl => ?_)
  refine lv_aload_n hx hb dX4_clearText_10 rfl (lv_at hl 1 rfl) ?_
  refine lv_iconst (v := 0) hx hb dX4_clearText_11 (by decide) ?_
  refine pt_X4_8 C hin X hS 2 rfl dX4_clearText_12 (fun H locs X hS => ?_)
  refine lv_iload_n hx hb dX4_clearText_15 rfl (lv_at hl 0 rfl) ?_
  obtain ⟨h, h9⟩ := pr h
  subst h
  subst h9
  exact W.iret hx hb hr (fun t ht _ => ⟨rfl, by rw [ht]; exact X, hS.F ht⟩) hS.2.2 dX4_clearText_16

theorem in_X4_sign : ∀ w ∈ wsX40, w ∈ wsX4_sign := by decide +kernel
def fX4_sign (σ : St) : Option (Int32) := if (σ 8 0) ≤ (σ 9 0) then (some 0) else (if oob (σ 9 0) 60 then none else some (σ 7 (σ 9 0).toNatClampNeg))
set_option maxHeartbeats 4000000 in
set_option maxRecDepth 100000 in
theorem kX4_sign (l : Launch) (G : Gx) (b : Nat) (σ : St) (r : Int32) (h : fX4_sign σ = some r) : Met l yX4_sign wsX4_sign (rmN 0) (pre G [.ref b] (mAt G b σ)) (QcRead r) 0 0 (fun _ => False) := by
  refine Met.ofW (cc := cX4_sign) (maxL := 1) (ret := (some .int)) (by decide) rfl ?_
  intro p e s m args below meth c s₁ B hml hv
  obtain ⟨rfl, X, hK⟩ := hv
  have hx := B.exec
  have hb := B.bytes
  have hr := B.returns
  have hts := atoms_spec (ws := wsX4_sign) B.pre
  have hown : s.vm.findClass RX4 = some m.cls := findClass_of_methodNamed B.named
  have hlocks := B.notSynchronized
  have C : Cx p m c cX4_sign 1 s _ wsX4_sign RX4 G := ⟨⟨hx, hb, hml, hown, hts⟩, hK⟩
  have hin : ∀ w ∈ wsX40, w ∈ wsX4_sign := in_X4_sign
  have hl := lv_entry ([.ref b]) (n := 1) (Nat.le_of_ble_eq_true rfl)
  rw [lg_entry_eq]
  generalize (lg_sl ([.ref b]) ++ List.replicate (1 - (lg_sl ([.ref b])).length) Slot.unset).toArray = ls at hl ⊢
  have hl : lv_has ls 1 [(0, .ref b)] := hl
  unfold fX4_sign at h
  refine lv_aload_n hx hb dX4_sign_0 rfl (lv_at hl 0 rfl) ?_
  refine gt_X4_9 C hin X 1 rfl dX4_sign_1 ?_
  refine lv_aload_n hx hb dX4_sign_4 rfl (lv_at hl 0 rfl) ?_
  refine gt_X4_8 C hin X 2 rfl dX4_sign_5 ?_
  refine lv_icmp_ge (tgt := 23) hx hb dX4_sign_8 (by decide) (fun c1 => ?_) (fun c1 => ?_)
  · have h := ip h c1
    refine lv_iconst (v := 0) hx hb dX4_sign_23 (by decide) ?_
    have h := so h
    subst h
    exact W.iret hx hb hr (fun t ht _ => ⟨rfl, ht⟩) (fun q h => absurd h List.not_mem_nil) dX4_sign_24
  · have h := iq h c1
    refine lv_aload_n hx hb dX4_sign_11 rfl (lv_at hl 0 rfl) ?_
    refine gt_X4_7 C hin X 3 rfl dX4_sign_12 ?_
    refine lv_aload_n hx hb dX4_sign_15 rfl (lv_at hl 0 rfl) ?_
    refine gt_X4_9 C hin X 1 rfl dX4_sign_16 ?_
    obtain ⟨c2, h⟩ := og h
    refine al_X4_7 C X rfl c2 dX4_sign_19 ?_
    refine lv_goto (tgt := 24) hx hb dX4_sign_20 (by decide) ?_
    have h := so h
    subst h
    exact W.iret hx hb hr (fun t ht _ => ⟨rfl, ht⟩) (fun q h => absurd h List.not_mem_nil) dX4_sign_24

theorem in_X4_wants : ∀ w ∈ wsX40, w ∈ wsX4_wants := by decide +kernel
def fX4_wants (σ : St) (p1 : Int32) : Option (St) := if (σ 10 0) = 0 then (if ((up σ 10 0 0) 10 0) = 0 then (some (up (up σ 10 0 0) 9 0 (((up σ 10 0 0) 9 0) + 0))) else (some (up (up σ 10 0 0) 9 0 (((up σ 10 0 0) 9 0) + 1)))) else ((fX4_sign σ).bind (fun r3 => if r3 = p1 then (if ((up σ 10 0 1) 10 0) = 0 then (some (up (up σ 10 0 1) 9 0 (((up σ 10 0 1) 9 0) + 0))) else (some (up (up σ 10 0 1) 9 0 (((up σ 10 0 1) 9 0) + 1)))) else (if ((up σ 10 0 0) 10 0) = 0 then (some (up (up σ 10 0 0) 9 0 (((up σ 10 0 0) 9 0) + 0))) else (some (up (up σ 10 0 0) 9 0 (((up σ 10 0 0) 9 0) + 1))))))
set_option maxHeartbeats 4000000 in
set_option maxRecDepth 100000 in
theorem kX4_wants (l : Launch) (G : Gx) (b : Nat) (σ : St) (p1 : Int32) (σ' : St) (h : fX4_wants σ p1 = some σ') : Met l yX4_wants wsX4_wants (rmN 1) (pre G [.ref b, .int p1] (mAt G b σ)) (QcW b (b + 7) (mAt G b σ') none) 0 0 (lw_Fr b (b + 7)) := by
  refine Met.ofW (cc := cX4_wants) (maxL := 2) (ret := none) (by decide) rfl ?_
  intro p e s m args below meth c s₁ B hml hv
  obtain ⟨rfl, X, hK⟩ := hv
  have hx := B.exec
  have hb := B.bytes
  have hr := B.returns
  have hts := atoms_spec (ws := wsX4_wants) B.pre
  have hown : s.vm.findClass RX4 = some m.cls := findClass_of_methodNamed B.named
  have hlocks := B.notSynchronized
  have C : Cx p m c cX4_wants 2 s _ wsX4_wants RX4 G := ⟨⟨hx, hb, hml, hown, hts⟩, hK⟩
  have hin : ∀ w ∈ wsX40, w ∈ wsX4_wants := in_X4_wants
  have hS : va_S (lw_Fr b (b + 7)) s.heap s.heap [] := va_S.rf
  have hl := lv_entry ([.ref b, .int p1]) (n := 2) (Nat.le_of_ble_eq_true rfl)
  rw [lg_entry_eq]
  generalize (lg_sl ([.ref b, .int p1]) ++ List.replicate (2 - (lg_sl ([.ref b, .int p1])).length) Slot.unset).toArray = ls at hl ⊢
  have hl : lv_has ls 2 [(0, .ref b), (1, .int p1)] := hl
  unfold fX4_wants at h
  refine lv_aload_n hx hb dX4_wants_0 rfl (lv_at hl 0 rfl) ?_
  refine lv_aload_n hx hb dX4_wants_1 rfl (lv_at hl 0 rfl) ?_
  refine gt_X4_10 C hin X 1 rfl dX4_wants_2 ?_
  refine lv_if_eq (tgt := 20) hx hb dX4_wants_5 (by decide) (fun c1 => ?_) (fun c1 => ?_)
  · have h := ip h c1
    refine lv_iconst (v := 0) hx hb dX4_wants_20 (by decide) ?_
    refine pt_X4_10 C hin X hS 1 rfl rfl (by decide) dX4_wants_21 (fun H locs X hS => ?_)
    refine lv_aload_n hx hb dX4_wants_24 rfl (lv_at hl 0 rfl) ?_
    refine lv_dup hx hb dX4_wants_25 rfl ?_
    refine gt_X4_9 C hin X 2 rfl dX4_wants_26 ?_
    refine lv_aload_n hx hb dX4_wants_29 rfl (lv_at hl 0 rfl) ?_
    refine gt_X4_10 C hin X 1 rfl dX4_wants_30 ?_
    refine lv_if_eq (tgt := 40) hx hb dX4_wants_33 (by decide) (fun c2 => ?_) (fun c2 => ?_)
    · have h := ip h c2
      refine lv_iconst (v := 0) hx hb dX4_wants_40 (by decide) ?_
      refine lv_iadd hx hb dX4_wants_41 ?_
      refine pt_X4_9 C hin X hS 2 rfl dX4_wants_42 (fun H locs X hS => ?_)
      have h := so h
      subst h
      exact W.vret hx hb hr (fun t ht _ => ⟨rfl, by rw [ht]; exact X, hS.F ht⟩) hS.2.2 dX4_wants_45
    · have h := iq h c2
      refine lv_iconst (v := 1) hx hb dX4_wants_36 (by decide) ?_
      refine lv_goto (tgt := 41) hx hb dX4_wants_37 (by decide) ?_
      refine lv_iadd hx hb dX4_wants_41 ?_
      refine pt_X4_9 C hin X hS 2 rfl dX4_wants_42 (fun H locs X hS => ?_)
      have h := so h
      subst h
      exact W.vret hx hb hr (fun t ht _ => ⟨rfl, by rw [ht]; exact X, hS.F ht⟩) hS.2.2 dX4_wants_45
  · have h := iq h c1
    refine lv_aload_n hx hb dX4_wants_8 rfl (lv_at hl 0 rfl) ?_
    obtain ⟨r3, hr3, h⟩ := ob h
    refine rowV (As := []) (rest := [.ref b]) C (kX4_sign l G b σ r3 hr3) (cwV 0 hts gX4_wants_X4_sign rfl rfl rfl (by decide +kernel) ⟨Nat.le_of_ble_eq_true rfl, Nat.le_of_ble_eq_true rfl⟩) (rcv_X4 X hK) X rfl hl.1 rfl (Nat.le_of_ble_eq_true rfl) dX4_wants_9 ⟨Nat.zero_le _, Nat.zero_le _⟩ ?_
    refine lv_iload_n hx hb dX4_wants_12 rfl (lv_at hl 1 rfl) ?_
    refine lv_icmp_ne (tgt := 20) hx hb dX4_wants_13 (by decide) (fun c4 => ?_) (fun c4 => ?_)
    · have h := iq h c4
      refine lv_iconst (v := 0) hx hb dX4_wants_20 (by decide) ?_
      refine pt_X4_10 C hin X hS 1 rfl rfl (by decide) dX4_wants_21 (fun H locs X hS => ?_)
      refine lv_aload_n hx hb dX4_wants_24 rfl (lv_at hl 0 rfl) ?_
      refine lv_dup hx hb dX4_wants_25 rfl ?_
      refine gt_X4_9 C hin X 2 rfl dX4_wants_26 ?_
      refine lv_aload_n hx hb dX4_wants_29 rfl (lv_at hl 0 rfl) ?_
      refine gt_X4_10 C hin X 1 rfl dX4_wants_30 ?_
      refine lv_if_eq (tgt := 40) hx hb dX4_wants_33 (by decide) (fun c5 => ?_) (fun c5 => ?_)
      · have h := ip h c5
        refine lv_iconst (v := 0) hx hb dX4_wants_40 (by decide) ?_
        refine lv_iadd hx hb dX4_wants_41 ?_
        refine pt_X4_9 C hin X hS 2 rfl dX4_wants_42 (fun H locs X hS => ?_)
        have h := so h
        subst h
        exact W.vret hx hb hr (fun t ht _ => ⟨rfl, by rw [ht]; exact X, hS.F ht⟩) hS.2.2 dX4_wants_45
      · have h := iq h c5
        refine lv_iconst (v := 1) hx hb dX4_wants_36 (by decide) ?_
        refine lv_goto (tgt := 41) hx hb dX4_wants_37 (by decide) ?_
        refine lv_iadd hx hb dX4_wants_41 ?_
        refine pt_X4_9 C hin X hS 2 rfl dX4_wants_42 (fun H locs X hS => ?_)
        have h := so h
        subst h
        exact W.vret hx hb hr (fun t ht _ => ⟨rfl, by rw [ht]; exact X, hS.F ht⟩) hS.2.2 dX4_wants_45
    · have h := ip h c4
      refine lv_iconst (v := 1) hx hb dX4_wants_16 (by decide) ?_
      refine lv_goto (tgt := 21) hx hb dX4_wants_17 (by decide) ?_
      refine pt_X4_10 C hin X hS 1 rfl rfl (by decide) dX4_wants_21 (fun H locs X hS => ?_)
      refine lv_aload_n hx hb dX4_wants_24 rfl (lv_at hl 0 rfl) ?_
      refine lv_dup hx hb dX4_wants_25 rfl ?_
      refine gt_X4_9 C hin X 2 rfl dX4_wants_26 ?_
      refine lv_aload_n hx hb dX4_wants_29 rfl (lv_at hl 0 rfl) ?_
      refine gt_X4_10 C hin X 1 rfl dX4_wants_30 ?_
      refine lv_if_eq (tgt := 40) hx hb dX4_wants_33 (by decide) (fun c6 => ?_) (fun c6 => ?_)
      · have h := ip h c6
        refine lv_iconst (v := 0) hx hb dX4_wants_40 (by decide) ?_
        refine lv_iadd hx hb dX4_wants_41 ?_
        refine pt_X4_9 C hin X hS 2 rfl dX4_wants_42 (fun H locs X hS => ?_)
        have h := so h
        subst h
        exact W.vret hx hb hr (fun t ht _ => ⟨rfl, by rw [ht]; exact X, hS.F ht⟩) hS.2.2 dX4_wants_45
      · have h := iq h c6
        refine lv_iconst (v := 1) hx hb dX4_wants_36 (by decide) ?_
        refine lv_goto (tgt := 41) hx hb dX4_wants_37 (by decide) ?_
        refine lv_iadd hx hb dX4_wants_41 ?_
        refine pt_X4_9 C hin X hS 2 rfl dX4_wants_42 (fun H locs X hS => ?_)
        have h := so h
        subst h
        exact W.vret hx hb hr (fun t ht _ => ⟨rfl, by rw [ht]; exact X, hS.F ht⟩) hS.2.2 dX4_wants_45

theorem in_X4_number : ∀ w ∈ wsX40, w ∈ wsX4_number := by decide +kernel
def fX4_number (σ : St) (p1 : Int32) : Option (Int32 × St) := if (σ 10 0) = 0 then ((fX4_sign (up σ 10 0 0)).bind (fun r2 => if ((up σ 10 0 0) 10 0) = 0 then (if ((up (up σ 10 0 0) 9 0 (((up σ 10 0 0) 9 0) + 0)) 10 0) = 0 then (some (r2 - 48, up (up σ 10 0 0) 9 0 (((up σ 10 0 0) 9 0) + 0))) else (if (r2 - 48) ≤ 0 then (some (r2 - 48, up (up σ 10 0 0) 9 0 (((up σ 10 0 0) 9 0) + 0))) else ((fX4_sign (up (up σ 10 0 0) 9 0 (((up σ 10 0 0) 9 0) + 0))).bind (fun r6 => (fX4_in r6 48 57).bind (fun r7 => if r7 = 0 then (some (r2 - 48, up (up σ 10 0 0) 9 0 (((up σ 10 0 0) 9 0) + 0))) else ((fX4_sign (up (up σ 10 0 0) 9 0 (((up σ 10 0 0) 9 0) + 0))).bind (fun r9 => if p1 < (((10 * (r2 - 48)) + r9) - 48) then (some (r2 - 48, up (up σ 10 0 0) 9 0 (((up σ 10 0 0) 9 0) + 0))) else ((fX4_sign (up (up σ 10 0 0) 9 0 (((up σ 10 0 0) 9 0) + 0))).bind (fun r11 => some (((10 * (r2 - 48)) + r11) - 48, up (up (up σ 10 0 0) 9 0 (((up σ 10 0 0) 9 0) + 0)) 9 0 (((up (up σ 10 0 0) 9 0 (((up σ 10 0 0) 9 0) + 0)) 9 0) + 1))))))))))) else (if ((up (up σ 10 0 0) 9 0 (((up σ 10 0 0) 9 0) + 1)) 10 0) = 0 then (some (r2 - 48, up (up σ 10 0 0) 9 0 (((up σ 10 0 0) 9 0) + 1))) else (if (r2 - 48) ≤ 0 then (some (r2 - 48, up (up σ 10 0 0) 9 0 (((up σ 10 0 0) 9 0) + 1))) else ((fX4_sign (up (up σ 10 0 0) 9 0 (((up σ 10 0 0) 9 0) + 1))).bind (fun r14 => (fX4_in r14 48 57).bind (fun r15 => if r15 = 0 then (some (r2 - 48, up (up σ 10 0 0) 9 0 (((up σ 10 0 0) 9 0) + 1))) else ((fX4_sign (up (up σ 10 0 0) 9 0 (((up σ 10 0 0) 9 0) + 1))).bind (fun r17 => if p1 < (((10 * (r2 - 48)) + r17) - 48) then (some (r2 - 48, up (up σ 10 0 0) 9 0 (((up σ 10 0 0) 9 0) + 1))) else ((fX4_sign (up (up σ 10 0 0) 9 0 (((up σ 10 0 0) 9 0) + 1))).bind (fun r19 => some (((10 * (r2 - 48)) + r19) - 48, up (up (up σ 10 0 0) 9 0 (((up σ 10 0 0) 9 0) + 1)) 9 0 (((up (up σ 10 0 0) 9 0 (((up σ 10 0 0) 9 0) + 1)) 9 0) + 1))))))))))))) else ((fX4_sign σ).bind (fun r20 => (fX4_in r20 48 57).bind (fun r21 => if r21 = 0 then ((fX4_sign (up σ 10 0 0)).bind (fun r23 => if ((up σ 10 0 0) 10 0) = 0 then (if ((up (up σ 10 0 0) 9 0 (((up σ 10 0 0) 9 0) + 0)) 10 0) = 0 then (some (r23 - 48, up (up σ 10 0 0) 9 0 (((up σ 10 0 0) 9 0) + 0))) else (if (r23 - 48) ≤ 0 then (some (r23 - 48, up (up σ 10 0 0) 9 0 (((up σ 10 0 0) 9 0) + 0))) else ((fX4_sign (up (up σ 10 0 0) 9 0 (((up σ 10 0 0) 9 0) + 0))).bind (fun r27 => (fX4_in r27 48 57).bind (fun r28 => if r28 = 0 then (some (r23 - 48, up (up σ 10 0 0) 9 0 (((up σ 10 0 0) 9 0) + 0))) else ((fX4_sign (up (up σ 10 0 0) 9 0 (((up σ 10 0 0) 9 0) + 0))).bind (fun r30 => if p1 < (((10 * (r23 - 48)) + r30) - 48) then (some (r23 - 48, up (up σ 10 0 0) 9 0 (((up σ 10 0 0) 9 0) + 0))) else ((fX4_sign (up (up σ 10 0 0) 9 0 (((up σ 10 0 0) 9 0) + 0))).bind (fun r32 => some (((10 * (r23 - 48)) + r32) - 48, up (up (up σ 10 0 0) 9 0 (((up σ 10 0 0) 9 0) + 0)) 9 0 (((up (up σ 10 0 0) 9 0 (((up σ 10 0 0) 9 0) + 0)) 9 0) + 1))))))))))) else (if ((up (up σ 10 0 0) 9 0 (((up σ 10 0 0) 9 0) + 1)) 10 0) = 0 then (some (r23 - 48, up (up σ 10 0 0) 9 0 (((up σ 10 0 0) 9 0) + 1))) else (if (r23 - 48) ≤ 0 then (some (r23 - 48, up (up σ 10 0 0) 9 0 (((up σ 10 0 0) 9 0) + 1))) else ((fX4_sign (up (up σ 10 0 0) 9 0 (((up σ 10 0 0) 9 0) + 1))).bind (fun r35 => (fX4_in r35 48 57).bind (fun r36 => if r36 = 0 then (some (r23 - 48, up (up σ 10 0 0) 9 0 (((up σ 10 0 0) 9 0) + 1))) else ((fX4_sign (up (up σ 10 0 0) 9 0 (((up σ 10 0 0) 9 0) + 1))).bind (fun r38 => if p1 < (((10 * (r23 - 48)) + r38) - 48) then (some (r23 - 48, up (up σ 10 0 0) 9 0 (((up σ 10 0 0) 9 0) + 1))) else ((fX4_sign (up (up σ 10 0 0) 9 0 (((up σ 10 0 0) 9 0) + 1))).bind (fun r40 => some (((10 * (r23 - 48)) + r40) - 48, up (up (up σ 10 0 0) 9 0 (((up σ 10 0 0) 9 0) + 1)) 9 0 (((up (up σ 10 0 0) 9 0 (((up σ 10 0 0) 9 0) + 1)) 9 0) + 1))))))))))))) else ((fX4_sign (up σ 10 0 1)).bind (fun r41 => if ((up σ 10 0 1) 10 0) = 0 then (if ((up (up σ 10 0 1) 9 0 (((up σ 10 0 1) 9 0) + 0)) 10 0) = 0 then (some (r41 - 48, up (up σ 10 0 1) 9 0 (((up σ 10 0 1) 9 0) + 0))) else (if (r41 - 48) ≤ 0 then (some (r41 - 48, up (up σ 10 0 1) 9 0 (((up σ 10 0 1) 9 0) + 0))) else ((fX4_sign (up (up σ 10 0 1) 9 0 (((up σ 10 0 1) 9 0) + 0))).bind (fun r45 => (fX4_in r45 48 57).bind (fun r46 => if r46 = 0 then (some (r41 - 48, up (up σ 10 0 1) 9 0 (((up σ 10 0 1) 9 0) + 0))) else ((fX4_sign (up (up σ 10 0 1) 9 0 (((up σ 10 0 1) 9 0) + 0))).bind (fun r48 => if p1 < (((10 * (r41 - 48)) + r48) - 48) then (some (r41 - 48, up (up σ 10 0 1) 9 0 (((up σ 10 0 1) 9 0) + 0))) else ((fX4_sign (up (up σ 10 0 1) 9 0 (((up σ 10 0 1) 9 0) + 0))).bind (fun r50 => some (((10 * (r41 - 48)) + r50) - 48, up (up (up σ 10 0 1) 9 0 (((up σ 10 0 1) 9 0) + 0)) 9 0 (((up (up σ 10 0 1) 9 0 (((up σ 10 0 1) 9 0) + 0)) 9 0) + 1))))))))))) else (if ((up (up σ 10 0 1) 9 0 (((up σ 10 0 1) 9 0) + 1)) 10 0) = 0 then (some (r41 - 48, up (up σ 10 0 1) 9 0 (((up σ 10 0 1) 9 0) + 1))) else (if (r41 - 48) ≤ 0 then (some (r41 - 48, up (up σ 10 0 1) 9 0 (((up σ 10 0 1) 9 0) + 1))) else ((fX4_sign (up (up σ 10 0 1) 9 0 (((up σ 10 0 1) 9 0) + 1))).bind (fun r53 => (fX4_in r53 48 57).bind (fun r54 => if r54 = 0 then (some (r41 - 48, up (up σ 10 0 1) 9 0 (((up σ 10 0 1) 9 0) + 1))) else ((fX4_sign (up (up σ 10 0 1) 9 0 (((up σ 10 0 1) 9 0) + 1))).bind (fun r56 => if p1 < (((10 * (r41 - 48)) + r56) - 48) then (some (r41 - 48, up (up σ 10 0 1) 9 0 (((up σ 10 0 1) 9 0) + 1))) else ((fX4_sign (up (up σ 10 0 1) 9 0 (((up σ 10 0 1) 9 0) + 1))).bind (fun r58 => some (((10 * (r41 - 48)) + r58) - 48, up (up (up σ 10 0 1) 9 0 (((up σ 10 0 1) 9 0) + 1)) 9 0 (((up (up σ 10 0 1) 9 0 (((up σ 10 0 1) 9 0) + 1)) 9 0) + 1))))))))))))))))
set_option maxHeartbeats 4000000 in
set_option maxRecDepth 100000 in
theorem kX4_number (l : Launch) (G : Gx) (b : Nat) (σ : St) (p1 : Int32) (r : Int32) (σ' : St) (h : fX4_number σ p1 = some (r, σ')) : Met l yX4_number wsX4_number (rmN 1) (pre G [.ref b, .int p1] (mAt G b σ)) (QcW b (b + 7) (mAt G b σ') (some (.int r))) 0 0 (lw_Fr b (b + 7)) := by
  refine Met.ofW (cc := cX4_number) (maxL := 3) (ret := (some .int)) (by decide) rfl ?_
  intro p e s m args below meth c s₁ B hml hv
  obtain ⟨rfl, X, hK⟩ := hv
  have hx := B.exec
  have hb := B.bytes
  have hr := B.returns
  have hts := atoms_spec (ws := wsX4_number) B.pre
  have hown : s.vm.findClass RX4 = some m.cls := findClass_of_methodNamed B.named
  have hlocks := B.notSynchronized
  have C : Cx p m c cX4_number 3 s _ wsX4_number RX4 G := ⟨⟨hx, hb, hml, hown, hts⟩, hK⟩
  have hin : ∀ w ∈ wsX40, w ∈ wsX4_number := in_X4_number
  have hS : va_S (lw_Fr b (b + 7)) s.heap s.heap [] := va_S.rf
  have hl := lv_entry ([.ref b, .int p1]) (n := 3) (Nat.le_of_ble_eq_true rfl)
  rw [lg_entry_eq]
  generalize (lg_sl ([.ref b, .int p1]) ++ List.replicate (3 - (lg_sl ([.ref b, .int p1])).length) Slot.unset).toArray = ls at hl ⊢
  have hl : lv_has ls 3 [(0, .ref b), (1, .int p1)] := hl
  unfold fX4_number at h
  refine lv_aload_n hx hb dX4_number_0 rfl (lv_at hl 0 rfl) ?_
  refine lv_aload_n hx hb dX4_number_1 rfl (lv_at hl 0 rfl) ?_
  refine gt_X4_10 C hin X 1 rfl dX4_number_2 ?_
  refine lv_if_eq (tgt := 26) hx hb dX4_number_5 (by decide) (fun c1 => ?_) (fun c1 => ?_)
  · have h := ip h c1
    refine lv_iconst (v := 0) hx hb dX4_number_26 (by decide) ?_
    refine pt_X4_10 C hin X hS 1 rfl rfl (by decide) dX4_number_27 (fun H locs X hS => ?_)
    refine lv_aload_n hx hb dX4_number_30 rfl (lv_at hl 0 rfl) ?_
    obtain ⟨r2, hr2, h⟩ := ob h
    refine rowV (As := []) (rest := []) C (kX4_sign l G b (up σ 10 0 0) r2 hr2) (cwV 0 hts gX4_number_X4_sign rfl rfl rfl (by decide +kernel) ⟨Nat.le_of_ble_eq_true rfl, Nat.le_of_ble_eq_true rfl⟩) (rcv_X4 X hK) X rfl hl.1 rfl (Nat.le_of_ble_eq_true rfl) dX4_number_31 ⟨Nat.zero_le _, Nat.zero_le _⟩ ?_
    refine lv_bipush (v := 48) hx hb dX4_number_34 (by decide) ?_
    refine lv_isub hx hb dX4_number_36 ?_
    refine lv_istore_n (lv' := [(2, .int (r2 - 48)), (0, .ref b), (1, .int p1)]) hx hb dX4_number_37 rfl hl (by decide) rfl (fun ls hl => ?_)
    refine lv_aload_n hx hb dX4_number_38 rfl (lv_at hl 1 rfl) ?_
    refine lv_dup hx hb dX4_number_39 rfl ?_
    refine gt_X4_9 C hin X 2 rfl dX4_number_40 ?_
    refine lv_aload_n hx hb dX4_number_43 rfl (lv_at hl 1 rfl) ?_
    refine gt_X4_10 C hin X 1 rfl dX4_number_44 ?_
    refine lv_if_eq (tgt := 54) hx hb dX4_number_47 (by decide) (fun c3 => ?_) (fun c3 => ?_)
    · have h := ip h c3
      refine lv_iconst (v := 0) hx hb dX4_number_54 (by decide) ?_
      refine lv_iadd hx hb dX4_number_55 ?_
      refine pt_X4_9 C hin X hS 2 rfl dX4_number_56 (fun H locs X hS => ?_)
      refine lv_aload_n hx hb dX4_number_59 rfl (lv_at hl 1 rfl) ?_
      refine gt_X4_10 C hin X 1 rfl dX4_number_60 ?_
      refine lv_if_eq (tgt := 123) hx hb dX4_number_63 (by decide) (fun c4 => ?_) (fun c4 => ?_)
      · have h := ip h c4
        refine lv_iload_n hx hb dX4_number_123 rfl (lv_at hl 0 rfl) ?_
        obtain ⟨h, h9⟩ := pr h
        subst h
        subst h9
        exact W.iret hx hb hr (fun t ht _ => ⟨rfl, by rw [ht]; exact X, hS.F ht⟩) hS.2.2 dX4_number_124
      · have h := iq h c4
        refine lv_iload_n hx hb dX4_number_66 rfl (lv_at hl 0 rfl) ?_
        refine lv_if_le (tgt := 123) hx hb dX4_number_67 (by decide) (fun c5 => ?_) (fun c5 => ?_)
        · have h := ip h c5
          refine lv_iload_n hx hb dX4_number_123 rfl (lv_at hl 0 rfl) ?_
          obtain ⟨h, h9⟩ := pr h
          subst h
          subst h9
          exact W.iret hx hb hr (fun t ht _ => ⟨rfl, by rw [ht]; exact X, hS.F ht⟩) hS.2.2 dX4_number_124
        · have h := iq h c5
          refine lv_aload_n hx hb dX4_number_70 rfl (lv_at hl 1 rfl) ?_
          obtain ⟨r6, hr6, h⟩ := ob h
          refine rowV (As := []) (rest := []) C (kX4_sign l G b (up (up σ 10 0 0) 9 0 (((up σ 10 0 0) 9 0) + 0)) r6 hr6) (cwV 0 hts gX4_number_X4_sign rfl rfl rfl (by decide +kernel) ⟨Nat.le_of_ble_eq_true rfl, Nat.le_of_ble_eq_true rfl⟩) (rcv_X4 X hK) X rfl hl.1 rfl (Nat.le_of_ble_eq_true rfl) dX4_number_71 ⟨Nat.zero_le _, Nat.zero_le _⟩ ?_
          refine lv_bipush (v := 48) hx hb dX4_number_74 (by decide) ?_
          refine lv_bipush (v := 57) hx hb dX4_number_76 (by decide) ?_
          obtain ⟨r7, hr7, h⟩ := ob h
          refine rowS (As := [.int r6, .int 48, .int 57]) (rest := []) (B := fun _ => True) C (kX4_in l G r6 48 57 r7 hr7) (va_cwS 3 hts gX4_number_X4_in rfl rfl rfl (by decide +kernel) ⟨Nat.le_of_ble_eq_true rfl, Nat.le_of_ble_eq_true rfl⟩) trivial rfl hl.1 rfl (Nat.le_of_ble_eq_true rfl) dX4_number_78 ⟨Nat.zero_le _, Nat.zero_le _⟩ ?_
          refine lv_if_eq (tgt := 123) hx hb dX4_number_81 (by decide) (fun c8 => ?_) (fun c8 => ?_)
          · have h := ip h c8
            refine lv_iload_n hx hb dX4_number_123 rfl (lv_at hl 0 rfl) ?_
            obtain ⟨h, h9⟩ := pr h
            subst h
            subst h9
            exact W.iret hx hb hr (fun t ht _ => ⟨rfl, by rw [ht]; exact X, hS.F ht⟩) hS.2.2 dX4_number_124
          · have h := iq h c8
            refine lv_bipush (v := 10) hx hb dX4_number_84 (by decide) ?_
            refine lv_iload_n hx hb dX4_number_86 rfl (lv_at hl 0 rfl) ?_
            refine lv_imul hx hb dX4_number_87 ?_
            refine lv_aload_n hx hb dX4_number_88 rfl (lv_at hl 1 rfl) ?_
            obtain ⟨r9, hr9, h⟩ := ob h
            refine rowV (As := []) (rest := [.int (10 * (r2 - 48))]) C (kX4_sign l G b (up (up σ 10 0 0) 9 0 (((up σ 10 0 0) 9 0) + 0)) r9 hr9) (cwV 0 hts gX4_number_X4_sign rfl rfl rfl (by decide +kernel) ⟨Nat.le_of_ble_eq_true rfl, Nat.le_of_ble_eq_true rfl⟩) (rcv_X4 X hK) X rfl hl.1 rfl (Nat.le_of_ble_eq_true rfl) dX4_number_89 ⟨Nat.zero_le _, Nat.zero_le _⟩ ?_
            refine lv_iadd hx hb dX4_number_92 ?_
            refine lv_bipush (v := 48) hx hb dX4_number_93 (by decide) ?_
            refine lv_isub hx hb dX4_number_95 ?_
            refine lv_iload_n hx hb dX4_number_96 rfl (lv_at hl 2 rfl) ?_
            refine lv_icmp_gt (tgt := 123) hx hb dX4_number_97 (by decide) (fun c10 => ?_) (fun c10 => ?_)
            · have h := ip h c10
              refine lv_iload_n hx hb dX4_number_123 rfl (lv_at hl 0 rfl) ?_
              obtain ⟨h, h9⟩ := pr h
              subst h
              subst h9
              exact W.iret hx hb hr (fun t ht _ => ⟨rfl, by rw [ht]; exact X, hS.F ht⟩) hS.2.2 dX4_number_124
            · have h := iq h c10
              refine lv_bipush (v := 10) hx hb dX4_number_100 (by decide) ?_
              refine lv_iload_n hx hb dX4_number_102 rfl (lv_at hl 0 rfl) ?_
              refine lv_imul hx hb dX4_number_103 ?_
              refine lv_aload_n hx hb dX4_number_104 rfl (lv_at hl 1 rfl) ?_
              obtain ⟨r11, hr11, h⟩ := ob h
              refine rowV (As := []) (rest := [.int (10 * (r2 - 48))]) C (kX4_sign l G b (up (up σ 10 0 0) 9 0 (((up σ 10 0 0) 9 0) + 0)) r11 hr11) (cwV 0 hts gX4_number_X4_sign rfl rfl rfl (by decide +kernel) ⟨Nat.le_of_ble_eq_true rfl, Nat.le_of_ble_eq_true rfl⟩) (rcv_X4 X hK) X rfl hl.1 rfl (Nat.le_of_ble_eq_true rfl) dX4_number_105 ⟨Nat.zero_le _, Nat.zero_le _⟩ ?_
              refine lv_iadd hx hb dX4_number_108 ?_
              refine lv_bipush (v := 48) hx hb dX4_number_109 (by decide) ?_
              refine lv_isub hx hb dX4_number_111 ?_
              refine lv_istore_n (lv' := [(2, .int (((10 * (r2 - 48)) + r11) - 48)), (0, .ref b), (1, .int p1)]) hx hb dX4_number_112 rfl hl (by decide) rfl (fun ls hl => ?_)
              refine lv_aload_n hx hb dX4_number_113 rfl (lv_at hl 1 rfl) ?_
              refine lv_dup hx hb dX4_number_114 rfl ?_
              refine gt_X4_9 C hin X 2 rfl dX4_number_115 ?_
              refine lv_iconst (v := 1) hx hb dX4_number_118 (by decide) ?_
              refine lv_iadd hx hb dX4_number_119 ?_
              refine pt_X4_9 C hin X hS 2 rfl dX4_number_120 (fun H locs X hS => ?_)
              refine lv_iload_n hx hb dX4_number_123 rfl (lv_at hl 0 rfl) ?_
              obtain ⟨h, h9⟩ := pr h
              subst h
              subst h9
              exact W.iret hx hb hr (fun t ht _ => ⟨rfl, by rw [ht]; exact X, hS.F ht⟩) hS.2.2 dX4_number_124
    · have h := iq h c3
      refine lv_iconst (v := 1) hx hb dX4_number_50 (by decide) ?_
      refine lv_goto (tgt := 55) hx hb dX4_number_51 (by decide) ?_
      refine lv_iadd hx hb dX4_number_55 ?_
      refine pt_X4_9 C hin X hS 2 rfl dX4_number_56 (fun H locs X hS => ?_)
      refine lv_aload_n hx hb dX4_number_59 rfl (lv_at hl 1 rfl) ?_
      refine gt_X4_10 C hin X 1 rfl dX4_number_60 ?_
      refine lv_if_eq (tgt := 123) hx hb dX4_number_63 (by decide) (fun c12 => ?_) (fun c12 => ?_)
      · have h := ip h c12
        refine lv_iload_n hx hb dX4_number_123 rfl (lv_at hl 0 rfl) ?_
        obtain ⟨h, h9⟩ := pr h
        subst h
        subst h9
        exact W.iret hx hb hr (fun t ht _ => ⟨rfl, by rw [ht]; exact X, hS.F ht⟩) hS.2.2 dX4_number_124
      · have h := iq h c12
        refine lv_iload_n hx hb dX4_number_66 rfl (lv_at hl 0 rfl) ?_
        refine lv_if_le (tgt := 123) hx hb dX4_number_67 (by decide) (fun c13 => ?_) (fun c13 => ?_)
        · have h := ip h c13
          refine lv_iload_n hx hb dX4_number_123 rfl (lv_at hl 0 rfl) ?_
          obtain ⟨h, h9⟩ := pr h
          subst h
          subst h9
          exact W.iret hx hb hr (fun t ht _ => ⟨rfl, by rw [ht]; exact X, hS.F ht⟩) hS.2.2 dX4_number_124
        · have h := iq h c13
          refine lv_aload_n hx hb dX4_number_70 rfl (lv_at hl 1 rfl) ?_
          obtain ⟨r14, hr14, h⟩ := ob h
          refine rowV (As := []) (rest := []) C (kX4_sign l G b (up (up σ 10 0 0) 9 0 (((up σ 10 0 0) 9 0) + 1)) r14 hr14) (cwV 0 hts gX4_number_X4_sign rfl rfl rfl (by decide +kernel) ⟨Nat.le_of_ble_eq_true rfl, Nat.le_of_ble_eq_true rfl⟩) (rcv_X4 X hK) X rfl hl.1 rfl (Nat.le_of_ble_eq_true rfl) dX4_number_71 ⟨Nat.zero_le _, Nat.zero_le _⟩ ?_
          refine lv_bipush (v := 48) hx hb dX4_number_74 (by decide) ?_
          refine lv_bipush (v := 57) hx hb dX4_number_76 (by decide) ?_
          obtain ⟨r15, hr15, h⟩ := ob h
          refine rowS (As := [.int r14, .int 48, .int 57]) (rest := []) (B := fun _ => True) C (kX4_in l G r14 48 57 r15 hr15) (va_cwS 3 hts gX4_number_X4_in rfl rfl rfl (by decide +kernel) ⟨Nat.le_of_ble_eq_true rfl, Nat.le_of_ble_eq_true rfl⟩) trivial rfl hl.1 rfl (Nat.le_of_ble_eq_true rfl) dX4_number_78 ⟨Nat.zero_le _, Nat.zero_le _⟩ ?_
          refine lv_if_eq (tgt := 123) hx hb dX4_number_81 (by decide) (fun c16 => ?_) (fun c16 => ?_)
          · have h := ip h c16
            refine lv_iload_n hx hb dX4_number_123 rfl (lv_at hl 0 rfl) ?_
            obtain ⟨h, h9⟩ := pr h
            subst h
            subst h9
            exact W.iret hx hb hr (fun t ht _ => ⟨rfl, by rw [ht]; exact X, hS.F ht⟩) hS.2.2 dX4_number_124
          · have h := iq h c16
            refine lv_bipush (v := 10) hx hb dX4_number_84 (by decide) ?_
            refine lv_iload_n hx hb dX4_number_86 rfl (lv_at hl 0 rfl) ?_
            refine lv_imul hx hb dX4_number_87 ?_
            refine lv_aload_n hx hb dX4_number_88 rfl (lv_at hl 1 rfl) ?_
            obtain ⟨r17, hr17, h⟩ := ob h
            refine rowV (As := []) (rest := [.int (10 * (r2 - 48))]) C (kX4_sign l G b (up (up σ 10 0 0) 9 0 (((up σ 10 0 0) 9 0) + 1)) r17 hr17) (cwV 0 hts gX4_number_X4_sign rfl rfl rfl (by decide +kernel) ⟨Nat.le_of_ble_eq_true rfl, Nat.le_of_ble_eq_true rfl⟩) (rcv_X4 X hK) X rfl hl.1 rfl (Nat.le_of_ble_eq_true rfl) dX4_number_89 ⟨Nat.zero_le _, Nat.zero_le _⟩ ?_
            refine lv_iadd hx hb dX4_number_92 ?_
            refine lv_bipush (v := 48) hx hb dX4_number_93 (by decide) ?_
            refine lv_isub hx hb dX4_number_95 ?_
            refine lv_iload_n hx hb dX4_number_96 rfl (lv_at hl 2 rfl) ?_
            refine lv_icmp_gt (tgt := 123) hx hb dX4_number_97 (by decide) (fun c18 => ?_) (fun c18 => ?_)
            · have h := ip h c18
              refine lv_iload_n hx hb dX4_number_123 rfl (lv_at hl 0 rfl) ?_
              obtain ⟨h, h9⟩ := pr h
              subst h
              subst h9
              exact W.iret hx hb hr (fun t ht _ => ⟨rfl, by rw [ht]; exact X, hS.F ht⟩) hS.2.2 dX4_number_124
            · have h := iq h c18
              refine lv_bipush (v := 10) hx hb dX4_number_100 (by decide) ?_
              refine lv_iload_n hx hb dX4_number_102 rfl (lv_at hl 0 rfl) ?_
              refine lv_imul hx hb dX4_number_103 ?_
              refine lv_aload_n hx hb dX4_number_104 rfl (lv_at hl 1 rfl) ?_
              obtain ⟨r19, hr19, h⟩ := ob h
              refine rowV (As := []) (rest := [.int (10 * (r2 - 48))]) C (kX4_sign l G b (up (up σ 10 0 0) 9 0 (((up σ 10 0 0) 9 0) + 1)) r19 hr19) (cwV 0 hts gX4_number_X4_sign rfl rfl rfl (by decide +kernel) ⟨Nat.le_of_ble_eq_true rfl, Nat.le_of_ble_eq_true rfl⟩) (rcv_X4 X hK) X rfl hl.1 rfl (Nat.le_of_ble_eq_true rfl) dX4_number_105 ⟨Nat.zero_le _, Nat.zero_le _⟩ ?_
              refine lv_iadd hx hb dX4_number_108 ?_
              refine lv_bipush (v := 48) hx hb dX4_number_109 (by decide) ?_
              refine lv_isub hx hb dX4_number_111 ?_
              refine lv_istore_n (lv' := [(2, .int (((10 * (r2 - 48)) + r19) - 48)), (0, .ref b), (1, .int p1)]) hx hb dX4_number_112 rfl hl (by decide) rfl (fun ls hl => ?_)
              refine lv_aload_n hx hb dX4_number_113 rfl (lv_at hl 1 rfl) ?_
              refine lv_dup hx hb dX4_number_114 rfl ?_
              refine gt_X4_9 C hin X 2 rfl dX4_number_115 ?_
              refine lv_iconst (v := 1) hx hb dX4_number_118 (by decide) ?_
              refine lv_iadd hx hb dX4_number_119 ?_
              refine pt_X4_9 C hin X hS 2 rfl dX4_number_120 (fun H locs X hS => ?_)
              refine lv_iload_n hx hb dX4_number_123 rfl (lv_at hl 0 rfl) ?_
              obtain ⟨h, h9⟩ := pr h
              subst h
              subst h9
              exact W.iret hx hb hr (fun t ht _ => ⟨rfl, by rw [ht]; exact X, hS.F ht⟩) hS.2.2 dX4_number_124
  · have h := iq h c1
    refine lv_aload_n hx hb dX4_number_8 rfl (lv_at hl 0 rfl) ?_
    obtain ⟨r20, hr20, h⟩ := ob h
    refine rowV (As := []) (rest := [.ref b]) C (kX4_sign l G b σ r20 hr20) (cwV 0 hts gX4_number_X4_sign rfl rfl rfl (by decide +kernel) ⟨Nat.le_of_ble_eq_true rfl, Nat.le_of_ble_eq_true rfl⟩) (rcv_X4 X hK) X rfl hl.1 rfl (Nat.le_of_ble_eq_true rfl) dX4_number_9 ⟨Nat.zero_le _, Nat.zero_le _⟩ ?_
    refine lv_bipush (v := 48) hx hb dX4_number_12 (by decide) ?_
    refine lv_bipush (v := 57) hx hb dX4_number_14 (by decide) ?_
    obtain ⟨r21, hr21, h⟩ := ob h
    refine rowS (As := [.int r20, .int 48, .int 57]) (rest := [.ref b]) (B := fun _ => True) C (kX4_in l G r20 48 57 r21 hr21) (va_cwS 3 hts gX4_number_X4_in rfl rfl rfl (by decide +kernel) ⟨Nat.le_of_ble_eq_true rfl, Nat.le_of_ble_eq_true rfl⟩) trivial rfl hl.1 rfl (Nat.le_of_ble_eq_true rfl) dX4_number_16 ⟨Nat.zero_le _, Nat.zero_le _⟩ ?_
    refine lv_if_eq (tgt := 26) hx hb dX4_number_19 (by decide) (fun c22 => ?_) (fun c22 => ?_)
    · have h := ip h c22
      refine lv_iconst (v := 0) hx hb dX4_number_26 (by decide) ?_
      refine pt_X4_10 C hin X hS 1 rfl rfl (by decide) dX4_number_27 (fun H locs X hS => ?_)
      refine lv_aload_n hx hb dX4_number_30 rfl (lv_at hl 0 rfl) ?_
      obtain ⟨r23, hr23, h⟩ := ob h
      refine rowV (As := []) (rest := []) C (kX4_sign l G b (up σ 10 0 0) r23 hr23) (cwV 0 hts gX4_number_X4_sign rfl rfl rfl (by decide +kernel) ⟨Nat.le_of_ble_eq_true rfl, Nat.le_of_ble_eq_true rfl⟩) (rcv_X4 X hK) X rfl hl.1 rfl (Nat.le_of_ble_eq_true rfl) dX4_number_31 ⟨Nat.zero_le _, Nat.zero_le _⟩ ?_
      refine lv_bipush (v := 48) hx hb dX4_number_34 (by decide) ?_
      refine lv_isub hx hb dX4_number_36 ?_
      refine lv_istore_n (lv' := [(2, .int (r23 - 48)), (0, .ref b), (1, .int p1)]) hx hb dX4_number_37 rfl hl (by decide) rfl (fun ls hl => ?_)
      refine lv_aload_n hx hb dX4_number_38 rfl (lv_at hl 1 rfl) ?_
      refine lv_dup hx hb dX4_number_39 rfl ?_
      refine gt_X4_9 C hin X 2 rfl dX4_number_40 ?_
      refine lv_aload_n hx hb dX4_number_43 rfl (lv_at hl 1 rfl) ?_
      refine gt_X4_10 C hin X 1 rfl dX4_number_44 ?_
      refine lv_if_eq (tgt := 54) hx hb dX4_number_47 (by decide) (fun c24 => ?_) (fun c24 => ?_)
      · have h := ip h c24
        refine lv_iconst (v := 0) hx hb dX4_number_54 (by decide) ?_
        refine lv_iadd hx hb dX4_number_55 ?_
        refine pt_X4_9 C hin X hS 2 rfl dX4_number_56 (fun H locs X hS => ?_)
        refine lv_aload_n hx hb dX4_number_59 rfl (lv_at hl 1 rfl) ?_
        refine gt_X4_10 C hin X 1 rfl dX4_number_60 ?_
        refine lv_if_eq (tgt := 123) hx hb dX4_number_63 (by decide) (fun c25 => ?_) (fun c25 => ?_)
        · have h := ip h c25
          refine lv_iload_n hx hb dX4_number_123 rfl (lv_at hl 0 rfl) ?_
          obtain ⟨h, h9⟩ := pr h
          subst h
          subst h9
          exact W.iret hx hb hr (fun t ht _ => ⟨rfl, by rw [ht]; exact X, hS.F ht⟩) hS.2.2 dX4_number_124
        · have h := iq h c25
          refine lv_iload_n hx hb dX4_number_66 rfl (lv_at hl 0 rfl) ?_
          refine lv_if_le (tgt := 123) hx hb dX4_number_67 (by decide) (fun c26 => ?_) (fun c26 => ?_)
          · have h := ip h c26
            refine lv_iload_n hx hb dX4_number_123 rfl (lv_at hl 0 rfl) ?_
            obtain ⟨h, h9⟩ := pr h
            subst h
            subst h9
            exact W.iret hx hb hr (fun t ht _ => ⟨rfl, by rw [ht]; exact X, hS.F ht⟩) hS.2.2 dX4_number_124
          · have h := iq h c26
            refine lv_aload_n hx hb dX4_number_70 rfl (lv_at hl 1 rfl) ?_
            obtain ⟨r27, hr27, h⟩ := ob h
            refine rowV (As := []) (rest := []) C (kX4_sign l G b (up (up σ 10 0 0) 9 0 (((up σ 10 0 0) 9 0) + 0)) r27 hr27) (cwV 0 hts gX4_number_X4_sign rfl rfl rfl (by decide +kernel) ⟨Nat.le_of_ble_eq_true rfl, Nat.le_of_ble_eq_true rfl⟩) (rcv_X4 X hK) X rfl hl.1 rfl (Nat.le_of_ble_eq_true rfl) dX4_number_71 ⟨Nat.zero_le _, Nat.zero_le _⟩ ?_
            refine lv_bipush (v := 48) hx hb dX4_number_74 (by decide) ?_
            refine lv_bipush (v := 57) hx hb dX4_number_76 (by decide) ?_
            obtain ⟨r28, hr28, h⟩ := ob h
            refine rowS (As := [.int r27, .int 48, .int 57]) (rest := []) (B := fun _ => True) C (kX4_in l G r27 48 57 r28 hr28) (va_cwS 3 hts gX4_number_X4_in rfl rfl rfl (by decide +kernel) ⟨Nat.le_of_ble_eq_true rfl, Nat.le_of_ble_eq_true rfl⟩) trivial rfl hl.1 rfl (Nat.le_of_ble_eq_true rfl) dX4_number_78 ⟨Nat.zero_le _, Nat.zero_le _⟩ ?_
            refine lv_if_eq (tgt := 123) hx hb dX4_number_81 (by decide) (fun c29 => ?_) (fun c29 => ?_)
            · have h := ip h c29
              refine lv_iload_n hx hb dX4_number_123 rfl (lv_at hl 0 rfl) ?_
              obtain ⟨h, h9⟩ := pr h
              subst h
              subst h9
              exact W.iret hx hb hr (fun t ht _ => ⟨rfl, by rw [ht]; exact X, hS.F ht⟩) hS.2.2 dX4_number_124
            · have h := iq h c29
              refine lv_bipush (v := 10) hx hb dX4_number_84 (by decide) ?_
              refine lv_iload_n hx hb dX4_number_86 rfl (lv_at hl 0 rfl) ?_
              refine lv_imul hx hb dX4_number_87 ?_
              refine lv_aload_n hx hb dX4_number_88 rfl (lv_at hl 1 rfl) ?_
              obtain ⟨r30, hr30, h⟩ := ob h
              refine rowV (As := []) (rest := [.int (10 * (r23 - 48))]) C (kX4_sign l G b (up (up σ 10 0 0) 9 0 (((up σ 10 0 0) 9 0) + 0)) r30 hr30) (cwV 0 hts gX4_number_X4_sign rfl rfl rfl (by decide +kernel) ⟨Nat.le_of_ble_eq_true rfl, Nat.le_of_ble_eq_true rfl⟩) (rcv_X4 X hK) X rfl hl.1 rfl (Nat.le_of_ble_eq_true rfl) dX4_number_89 ⟨Nat.zero_le _, Nat.zero_le _⟩ ?_
              refine lv_iadd hx hb dX4_number_92 ?_
              refine lv_bipush (v := 48) hx hb dX4_number_93 (by decide) ?_
              refine lv_isub hx hb dX4_number_95 ?_
              refine lv_iload_n hx hb dX4_number_96 rfl (lv_at hl 2 rfl) ?_
              refine lv_icmp_gt (tgt := 123) hx hb dX4_number_97 (by decide) (fun c31 => ?_) (fun c31 => ?_)
              · have h := ip h c31
                refine lv_iload_n hx hb dX4_number_123 rfl (lv_at hl 0 rfl) ?_
                obtain ⟨h, h9⟩ := pr h
                subst h
                subst h9
                exact W.iret hx hb hr (fun t ht _ => ⟨rfl, by rw [ht]; exact X, hS.F ht⟩) hS.2.2 dX4_number_124
              · have h := iq h c31
                refine lv_bipush (v := 10) hx hb dX4_number_100 (by decide) ?_
                refine lv_iload_n hx hb dX4_number_102 rfl (lv_at hl 0 rfl) ?_
                refine lv_imul hx hb dX4_number_103 ?_
                refine lv_aload_n hx hb dX4_number_104 rfl (lv_at hl 1 rfl) ?_
                obtain ⟨r32, hr32, h⟩ := ob h
                refine rowV (As := []) (rest := [.int (10 * (r23 - 48))]) C (kX4_sign l G b (up (up σ 10 0 0) 9 0 (((up σ 10 0 0) 9 0) + 0)) r32 hr32) (cwV 0 hts gX4_number_X4_sign rfl rfl rfl (by decide +kernel) ⟨Nat.le_of_ble_eq_true rfl, Nat.le_of_ble_eq_true rfl⟩) (rcv_X4 X hK) X rfl hl.1 rfl (Nat.le_of_ble_eq_true rfl) dX4_number_105 ⟨Nat.zero_le _, Nat.zero_le _⟩ ?_
                refine lv_iadd hx hb dX4_number_108 ?_
                refine lv_bipush (v := 48) hx hb dX4_number_109 (by decide) ?_
                refine lv_isub hx hb dX4_number_111 ?_
                refine lv_istore_n (lv' := [(2, .int (((10 * (r23 - 48)) + r32) - 48)), (0, .ref b), (1, .int p1)]) hx hb dX4_number_112 rfl hl (by decide) rfl (fun ls hl => ?_)
                refine lv_aload_n hx hb dX4_number_113 rfl (lv_at hl 1 rfl) ?_
                refine lv_dup hx hb dX4_number_114 rfl ?_
                refine gt_X4_9 C hin X 2 rfl dX4_number_115 ?_
                refine lv_iconst (v := 1) hx hb dX4_number_118 (by decide) ?_
                refine lv_iadd hx hb dX4_number_119 ?_
                refine pt_X4_9 C hin X hS 2 rfl dX4_number_120 (fun H locs X hS => ?_)
                refine lv_iload_n hx hb dX4_number_123 rfl (lv_at hl 0 rfl) ?_
                obtain ⟨h, h9⟩ := pr h
                subst h
                subst h9
                exact W.iret hx hb hr (fun t ht _ => ⟨rfl, by rw [ht]; exact X, hS.F ht⟩) hS.2.2 dX4_number_124
      · have h := iq h c24
        refine lv_iconst (v := 1) hx hb dX4_number_50 (by decide) ?_
        refine lv_goto (tgt := 55) hx hb dX4_number_51 (by decide) ?_
        refine lv_iadd hx hb dX4_number_55 ?_
        refine pt_X4_9 C hin X hS 2 rfl dX4_number_56 (fun H locs X hS => ?_)
        refine lv_aload_n hx hb dX4_number_59 rfl (lv_at hl 1 rfl) ?_
        refine gt_X4_10 C hin X 1 rfl dX4_number_60 ?_
        refine lv_if_eq (tgt := 123) hx hb dX4_number_63 (by decide) (fun c33 => ?_) (fun c33 => ?_)
        · have h := ip h c33
          refine lv_iload_n hx hb dX4_number_123 rfl (lv_at hl 0 rfl) ?_
          obtain ⟨h, h9⟩ := pr h
          subst h
          subst h9
          exact W.iret hx hb hr (fun t ht _ => ⟨rfl, by rw [ht]; exact X, hS.F ht⟩) hS.2.2 dX4_number_124
        · have h := iq h c33
          refine lv_iload_n hx hb dX4_number_66 rfl (lv_at hl 0 rfl) ?_
          refine lv_if_le (tgt := 123) hx hb dX4_number_67 (by decide) (fun c34 => ?_) (fun c34 => ?_)
          · have h := ip h c34
            refine lv_iload_n hx hb dX4_number_123 rfl (lv_at hl 0 rfl) ?_
            obtain ⟨h, h9⟩ := pr h
            subst h
            subst h9
            exact W.iret hx hb hr (fun t ht _ => ⟨rfl, by rw [ht]; exact X, hS.F ht⟩) hS.2.2 dX4_number_124
          · have h := iq h c34
            refine lv_aload_n hx hb dX4_number_70 rfl (lv_at hl 1 rfl) ?_
            obtain ⟨r35, hr35, h⟩ := ob h
            refine rowV (As := []) (rest := []) C (kX4_sign l G b (up (up σ 10 0 0) 9 0 (((up σ 10 0 0) 9 0) + 1)) r35 hr35) (cwV 0 hts gX4_number_X4_sign rfl rfl rfl (by decide +kernel) ⟨Nat.le_of_ble_eq_true rfl, Nat.le_of_ble_eq_true rfl⟩) (rcv_X4 X hK) X rfl hl.1 rfl (Nat.le_of_ble_eq_true rfl) dX4_number_71 ⟨Nat.zero_le _, Nat.zero_le _⟩ ?_
            refine lv_bipush (v := 48) hx hb dX4_number_74 (by decide) ?_
            refine lv_bipush (v := 57) hx hb dX4_number_76 (by decide) ?_
            obtain ⟨r36, hr36, h⟩ := ob h
            refine rowS (As := [.int r35, .int 48, .int 57]) (rest := []) (B := fun _ => True) C (kX4_in l G r35 48 57 r36 hr36) (va_cwS 3 hts gX4_number_X4_in rfl rfl rfl (by decide +kernel) ⟨Nat.le_of_ble_eq_true rfl, Nat.le_of_ble_eq_true rfl⟩) trivial rfl hl.1 rfl (Nat.le_of_ble_eq_true rfl) dX4_number_78 ⟨Nat.zero_le _, Nat.zero_le _⟩ ?_
            refine lv_if_eq (tgt := 123) hx hb dX4_number_81 (by decide) (fun c37 => ?_) (fun c37 => ?_)
            · have h := ip h c37
              refine lv_iload_n hx hb dX4_number_123 rfl (lv_at hl 0 rfl) ?_
              obtain ⟨h, h9⟩ := pr h
              subst h
              subst h9
              exact W.iret hx hb hr (fun t ht _ => ⟨rfl, by rw [ht]; exact X, hS.F ht⟩) hS.2.2 dX4_number_124
            · have h := iq h c37
              refine lv_bipush (v := 10) hx hb dX4_number_84 (by decide) ?_
              refine lv_iload_n hx hb dX4_number_86 rfl (lv_at hl 0 rfl) ?_
              refine lv_imul hx hb dX4_number_87 ?_
              refine lv_aload_n hx hb dX4_number_88 rfl (lv_at hl 1 rfl) ?_
              obtain ⟨r38, hr38, h⟩ := ob h
              refine rowV (As := []) (rest := [.int (10 * (r23 - 48))]) C (kX4_sign l G b (up (up σ 10 0 0) 9 0 (((up σ 10 0 0) 9 0) + 1)) r38 hr38) (cwV 0 hts gX4_number_X4_sign rfl rfl rfl (by decide +kernel) ⟨Nat.le_of_ble_eq_true rfl, Nat.le_of_ble_eq_true rfl⟩) (rcv_X4 X hK) X rfl hl.1 rfl (Nat.le_of_ble_eq_true rfl) dX4_number_89 ⟨Nat.zero_le _, Nat.zero_le _⟩ ?_
              refine lv_iadd hx hb dX4_number_92 ?_
              refine lv_bipush (v := 48) hx hb dX4_number_93 (by decide) ?_
              refine lv_isub hx hb dX4_number_95 ?_
              refine lv_iload_n hx hb dX4_number_96 rfl (lv_at hl 2 rfl) ?_
              refine lv_icmp_gt (tgt := 123) hx hb dX4_number_97 (by decide) (fun c39 => ?_) (fun c39 => ?_)
              · have h := ip h c39
                refine lv_iload_n hx hb dX4_number_123 rfl (lv_at hl 0 rfl) ?_
                obtain ⟨h, h9⟩ := pr h
                subst h
                subst h9
                exact W.iret hx hb hr (fun t ht _ => ⟨rfl, by rw [ht]; exact X, hS.F ht⟩) hS.2.2 dX4_number_124
              · have h := iq h c39
                refine lv_bipush (v := 10) hx hb dX4_number_100 (by decide) ?_
                refine lv_iload_n hx hb dX4_number_102 rfl (lv_at hl 0 rfl) ?_
                refine lv_imul hx hb dX4_number_103 ?_
                refine lv_aload_n hx hb dX4_number_104 rfl (lv_at hl 1 rfl) ?_
                obtain ⟨r40, hr40, h⟩ := ob h
                refine rowV (As := []) (rest := [.int (10 * (r23 - 48))]) C (kX4_sign l G b (up (up σ 10 0 0) 9 0 (((up σ 10 0 0) 9 0) + 1)) r40 hr40) (cwV 0 hts gX4_number_X4_sign rfl rfl rfl (by decide +kernel) ⟨Nat.le_of_ble_eq_true rfl, Nat.le_of_ble_eq_true rfl⟩) (rcv_X4 X hK) X rfl hl.1 rfl (Nat.le_of_ble_eq_true rfl) dX4_number_105 ⟨Nat.zero_le _, Nat.zero_le _⟩ ?_
                refine lv_iadd hx hb dX4_number_108 ?_
                refine lv_bipush (v := 48) hx hb dX4_number_109 (by decide) ?_
                refine lv_isub hx hb dX4_number_111 ?_
                refine lv_istore_n (lv' := [(2, .int (((10 * (r23 - 48)) + r40) - 48)), (0, .ref b), (1, .int p1)]) hx hb dX4_number_112 rfl hl (by decide) rfl (fun ls hl => ?_)
                refine lv_aload_n hx hb dX4_number_113 rfl (lv_at hl 1 rfl) ?_
                refine lv_dup hx hb dX4_number_114 rfl ?_
                refine gt_X4_9 C hin X 2 rfl dX4_number_115 ?_
                refine lv_iconst (v := 1) hx hb dX4_number_118 (by decide) ?_
                refine lv_iadd hx hb dX4_number_119 ?_
                refine pt_X4_9 C hin X hS 2 rfl dX4_number_120 (fun H locs X hS => ?_)
                refine lv_iload_n hx hb dX4_number_123 rfl (lv_at hl 0 rfl) ?_
                obtain ⟨h, h9⟩ := pr h
                subst h
                subst h9
                exact W.iret hx hb hr (fun t ht _ => ⟨rfl, by rw [ht]; exact X, hS.F ht⟩) hS.2.2 dX4_number_124
    · have h := iq h c22
      refine lv_iconst (v := 1) hx hb dX4_number_22 (by decide) ?_
      refine lv_goto (tgt := 27) hx hb dX4_number_23 (by decide) ?_
      refine pt_X4_10 C hin X hS 1 rfl rfl (by decide) dX4_number_27 (fun H locs X hS => ?_)
      refine lv_aload_n hx hb dX4_number_30 rfl (lv_at hl 0 rfl) ?_
      obtain ⟨r41, hr41, h⟩ := ob h
      refine rowV (As := []) (rest := []) C (kX4_sign l G b (up σ 10 0 1) r41 hr41) (cwV 0 hts gX4_number_X4_sign rfl rfl rfl (by decide +kernel) ⟨Nat.le_of_ble_eq_true rfl, Nat.le_of_ble_eq_true rfl⟩) (rcv_X4 X hK) X rfl hl.1 rfl (Nat.le_of_ble_eq_true rfl) dX4_number_31 ⟨Nat.zero_le _, Nat.zero_le _⟩ ?_
      refine lv_bipush (v := 48) hx hb dX4_number_34 (by decide) ?_
      refine lv_isub hx hb dX4_number_36 ?_
      refine lv_istore_n (lv' := [(2, .int (r41 - 48)), (0, .ref b), (1, .int p1)]) hx hb dX4_number_37 rfl hl (by decide) rfl (fun ls hl => ?_)
      refine lv_aload_n hx hb dX4_number_38 rfl (lv_at hl 1 rfl) ?_
      refine lv_dup hx hb dX4_number_39 rfl ?_
      refine gt_X4_9 C hin X 2 rfl dX4_number_40 ?_
      refine lv_aload_n hx hb dX4_number_43 rfl (lv_at hl 1 rfl) ?_
      refine gt_X4_10 C hin X 1 rfl dX4_number_44 ?_
      refine lv_if_eq (tgt := 54) hx hb dX4_number_47 (by decide) (fun c42 => ?_) (fun c42 => ?_)
      · have h := ip h c42
        refine lv_iconst (v := 0) hx hb dX4_number_54 (by decide) ?_
        refine lv_iadd hx hb dX4_number_55 ?_
        refine pt_X4_9 C hin X hS 2 rfl dX4_number_56 (fun H locs X hS => ?_)
        refine lv_aload_n hx hb dX4_number_59 rfl (lv_at hl 1 rfl) ?_
        refine gt_X4_10 C hin X 1 rfl dX4_number_60 ?_
        refine lv_if_eq (tgt := 123) hx hb dX4_number_63 (by decide) (fun c43 => ?_) (fun c43 => ?_)
        · have h := ip h c43
          refine lv_iload_n hx hb dX4_number_123 rfl (lv_at hl 0 rfl) ?_
          obtain ⟨h, h9⟩ := pr h
          subst h
          subst h9
          exact W.iret hx hb hr (fun t ht _ => ⟨rfl, by rw [ht]; exact X, hS.F ht⟩) hS.2.2 dX4_number_124
        · have h := iq h c43
          refine lv_iload_n hx hb dX4_number_66 rfl (lv_at hl 0 rfl) ?_
          refine lv_if_le (tgt := 123) hx hb dX4_number_67 (by decide) (fun c44 => ?_) (fun c44 => ?_)
          · have h := ip h c44
            refine lv_iload_n hx hb dX4_number_123 rfl (lv_at hl 0 rfl) ?_
            obtain ⟨h, h9⟩ := pr h
            subst h
            subst h9
            exact W.iret hx hb hr (fun t ht _ => ⟨rfl, by rw [ht]; exact X, hS.F ht⟩) hS.2.2 dX4_number_124
          · have h := iq h c44
            refine lv_aload_n hx hb dX4_number_70 rfl (lv_at hl 1 rfl) ?_
            obtain ⟨r45, hr45, h⟩ := ob h
            refine rowV (As := []) (rest := []) C (kX4_sign l G b (up (up σ 10 0 1) 9 0 (((up σ 10 0 1) 9 0) + 0)) r45 hr45) (cwV 0 hts gX4_number_X4_sign rfl rfl rfl (by decide +kernel) ⟨Nat.le_of_ble_eq_true rfl, Nat.le_of_ble_eq_true rfl⟩) (rcv_X4 X hK) X rfl hl.1 rfl (Nat.le_of_ble_eq_true rfl) dX4_number_71 ⟨Nat.zero_le _, Nat.zero_le _⟩ ?_
            refine lv_bipush (v := 48) hx hb dX4_number_74 (by decide) ?_
            refine lv_bipush (v := 57) hx hb dX4_number_76 (by decide) ?_
            obtain ⟨r46, hr46, h⟩ := ob h
            refine rowS (As := [.int r45, .int 48, .int 57]) (rest := []) (B := fun _ => True) C (kX4_in l G r45 48 57 r46 hr46) (va_cwS 3 hts gX4_number_X4_in rfl rfl rfl (by decide +kernel) ⟨Nat.le_of_ble_eq_true rfl, Nat.le_of_ble_eq_true rfl⟩) trivial rfl hl.1 rfl (Nat.le_of_ble_eq_true rfl) dX4_number_78 ⟨Nat.zero_le _, Nat.zero_le _⟩ ?_
            refine lv_if_eq (tgt := 123) hx hb dX4_number_81 (by decide) (fun c47 => ?_) (fun c47 => ?_)
            · have h := ip h c47
              refine lv_iload_n hx hb dX4_number_123 rfl (lv_at hl 0 rfl) ?_
              obtain ⟨h, h9⟩ := pr h
              subst h
              subst h9
              exact W.iret hx hb hr (fun t ht _ => ⟨rfl, by rw [ht]; exact X, hS.F ht⟩) hS.2.2 dX4_number_124
            · have h := iq h c47
              refine lv_bipush (v := 10) hx hb dX4_number_84 (by decide) ?_
              refine lv_iload_n hx hb dX4_number_86 rfl (lv_at hl 0 rfl) ?_
              refine lv_imul hx hb dX4_number_87 ?_
              refine lv_aload_n hx hb dX4_number_88 rfl (lv_at hl 1 rfl) ?_
              obtain ⟨r48, hr48, h⟩ := ob h
              refine rowV (As := []) (rest := [.int (10 * (r41 - 48))]) C (kX4_sign l G b (up (up σ 10 0 1) 9 0 (((up σ 10 0 1) 9 0) + 0)) r48 hr48) (cwV 0 hts gX4_number_X4_sign rfl rfl rfl (by decide +kernel) ⟨Nat.le_of_ble_eq_true rfl, Nat.le_of_ble_eq_true rfl⟩) (rcv_X4 X hK) X rfl hl.1 rfl (Nat.le_of_ble_eq_true rfl) dX4_number_89 ⟨Nat.zero_le _, Nat.zero_le _⟩ ?_
              refine lv_iadd hx hb dX4_number_92 ?_
              refine lv_bipush (v := 48) hx hb dX4_number_93 (by decide) ?_
              refine lv_isub hx hb dX4_number_95 ?_
              refine lv_iload_n hx hb dX4_number_96 rfl (lv_at hl 2 rfl) ?_
              refine lv_icmp_gt (tgt := 123) hx hb dX4_number_97 (by decide) (fun c49 => ?_) (fun c49 => ?_)
              · have h := ip h c49
                refine lv_iload_n hx hb dX4_number_123 rfl (lv_at hl 0 rfl) ?_
                obtain ⟨h, h9⟩ := pr h
                subst h
                subst h9
                exact W.iret hx hb hr (fun t ht _ => ⟨rfl, by rw [ht]; exact X, hS.F ht⟩) hS.2.2 dX4_number_124
              · have h := iq h c49
                refine lv_bipush (v := 10) hx hb dX4_number_100 (by decide) ?_
                refine lv_iload_n hx hb dX4_number_102 rfl (lv_at hl 0 rfl) ?_
                refine lv_imul hx hb dX4_number_103 ?_
                refine lv_aload_n hx hb dX4_number_104 rfl (lv_at hl 1 rfl) ?_
                obtain ⟨r50, hr50, h⟩ := ob h
                refine rowV (As := []) (rest := [.int (10 * (r41 - 48))]) C (kX4_sign l G b (up (up σ 10 0 1) 9 0 (((up σ 10 0 1) 9 0) + 0)) r50 hr50) (cwV 0 hts gX4_number_X4_sign rfl rfl rfl (by decide +kernel) ⟨Nat.le_of_ble_eq_true rfl, Nat.le_of_ble_eq_true rfl⟩) (rcv_X4 X hK) X rfl hl.1 rfl (Nat.le_of_ble_eq_true rfl) dX4_number_105 ⟨Nat.zero_le _, Nat.zero_le _⟩ ?_
                refine lv_iadd hx hb dX4_number_108 ?_
                refine lv_bipush (v := 48) hx hb dX4_number_109 (by decide) ?_
                refine lv_isub hx hb dX4_number_111 ?_
                refine lv_istore_n (lv' := [(2, .int (((10 * (r41 - 48)) + r50) - 48)), (0, .ref b), (1, .int p1)]) hx hb dX4_number_112 rfl hl (by decide) rfl (fun ls hl => ?_)
                refine lv_aload_n hx hb dX4_number_113 rfl (lv_at hl 1 rfl) ?_
                refine lv_dup hx hb dX4_number_114 rfl ?_
                refine gt_X4_9 C hin X 2 rfl dX4_number_115 ?_
                refine lv_iconst (v := 1) hx hb dX4_number_118 (by decide) ?_
                refine lv_iadd hx hb dX4_number_119 ?_
                refine pt_X4_9 C hin X hS 2 rfl dX4_number_120 (fun H locs X hS => ?_)
                refine lv_iload_n hx hb dX4_number_123 rfl (lv_at hl 0 rfl) ?_
                obtain ⟨h, h9⟩ := pr h
                subst h
                subst h9
                exact W.iret hx hb hr (fun t ht _ => ⟨rfl, by rw [ht]; exact X, hS.F ht⟩) hS.2.2 dX4_number_124
      · have h := iq h c42
        refine lv_iconst (v := 1) hx hb dX4_number_50 (by decide) ?_
        refine lv_goto (tgt := 55) hx hb dX4_number_51 (by decide) ?_
        refine lv_iadd hx hb dX4_number_55 ?_
        refine pt_X4_9 C hin X hS 2 rfl dX4_number_56 (fun H locs X hS => ?_)
        refine lv_aload_n hx hb dX4_number_59 rfl (lv_at hl 1 rfl) ?_
        refine gt_X4_10 C hin X 1 rfl dX4_number_60 ?_
        refine lv_if_eq (tgt := 123) hx hb dX4_number_63 (by decide) (fun c51 => ?_) (fun c51 => ?_)
        · have h := ip h c51
          refine lv_iload_n hx hb dX4_number_123 rfl (lv_at hl 0 rfl) ?_
          obtain ⟨h, h9⟩ := pr h
          subst h
          subst h9
          exact W.iret hx hb hr (fun t ht _ => ⟨rfl, by rw [ht]; exact X, hS.F ht⟩) hS.2.2 dX4_number_124
        · have h := iq h c51
          refine lv_iload_n hx hb dX4_number_66 rfl (lv_at hl 0 rfl) ?_
          refine lv_if_le (tgt := 123) hx hb dX4_number_67 (by decide) (fun c52 => ?_) (fun c52 => ?_)
          · have h := ip h c52
            refine lv_iload_n hx hb dX4_number_123 rfl (lv_at hl 0 rfl) ?_
            obtain ⟨h, h9⟩ := pr h
            subst h
            subst h9
            exact W.iret hx hb hr (fun t ht _ => ⟨rfl, by rw [ht]; exact X, hS.F ht⟩) hS.2.2 dX4_number_124
          · have h := iq h c52
            refine lv_aload_n hx hb dX4_number_70 rfl (lv_at hl 1 rfl) ?_
            obtain ⟨r53, hr53, h⟩ := ob h
            refine rowV (As := []) (rest := []) C (kX4_sign l G b (up (up σ 10 0 1) 9 0 (((up σ 10 0 1) 9 0) + 1)) r53 hr53) (cwV 0 hts gX4_number_X4_sign rfl rfl rfl (by decide +kernel) ⟨Nat.le_of_ble_eq_true rfl, Nat.le_of_ble_eq_true rfl⟩) (rcv_X4 X hK) X rfl hl.1 rfl (Nat.le_of_ble_eq_true rfl) dX4_number_71 ⟨Nat.zero_le _, Nat.zero_le _⟩ ?_
            refine lv_bipush (v := 48) hx hb dX4_number_74 (by decide) ?_
            refine lv_bipush (v := 57) hx hb dX4_number_76 (by decide) ?_
            obtain ⟨r54, hr54, h⟩ := ob h
            refine rowS (As := [.int r53, .int 48, .int 57]) (rest := []) (B := fun _ => True) C (kX4_in l G r53 48 57 r54 hr54) (va_cwS 3 hts gX4_number_X4_in rfl rfl rfl (by decide +kernel) ⟨Nat.le_of_ble_eq_true rfl, Nat.le_of_ble_eq_true rfl⟩) trivial rfl hl.1 rfl (Nat.le_of_ble_eq_true rfl) dX4_number_78 ⟨Nat.zero_le _, Nat.zero_le _⟩ ?_
            refine lv_if_eq (tgt := 123) hx hb dX4_number_81 (by decide) (fun c55 => ?_) (fun c55 => ?_)
            · have h := ip h c55
              refine lv_iload_n hx hb dX4_number_123 rfl (lv_at hl 0 rfl) ?_
              obtain ⟨h, h9⟩ := pr h
              subst h
              subst h9
              exact W.iret hx hb hr (fun t ht _ => ⟨rfl, by rw [ht]; exact X, hS.F ht⟩) hS.2.2 dX4_number_124
            · have h := iq h c55
              refine lv_bipush (v := 10) hx hb dX4_number_84 (by decide) ?_
              refine lv_iload_n hx hb dX4_number_86 rfl (lv_at hl 0 rfl) ?_
              refine lv_imul hx hb dX4_number_87 ?_
              refine lv_aload_n hx hb dX4_number_88 rfl (lv_at hl 1 rfl) ?_
              obtain ⟨r56, hr56, h⟩ := ob h
              refine rowV (As := []) (rest := [.int (10 * (r41 - 48))]) C (kX4_sign l G b (up (up σ 10 0 1) 9 0 (((up σ 10 0 1) 9 0) + 1)) r56 hr56) (cwV 0 hts gX4_number_X4_sign rfl rfl rfl (by decide +kernel) ⟨Nat.le_of_ble_eq_true rfl, Nat.le_of_ble_eq_true rfl⟩) (rcv_X4 X hK) X rfl hl.1 rfl (Nat.le_of_ble_eq_true rfl) dX4_number_89 ⟨Nat.zero_le _, Nat.zero_le _⟩ ?_
              refine lv_iadd hx hb dX4_number_92 ?_
              refine lv_bipush (v := 48) hx hb dX4_number_93 (by decide) ?_
              refine lv_isub hx hb dX4_number_95 ?_
              refine lv_iload_n hx hb dX4_number_96 rfl (lv_at hl 2 rfl) ?_
              refine lv_icmp_gt (tgt := 123) hx hb dX4_number_97 (by decide) (fun c57 => ?_) (fun c57 => ?_)
              · have h := ip h c57
                refine lv_iload_n hx hb dX4_number_123 rfl (lv_at hl 0 rfl) ?_
                obtain ⟨h, h9⟩ := pr h
                subst h
                subst h9
                exact W.iret hx hb hr (fun t ht _ => ⟨rfl, by rw [ht]; exact X, hS.F ht⟩) hS.2.2 dX4_number_124
              · have h := iq h c57
                refine lv_bipush (v := 10) hx hb dX4_number_100 (by decide) ?_
                refine lv_iload_n hx hb dX4_number_102 rfl (lv_at hl 0 rfl) ?_
                refine lv_imul hx hb dX4_number_103 ?_
                refine lv_aload_n hx hb dX4_number_104 rfl (lv_at hl 1 rfl) ?_
                obtain ⟨r58, hr58, h⟩ := ob h
                refine rowV (As := []) (rest := [.int (10 * (r41 - 48))]) C (kX4_sign l G b (up (up σ 10 0 1) 9 0 (((up σ 10 0 1) 9 0) + 1)) r58 hr58) (cwV 0 hts gX4_number_X4_sign rfl rfl rfl (by decide +kernel) ⟨Nat.le_of_ble_eq_true rfl, Nat.le_of_ble_eq_true rfl⟩) (rcv_X4 X hK) X rfl hl.1 rfl (Nat.le_of_ble_eq_true rfl) dX4_number_105 ⟨Nat.zero_le _, Nat.zero_le _⟩ ?_
                refine lv_iadd hx hb dX4_number_108 ?_
                refine lv_bipush (v := 48) hx hb dX4_number_109 (by decide) ?_
                refine lv_isub hx hb dX4_number_111 ?_
                refine lv_istore_n (lv' := [(2, .int (((10 * (r41 - 48)) + r58) - 48)), (0, .ref b), (1, .int p1)]) hx hb dX4_number_112 rfl hl (by decide) rfl (fun ls hl => ?_)
                refine lv_aload_n hx hb dX4_number_113 rfl (lv_at hl 1 rfl) ?_
                refine lv_dup hx hb dX4_number_114 rfl ?_
                refine gt_X4_9 C hin X 2 rfl dX4_number_115 ?_
                refine lv_iconst (v := 1) hx hb dX4_number_118 (by decide) ?_
                refine lv_iadd hx hb dX4_number_119 ?_
                refine pt_X4_9 C hin X hS 2 rfl dX4_number_120 (fun H locs X hS => ?_)
                refine lv_iload_n hx hb dX4_number_123 rfl (lv_at hl 0 rfl) ?_
                obtain ⟨h, h9⟩ := pr h
                subst h
                subst h9
                exact W.iret hx hb hr (fun t ht _ => ⟨rfl, by rw [ht]; exact X, hS.F ht⟩) hS.2.2 dX4_number_124

theorem in_X4_readsCart : ∀ w ∈ wsX40, w ∈ wsX4_readsCart := by decide +kernel
def fX4_readsCart (σ : St) (p1 : Int32) : Option (St) := (fX4_number σ 99).bind (fun q3 => if oob (p1 + 1) 96 then none else (fX4_wants (up q3.2 11 (p1 + 1).toNatClampNeg q3.1) 47).bind (fun σ6 => (fX4_number σ6 99).bind (fun q9 => if oob (p1 + 2) 96 then none else if oob (p1 + 3) 96 then none else if ((up (up q9.2 11 (p1 + 2).toNatClampNeg q9.1) 11 (p1 + 3).toNatClampNeg (-1)) 10 0) = 0 then (some (up (up q9.2 11 (p1 + 2).toNatClampNeg q9.1) 11 (p1 + 3).toNatClampNeg (-1))) else ((fX4_sign (up (up q9.2 11 (p1 + 2).toNatClampNeg q9.1) 11 (p1 + 3).toNatClampNeg (-1))).bind (fun r13 => if r13 = 62 then ((fX4_number (up (up (up q9.2 11 (p1 + 2).toNatClampNeg q9.1) 11 (p1 + 3).toNatClampNeg (-1)) 9 0 (((up (up q9.2 11 (p1 + 2).toNatClampNeg q9.1) 11 (p1 + 3).toNatClampNeg (-1)) 9 0) + 1)) 23).bind (fun q17 => if oob (p1 + 3) 96 then none else some (up q17.2 11 (p1 + 3).toNatClampNeg q17.1))) else (some (up (up q9.2 11 (p1 + 2).toNatClampNeg q9.1) 11 (p1 + 3).toNatClampNeg (-1))))))))
set_option maxHeartbeats 4000000 in
set_option maxRecDepth 100000 in
theorem kX4_readsCart (l : Launch) (G : Gx) (b : Nat) (σ : St) (p1 : Int32) (σ' : St) (h : fX4_readsCart σ p1 = some σ') : Met l yX4_readsCart wsX4_readsCart (rmN 2) (pre G [.ref b, .int p1] (mAt G b σ)) (QcW b (b + 7) (mAt G b σ') none) 0 0 (lw_Fr b (b + 7)) := by
  refine Met.ofW (cc := cX4_readsCart) (maxL := 2) (ret := none) (by decide) rfl ?_
  intro p e s m args below meth c s₁ B hml hv
  obtain ⟨rfl, X, hK⟩ := hv
  have hx := B.exec
  have hb := B.bytes
  have hr := B.returns
  have hts := atoms_spec (ws := wsX4_readsCart) B.pre
  have hown : s.vm.findClass RX4 = some m.cls := findClass_of_methodNamed B.named
  have hlocks := B.notSynchronized
  have C : Cx p m c cX4_readsCart 2 s _ wsX4_readsCart RX4 G := ⟨⟨hx, hb, hml, hown, hts⟩, hK⟩
  have hin : ∀ w ∈ wsX40, w ∈ wsX4_readsCart := in_X4_readsCart
  have hS : va_S (lw_Fr b (b + 7)) s.heap s.heap [] := va_S.rf
  have hl := lv_entry ([.ref b, .int p1]) (n := 2) (Nat.le_of_ble_eq_true rfl)
  rw [lg_entry_eq]
  generalize (lg_sl ([.ref b, .int p1]) ++ List.replicate (2 - (lg_sl ([.ref b, .int p1])).length) Slot.unset).toArray = ls at hl ⊢
  have hl : lv_has ls 2 [(0, .ref b), (1, .int p1)] := hl
  unfold fX4_readsCart at h
  refine lv_aload_n hx hb dX4_readsCart_0 rfl (lv_at hl 0 rfl) ?_
  refine gt_X4_11 C hin X 1 rfl dX4_readsCart_1 ?_
  refine lv_iload_n hx hb dX4_readsCart_4 rfl (lv_at hl 1 rfl) ?_
  refine lv_iconst (v := 1) hx hb dX4_readsCart_5 (by decide) ?_
  refine lv_iadd hx hb dX4_readsCart_6 ?_
  refine lv_aload_n hx hb dX4_readsCart_7 rfl (lv_at hl 0 rfl) ?_
  refine lv_bipush (v := 99) hx hb dX4_readsCart_8 (by decide) ?_
  obtain ⟨q3, hr1, h⟩ := ob h
  refine rowW (As := [.int 99]) (rest := [.int (p1 + 1), .ref (b + 6)]) C (kX4_number l G b σ 99 q3.1 q3.2 hr1) (cwV 1 hts gX4_readsCart_X4_number rfl rfl rfl (by decide +kernel) ⟨Nat.le_of_ble_eq_true rfl, Nat.le_of_ble_eq_true rfl⟩) (rcv_X4 X hK) X hS (fun _ z => z) rfl hl.1 rfl (Nat.le_of_ble_eq_true rfl) dX4_readsCart_10 ⟨Nat.zero_le _, Nat.zero_le _⟩ (fun H locs X hS _ _ => ?_)
  show W p l e _ s m _ below meth c H locs 0 0 _ (F0 m 13 ls [.int q3.1, .int (p1 + 1), .ref (b + 6)])
  obtain ⟨c4, h⟩ := og h
  refine as_X4_11 C X hS rfl c4 dX4_readsCart_13 (fun H locs X hS => ?_)
  refine lv_aload_n hx hb dX4_readsCart_14 rfl (lv_at hl 0 rfl) ?_
  refine lv_bipush (v := 47) hx hb dX4_readsCart_15 (by decide) ?_
  obtain ⟨σ6, hr5, h⟩ := ob h
  refine rowW (As := [.int 47]) (rest := []) C (kX4_wants l G b (up q3.2 11 (p1 + 1).toNatClampNeg q3.1) 47 σ6 hr5) (cwV 1 hts gX4_readsCart_X4_wants rfl rfl rfl (by decide +kernel) ⟨Nat.le_of_ble_eq_true rfl, Nat.le_of_ble_eq_true rfl⟩) (rcv_X4 X hK) X hS (fun _ z => z) rfl hl.1 rfl (Nat.le_of_ble_eq_true rfl) dX4_readsCart_17 ⟨Nat.zero_le _, Nat.zero_le _⟩ (fun H locs X hS _ _ => ?_)
  show W p l e _ s m _ below meth c H locs 0 0 _ (F0 m 20 ls [])
  refine lv_aload_n hx hb dX4_readsCart_20 rfl (lv_at hl 0 rfl) ?_
  refine gt_X4_11 C hin X 1 rfl dX4_readsCart_21 ?_
  refine lv_iload_n hx hb dX4_readsCart_24 rfl (lv_at hl 1 rfl) ?_
  refine lv_iconst (v := 2) hx hb dX4_readsCart_25 (by decide) ?_
  refine lv_iadd hx hb dX4_readsCart_26 ?_
  refine lv_aload_n hx hb dX4_readsCart_27 rfl (lv_at hl 0 rfl) ?_
  refine lv_bipush (v := 99) hx hb dX4_readsCart_28 (by decide) ?_
  obtain ⟨q9, hr7, h⟩ := ob h
  refine rowW (As := [.int 99]) (rest := [.int (p1 + 2), .ref (b + 6)]) C (kX4_number l G b σ6 99 q9.1 q9.2 hr7) (cwV 1 hts gX4_readsCart_X4_number rfl rfl rfl (by decide +kernel) ⟨Nat.le_of_ble_eq_true rfl, Nat.le_of_ble_eq_true rfl⟩) (rcv_X4 X hK) X hS (fun _ z => z) rfl hl.1 rfl (Nat.le_of_ble_eq_true rfl) dX4_readsCart_30 ⟨Nat.zero_le _, Nat.zero_le _⟩ (fun H locs X hS _ _ => ?_)
  show W p l e _ s m _ below meth c H locs 0 0 _ (F0 m 33 ls [.int q9.1, .int (p1 + 2), .ref (b + 6)])
  obtain ⟨c10, h⟩ := og h
  refine as_X4_11 C X hS rfl c10 dX4_readsCart_33 (fun H locs X hS => ?_)
  refine lv_aload_n hx hb dX4_readsCart_34 rfl (lv_at hl 0 rfl) ?_
  refine gt_X4_11 C hin X 1 rfl dX4_readsCart_35 ?_
  refine lv_iload_n hx hb dX4_readsCart_38 rfl (lv_at hl 1 rfl) ?_
  refine lv_iconst (v := 3) hx hb dX4_readsCart_39 (by decide) ?_
  refine lv_iadd hx hb dX4_readsCart_40 ?_
  refine lv_iconst (v := (-1)) hx hb dX4_readsCart_41 (by decide) ?_
  obtain ⟨c11, h⟩ := og h
  refine as_X4_11 C X hS rfl c11 dX4_readsCart_42 (fun H locs X hS => ?_)
  refine lv_aload_n hx hb dX4_readsCart_43 rfl (lv_at hl 0 rfl) ?_
  refine gt_X4_10 C hin X 2 rfl dX4_readsCart_44 ?_
  refine lv_if_eq (tgt := 83) hx hb dX4_readsCart_47 (by decide) (fun c12 => ?_) (fun c12 => ?_)
  · have h := ip h c12
    have h := so h
    subst h
    exact W.vret hx hb hr (fun t ht _ => ⟨rfl, by rw [ht]; exact X, hS.F ht⟩) hS.2.2 dX4_readsCart_83
  · have h := iq h c12
    refine lv_aload_n hx hb dX4_readsCart_50 rfl (lv_at hl 0 rfl) ?_
    obtain ⟨r13, hr13, h⟩ := ob h
    refine rowV (As := []) (rest := []) C (kX4_sign l G b (up (up q9.2 11 (p1 + 2).toNatClampNeg q9.1) 11 (p1 + 3).toNatClampNeg (-1)) r13 hr13) (cwV 0 hts gX4_readsCart_X4_sign rfl rfl rfl (by decide +kernel) ⟨Nat.le_of_ble_eq_true rfl, Nat.le_of_ble_eq_true rfl⟩) (rcv_X4 X hK) X rfl hl.1 rfl (Nat.le_of_ble_eq_true rfl) dX4_readsCart_51 ⟨Nat.zero_le _, Nat.zero_le _⟩ ?_
    refine lv_bipush (v := 62) hx hb dX4_readsCart_54 (by decide) ?_
    refine lv_icmp_ne (tgt := 83) hx hb dX4_readsCart_56 (by decide) (fun c14 => ?_) (fun c14 => ?_)
    · have h := iq h c14
      have h := so h
      subst h
      exact W.vret hx hb hr (fun t ht _ => ⟨rfl, by rw [ht]; exact X, hS.F ht⟩) hS.2.2 dX4_readsCart_83
    · have h := ip h c14
      refine lv_aload_n hx hb dX4_readsCart_59 rfl (lv_at hl 0 rfl) ?_
      refine lv_dup hx hb dX4_readsCart_60 rfl ?_
      refine gt_X4_9 C hin X 3 rfl dX4_readsCart_61 ?_
      refine lv_iconst (v := 1) hx hb dX4_readsCart_64 (by decide) ?_
      refine lv_iadd hx hb dX4_readsCart_65 ?_
      refine pt_X4_9 C hin X hS 3 rfl dX4_readsCart_66 (fun H locs X hS => ?_)
      refine lv_aload_n hx hb dX4_readsCart_69 rfl (lv_at hl 0 rfl) ?_
      refine gt_X4_11 C hin X 1 rfl dX4_readsCart_70 ?_
      refine lv_iload_n hx hb dX4_readsCart_73 rfl (lv_at hl 1 rfl) ?_
      refine lv_iconst (v := 3) hx hb dX4_readsCart_74 (by decide) ?_
      refine lv_iadd hx hb dX4_readsCart_75 ?_
      refine lv_aload_n hx hb dX4_readsCart_76 rfl (lv_at hl 0 rfl) ?_
      refine lv_bipush (v := 23) hx hb dX4_readsCart_77 (by decide) ?_
      obtain ⟨q17, hr15, h⟩ := ob h
      refine rowW (As := [.int 23]) (rest := [.int (p1 + 3), .ref (b + 6)]) C (kX4_number l G b (up (up (up q9.2 11 (p1 + 2).toNatClampNeg q9.1) 11 (p1 + 3).toNatClampNeg (-1)) 9 0 (((up (up q9.2 11 (p1 + 2).toNatClampNeg q9.1) 11 (p1 + 3).toNatClampNeg (-1)) 9 0) + 1)) 23 q17.1 q17.2 hr15) (cwV 1 hts gX4_readsCart_X4_number rfl rfl rfl (by decide +kernel) ⟨Nat.le_of_ble_eq_true rfl, Nat.le_of_ble_eq_true rfl⟩) (rcv_X4 X hK) X hS (fun _ z => z) rfl hl.1 rfl (Nat.le_of_ble_eq_true rfl) dX4_readsCart_79 ⟨Nat.zero_le _, Nat.zero_le _⟩ (fun H locs X hS _ _ => ?_)
      show W p l e _ s m _ below meth c H locs 0 0 _ (F0 m 82 ls [.int q17.1, .int (p1 + 3), .ref (b + 6)])
      obtain ⟨c18, h⟩ := og h
      refine as_X4_11 C X hS rfl c18 dX4_readsCart_82 (fun H locs X hS => ?_)
      have h := so h
      subst h
      exact W.vret hx hb hr (fun t ht _ => ⟨rfl, by rw [ht]; exact X, hS.F ht⟩) hS.2.2 dX4_readsCart_83

theorem in_X4_readsOrder : ∀ w ∈ wsX40, w ∈ wsX4_readsOrder := by decide +kernel
def fX4_readsOrder (σ : St) : Option (St) := (fX4_sign σ).bind (fun r1 => if r1 = 99 then (if ((up σ 10 0 1) 10 0) = 0 then (if oob (4 * (σ 12 0)) 96 then none else if r1 = 99 then ((fX4_readsCart (up (up (up σ 10 0 1) 9 0 (((up σ 10 0 1) 9 0) + 0)) 11 (4 * (σ 12 0)).toNatClampNeg r1) (4 * (σ 12 0))).bind (fun σ20 => if r1 = 120 then ((fX4_wants σ20 61).bind (fun σ24 => (fX4_number σ24 99).bind (fun q27 => if oob ((4 * (σ 12 0)) + 2) 96 then none else if ((up q27.2 11 ((4 * (σ 12 0)) + 2).toNatClampNeg q27.1) 10 0) = 0 then (some (up (up q27.2 11 ((4 * (σ 12 0)) + 2).toNatClampNeg q27.1) 12 0 (((up q27.2 11 ((4 * (σ 12 0)) + 2).toNatClampNeg q27.1) 12 0) + 0))) else (some (up (up q27.2 11 ((4 * (σ 12 0)) + 2).toNatClampNeg q27.1) 12 0 (((up q27.2 11 ((4 * (σ 12 0)) + 2).toNatClampNeg q27.1) 12 0) + 1)))))) else (if (σ20 10 0) = 0 then (some (up σ20 12 0 ((σ20 12 0) + 0))) else (some (up σ20 12 0 ((σ20 12 0) + 1)))))) else ((fX4_number (up (up (up σ 10 0 1) 9 0 (((up σ 10 0 1) 9 0) + 0)) 11 (4 * (σ 12 0)).toNatClampNeg r1) 23).bind (fun q8 => if oob ((4 * (σ 12 0)) + 1) 96 then none else if r1 = 120 then ((fX4_wants (up q8.2 11 ((4 * (σ 12 0)) + 1).toNatClampNeg q8.1) 61).bind (fun σ13 => (fX4_number σ13 99).bind (fun q16 => if oob ((4 * (σ 12 0)) + 2) 96 then none else if ((up q16.2 11 ((4 * (σ 12 0)) + 2).toNatClampNeg q16.1) 10 0) = 0 then (some (up (up q16.2 11 ((4 * (σ 12 0)) + 2).toNatClampNeg q16.1) 12 0 (((up q16.2 11 ((4 * (σ 12 0)) + 2).toNatClampNeg q16.1) 12 0) + 0))) else (some (up (up q16.2 11 ((4 * (σ 12 0)) + 2).toNatClampNeg q16.1) 12 0 (((up q16.2 11 ((4 * (σ 12 0)) + 2).toNatClampNeg q16.1) 12 0) + 1)))))) else (if ((up q8.2 11 ((4 * (σ 12 0)) + 1).toNatClampNeg q8.1) 10 0) = 0 then (some (up (up q8.2 11 ((4 * (σ 12 0)) + 1).toNatClampNeg q8.1) 12 0 (((up q8.2 11 ((4 * (σ 12 0)) + 1).toNatClampNeg q8.1) 12 0) + 0))) else (some (up (up q8.2 11 ((4 * (σ 12 0)) + 1).toNatClampNeg q8.1) 12 0 (((up q8.2 11 ((4 * (σ 12 0)) + 1).toNatClampNeg q8.1) 12 0) + 1))))))) else (if oob (4 * (σ 12 0)) 96 then none else if r1 = 99 then ((fX4_readsCart (up (up (up σ 10 0 1) 9 0 (((up σ 10 0 1) 9 0) + 1)) 11 (4 * (σ 12 0)).toNatClampNeg r1) (4 * (σ 12 0))).bind (fun σ46 => if r1 = 120 then ((fX4_wants σ46 61).bind (fun σ50 => (fX4_number σ50 99).bind (fun q53 => if oob ((4 * (σ 12 0)) + 2) 96 then none else if ((up q53.2 11 ((4 * (σ 12 0)) + 2).toNatClampNeg q53.1) 10 0) = 0 then (some (up (up q53.2 11 ((4 * (σ 12 0)) + 2).toNatClampNeg q53.1) 12 0 (((up q53.2 11 ((4 * (σ 12 0)) + 2).toNatClampNeg q53.1) 12 0) + 0))) else (some (up (up q53.2 11 ((4 * (σ 12 0)) + 2).toNatClampNeg q53.1) 12 0 (((up q53.2 11 ((4 * (σ 12 0)) + 2).toNatClampNeg q53.1) 12 0) + 1)))))) else (if (σ46 10 0) = 0 then (some (up σ46 12 0 ((σ46 12 0) + 0))) else (some (up σ46 12 0 ((σ46 12 0) + 1)))))) else ((fX4_number (up (up (up σ 10 0 1) 9 0 (((up σ 10 0 1) 9 0) + 1)) 11 (4 * (σ 12 0)).toNatClampNeg r1) 23).bind (fun q34 => if oob ((4 * (σ 12 0)) + 1) 96 then none else if r1 = 120 then ((fX4_wants (up q34.2 11 ((4 * (σ 12 0)) + 1).toNatClampNeg q34.1) 61).bind (fun σ39 => (fX4_number σ39 99).bind (fun q42 => if oob ((4 * (σ 12 0)) + 2) 96 then none else if ((up q42.2 11 ((4 * (σ 12 0)) + 2).toNatClampNeg q42.1) 10 0) = 0 then (some (up (up q42.2 11 ((4 * (σ 12 0)) + 2).toNatClampNeg q42.1) 12 0 (((up q42.2 11 ((4 * (σ 12 0)) + 2).toNatClampNeg q42.1) 12 0) + 0))) else (some (up (up q42.2 11 ((4 * (σ 12 0)) + 2).toNatClampNeg q42.1) 12 0 (((up q42.2 11 ((4 * (σ 12 0)) + 2).toNatClampNeg q42.1) 12 0) + 1)))))) else (if ((up q34.2 11 ((4 * (σ 12 0)) + 1).toNatClampNeg q34.1) 10 0) = 0 then (some (up (up q34.2 11 ((4 * (σ 12 0)) + 1).toNatClampNeg q34.1) 12 0 (((up q34.2 11 ((4 * (σ 12 0)) + 1).toNatClampNeg q34.1) 12 0) + 0))) else (some (up (up q34.2 11 ((4 * (σ 12 0)) + 1).toNatClampNeg q34.1) 12 0 (((up q34.2 11 ((4 * (σ 12 0)) + 1).toNatClampNeg q34.1) 12 0) + 1)))))))) else (if r1 = 111 then (if ((up σ 10 0 1) 10 0) = 0 then (if oob (4 * (σ 12 0)) 96 then none else if r1 = 99 then ((fX4_readsCart (up (up (up σ 10 0 1) 9 0 (((up σ 10 0 1) 9 0) + 0)) 11 (4 * (σ 12 0)).toNatClampNeg r1) (4 * (σ 12 0))).bind (fun σ74 => if r1 = 120 then ((fX4_wants σ74 61).bind (fun σ78 => (fX4_number σ78 99).bind (fun q81 => if oob ((4 * (σ 12 0)) + 2) 96 then none else if ((up q81.2 11 ((4 * (σ 12 0)) + 2).toNatClampNeg q81.1) 10 0) = 0 then (some (up (up q81.2 11 ((4 * (σ 12 0)) + 2).toNatClampNeg q81.1) 12 0 (((up q81.2 11 ((4 * (σ 12 0)) + 2).toNatClampNeg q81.1) 12 0) + 0))) else (some (up (up q81.2 11 ((4 * (σ 12 0)) + 2).toNatClampNeg q81.1) 12 0 (((up q81.2 11 ((4 * (σ 12 0)) + 2).toNatClampNeg q81.1) 12 0) + 1)))))) else (if (σ74 10 0) = 0 then (some (up σ74 12 0 ((σ74 12 0) + 0))) else (some (up σ74 12 0 ((σ74 12 0) + 1)))))) else ((fX4_number (up (up (up σ 10 0 1) 9 0 (((up σ 10 0 1) 9 0) + 0)) 11 (4 * (σ 12 0)).toNatClampNeg r1) 23).bind (fun q62 => if oob ((4 * (σ 12 0)) + 1) 96 then none else if r1 = 120 then ((fX4_wants (up q62.2 11 ((4 * (σ 12 0)) + 1).toNatClampNeg q62.1) 61).bind (fun σ67 => (fX4_number σ67 99).bind (fun q70 => if oob ((4 * (σ 12 0)) + 2) 96 then none else if ((up q70.2 11 ((4 * (σ 12 0)) + 2).toNatClampNeg q70.1) 10 0) = 0 then (some (up (up q70.2 11 ((4 * (σ 12 0)) + 2).toNatClampNeg q70.1) 12 0 (((up q70.2 11 ((4 * (σ 12 0)) + 2).toNatClampNeg q70.1) 12 0) + 0))) else (some (up (up q70.2 11 ((4 * (σ 12 0)) + 2).toNatClampNeg q70.1) 12 0 (((up q70.2 11 ((4 * (σ 12 0)) + 2).toNatClampNeg q70.1) 12 0) + 1)))))) else (if ((up q62.2 11 ((4 * (σ 12 0)) + 1).toNatClampNeg q62.1) 10 0) = 0 then (some (up (up q62.2 11 ((4 * (σ 12 0)) + 1).toNatClampNeg q62.1) 12 0 (((up q62.2 11 ((4 * (σ 12 0)) + 1).toNatClampNeg q62.1) 12 0) + 0))) else (some (up (up q62.2 11 ((4 * (σ 12 0)) + 1).toNatClampNeg q62.1) 12 0 (((up q62.2 11 ((4 * (σ 12 0)) + 1).toNatClampNeg q62.1) 12 0) + 1))))))) else (if oob (4 * (σ 12 0)) 96 then none else if r1 = 99 then ((fX4_readsCart (up (up (up σ 10 0 1) 9 0 (((up σ 10 0 1) 9 0) + 1)) 11 (4 * (σ 12 0)).toNatClampNeg r1) (4 * (σ 12 0))).bind (fun σ100 => if r1 = 120 then ((fX4_wants σ100 61).bind (fun σ104 => (fX4_number σ104 99).bind (fun q107 => if oob ((4 * (σ 12 0)) + 2) 96 then none else if ((up q107.2 11 ((4 * (σ 12 0)) + 2).toNatClampNeg q107.1) 10 0) = 0 then (some (up (up q107.2 11 ((4 * (σ 12 0)) + 2).toNatClampNeg q107.1) 12 0 (((up q107.2 11 ((4 * (σ 12 0)) + 2).toNatClampNeg q107.1) 12 0) + 0))) else (some (up (up q107.2 11 ((4 * (σ 12 0)) + 2).toNatClampNeg q107.1) 12 0 (((up q107.2 11 ((4 * (σ 12 0)) + 2).toNatClampNeg q107.1) 12 0) + 1)))))) else (if (σ100 10 0) = 0 then (some (up σ100 12 0 ((σ100 12 0) + 0))) else (some (up σ100 12 0 ((σ100 12 0) + 1)))))) else ((fX4_number (up (up (up σ 10 0 1) 9 0 (((up σ 10 0 1) 9 0) + 1)) 11 (4 * (σ 12 0)).toNatClampNeg r1) 23).bind (fun q88 => if oob ((4 * (σ 12 0)) + 1) 96 then none else if r1 = 120 then ((fX4_wants (up q88.2 11 ((4 * (σ 12 0)) + 1).toNatClampNeg q88.1) 61).bind (fun σ93 => (fX4_number σ93 99).bind (fun q96 => if oob ((4 * (σ 12 0)) + 2) 96 then none else if ((up q96.2 11 ((4 * (σ 12 0)) + 2).toNatClampNeg q96.1) 10 0) = 0 then (some (up (up q96.2 11 ((4 * (σ 12 0)) + 2).toNatClampNeg q96.1) 12 0 (((up q96.2 11 ((4 * (σ 12 0)) + 2).toNatClampNeg q96.1) 12 0) + 0))) else (some (up (up q96.2 11 ((4 * (σ 12 0)) + 2).toNatClampNeg q96.1) 12 0 (((up q96.2 11 ((4 * (σ 12 0)) + 2).toNatClampNeg q96.1) 12 0) + 1)))))) else (if ((up q88.2 11 ((4 * (σ 12 0)) + 1).toNatClampNeg q88.1) 10 0) = 0 then (some (up (up q88.2 11 ((4 * (σ 12 0)) + 1).toNatClampNeg q88.1) 12 0 (((up q88.2 11 ((4 * (σ 12 0)) + 1).toNatClampNeg q88.1) 12 0) + 0))) else (some (up (up q88.2 11 ((4 * (σ 12 0)) + 1).toNatClampNeg q88.1) 12 0 (((up q88.2 11 ((4 * (σ 12 0)) + 1).toNatClampNeg q88.1) 12 0) + 1)))))))) else (if r1 = 120 then (if ((up σ 10 0 1) 10 0) = 0 then (if oob (4 * (σ 12 0)) 96 then none else if r1 = 99 then ((fX4_readsCart (up (up (up σ 10 0 1) 9 0 (((up σ 10 0 1) 9 0) + 0)) 11 (4 * (σ 12 0)).toNatClampNeg r1) (4 * (σ 12 0))).bind (fun σ128 => if r1 = 120 then ((fX4_wants σ128 61).bind (fun σ132 => (fX4_number σ132 99).bind (fun q135 => if oob ((4 * (σ 12 0)) + 2) 96 then none else if ((up q135.2 11 ((4 * (σ 12 0)) + 2).toNatClampNeg q135.1) 10 0) = 0 then (some (up (up q135.2 11 ((4 * (σ 12 0)) + 2).toNatClampNeg q135.1) 12 0 (((up q135.2 11 ((4 * (σ 12 0)) + 2).toNatClampNeg q135.1) 12 0) + 0))) else (some (up (up q135.2 11 ((4 * (σ 12 0)) + 2).toNatClampNeg q135.1) 12 0 (((up q135.2 11 ((4 * (σ 12 0)) + 2).toNatClampNeg q135.1) 12 0) + 1)))))) else (if (σ128 10 0) = 0 then (some (up σ128 12 0 ((σ128 12 0) + 0))) else (some (up σ128 12 0 ((σ128 12 0) + 1)))))) else ((fX4_number (up (up (up σ 10 0 1) 9 0 (((up σ 10 0 1) 9 0) + 0)) 11 (4 * (σ 12 0)).toNatClampNeg r1) 23).bind (fun q116 => if oob ((4 * (σ 12 0)) + 1) 96 then none else if r1 = 120 then ((fX4_wants (up q116.2 11 ((4 * (σ 12 0)) + 1).toNatClampNeg q116.1) 61).bind (fun σ121 => (fX4_number σ121 99).bind (fun q124 => if oob ((4 * (σ 12 0)) + 2) 96 then none else if ((up q124.2 11 ((4 * (σ 12 0)) + 2).toNatClampNeg q124.1) 10 0) = 0 then (some (up (up q124.2 11 ((4 * (σ 12 0)) + 2).toNatClampNeg q124.1) 12 0 (((up q124.2 11 ((4 * (σ 12 0)) + 2).toNatClampNeg q124.1) 12 0) + 0))) else (some (up (up q124.2 11 ((4 * (σ 12 0)) + 2).toNatClampNeg q124.1) 12 0 (((up q124.2 11 ((4 * (σ 12 0)) + 2).toNatClampNeg q124.1) 12 0) + 1)))))) else (if ((up q116.2 11 ((4 * (σ 12 0)) + 1).toNatClampNeg q116.1) 10 0) = 0 then (some (up (up q116.2 11 ((4 * (σ 12 0)) + 1).toNatClampNeg q116.1) 12 0 (((up q116.2 11 ((4 * (σ 12 0)) + 1).toNatClampNeg q116.1) 12 0) + 0))) else (some (up (up q116.2 11 ((4 * (σ 12 0)) + 1).toNatClampNeg q116.1) 12 0 (((up q116.2 11 ((4 * (σ 12 0)) + 1).toNatClampNeg q116.1) 12 0) + 1))))))) else (if oob (4 * (σ 12 0)) 96 then none else if r1 = 99 then ((fX4_readsCart (up (up (up σ 10 0 1) 9 0 (((up σ 10 0 1) 9 0) + 1)) 11 (4 * (σ 12 0)).toNatClampNeg r1) (4 * (σ 12 0))).bind (fun σ154 => if r1 = 120 then ((fX4_wants σ154 61).bind (fun σ158 => (fX4_number σ158 99).bind (fun q161 => if oob ((4 * (σ 12 0)) + 2) 96 then none else if ((up q161.2 11 ((4 * (σ 12 0)) + 2).toNatClampNeg q161.1) 10 0) = 0 then (some (up (up q161.2 11 ((4 * (σ 12 0)) + 2).toNatClampNeg q161.1) 12 0 (((up q161.2 11 ((4 * (σ 12 0)) + 2).toNatClampNeg q161.1) 12 0) + 0))) else (some (up (up q161.2 11 ((4 * (σ 12 0)) + 2).toNatClampNeg q161.1) 12 0 (((up q161.2 11 ((4 * (σ 12 0)) + 2).toNatClampNeg q161.1) 12 0) + 1)))))) else (if (σ154 10 0) = 0 then (some (up σ154 12 0 ((σ154 12 0) + 0))) else (some (up σ154 12 0 ((σ154 12 0) + 1)))))) else ((fX4_number (up (up (up σ 10 0 1) 9 0 (((up σ 10 0 1) 9 0) + 1)) 11 (4 * (σ 12 0)).toNatClampNeg r1) 23).bind (fun q142 => if oob ((4 * (σ 12 0)) + 1) 96 then none else if r1 = 120 then ((fX4_wants (up q142.2 11 ((4 * (σ 12 0)) + 1).toNatClampNeg q142.1) 61).bind (fun σ147 => (fX4_number σ147 99).bind (fun q150 => if oob ((4 * (σ 12 0)) + 2) 96 then none else if ((up q150.2 11 ((4 * (σ 12 0)) + 2).toNatClampNeg q150.1) 10 0) = 0 then (some (up (up q150.2 11 ((4 * (σ 12 0)) + 2).toNatClampNeg q150.1) 12 0 (((up q150.2 11 ((4 * (σ 12 0)) + 2).toNatClampNeg q150.1) 12 0) + 0))) else (some (up (up q150.2 11 ((4 * (σ 12 0)) + 2).toNatClampNeg q150.1) 12 0 (((up q150.2 11 ((4 * (σ 12 0)) + 2).toNatClampNeg q150.1) 12 0) + 1)))))) else (if ((up q142.2 11 ((4 * (σ 12 0)) + 1).toNatClampNeg q142.1) 10 0) = 0 then (some (up (up q142.2 11 ((4 * (σ 12 0)) + 1).toNatClampNeg q142.1) 12 0 (((up q142.2 11 ((4 * (σ 12 0)) + 1).toNatClampNeg q142.1) 12 0) + 0))) else (some (up (up q142.2 11 ((4 * (σ 12 0)) + 1).toNatClampNeg q142.1) 12 0 (((up q142.2 11 ((4 * (σ 12 0)) + 1).toNatClampNeg q142.1) 12 0) + 1)))))))) else (if r1 = 115 then (if ((up σ 10 0 1) 10 0) = 0 then (if oob (4 * (σ 12 0)) 96 then none else if r1 = 99 then ((fX4_readsCart (up (up (up σ 10 0 1) 9 0 (((up σ 10 0 1) 9 0) + 0)) 11 (4 * (σ 12 0)).toNatClampNeg r1) (4 * (σ 12 0))).bind (fun σ235 => if r1 = 120 then ((fX4_wants σ235 61).bind (fun σ239 => (fX4_number σ239 99).bind (fun q242 => if oob ((4 * (σ 12 0)) + 2) 96 then none else if ((up q242.2 11 ((4 * (σ 12 0)) + 2).toNatClampNeg q242.1) 10 0) = 0 then (some (up (up q242.2 11 ((4 * (σ 12 0)) + 2).toNatClampNeg q242.1) 12 0 (((up q242.2 11 ((4 * (σ 12 0)) + 2).toNatClampNeg q242.1) 12 0) + 0))) else (some (up (up q242.2 11 ((4 * (σ 12 0)) + 2).toNatClampNeg q242.1) 12 0 (((up q242.2 11 ((4 * (σ 12 0)) + 2).toNatClampNeg q242.1) 12 0) + 1)))))) else (if (σ235 10 0) = 0 then (some (up σ235 12 0 ((σ235 12 0) + 0))) else (some (up σ235 12 0 ((σ235 12 0) + 1)))))) else ((fX4_number (up (up (up σ 10 0 1) 9 0 (((up σ 10 0 1) 9 0) + 0)) 11 (4 * (σ 12 0)).toNatClampNeg r1) 23).bind (fun q223 => if oob ((4 * (σ 12 0)) + 1) 96 then none else if r1 = 120 then ((fX4_wants (up q223.2 11 ((4 * (σ 12 0)) + 1).toNatClampNeg q223.1) 61).bind (fun σ228 => (fX4_number σ228 99).bind (fun q231 => if oob ((4 * (σ 12 0)) + 2) 96 then none else if ((up q231.2 11 ((4 * (σ 12 0)) + 2).toNatClampNeg q231.1) 10 0) = 0 then (some (up (up q231.2 11 ((4 * (σ 12 0)) + 2).toNatClampNeg q231.1) 12 0 (((up q231.2 11 ((4 * (σ 12 0)) + 2).toNatClampNeg q231.1) 12 0) + 0))) else (some (up (up q231.2 11 ((4 * (σ 12 0)) + 2).toNatClampNeg q231.1) 12 0 (((up q231.2 11 ((4 * (σ 12 0)) + 2).toNatClampNeg q231.1) 12 0) + 1)))))) else (if ((up q223.2 11 ((4 * (σ 12 0)) + 1).toNatClampNeg q223.1) 10 0) = 0 then (some (up (up q223.2 11 ((4 * (σ 12 0)) + 1).toNatClampNeg q223.1) 12 0 (((up q223.2 11 ((4 * (σ 12 0)) + 1).toNatClampNeg q223.1) 12 0) + 0))) else (some (up (up q223.2 11 ((4 * (σ 12 0)) + 1).toNatClampNeg q223.1) 12 0 (((up q223.2 11 ((4 * (σ 12 0)) + 1).toNatClampNeg q223.1) 12 0) + 1))))))) else (if oob (4 * (σ 12 0)) 96 then none else if r1 = 99 then ((fX4_readsCart (up (up (up σ 10 0 1) 9 0 (((up σ 10 0 1) 9 0) + 1)) 11 (4 * (σ 12 0)).toNatClampNeg r1) (4 * (σ 12 0))).bind (fun σ261 => if r1 = 120 then ((fX4_wants σ261 61).bind (fun σ265 => (fX4_number σ265 99).bind (fun q268 => if oob ((4 * (σ 12 0)) + 2) 96 then none else if ((up q268.2 11 ((4 * (σ 12 0)) + 2).toNatClampNeg q268.1) 10 0) = 0 then (some (up (up q268.2 11 ((4 * (σ 12 0)) + 2).toNatClampNeg q268.1) 12 0 (((up q268.2 11 ((4 * (σ 12 0)) + 2).toNatClampNeg q268.1) 12 0) + 0))) else (some (up (up q268.2 11 ((4 * (σ 12 0)) + 2).toNatClampNeg q268.1) 12 0 (((up q268.2 11 ((4 * (σ 12 0)) + 2).toNatClampNeg q268.1) 12 0) + 1)))))) else (if (σ261 10 0) = 0 then (some (up σ261 12 0 ((σ261 12 0) + 0))) else (some (up σ261 12 0 ((σ261 12 0) + 1)))))) else ((fX4_number (up (up (up σ 10 0 1) 9 0 (((up σ 10 0 1) 9 0) + 1)) 11 (4 * (σ 12 0)).toNatClampNeg r1) 23).bind (fun q249 => if oob ((4 * (σ 12 0)) + 1) 96 then none else if r1 = 120 then ((fX4_wants (up q249.2 11 ((4 * (σ 12 0)) + 1).toNatClampNeg q249.1) 61).bind (fun σ254 => (fX4_number σ254 99).bind (fun q257 => if oob ((4 * (σ 12 0)) + 2) 96 then none else if ((up q257.2 11 ((4 * (σ 12 0)) + 2).toNatClampNeg q257.1) 10 0) = 0 then (some (up (up q257.2 11 ((4 * (σ 12 0)) + 2).toNatClampNeg q257.1) 12 0 (((up q257.2 11 ((4 * (σ 12 0)) + 2).toNatClampNeg q257.1) 12 0) + 0))) else (some (up (up q257.2 11 ((4 * (σ 12 0)) + 2).toNatClampNeg q257.1) 12 0 (((up q257.2 11 ((4 * (σ 12 0)) + 2).toNatClampNeg q257.1) 12 0) + 1)))))) else (if ((up q249.2 11 ((4 * (σ 12 0)) + 1).toNatClampNeg q249.1) 10 0) = 0 then (some (up (up q249.2 11 ((4 * (σ 12 0)) + 1).toNatClampNeg q249.1) 12 0 (((up q249.2 11 ((4 * (σ 12 0)) + 1).toNatClampNeg q249.1) 12 0) + 0))) else (some (up (up q249.2 11 ((4 * (σ 12 0)) + 1).toNatClampNeg q249.1) 12 0 (((up q249.2 11 ((4 * (σ 12 0)) + 1).toNatClampNeg q249.1) 12 0) + 1)))))))) else (if ((up σ 10 0 0) 10 0) = 0 then (if oob (4 * (σ 12 0)) 96 then none else if r1 = 99 then ((fX4_readsCart (up (up (up σ 10 0 0) 9 0 (((up σ 10 0 0) 9 0) + 0)) 11 (4 * (σ 12 0)).toNatClampNeg r1) (4 * (σ 12 0))).bind (fun σ182 => if r1 = 120 then ((fX4_wants σ182 61).bind (fun σ186 => (fX4_number σ186 99).bind (fun q189 => if oob ((4 * (σ 12 0)) + 2) 96 then none else if ((up q189.2 11 ((4 * (σ 12 0)) + 2).toNatClampNeg q189.1) 10 0) = 0 then (some (up (up q189.2 11 ((4 * (σ 12 0)) + 2).toNatClampNeg q189.1) 12 0 (((up q189.2 11 ((4 * (σ 12 0)) + 2).toNatClampNeg q189.1) 12 0) + 0))) else (some (up (up q189.2 11 ((4 * (σ 12 0)) + 2).toNatClampNeg q189.1) 12 0 (((up q189.2 11 ((4 * (σ 12 0)) + 2).toNatClampNeg q189.1) 12 0) + 1)))))) else (if (σ182 10 0) = 0 then (some (up σ182 12 0 ((σ182 12 0) + 0))) else (some (up σ182 12 0 ((σ182 12 0) + 1)))))) else ((fX4_number (up (up (up σ 10 0 0) 9 0 (((up σ 10 0 0) 9 0) + 0)) 11 (4 * (σ 12 0)).toNatClampNeg r1) 23).bind (fun q170 => if oob ((4 * (σ 12 0)) + 1) 96 then none else if r1 = 120 then ((fX4_wants (up q170.2 11 ((4 * (σ 12 0)) + 1).toNatClampNeg q170.1) 61).bind (fun σ175 => (fX4_number σ175 99).bind (fun q178 => if oob ((4 * (σ 12 0)) + 2) 96 then none else if ((up q178.2 11 ((4 * (σ 12 0)) + 2).toNatClampNeg q178.1) 10 0) = 0 then (some (up (up q178.2 11 ((4 * (σ 12 0)) + 2).toNatClampNeg q178.1) 12 0 (((up q178.2 11 ((4 * (σ 12 0)) + 2).toNatClampNeg q178.1) 12 0) + 0))) else (some (up (up q178.2 11 ((4 * (σ 12 0)) + 2).toNatClampNeg q178.1) 12 0 (((up q178.2 11 ((4 * (σ 12 0)) + 2).toNatClampNeg q178.1) 12 0) + 1)))))) else (if ((up q170.2 11 ((4 * (σ 12 0)) + 1).toNatClampNeg q170.1) 10 0) = 0 then (some (up (up q170.2 11 ((4 * (σ 12 0)) + 1).toNatClampNeg q170.1) 12 0 (((up q170.2 11 ((4 * (σ 12 0)) + 1).toNatClampNeg q170.1) 12 0) + 0))) else (some (up (up q170.2 11 ((4 * (σ 12 0)) + 1).toNatClampNeg q170.1) 12 0 (((up q170.2 11 ((4 * (σ 12 0)) + 1).toNatClampNeg q170.1) 12 0) + 1))))))) else (if oob (4 * (σ 12 0)) 96 then none else if r1 = 99 then ((fX4_readsCart (up (up (up σ 10 0 0) 9 0 (((up σ 10 0 0) 9 0) + 1)) 11 (4 * (σ 12 0)).toNatClampNeg r1) (4 * (σ 12 0))).bind (fun σ208 => if r1 = 120 then ((fX4_wants σ208 61).bind (fun σ212 => (fX4_number σ212 99).bind (fun q215 => if oob ((4 * (σ 12 0)) + 2) 96 then none else if ((up q215.2 11 ((4 * (σ 12 0)) + 2).toNatClampNeg q215.1) 10 0) = 0 then (some (up (up q215.2 11 ((4 * (σ 12 0)) + 2).toNatClampNeg q215.1) 12 0 (((up q215.2 11 ((4 * (σ 12 0)) + 2).toNatClampNeg q215.1) 12 0) + 0))) else (some (up (up q215.2 11 ((4 * (σ 12 0)) + 2).toNatClampNeg q215.1) 12 0 (((up q215.2 11 ((4 * (σ 12 0)) + 2).toNatClampNeg q215.1) 12 0) + 1)))))) else (if (σ208 10 0) = 0 then (some (up σ208 12 0 ((σ208 12 0) + 0))) else (some (up σ208 12 0 ((σ208 12 0) + 1)))))) else ((fX4_number (up (up (up σ 10 0 0) 9 0 (((up σ 10 0 0) 9 0) + 1)) 11 (4 * (σ 12 0)).toNatClampNeg r1) 23).bind (fun q196 => if oob ((4 * (σ 12 0)) + 1) 96 then none else if r1 = 120 then ((fX4_wants (up q196.2 11 ((4 * (σ 12 0)) + 1).toNatClampNeg q196.1) 61).bind (fun σ201 => (fX4_number σ201 99).bind (fun q204 => if oob ((4 * (σ 12 0)) + 2) 96 then none else if ((up q204.2 11 ((4 * (σ 12 0)) + 2).toNatClampNeg q204.1) 10 0) = 0 then (some (up (up q204.2 11 ((4 * (σ 12 0)) + 2).toNatClampNeg q204.1) 12 0 (((up q204.2 11 ((4 * (σ 12 0)) + 2).toNatClampNeg q204.1) 12 0) + 0))) else (some (up (up q204.2 11 ((4 * (σ 12 0)) + 2).toNatClampNeg q204.1) 12 0 (((up q204.2 11 ((4 * (σ 12 0)) + 2).toNatClampNeg q204.1) 12 0) + 1)))))) else (if ((up q196.2 11 ((4 * (σ 12 0)) + 1).toNatClampNeg q196.1) 10 0) = 0 then (some (up (up q196.2 11 ((4 * (σ 12 0)) + 1).toNatClampNeg q196.1) 12 0 (((up q196.2 11 ((4 * (σ 12 0)) + 1).toNatClampNeg q196.1) 12 0) + 0))) else (some (up (up q196.2 11 ((4 * (σ 12 0)) + 1).toNatClampNeg q196.1) 12 0 (((up q196.2 11 ((4 * (σ 12 0)) + 1).toNatClampNeg q196.1) 12 0) + 1))))))))))))
set_option maxHeartbeats 4000000 in
set_option maxRecDepth 100000 in
theorem kX4_readsOrder (l : Launch) (G : Gx) (b : Nat) (σ : St) (σ' : St) (h : fX4_readsOrder σ = some σ') : Met l yX4_readsOrder wsX4_readsOrder (rmN 3) (pre G [.ref b] (mAt G b σ)) (QcW b (b + 7) (mAt G b σ') none) 0 0 (lw_Fr b (b + 7)) := by
  refine Met.ofW (cc := cX4_readsOrder) (maxL := 3) (ret := none) (by decide) rfl ?_
  intro p e s m args below meth c s₁ B hml hv
  obtain ⟨rfl, X, hK⟩ := hv
  have hx := B.exec
  have hb := B.bytes
  have hr := B.returns
  have hts := atoms_spec (ws := wsX4_readsOrder) B.pre
  have hown : s.vm.findClass RX4 = some m.cls := findClass_of_methodNamed B.named
  have hlocks := B.notSynchronized
  have C : Cx p m c cX4_readsOrder 3 s _ wsX4_readsOrder RX4 G := ⟨⟨hx, hb, hml, hown, hts⟩, hK⟩
  have hin : ∀ w ∈ wsX40, w ∈ wsX4_readsOrder := in_X4_readsOrder
  have hS : va_S (lw_Fr b (b + 7)) s.heap s.heap [] := va_S.rf
  have hl := lv_entry ([.ref b]) (n := 3) (Nat.le_of_ble_eq_true rfl)
  rw [lg_entry_eq]
  generalize (lg_sl ([.ref b]) ++ List.replicate (3 - (lg_sl ([.ref b])).length) Slot.unset).toArray = ls at hl ⊢
  have hl : lv_has ls 3 [(0, .ref b)] := hl
  unfold fX4_readsOrder at h
  refine lv_iconst (v := 4) hx hb dX4_readsOrder_0 (by decide) ?_
  refine lv_aload_n hx hb dX4_readsOrder_1 rfl (lv_at hl 0 rfl) ?_
  refine gt_X4_12 C hin X 1 rfl dX4_readsOrder_2 ?_
  refine lv_imul hx hb dX4_readsOrder_5 ?_
  refine lv_istore_n (lv' := [(1, .int (4 * (σ 12 0))), (0, .ref b)]) hx hb dX4_readsOrder_6 rfl hl (by decide) rfl (fun ls hl => ?_)
  refine lv_aload_n hx hb dX4_readsOrder_7 rfl (lv_at hl 1 rfl) ?_
  obtain ⟨r1, hr1, h⟩ := ob h
  refine rowV (As := []) (rest := []) C (kX4_sign l G b σ r1 hr1) (cwV 0 hts gX4_readsOrder_X4_sign rfl rfl rfl (by decide +kernel) ⟨Nat.le_of_ble_eq_true rfl, Nat.le_of_ble_eq_true rfl⟩) (rcv_X4 X hK) X rfl hl.1 rfl (Nat.le_of_ble_eq_true rfl) dX4_readsOrder_8 ⟨Nat.zero_le _, Nat.zero_le _⟩ ?_
  refine lv_istore_n (lv' := [(2, .int r1), (1, .int (4 * (σ 12 0))), (0, .ref b)]) hx hb dX4_readsOrder_11 rfl hl (by decide) rfl (fun ls hl => ?_)
  refine lv_aload_n hx hb dX4_readsOrder_12 rfl (lv_at hl 2 rfl) ?_
  refine lv_iload_n hx hb dX4_readsOrder_13 rfl (lv_at hl 0 rfl) ?_
  refine lv_bipush (v := 99) hx hb dX4_readsOrder_14 (by decide) ?_
  refine lv_icmp_eq (tgt := 37) hx hb dX4_readsOrder_16 (by decide) (fun c2 => ?_) (fun c2 => ?_)
  · have h := ip h c2
    refine lv_iconst (v := 1) hx hb dX4_readsOrder_37 (by decide) ?_
    refine lv_goto (tgt := 42) hx hb dX4_readsOrder_38 (by decide) ?_
    refine pt_X4_10 C hin X hS 2 rfl rfl (by decide) dX4_readsOrder_42 (fun H locs X hS => ?_)
    refine lv_aload_n hx hb dX4_readsOrder_45 rfl (lv_at hl 2 rfl) ?_
    refine lv_dup hx hb dX4_readsOrder_46 rfl ?_
    refine gt_X4_9 C hin X 3 rfl dX4_readsOrder_47 ?_
    refine lv_aload_n hx hb dX4_readsOrder_50 rfl (lv_at hl 2 rfl) ?_
    refine gt_X4_10 C hin X 2 rfl dX4_readsOrder_51 ?_
    refine lv_if_eq (tgt := 61) hx hb dX4_readsOrder_54 (by decide) (fun c3 => ?_) (fun c3 => ?_)
    · have h := ip h c3
      refine lv_iconst (v := 0) hx hb dX4_readsOrder_61 (by decide) ?_
      refine lv_iadd hx hb dX4_readsOrder_62 ?_
      refine pt_X4_9 C hin X hS 3 rfl dX4_readsOrder_63 (fun H locs X hS => ?_)
      refine lv_aload_n hx hb dX4_readsOrder_66 rfl (lv_at hl 2 rfl) ?_
      refine gt_X4_11 C hin X 4 rfl dX4_readsOrder_67 ?_
      refine lv_iload_n hx hb dX4_readsOrder_70 rfl (lv_at hl 1 rfl) ?_
      refine lv_iload_n hx hb dX4_readsOrder_71 rfl (lv_at hl 0 rfl) ?_
      obtain ⟨c4, h⟩ := og h
      refine as_X4_11 C X hS rfl c4 dX4_readsOrder_72 (fun H locs X hS => ?_)
      refine lv_iload_n hx hb dX4_readsOrder_73 rfl (lv_at hl 0 rfl) ?_
      refine lv_bipush (v := 99) hx hb dX4_readsOrder_74 (by decide) ?_
      refine lv_icmp_ne (tgt := 87) hx hb dX4_readsOrder_76 (by decide) (fun c5 => ?_) (fun c5 => ?_)
      · have h := iq h c5
        refine lv_aload_n hx hb dX4_readsOrder_87 rfl (lv_at hl 2 rfl) ?_
        refine gt_X4_11 C hin X 4 rfl dX4_readsOrder_88 ?_
        refine lv_iload_n hx hb dX4_readsOrder_91 rfl (lv_at hl 1 rfl) ?_
        refine lv_iconst (v := 1) hx hb dX4_readsOrder_92 (by decide) ?_
        refine lv_iadd hx hb dX4_readsOrder_93 ?_
        refine lv_aload_n hx hb dX4_readsOrder_94 rfl (lv_at hl 2 rfl) ?_
        refine lv_bipush (v := 23) hx hb dX4_readsOrder_95 (by decide) ?_
        obtain ⟨q8, hr6, h⟩ := ob h
        refine rowW (As := [.int 23]) (rest := [.int ((4 * (σ 12 0)) + 1), .ref (b + 6)]) C (kX4_number l G b (up (up (up σ 10 0 1) 9 0 (((up σ 10 0 1) 9 0) + 0)) 11 (4 * (σ 12 0)).toNatClampNeg r1) 23 q8.1 q8.2 hr6) (cwV 1 hts gX4_readsOrder_X4_number rfl rfl rfl (by decide +kernel) ⟨Nat.le_of_ble_eq_true rfl, Nat.le_of_ble_eq_true rfl⟩) (rcv_X4 X hK) X hS (fun _ z => z) rfl hl.1 rfl (Nat.le_of_ble_eq_true rfl) dX4_readsOrder_97 ⟨Nat.zero_le _, Nat.zero_le _⟩ (fun H locs X hS _ _ => ?_)
        show W p l e _ s m _ below meth c H locs 0 0 _ (F0 m 100 ls [.int q8.1, .int ((4 * (σ 12 0)) + 1), .ref (b + 6)])
        obtain ⟨c9, h⟩ := og h
        refine as_X4_11 C X hS rfl c9 dX4_readsOrder_100 (fun H locs X hS => ?_)
        refine lv_iload_n hx hb dX4_readsOrder_101 rfl (lv_at hl 0 rfl) ?_
        refine lv_bipush (v := 120) hx hb dX4_readsOrder_102 (by decide) ?_
        refine lv_icmp_ne (tgt := 127) hx hb dX4_readsOrder_104 (by decide) (fun c10 => ?_) (fun c10 => ?_)
        · have h := iq h c10
          refine lv_aload_n hx hb dX4_readsOrder_127 rfl (lv_at hl 2 rfl) ?_
          refine lv_dup hx hb dX4_readsOrder_128 rfl ?_
          refine gt_X4_12 C hin X 1 rfl dX4_readsOrder_129 ?_
          refine lv_aload_n hx hb dX4_readsOrder_132 rfl (lv_at hl 2 rfl) ?_
          refine gt_X4_10 C hin X 2 rfl dX4_readsOrder_133 ?_
          refine lv_if_eq (tgt := 143) hx hb dX4_readsOrder_136 (by decide) (fun c11 => ?_) (fun c11 => ?_)
          · have h := ip h c11
            refine lv_iconst (v := 0) hx hb dX4_readsOrder_143 (by decide) ?_
            refine lv_iadd hx hb dX4_readsOrder_144 ?_
            refine pt_X4_12 C hin X hS 1 rfl dX4_readsOrder_145 (fun H locs X hS => ?_)
            have h := so h
            subst h
            exact W.vret hx hb hr (fun t ht _ => ⟨rfl, by rw [ht]; exact X, hS.F ht⟩) hS.2.2 dX4_readsOrder_148
          · have h := iq h c11
            refine lv_iconst (v := 1) hx hb dX4_readsOrder_139 (by decide) ?_
            refine lv_goto (tgt := 144) hx hb dX4_readsOrder_140 (by decide) ?_
            refine lv_iadd hx hb dX4_readsOrder_144 ?_
            refine pt_X4_12 C hin X hS 1 rfl dX4_readsOrder_145 (fun H locs X hS => ?_)
            have h := so h
            subst h
            exact W.vret hx hb hr (fun t ht _ => ⟨rfl, by rw [ht]; exact X, hS.F ht⟩) hS.2.2 dX4_readsOrder_148
        · have h := ip h c10
          refine lv_aload_n hx hb dX4_readsOrder_107 rfl (lv_at hl 2 rfl) ?_
          refine lv_bipush (v := 61) hx hb dX4_readsOrder_108 (by decide) ?_
          obtain ⟨σ13, hr12, h⟩ := ob h
          refine rowW (As := [.int 61]) (rest := []) C (kX4_wants l G b (up q8.2 11 ((4 * (σ 12 0)) + 1).toNatClampNeg q8.1) 61 σ13 hr12) (cwV 1 hts gX4_readsOrder_X4_wants rfl rfl rfl (by decide +kernel) ⟨Nat.le_of_ble_eq_true rfl, Nat.le_of_ble_eq_true rfl⟩) (rcv_X4 X hK) X hS (fun _ z => z) rfl hl.1 rfl (Nat.le_of_ble_eq_true rfl) dX4_readsOrder_110 ⟨Nat.zero_le _, Nat.zero_le _⟩ (fun H locs X hS _ _ => ?_)
          show W p l e _ s m _ below meth c H locs 0 0 _ (F0 m 113 ls [])
          refine lv_aload_n hx hb dX4_readsOrder_113 rfl (lv_at hl 2 rfl) ?_
          refine gt_X4_11 C hin X 4 rfl dX4_readsOrder_114 ?_
          refine lv_iload_n hx hb dX4_readsOrder_117 rfl (lv_at hl 1 rfl) ?_
          refine lv_iconst (v := 2) hx hb dX4_readsOrder_118 (by decide) ?_
          refine lv_iadd hx hb dX4_readsOrder_119 ?_
          refine lv_aload_n hx hb dX4_readsOrder_120 rfl (lv_at hl 2 rfl) ?_
          refine lv_bipush (v := 99) hx hb dX4_readsOrder_121 (by decide) ?_
          obtain ⟨q16, hr14, h⟩ := ob h
          refine rowW (As := [.int 99]) (rest := [.int ((4 * (σ 12 0)) + 2), .ref (b + 6)]) C (kX4_number l G b σ13 99 q16.1 q16.2 hr14) (cwV 1 hts gX4_readsOrder_X4_number rfl rfl rfl (by decide +kernel) ⟨Nat.le_of_ble_eq_true rfl, Nat.le_of_ble_eq_true rfl⟩) (rcv_X4 X hK) X hS (fun _ z => z) rfl hl.1 rfl (Nat.le_of_ble_eq_true rfl) dX4_readsOrder_123 ⟨Nat.zero_le _, Nat.zero_le _⟩ (fun H locs X hS _ _ => ?_)
          show W p l e _ s m _ below meth c H locs 0 0 _ (F0 m 126 ls [.int q16.1, .int ((4 * (σ 12 0)) + 2), .ref (b + 6)])
          obtain ⟨c17, h⟩ := og h
          refine as_X4_11 C X hS rfl c17 dX4_readsOrder_126 (fun H locs X hS => ?_)
          refine lv_aload_n hx hb dX4_readsOrder_127 rfl (lv_at hl 2 rfl) ?_
          refine lv_dup hx hb dX4_readsOrder_128 rfl ?_
          refine gt_X4_12 C hin X 1 rfl dX4_readsOrder_129 ?_
          refine lv_aload_n hx hb dX4_readsOrder_132 rfl (lv_at hl 2 rfl) ?_
          refine gt_X4_10 C hin X 2 rfl dX4_readsOrder_133 ?_
          refine lv_if_eq (tgt := 143) hx hb dX4_readsOrder_136 (by decide) (fun c18 => ?_) (fun c18 => ?_)
          · have h := ip h c18
            refine lv_iconst (v := 0) hx hb dX4_readsOrder_143 (by decide) ?_
            refine lv_iadd hx hb dX4_readsOrder_144 ?_
            refine pt_X4_12 C hin X hS 1 rfl dX4_readsOrder_145 (fun H locs X hS => ?_)
            have h := so h
            subst h
            exact W.vret hx hb hr (fun t ht _ => ⟨rfl, by rw [ht]; exact X, hS.F ht⟩) hS.2.2 dX4_readsOrder_148
          · have h := iq h c18
            refine lv_iconst (v := 1) hx hb dX4_readsOrder_139 (by decide) ?_
            refine lv_goto (tgt := 144) hx hb dX4_readsOrder_140 (by decide) ?_
            refine lv_iadd hx hb dX4_readsOrder_144 ?_
            refine pt_X4_12 C hin X hS 1 rfl dX4_readsOrder_145 (fun H locs X hS => ?_)
            have h := so h
            subst h
            exact W.vret hx hb hr (fun t ht _ => ⟨rfl, by rw [ht]; exact X, hS.F ht⟩) hS.2.2 dX4_readsOrder_148
      · have h := ip h c5
        refine lv_aload_n hx hb dX4_readsOrder_79 rfl (lv_at hl 2 rfl) ?_
        refine lv_iload_n hx hb dX4_readsOrder_80 rfl (lv_at hl 1 rfl) ?_
        obtain ⟨σ20, hr19, h⟩ := ob h
        refine rowW (As := [.int (4 * (σ 12 0))]) (rest := []) C (kX4_readsCart l G b (up (up (up σ 10 0 1) 9 0 (((up σ 10 0 1) 9 0) + 0)) 11 (4 * (σ 12 0)).toNatClampNeg r1) (4 * (σ 12 0)) σ20 hr19) (cwV 1 hts gX4_readsOrder_X4_readsCart rfl rfl rfl (by decide +kernel) ⟨Nat.le_of_ble_eq_true rfl, Nat.le_of_ble_eq_true rfl⟩) (rcv_X4 X hK) X hS (fun _ z => z) rfl hl.1 rfl (Nat.le_of_ble_eq_true rfl) dX4_readsOrder_81 ⟨Nat.zero_le _, Nat.zero_le _⟩ (fun H locs X hS _ _ => ?_)
        show W p l e _ s m _ below meth c H locs 0 0 _ (F0 m 84 ls [])
        refine lv_goto (tgt := 101) hx hb dX4_readsOrder_84 (by decide) ?_
        refine lv_iload_n hx hb dX4_readsOrder_101 rfl (lv_at hl 0 rfl) ?_
        refine lv_bipush (v := 120) hx hb dX4_readsOrder_102 (by decide) ?_
        refine lv_icmp_ne (tgt := 127) hx hb dX4_readsOrder_104 (by decide) (fun c21 => ?_) (fun c21 => ?_)
        · have h := iq h c21
          refine lv_aload_n hx hb dX4_readsOrder_127 rfl (lv_at hl 2 rfl) ?_
          refine lv_dup hx hb dX4_readsOrder_128 rfl ?_
          refine gt_X4_12 C hin X 1 rfl dX4_readsOrder_129 ?_
          refine lv_aload_n hx hb dX4_readsOrder_132 rfl (lv_at hl 2 rfl) ?_
          refine gt_X4_10 C hin X 2 rfl dX4_readsOrder_133 ?_
          refine lv_if_eq (tgt := 143) hx hb dX4_readsOrder_136 (by decide) (fun c22 => ?_) (fun c22 => ?_)
          · have h := ip h c22
            refine lv_iconst (v := 0) hx hb dX4_readsOrder_143 (by decide) ?_
            refine lv_iadd hx hb dX4_readsOrder_144 ?_
            refine pt_X4_12 C hin X hS 1 rfl dX4_readsOrder_145 (fun H locs X hS => ?_)
            have h := so h
            subst h
            exact W.vret hx hb hr (fun t ht _ => ⟨rfl, by rw [ht]; exact X, hS.F ht⟩) hS.2.2 dX4_readsOrder_148
          · have h := iq h c22
            refine lv_iconst (v := 1) hx hb dX4_readsOrder_139 (by decide) ?_
            refine lv_goto (tgt := 144) hx hb dX4_readsOrder_140 (by decide) ?_
            refine lv_iadd hx hb dX4_readsOrder_144 ?_
            refine pt_X4_12 C hin X hS 1 rfl dX4_readsOrder_145 (fun H locs X hS => ?_)
            have h := so h
            subst h
            exact W.vret hx hb hr (fun t ht _ => ⟨rfl, by rw [ht]; exact X, hS.F ht⟩) hS.2.2 dX4_readsOrder_148
        · have h := ip h c21
          refine lv_aload_n hx hb dX4_readsOrder_107 rfl (lv_at hl 2 rfl) ?_
          refine lv_bipush (v := 61) hx hb dX4_readsOrder_108 (by decide) ?_
          obtain ⟨σ24, hr23, h⟩ := ob h
          refine rowW (As := [.int 61]) (rest := []) C (kX4_wants l G b σ20 61 σ24 hr23) (cwV 1 hts gX4_readsOrder_X4_wants rfl rfl rfl (by decide +kernel) ⟨Nat.le_of_ble_eq_true rfl, Nat.le_of_ble_eq_true rfl⟩) (rcv_X4 X hK) X hS (fun _ z => z) rfl hl.1 rfl (Nat.le_of_ble_eq_true rfl) dX4_readsOrder_110 ⟨Nat.zero_le _, Nat.zero_le _⟩ (fun H locs X hS _ _ => ?_)
          show W p l e _ s m _ below meth c H locs 0 0 _ (F0 m 113 ls [])
          refine lv_aload_n hx hb dX4_readsOrder_113 rfl (lv_at hl 2 rfl) ?_
          refine gt_X4_11 C hin X 4 rfl dX4_readsOrder_114 ?_
          refine lv_iload_n hx hb dX4_readsOrder_117 rfl (lv_at hl 1 rfl) ?_
          refine lv_iconst (v := 2) hx hb dX4_readsOrder_118 (by decide) ?_
          refine lv_iadd hx hb dX4_readsOrder_119 ?_
          refine lv_aload_n hx hb dX4_readsOrder_120 rfl (lv_at hl 2 rfl) ?_
          refine lv_bipush (v := 99) hx hb dX4_readsOrder_121 (by decide) ?_
          obtain ⟨q27, hr25, h⟩ := ob h
          refine rowW (As := [.int 99]) (rest := [.int ((4 * (σ 12 0)) + 2), .ref (b + 6)]) C (kX4_number l G b σ24 99 q27.1 q27.2 hr25) (cwV 1 hts gX4_readsOrder_X4_number rfl rfl rfl (by decide +kernel) ⟨Nat.le_of_ble_eq_true rfl, Nat.le_of_ble_eq_true rfl⟩) (rcv_X4 X hK) X hS (fun _ z => z) rfl hl.1 rfl (Nat.le_of_ble_eq_true rfl) dX4_readsOrder_123 ⟨Nat.zero_le _, Nat.zero_le _⟩ (fun H locs X hS _ _ => ?_)
          show W p l e _ s m _ below meth c H locs 0 0 _ (F0 m 126 ls [.int q27.1, .int ((4 * (σ 12 0)) + 2), .ref (b + 6)])
          obtain ⟨c28, h⟩ := og h
          refine as_X4_11 C X hS rfl c28 dX4_readsOrder_126 (fun H locs X hS => ?_)
          refine lv_aload_n hx hb dX4_readsOrder_127 rfl (lv_at hl 2 rfl) ?_
          refine lv_dup hx hb dX4_readsOrder_128 rfl ?_
          refine gt_X4_12 C hin X 1 rfl dX4_readsOrder_129 ?_
          refine lv_aload_n hx hb dX4_readsOrder_132 rfl (lv_at hl 2 rfl) ?_
          refine gt_X4_10 C hin X 2 rfl dX4_readsOrder_133 ?_
          refine lv_if_eq (tgt := 143) hx hb dX4_readsOrder_136 (by decide) (fun c29 => ?_) (fun c29 => ?_)
          · have h := ip h c29
            refine lv_iconst (v := 0) hx hb dX4_readsOrder_143 (by decide) ?_
            refine lv_iadd hx hb dX4_readsOrder_144 ?_
            refine pt_X4_12 C hin X hS 1 rfl dX4_readsOrder_145 (fun H locs X hS => ?_)
            have h := so h
            subst h
            exact W.vret hx hb hr (fun t ht _ => ⟨rfl, by rw [ht]; exact X, hS.F ht⟩) hS.2.2 dX4_readsOrder_148
          · have h := iq h c29
            refine lv_iconst (v := 1) hx hb dX4_readsOrder_139 (by decide) ?_
            refine lv_goto (tgt := 144) hx hb dX4_readsOrder_140 (by decide) ?_
            refine lv_iadd hx hb dX4_readsOrder_144 ?_
            refine pt_X4_12 C hin X hS 1 rfl dX4_readsOrder_145 (fun H locs X hS => ?_)
            have h := so h
            subst h
            exact W.vret hx hb hr (fun t ht _ => ⟨rfl, by rw [ht]; exact X, hS.F ht⟩) hS.2.2 dX4_readsOrder_148
    · have h := iq h c3
      refine lv_iconst (v := 1) hx hb dX4_readsOrder_57 (by decide) ?_
      refine lv_goto (tgt := 62) hx hb dX4_readsOrder_58 (by decide) ?_
      refine lv_iadd hx hb dX4_readsOrder_62 ?_
      refine pt_X4_9 C hin X hS 3 rfl dX4_readsOrder_63 (fun H locs X hS => ?_)
      refine lv_aload_n hx hb dX4_readsOrder_66 rfl (lv_at hl 2 rfl) ?_
      refine gt_X4_11 C hin X 4 rfl dX4_readsOrder_67 ?_
      refine lv_iload_n hx hb dX4_readsOrder_70 rfl (lv_at hl 1 rfl) ?_
      refine lv_iload_n hx hb dX4_readsOrder_71 rfl (lv_at hl 0 rfl) ?_
      obtain ⟨c30, h⟩ := og h
      refine as_X4_11 C X hS rfl c30 dX4_readsOrder_72 (fun H locs X hS => ?_)
      refine lv_iload_n hx hb dX4_readsOrder_73 rfl (lv_at hl 0 rfl) ?_
      refine lv_bipush (v := 99) hx hb dX4_readsOrder_74 (by decide) ?_
      refine lv_icmp_ne (tgt := 87) hx hb dX4_readsOrder_76 (by decide) (fun c31 => ?_) (fun c31 => ?_)
      · have h := iq h c31
        refine lv_aload_n hx hb dX4_readsOrder_87 rfl (lv_at hl 2 rfl) ?_
        refine gt_X4_11 C hin X 4 rfl dX4_readsOrder_88 ?_
        refine lv_iload_n hx hb dX4_readsOrder_91 rfl (lv_at hl 1 rfl) ?_
        refine lv_iconst (v := 1) hx hb dX4_readsOrder_92 (by decide) ?_
        refine lv_iadd hx hb dX4_readsOrder_93 ?_
        refine lv_aload_n hx hb dX4_readsOrder_94 rfl (lv_at hl 2 rfl) ?_
        refine lv_bipush (v := 23) hx hb dX4_readsOrder_95 (by decide) ?_
        obtain ⟨q34, hr32, h⟩ := ob h
        refine rowW (As := [.int 23]) (rest := [.int ((4 * (σ 12 0)) + 1), .ref (b + 6)]) C (kX4_number l G b (up (up (up σ 10 0 1) 9 0 (((up σ 10 0 1) 9 0) + 1)) 11 (4 * (σ 12 0)).toNatClampNeg r1) 23 q34.1 q34.2 hr32) (cwV 1 hts gX4_readsOrder_X4_number rfl rfl rfl (by decide +kernel) ⟨Nat.le_of_ble_eq_true rfl, Nat.le_of_ble_eq_true rfl⟩) (rcv_X4 X hK) X hS (fun _ z => z) rfl hl.1 rfl (Nat.le_of_ble_eq_true rfl) dX4_readsOrder_97 ⟨Nat.zero_le _, Nat.zero_le _⟩ (fun H locs X hS _ _ => ?_)
        show W p l e _ s m _ below meth c H locs 0 0 _ (F0 m 100 ls [.int q34.1, .int ((4 * (σ 12 0)) + 1), .ref (b + 6)])
        obtain ⟨c35, h⟩ := og h
        refine as_X4_11 C X hS rfl c35 dX4_readsOrder_100 (fun H locs X hS => ?_)
        refine lv_iload_n hx hb dX4_readsOrder_101 rfl (lv_at hl 0 rfl) ?_
        refine lv_bipush (v := 120) hx hb dX4_readsOrder_102 (by decide) ?_
        refine lv_icmp_ne (tgt := 127) hx hb dX4_readsOrder_104 (by decide) (fun c36 => ?_) (fun c36 => ?_)
        · have h := iq h c36
          refine lv_aload_n hx hb dX4_readsOrder_127 rfl (lv_at hl 2 rfl) ?_
          refine lv_dup hx hb dX4_readsOrder_128 rfl ?_
          refine gt_X4_12 C hin X 1 rfl dX4_readsOrder_129 ?_
          refine lv_aload_n hx hb dX4_readsOrder_132 rfl (lv_at hl 2 rfl) ?_
          refine gt_X4_10 C hin X 2 rfl dX4_readsOrder_133 ?_
          refine lv_if_eq (tgt := 143) hx hb dX4_readsOrder_136 (by decide) (fun c37 => ?_) (fun c37 => ?_)
          · have h := ip h c37
            refine lv_iconst (v := 0) hx hb dX4_readsOrder_143 (by decide) ?_
            refine lv_iadd hx hb dX4_readsOrder_144 ?_
            refine pt_X4_12 C hin X hS 1 rfl dX4_readsOrder_145 (fun H locs X hS => ?_)
            have h := so h
            subst h
            exact W.vret hx hb hr (fun t ht _ => ⟨rfl, by rw [ht]; exact X, hS.F ht⟩) hS.2.2 dX4_readsOrder_148
          · have h := iq h c37
            refine lv_iconst (v := 1) hx hb dX4_readsOrder_139 (by decide) ?_
            refine lv_goto (tgt := 144) hx hb dX4_readsOrder_140 (by decide) ?_
            refine lv_iadd hx hb dX4_readsOrder_144 ?_
            refine pt_X4_12 C hin X hS 1 rfl dX4_readsOrder_145 (fun H locs X hS => ?_)
            have h := so h
            subst h
            exact W.vret hx hb hr (fun t ht _ => ⟨rfl, by rw [ht]; exact X, hS.F ht⟩) hS.2.2 dX4_readsOrder_148
        · have h := ip h c36
          refine lv_aload_n hx hb dX4_readsOrder_107 rfl (lv_at hl 2 rfl) ?_
          refine lv_bipush (v := 61) hx hb dX4_readsOrder_108 (by decide) ?_
          obtain ⟨σ39, hr38, h⟩ := ob h
          refine rowW (As := [.int 61]) (rest := []) C (kX4_wants l G b (up q34.2 11 ((4 * (σ 12 0)) + 1).toNatClampNeg q34.1) 61 σ39 hr38) (cwV 1 hts gX4_readsOrder_X4_wants rfl rfl rfl (by decide +kernel) ⟨Nat.le_of_ble_eq_true rfl, Nat.le_of_ble_eq_true rfl⟩) (rcv_X4 X hK) X hS (fun _ z => z) rfl hl.1 rfl (Nat.le_of_ble_eq_true rfl) dX4_readsOrder_110 ⟨Nat.zero_le _, Nat.zero_le _⟩ (fun H locs X hS _ _ => ?_)
          show W p l e _ s m _ below meth c H locs 0 0 _ (F0 m 113 ls [])
          refine lv_aload_n hx hb dX4_readsOrder_113 rfl (lv_at hl 2 rfl) ?_
          refine gt_X4_11 C hin X 4 rfl dX4_readsOrder_114 ?_
          refine lv_iload_n hx hb dX4_readsOrder_117 rfl (lv_at hl 1 rfl) ?_
          refine lv_iconst (v := 2) hx hb dX4_readsOrder_118 (by decide) ?_
          refine lv_iadd hx hb dX4_readsOrder_119 ?_
          refine lv_aload_n hx hb dX4_readsOrder_120 rfl (lv_at hl 2 rfl) ?_
          refine lv_bipush (v := 99) hx hb dX4_readsOrder_121 (by decide) ?_
          obtain ⟨q42, hr40, h⟩ := ob h
          refine rowW (As := [.int 99]) (rest := [.int ((4 * (σ 12 0)) + 2), .ref (b + 6)]) C (kX4_number l G b σ39 99 q42.1 q42.2 hr40) (cwV 1 hts gX4_readsOrder_X4_number rfl rfl rfl (by decide +kernel) ⟨Nat.le_of_ble_eq_true rfl, Nat.le_of_ble_eq_true rfl⟩) (rcv_X4 X hK) X hS (fun _ z => z) rfl hl.1 rfl (Nat.le_of_ble_eq_true rfl) dX4_readsOrder_123 ⟨Nat.zero_le _, Nat.zero_le _⟩ (fun H locs X hS _ _ => ?_)
          show W p l e _ s m _ below meth c H locs 0 0 _ (F0 m 126 ls [.int q42.1, .int ((4 * (σ 12 0)) + 2), .ref (b + 6)])
          obtain ⟨c43, h⟩ := og h
          refine as_X4_11 C X hS rfl c43 dX4_readsOrder_126 (fun H locs X hS => ?_)
          refine lv_aload_n hx hb dX4_readsOrder_127 rfl (lv_at hl 2 rfl) ?_
          refine lv_dup hx hb dX4_readsOrder_128 rfl ?_
          refine gt_X4_12 C hin X 1 rfl dX4_readsOrder_129 ?_
          refine lv_aload_n hx hb dX4_readsOrder_132 rfl (lv_at hl 2 rfl) ?_
          refine gt_X4_10 C hin X 2 rfl dX4_readsOrder_133 ?_
          refine lv_if_eq (tgt := 143) hx hb dX4_readsOrder_136 (by decide) (fun c44 => ?_) (fun c44 => ?_)
          · have h := ip h c44
            refine lv_iconst (v := 0) hx hb dX4_readsOrder_143 (by decide) ?_
            refine lv_iadd hx hb dX4_readsOrder_144 ?_
            refine pt_X4_12 C hin X hS 1 rfl dX4_readsOrder_145 (fun H locs X hS => ?_)
            have h := so h
            subst h
            exact W.vret hx hb hr (fun t ht _ => ⟨rfl, by rw [ht]; exact X, hS.F ht⟩) hS.2.2 dX4_readsOrder_148
          · have h := iq h c44
            refine lv_iconst (v := 1) hx hb dX4_readsOrder_139 (by decide) ?_
            refine lv_goto (tgt := 144) hx hb dX4_readsOrder_140 (by decide) ?_
            refine lv_iadd hx hb dX4_readsOrder_144 ?_
            refine pt_X4_12 C hin X hS 1 rfl dX4_readsOrder_145 (fun H locs X hS => ?_)
            have h := so h
            subst h
            exact W.vret hx hb hr (fun t ht _ => ⟨rfl, by rw [ht]; exact X, hS.F ht⟩) hS.2.2 dX4_readsOrder_148
      · have h := ip h c31
        refine lv_aload_n hx hb dX4_readsOrder_79 rfl (lv_at hl 2 rfl) ?_
        refine lv_iload_n hx hb dX4_readsOrder_80 rfl (lv_at hl 1 rfl) ?_
        obtain ⟨σ46, hr45, h⟩ := ob h
        refine rowW (As := [.int (4 * (σ 12 0))]) (rest := []) C (kX4_readsCart l G b (up (up (up σ 10 0 1) 9 0 (((up σ 10 0 1) 9 0) + 1)) 11 (4 * (σ 12 0)).toNatClampNeg r1) (4 * (σ 12 0)) σ46 hr45) (cwV 1 hts gX4_readsOrder_X4_readsCart rfl rfl rfl (by decide +kernel) ⟨Nat.le_of_ble_eq_true rfl, Nat.le_of_ble_eq_true rfl⟩) (rcv_X4 X hK) X hS (fun _ z => z) rfl hl.1 rfl (Nat.le_of_ble_eq_true rfl) dX4_readsOrder_81 ⟨Nat.zero_le _, Nat.zero_le _⟩ (fun H locs X hS _ _ => ?_)
        show W p l e _ s m _ below meth c H locs 0 0 _ (F0 m 84 ls [])
        refine lv_goto (tgt := 101) hx hb dX4_readsOrder_84 (by decide) ?_
        refine lv_iload_n hx hb dX4_readsOrder_101 rfl (lv_at hl 0 rfl) ?_
        refine lv_bipush (v := 120) hx hb dX4_readsOrder_102 (by decide) ?_
        refine lv_icmp_ne (tgt := 127) hx hb dX4_readsOrder_104 (by decide) (fun c47 => ?_) (fun c47 => ?_)
        · have h := iq h c47
          refine lv_aload_n hx hb dX4_readsOrder_127 rfl (lv_at hl 2 rfl) ?_
          refine lv_dup hx hb dX4_readsOrder_128 rfl ?_
          refine gt_X4_12 C hin X 1 rfl dX4_readsOrder_129 ?_
          refine lv_aload_n hx hb dX4_readsOrder_132 rfl (lv_at hl 2 rfl) ?_
          refine gt_X4_10 C hin X 2 rfl dX4_readsOrder_133 ?_
          refine lv_if_eq (tgt := 143) hx hb dX4_readsOrder_136 (by decide) (fun c48 => ?_) (fun c48 => ?_)
          · have h := ip h c48
            refine lv_iconst (v := 0) hx hb dX4_readsOrder_143 (by decide) ?_
            refine lv_iadd hx hb dX4_readsOrder_144 ?_
            refine pt_X4_12 C hin X hS 1 rfl dX4_readsOrder_145 (fun H locs X hS => ?_)
            have h := so h
            subst h
            exact W.vret hx hb hr (fun t ht _ => ⟨rfl, by rw [ht]; exact X, hS.F ht⟩) hS.2.2 dX4_readsOrder_148
          · have h := iq h c48
            refine lv_iconst (v := 1) hx hb dX4_readsOrder_139 (by decide) ?_
            refine lv_goto (tgt := 144) hx hb dX4_readsOrder_140 (by decide) ?_
            refine lv_iadd hx hb dX4_readsOrder_144 ?_
            refine pt_X4_12 C hin X hS 1 rfl dX4_readsOrder_145 (fun H locs X hS => ?_)
            have h := so h
            subst h
            exact W.vret hx hb hr (fun t ht _ => ⟨rfl, by rw [ht]; exact X, hS.F ht⟩) hS.2.2 dX4_readsOrder_148
        · have h := ip h c47
          refine lv_aload_n hx hb dX4_readsOrder_107 rfl (lv_at hl 2 rfl) ?_
          refine lv_bipush (v := 61) hx hb dX4_readsOrder_108 (by decide) ?_
          obtain ⟨σ50, hr49, h⟩ := ob h
          refine rowW (As := [.int 61]) (rest := []) C (kX4_wants l G b σ46 61 σ50 hr49) (cwV 1 hts gX4_readsOrder_X4_wants rfl rfl rfl (by decide +kernel) ⟨Nat.le_of_ble_eq_true rfl, Nat.le_of_ble_eq_true rfl⟩) (rcv_X4 X hK) X hS (fun _ z => z) rfl hl.1 rfl (Nat.le_of_ble_eq_true rfl) dX4_readsOrder_110 ⟨Nat.zero_le _, Nat.zero_le _⟩ (fun H locs X hS _ _ => ?_)
          show W p l e _ s m _ below meth c H locs 0 0 _ (F0 m 113 ls [])
          refine lv_aload_n hx hb dX4_readsOrder_113 rfl (lv_at hl 2 rfl) ?_
          refine gt_X4_11 C hin X 4 rfl dX4_readsOrder_114 ?_
          refine lv_iload_n hx hb dX4_readsOrder_117 rfl (lv_at hl 1 rfl) ?_
          refine lv_iconst (v := 2) hx hb dX4_readsOrder_118 (by decide) ?_
          refine lv_iadd hx hb dX4_readsOrder_119 ?_
          refine lv_aload_n hx hb dX4_readsOrder_120 rfl (lv_at hl 2 rfl) ?_
          refine lv_bipush (v := 99) hx hb dX4_readsOrder_121 (by decide) ?_
          obtain ⟨q53, hr51, h⟩ := ob h
          refine rowW (As := [.int 99]) (rest := [.int ((4 * (σ 12 0)) + 2), .ref (b + 6)]) C (kX4_number l G b σ50 99 q53.1 q53.2 hr51) (cwV 1 hts gX4_readsOrder_X4_number rfl rfl rfl (by decide +kernel) ⟨Nat.le_of_ble_eq_true rfl, Nat.le_of_ble_eq_true rfl⟩) (rcv_X4 X hK) X hS (fun _ z => z) rfl hl.1 rfl (Nat.le_of_ble_eq_true rfl) dX4_readsOrder_123 ⟨Nat.zero_le _, Nat.zero_le _⟩ (fun H locs X hS _ _ => ?_)
          show W p l e _ s m _ below meth c H locs 0 0 _ (F0 m 126 ls [.int q53.1, .int ((4 * (σ 12 0)) + 2), .ref (b + 6)])
          obtain ⟨c54, h⟩ := og h
          refine as_X4_11 C X hS rfl c54 dX4_readsOrder_126 (fun H locs X hS => ?_)
          refine lv_aload_n hx hb dX4_readsOrder_127 rfl (lv_at hl 2 rfl) ?_
          refine lv_dup hx hb dX4_readsOrder_128 rfl ?_
          refine gt_X4_12 C hin X 1 rfl dX4_readsOrder_129 ?_
          refine lv_aload_n hx hb dX4_readsOrder_132 rfl (lv_at hl 2 rfl) ?_
          refine gt_X4_10 C hin X 2 rfl dX4_readsOrder_133 ?_
          refine lv_if_eq (tgt := 143) hx hb dX4_readsOrder_136 (by decide) (fun c55 => ?_) (fun c55 => ?_)
          · have h := ip h c55
            refine lv_iconst (v := 0) hx hb dX4_readsOrder_143 (by decide) ?_
            refine lv_iadd hx hb dX4_readsOrder_144 ?_
            refine pt_X4_12 C hin X hS 1 rfl dX4_readsOrder_145 (fun H locs X hS => ?_)
            have h := so h
            subst h
            exact W.vret hx hb hr (fun t ht _ => ⟨rfl, by rw [ht]; exact X, hS.F ht⟩) hS.2.2 dX4_readsOrder_148
          · have h := iq h c55
            refine lv_iconst (v := 1) hx hb dX4_readsOrder_139 (by decide) ?_
            refine lv_goto (tgt := 144) hx hb dX4_readsOrder_140 (by decide) ?_
            refine lv_iadd hx hb dX4_readsOrder_144 ?_
            refine pt_X4_12 C hin X hS 1 rfl dX4_readsOrder_145 (fun H locs X hS => ?_)
            have h := so h
            subst h
            exact W.vret hx hb hr (fun t ht _ => ⟨rfl, by rw [ht]; exact X, hS.F ht⟩) hS.2.2 dX4_readsOrder_148
  · have h := iq h c2
    refine lv_iload_n hx hb dX4_readsOrder_19 rfl (lv_at hl 0 rfl) ?_
    refine lv_bipush (v := 111) hx hb dX4_readsOrder_20 (by decide) ?_
    refine lv_icmp_eq (tgt := 37) hx hb dX4_readsOrder_22 (by decide) (fun c56 => ?_) (fun c56 => ?_)
    · have h := ip h c56
      refine lv_iconst (v := 1) hx hb dX4_readsOrder_37 (by decide) ?_
      refine lv_goto (tgt := 42) hx hb dX4_readsOrder_38 (by decide) ?_
      refine pt_X4_10 C hin X hS 2 rfl rfl (by decide) dX4_readsOrder_42 (fun H locs X hS => ?_)
      refine lv_aload_n hx hb dX4_readsOrder_45 rfl (lv_at hl 2 rfl) ?_
      refine lv_dup hx hb dX4_readsOrder_46 rfl ?_
      refine gt_X4_9 C hin X 3 rfl dX4_readsOrder_47 ?_
      refine lv_aload_n hx hb dX4_readsOrder_50 rfl (lv_at hl 2 rfl) ?_
      refine gt_X4_10 C hin X 2 rfl dX4_readsOrder_51 ?_
      refine lv_if_eq (tgt := 61) hx hb dX4_readsOrder_54 (by decide) (fun c57 => ?_) (fun c57 => ?_)
      · have h := ip h c57
        refine lv_iconst (v := 0) hx hb dX4_readsOrder_61 (by decide) ?_
        refine lv_iadd hx hb dX4_readsOrder_62 ?_
        refine pt_X4_9 C hin X hS 3 rfl dX4_readsOrder_63 (fun H locs X hS => ?_)
        refine lv_aload_n hx hb dX4_readsOrder_66 rfl (lv_at hl 2 rfl) ?_
        refine gt_X4_11 C hin X 4 rfl dX4_readsOrder_67 ?_
        refine lv_iload_n hx hb dX4_readsOrder_70 rfl (lv_at hl 1 rfl) ?_
        refine lv_iload_n hx hb dX4_readsOrder_71 rfl (lv_at hl 0 rfl) ?_
        obtain ⟨c58, h⟩ := og h
        refine as_X4_11 C X hS rfl c58 dX4_readsOrder_72 (fun H locs X hS => ?_)
        refine lv_iload_n hx hb dX4_readsOrder_73 rfl (lv_at hl 0 rfl) ?_
        refine lv_bipush (v := 99) hx hb dX4_readsOrder_74 (by decide) ?_
        refine lv_icmp_ne (tgt := 87) hx hb dX4_readsOrder_76 (by decide) (fun c59 => ?_) (fun c59 => ?_)
        · have h := iq h c59
          refine lv_aload_n hx hb dX4_readsOrder_87 rfl (lv_at hl 2 rfl) ?_
          refine gt_X4_11 C hin X 4 rfl dX4_readsOrder_88 ?_
          refine lv_iload_n hx hb dX4_readsOrder_91 rfl (lv_at hl 1 rfl) ?_
          refine lv_iconst (v := 1) hx hb dX4_readsOrder_92 (by decide) ?_
          refine lv_iadd hx hb dX4_readsOrder_93 ?_
          refine lv_aload_n hx hb dX4_readsOrder_94 rfl (lv_at hl 2 rfl) ?_
          refine lv_bipush (v := 23) hx hb dX4_readsOrder_95 (by decide) ?_
          obtain ⟨q62, hr60, h⟩ := ob h
          refine rowW (As := [.int 23]) (rest := [.int ((4 * (σ 12 0)) + 1), .ref (b + 6)]) C (kX4_number l G b (up (up (up σ 10 0 1) 9 0 (((up σ 10 0 1) 9 0) + 0)) 11 (4 * (σ 12 0)).toNatClampNeg r1) 23 q62.1 q62.2 hr60) (cwV 1 hts gX4_readsOrder_X4_number rfl rfl rfl (by decide +kernel) ⟨Nat.le_of_ble_eq_true rfl, Nat.le_of_ble_eq_true rfl⟩) (rcv_X4 X hK) X hS (fun _ z => z) rfl hl.1 rfl (Nat.le_of_ble_eq_true rfl) dX4_readsOrder_97 ⟨Nat.zero_le _, Nat.zero_le _⟩ (fun H locs X hS _ _ => ?_)
          show W p l e _ s m _ below meth c H locs 0 0 _ (F0 m 100 ls [.int q62.1, .int ((4 * (σ 12 0)) + 1), .ref (b + 6)])
          obtain ⟨c63, h⟩ := og h
          refine as_X4_11 C X hS rfl c63 dX4_readsOrder_100 (fun H locs X hS => ?_)
          refine lv_iload_n hx hb dX4_readsOrder_101 rfl (lv_at hl 0 rfl) ?_
          refine lv_bipush (v := 120) hx hb dX4_readsOrder_102 (by decide) ?_
          refine lv_icmp_ne (tgt := 127) hx hb dX4_readsOrder_104 (by decide) (fun c64 => ?_) (fun c64 => ?_)
          · have h := iq h c64
            refine lv_aload_n hx hb dX4_readsOrder_127 rfl (lv_at hl 2 rfl) ?_
            refine lv_dup hx hb dX4_readsOrder_128 rfl ?_
            refine gt_X4_12 C hin X 1 rfl dX4_readsOrder_129 ?_
            refine lv_aload_n hx hb dX4_readsOrder_132 rfl (lv_at hl 2 rfl) ?_
            refine gt_X4_10 C hin X 2 rfl dX4_readsOrder_133 ?_
            refine lv_if_eq (tgt := 143) hx hb dX4_readsOrder_136 (by decide) (fun c65 => ?_) (fun c65 => ?_)
            · have h := ip h c65
              refine lv_iconst (v := 0) hx hb dX4_readsOrder_143 (by decide) ?_
              refine lv_iadd hx hb dX4_readsOrder_144 ?_
              refine pt_X4_12 C hin X hS 1 rfl dX4_readsOrder_145 (fun H locs X hS => ?_)
              have h := so h
              subst h
              exact W.vret hx hb hr (fun t ht _ => ⟨rfl, by rw [ht]; exact X, hS.F ht⟩) hS.2.2 dX4_readsOrder_148
            · have h := iq h c65
              refine lv_iconst (v := 1) hx hb dX4_readsOrder_139 (by decide) ?_
              refine lv_goto (tgt := 144) hx hb dX4_readsOrder_140 (by decide) ?_
              refine lv_iadd hx hb dX4_readsOrder_144 ?_
              refine pt_X4_12 C hin X hS 1 rfl dX4_readsOrder_145 (fun H locs X hS => ?_)
              have h := so h
              subst h
              exact W.vret hx hb hr (fun t ht _ => ⟨rfl, by rw [ht]; exact X, hS.F ht⟩) hS.2.2 dX4_readsOrder_148
          · have h := ip h c64
            refine lv_aload_n hx hb dX4_readsOrder_107 rfl (lv_at hl 2 rfl) ?_
            refine lv_bipush (v := 61) hx hb dX4_readsOrder_108 (by decide) ?_
            obtain ⟨σ67, hr66, h⟩ := ob h
            refine rowW (As := [.int 61]) (rest := []) C (kX4_wants l G b (up q62.2 11 ((4 * (σ 12 0)) + 1).toNatClampNeg q62.1) 61 σ67 hr66) (cwV 1 hts gX4_readsOrder_X4_wants rfl rfl rfl (by decide +kernel) ⟨Nat.le_of_ble_eq_true rfl, Nat.le_of_ble_eq_true rfl⟩) (rcv_X4 X hK) X hS (fun _ z => z) rfl hl.1 rfl (Nat.le_of_ble_eq_true rfl) dX4_readsOrder_110 ⟨Nat.zero_le _, Nat.zero_le _⟩ (fun H locs X hS _ _ => ?_)
            show W p l e _ s m _ below meth c H locs 0 0 _ (F0 m 113 ls [])
            refine lv_aload_n hx hb dX4_readsOrder_113 rfl (lv_at hl 2 rfl) ?_
            refine gt_X4_11 C hin X 4 rfl dX4_readsOrder_114 ?_
            refine lv_iload_n hx hb dX4_readsOrder_117 rfl (lv_at hl 1 rfl) ?_
            refine lv_iconst (v := 2) hx hb dX4_readsOrder_118 (by decide) ?_
            refine lv_iadd hx hb dX4_readsOrder_119 ?_
            refine lv_aload_n hx hb dX4_readsOrder_120 rfl (lv_at hl 2 rfl) ?_
            refine lv_bipush (v := 99) hx hb dX4_readsOrder_121 (by decide) ?_
            obtain ⟨q70, hr68, h⟩ := ob h
            refine rowW (As := [.int 99]) (rest := [.int ((4 * (σ 12 0)) + 2), .ref (b + 6)]) C (kX4_number l G b σ67 99 q70.1 q70.2 hr68) (cwV 1 hts gX4_readsOrder_X4_number rfl rfl rfl (by decide +kernel) ⟨Nat.le_of_ble_eq_true rfl, Nat.le_of_ble_eq_true rfl⟩) (rcv_X4 X hK) X hS (fun _ z => z) rfl hl.1 rfl (Nat.le_of_ble_eq_true rfl) dX4_readsOrder_123 ⟨Nat.zero_le _, Nat.zero_le _⟩ (fun H locs X hS _ _ => ?_)
            show W p l e _ s m _ below meth c H locs 0 0 _ (F0 m 126 ls [.int q70.1, .int ((4 * (σ 12 0)) + 2), .ref (b + 6)])
            obtain ⟨c71, h⟩ := og h
            refine as_X4_11 C X hS rfl c71 dX4_readsOrder_126 (fun H locs X hS => ?_)
            refine lv_aload_n hx hb dX4_readsOrder_127 rfl (lv_at hl 2 rfl) ?_
            refine lv_dup hx hb dX4_readsOrder_128 rfl ?_
            refine gt_X4_12 C hin X 1 rfl dX4_readsOrder_129 ?_
            refine lv_aload_n hx hb dX4_readsOrder_132 rfl (lv_at hl 2 rfl) ?_
            refine gt_X4_10 C hin X 2 rfl dX4_readsOrder_133 ?_
            refine lv_if_eq (tgt := 143) hx hb dX4_readsOrder_136 (by decide) (fun c72 => ?_) (fun c72 => ?_)
            · have h := ip h c72
              refine lv_iconst (v := 0) hx hb dX4_readsOrder_143 (by decide) ?_
              refine lv_iadd hx hb dX4_readsOrder_144 ?_
              refine pt_X4_12 C hin X hS 1 rfl dX4_readsOrder_145 (fun H locs X hS => ?_)
              have h := so h
              subst h
              exact W.vret hx hb hr (fun t ht _ => ⟨rfl, by rw [ht]; exact X, hS.F ht⟩) hS.2.2 dX4_readsOrder_148
            · have h := iq h c72
              refine lv_iconst (v := 1) hx hb dX4_readsOrder_139 (by decide) ?_
              refine lv_goto (tgt := 144) hx hb dX4_readsOrder_140 (by decide) ?_
              refine lv_iadd hx hb dX4_readsOrder_144 ?_
              refine pt_X4_12 C hin X hS 1 rfl dX4_readsOrder_145 (fun H locs X hS => ?_)
              have h := so h
              subst h
              exact W.vret hx hb hr (fun t ht _ => ⟨rfl, by rw [ht]; exact X, hS.F ht⟩) hS.2.2 dX4_readsOrder_148
        · have h := ip h c59
          refine lv_aload_n hx hb dX4_readsOrder_79 rfl (lv_at hl 2 rfl) ?_
          refine lv_iload_n hx hb dX4_readsOrder_80 rfl (lv_at hl 1 rfl) ?_
          obtain ⟨σ74, hr73, h⟩ := ob h
          refine rowW (As := [.int (4 * (σ 12 0))]) (rest := []) C (kX4_readsCart l G b (up (up (up σ 10 0 1) 9 0 (((up σ 10 0 1) 9 0) + 0)) 11 (4 * (σ 12 0)).toNatClampNeg r1) (4 * (σ 12 0)) σ74 hr73) (cwV 1 hts gX4_readsOrder_X4_readsCart rfl rfl rfl (by decide +kernel) ⟨Nat.le_of_ble_eq_true rfl, Nat.le_of_ble_eq_true rfl⟩) (rcv_X4 X hK) X hS (fun _ z => z) rfl hl.1 rfl (Nat.le_of_ble_eq_true rfl) dX4_readsOrder_81 ⟨Nat.zero_le _, Nat.zero_le _⟩ (fun H locs X hS _ _ => ?_)
          show W p l e _ s m _ below meth c H locs 0 0 _ (F0 m 84 ls [])
          refine lv_goto (tgt := 101) hx hb dX4_readsOrder_84 (by decide) ?_
          refine lv_iload_n hx hb dX4_readsOrder_101 rfl (lv_at hl 0 rfl) ?_
          refine lv_bipush (v := 120) hx hb dX4_readsOrder_102 (by decide) ?_
          refine lv_icmp_ne (tgt := 127) hx hb dX4_readsOrder_104 (by decide) (fun c75 => ?_) (fun c75 => ?_)
          · have h := iq h c75
            refine lv_aload_n hx hb dX4_readsOrder_127 rfl (lv_at hl 2 rfl) ?_
            refine lv_dup hx hb dX4_readsOrder_128 rfl ?_
            refine gt_X4_12 C hin X 1 rfl dX4_readsOrder_129 ?_
            refine lv_aload_n hx hb dX4_readsOrder_132 rfl (lv_at hl 2 rfl) ?_
            refine gt_X4_10 C hin X 2 rfl dX4_readsOrder_133 ?_
            refine lv_if_eq (tgt := 143) hx hb dX4_readsOrder_136 (by decide) (fun c76 => ?_) (fun c76 => ?_)
            · have h := ip h c76
              refine lv_iconst (v := 0) hx hb dX4_readsOrder_143 (by decide) ?_
              refine lv_iadd hx hb dX4_readsOrder_144 ?_
              refine pt_X4_12 C hin X hS 1 rfl dX4_readsOrder_145 (fun H locs X hS => ?_)
              have h := so h
              subst h
              exact W.vret hx hb hr (fun t ht _ => ⟨rfl, by rw [ht]; exact X, hS.F ht⟩) hS.2.2 dX4_readsOrder_148
            · have h := iq h c76
              refine lv_iconst (v := 1) hx hb dX4_readsOrder_139 (by decide) ?_
              refine lv_goto (tgt := 144) hx hb dX4_readsOrder_140 (by decide) ?_
              refine lv_iadd hx hb dX4_readsOrder_144 ?_
              refine pt_X4_12 C hin X hS 1 rfl dX4_readsOrder_145 (fun H locs X hS => ?_)
              have h := so h
              subst h
              exact W.vret hx hb hr (fun t ht _ => ⟨rfl, by rw [ht]; exact X, hS.F ht⟩) hS.2.2 dX4_readsOrder_148
          · have h := ip h c75
            refine lv_aload_n hx hb dX4_readsOrder_107 rfl (lv_at hl 2 rfl) ?_
            refine lv_bipush (v := 61) hx hb dX4_readsOrder_108 (by decide) ?_
            obtain ⟨σ78, hr77, h⟩ := ob h
            refine rowW (As := [.int 61]) (rest := []) C (kX4_wants l G b σ74 61 σ78 hr77) (cwV 1 hts gX4_readsOrder_X4_wants rfl rfl rfl (by decide +kernel) ⟨Nat.le_of_ble_eq_true rfl, Nat.le_of_ble_eq_true rfl⟩) (rcv_X4 X hK) X hS (fun _ z => z) rfl hl.1 rfl (Nat.le_of_ble_eq_true rfl) dX4_readsOrder_110 ⟨Nat.zero_le _, Nat.zero_le _⟩ (fun H locs X hS _ _ => ?_)
            show W p l e _ s m _ below meth c H locs 0 0 _ (F0 m 113 ls [])
            refine lv_aload_n hx hb dX4_readsOrder_113 rfl (lv_at hl 2 rfl) ?_
            refine gt_X4_11 C hin X 4 rfl dX4_readsOrder_114 ?_
            refine lv_iload_n hx hb dX4_readsOrder_117 rfl (lv_at hl 1 rfl) ?_
            refine lv_iconst (v := 2) hx hb dX4_readsOrder_118 (by decide) ?_
            refine lv_iadd hx hb dX4_readsOrder_119 ?_
            refine lv_aload_n hx hb dX4_readsOrder_120 rfl (lv_at hl 2 rfl) ?_
            refine lv_bipush (v := 99) hx hb dX4_readsOrder_121 (by decide) ?_
            obtain ⟨q81, hr79, h⟩ := ob h
            refine rowW (As := [.int 99]) (rest := [.int ((4 * (σ 12 0)) + 2), .ref (b + 6)]) C (kX4_number l G b σ78 99 q81.1 q81.2 hr79) (cwV 1 hts gX4_readsOrder_X4_number rfl rfl rfl (by decide +kernel) ⟨Nat.le_of_ble_eq_true rfl, Nat.le_of_ble_eq_true rfl⟩) (rcv_X4 X hK) X hS (fun _ z => z) rfl hl.1 rfl (Nat.le_of_ble_eq_true rfl) dX4_readsOrder_123 ⟨Nat.zero_le _, Nat.zero_le _⟩ (fun H locs X hS _ _ => ?_)
            show W p l e _ s m _ below meth c H locs 0 0 _ (F0 m 126 ls [.int q81.1, .int ((4 * (σ 12 0)) + 2), .ref (b + 6)])
            obtain ⟨c82, h⟩ := og h
            refine as_X4_11 C X hS rfl c82 dX4_readsOrder_126 (fun H locs X hS => ?_)
            refine lv_aload_n hx hb dX4_readsOrder_127 rfl (lv_at hl 2 rfl) ?_
            refine lv_dup hx hb dX4_readsOrder_128 rfl ?_
            refine gt_X4_12 C hin X 1 rfl dX4_readsOrder_129 ?_
            refine lv_aload_n hx hb dX4_readsOrder_132 rfl (lv_at hl 2 rfl) ?_
            refine gt_X4_10 C hin X 2 rfl dX4_readsOrder_133 ?_
            refine lv_if_eq (tgt := 143) hx hb dX4_readsOrder_136 (by decide) (fun c83 => ?_) (fun c83 => ?_)
            · have h := ip h c83
              refine lv_iconst (v := 0) hx hb dX4_readsOrder_143 (by decide) ?_
              refine lv_iadd hx hb dX4_readsOrder_144 ?_
              refine pt_X4_12 C hin X hS 1 rfl dX4_readsOrder_145 (fun H locs X hS => ?_)
              have h := so h
              subst h
              exact W.vret hx hb hr (fun t ht _ => ⟨rfl, by rw [ht]; exact X, hS.F ht⟩) hS.2.2 dX4_readsOrder_148
            · have h := iq h c83
              refine lv_iconst (v := 1) hx hb dX4_readsOrder_139 (by decide) ?_
              refine lv_goto (tgt := 144) hx hb dX4_readsOrder_140 (by decide) ?_
              refine lv_iadd hx hb dX4_readsOrder_144 ?_
              refine pt_X4_12 C hin X hS 1 rfl dX4_readsOrder_145 (fun H locs X hS => ?_)
              have h := so h
              subst h
              exact W.vret hx hb hr (fun t ht _ => ⟨rfl, by rw [ht]; exact X, hS.F ht⟩) hS.2.2 dX4_readsOrder_148
      · have h := iq h c57
        refine lv_iconst (v := 1) hx hb dX4_readsOrder_57 (by decide) ?_
        refine lv_goto (tgt := 62) hx hb dX4_readsOrder_58 (by decide) ?_
        refine lv_iadd hx hb dX4_readsOrder_62 ?_
        refine pt_X4_9 C hin X hS 3 rfl dX4_readsOrder_63 (fun H locs X hS => ?_)
        refine lv_aload_n hx hb dX4_readsOrder_66 rfl (lv_at hl 2 rfl) ?_
        refine gt_X4_11 C hin X 4 rfl dX4_readsOrder_67 ?_
        refine lv_iload_n hx hb dX4_readsOrder_70 rfl (lv_at hl 1 rfl) ?_
        refine lv_iload_n hx hb dX4_readsOrder_71 rfl (lv_at hl 0 rfl) ?_
        obtain ⟨c84, h⟩ := og h
        refine as_X4_11 C X hS rfl c84 dX4_readsOrder_72 (fun H locs X hS => ?_)
        refine lv_iload_n hx hb dX4_readsOrder_73 rfl (lv_at hl 0 rfl) ?_
        refine lv_bipush (v := 99) hx hb dX4_readsOrder_74 (by decide) ?_
        refine lv_icmp_ne (tgt := 87) hx hb dX4_readsOrder_76 (by decide) (fun c85 => ?_) (fun c85 => ?_)
        · have h := iq h c85
          refine lv_aload_n hx hb dX4_readsOrder_87 rfl (lv_at hl 2 rfl) ?_
          refine gt_X4_11 C hin X 4 rfl dX4_readsOrder_88 ?_
          refine lv_iload_n hx hb dX4_readsOrder_91 rfl (lv_at hl 1 rfl) ?_
          refine lv_iconst (v := 1) hx hb dX4_readsOrder_92 (by decide) ?_
          refine lv_iadd hx hb dX4_readsOrder_93 ?_
          refine lv_aload_n hx hb dX4_readsOrder_94 rfl (lv_at hl 2 rfl) ?_
          refine lv_bipush (v := 23) hx hb dX4_readsOrder_95 (by decide) ?_
          obtain ⟨q88, hr86, h⟩ := ob h
          refine rowW (As := [.int 23]) (rest := [.int ((4 * (σ 12 0)) + 1), .ref (b + 6)]) C (kX4_number l G b (up (up (up σ 10 0 1) 9 0 (((up σ 10 0 1) 9 0) + 1)) 11 (4 * (σ 12 0)).toNatClampNeg r1) 23 q88.1 q88.2 hr86) (cwV 1 hts gX4_readsOrder_X4_number rfl rfl rfl (by decide +kernel) ⟨Nat.le_of_ble_eq_true rfl, Nat.le_of_ble_eq_true rfl⟩) (rcv_X4 X hK) X hS (fun _ z => z) rfl hl.1 rfl (Nat.le_of_ble_eq_true rfl) dX4_readsOrder_97 ⟨Nat.zero_le _, Nat.zero_le _⟩ (fun H locs X hS _ _ => ?_)
          show W p l e _ s m _ below meth c H locs 0 0 _ (F0 m 100 ls [.int q88.1, .int ((4 * (σ 12 0)) + 1), .ref (b + 6)])
          obtain ⟨c89, h⟩ := og h
          refine as_X4_11 C X hS rfl c89 dX4_readsOrder_100 (fun H locs X hS => ?_)
          refine lv_iload_n hx hb dX4_readsOrder_101 rfl (lv_at hl 0 rfl) ?_
          refine lv_bipush (v := 120) hx hb dX4_readsOrder_102 (by decide) ?_
          refine lv_icmp_ne (tgt := 127) hx hb dX4_readsOrder_104 (by decide) (fun c90 => ?_) (fun c90 => ?_)
          · have h := iq h c90
            refine lv_aload_n hx hb dX4_readsOrder_127 rfl (lv_at hl 2 rfl) ?_
            refine lv_dup hx hb dX4_readsOrder_128 rfl ?_
            refine gt_X4_12 C hin X 1 rfl dX4_readsOrder_129 ?_
            refine lv_aload_n hx hb dX4_readsOrder_132 rfl (lv_at hl 2 rfl) ?_
            refine gt_X4_10 C hin X 2 rfl dX4_readsOrder_133 ?_
            refine lv_if_eq (tgt := 143) hx hb dX4_readsOrder_136 (by decide) (fun c91 => ?_) (fun c91 => ?_)
            · have h := ip h c91
              refine lv_iconst (v := 0) hx hb dX4_readsOrder_143 (by decide) ?_
              refine lv_iadd hx hb dX4_readsOrder_144 ?_
              refine pt_X4_12 C hin X hS 1 rfl dX4_readsOrder_145 (fun H locs X hS => ?_)
              have h := so h
              subst h
              exact W.vret hx hb hr (fun t ht _ => ⟨rfl, by rw [ht]; exact X, hS.F ht⟩) hS.2.2 dX4_readsOrder_148
            · have h := iq h c91
              refine lv_iconst (v := 1) hx hb dX4_readsOrder_139 (by decide) ?_
              refine lv_goto (tgt := 144) hx hb dX4_readsOrder_140 (by decide) ?_
              refine lv_iadd hx hb dX4_readsOrder_144 ?_
              refine pt_X4_12 C hin X hS 1 rfl dX4_readsOrder_145 (fun H locs X hS => ?_)
              have h := so h
              subst h
              exact W.vret hx hb hr (fun t ht _ => ⟨rfl, by rw [ht]; exact X, hS.F ht⟩) hS.2.2 dX4_readsOrder_148
          · have h := ip h c90
            refine lv_aload_n hx hb dX4_readsOrder_107 rfl (lv_at hl 2 rfl) ?_
            refine lv_bipush (v := 61) hx hb dX4_readsOrder_108 (by decide) ?_
            obtain ⟨σ93, hr92, h⟩ := ob h
            refine rowW (As := [.int 61]) (rest := []) C (kX4_wants l G b (up q88.2 11 ((4 * (σ 12 0)) + 1).toNatClampNeg q88.1) 61 σ93 hr92) (cwV 1 hts gX4_readsOrder_X4_wants rfl rfl rfl (by decide +kernel) ⟨Nat.le_of_ble_eq_true rfl, Nat.le_of_ble_eq_true rfl⟩) (rcv_X4 X hK) X hS (fun _ z => z) rfl hl.1 rfl (Nat.le_of_ble_eq_true rfl) dX4_readsOrder_110 ⟨Nat.zero_le _, Nat.zero_le _⟩ (fun H locs X hS _ _ => ?_)
            show W p l e _ s m _ below meth c H locs 0 0 _ (F0 m 113 ls [])
            refine lv_aload_n hx hb dX4_readsOrder_113 rfl (lv_at hl 2 rfl) ?_
            refine gt_X4_11 C hin X 4 rfl dX4_readsOrder_114 ?_
            refine lv_iload_n hx hb dX4_readsOrder_117 rfl (lv_at hl 1 rfl) ?_
            refine lv_iconst (v := 2) hx hb dX4_readsOrder_118 (by decide) ?_
            refine lv_iadd hx hb dX4_readsOrder_119 ?_
            refine lv_aload_n hx hb dX4_readsOrder_120 rfl (lv_at hl 2 rfl) ?_
            refine lv_bipush (v := 99) hx hb dX4_readsOrder_121 (by decide) ?_
            obtain ⟨q96, hr94, h⟩ := ob h
            refine rowW (As := [.int 99]) (rest := [.int ((4 * (σ 12 0)) + 2), .ref (b + 6)]) C (kX4_number l G b σ93 99 q96.1 q96.2 hr94) (cwV 1 hts gX4_readsOrder_X4_number rfl rfl rfl (by decide +kernel) ⟨Nat.le_of_ble_eq_true rfl, Nat.le_of_ble_eq_true rfl⟩) (rcv_X4 X hK) X hS (fun _ z => z) rfl hl.1 rfl (Nat.le_of_ble_eq_true rfl) dX4_readsOrder_123 ⟨Nat.zero_le _, Nat.zero_le _⟩ (fun H locs X hS _ _ => ?_)
            show W p l e _ s m _ below meth c H locs 0 0 _ (F0 m 126 ls [.int q96.1, .int ((4 * (σ 12 0)) + 2), .ref (b + 6)])
            obtain ⟨c97, h⟩ := og h
            refine as_X4_11 C X hS rfl c97 dX4_readsOrder_126 (fun H locs X hS => ?_)
            refine lv_aload_n hx hb dX4_readsOrder_127 rfl (lv_at hl 2 rfl) ?_
            refine lv_dup hx hb dX4_readsOrder_128 rfl ?_
            refine gt_X4_12 C hin X 1 rfl dX4_readsOrder_129 ?_
            refine lv_aload_n hx hb dX4_readsOrder_132 rfl (lv_at hl 2 rfl) ?_
            refine gt_X4_10 C hin X 2 rfl dX4_readsOrder_133 ?_
            refine lv_if_eq (tgt := 143) hx hb dX4_readsOrder_136 (by decide) (fun c98 => ?_) (fun c98 => ?_)
            · have h := ip h c98
              refine lv_iconst (v := 0) hx hb dX4_readsOrder_143 (by decide) ?_
              refine lv_iadd hx hb dX4_readsOrder_144 ?_
              refine pt_X4_12 C hin X hS 1 rfl dX4_readsOrder_145 (fun H locs X hS => ?_)
              have h := so h
              subst h
              exact W.vret hx hb hr (fun t ht _ => ⟨rfl, by rw [ht]; exact X, hS.F ht⟩) hS.2.2 dX4_readsOrder_148
            · have h := iq h c98
              refine lv_iconst (v := 1) hx hb dX4_readsOrder_139 (by decide) ?_
              refine lv_goto (tgt := 144) hx hb dX4_readsOrder_140 (by decide) ?_
              refine lv_iadd hx hb dX4_readsOrder_144 ?_
              refine pt_X4_12 C hin X hS 1 rfl dX4_readsOrder_145 (fun H locs X hS => ?_)
              have h := so h
              subst h
              exact W.vret hx hb hr (fun t ht _ => ⟨rfl, by rw [ht]; exact X, hS.F ht⟩) hS.2.2 dX4_readsOrder_148
        · have h := ip h c85
          refine lv_aload_n hx hb dX4_readsOrder_79 rfl (lv_at hl 2 rfl) ?_
          refine lv_iload_n hx hb dX4_readsOrder_80 rfl (lv_at hl 1 rfl) ?_
          obtain ⟨σ100, hr99, h⟩ := ob h
          refine rowW (As := [.int (4 * (σ 12 0))]) (rest := []) C (kX4_readsCart l G b (up (up (up σ 10 0 1) 9 0 (((up σ 10 0 1) 9 0) + 1)) 11 (4 * (σ 12 0)).toNatClampNeg r1) (4 * (σ 12 0)) σ100 hr99) (cwV 1 hts gX4_readsOrder_X4_readsCart rfl rfl rfl (by decide +kernel) ⟨Nat.le_of_ble_eq_true rfl, Nat.le_of_ble_eq_true rfl⟩) (rcv_X4 X hK) X hS (fun _ z => z) rfl hl.1 rfl (Nat.le_of_ble_eq_true rfl) dX4_readsOrder_81 ⟨Nat.zero_le _, Nat.zero_le _⟩ (fun H locs X hS _ _ => ?_)
          show W p l e _ s m _ below meth c H locs 0 0 _ (F0 m 84 ls [])
          refine lv_goto (tgt := 101) hx hb dX4_readsOrder_84 (by decide) ?_
          refine lv_iload_n hx hb dX4_readsOrder_101 rfl (lv_at hl 0 rfl) ?_
          refine lv_bipush (v := 120) hx hb dX4_readsOrder_102 (by decide) ?_
          refine lv_icmp_ne (tgt := 127) hx hb dX4_readsOrder_104 (by decide) (fun c101 => ?_) (fun c101 => ?_)
          · have h := iq h c101
            refine lv_aload_n hx hb dX4_readsOrder_127 rfl (lv_at hl 2 rfl) ?_
            refine lv_dup hx hb dX4_readsOrder_128 rfl ?_
            refine gt_X4_12 C hin X 1 rfl dX4_readsOrder_129 ?_
            refine lv_aload_n hx hb dX4_readsOrder_132 rfl (lv_at hl 2 rfl) ?_
            refine gt_X4_10 C hin X 2 rfl dX4_readsOrder_133 ?_
            refine lv_if_eq (tgt := 143) hx hb dX4_readsOrder_136 (by decide) (fun c102 => ?_) (fun c102 => ?_)
            · have h := ip h c102
              refine lv_iconst (v := 0) hx hb dX4_readsOrder_143 (by decide) ?_
              refine lv_iadd hx hb dX4_readsOrder_144 ?_
              refine pt_X4_12 C hin X hS 1 rfl dX4_readsOrder_145 (fun H locs X hS => ?_)
              have h := so h
              subst h
              exact W.vret hx hb hr (fun t ht _ => ⟨rfl, by rw [ht]; exact X, hS.F ht⟩) hS.2.2 dX4_readsOrder_148
            · have h := iq h c102
              refine lv_iconst (v := 1) hx hb dX4_readsOrder_139 (by decide) ?_
              refine lv_goto (tgt := 144) hx hb dX4_readsOrder_140 (by decide) ?_
              refine lv_iadd hx hb dX4_readsOrder_144 ?_
              refine pt_X4_12 C hin X hS 1 rfl dX4_readsOrder_145 (fun H locs X hS => ?_)
              have h := so h
              subst h
              exact W.vret hx hb hr (fun t ht _ => ⟨rfl, by rw [ht]; exact X, hS.F ht⟩) hS.2.2 dX4_readsOrder_148
          · have h := ip h c101
            refine lv_aload_n hx hb dX4_readsOrder_107 rfl (lv_at hl 2 rfl) ?_
            refine lv_bipush (v := 61) hx hb dX4_readsOrder_108 (by decide) ?_
            obtain ⟨σ104, hr103, h⟩ := ob h
            refine rowW (As := [.int 61]) (rest := []) C (kX4_wants l G b σ100 61 σ104 hr103) (cwV 1 hts gX4_readsOrder_X4_wants rfl rfl rfl (by decide +kernel) ⟨Nat.le_of_ble_eq_true rfl, Nat.le_of_ble_eq_true rfl⟩) (rcv_X4 X hK) X hS (fun _ z => z) rfl hl.1 rfl (Nat.le_of_ble_eq_true rfl) dX4_readsOrder_110 ⟨Nat.zero_le _, Nat.zero_le _⟩ (fun H locs X hS _ _ => ?_)
            show W p l e _ s m _ below meth c H locs 0 0 _ (F0 m 113 ls [])
            refine lv_aload_n hx hb dX4_readsOrder_113 rfl (lv_at hl 2 rfl) ?_
            refine gt_X4_11 C hin X 4 rfl dX4_readsOrder_114 ?_
            refine lv_iload_n hx hb dX4_readsOrder_117 rfl (lv_at hl 1 rfl) ?_
            refine lv_iconst (v := 2) hx hb dX4_readsOrder_118 (by decide) ?_
            refine lv_iadd hx hb dX4_readsOrder_119 ?_
            refine lv_aload_n hx hb dX4_readsOrder_120 rfl (lv_at hl 2 rfl) ?_
            refine lv_bipush (v := 99) hx hb dX4_readsOrder_121 (by decide) ?_
            obtain ⟨q107, hr105, h⟩ := ob h
            refine rowW (As := [.int 99]) (rest := [.int ((4 * (σ 12 0)) + 2), .ref (b + 6)]) C (kX4_number l G b σ104 99 q107.1 q107.2 hr105) (cwV 1 hts gX4_readsOrder_X4_number rfl rfl rfl (by decide +kernel) ⟨Nat.le_of_ble_eq_true rfl, Nat.le_of_ble_eq_true rfl⟩) (rcv_X4 X hK) X hS (fun _ z => z) rfl hl.1 rfl (Nat.le_of_ble_eq_true rfl) dX4_readsOrder_123 ⟨Nat.zero_le _, Nat.zero_le _⟩ (fun H locs X hS _ _ => ?_)
            show W p l e _ s m _ below meth c H locs 0 0 _ (F0 m 126 ls [.int q107.1, .int ((4 * (σ 12 0)) + 2), .ref (b + 6)])
            obtain ⟨c108, h⟩ := og h
            refine as_X4_11 C X hS rfl c108 dX4_readsOrder_126 (fun H locs X hS => ?_)
            refine lv_aload_n hx hb dX4_readsOrder_127 rfl (lv_at hl 2 rfl) ?_
            refine lv_dup hx hb dX4_readsOrder_128 rfl ?_
            refine gt_X4_12 C hin X 1 rfl dX4_readsOrder_129 ?_
            refine lv_aload_n hx hb dX4_readsOrder_132 rfl (lv_at hl 2 rfl) ?_
            refine gt_X4_10 C hin X 2 rfl dX4_readsOrder_133 ?_
            refine lv_if_eq (tgt := 143) hx hb dX4_readsOrder_136 (by decide) (fun c109 => ?_) (fun c109 => ?_)
            · have h := ip h c109
              refine lv_iconst (v := 0) hx hb dX4_readsOrder_143 (by decide) ?_
              refine lv_iadd hx hb dX4_readsOrder_144 ?_
              refine pt_X4_12 C hin X hS 1 rfl dX4_readsOrder_145 (fun H locs X hS => ?_)
              have h := so h
              subst h
              exact W.vret hx hb hr (fun t ht _ => ⟨rfl, by rw [ht]; exact X, hS.F ht⟩) hS.2.2 dX4_readsOrder_148
            · have h := iq h c109
              refine lv_iconst (v := 1) hx hb dX4_readsOrder_139 (by decide) ?_
              refine lv_goto (tgt := 144) hx hb dX4_readsOrder_140 (by decide) ?_
              refine lv_iadd hx hb dX4_readsOrder_144 ?_
              refine pt_X4_12 C hin X hS 1 rfl dX4_readsOrder_145 (fun H locs X hS => ?_)
              have h := so h
              subst h
              exact W.vret hx hb hr (fun t ht _ => ⟨rfl, by rw [ht]; exact X, hS.F ht⟩) hS.2.2 dX4_readsOrder_148
    · have h := iq h c56
      refine lv_iload_n hx hb dX4_readsOrder_25 rfl (lv_at hl 0 rfl) ?_
      refine lv_bipush (v := 120) hx hb dX4_readsOrder_26 (by decide) ?_
      refine lv_icmp_eq (tgt := 37) hx hb dX4_readsOrder_28 (by decide) (fun c110 => ?_) (fun c110 => ?_)
      · have h := ip h c110
        refine lv_iconst (v := 1) hx hb dX4_readsOrder_37 (by decide) ?_
        refine lv_goto (tgt := 42) hx hb dX4_readsOrder_38 (by decide) ?_
        refine pt_X4_10 C hin X hS 2 rfl rfl (by decide) dX4_readsOrder_42 (fun H locs X hS => ?_)
        refine lv_aload_n hx hb dX4_readsOrder_45 rfl (lv_at hl 2 rfl) ?_
        refine lv_dup hx hb dX4_readsOrder_46 rfl ?_
        refine gt_X4_9 C hin X 3 rfl dX4_readsOrder_47 ?_
        refine lv_aload_n hx hb dX4_readsOrder_50 rfl (lv_at hl 2 rfl) ?_
        refine gt_X4_10 C hin X 2 rfl dX4_readsOrder_51 ?_
        refine lv_if_eq (tgt := 61) hx hb dX4_readsOrder_54 (by decide) (fun c111 => ?_) (fun c111 => ?_)
        · have h := ip h c111
          refine lv_iconst (v := 0) hx hb dX4_readsOrder_61 (by decide) ?_
          refine lv_iadd hx hb dX4_readsOrder_62 ?_
          refine pt_X4_9 C hin X hS 3 rfl dX4_readsOrder_63 (fun H locs X hS => ?_)
          refine lv_aload_n hx hb dX4_readsOrder_66 rfl (lv_at hl 2 rfl) ?_
          refine gt_X4_11 C hin X 4 rfl dX4_readsOrder_67 ?_
          refine lv_iload_n hx hb dX4_readsOrder_70 rfl (lv_at hl 1 rfl) ?_
          refine lv_iload_n hx hb dX4_readsOrder_71 rfl (lv_at hl 0 rfl) ?_
          obtain ⟨c112, h⟩ := og h
          refine as_X4_11 C X hS rfl c112 dX4_readsOrder_72 (fun H locs X hS => ?_)
          refine lv_iload_n hx hb dX4_readsOrder_73 rfl (lv_at hl 0 rfl) ?_
          refine lv_bipush (v := 99) hx hb dX4_readsOrder_74 (by decide) ?_
          refine lv_icmp_ne (tgt := 87) hx hb dX4_readsOrder_76 (by decide) (fun c113 => ?_) (fun c113 => ?_)
          · have h := iq h c113
            refine lv_aload_n hx hb dX4_readsOrder_87 rfl (lv_at hl 2 rfl) ?_
            refine gt_X4_11 C hin X 4 rfl dX4_readsOrder_88 ?_
            refine lv_iload_n hx hb dX4_readsOrder_91 rfl (lv_at hl 1 rfl) ?_
            refine lv_iconst (v := 1) hx hb dX4_readsOrder_92 (by decide) ?_
            refine lv_iadd hx hb dX4_readsOrder_93 ?_
            refine lv_aload_n hx hb dX4_readsOrder_94 rfl (lv_at hl 2 rfl) ?_
            refine lv_bipush (v := 23) hx hb dX4_readsOrder_95 (by decide) ?_
            obtain ⟨q116, hr114, h⟩ := ob h
            refine rowW (As := [.int 23]) (rest := [.int ((4 * (σ 12 0)) + 1), .ref (b + 6)]) C (kX4_number l G b (up (up (up σ 10 0 1) 9 0 (((up σ 10 0 1) 9 0) + 0)) 11 (4 * (σ 12 0)).toNatClampNeg r1) 23 q116.1 q116.2 hr114) (cwV 1 hts gX4_readsOrder_X4_number rfl rfl rfl (by decide +kernel) ⟨Nat.le_of_ble_eq_true rfl, Nat.le_of_ble_eq_true rfl⟩) (rcv_X4 X hK) X hS (fun _ z => z) rfl hl.1 rfl (Nat.le_of_ble_eq_true rfl) dX4_readsOrder_97 ⟨Nat.zero_le _, Nat.zero_le _⟩ (fun H locs X hS _ _ => ?_)
            show W p l e _ s m _ below meth c H locs 0 0 _ (F0 m 100 ls [.int q116.1, .int ((4 * (σ 12 0)) + 1), .ref (b + 6)])
            obtain ⟨c117, h⟩ := og h
            refine as_X4_11 C X hS rfl c117 dX4_readsOrder_100 (fun H locs X hS => ?_)
            refine lv_iload_n hx hb dX4_readsOrder_101 rfl (lv_at hl 0 rfl) ?_
            refine lv_bipush (v := 120) hx hb dX4_readsOrder_102 (by decide) ?_
            refine lv_icmp_ne (tgt := 127) hx hb dX4_readsOrder_104 (by decide) (fun c118 => ?_) (fun c118 => ?_)
            · have h := iq h c118
              refine lv_aload_n hx hb dX4_readsOrder_127 rfl (lv_at hl 2 rfl) ?_
              refine lv_dup hx hb dX4_readsOrder_128 rfl ?_
              refine gt_X4_12 C hin X 1 rfl dX4_readsOrder_129 ?_
              refine lv_aload_n hx hb dX4_readsOrder_132 rfl (lv_at hl 2 rfl) ?_
              refine gt_X4_10 C hin X 2 rfl dX4_readsOrder_133 ?_
              refine lv_if_eq (tgt := 143) hx hb dX4_readsOrder_136 (by decide) (fun c119 => ?_) (fun c119 => ?_)
              · have h := ip h c119
                refine lv_iconst (v := 0) hx hb dX4_readsOrder_143 (by decide) ?_
                refine lv_iadd hx hb dX4_readsOrder_144 ?_
                refine pt_X4_12 C hin X hS 1 rfl dX4_readsOrder_145 (fun H locs X hS => ?_)
                have h := so h
                subst h
                exact W.vret hx hb hr (fun t ht _ => ⟨rfl, by rw [ht]; exact X, hS.F ht⟩) hS.2.2 dX4_readsOrder_148
              · have h := iq h c119
                refine lv_iconst (v := 1) hx hb dX4_readsOrder_139 (by decide) ?_
                refine lv_goto (tgt := 144) hx hb dX4_readsOrder_140 (by decide) ?_
                refine lv_iadd hx hb dX4_readsOrder_144 ?_
                refine pt_X4_12 C hin X hS 1 rfl dX4_readsOrder_145 (fun H locs X hS => ?_)
                have h := so h
                subst h
                exact W.vret hx hb hr (fun t ht _ => ⟨rfl, by rw [ht]; exact X, hS.F ht⟩) hS.2.2 dX4_readsOrder_148
            · have h := ip h c118
              refine lv_aload_n hx hb dX4_readsOrder_107 rfl (lv_at hl 2 rfl) ?_
              refine lv_bipush (v := 61) hx hb dX4_readsOrder_108 (by decide) ?_
              obtain ⟨σ121, hr120, h⟩ := ob h
              refine rowW (As := [.int 61]) (rest := []) C (kX4_wants l G b (up q116.2 11 ((4 * (σ 12 0)) + 1).toNatClampNeg q116.1) 61 σ121 hr120) (cwV 1 hts gX4_readsOrder_X4_wants rfl rfl rfl (by decide +kernel) ⟨Nat.le_of_ble_eq_true rfl, Nat.le_of_ble_eq_true rfl⟩) (rcv_X4 X hK) X hS (fun _ z => z) rfl hl.1 rfl (Nat.le_of_ble_eq_true rfl) dX4_readsOrder_110 ⟨Nat.zero_le _, Nat.zero_le _⟩ (fun H locs X hS _ _ => ?_)
              show W p l e _ s m _ below meth c H locs 0 0 _ (F0 m 113 ls [])
              refine lv_aload_n hx hb dX4_readsOrder_113 rfl (lv_at hl 2 rfl) ?_
              refine gt_X4_11 C hin X 4 rfl dX4_readsOrder_114 ?_
              refine lv_iload_n hx hb dX4_readsOrder_117 rfl (lv_at hl 1 rfl) ?_
              refine lv_iconst (v := 2) hx hb dX4_readsOrder_118 (by decide) ?_
              refine lv_iadd hx hb dX4_readsOrder_119 ?_
              refine lv_aload_n hx hb dX4_readsOrder_120 rfl (lv_at hl 2 rfl) ?_
              refine lv_bipush (v := 99) hx hb dX4_readsOrder_121 (by decide) ?_
              obtain ⟨q124, hr122, h⟩ := ob h
              refine rowW (As := [.int 99]) (rest := [.int ((4 * (σ 12 0)) + 2), .ref (b + 6)]) C (kX4_number l G b σ121 99 q124.1 q124.2 hr122) (cwV 1 hts gX4_readsOrder_X4_number rfl rfl rfl (by decide +kernel) ⟨Nat.le_of_ble_eq_true rfl, Nat.le_of_ble_eq_true rfl⟩) (rcv_X4 X hK) X hS (fun _ z => z) rfl hl.1 rfl (Nat.le_of_ble_eq_true rfl) dX4_readsOrder_123 ⟨Nat.zero_le _, Nat.zero_le _⟩ (fun H locs X hS _ _ => ?_)
              show W p l e _ s m _ below meth c H locs 0 0 _ (F0 m 126 ls [.int q124.1, .int ((4 * (σ 12 0)) + 2), .ref (b + 6)])
              obtain ⟨c125, h⟩ := og h
              refine as_X4_11 C X hS rfl c125 dX4_readsOrder_126 (fun H locs X hS => ?_)
              refine lv_aload_n hx hb dX4_readsOrder_127 rfl (lv_at hl 2 rfl) ?_
              refine lv_dup hx hb dX4_readsOrder_128 rfl ?_
              refine gt_X4_12 C hin X 1 rfl dX4_readsOrder_129 ?_
              refine lv_aload_n hx hb dX4_readsOrder_132 rfl (lv_at hl 2 rfl) ?_
              refine gt_X4_10 C hin X 2 rfl dX4_readsOrder_133 ?_
              refine lv_if_eq (tgt := 143) hx hb dX4_readsOrder_136 (by decide) (fun c126 => ?_) (fun c126 => ?_)
              · have h := ip h c126
                refine lv_iconst (v := 0) hx hb dX4_readsOrder_143 (by decide) ?_
                refine lv_iadd hx hb dX4_readsOrder_144 ?_
                refine pt_X4_12 C hin X hS 1 rfl dX4_readsOrder_145 (fun H locs X hS => ?_)
                have h := so h
                subst h
                exact W.vret hx hb hr (fun t ht _ => ⟨rfl, by rw [ht]; exact X, hS.F ht⟩) hS.2.2 dX4_readsOrder_148
              · have h := iq h c126
                refine lv_iconst (v := 1) hx hb dX4_readsOrder_139 (by decide) ?_
                refine lv_goto (tgt := 144) hx hb dX4_readsOrder_140 (by decide) ?_
                refine lv_iadd hx hb dX4_readsOrder_144 ?_
                refine pt_X4_12 C hin X hS 1 rfl dX4_readsOrder_145 (fun H locs X hS => ?_)
                have h := so h
                subst h
                exact W.vret hx hb hr (fun t ht _ => ⟨rfl, by rw [ht]; exact X, hS.F ht⟩) hS.2.2 dX4_readsOrder_148
          · have h := ip h c113
            refine lv_aload_n hx hb dX4_readsOrder_79 rfl (lv_at hl 2 rfl) ?_
            refine lv_iload_n hx hb dX4_readsOrder_80 rfl (lv_at hl 1 rfl) ?_
            obtain ⟨σ128, hr127, h⟩ := ob h
            refine rowW (As := [.int (4 * (σ 12 0))]) (rest := []) C (kX4_readsCart l G b (up (up (up σ 10 0 1) 9 0 (((up σ 10 0 1) 9 0) + 0)) 11 (4 * (σ 12 0)).toNatClampNeg r1) (4 * (σ 12 0)) σ128 hr127) (cwV 1 hts gX4_readsOrder_X4_readsCart rfl rfl rfl (by decide +kernel) ⟨Nat.le_of_ble_eq_true rfl, Nat.le_of_ble_eq_true rfl⟩) (rcv_X4 X hK) X hS (fun _ z => z) rfl hl.1 rfl (Nat.le_of_ble_eq_true rfl) dX4_readsOrder_81 ⟨Nat.zero_le _, Nat.zero_le _⟩ (fun H locs X hS _ _ => ?_)
            show W p l e _ s m _ below meth c H locs 0 0 _ (F0 m 84 ls [])
            refine lv_goto (tgt := 101) hx hb dX4_readsOrder_84 (by decide) ?_
            refine lv_iload_n hx hb dX4_readsOrder_101 rfl (lv_at hl 0 rfl) ?_
            refine lv_bipush (v := 120) hx hb dX4_readsOrder_102 (by decide) ?_
            refine lv_icmp_ne (tgt := 127) hx hb dX4_readsOrder_104 (by decide) (fun c129 => ?_) (fun c129 => ?_)
            · have h := iq h c129
              refine lv_aload_n hx hb dX4_readsOrder_127 rfl (lv_at hl 2 rfl) ?_
              refine lv_dup hx hb dX4_readsOrder_128 rfl ?_
              refine gt_X4_12 C hin X 1 rfl dX4_readsOrder_129 ?_
              refine lv_aload_n hx hb dX4_readsOrder_132 rfl (lv_at hl 2 rfl) ?_
              refine gt_X4_10 C hin X 2 rfl dX4_readsOrder_133 ?_
              refine lv_if_eq (tgt := 143) hx hb dX4_readsOrder_136 (by decide) (fun c130 => ?_) (fun c130 => ?_)
              · have h := ip h c130
                refine lv_iconst (v := 0) hx hb dX4_readsOrder_143 (by decide) ?_
                refine lv_iadd hx hb dX4_readsOrder_144 ?_
                refine pt_X4_12 C hin X hS 1 rfl dX4_readsOrder_145 (fun H locs X hS => ?_)
                have h := so h
                subst h
                exact W.vret hx hb hr (fun t ht _ => ⟨rfl, by rw [ht]; exact X, hS.F ht⟩) hS.2.2 dX4_readsOrder_148
              · have h := iq h c130
                refine lv_iconst (v := 1) hx hb dX4_readsOrder_139 (by decide) ?_
                refine lv_goto (tgt := 144) hx hb dX4_readsOrder_140 (by decide) ?_
                refine lv_iadd hx hb dX4_readsOrder_144 ?_
                refine pt_X4_12 C hin X hS 1 rfl dX4_readsOrder_145 (fun H locs X hS => ?_)
                have h := so h
                subst h
                exact W.vret hx hb hr (fun t ht _ => ⟨rfl, by rw [ht]; exact X, hS.F ht⟩) hS.2.2 dX4_readsOrder_148
            · have h := ip h c129
              refine lv_aload_n hx hb dX4_readsOrder_107 rfl (lv_at hl 2 rfl) ?_
              refine lv_bipush (v := 61) hx hb dX4_readsOrder_108 (by decide) ?_
              obtain ⟨σ132, hr131, h⟩ := ob h
              refine rowW (As := [.int 61]) (rest := []) C (kX4_wants l G b σ128 61 σ132 hr131) (cwV 1 hts gX4_readsOrder_X4_wants rfl rfl rfl (by decide +kernel) ⟨Nat.le_of_ble_eq_true rfl, Nat.le_of_ble_eq_true rfl⟩) (rcv_X4 X hK) X hS (fun _ z => z) rfl hl.1 rfl (Nat.le_of_ble_eq_true rfl) dX4_readsOrder_110 ⟨Nat.zero_le _, Nat.zero_le _⟩ (fun H locs X hS _ _ => ?_)
              show W p l e _ s m _ below meth c H locs 0 0 _ (F0 m 113 ls [])
              refine lv_aload_n hx hb dX4_readsOrder_113 rfl (lv_at hl 2 rfl) ?_
              refine gt_X4_11 C hin X 4 rfl dX4_readsOrder_114 ?_
              refine lv_iload_n hx hb dX4_readsOrder_117 rfl (lv_at hl 1 rfl) ?_
              refine lv_iconst (v := 2) hx hb dX4_readsOrder_118 (by decide) ?_
              refine lv_iadd hx hb dX4_readsOrder_119 ?_
              refine lv_aload_n hx hb dX4_readsOrder_120 rfl (lv_at hl 2 rfl) ?_
              refine lv_bipush (v := 99) hx hb dX4_readsOrder_121 (by decide) ?_
              obtain ⟨q135, hr133, h⟩ := ob h
              refine rowW (As := [.int 99]) (rest := [.int ((4 * (σ 12 0)) + 2), .ref (b + 6)]) C (kX4_number l G b σ132 99 q135.1 q135.2 hr133) (cwV 1 hts gX4_readsOrder_X4_number rfl rfl rfl (by decide +kernel) ⟨Nat.le_of_ble_eq_true rfl, Nat.le_of_ble_eq_true rfl⟩) (rcv_X4 X hK) X hS (fun _ z => z) rfl hl.1 rfl (Nat.le_of_ble_eq_true rfl) dX4_readsOrder_123 ⟨Nat.zero_le _, Nat.zero_le _⟩ (fun H locs X hS _ _ => ?_)
              show W p l e _ s m _ below meth c H locs 0 0 _ (F0 m 126 ls [.int q135.1, .int ((4 * (σ 12 0)) + 2), .ref (b + 6)])
              obtain ⟨c136, h⟩ := og h
              refine as_X4_11 C X hS rfl c136 dX4_readsOrder_126 (fun H locs X hS => ?_)
              refine lv_aload_n hx hb dX4_readsOrder_127 rfl (lv_at hl 2 rfl) ?_
              refine lv_dup hx hb dX4_readsOrder_128 rfl ?_
              refine gt_X4_12 C hin X 1 rfl dX4_readsOrder_129 ?_
              refine lv_aload_n hx hb dX4_readsOrder_132 rfl (lv_at hl 2 rfl) ?_
              refine gt_X4_10 C hin X 2 rfl dX4_readsOrder_133 ?_
              refine lv_if_eq (tgt := 143) hx hb dX4_readsOrder_136 (by decide) (fun c137 => ?_) (fun c137 => ?_)
              · have h := ip h c137
                refine lv_iconst (v := 0) hx hb dX4_readsOrder_143 (by decide) ?_
                refine lv_iadd hx hb dX4_readsOrder_144 ?_
                refine pt_X4_12 C hin X hS 1 rfl dX4_readsOrder_145 (fun H locs X hS => ?_)
                have h := so h
                subst h
                exact W.vret hx hb hr (fun t ht _ => ⟨rfl, by rw [ht]; exact X, hS.F ht⟩) hS.2.2 dX4_readsOrder_148
              · have h := iq h c137
                refine lv_iconst (v := 1) hx hb dX4_readsOrder_139 (by decide) ?_
                refine lv_goto (tgt := 144) hx hb dX4_readsOrder_140 (by decide) ?_
                refine lv_iadd hx hb dX4_readsOrder_144 ?_
                refine pt_X4_12 C hin X hS 1 rfl dX4_readsOrder_145 (fun H locs X hS => ?_)
                have h := so h
                subst h
                exact W.vret hx hb hr (fun t ht _ => ⟨rfl, by rw [ht]; exact X, hS.F ht⟩) hS.2.2 dX4_readsOrder_148
        · have h := iq h c111
          refine lv_iconst (v := 1) hx hb dX4_readsOrder_57 (by decide) ?_
          refine lv_goto (tgt := 62) hx hb dX4_readsOrder_58 (by decide) ?_
          refine lv_iadd hx hb dX4_readsOrder_62 ?_
          refine pt_X4_9 C hin X hS 3 rfl dX4_readsOrder_63 (fun H locs X hS => ?_)
          refine lv_aload_n hx hb dX4_readsOrder_66 rfl (lv_at hl 2 rfl) ?_
          refine gt_X4_11 C hin X 4 rfl dX4_readsOrder_67 ?_
          refine lv_iload_n hx hb dX4_readsOrder_70 rfl (lv_at hl 1 rfl) ?_
          refine lv_iload_n hx hb dX4_readsOrder_71 rfl (lv_at hl 0 rfl) ?_
          obtain ⟨c138, h⟩ := og h
          refine as_X4_11 C X hS rfl c138 dX4_readsOrder_72 (fun H locs X hS => ?_)
          refine lv_iload_n hx hb dX4_readsOrder_73 rfl (lv_at hl 0 rfl) ?_
          refine lv_bipush (v := 99) hx hb dX4_readsOrder_74 (by decide) ?_
          refine lv_icmp_ne (tgt := 87) hx hb dX4_readsOrder_76 (by decide) (fun c139 => ?_) (fun c139 => ?_)
          · have h := iq h c139
            refine lv_aload_n hx hb dX4_readsOrder_87 rfl (lv_at hl 2 rfl) ?_
            refine gt_X4_11 C hin X 4 rfl dX4_readsOrder_88 ?_
            refine lv_iload_n hx hb dX4_readsOrder_91 rfl (lv_at hl 1 rfl) ?_
            refine lv_iconst (v := 1) hx hb dX4_readsOrder_92 (by decide) ?_
            refine lv_iadd hx hb dX4_readsOrder_93 ?_
            refine lv_aload_n hx hb dX4_readsOrder_94 rfl (lv_at hl 2 rfl) ?_
            refine lv_bipush (v := 23) hx hb dX4_readsOrder_95 (by decide) ?_
            obtain ⟨q142, hr140, h⟩ := ob h
            refine rowW (As := [.int 23]) (rest := [.int ((4 * (σ 12 0)) + 1), .ref (b + 6)]) C (kX4_number l G b (up (up (up σ 10 0 1) 9 0 (((up σ 10 0 1) 9 0) + 1)) 11 (4 * (σ 12 0)).toNatClampNeg r1) 23 q142.1 q142.2 hr140) (cwV 1 hts gX4_readsOrder_X4_number rfl rfl rfl (by decide +kernel) ⟨Nat.le_of_ble_eq_true rfl, Nat.le_of_ble_eq_true rfl⟩) (rcv_X4 X hK) X hS (fun _ z => z) rfl hl.1 rfl (Nat.le_of_ble_eq_true rfl) dX4_readsOrder_97 ⟨Nat.zero_le _, Nat.zero_le _⟩ (fun H locs X hS _ _ => ?_)
            show W p l e _ s m _ below meth c H locs 0 0 _ (F0 m 100 ls [.int q142.1, .int ((4 * (σ 12 0)) + 1), .ref (b + 6)])
            obtain ⟨c143, h⟩ := og h
            refine as_X4_11 C X hS rfl c143 dX4_readsOrder_100 (fun H locs X hS => ?_)
            refine lv_iload_n hx hb dX4_readsOrder_101 rfl (lv_at hl 0 rfl) ?_
            refine lv_bipush (v := 120) hx hb dX4_readsOrder_102 (by decide) ?_
            refine lv_icmp_ne (tgt := 127) hx hb dX4_readsOrder_104 (by decide) (fun c144 => ?_) (fun c144 => ?_)
            · have h := iq h c144
              refine lv_aload_n hx hb dX4_readsOrder_127 rfl (lv_at hl 2 rfl) ?_
              refine lv_dup hx hb dX4_readsOrder_128 rfl ?_
              refine gt_X4_12 C hin X 1 rfl dX4_readsOrder_129 ?_
              refine lv_aload_n hx hb dX4_readsOrder_132 rfl (lv_at hl 2 rfl) ?_
              refine gt_X4_10 C hin X 2 rfl dX4_readsOrder_133 ?_
              refine lv_if_eq (tgt := 143) hx hb dX4_readsOrder_136 (by decide) (fun c145 => ?_) (fun c145 => ?_)
              · have h := ip h c145
                refine lv_iconst (v := 0) hx hb dX4_readsOrder_143 (by decide) ?_
                refine lv_iadd hx hb dX4_readsOrder_144 ?_
                refine pt_X4_12 C hin X hS 1 rfl dX4_readsOrder_145 (fun H locs X hS => ?_)
                have h := so h
                subst h
                exact W.vret hx hb hr (fun t ht _ => ⟨rfl, by rw [ht]; exact X, hS.F ht⟩) hS.2.2 dX4_readsOrder_148
              · have h := iq h c145
                refine lv_iconst (v := 1) hx hb dX4_readsOrder_139 (by decide) ?_
                refine lv_goto (tgt := 144) hx hb dX4_readsOrder_140 (by decide) ?_
                refine lv_iadd hx hb dX4_readsOrder_144 ?_
                refine pt_X4_12 C hin X hS 1 rfl dX4_readsOrder_145 (fun H locs X hS => ?_)
                have h := so h
                subst h
                exact W.vret hx hb hr (fun t ht _ => ⟨rfl, by rw [ht]; exact X, hS.F ht⟩) hS.2.2 dX4_readsOrder_148
            · have h := ip h c144
              refine lv_aload_n hx hb dX4_readsOrder_107 rfl (lv_at hl 2 rfl) ?_
              refine lv_bipush (v := 61) hx hb dX4_readsOrder_108 (by decide) ?_
              obtain ⟨σ147, hr146, h⟩ := ob h
              refine rowW (As := [.int 61]) (rest := []) C (kX4_wants l G b (up q142.2 11 ((4 * (σ 12 0)) + 1).toNatClampNeg q142.1) 61 σ147 hr146) (cwV 1 hts gX4_readsOrder_X4_wants rfl rfl rfl (by decide +kernel) ⟨Nat.le_of_ble_eq_true rfl, Nat.le_of_ble_eq_true rfl⟩) (rcv_X4 X hK) X hS (fun _ z => z) rfl hl.1 rfl (Nat.le_of_ble_eq_true rfl) dX4_readsOrder_110 ⟨Nat.zero_le _, Nat.zero_le _⟩ (fun H locs X hS _ _ => ?_)
              show W p l e _ s m _ below meth c H locs 0 0 _ (F0 m 113 ls [])
              refine lv_aload_n hx hb dX4_readsOrder_113 rfl (lv_at hl 2 rfl) ?_
              refine gt_X4_11 C hin X 4 rfl dX4_readsOrder_114 ?_
              refine lv_iload_n hx hb dX4_readsOrder_117 rfl (lv_at hl 1 rfl) ?_
              refine lv_iconst (v := 2) hx hb dX4_readsOrder_118 (by decide) ?_
              refine lv_iadd hx hb dX4_readsOrder_119 ?_
              refine lv_aload_n hx hb dX4_readsOrder_120 rfl (lv_at hl 2 rfl) ?_
              refine lv_bipush (v := 99) hx hb dX4_readsOrder_121 (by decide) ?_
              obtain ⟨q150, hr148, h⟩ := ob h
              refine rowW (As := [.int 99]) (rest := [.int ((4 * (σ 12 0)) + 2), .ref (b + 6)]) C (kX4_number l G b σ147 99 q150.1 q150.2 hr148) (cwV 1 hts gX4_readsOrder_X4_number rfl rfl rfl (by decide +kernel) ⟨Nat.le_of_ble_eq_true rfl, Nat.le_of_ble_eq_true rfl⟩) (rcv_X4 X hK) X hS (fun _ z => z) rfl hl.1 rfl (Nat.le_of_ble_eq_true rfl) dX4_readsOrder_123 ⟨Nat.zero_le _, Nat.zero_le _⟩ (fun H locs X hS _ _ => ?_)
              show W p l e _ s m _ below meth c H locs 0 0 _ (F0 m 126 ls [.int q150.1, .int ((4 * (σ 12 0)) + 2), .ref (b + 6)])
              obtain ⟨c151, h⟩ := og h
              refine as_X4_11 C X hS rfl c151 dX4_readsOrder_126 (fun H locs X hS => ?_)
              refine lv_aload_n hx hb dX4_readsOrder_127 rfl (lv_at hl 2 rfl) ?_
              refine lv_dup hx hb dX4_readsOrder_128 rfl ?_
              refine gt_X4_12 C hin X 1 rfl dX4_readsOrder_129 ?_
              refine lv_aload_n hx hb dX4_readsOrder_132 rfl (lv_at hl 2 rfl) ?_
              refine gt_X4_10 C hin X 2 rfl dX4_readsOrder_133 ?_
              refine lv_if_eq (tgt := 143) hx hb dX4_readsOrder_136 (by decide) (fun c152 => ?_) (fun c152 => ?_)
              · have h := ip h c152
                refine lv_iconst (v := 0) hx hb dX4_readsOrder_143 (by decide) ?_
                refine lv_iadd hx hb dX4_readsOrder_144 ?_
                refine pt_X4_12 C hin X hS 1 rfl dX4_readsOrder_145 (fun H locs X hS => ?_)
                have h := so h
                subst h
                exact W.vret hx hb hr (fun t ht _ => ⟨rfl, by rw [ht]; exact X, hS.F ht⟩) hS.2.2 dX4_readsOrder_148
              · have h := iq h c152
                refine lv_iconst (v := 1) hx hb dX4_readsOrder_139 (by decide) ?_
                refine lv_goto (tgt := 144) hx hb dX4_readsOrder_140 (by decide) ?_
                refine lv_iadd hx hb dX4_readsOrder_144 ?_
                refine pt_X4_12 C hin X hS 1 rfl dX4_readsOrder_145 (fun H locs X hS => ?_)
                have h := so h
                subst h
                exact W.vret hx hb hr (fun t ht _ => ⟨rfl, by rw [ht]; exact X, hS.F ht⟩) hS.2.2 dX4_readsOrder_148
          · have h := ip h c139
            refine lv_aload_n hx hb dX4_readsOrder_79 rfl (lv_at hl 2 rfl) ?_
            refine lv_iload_n hx hb dX4_readsOrder_80 rfl (lv_at hl 1 rfl) ?_
            obtain ⟨σ154, hr153, h⟩ := ob h
            refine rowW (As := [.int (4 * (σ 12 0))]) (rest := []) C (kX4_readsCart l G b (up (up (up σ 10 0 1) 9 0 (((up σ 10 0 1) 9 0) + 1)) 11 (4 * (σ 12 0)).toNatClampNeg r1) (4 * (σ 12 0)) σ154 hr153) (cwV 1 hts gX4_readsOrder_X4_readsCart rfl rfl rfl (by decide +kernel) ⟨Nat.le_of_ble_eq_true rfl, Nat.le_of_ble_eq_true rfl⟩) (rcv_X4 X hK) X hS (fun _ z => z) rfl hl.1 rfl (Nat.le_of_ble_eq_true rfl) dX4_readsOrder_81 ⟨Nat.zero_le _, Nat.zero_le _⟩ (fun H locs X hS _ _ => ?_)
            show W p l e _ s m _ below meth c H locs 0 0 _ (F0 m 84 ls [])
            refine lv_goto (tgt := 101) hx hb dX4_readsOrder_84 (by decide) ?_
            refine lv_iload_n hx hb dX4_readsOrder_101 rfl (lv_at hl 0 rfl) ?_
            refine lv_bipush (v := 120) hx hb dX4_readsOrder_102 (by decide) ?_
            refine lv_icmp_ne (tgt := 127) hx hb dX4_readsOrder_104 (by decide) (fun c155 => ?_) (fun c155 => ?_)
            · have h := iq h c155
              refine lv_aload_n hx hb dX4_readsOrder_127 rfl (lv_at hl 2 rfl) ?_
              refine lv_dup hx hb dX4_readsOrder_128 rfl ?_
              refine gt_X4_12 C hin X 1 rfl dX4_readsOrder_129 ?_
              refine lv_aload_n hx hb dX4_readsOrder_132 rfl (lv_at hl 2 rfl) ?_
              refine gt_X4_10 C hin X 2 rfl dX4_readsOrder_133 ?_
              refine lv_if_eq (tgt := 143) hx hb dX4_readsOrder_136 (by decide) (fun c156 => ?_) (fun c156 => ?_)
              · have h := ip h c156
                refine lv_iconst (v := 0) hx hb dX4_readsOrder_143 (by decide) ?_
                refine lv_iadd hx hb dX4_readsOrder_144 ?_
                refine pt_X4_12 C hin X hS 1 rfl dX4_readsOrder_145 (fun H locs X hS => ?_)
                have h := so h
                subst h
                exact W.vret hx hb hr (fun t ht _ => ⟨rfl, by rw [ht]; exact X, hS.F ht⟩) hS.2.2 dX4_readsOrder_148
              · have h := iq h c156
                refine lv_iconst (v := 1) hx hb dX4_readsOrder_139 (by decide) ?_
                refine lv_goto (tgt := 144) hx hb dX4_readsOrder_140 (by decide) ?_
                refine lv_iadd hx hb dX4_readsOrder_144 ?_
                refine pt_X4_12 C hin X hS 1 rfl dX4_readsOrder_145 (fun H locs X hS => ?_)
                have h := so h
                subst h
                exact W.vret hx hb hr (fun t ht _ => ⟨rfl, by rw [ht]; exact X, hS.F ht⟩) hS.2.2 dX4_readsOrder_148
            · have h := ip h c155
              refine lv_aload_n hx hb dX4_readsOrder_107 rfl (lv_at hl 2 rfl) ?_
              refine lv_bipush (v := 61) hx hb dX4_readsOrder_108 (by decide) ?_
              obtain ⟨σ158, hr157, h⟩ := ob h
              refine rowW (As := [.int 61]) (rest := []) C (kX4_wants l G b σ154 61 σ158 hr157) (cwV 1 hts gX4_readsOrder_X4_wants rfl rfl rfl (by decide +kernel) ⟨Nat.le_of_ble_eq_true rfl, Nat.le_of_ble_eq_true rfl⟩) (rcv_X4 X hK) X hS (fun _ z => z) rfl hl.1 rfl (Nat.le_of_ble_eq_true rfl) dX4_readsOrder_110 ⟨Nat.zero_le _, Nat.zero_le _⟩ (fun H locs X hS _ _ => ?_)
              show W p l e _ s m _ below meth c H locs 0 0 _ (F0 m 113 ls [])
              refine lv_aload_n hx hb dX4_readsOrder_113 rfl (lv_at hl 2 rfl) ?_
              refine gt_X4_11 C hin X 4 rfl dX4_readsOrder_114 ?_
              refine lv_iload_n hx hb dX4_readsOrder_117 rfl (lv_at hl 1 rfl) ?_
              refine lv_iconst (v := 2) hx hb dX4_readsOrder_118 (by decide) ?_
              refine lv_iadd hx hb dX4_readsOrder_119 ?_
              refine lv_aload_n hx hb dX4_readsOrder_120 rfl (lv_at hl 2 rfl) ?_
              refine lv_bipush (v := 99) hx hb dX4_readsOrder_121 (by decide) ?_
              obtain ⟨q161, hr159, h⟩ := ob h
              refine rowW (As := [.int 99]) (rest := [.int ((4 * (σ 12 0)) + 2), .ref (b + 6)]) C (kX4_number l G b σ158 99 q161.1 q161.2 hr159) (cwV 1 hts gX4_readsOrder_X4_number rfl rfl rfl (by decide +kernel) ⟨Nat.le_of_ble_eq_true rfl, Nat.le_of_ble_eq_true rfl⟩) (rcv_X4 X hK) X hS (fun _ z => z) rfl hl.1 rfl (Nat.le_of_ble_eq_true rfl) dX4_readsOrder_123 ⟨Nat.zero_le _, Nat.zero_le _⟩ (fun H locs X hS _ _ => ?_)
              show W p l e _ s m _ below meth c H locs 0 0 _ (F0 m 126 ls [.int q161.1, .int ((4 * (σ 12 0)) + 2), .ref (b + 6)])
              obtain ⟨c162, h⟩ := og h
              refine as_X4_11 C X hS rfl c162 dX4_readsOrder_126 (fun H locs X hS => ?_)
              refine lv_aload_n hx hb dX4_readsOrder_127 rfl (lv_at hl 2 rfl) ?_
              refine lv_dup hx hb dX4_readsOrder_128 rfl ?_
              refine gt_X4_12 C hin X 1 rfl dX4_readsOrder_129 ?_
              refine lv_aload_n hx hb dX4_readsOrder_132 rfl (lv_at hl 2 rfl) ?_
              refine gt_X4_10 C hin X 2 rfl dX4_readsOrder_133 ?_
              refine lv_if_eq (tgt := 143) hx hb dX4_readsOrder_136 (by decide) (fun c163 => ?_) (fun c163 => ?_)
              · have h := ip h c163
                refine lv_iconst (v := 0) hx hb dX4_readsOrder_143 (by decide) ?_
                refine lv_iadd hx hb dX4_readsOrder_144 ?_
                refine pt_X4_12 C hin X hS 1 rfl dX4_readsOrder_145 (fun H locs X hS => ?_)
                have h := so h
                subst h
                exact W.vret hx hb hr (fun t ht _ => ⟨rfl, by rw [ht]; exact X, hS.F ht⟩) hS.2.2 dX4_readsOrder_148
              · have h := iq h c163
                refine lv_iconst (v := 1) hx hb dX4_readsOrder_139 (by decide) ?_
                refine lv_goto (tgt := 144) hx hb dX4_readsOrder_140 (by decide) ?_
                refine lv_iadd hx hb dX4_readsOrder_144 ?_
                refine pt_X4_12 C hin X hS 1 rfl dX4_readsOrder_145 (fun H locs X hS => ?_)
                have h := so h
                subst h
                exact W.vret hx hb hr (fun t ht _ => ⟨rfl, by rw [ht]; exact X, hS.F ht⟩) hS.2.2 dX4_readsOrder_148
      · have h := iq h c110
        refine lv_iload_n hx hb dX4_readsOrder_31 rfl (lv_at hl 0 rfl) ?_
        refine lv_bipush (v := 115) hx hb dX4_readsOrder_32 (by decide) ?_
        refine lv_icmp_ne (tgt := 41) hx hb dX4_readsOrder_34 (by decide) (fun c164 => ?_) (fun c164 => ?_)
        · have h := iq h c164
          refine lv_iconst (v := 0) hx hb dX4_readsOrder_41 (by decide) ?_
          refine pt_X4_10 C hin X hS 2 rfl rfl (by decide) dX4_readsOrder_42 (fun H locs X hS => ?_)
          refine lv_aload_n hx hb dX4_readsOrder_45 rfl (lv_at hl 2 rfl) ?_
          refine lv_dup hx hb dX4_readsOrder_46 rfl ?_
          refine gt_X4_9 C hin X 3 rfl dX4_readsOrder_47 ?_
          refine lv_aload_n hx hb dX4_readsOrder_50 rfl (lv_at hl 2 rfl) ?_
          refine gt_X4_10 C hin X 2 rfl dX4_readsOrder_51 ?_
          refine lv_if_eq (tgt := 61) hx hb dX4_readsOrder_54 (by decide) (fun c165 => ?_) (fun c165 => ?_)
          · have h := ip h c165
            refine lv_iconst (v := 0) hx hb dX4_readsOrder_61 (by decide) ?_
            refine lv_iadd hx hb dX4_readsOrder_62 ?_
            refine pt_X4_9 C hin X hS 3 rfl dX4_readsOrder_63 (fun H locs X hS => ?_)
            refine lv_aload_n hx hb dX4_readsOrder_66 rfl (lv_at hl 2 rfl) ?_
            refine gt_X4_11 C hin X 4 rfl dX4_readsOrder_67 ?_
            refine lv_iload_n hx hb dX4_readsOrder_70 rfl (lv_at hl 1 rfl) ?_
            refine lv_iload_n hx hb dX4_readsOrder_71 rfl (lv_at hl 0 rfl) ?_
            obtain ⟨c166, h⟩ := og h
            refine as_X4_11 C X hS rfl c166 dX4_readsOrder_72 (fun H locs X hS => ?_)
            refine lv_iload_n hx hb dX4_readsOrder_73 rfl (lv_at hl 0 rfl) ?_
            refine lv_bipush (v := 99) hx hb dX4_readsOrder_74 (by decide) ?_
            refine lv_icmp_ne (tgt := 87) hx hb dX4_readsOrder_76 (by decide) (fun c167 => ?_) (fun c167 => ?_)
            · have h := iq h c167
              refine lv_aload_n hx hb dX4_readsOrder_87 rfl (lv_at hl 2 rfl) ?_
              refine gt_X4_11 C hin X 4 rfl dX4_readsOrder_88 ?_
              refine lv_iload_n hx hb dX4_readsOrder_91 rfl (lv_at hl 1 rfl) ?_
              refine lv_iconst (v := 1) hx hb dX4_readsOrder_92 (by decide) ?_
              refine lv_iadd hx hb dX4_readsOrder_93 ?_
              refine lv_aload_n hx hb dX4_readsOrder_94 rfl (lv_at hl 2 rfl) ?_
              refine lv_bipush (v := 23) hx hb dX4_readsOrder_95 (by decide) ?_
              obtain ⟨q170, hr168, h⟩ := ob h
              refine rowW (As := [.int 23]) (rest := [.int ((4 * (σ 12 0)) + 1), .ref (b + 6)]) C (kX4_number l G b (up (up (up σ 10 0 0) 9 0 (((up σ 10 0 0) 9 0) + 0)) 11 (4 * (σ 12 0)).toNatClampNeg r1) 23 q170.1 q170.2 hr168) (cwV 1 hts gX4_readsOrder_X4_number rfl rfl rfl (by decide +kernel) ⟨Nat.le_of_ble_eq_true rfl, Nat.le_of_ble_eq_true rfl⟩) (rcv_X4 X hK) X hS (fun _ z => z) rfl hl.1 rfl (Nat.le_of_ble_eq_true rfl) dX4_readsOrder_97 ⟨Nat.zero_le _, Nat.zero_le _⟩ (fun H locs X hS _ _ => ?_)
              show W p l e _ s m _ below meth c H locs 0 0 _ (F0 m 100 ls [.int q170.1, .int ((4 * (σ 12 0)) + 1), .ref (b + 6)])
              obtain ⟨c171, h⟩ := og h
              refine as_X4_11 C X hS rfl c171 dX4_readsOrder_100 (fun H locs X hS => ?_)
              refine lv_iload_n hx hb dX4_readsOrder_101 rfl (lv_at hl 0 rfl) ?_
              refine lv_bipush (v := 120) hx hb dX4_readsOrder_102 (by decide) ?_
              refine lv_icmp_ne (tgt := 127) hx hb dX4_readsOrder_104 (by decide) (fun c172 => ?_) (fun c172 => ?_)
              · have h := iq h c172
                refine lv_aload_n hx hb dX4_readsOrder_127 rfl (lv_at hl 2 rfl) ?_
                refine lv_dup hx hb dX4_readsOrder_128 rfl ?_
                refine gt_X4_12 C hin X 1 rfl dX4_readsOrder_129 ?_
                refine lv_aload_n hx hb dX4_readsOrder_132 rfl (lv_at hl 2 rfl) ?_
                refine gt_X4_10 C hin X 2 rfl dX4_readsOrder_133 ?_
                refine lv_if_eq (tgt := 143) hx hb dX4_readsOrder_136 (by decide) (fun c173 => ?_) (fun c173 => ?_)
                · have h := ip h c173
                  refine lv_iconst (v := 0) hx hb dX4_readsOrder_143 (by decide) ?_
                  refine lv_iadd hx hb dX4_readsOrder_144 ?_
                  refine pt_X4_12 C hin X hS 1 rfl dX4_readsOrder_145 (fun H locs X hS => ?_)
                  have h := so h
                  subst h
                  exact W.vret hx hb hr (fun t ht _ => ⟨rfl, by rw [ht]; exact X, hS.F ht⟩) hS.2.2 dX4_readsOrder_148
                · have h := iq h c173
                  refine lv_iconst (v := 1) hx hb dX4_readsOrder_139 (by decide) ?_
                  refine lv_goto (tgt := 144) hx hb dX4_readsOrder_140 (by decide) ?_
                  refine lv_iadd hx hb dX4_readsOrder_144 ?_
                  refine pt_X4_12 C hin X hS 1 rfl dX4_readsOrder_145 (fun H locs X hS => ?_)
                  have h := so h
                  subst h
                  exact W.vret hx hb hr (fun t ht _ => ⟨rfl, by rw [ht]; exact X, hS.F ht⟩) hS.2.2 dX4_readsOrder_148
              · have h := ip h c172
                refine lv_aload_n hx hb dX4_readsOrder_107 rfl (lv_at hl 2 rfl) ?_
                refine lv_bipush (v := 61) hx hb dX4_readsOrder_108 (by decide) ?_
                obtain ⟨σ175, hr174, h⟩ := ob h
                refine rowW (As := [.int 61]) (rest := []) C (kX4_wants l G b (up q170.2 11 ((4 * (σ 12 0)) + 1).toNatClampNeg q170.1) 61 σ175 hr174) (cwV 1 hts gX4_readsOrder_X4_wants rfl rfl rfl (by decide +kernel) ⟨Nat.le_of_ble_eq_true rfl, Nat.le_of_ble_eq_true rfl⟩) (rcv_X4 X hK) X hS (fun _ z => z) rfl hl.1 rfl (Nat.le_of_ble_eq_true rfl) dX4_readsOrder_110 ⟨Nat.zero_le _, Nat.zero_le _⟩ (fun H locs X hS _ _ => ?_)
                show W p l e _ s m _ below meth c H locs 0 0 _ (F0 m 113 ls [])
                refine lv_aload_n hx hb dX4_readsOrder_113 rfl (lv_at hl 2 rfl) ?_
                refine gt_X4_11 C hin X 4 rfl dX4_readsOrder_114 ?_
                refine lv_iload_n hx hb dX4_readsOrder_117 rfl (lv_at hl 1 rfl) ?_
                refine lv_iconst (v := 2) hx hb dX4_readsOrder_118 (by decide) ?_
                refine lv_iadd hx hb dX4_readsOrder_119 ?_
                refine lv_aload_n hx hb dX4_readsOrder_120 rfl (lv_at hl 2 rfl) ?_
                refine lv_bipush (v := 99) hx hb dX4_readsOrder_121 (by decide) ?_
                obtain ⟨q178, hr176, h⟩ := ob h
                refine rowW (As := [.int 99]) (rest := [.int ((4 * (σ 12 0)) + 2), .ref (b + 6)]) C (kX4_number l G b σ175 99 q178.1 q178.2 hr176) (cwV 1 hts gX4_readsOrder_X4_number rfl rfl rfl (by decide +kernel) ⟨Nat.le_of_ble_eq_true rfl, Nat.le_of_ble_eq_true rfl⟩) (rcv_X4 X hK) X hS (fun _ z => z) rfl hl.1 rfl (Nat.le_of_ble_eq_true rfl) dX4_readsOrder_123 ⟨Nat.zero_le _, Nat.zero_le _⟩ (fun H locs X hS _ _ => ?_)
                show W p l e _ s m _ below meth c H locs 0 0 _ (F0 m 126 ls [.int q178.1, .int ((4 * (σ 12 0)) + 2), .ref (b + 6)])
                obtain ⟨c179, h⟩ := og h
                refine as_X4_11 C X hS rfl c179 dX4_readsOrder_126 (fun H locs X hS => ?_)
                refine lv_aload_n hx hb dX4_readsOrder_127 rfl (lv_at hl 2 rfl) ?_
                refine lv_dup hx hb dX4_readsOrder_128 rfl ?_
                refine gt_X4_12 C hin X 1 rfl dX4_readsOrder_129 ?_
                refine lv_aload_n hx hb dX4_readsOrder_132 rfl (lv_at hl 2 rfl) ?_
                refine gt_X4_10 C hin X 2 rfl dX4_readsOrder_133 ?_
                refine lv_if_eq (tgt := 143) hx hb dX4_readsOrder_136 (by decide) (fun c180 => ?_) (fun c180 => ?_)
                · have h := ip h c180
                  refine lv_iconst (v := 0) hx hb dX4_readsOrder_143 (by decide) ?_
                  refine lv_iadd hx hb dX4_readsOrder_144 ?_
                  refine pt_X4_12 C hin X hS 1 rfl dX4_readsOrder_145 (fun H locs X hS => ?_)
                  have h := so h
                  subst h
                  exact W.vret hx hb hr (fun t ht _ => ⟨rfl, by rw [ht]; exact X, hS.F ht⟩) hS.2.2 dX4_readsOrder_148
                · have h := iq h c180
                  refine lv_iconst (v := 1) hx hb dX4_readsOrder_139 (by decide) ?_
                  refine lv_goto (tgt := 144) hx hb dX4_readsOrder_140 (by decide) ?_
                  refine lv_iadd hx hb dX4_readsOrder_144 ?_
                  refine pt_X4_12 C hin X hS 1 rfl dX4_readsOrder_145 (fun H locs X hS => ?_)
                  have h := so h
                  subst h
                  exact W.vret hx hb hr (fun t ht _ => ⟨rfl, by rw [ht]; exact X, hS.F ht⟩) hS.2.2 dX4_readsOrder_148
            · have h := ip h c167
              refine lv_aload_n hx hb dX4_readsOrder_79 rfl (lv_at hl 2 rfl) ?_
              refine lv_iload_n hx hb dX4_readsOrder_80 rfl (lv_at hl 1 rfl) ?_
              obtain ⟨σ182, hr181, h⟩ := ob h
              refine rowW (As := [.int (4 * (σ 12 0))]) (rest := []) C (kX4_readsCart l G b (up (up (up σ 10 0 0) 9 0 (((up σ 10 0 0) 9 0) + 0)) 11 (4 * (σ 12 0)).toNatClampNeg r1) (4 * (σ 12 0)) σ182 hr181) (cwV 1 hts gX4_readsOrder_X4_readsCart rfl rfl rfl (by decide +kernel) ⟨Nat.le_of_ble_eq_true rfl, Nat.le_of_ble_eq_true rfl⟩) (rcv_X4 X hK) X hS (fun _ z => z) rfl hl.1 rfl (Nat.le_of_ble_eq_true rfl) dX4_readsOrder_81 ⟨Nat.zero_le _, Nat.zero_le _⟩ (fun H locs X hS _ _ => ?_)
              show W p l e _ s m _ below meth c H locs 0 0 _ (F0 m 84 ls [])
              refine lv_goto (tgt := 101) hx hb dX4_readsOrder_84 (by decide) ?_
              refine lv_iload_n hx hb dX4_readsOrder_101 rfl (lv_at hl 0 rfl) ?_
              refine lv_bipush (v := 120) hx hb dX4_readsOrder_102 (by decide) ?_
              refine lv_icmp_ne (tgt := 127) hx hb dX4_readsOrder_104 (by decide) (fun c183 => ?_) (fun c183 => ?_)
              · have h := iq h c183
                refine lv_aload_n hx hb dX4_readsOrder_127 rfl (lv_at hl 2 rfl) ?_
                refine lv_dup hx hb dX4_readsOrder_128 rfl ?_
                refine gt_X4_12 C hin X 1 rfl dX4_readsOrder_129 ?_
                refine lv_aload_n hx hb dX4_readsOrder_132 rfl (lv_at hl 2 rfl) ?_
                refine gt_X4_10 C hin X 2 rfl dX4_readsOrder_133 ?_
                refine lv_if_eq (tgt := 143) hx hb dX4_readsOrder_136 (by decide) (fun c184 => ?_) (fun c184 => ?_)
                · have h := ip h c184
                  refine lv_iconst (v := 0) hx hb dX4_readsOrder_143 (by decide) ?_
                  refine lv_iadd hx hb dX4_readsOrder_144 ?_
                  refine pt_X4_12 C hin X hS 1 rfl dX4_readsOrder_145 (fun H locs X hS => ?_)
                  have h := so h
                  subst h
                  exact W.vret hx hb hr (fun t ht _ => ⟨rfl, by rw [ht]; exact X, hS.F ht⟩) hS.2.2 dX4_readsOrder_148
                · have h := iq h c184
                  refine lv_iconst (v := 1) hx hb dX4_readsOrder_139 (by decide) ?_
                  refine lv_goto (tgt := 144) hx hb dX4_readsOrder_140 (by decide) ?_
                  refine lv_iadd hx hb dX4_readsOrder_144 ?_
                  refine pt_X4_12 C hin X hS 1 rfl dX4_readsOrder_145 (fun H locs X hS => ?_)
                  have h := so h
                  subst h
                  exact W.vret hx hb hr (fun t ht _ => ⟨rfl, by rw [ht]; exact X, hS.F ht⟩) hS.2.2 dX4_readsOrder_148
              · have h := ip h c183
                refine lv_aload_n hx hb dX4_readsOrder_107 rfl (lv_at hl 2 rfl) ?_
                refine lv_bipush (v := 61) hx hb dX4_readsOrder_108 (by decide) ?_
                obtain ⟨σ186, hr185, h⟩ := ob h
                refine rowW (As := [.int 61]) (rest := []) C (kX4_wants l G b σ182 61 σ186 hr185) (cwV 1 hts gX4_readsOrder_X4_wants rfl rfl rfl (by decide +kernel) ⟨Nat.le_of_ble_eq_true rfl, Nat.le_of_ble_eq_true rfl⟩) (rcv_X4 X hK) X hS (fun _ z => z) rfl hl.1 rfl (Nat.le_of_ble_eq_true rfl) dX4_readsOrder_110 ⟨Nat.zero_le _, Nat.zero_le _⟩ (fun H locs X hS _ _ => ?_)
                show W p l e _ s m _ below meth c H locs 0 0 _ (F0 m 113 ls [])
                refine lv_aload_n hx hb dX4_readsOrder_113 rfl (lv_at hl 2 rfl) ?_
                refine gt_X4_11 C hin X 4 rfl dX4_readsOrder_114 ?_
                refine lv_iload_n hx hb dX4_readsOrder_117 rfl (lv_at hl 1 rfl) ?_
                refine lv_iconst (v := 2) hx hb dX4_readsOrder_118 (by decide) ?_
                refine lv_iadd hx hb dX4_readsOrder_119 ?_
                refine lv_aload_n hx hb dX4_readsOrder_120 rfl (lv_at hl 2 rfl) ?_
                refine lv_bipush (v := 99) hx hb dX4_readsOrder_121 (by decide) ?_
                obtain ⟨q189, hr187, h⟩ := ob h
                refine rowW (As := [.int 99]) (rest := [.int ((4 * (σ 12 0)) + 2), .ref (b + 6)]) C (kX4_number l G b σ186 99 q189.1 q189.2 hr187) (cwV 1 hts gX4_readsOrder_X4_number rfl rfl rfl (by decide +kernel) ⟨Nat.le_of_ble_eq_true rfl, Nat.le_of_ble_eq_true rfl⟩) (rcv_X4 X hK) X hS (fun _ z => z) rfl hl.1 rfl (Nat.le_of_ble_eq_true rfl) dX4_readsOrder_123 ⟨Nat.zero_le _, Nat.zero_le _⟩ (fun H locs X hS _ _ => ?_)
                show W p l e _ s m _ below meth c H locs 0 0 _ (F0 m 126 ls [.int q189.1, .int ((4 * (σ 12 0)) + 2), .ref (b + 6)])
                obtain ⟨c190, h⟩ := og h
                refine as_X4_11 C X hS rfl c190 dX4_readsOrder_126 (fun H locs X hS => ?_)
                refine lv_aload_n hx hb dX4_readsOrder_127 rfl (lv_at hl 2 rfl) ?_
                refine lv_dup hx hb dX4_readsOrder_128 rfl ?_
                refine gt_X4_12 C hin X 1 rfl dX4_readsOrder_129 ?_
                refine lv_aload_n hx hb dX4_readsOrder_132 rfl (lv_at hl 2 rfl) ?_
                refine gt_X4_10 C hin X 2 rfl dX4_readsOrder_133 ?_
                refine lv_if_eq (tgt := 143) hx hb dX4_readsOrder_136 (by decide) (fun c191 => ?_) (fun c191 => ?_)
                · have h := ip h c191
                  refine lv_iconst (v := 0) hx hb dX4_readsOrder_143 (by decide) ?_
                  refine lv_iadd hx hb dX4_readsOrder_144 ?_
                  refine pt_X4_12 C hin X hS 1 rfl dX4_readsOrder_145 (fun H locs X hS => ?_)
                  have h := so h
                  subst h
                  exact W.vret hx hb hr (fun t ht _ => ⟨rfl, by rw [ht]; exact X, hS.F ht⟩) hS.2.2 dX4_readsOrder_148
                · have h := iq h c191
                  refine lv_iconst (v := 1) hx hb dX4_readsOrder_139 (by decide) ?_
                  refine lv_goto (tgt := 144) hx hb dX4_readsOrder_140 (by decide) ?_
                  refine lv_iadd hx hb dX4_readsOrder_144 ?_
                  refine pt_X4_12 C hin X hS 1 rfl dX4_readsOrder_145 (fun H locs X hS => ?_)
                  have h := so h
                  subst h
                  exact W.vret hx hb hr (fun t ht _ => ⟨rfl, by rw [ht]; exact X, hS.F ht⟩) hS.2.2 dX4_readsOrder_148
          · have h := iq h c165
            refine lv_iconst (v := 1) hx hb dX4_readsOrder_57 (by decide) ?_
            refine lv_goto (tgt := 62) hx hb dX4_readsOrder_58 (by decide) ?_
            refine lv_iadd hx hb dX4_readsOrder_62 ?_
            refine pt_X4_9 C hin X hS 3 rfl dX4_readsOrder_63 (fun H locs X hS => ?_)
            refine lv_aload_n hx hb dX4_readsOrder_66 rfl (lv_at hl 2 rfl) ?_
            refine gt_X4_11 C hin X 4 rfl dX4_readsOrder_67 ?_
            refine lv_iload_n hx hb dX4_readsOrder_70 rfl (lv_at hl 1 rfl) ?_
            refine lv_iload_n hx hb dX4_readsOrder_71 rfl (lv_at hl 0 rfl) ?_
            obtain ⟨c192, h⟩ := og h
            refine as_X4_11 C X hS rfl c192 dX4_readsOrder_72 (fun H locs X hS => ?_)
            refine lv_iload_n hx hb dX4_readsOrder_73 rfl (lv_at hl 0 rfl) ?_
            refine lv_bipush (v := 99) hx hb dX4_readsOrder_74 (by decide) ?_
            refine lv_icmp_ne (tgt := 87) hx hb dX4_readsOrder_76 (by decide) (fun c193 => ?_) (fun c193 => ?_)
            · have h := iq h c193
              refine lv_aload_n hx hb dX4_readsOrder_87 rfl (lv_at hl 2 rfl) ?_
              refine gt_X4_11 C hin X 4 rfl dX4_readsOrder_88 ?_
              refine lv_iload_n hx hb dX4_readsOrder_91 rfl (lv_at hl 1 rfl) ?_
              refine lv_iconst (v := 1) hx hb dX4_readsOrder_92 (by decide) ?_
              refine lv_iadd hx hb dX4_readsOrder_93 ?_
              refine lv_aload_n hx hb dX4_readsOrder_94 rfl (lv_at hl 2 rfl) ?_
              refine lv_bipush (v := 23) hx hb dX4_readsOrder_95 (by decide) ?_
              obtain ⟨q196, hr194, h⟩ := ob h
              refine rowW (As := [.int 23]) (rest := [.int ((4 * (σ 12 0)) + 1), .ref (b + 6)]) C (kX4_number l G b (up (up (up σ 10 0 0) 9 0 (((up σ 10 0 0) 9 0) + 1)) 11 (4 * (σ 12 0)).toNatClampNeg r1) 23 q196.1 q196.2 hr194) (cwV 1 hts gX4_readsOrder_X4_number rfl rfl rfl (by decide +kernel) ⟨Nat.le_of_ble_eq_true rfl, Nat.le_of_ble_eq_true rfl⟩) (rcv_X4 X hK) X hS (fun _ z => z) rfl hl.1 rfl (Nat.le_of_ble_eq_true rfl) dX4_readsOrder_97 ⟨Nat.zero_le _, Nat.zero_le _⟩ (fun H locs X hS _ _ => ?_)
              show W p l e _ s m _ below meth c H locs 0 0 _ (F0 m 100 ls [.int q196.1, .int ((4 * (σ 12 0)) + 1), .ref (b + 6)])
              obtain ⟨c197, h⟩ := og h
              refine as_X4_11 C X hS rfl c197 dX4_readsOrder_100 (fun H locs X hS => ?_)
              refine lv_iload_n hx hb dX4_readsOrder_101 rfl (lv_at hl 0 rfl) ?_
              refine lv_bipush (v := 120) hx hb dX4_readsOrder_102 (by decide) ?_
              refine lv_icmp_ne (tgt := 127) hx hb dX4_readsOrder_104 (by decide) (fun c198 => ?_) (fun c198 => ?_)
              · have h := iq h c198
                refine lv_aload_n hx hb dX4_readsOrder_127 rfl (lv_at hl 2 rfl) ?_
                refine lv_dup hx hb dX4_readsOrder_128 rfl ?_
                refine gt_X4_12 C hin X 1 rfl dX4_readsOrder_129 ?_
                refine lv_aload_n hx hb dX4_readsOrder_132 rfl (lv_at hl 2 rfl) ?_
                refine gt_X4_10 C hin X 2 rfl dX4_readsOrder_133 ?_
                refine lv_if_eq (tgt := 143) hx hb dX4_readsOrder_136 (by decide) (fun c199 => ?_) (fun c199 => ?_)
                · have h := ip h c199
                  refine lv_iconst (v := 0) hx hb dX4_readsOrder_143 (by decide) ?_
                  refine lv_iadd hx hb dX4_readsOrder_144 ?_
                  refine pt_X4_12 C hin X hS 1 rfl dX4_readsOrder_145 (fun H locs X hS => ?_)
                  have h := so h
                  subst h
                  exact W.vret hx hb hr (fun t ht _ => ⟨rfl, by rw [ht]; exact X, hS.F ht⟩) hS.2.2 dX4_readsOrder_148
                · have h := iq h c199
                  refine lv_iconst (v := 1) hx hb dX4_readsOrder_139 (by decide) ?_
                  refine lv_goto (tgt := 144) hx hb dX4_readsOrder_140 (by decide) ?_
                  refine lv_iadd hx hb dX4_readsOrder_144 ?_
                  refine pt_X4_12 C hin X hS 1 rfl dX4_readsOrder_145 (fun H locs X hS => ?_)
                  have h := so h
                  subst h
                  exact W.vret hx hb hr (fun t ht _ => ⟨rfl, by rw [ht]; exact X, hS.F ht⟩) hS.2.2 dX4_readsOrder_148
              · have h := ip h c198
                refine lv_aload_n hx hb dX4_readsOrder_107 rfl (lv_at hl 2 rfl) ?_
                refine lv_bipush (v := 61) hx hb dX4_readsOrder_108 (by decide) ?_
                obtain ⟨σ201, hr200, h⟩ := ob h
                refine rowW (As := [.int 61]) (rest := []) C (kX4_wants l G b (up q196.2 11 ((4 * (σ 12 0)) + 1).toNatClampNeg q196.1) 61 σ201 hr200) (cwV 1 hts gX4_readsOrder_X4_wants rfl rfl rfl (by decide +kernel) ⟨Nat.le_of_ble_eq_true rfl, Nat.le_of_ble_eq_true rfl⟩) (rcv_X4 X hK) X hS (fun _ z => z) rfl hl.1 rfl (Nat.le_of_ble_eq_true rfl) dX4_readsOrder_110 ⟨Nat.zero_le _, Nat.zero_le _⟩ (fun H locs X hS _ _ => ?_)
                show W p l e _ s m _ below meth c H locs 0 0 _ (F0 m 113 ls [])
                refine lv_aload_n hx hb dX4_readsOrder_113 rfl (lv_at hl 2 rfl) ?_
                refine gt_X4_11 C hin X 4 rfl dX4_readsOrder_114 ?_
                refine lv_iload_n hx hb dX4_readsOrder_117 rfl (lv_at hl 1 rfl) ?_
                refine lv_iconst (v := 2) hx hb dX4_readsOrder_118 (by decide) ?_
                refine lv_iadd hx hb dX4_readsOrder_119 ?_
                refine lv_aload_n hx hb dX4_readsOrder_120 rfl (lv_at hl 2 rfl) ?_
                refine lv_bipush (v := 99) hx hb dX4_readsOrder_121 (by decide) ?_
                obtain ⟨q204, hr202, h⟩ := ob h
                refine rowW (As := [.int 99]) (rest := [.int ((4 * (σ 12 0)) + 2), .ref (b + 6)]) C (kX4_number l G b σ201 99 q204.1 q204.2 hr202) (cwV 1 hts gX4_readsOrder_X4_number rfl rfl rfl (by decide +kernel) ⟨Nat.le_of_ble_eq_true rfl, Nat.le_of_ble_eq_true rfl⟩) (rcv_X4 X hK) X hS (fun _ z => z) rfl hl.1 rfl (Nat.le_of_ble_eq_true rfl) dX4_readsOrder_123 ⟨Nat.zero_le _, Nat.zero_le _⟩ (fun H locs X hS _ _ => ?_)
                show W p l e _ s m _ below meth c H locs 0 0 _ (F0 m 126 ls [.int q204.1, .int ((4 * (σ 12 0)) + 2), .ref (b + 6)])
                obtain ⟨c205, h⟩ := og h
                refine as_X4_11 C X hS rfl c205 dX4_readsOrder_126 (fun H locs X hS => ?_)
                refine lv_aload_n hx hb dX4_readsOrder_127 rfl (lv_at hl 2 rfl) ?_
                refine lv_dup hx hb dX4_readsOrder_128 rfl ?_
                refine gt_X4_12 C hin X 1 rfl dX4_readsOrder_129 ?_
                refine lv_aload_n hx hb dX4_readsOrder_132 rfl (lv_at hl 2 rfl) ?_
                refine gt_X4_10 C hin X 2 rfl dX4_readsOrder_133 ?_
                refine lv_if_eq (tgt := 143) hx hb dX4_readsOrder_136 (by decide) (fun c206 => ?_) (fun c206 => ?_)
                · have h := ip h c206
                  refine lv_iconst (v := 0) hx hb dX4_readsOrder_143 (by decide) ?_
                  refine lv_iadd hx hb dX4_readsOrder_144 ?_
                  refine pt_X4_12 C hin X hS 1 rfl dX4_readsOrder_145 (fun H locs X hS => ?_)
                  have h := so h
                  subst h
                  exact W.vret hx hb hr (fun t ht _ => ⟨rfl, by rw [ht]; exact X, hS.F ht⟩) hS.2.2 dX4_readsOrder_148
                · have h := iq h c206
                  refine lv_iconst (v := 1) hx hb dX4_readsOrder_139 (by decide) ?_
                  refine lv_goto (tgt := 144) hx hb dX4_readsOrder_140 (by decide) ?_
                  refine lv_iadd hx hb dX4_readsOrder_144 ?_
                  refine pt_X4_12 C hin X hS 1 rfl dX4_readsOrder_145 (fun H locs X hS => ?_)
                  have h := so h
                  subst h
                  exact W.vret hx hb hr (fun t ht _ => ⟨rfl, by rw [ht]; exact X, hS.F ht⟩) hS.2.2 dX4_readsOrder_148
            · have h := ip h c193
              refine lv_aload_n hx hb dX4_readsOrder_79 rfl (lv_at hl 2 rfl) ?_
              refine lv_iload_n hx hb dX4_readsOrder_80 rfl (lv_at hl 1 rfl) ?_
              obtain ⟨σ208, hr207, h⟩ := ob h
              refine rowW (As := [.int (4 * (σ 12 0))]) (rest := []) C (kX4_readsCart l G b (up (up (up σ 10 0 0) 9 0 (((up σ 10 0 0) 9 0) + 1)) 11 (4 * (σ 12 0)).toNatClampNeg r1) (4 * (σ 12 0)) σ208 hr207) (cwV 1 hts gX4_readsOrder_X4_readsCart rfl rfl rfl (by decide +kernel) ⟨Nat.le_of_ble_eq_true rfl, Nat.le_of_ble_eq_true rfl⟩) (rcv_X4 X hK) X hS (fun _ z => z) rfl hl.1 rfl (Nat.le_of_ble_eq_true rfl) dX4_readsOrder_81 ⟨Nat.zero_le _, Nat.zero_le _⟩ (fun H locs X hS _ _ => ?_)
              show W p l e _ s m _ below meth c H locs 0 0 _ (F0 m 84 ls [])
              refine lv_goto (tgt := 101) hx hb dX4_readsOrder_84 (by decide) ?_
              refine lv_iload_n hx hb dX4_readsOrder_101 rfl (lv_at hl 0 rfl) ?_
              refine lv_bipush (v := 120) hx hb dX4_readsOrder_102 (by decide) ?_
              refine lv_icmp_ne (tgt := 127) hx hb dX4_readsOrder_104 (by decide) (fun c209 => ?_) (fun c209 => ?_)
              · have h := iq h c209
                refine lv_aload_n hx hb dX4_readsOrder_127 rfl (lv_at hl 2 rfl) ?_
                refine lv_dup hx hb dX4_readsOrder_128 rfl ?_
                refine gt_X4_12 C hin X 1 rfl dX4_readsOrder_129 ?_
                refine lv_aload_n hx hb dX4_readsOrder_132 rfl (lv_at hl 2 rfl) ?_
                refine gt_X4_10 C hin X 2 rfl dX4_readsOrder_133 ?_
                refine lv_if_eq (tgt := 143) hx hb dX4_readsOrder_136 (by decide) (fun c210 => ?_) (fun c210 => ?_)
                · have h := ip h c210
                  refine lv_iconst (v := 0) hx hb dX4_readsOrder_143 (by decide) ?_
                  refine lv_iadd hx hb dX4_readsOrder_144 ?_
                  refine pt_X4_12 C hin X hS 1 rfl dX4_readsOrder_145 (fun H locs X hS => ?_)
                  have h := so h
                  subst h
                  exact W.vret hx hb hr (fun t ht _ => ⟨rfl, by rw [ht]; exact X, hS.F ht⟩) hS.2.2 dX4_readsOrder_148
                · have h := iq h c210
                  refine lv_iconst (v := 1) hx hb dX4_readsOrder_139 (by decide) ?_
                  refine lv_goto (tgt := 144) hx hb dX4_readsOrder_140 (by decide) ?_
                  refine lv_iadd hx hb dX4_readsOrder_144 ?_
                  refine pt_X4_12 C hin X hS 1 rfl dX4_readsOrder_145 (fun H locs X hS => ?_)
                  have h := so h
                  subst h
                  exact W.vret hx hb hr (fun t ht _ => ⟨rfl, by rw [ht]; exact X, hS.F ht⟩) hS.2.2 dX4_readsOrder_148
              · have h := ip h c209
                refine lv_aload_n hx hb dX4_readsOrder_107 rfl (lv_at hl 2 rfl) ?_
                refine lv_bipush (v := 61) hx hb dX4_readsOrder_108 (by decide) ?_
                obtain ⟨σ212, hr211, h⟩ := ob h
                refine rowW (As := [.int 61]) (rest := []) C (kX4_wants l G b σ208 61 σ212 hr211) (cwV 1 hts gX4_readsOrder_X4_wants rfl rfl rfl (by decide +kernel) ⟨Nat.le_of_ble_eq_true rfl, Nat.le_of_ble_eq_true rfl⟩) (rcv_X4 X hK) X hS (fun _ z => z) rfl hl.1 rfl (Nat.le_of_ble_eq_true rfl) dX4_readsOrder_110 ⟨Nat.zero_le _, Nat.zero_le _⟩ (fun H locs X hS _ _ => ?_)
                show W p l e _ s m _ below meth c H locs 0 0 _ (F0 m 113 ls [])
                refine lv_aload_n hx hb dX4_readsOrder_113 rfl (lv_at hl 2 rfl) ?_
                refine gt_X4_11 C hin X 4 rfl dX4_readsOrder_114 ?_
                refine lv_iload_n hx hb dX4_readsOrder_117 rfl (lv_at hl 1 rfl) ?_
                refine lv_iconst (v := 2) hx hb dX4_readsOrder_118 (by decide) ?_
                refine lv_iadd hx hb dX4_readsOrder_119 ?_
                refine lv_aload_n hx hb dX4_readsOrder_120 rfl (lv_at hl 2 rfl) ?_
                refine lv_bipush (v := 99) hx hb dX4_readsOrder_121 (by decide) ?_
                obtain ⟨q215, hr213, h⟩ := ob h
                refine rowW (As := [.int 99]) (rest := [.int ((4 * (σ 12 0)) + 2), .ref (b + 6)]) C (kX4_number l G b σ212 99 q215.1 q215.2 hr213) (cwV 1 hts gX4_readsOrder_X4_number rfl rfl rfl (by decide +kernel) ⟨Nat.le_of_ble_eq_true rfl, Nat.le_of_ble_eq_true rfl⟩) (rcv_X4 X hK) X hS (fun _ z => z) rfl hl.1 rfl (Nat.le_of_ble_eq_true rfl) dX4_readsOrder_123 ⟨Nat.zero_le _, Nat.zero_le _⟩ (fun H locs X hS _ _ => ?_)
                show W p l e _ s m _ below meth c H locs 0 0 _ (F0 m 126 ls [.int q215.1, .int ((4 * (σ 12 0)) + 2), .ref (b + 6)])
                obtain ⟨c216, h⟩ := og h
                refine as_X4_11 C X hS rfl c216 dX4_readsOrder_126 (fun H locs X hS => ?_)
                refine lv_aload_n hx hb dX4_readsOrder_127 rfl (lv_at hl 2 rfl) ?_
                refine lv_dup hx hb dX4_readsOrder_128 rfl ?_
                refine gt_X4_12 C hin X 1 rfl dX4_readsOrder_129 ?_
                refine lv_aload_n hx hb dX4_readsOrder_132 rfl (lv_at hl 2 rfl) ?_
                refine gt_X4_10 C hin X 2 rfl dX4_readsOrder_133 ?_
                refine lv_if_eq (tgt := 143) hx hb dX4_readsOrder_136 (by decide) (fun c217 => ?_) (fun c217 => ?_)
                · have h := ip h c217
                  refine lv_iconst (v := 0) hx hb dX4_readsOrder_143 (by decide) ?_
                  refine lv_iadd hx hb dX4_readsOrder_144 ?_
                  refine pt_X4_12 C hin X hS 1 rfl dX4_readsOrder_145 (fun H locs X hS => ?_)
                  have h := so h
                  subst h
                  exact W.vret hx hb hr (fun t ht _ => ⟨rfl, by rw [ht]; exact X, hS.F ht⟩) hS.2.2 dX4_readsOrder_148
                · have h := iq h c217
                  refine lv_iconst (v := 1) hx hb dX4_readsOrder_139 (by decide) ?_
                  refine lv_goto (tgt := 144) hx hb dX4_readsOrder_140 (by decide) ?_
                  refine lv_iadd hx hb dX4_readsOrder_144 ?_
                  refine pt_X4_12 C hin X hS 1 rfl dX4_readsOrder_145 (fun H locs X hS => ?_)
                  have h := so h
                  subst h
                  exact W.vret hx hb hr (fun t ht _ => ⟨rfl, by rw [ht]; exact X, hS.F ht⟩) hS.2.2 dX4_readsOrder_148
        · have h := ip h c164
          refine lv_iconst (v := 1) hx hb dX4_readsOrder_37 (by decide) ?_
          refine lv_goto (tgt := 42) hx hb dX4_readsOrder_38 (by decide) ?_
          refine pt_X4_10 C hin X hS 2 rfl rfl (by decide) dX4_readsOrder_42 (fun H locs X hS => ?_)
          refine lv_aload_n hx hb dX4_readsOrder_45 rfl (lv_at hl 2 rfl) ?_
          refine lv_dup hx hb dX4_readsOrder_46 rfl ?_
          refine gt_X4_9 C hin X 3 rfl dX4_readsOrder_47 ?_
          refine lv_aload_n hx hb dX4_readsOrder_50 rfl (lv_at hl 2 rfl) ?_
          refine gt_X4_10 C hin X 2 rfl dX4_readsOrder_51 ?_
          refine lv_if_eq (tgt := 61) hx hb dX4_readsOrder_54 (by decide) (fun c218 => ?_) (fun c218 => ?_)
          · have h := ip h c218
            refine lv_iconst (v := 0) hx hb dX4_readsOrder_61 (by decide) ?_
            refine lv_iadd hx hb dX4_readsOrder_62 ?_
            refine pt_X4_9 C hin X hS 3 rfl dX4_readsOrder_63 (fun H locs X hS => ?_)
            refine lv_aload_n hx hb dX4_readsOrder_66 rfl (lv_at hl 2 rfl) ?_
            refine gt_X4_11 C hin X 4 rfl dX4_readsOrder_67 ?_
            refine lv_iload_n hx hb dX4_readsOrder_70 rfl (lv_at hl 1 rfl) ?_
            refine lv_iload_n hx hb dX4_readsOrder_71 rfl (lv_at hl 0 rfl) ?_
            obtain ⟨c219, h⟩ := og h
            refine as_X4_11 C X hS rfl c219 dX4_readsOrder_72 (fun H locs X hS => ?_)
            refine lv_iload_n hx hb dX4_readsOrder_73 rfl (lv_at hl 0 rfl) ?_
            refine lv_bipush (v := 99) hx hb dX4_readsOrder_74 (by decide) ?_
            refine lv_icmp_ne (tgt := 87) hx hb dX4_readsOrder_76 (by decide) (fun c220 => ?_) (fun c220 => ?_)
            · have h := iq h c220
              refine lv_aload_n hx hb dX4_readsOrder_87 rfl (lv_at hl 2 rfl) ?_
              refine gt_X4_11 C hin X 4 rfl dX4_readsOrder_88 ?_
              refine lv_iload_n hx hb dX4_readsOrder_91 rfl (lv_at hl 1 rfl) ?_
              refine lv_iconst (v := 1) hx hb dX4_readsOrder_92 (by decide) ?_
              refine lv_iadd hx hb dX4_readsOrder_93 ?_
              refine lv_aload_n hx hb dX4_readsOrder_94 rfl (lv_at hl 2 rfl) ?_
              refine lv_bipush (v := 23) hx hb dX4_readsOrder_95 (by decide) ?_
              obtain ⟨q223, hr221, h⟩ := ob h
              refine rowW (As := [.int 23]) (rest := [.int ((4 * (σ 12 0)) + 1), .ref (b + 6)]) C (kX4_number l G b (up (up (up σ 10 0 1) 9 0 (((up σ 10 0 1) 9 0) + 0)) 11 (4 * (σ 12 0)).toNatClampNeg r1) 23 q223.1 q223.2 hr221) (cwV 1 hts gX4_readsOrder_X4_number rfl rfl rfl (by decide +kernel) ⟨Nat.le_of_ble_eq_true rfl, Nat.le_of_ble_eq_true rfl⟩) (rcv_X4 X hK) X hS (fun _ z => z) rfl hl.1 rfl (Nat.le_of_ble_eq_true rfl) dX4_readsOrder_97 ⟨Nat.zero_le _, Nat.zero_le _⟩ (fun H locs X hS _ _ => ?_)
              show W p l e _ s m _ below meth c H locs 0 0 _ (F0 m 100 ls [.int q223.1, .int ((4 * (σ 12 0)) + 1), .ref (b + 6)])
              obtain ⟨c224, h⟩ := og h
              refine as_X4_11 C X hS rfl c224 dX4_readsOrder_100 (fun H locs X hS => ?_)
              refine lv_iload_n hx hb dX4_readsOrder_101 rfl (lv_at hl 0 rfl) ?_
              refine lv_bipush (v := 120) hx hb dX4_readsOrder_102 (by decide) ?_
              refine lv_icmp_ne (tgt := 127) hx hb dX4_readsOrder_104 (by decide) (fun c225 => ?_) (fun c225 => ?_)
              · have h := iq h c225
                refine lv_aload_n hx hb dX4_readsOrder_127 rfl (lv_at hl 2 rfl) ?_
                refine lv_dup hx hb dX4_readsOrder_128 rfl ?_
                refine gt_X4_12 C hin X 1 rfl dX4_readsOrder_129 ?_
                refine lv_aload_n hx hb dX4_readsOrder_132 rfl (lv_at hl 2 rfl) ?_
                refine gt_X4_10 C hin X 2 rfl dX4_readsOrder_133 ?_
                refine lv_if_eq (tgt := 143) hx hb dX4_readsOrder_136 (by decide) (fun c226 => ?_) (fun c226 => ?_)
                · have h := ip h c226
                  refine lv_iconst (v := 0) hx hb dX4_readsOrder_143 (by decide) ?_
                  refine lv_iadd hx hb dX4_readsOrder_144 ?_
                  refine pt_X4_12 C hin X hS 1 rfl dX4_readsOrder_145 (fun H locs X hS => ?_)
                  have h := so h
                  subst h
                  exact W.vret hx hb hr (fun t ht _ => ⟨rfl, by rw [ht]; exact X, hS.F ht⟩) hS.2.2 dX4_readsOrder_148
                · have h := iq h c226
                  refine lv_iconst (v := 1) hx hb dX4_readsOrder_139 (by decide) ?_
                  refine lv_goto (tgt := 144) hx hb dX4_readsOrder_140 (by decide) ?_
                  refine lv_iadd hx hb dX4_readsOrder_144 ?_
                  refine pt_X4_12 C hin X hS 1 rfl dX4_readsOrder_145 (fun H locs X hS => ?_)
                  have h := so h
                  subst h
                  exact W.vret hx hb hr (fun t ht _ => ⟨rfl, by rw [ht]; exact X, hS.F ht⟩) hS.2.2 dX4_readsOrder_148
              · have h := ip h c225
                refine lv_aload_n hx hb dX4_readsOrder_107 rfl (lv_at hl 2 rfl) ?_
                refine lv_bipush (v := 61) hx hb dX4_readsOrder_108 (by decide) ?_
                obtain ⟨σ228, hr227, h⟩ := ob h
                refine rowW (As := [.int 61]) (rest := []) C (kX4_wants l G b (up q223.2 11 ((4 * (σ 12 0)) + 1).toNatClampNeg q223.1) 61 σ228 hr227) (cwV 1 hts gX4_readsOrder_X4_wants rfl rfl rfl (by decide +kernel) ⟨Nat.le_of_ble_eq_true rfl, Nat.le_of_ble_eq_true rfl⟩) (rcv_X4 X hK) X hS (fun _ z => z) rfl hl.1 rfl (Nat.le_of_ble_eq_true rfl) dX4_readsOrder_110 ⟨Nat.zero_le _, Nat.zero_le _⟩ (fun H locs X hS _ _ => ?_)
                show W p l e _ s m _ below meth c H locs 0 0 _ (F0 m 113 ls [])
                refine lv_aload_n hx hb dX4_readsOrder_113 rfl (lv_at hl 2 rfl) ?_
                refine gt_X4_11 C hin X 4 rfl dX4_readsOrder_114 ?_
                refine lv_iload_n hx hb dX4_readsOrder_117 rfl (lv_at hl 1 rfl) ?_
                refine lv_iconst (v := 2) hx hb dX4_readsOrder_118 (by decide) ?_
                refine lv_iadd hx hb dX4_readsOrder_119 ?_
                refine lv_aload_n hx hb dX4_readsOrder_120 rfl (lv_at hl 2 rfl) ?_
                refine lv_bipush (v := 99) hx hb dX4_readsOrder_121 (by decide) ?_
                obtain ⟨q231, hr229, h⟩ := ob h
                refine rowW (As := [.int 99]) (rest := [.int ((4 * (σ 12 0)) + 2), .ref (b + 6)]) C (kX4_number l G b σ228 99 q231.1 q231.2 hr229) (cwV 1 hts gX4_readsOrder_X4_number rfl rfl rfl (by decide +kernel) ⟨Nat.le_of_ble_eq_true rfl, Nat.le_of_ble_eq_true rfl⟩) (rcv_X4 X hK) X hS (fun _ z => z) rfl hl.1 rfl (Nat.le_of_ble_eq_true rfl) dX4_readsOrder_123 ⟨Nat.zero_le _, Nat.zero_le _⟩ (fun H locs X hS _ _ => ?_)
                show W p l e _ s m _ below meth c H locs 0 0 _ (F0 m 126 ls [.int q231.1, .int ((4 * (σ 12 0)) + 2), .ref (b + 6)])
                obtain ⟨c232, h⟩ := og h
                refine as_X4_11 C X hS rfl c232 dX4_readsOrder_126 (fun H locs X hS => ?_)
                refine lv_aload_n hx hb dX4_readsOrder_127 rfl (lv_at hl 2 rfl) ?_
                refine lv_dup hx hb dX4_readsOrder_128 rfl ?_
                refine gt_X4_12 C hin X 1 rfl dX4_readsOrder_129 ?_
                refine lv_aload_n hx hb dX4_readsOrder_132 rfl (lv_at hl 2 rfl) ?_
                refine gt_X4_10 C hin X 2 rfl dX4_readsOrder_133 ?_
                refine lv_if_eq (tgt := 143) hx hb dX4_readsOrder_136 (by decide) (fun c233 => ?_) (fun c233 => ?_)
                · have h := ip h c233
                  refine lv_iconst (v := 0) hx hb dX4_readsOrder_143 (by decide) ?_
                  refine lv_iadd hx hb dX4_readsOrder_144 ?_
                  refine pt_X4_12 C hin X hS 1 rfl dX4_readsOrder_145 (fun H locs X hS => ?_)
                  have h := so h
                  subst h
                  exact W.vret hx hb hr (fun t ht _ => ⟨rfl, by rw [ht]; exact X, hS.F ht⟩) hS.2.2 dX4_readsOrder_148
                · have h := iq h c233
                  refine lv_iconst (v := 1) hx hb dX4_readsOrder_139 (by decide) ?_
                  refine lv_goto (tgt := 144) hx hb dX4_readsOrder_140 (by decide) ?_
                  refine lv_iadd hx hb dX4_readsOrder_144 ?_
                  refine pt_X4_12 C hin X hS 1 rfl dX4_readsOrder_145 (fun H locs X hS => ?_)
                  have h := so h
                  subst h
                  exact W.vret hx hb hr (fun t ht _ => ⟨rfl, by rw [ht]; exact X, hS.F ht⟩) hS.2.2 dX4_readsOrder_148
            · have h := ip h c220
              refine lv_aload_n hx hb dX4_readsOrder_79 rfl (lv_at hl 2 rfl) ?_
              refine lv_iload_n hx hb dX4_readsOrder_80 rfl (lv_at hl 1 rfl) ?_
              obtain ⟨σ235, hr234, h⟩ := ob h
              refine rowW (As := [.int (4 * (σ 12 0))]) (rest := []) C (kX4_readsCart l G b (up (up (up σ 10 0 1) 9 0 (((up σ 10 0 1) 9 0) + 0)) 11 (4 * (σ 12 0)).toNatClampNeg r1) (4 * (σ 12 0)) σ235 hr234) (cwV 1 hts gX4_readsOrder_X4_readsCart rfl rfl rfl (by decide +kernel) ⟨Nat.le_of_ble_eq_true rfl, Nat.le_of_ble_eq_true rfl⟩) (rcv_X4 X hK) X hS (fun _ z => z) rfl hl.1 rfl (Nat.le_of_ble_eq_true rfl) dX4_readsOrder_81 ⟨Nat.zero_le _, Nat.zero_le _⟩ (fun H locs X hS _ _ => ?_)
              show W p l e _ s m _ below meth c H locs 0 0 _ (F0 m 84 ls [])
              refine lv_goto (tgt := 101) hx hb dX4_readsOrder_84 (by decide) ?_
              refine lv_iload_n hx hb dX4_readsOrder_101 rfl (lv_at hl 0 rfl) ?_
              refine lv_bipush (v := 120) hx hb dX4_readsOrder_102 (by decide) ?_
              refine lv_icmp_ne (tgt := 127) hx hb dX4_readsOrder_104 (by decide) (fun c236 => ?_) (fun c236 => ?_)
              · have h := iq h c236
                refine lv_aload_n hx hb dX4_readsOrder_127 rfl (lv_at hl 2 rfl) ?_
                refine lv_dup hx hb dX4_readsOrder_128 rfl ?_
                refine gt_X4_12 C hin X 1 rfl dX4_readsOrder_129 ?_
                refine lv_aload_n hx hb dX4_readsOrder_132 rfl (lv_at hl 2 rfl) ?_
                refine gt_X4_10 C hin X 2 rfl dX4_readsOrder_133 ?_
                refine lv_if_eq (tgt := 143) hx hb dX4_readsOrder_136 (by decide) (fun c237 => ?_) (fun c237 => ?_)
                · have h := ip h c237
                  refine lv_iconst (v := 0) hx hb dX4_readsOrder_143 (by decide) ?_
                  refine lv_iadd hx hb dX4_readsOrder_144 ?_
                  refine pt_X4_12 C hin X hS 1 rfl dX4_readsOrder_145 (fun H locs X hS => ?_)
                  have h := so h
                  subst h
                  exact W.vret hx hb hr (fun t ht _ => ⟨rfl, by rw [ht]; exact X, hS.F ht⟩) hS.2.2 dX4_readsOrder_148
                · have h := iq h c237
                  refine lv_iconst (v := 1) hx hb dX4_readsOrder_139 (by decide) ?_
                  refine lv_goto (tgt := 144) hx hb dX4_readsOrder_140 (by decide) ?_
                  refine lv_iadd hx hb dX4_readsOrder_144 ?_
                  refine pt_X4_12 C hin X hS 1 rfl dX4_readsOrder_145 (fun H locs X hS => ?_)
                  have h := so h
                  subst h
                  exact W.vret hx hb hr (fun t ht _ => ⟨rfl, by rw [ht]; exact X, hS.F ht⟩) hS.2.2 dX4_readsOrder_148
              · have h := ip h c236
                refine lv_aload_n hx hb dX4_readsOrder_107 rfl (lv_at hl 2 rfl) ?_
                refine lv_bipush (v := 61) hx hb dX4_readsOrder_108 (by decide) ?_
                obtain ⟨σ239, hr238, h⟩ := ob h
                refine rowW (As := [.int 61]) (rest := []) C (kX4_wants l G b σ235 61 σ239 hr238) (cwV 1 hts gX4_readsOrder_X4_wants rfl rfl rfl (by decide +kernel) ⟨Nat.le_of_ble_eq_true rfl, Nat.le_of_ble_eq_true rfl⟩) (rcv_X4 X hK) X hS (fun _ z => z) rfl hl.1 rfl (Nat.le_of_ble_eq_true rfl) dX4_readsOrder_110 ⟨Nat.zero_le _, Nat.zero_le _⟩ (fun H locs X hS _ _ => ?_)
                show W p l e _ s m _ below meth c H locs 0 0 _ (F0 m 113 ls [])
                refine lv_aload_n hx hb dX4_readsOrder_113 rfl (lv_at hl 2 rfl) ?_
                refine gt_X4_11 C hin X 4 rfl dX4_readsOrder_114 ?_
                refine lv_iload_n hx hb dX4_readsOrder_117 rfl (lv_at hl 1 rfl) ?_
                refine lv_iconst (v := 2) hx hb dX4_readsOrder_118 (by decide) ?_
                refine lv_iadd hx hb dX4_readsOrder_119 ?_
                refine lv_aload_n hx hb dX4_readsOrder_120 rfl (lv_at hl 2 rfl) ?_
                refine lv_bipush (v := 99) hx hb dX4_readsOrder_121 (by decide) ?_
                obtain ⟨q242, hr240, h⟩ := ob h
                refine rowW (As := [.int 99]) (rest := [.int ((4 * (σ 12 0)) + 2), .ref (b + 6)]) C (kX4_number l G b σ239 99 q242.1 q242.2 hr240) (cwV 1 hts gX4_readsOrder_X4_number rfl rfl rfl (by decide +kernel) ⟨Nat.le_of_ble_eq_true rfl, Nat.le_of_ble_eq_true rfl⟩) (rcv_X4 X hK) X hS (fun _ z => z) rfl hl.1 rfl (Nat.le_of_ble_eq_true rfl) dX4_readsOrder_123 ⟨Nat.zero_le _, Nat.zero_le _⟩ (fun H locs X hS _ _ => ?_)
                show W p l e _ s m _ below meth c H locs 0 0 _ (F0 m 126 ls [.int q242.1, .int ((4 * (σ 12 0)) + 2), .ref (b + 6)])
                obtain ⟨c243, h⟩ := og h
                refine as_X4_11 C X hS rfl c243 dX4_readsOrder_126 (fun H locs X hS => ?_)
                refine lv_aload_n hx hb dX4_readsOrder_127 rfl (lv_at hl 2 rfl) ?_
                refine lv_dup hx hb dX4_readsOrder_128 rfl ?_
                refine gt_X4_12 C hin X 1 rfl dX4_readsOrder_129 ?_
                refine lv_aload_n hx hb dX4_readsOrder_132 rfl (lv_at hl 2 rfl) ?_
                refine gt_X4_10 C hin X 2 rfl dX4_readsOrder_133 ?_
                refine lv_if_eq (tgt := 143) hx hb dX4_readsOrder_136 (by decide) (fun c244 => ?_) (fun c244 => ?_)
                · have h := ip h c244
                  refine lv_iconst (v := 0) hx hb dX4_readsOrder_143 (by decide) ?_
                  refine lv_iadd hx hb dX4_readsOrder_144 ?_
                  refine pt_X4_12 C hin X hS 1 rfl dX4_readsOrder_145 (fun H locs X hS => ?_)
                  have h := so h
                  subst h
                  exact W.vret hx hb hr (fun t ht _ => ⟨rfl, by rw [ht]; exact X, hS.F ht⟩) hS.2.2 dX4_readsOrder_148
                · have h := iq h c244
                  refine lv_iconst (v := 1) hx hb dX4_readsOrder_139 (by decide) ?_
                  refine lv_goto (tgt := 144) hx hb dX4_readsOrder_140 (by decide) ?_
                  refine lv_iadd hx hb dX4_readsOrder_144 ?_
                  refine pt_X4_12 C hin X hS 1 rfl dX4_readsOrder_145 (fun H locs X hS => ?_)
                  have h := so h
                  subst h
                  exact W.vret hx hb hr (fun t ht _ => ⟨rfl, by rw [ht]; exact X, hS.F ht⟩) hS.2.2 dX4_readsOrder_148
          · have h := iq h c218
            refine lv_iconst (v := 1) hx hb dX4_readsOrder_57 (by decide) ?_
            refine lv_goto (tgt := 62) hx hb dX4_readsOrder_58 (by decide) ?_
            refine lv_iadd hx hb dX4_readsOrder_62 ?_
            refine pt_X4_9 C hin X hS 3 rfl dX4_readsOrder_63 (fun H locs X hS => ?_)
            refine lv_aload_n hx hb dX4_readsOrder_66 rfl (lv_at hl 2 rfl) ?_
            refine gt_X4_11 C hin X 4 rfl dX4_readsOrder_67 ?_
            refine lv_iload_n hx hb dX4_readsOrder_70 rfl (lv_at hl 1 rfl) ?_
            refine lv_iload_n hx hb dX4_readsOrder_71 rfl (lv_at hl 0 rfl) ?_
            obtain ⟨c245, h⟩ := og h
            refine as_X4_11 C X hS rfl c245 dX4_readsOrder_72 (fun H locs X hS => ?_)
            refine lv_iload_n hx hb dX4_readsOrder_73 rfl (lv_at hl 0 rfl) ?_
            refine lv_bipush (v := 99) hx hb dX4_readsOrder_74 (by decide) ?_
            refine lv_icmp_ne (tgt := 87) hx hb dX4_readsOrder_76 (by decide) (fun c246 => ?_) (fun c246 => ?_)
            · have h := iq h c246
              refine lv_aload_n hx hb dX4_readsOrder_87 rfl (lv_at hl 2 rfl) ?_
              refine gt_X4_11 C hin X 4 rfl dX4_readsOrder_88 ?_
              refine lv_iload_n hx hb dX4_readsOrder_91 rfl (lv_at hl 1 rfl) ?_
              refine lv_iconst (v := 1) hx hb dX4_readsOrder_92 (by decide) ?_
              refine lv_iadd hx hb dX4_readsOrder_93 ?_
              refine lv_aload_n hx hb dX4_readsOrder_94 rfl (lv_at hl 2 rfl) ?_
              refine lv_bipush (v := 23) hx hb dX4_readsOrder_95 (by decide) ?_
              obtain ⟨q249, hr247, h⟩ := ob h
              refine rowW (As := [.int 23]) (rest := [.int ((4 * (σ 12 0)) + 1), .ref (b + 6)]) C (kX4_number l G b (up (up (up σ 10 0 1) 9 0 (((up σ 10 0 1) 9 0) + 1)) 11 (4 * (σ 12 0)).toNatClampNeg r1) 23 q249.1 q249.2 hr247) (cwV 1 hts gX4_readsOrder_X4_number rfl rfl rfl (by decide +kernel) ⟨Nat.le_of_ble_eq_true rfl, Nat.le_of_ble_eq_true rfl⟩) (rcv_X4 X hK) X hS (fun _ z => z) rfl hl.1 rfl (Nat.le_of_ble_eq_true rfl) dX4_readsOrder_97 ⟨Nat.zero_le _, Nat.zero_le _⟩ (fun H locs X hS _ _ => ?_)
              show W p l e _ s m _ below meth c H locs 0 0 _ (F0 m 100 ls [.int q249.1, .int ((4 * (σ 12 0)) + 1), .ref (b + 6)])
              obtain ⟨c250, h⟩ := og h
              refine as_X4_11 C X hS rfl c250 dX4_readsOrder_100 (fun H locs X hS => ?_)
              refine lv_iload_n hx hb dX4_readsOrder_101 rfl (lv_at hl 0 rfl) ?_
              refine lv_bipush (v := 120) hx hb dX4_readsOrder_102 (by decide) ?_
              refine lv_icmp_ne (tgt := 127) hx hb dX4_readsOrder_104 (by decide) (fun c251 => ?_) (fun c251 => ?_)
              · have h := iq h c251
                refine lv_aload_n hx hb dX4_readsOrder_127 rfl (lv_at hl 2 rfl) ?_
                refine lv_dup hx hb dX4_readsOrder_128 rfl ?_
                refine gt_X4_12 C hin X 1 rfl dX4_readsOrder_129 ?_
                refine lv_aload_n hx hb dX4_readsOrder_132 rfl (lv_at hl 2 rfl) ?_
                refine gt_X4_10 C hin X 2 rfl dX4_readsOrder_133 ?_
                refine lv_if_eq (tgt := 143) hx hb dX4_readsOrder_136 (by decide) (fun c252 => ?_) (fun c252 => ?_)
                · have h := ip h c252
                  refine lv_iconst (v := 0) hx hb dX4_readsOrder_143 (by decide) ?_
                  refine lv_iadd hx hb dX4_readsOrder_144 ?_
                  refine pt_X4_12 C hin X hS 1 rfl dX4_readsOrder_145 (fun H locs X hS => ?_)
                  have h := so h
                  subst h
                  exact W.vret hx hb hr (fun t ht _ => ⟨rfl, by rw [ht]; exact X, hS.F ht⟩) hS.2.2 dX4_readsOrder_148
                · have h := iq h c252
                  refine lv_iconst (v := 1) hx hb dX4_readsOrder_139 (by decide) ?_
                  refine lv_goto (tgt := 144) hx hb dX4_readsOrder_140 (by decide) ?_
                  refine lv_iadd hx hb dX4_readsOrder_144 ?_
                  refine pt_X4_12 C hin X hS 1 rfl dX4_readsOrder_145 (fun H locs X hS => ?_)
                  have h := so h
                  subst h
                  exact W.vret hx hb hr (fun t ht _ => ⟨rfl, by rw [ht]; exact X, hS.F ht⟩) hS.2.2 dX4_readsOrder_148
              · have h := ip h c251
                refine lv_aload_n hx hb dX4_readsOrder_107 rfl (lv_at hl 2 rfl) ?_
                refine lv_bipush (v := 61) hx hb dX4_readsOrder_108 (by decide) ?_
                obtain ⟨σ254, hr253, h⟩ := ob h
                refine rowW (As := [.int 61]) (rest := []) C (kX4_wants l G b (up q249.2 11 ((4 * (σ 12 0)) + 1).toNatClampNeg q249.1) 61 σ254 hr253) (cwV 1 hts gX4_readsOrder_X4_wants rfl rfl rfl (by decide +kernel) ⟨Nat.le_of_ble_eq_true rfl, Nat.le_of_ble_eq_true rfl⟩) (rcv_X4 X hK) X hS (fun _ z => z) rfl hl.1 rfl (Nat.le_of_ble_eq_true rfl) dX4_readsOrder_110 ⟨Nat.zero_le _, Nat.zero_le _⟩ (fun H locs X hS _ _ => ?_)
                show W p l e _ s m _ below meth c H locs 0 0 _ (F0 m 113 ls [])
                refine lv_aload_n hx hb dX4_readsOrder_113 rfl (lv_at hl 2 rfl) ?_
                refine gt_X4_11 C hin X 4 rfl dX4_readsOrder_114 ?_
                refine lv_iload_n hx hb dX4_readsOrder_117 rfl (lv_at hl 1 rfl) ?_
                refine lv_iconst (v := 2) hx hb dX4_readsOrder_118 (by decide) ?_
                refine lv_iadd hx hb dX4_readsOrder_119 ?_
                refine lv_aload_n hx hb dX4_readsOrder_120 rfl (lv_at hl 2 rfl) ?_
                refine lv_bipush (v := 99) hx hb dX4_readsOrder_121 (by decide) ?_
                obtain ⟨q257, hr255, h⟩ := ob h
                refine rowW (As := [.int 99]) (rest := [.int ((4 * (σ 12 0)) + 2), .ref (b + 6)]) C (kX4_number l G b σ254 99 q257.1 q257.2 hr255) (cwV 1 hts gX4_readsOrder_X4_number rfl rfl rfl (by decide +kernel) ⟨Nat.le_of_ble_eq_true rfl, Nat.le_of_ble_eq_true rfl⟩) (rcv_X4 X hK) X hS (fun _ z => z) rfl hl.1 rfl (Nat.le_of_ble_eq_true rfl) dX4_readsOrder_123 ⟨Nat.zero_le _, Nat.zero_le _⟩ (fun H locs X hS _ _ => ?_)
                show W p l e _ s m _ below meth c H locs 0 0 _ (F0 m 126 ls [.int q257.1, .int ((4 * (σ 12 0)) + 2), .ref (b + 6)])
                obtain ⟨c258, h⟩ := og h
                refine as_X4_11 C X hS rfl c258 dX4_readsOrder_126 (fun H locs X hS => ?_)
                refine lv_aload_n hx hb dX4_readsOrder_127 rfl (lv_at hl 2 rfl) ?_
                refine lv_dup hx hb dX4_readsOrder_128 rfl ?_
                refine gt_X4_12 C hin X 1 rfl dX4_readsOrder_129 ?_
                refine lv_aload_n hx hb dX4_readsOrder_132 rfl (lv_at hl 2 rfl) ?_
                refine gt_X4_10 C hin X 2 rfl dX4_readsOrder_133 ?_
                refine lv_if_eq (tgt := 143) hx hb dX4_readsOrder_136 (by decide) (fun c259 => ?_) (fun c259 => ?_)
                · have h := ip h c259
                  refine lv_iconst (v := 0) hx hb dX4_readsOrder_143 (by decide) ?_
                  refine lv_iadd hx hb dX4_readsOrder_144 ?_
                  refine pt_X4_12 C hin X hS 1 rfl dX4_readsOrder_145 (fun H locs X hS => ?_)
                  have h := so h
                  subst h
                  exact W.vret hx hb hr (fun t ht _ => ⟨rfl, by rw [ht]; exact X, hS.F ht⟩) hS.2.2 dX4_readsOrder_148
                · have h := iq h c259
                  refine lv_iconst (v := 1) hx hb dX4_readsOrder_139 (by decide) ?_
                  refine lv_goto (tgt := 144) hx hb dX4_readsOrder_140 (by decide) ?_
                  refine lv_iadd hx hb dX4_readsOrder_144 ?_
                  refine pt_X4_12 C hin X hS 1 rfl dX4_readsOrder_145 (fun H locs X hS => ?_)
                  have h := so h
                  subst h
                  exact W.vret hx hb hr (fun t ht _ => ⟨rfl, by rw [ht]; exact X, hS.F ht⟩) hS.2.2 dX4_readsOrder_148
            · have h := ip h c246
              refine lv_aload_n hx hb dX4_readsOrder_79 rfl (lv_at hl 2 rfl) ?_
              refine lv_iload_n hx hb dX4_readsOrder_80 rfl (lv_at hl 1 rfl) ?_
              obtain ⟨σ261, hr260, h⟩ := ob h
              refine rowW (As := [.int (4 * (σ 12 0))]) (rest := []) C (kX4_readsCart l G b (up (up (up σ 10 0 1) 9 0 (((up σ 10 0 1) 9 0) + 1)) 11 (4 * (σ 12 0)).toNatClampNeg r1) (4 * (σ 12 0)) σ261 hr260) (cwV 1 hts gX4_readsOrder_X4_readsCart rfl rfl rfl (by decide +kernel) ⟨Nat.le_of_ble_eq_true rfl, Nat.le_of_ble_eq_true rfl⟩) (rcv_X4 X hK) X hS (fun _ z => z) rfl hl.1 rfl (Nat.le_of_ble_eq_true rfl) dX4_readsOrder_81 ⟨Nat.zero_le _, Nat.zero_le _⟩ (fun H locs X hS _ _ => ?_)
              show W p l e _ s m _ below meth c H locs 0 0 _ (F0 m 84 ls [])
              refine lv_goto (tgt := 101) hx hb dX4_readsOrder_84 (by decide) ?_
              refine lv_iload_n hx hb dX4_readsOrder_101 rfl (lv_at hl 0 rfl) ?_
              refine lv_bipush (v := 120) hx hb dX4_readsOrder_102 (by decide) ?_
              refine lv_icmp_ne (tgt := 127) hx hb dX4_readsOrder_104 (by decide) (fun c262 => ?_) (fun c262 => ?_)
              · have h := iq h c262
                refine lv_aload_n hx hb dX4_readsOrder_127 rfl (lv_at hl 2 rfl) ?_
                refine lv_dup hx hb dX4_readsOrder_128 rfl ?_
                refine gt_X4_12 C hin X 1 rfl dX4_readsOrder_129 ?_
                refine lv_aload_n hx hb dX4_readsOrder_132 rfl (lv_at hl 2 rfl) ?_
                refine gt_X4_10 C hin X 2 rfl dX4_readsOrder_133 ?_
                refine lv_if_eq (tgt := 143) hx hb dX4_readsOrder_136 (by decide) (fun c263 => ?_) (fun c263 => ?_)
                · have h := ip h c263
                  refine lv_iconst (v := 0) hx hb dX4_readsOrder_143 (by decide) ?_
                  refine lv_iadd hx hb dX4_readsOrder_144 ?_
                  refine pt_X4_12 C hin X hS 1 rfl dX4_readsOrder_145 (fun H locs X hS => ?_)
                  have h := so h
                  subst h
                  exact W.vret hx hb hr (fun t ht _ => ⟨rfl, by rw [ht]; exact X, hS.F ht⟩) hS.2.2 dX4_readsOrder_148
                · have h := iq h c263
                  refine lv_iconst (v := 1) hx hb dX4_readsOrder_139 (by decide) ?_
                  refine lv_goto (tgt := 144) hx hb dX4_readsOrder_140 (by decide) ?_
                  refine lv_iadd hx hb dX4_readsOrder_144 ?_
                  refine pt_X4_12 C hin X hS 1 rfl dX4_readsOrder_145 (fun H locs X hS => ?_)
                  have h := so h
                  subst h
                  exact W.vret hx hb hr (fun t ht _ => ⟨rfl, by rw [ht]; exact X, hS.F ht⟩) hS.2.2 dX4_readsOrder_148
              · have h := ip h c262
                refine lv_aload_n hx hb dX4_readsOrder_107 rfl (lv_at hl 2 rfl) ?_
                refine lv_bipush (v := 61) hx hb dX4_readsOrder_108 (by decide) ?_
                obtain ⟨σ265, hr264, h⟩ := ob h
                refine rowW (As := [.int 61]) (rest := []) C (kX4_wants l G b σ261 61 σ265 hr264) (cwV 1 hts gX4_readsOrder_X4_wants rfl rfl rfl (by decide +kernel) ⟨Nat.le_of_ble_eq_true rfl, Nat.le_of_ble_eq_true rfl⟩) (rcv_X4 X hK) X hS (fun _ z => z) rfl hl.1 rfl (Nat.le_of_ble_eq_true rfl) dX4_readsOrder_110 ⟨Nat.zero_le _, Nat.zero_le _⟩ (fun H locs X hS _ _ => ?_)
                show W p l e _ s m _ below meth c H locs 0 0 _ (F0 m 113 ls [])
                refine lv_aload_n hx hb dX4_readsOrder_113 rfl (lv_at hl 2 rfl) ?_
                refine gt_X4_11 C hin X 4 rfl dX4_readsOrder_114 ?_
                refine lv_iload_n hx hb dX4_readsOrder_117 rfl (lv_at hl 1 rfl) ?_
                refine lv_iconst (v := 2) hx hb dX4_readsOrder_118 (by decide) ?_
                refine lv_iadd hx hb dX4_readsOrder_119 ?_
                refine lv_aload_n hx hb dX4_readsOrder_120 rfl (lv_at hl 2 rfl) ?_
                refine lv_bipush (v := 99) hx hb dX4_readsOrder_121 (by decide) ?_
                obtain ⟨q268, hr266, h⟩ := ob h
                refine rowW (As := [.int 99]) (rest := [.int ((4 * (σ 12 0)) + 2), .ref (b + 6)]) C (kX4_number l G b σ265 99 q268.1 q268.2 hr266) (cwV 1 hts gX4_readsOrder_X4_number rfl rfl rfl (by decide +kernel) ⟨Nat.le_of_ble_eq_true rfl, Nat.le_of_ble_eq_true rfl⟩) (rcv_X4 X hK) X hS (fun _ z => z) rfl hl.1 rfl (Nat.le_of_ble_eq_true rfl) dX4_readsOrder_123 ⟨Nat.zero_le _, Nat.zero_le _⟩ (fun H locs X hS _ _ => ?_)
                show W p l e _ s m _ below meth c H locs 0 0 _ (F0 m 126 ls [.int q268.1, .int ((4 * (σ 12 0)) + 2), .ref (b + 6)])
                obtain ⟨c269, h⟩ := og h
                refine as_X4_11 C X hS rfl c269 dX4_readsOrder_126 (fun H locs X hS => ?_)
                refine lv_aload_n hx hb dX4_readsOrder_127 rfl (lv_at hl 2 rfl) ?_
                refine lv_dup hx hb dX4_readsOrder_128 rfl ?_
                refine gt_X4_12 C hin X 1 rfl dX4_readsOrder_129 ?_
                refine lv_aload_n hx hb dX4_readsOrder_132 rfl (lv_at hl 2 rfl) ?_
                refine gt_X4_10 C hin X 2 rfl dX4_readsOrder_133 ?_
                refine lv_if_eq (tgt := 143) hx hb dX4_readsOrder_136 (by decide) (fun c270 => ?_) (fun c270 => ?_)
                · have h := ip h c270
                  refine lv_iconst (v := 0) hx hb dX4_readsOrder_143 (by decide) ?_
                  refine lv_iadd hx hb dX4_readsOrder_144 ?_
                  refine pt_X4_12 C hin X hS 1 rfl dX4_readsOrder_145 (fun H locs X hS => ?_)
                  have h := so h
                  subst h
                  exact W.vret hx hb hr (fun t ht _ => ⟨rfl, by rw [ht]; exact X, hS.F ht⟩) hS.2.2 dX4_readsOrder_148
                · have h := iq h c270
                  refine lv_iconst (v := 1) hx hb dX4_readsOrder_139 (by decide) ?_
                  refine lv_goto (tgt := 144) hx hb dX4_readsOrder_140 (by decide) ?_
                  refine lv_iadd hx hb dX4_readsOrder_144 ?_
                  refine pt_X4_12 C hin X hS 1 rfl dX4_readsOrder_145 (fun H locs X hS => ?_)
                  have h := so h
                  subst h
                  exact W.vret hx hb hr (fun t ht _ => ⟨rfl, by rw [ht]; exact X, hS.F ht⟩) hS.2.2 dX4_readsOrder_148

theorem in_X4_reads : ∀ w ∈ wsX40, w ∈ wsX4_reads := by decide +kernel
def fX4_reads_14 : Nat → St → Option (Int32 × St)
  | 0, _ => none
  | n + 1, σ => if (σ 10 0) = 0 then (if (σ 10 0) = 0 then (some (σ 9 0, σ)) else (some ((-5), σ))) else (if (σ 8 0) ≤ (σ 9 0) then (if (σ 10 0) = 0 then (some (σ 9 0, σ)) else (some ((-5), σ))) else ((fX4_wants σ 59).bind (fun σ8 => if (σ8 10 0) = 0 then (fX4_reads_14 n σ8) else ((fX4_readsOrder σ8).bind (fun σ11 => fX4_reads_14 n σ11)))))
theorem fX4_reads_14_0 (σ : St) : fX4_reads_14 0 σ = none := rfl
theorem fX4_reads_14_s (n : Nat) (σ : St) : fX4_reads_14 (n + 1) σ = (if (σ 10 0) = 0 then (if (σ 10 0) = 0 then (some (σ 9 0, σ)) else (some ((-5), σ))) else (if (σ 8 0) ≤ (σ 9 0) then (if (σ 10 0) = 0 then (some (σ 9 0, σ)) else (some ((-5), σ))) else ((fX4_wants σ 59).bind (fun σ8 => if (σ8 10 0) = 0 then (fX4_reads_14 n σ8) else ((fX4_readsOrder σ8).bind (fun σ11 => fX4_reads_14 n σ11)))))) := rfl
def fX4_reads (σ : St) : Option (Int32 × St) := (fX4_readsOrder (up (up σ 9 0 0) 12 0 0)).bind (fun σ2 => fX4_reads_14 1000 σ2)
set_option maxHeartbeats 4000000 in
set_option maxRecDepth 100000 in
theorem kX4_reads (l : Launch) (G : Gx) (b : Nat) (σ : St) (r : Int32) (σ' : St) (h : fX4_reads σ = some (r, σ')) : Met l yX4_reads wsX4_reads (rmN 4) (pre G [.ref b] (mAt G b σ)) (QcW b (b + 7) (mAt G b σ') (some (.int r))) 0 0 (lw_Fr b (b + 7)) := by
  refine Met.ofW (cc := cX4_reads) (maxL := 1) (ret := (some .int)) (by decide) rfl ?_
  intro p e s m args below meth c s₁ B hml hv
  obtain ⟨rfl, X, hK⟩ := hv
  have hx := B.exec
  have hb := B.bytes
  have hr := B.returns
  have hts := atoms_spec (ws := wsX4_reads) B.pre
  have hown : s.vm.findClass RX4 = some m.cls := findClass_of_methodNamed B.named
  have hlocks := B.notSynchronized
  have C : Cx p m c cX4_reads 1 s _ wsX4_reads RX4 G := ⟨⟨hx, hb, hml, hown, hts⟩, hK⟩
  have hin : ∀ w ∈ wsX40, w ∈ wsX4_reads := in_X4_reads
  have hS : va_S (lw_Fr b (b + 7)) s.heap s.heap [] := va_S.rf
  have hl := lv_entry ([.ref b]) (n := 1) (Nat.le_of_ble_eq_true rfl)
  rw [lg_entry_eq]
  generalize (lg_sl ([.ref b]) ++ List.replicate (1 - (lg_sl ([.ref b])).length) Slot.unset).toArray = ls at hl ⊢
  have hl : lv_has ls 1 [(0, .ref b)] := hl
  have loop14 : ∀ (n : Nat) (σ : St) (H : Heap) (locs : List Loc) (ls : Array Slot), fX4_reads_14 n σ = some (r, σ') → mAt G b σ H → va_S (lw_Fr b (b + 7)) s.heap H locs → lv_has ls 1 [(0, .ref b)] → W p l e (rmN 4) s m #[Value.ref b] below meth c H locs 0 0 (MQ below (QcW b (b + 7) (mAt G b σ') (some (.int r))) #[Value.ref b] s 0 0 (lw_Fr b (b + 7))) (F0 m 14 ls []) := by
    intro n
    induction n with
    | zero =>
      intro σ H locs ls h X hS hl
      rw [fX4_reads_14_0] at h
      cases h
    | succ n ih =>
      intro σ H locs ls h X hS hl
      rw [fX4_reads_14_s] at h
      refine lv_aload_n hx hb dX4_reads_14 rfl (lv_at hl 0 rfl) ?_
      refine gt_X4_10 C hin X 3 rfl dX4_reads_15 ?_
      refine lv_if_eq (tgt := 52) hx hb dX4_reads_18 (by decide) (fun c3 => ?_) (fun c3 => ?_)
      · have h := ip h c3
        refine lv_aload_n hx hb dX4_reads_52 rfl (lv_at hl 0 rfl) ?_
        refine gt_X4_10 C hin X 3 rfl dX4_reads_53 ?_
        refine lv_if_eq (tgt := 64) hx hb dX4_reads_56 (by decide) (fun c4 => ?_) (fun c4 => ?_)
        · have h := ip h c4
          refine lv_aload_n hx hb dX4_reads_64 rfl (lv_at hl 0 rfl) ?_
          refine gt_X4_9 C hin X 1 rfl dX4_reads_65 ?_
          obtain ⟨h, h9⟩ := pr h
          subst h
          subst h9
          exact W.iret hx hb hr (fun t ht _ => ⟨rfl, by rw [ht]; exact X, hS.F ht⟩) hS.2.2 dX4_reads_68
        · have h := iq h c4
          refine lv_bipush (v := (-5)) hx hb dX4_reads_59 (by decide) ?_
          refine lv_goto (tgt := 68) hx hb dX4_reads_61 (by decide) ?_
          obtain ⟨h, h9⟩ := pr h
          subst h
          subst h9
          exact W.iret hx hb hr (fun t ht _ => ⟨rfl, by rw [ht]; exact X, hS.F ht⟩) hS.2.2 dX4_reads_68
      · have h := iq h c3
        refine lv_aload_n hx hb dX4_reads_21 rfl (lv_at hl 0 rfl) ?_
        refine gt_X4_9 C hin X 1 rfl dX4_reads_22 ?_
        refine lv_aload_n hx hb dX4_reads_25 rfl (lv_at hl 0 rfl) ?_
        refine gt_X4_8 C hin X 4 rfl dX4_reads_26 ?_
        refine lv_icmp_ge (tgt := 52) hx hb dX4_reads_29 (by decide) (fun c5 => ?_) (fun c5 => ?_)
        · have h := ip h c5
          refine lv_aload_n hx hb dX4_reads_52 rfl (lv_at hl 0 rfl) ?_
          refine gt_X4_10 C hin X 3 rfl dX4_reads_53 ?_
          refine lv_if_eq (tgt := 64) hx hb dX4_reads_56 (by decide) (fun c6 => ?_) (fun c6 => ?_)
          · have h := ip h c6
            refine lv_aload_n hx hb dX4_reads_64 rfl (lv_at hl 0 rfl) ?_
            refine gt_X4_9 C hin X 1 rfl dX4_reads_65 ?_
            obtain ⟨h, h9⟩ := pr h
            subst h
            subst h9
            exact W.iret hx hb hr (fun t ht _ => ⟨rfl, by rw [ht]; exact X, hS.F ht⟩) hS.2.2 dX4_reads_68
          · have h := iq h c6
            refine lv_bipush (v := (-5)) hx hb dX4_reads_59 (by decide) ?_
            refine lv_goto (tgt := 68) hx hb dX4_reads_61 (by decide) ?_
            obtain ⟨h, h9⟩ := pr h
            subst h
            subst h9
            exact W.iret hx hb hr (fun t ht _ => ⟨rfl, by rw [ht]; exact X, hS.F ht⟩) hS.2.2 dX4_reads_68
        · have h := iq h c5
          refine lv_aload_n hx hb dX4_reads_32 rfl (lv_at hl 0 rfl) ?_
          refine lv_bipush (v := 59) hx hb dX4_reads_33 (by decide) ?_
          obtain ⟨σ8, hr7, h⟩ := ob h
          refine rowW (As := [.int 59]) (rest := []) C (kX4_wants l G b σ 59 σ8 hr7) (cwV 1 hts gX4_reads_X4_wants rfl rfl rfl (by decide +kernel) ⟨Nat.le_of_ble_eq_true rfl, Nat.le_of_ble_eq_true rfl⟩) (rcv_X4 X hK) X hS (fun _ z => z) rfl hl.1 rfl (Nat.le_of_ble_eq_true rfl) dX4_reads_35 ⟨Nat.zero_le _, Nat.zero_le _⟩ (fun H locs X hS _ _ => ?_)
          show W p l e _ s m _ below meth c H locs 0 0 _ (F0 m 38 ls [])
          refine lv_aload_n hx hb dX4_reads_38 rfl (lv_at hl 0 rfl) ?_
          refine gt_X4_10 C hin X 3 rfl dX4_reads_39 ?_
          refine lv_if_eq (tgt := 14) hx hb dX4_reads_42 (by decide) (fun c9 => ?_) (fun c9 => ?_)
          · have h := ip h c9
            exact ih _ _ _ _ h X hS (lv_sub hl [0] rfl)
          · have h := iq h c9
            refine lv_aload_n hx hb dX4_reads_45 rfl (lv_at hl 0 rfl) ?_
            obtain ⟨σ11, hr10, h⟩ := ob h
            refine rowW (As := []) (rest := []) C (kX4_readsOrder l G b σ8 σ11 hr10) (cwV 0 hts gX4_reads_X4_readsOrder rfl rfl rfl (by decide +kernel) ⟨Nat.le_of_ble_eq_true rfl, Nat.le_of_ble_eq_true rfl⟩) (rcv_X4 X hK) X hS (fun _ z => z) rfl hl.1 rfl (Nat.le_of_ble_eq_true rfl) dX4_reads_46 ⟨Nat.zero_le _, Nat.zero_le _⟩ (fun H locs X hS _ _ => ?_)
            show W p l e _ s m _ below meth c H locs 0 0 _ (F0 m 49 ls [])
            refine lv_goto (tgt := 14) hx hb dX4_reads_49 (by decide) ?_
            exact ih _ _ _ _ h X hS (lv_sub hl [0] rfl)
  unfold fX4_reads at h
  refine lv_aload_n hx hb dX4_reads_0 rfl (lv_at hl 0 rfl) ?_
  refine lv_iconst (v := 0) hx hb dX4_reads_1 (by decide) ?_
  refine pt_X4_9 C hin X hS 1 rfl dX4_reads_2 (fun H locs X hS => ?_)
  refine lv_aload_n hx hb dX4_reads_5 rfl (lv_at hl 0 rfl) ?_
  refine lv_iconst (v := 0) hx hb dX4_reads_6 (by decide) ?_
  refine pt_X4_12 C hin X hS 2 rfl dX4_reads_7 (fun H locs X hS => ?_)
  refine lv_aload_n hx hb dX4_reads_10 rfl (lv_at hl 0 rfl) ?_
  obtain ⟨σ2, hr1, h⟩ := ob h
  refine rowW (As := []) (rest := []) C (kX4_readsOrder l G b (up (up σ 9 0 0) 12 0 0) σ2 hr1) (cwV 0 hts gX4_reads_X4_readsOrder rfl rfl rfl (by decide +kernel) ⟨Nat.le_of_ble_eq_true rfl, Nat.le_of_ble_eq_true rfl⟩) (rcv_X4 X hK) X hS (fun _ z => z) rfl hl.1 rfl (Nat.le_of_ble_eq_true rfl) dX4_reads_11 ⟨Nat.zero_le _, Nat.zero_le _⟩ (fun H locs X hS _ _ => ?_)
  show W p l e _ s m _ below meth c H locs 0 0 _ (F0 m 14 ls [])
  exact loop14 _ _ _ _ _ h X hS (lv_sub hl [0] rfl)

theorem in_X4_refuses : ∀ w ∈ wsX40, w ∈ wsX4_refuses := by decide +kernel
def fX4_refuses (σ : St) (p1 : Int32) : Option (Int32) := if oob p1 96 then none else if (σ 11 p1.toNatClampNeg) = 99 then (if oob (p1 + 1) 96 then none else if oob (p1 + 2) 96 then none else if oob (p1 + 3) 96 then none else (fX4_refusesCart σ (σ 11 (p1 + 1).toNatClampNeg) (σ 11 (p1 + 2).toNatClampNeg) (σ 11 (p1 + 3).toNatClampNeg)).bind (fun r6 => some r6)) else if (σ 11 p1.toNatClampNeg) = 111 then (if oob (p1 + 1) 96 then none else (fX4_refusesOpening σ (σ 11 (p1 + 1).toNatClampNeg)).bind (fun r9 => some r9)) else if (σ 11 p1.toNatClampNeg) = 120 then (if oob (p1 + 1) 96 then none else if oob (p1 + 2) 96 then none else (fX4_refusesAltering σ (σ 11 (p1 + 1).toNatClampNeg) (σ 11 (p1 + 2).toNatClampNeg)).bind (fun r13 => some r13)) else (if oob (p1 + 1) 96 then none else (fX4_refusesSeal σ (σ 11 (p1 + 1).toNatClampNeg)).bind (fun r15 => some r15))
set_option maxHeartbeats 4000000 in
set_option maxRecDepth 100000 in
theorem kX4_refuses (l : Launch) (G : Gx) (b : Nat) (σ : St) (p1 : Int32) (r : Int32) (h : fX4_refuses σ p1 = some r) : Met l yX4_refuses wsX4_refuses (rmN 5) (pre G [.ref b, .int p1] (mAt G b σ)) (QcRead r) 0 0 (fun _ => False) := by
  refine Met.ofW (cc := cX4_refuses) (maxL := 2) (ret := (some .int)) (by decide) rfl ?_
  intro p e s m args below meth c s₁ B hml hv
  obtain ⟨rfl, X, hK⟩ := hv
  have hx := B.exec
  have hb := B.bytes
  have hr := B.returns
  have hts := atoms_spec (ws := wsX4_refuses) B.pre
  have hown : s.vm.findClass RX4 = some m.cls := findClass_of_methodNamed B.named
  have hlocks := B.notSynchronized
  have C : Cx p m c cX4_refuses 2 s _ wsX4_refuses RX4 G := ⟨⟨hx, hb, hml, hown, hts⟩, hK⟩
  have hin : ∀ w ∈ wsX40, w ∈ wsX4_refuses := in_X4_refuses
  have hl := lv_entry ([.ref b, .int p1]) (n := 2) (Nat.le_of_ble_eq_true rfl)
  rw [lg_entry_eq]
  generalize (lg_sl ([.ref b, .int p1]) ++ List.replicate (2 - (lg_sl ([.ref b, .int p1])).length) Slot.unset).toArray = ls at hl ⊢
  have hl : lv_has ls 2 [(0, .ref b), (1, .int p1)] := hl
  unfold fX4_refuses at h
  refine lv_aload_n hx hb dX4_refuses_0 rfl (lv_at hl 0 rfl) ?_
  refine gt_X4_11 C hin X 1 rfl dX4_refuses_1 ?_
  refine lv_iload_n hx hb dX4_refuses_4 rfl (lv_at hl 1 rfl) ?_
  obtain ⟨c1, h⟩ := og h
  refine al_X4_11 C X rfl c1 dX4_refuses_5 ?_
  by_cases c2 : (σ 11 p1.toNatClampNeg) = 99
  · have h := ip h c2
    refine rowLook (K := 99) (off := 34) (tgt := 40) hx hb c2 dX4_refuses_6 (by decide) (by decide) (by decide) ?_
    refine lv_aload_n hx hb dX4_refuses_40 rfl (lv_at hl 0 rfl) ?_
    refine lv_aload_n hx hb dX4_refuses_41 rfl (lv_at hl 0 rfl) ?_
    refine gt_X4_11 C hin X 1 rfl dX4_refuses_42 ?_
    refine lv_iload_n hx hb dX4_refuses_45 rfl (lv_at hl 1 rfl) ?_
    refine lv_iconst (v := 1) hx hb dX4_refuses_46 (by decide) ?_
    refine lv_iadd hx hb dX4_refuses_47 ?_
    obtain ⟨c3, h⟩ := og h
    refine al_X4_11 C X rfl c3 dX4_refuses_48 ?_
    refine lv_aload_n hx hb dX4_refuses_49 rfl (lv_at hl 0 rfl) ?_
    refine gt_X4_11 C hin X 1 rfl dX4_refuses_50 ?_
    refine lv_iload_n hx hb dX4_refuses_53 rfl (lv_at hl 1 rfl) ?_
    refine lv_iconst (v := 2) hx hb dX4_refuses_54 (by decide) ?_
    refine lv_iadd hx hb dX4_refuses_55 ?_
    obtain ⟨c4, h⟩ := og h
    refine al_X4_11 C X rfl c4 dX4_refuses_56 ?_
    refine lv_aload_n hx hb dX4_refuses_57 rfl (lv_at hl 0 rfl) ?_
    refine gt_X4_11 C hin X 1 rfl dX4_refuses_58 ?_
    refine lv_iload_n hx hb dX4_refuses_61 rfl (lv_at hl 1 rfl) ?_
    refine lv_iconst (v := 3) hx hb dX4_refuses_62 (by decide) ?_
    refine lv_iadd hx hb dX4_refuses_63 ?_
    obtain ⟨c5, h⟩ := og h
    refine al_X4_11 C X rfl c5 dX4_refuses_64 ?_
    obtain ⟨r6, hr6, h⟩ := ob h
    refine rowV (As := [.int (σ 11 (p1 + 1).toNatClampNeg), .int (σ 11 (p1 + 2).toNatClampNeg), .int (σ 11 (p1 + 3).toNatClampNeg)]) (rest := []) C (kX4_refusesCart l G b σ (σ 11 (p1 + 1).toNatClampNeg) (σ 11 (p1 + 2).toNatClampNeg) (σ 11 (p1 + 3).toNatClampNeg) r6 hr6) (cwV 3 hts gX4_refuses_X4_refusesCart rfl rfl rfl (by decide +kernel) ⟨Nat.le_of_ble_eq_true rfl, Nat.le_of_ble_eq_true rfl⟩) (rcv_X4 X hK) X rfl hl.1 rfl (Nat.le_of_ble_eq_true rfl) dX4_refuses_65 ⟨Nat.zero_le _, Nat.zero_le _⟩ ?_
    have h := so h
    subst h
    exact W.iret hx hb hr (fun t ht _ => ⟨rfl, ht⟩) (fun q h => absurd h List.not_mem_nil) dX4_refuses_68
  · have h := iq h c2
    by_cases c7 : (σ 11 p1.toNatClampNeg) = 111
    · have h := ip h c7
      refine rowLook (K := 111) (off := 63) (tgt := 69) hx hb c7 dX4_refuses_6 (by decide) (by decide) (by decide) ?_
      refine lv_aload_n hx hb dX4_refuses_69 rfl (lv_at hl 0 rfl) ?_
      refine lv_aload_n hx hb dX4_refuses_70 rfl (lv_at hl 0 rfl) ?_
      refine gt_X4_11 C hin X 1 rfl dX4_refuses_71 ?_
      refine lv_iload_n hx hb dX4_refuses_74 rfl (lv_at hl 1 rfl) ?_
      refine lv_iconst (v := 1) hx hb dX4_refuses_75 (by decide) ?_
      refine lv_iadd hx hb dX4_refuses_76 ?_
      obtain ⟨c8, h⟩ := og h
      refine al_X4_11 C X rfl c8 dX4_refuses_77 ?_
      obtain ⟨r9, hr9, h⟩ := ob h
      refine rowV (As := [.int (σ 11 (p1 + 1).toNatClampNeg)]) (rest := []) C (kX4_refusesOpening l G b σ (σ 11 (p1 + 1).toNatClampNeg) r9 hr9) (cwV 1 hts gX4_refuses_X4_refusesOpening rfl rfl rfl (by decide +kernel) ⟨Nat.le_of_ble_eq_true rfl, Nat.le_of_ble_eq_true rfl⟩) (rcv_X4 X hK) X rfl hl.1 rfl (Nat.le_of_ble_eq_true rfl) dX4_refuses_78 ⟨Nat.zero_le _, Nat.zero_le _⟩ ?_
      have h := so h
      subst h
      exact W.iret hx hb hr (fun t ht _ => ⟨rfl, ht⟩) (fun q h => absurd h List.not_mem_nil) dX4_refuses_81
    · have h := iq h c7
      by_cases c10 : (σ 11 p1.toNatClampNeg) = 120
      · have h := ip h c10
        refine rowLook (K := 120) (off := 76) (tgt := 82) hx hb c10 dX4_refuses_6 (by decide) (by decide) (by decide) ?_
        refine lv_aload_n hx hb dX4_refuses_82 rfl (lv_at hl 0 rfl) ?_
        refine lv_aload_n hx hb dX4_refuses_83 rfl (lv_at hl 0 rfl) ?_
        refine gt_X4_11 C hin X 1 rfl dX4_refuses_84 ?_
        refine lv_iload_n hx hb dX4_refuses_87 rfl (lv_at hl 1 rfl) ?_
        refine lv_iconst (v := 1) hx hb dX4_refuses_88 (by decide) ?_
        refine lv_iadd hx hb dX4_refuses_89 ?_
        obtain ⟨c11, h⟩ := og h
        refine al_X4_11 C X rfl c11 dX4_refuses_90 ?_
        refine lv_aload_n hx hb dX4_refuses_91 rfl (lv_at hl 0 rfl) ?_
        refine gt_X4_11 C hin X 1 rfl dX4_refuses_92 ?_
        refine lv_iload_n hx hb dX4_refuses_95 rfl (lv_at hl 1 rfl) ?_
        refine lv_iconst (v := 2) hx hb dX4_refuses_96 (by decide) ?_
        refine lv_iadd hx hb dX4_refuses_97 ?_
        obtain ⟨c12, h⟩ := og h
        refine al_X4_11 C X rfl c12 dX4_refuses_98 ?_
        obtain ⟨r13, hr13, h⟩ := ob h
        refine rowV (As := [.int (σ 11 (p1 + 1).toNatClampNeg), .int (σ 11 (p1 + 2).toNatClampNeg)]) (rest := []) C (kX4_refusesAltering l G b σ (σ 11 (p1 + 1).toNatClampNeg) (σ 11 (p1 + 2).toNatClampNeg) r13 hr13) (cwV 2 hts gX4_refuses_X4_refusesAltering rfl rfl rfl (by decide +kernel) ⟨Nat.le_of_ble_eq_true rfl, Nat.le_of_ble_eq_true rfl⟩) (rcv_X4 X hK) X rfl hl.1 rfl (Nat.le_of_ble_eq_true rfl) dX4_refuses_99 ⟨Nat.zero_le _, Nat.zero_le _⟩ ?_
        have h := so h
        subst h
        exact W.iret hx hb hr (fun t ht _ => ⟨rfl, ht⟩) (fun q h => absurd h List.not_mem_nil) dX4_refuses_102
      · have h := iq h c10
        refine lv_lookup (off := 97) (tgt := 103) hx hb dX4_refuses_6 (by decide) ((lv_osw c2 (by decide)).trans ((lv_osw c7 (by decide)).trans ((lv_osw c10 (by decide)).trans rfl))) (by decide) ?_
        refine lv_aload_n hx hb dX4_refuses_103 rfl (lv_at hl 0 rfl) ?_
        refine lv_aload_n hx hb dX4_refuses_104 rfl (lv_at hl 0 rfl) ?_
        refine gt_X4_11 C hin X 1 rfl dX4_refuses_105 ?_
        refine lv_iload_n hx hb dX4_refuses_108 rfl (lv_at hl 1 rfl) ?_
        refine lv_iconst (v := 1) hx hb dX4_refuses_109 (by decide) ?_
        refine lv_iadd hx hb dX4_refuses_110 ?_
        obtain ⟨c14, h⟩ := og h
        refine al_X4_11 C X rfl c14 dX4_refuses_111 ?_
        obtain ⟨r15, hr15, h⟩ := ob h
        refine rowV (As := [.int (σ 11 (p1 + 1).toNatClampNeg)]) (rest := []) C (kX4_refusesSeal l G b σ (σ 11 (p1 + 1).toNatClampNeg) r15 hr15) (cwV 1 hts gX4_refuses_X4_refusesSeal rfl rfl rfl (by decide +kernel) ⟨Nat.le_of_ble_eq_true rfl, Nat.le_of_ble_eq_true rfl⟩) (rcv_X4 X hK) X rfl hl.1 rfl (Nat.le_of_ble_eq_true rfl) dX4_refuses_112 ⟨Nat.zero_le _, Nat.zero_le _⟩ ?_
        have h := so h
        subst h
        exact W.iret hx hb hr (fun t ht _ => ⟨rfl, ht⟩) (fun q h => absurd h List.not_mem_nil) dX4_refuses_115

theorem in_X4_does : ∀ w ∈ wsX40, w ∈ wsX4_does := by decide +kernel
def fX4_does (σ : St) (p1 : Int32) : Option (St) := if oob p1 96 then none else if (σ 11 p1.toNatClampNeg) = 99 then (if oob (p1 + 1) 96 then none else if oob (p1 + 2) 96 then none else if oob (p1 + 3) 96 then none else (fX4_comes σ (σ 11 (p1 + 1).toNatClampNeg) (σ 11 (p1 + 2).toNatClampNeg) (σ 11 (p1 + 3).toNatClampNeg)).bind (fun q8 => some q8.2)) else if (σ 11 p1.toNatClampNeg) = 111 then (if oob (p1 + 1) 96 then none else (fX4_opens σ (σ 11 (p1 + 1).toNatClampNeg)).bind (fun q13 => some q13.2)) else if (σ 11 p1.toNatClampNeg) = 120 then (if oob (p1 + 1) 96 then none else if oob (p1 + 2) 96 then none else (fX4_lay σ (σ 11 (p1 + 1).toNatClampNeg) 0 (σ 11 (p1 + 2).toNatClampNeg)).bind (fun σ18 => some σ18)) else (if oob (p1 + 1) 96 then none else if oob (p1 + 1) 96 then none else (fX4_rightSeal σ (σ 11 (p1 + 1).toNatClampNeg)).bind (fun r21 => (fX4_lay σ (σ 11 (p1 + 1).toNatClampNeg) 3 r21).bind (fun σ23 => some σ23)))
set_option maxHeartbeats 4000000 in
set_option maxRecDepth 100000 in
theorem kX4_does (l : Launch) (G : Gx) (b : Nat) (σ : St) (p1 : Int32) (σ' : St) (h : fX4_does σ p1 = some σ') : Met l yX4_does wsX4_does (rmN 6) (pre G [.ref b, .int p1] (mAt G b σ)) (QcW b (b + 7) (mAt G b σ') none) 0 0 (lw_Fr b (b + 7)) := by
  refine Met.ofW (cc := cX4_does) (maxL := 2) (ret := none) (by decide) rfl ?_
  intro p e s m args below meth c s₁ B hml hv
  obtain ⟨rfl, X, hK⟩ := hv
  have hx := B.exec
  have hb := B.bytes
  have hr := B.returns
  have hts := atoms_spec (ws := wsX4_does) B.pre
  have hown : s.vm.findClass RX4 = some m.cls := findClass_of_methodNamed B.named
  have hlocks := B.notSynchronized
  have C : Cx p m c cX4_does 2 s _ wsX4_does RX4 G := ⟨⟨hx, hb, hml, hown, hts⟩, hK⟩
  have hin : ∀ w ∈ wsX40, w ∈ wsX4_does := in_X4_does
  have hS : va_S (lw_Fr b (b + 7)) s.heap s.heap [] := va_S.rf
  have hl := lv_entry ([.ref b, .int p1]) (n := 2) (Nat.le_of_ble_eq_true rfl)
  rw [lg_entry_eq]
  generalize (lg_sl ([.ref b, .int p1]) ++ List.replicate (2 - (lg_sl ([.ref b, .int p1])).length) Slot.unset).toArray = ls at hl ⊢
  have hl : lv_has ls 2 [(0, .ref b), (1, .int p1)] := hl
  unfold fX4_does at h
  refine lv_aload_n hx hb dX4_does_0 rfl (lv_at hl 0 rfl) ?_
  refine gt_X4_11 C hin X 1 rfl dX4_does_1 ?_
  refine lv_iload_n hx hb dX4_does_4 rfl (lv_at hl 1 rfl) ?_
  obtain ⟨c1, h⟩ := og h
  refine al_X4_11 C X rfl c1 dX4_does_5 ?_
  by_cases c2 : (σ 11 p1.toNatClampNeg) = 99
  · have h := ip h c2
    refine rowLook (K := 99) (off := 34) (tgt := 40) hx hb c2 dX4_does_6 (by decide) (by decide) (by decide) ?_
    refine lv_aload_n hx hb dX4_does_40 rfl (lv_at hl 0 rfl) ?_
    refine lv_aload_n hx hb dX4_does_41 rfl (lv_at hl 0 rfl) ?_
    refine gt_X4_11 C hin X 1 rfl dX4_does_42 ?_
    refine lv_iload_n hx hb dX4_does_45 rfl (lv_at hl 1 rfl) ?_
    refine lv_iconst (v := 1) hx hb dX4_does_46 (by decide) ?_
    refine lv_iadd hx hb dX4_does_47 ?_
    obtain ⟨c3, h⟩ := og h
    refine al_X4_11 C X rfl c3 dX4_does_48 ?_
    refine lv_aload_n hx hb dX4_does_49 rfl (lv_at hl 0 rfl) ?_
    refine gt_X4_11 C hin X 1 rfl dX4_does_50 ?_
    refine lv_iload_n hx hb dX4_does_53 rfl (lv_at hl 1 rfl) ?_
    refine lv_iconst (v := 2) hx hb dX4_does_54 (by decide) ?_
    refine lv_iadd hx hb dX4_does_55 ?_
    obtain ⟨c4, h⟩ := og h
    refine al_X4_11 C X rfl c4 dX4_does_56 ?_
    refine lv_aload_n hx hb dX4_does_57 rfl (lv_at hl 0 rfl) ?_
    refine gt_X4_11 C hin X 1 rfl dX4_does_58 ?_
    refine lv_iload_n hx hb dX4_does_61 rfl (lv_at hl 1 rfl) ?_
    refine lv_iconst (v := 3) hx hb dX4_does_62 (by decide) ?_
    refine lv_iadd hx hb dX4_does_63 ?_
    obtain ⟨c5, h⟩ := og h
    refine al_X4_11 C X rfl c5 dX4_does_64 ?_
    obtain ⟨q8, hr6, h⟩ := ob h
    refine rowW (As := [.int (σ 11 (p1 + 1).toNatClampNeg), .int (σ 11 (p1 + 2).toNatClampNeg), .int (σ 11 (p1 + 3).toNatClampNeg)]) (rest := []) C (kX4_comes l G b σ (σ 11 (p1 + 1).toNatClampNeg) (σ 11 (p1 + 2).toNatClampNeg) (σ 11 (p1 + 3).toNatClampNeg) q8.1 q8.2 hr6) (cwV 3 hts gX4_does_X4_comes rfl rfl rfl (by decide +kernel) ⟨Nat.le_of_ble_eq_true rfl, Nat.le_of_ble_eq_true rfl⟩) (rcv_X4 X hK) X hS (fun _ z => z) rfl hl.1 rfl (Nat.le_of_ble_eq_true rfl) dX4_does_65 ⟨Nat.zero_le _, Nat.zero_le _⟩ (fun H locs X hS _ _ => ?_)
    show W p l e _ s m _ below meth c H locs 0 0 _ (F0 m 68 ls [.int q8.1])
    refine lv_pop hx hb dX4_does_68 rfl ?_
    refine lv_goto (tgt := 137) hx hb dX4_does_69 (by decide) ?_
    have h := so h
    subst h
    exact W.vret hx hb hr (fun t ht _ => ⟨rfl, by rw [ht]; exact X, hS.F ht⟩) hS.2.2 dX4_does_137
  · have h := iq h c2
    by_cases c9 : (σ 11 p1.toNatClampNeg) = 111
    · have h := ip h c9
      refine rowLook (K := 111) (off := 66) (tgt := 72) hx hb c9 dX4_does_6 (by decide) (by decide) (by decide) ?_
      refine lv_aload_n hx hb dX4_does_72 rfl (lv_at hl 0 rfl) ?_
      refine lv_aload_n hx hb dX4_does_73 rfl (lv_at hl 0 rfl) ?_
      refine gt_X4_11 C hin X 1 rfl dX4_does_74 ?_
      refine lv_iload_n hx hb dX4_does_77 rfl (lv_at hl 1 rfl) ?_
      refine lv_iconst (v := 1) hx hb dX4_does_78 (by decide) ?_
      refine lv_iadd hx hb dX4_does_79 ?_
      obtain ⟨c10, h⟩ := og h
      refine al_X4_11 C X rfl c10 dX4_does_80 ?_
      obtain ⟨q13, hr11, h⟩ := ob h
      refine rowW (As := [.int (σ 11 (p1 + 1).toNatClampNeg)]) (rest := []) C (kX4_opens l G b σ (σ 11 (p1 + 1).toNatClampNeg) q13.1 q13.2 hr11) (cwV 1 hts gX4_does_X4_opens rfl rfl rfl (by decide +kernel) ⟨Nat.le_of_ble_eq_true rfl, Nat.le_of_ble_eq_true rfl⟩) (rcv_X4 X hK) X hS (fun _ z => z) rfl hl.1 rfl (Nat.le_of_ble_eq_true rfl) dX4_does_81 ⟨Nat.zero_le _, Nat.zero_le _⟩ (fun H locs X hS _ _ => ?_)
      show W p l e _ s m _ below meth c H locs 0 0 _ (F0 m 84 ls [.int q13.1])
      refine lv_pop hx hb dX4_does_84 rfl ?_
      refine lv_goto (tgt := 137) hx hb dX4_does_85 (by decide) ?_
      have h := so h
      subst h
      exact W.vret hx hb hr (fun t ht _ => ⟨rfl, by rw [ht]; exact X, hS.F ht⟩) hS.2.2 dX4_does_137
    · have h := iq h c9
      by_cases c14 : (σ 11 p1.toNatClampNeg) = 120
      · have h := ip h c14
        refine rowLook (K := 120) (off := 82) (tgt := 88) hx hb c14 dX4_does_6 (by decide) (by decide) (by decide) ?_
        refine lv_aload_n hx hb dX4_does_88 rfl (lv_at hl 0 rfl) ?_
        refine lv_aload_n hx hb dX4_does_89 rfl (lv_at hl 0 rfl) ?_
        refine gt_X4_11 C hin X 1 rfl dX4_does_90 ?_
        refine lv_iload_n hx hb dX4_does_93 rfl (lv_at hl 1 rfl) ?_
        refine lv_iconst (v := 1) hx hb dX4_does_94 (by decide) ?_
        refine lv_iadd hx hb dX4_does_95 ?_
        obtain ⟨c15, h⟩ := og h
        refine al_X4_11 C X rfl c15 dX4_does_96 ?_
        refine lv_iconst (v := 0) hx hb dX4_does_97 (by decide) ?_
        refine lv_aload_n hx hb dX4_does_98 rfl (lv_at hl 0 rfl) ?_
        refine gt_X4_11 C hin X 1 rfl dX4_does_99 ?_
        refine lv_iload_n hx hb dX4_does_102 rfl (lv_at hl 1 rfl) ?_
        refine lv_iconst (v := 2) hx hb dX4_does_103 (by decide) ?_
        refine lv_iadd hx hb dX4_does_104 ?_
        obtain ⟨c16, h⟩ := og h
        refine al_X4_11 C X rfl c16 dX4_does_105 ?_
        obtain ⟨σ18, hr17, h⟩ := ob h
        refine rowW (As := [.int (σ 11 (p1 + 1).toNatClampNeg), .int 0, .int (σ 11 (p1 + 2).toNatClampNeg)]) (rest := []) C (kX4_lay l G b σ (σ 11 (p1 + 1).toNatClampNeg) 0 (σ 11 (p1 + 2).toNatClampNeg) σ18 hr17) (cwV 3 hts gX4_does_X4_lay rfl rfl rfl (by decide +kernel) ⟨Nat.le_of_ble_eq_true rfl, Nat.le_of_ble_eq_true rfl⟩) (rcv_X4 X hK) X hS (fun _ z => z) rfl hl.1 rfl (Nat.le_of_ble_eq_true rfl) dX4_does_106 ⟨Nat.zero_le _, Nat.zero_le _⟩ (fun H locs X hS _ _ => ?_)
        show W p l e _ s m _ below meth c H locs 0 0 _ (F0 m 109 ls [])
        refine lv_goto (tgt := 137) hx hb dX4_does_109 (by decide) ?_
        have h := so h
        subst h
        exact W.vret hx hb hr (fun t ht _ => ⟨rfl, by rw [ht]; exact X, hS.F ht⟩) hS.2.2 dX4_does_137
      · have h := iq h c14
        refine lv_lookup (off := 106) (tgt := 112) hx hb dX4_does_6 (by decide) ((lv_osw c2 (by decide)).trans ((lv_osw c9 (by decide)).trans ((lv_osw c14 (by decide)).trans rfl))) (by decide) ?_
        refine lv_aload_n hx hb dX4_does_112 rfl (lv_at hl 0 rfl) ?_
        refine lv_aload_n hx hb dX4_does_113 rfl (lv_at hl 0 rfl) ?_
        refine gt_X4_11 C hin X 1 rfl dX4_does_114 ?_
        refine lv_iload_n hx hb dX4_does_117 rfl (lv_at hl 1 rfl) ?_
        refine lv_iconst (v := 1) hx hb dX4_does_118 (by decide) ?_
        refine lv_iadd hx hb dX4_does_119 ?_
        obtain ⟨c19, h⟩ := og h
        refine al_X4_11 C X rfl c19 dX4_does_120 ?_
        refine lv_iconst (v := 3) hx hb dX4_does_121 (by decide) ?_
        refine lv_aload_n hx hb dX4_does_122 rfl (lv_at hl 0 rfl) ?_
        refine lv_aload_n hx hb dX4_does_123 rfl (lv_at hl 0 rfl) ?_
        refine gt_X4_11 C hin X 1 rfl dX4_does_124 ?_
        refine lv_iload_n hx hb dX4_does_127 rfl (lv_at hl 1 rfl) ?_
        refine lv_iconst (v := 1) hx hb dX4_does_128 (by decide) ?_
        refine lv_iadd hx hb dX4_does_129 ?_
        obtain ⟨c20, h⟩ := og h
        refine al_X4_11 C X rfl c20 dX4_does_130 ?_
        obtain ⟨r21, hr21, h⟩ := ob h
        refine rowV (As := [.int (σ 11 (p1 + 1).toNatClampNeg)]) (rest := [.int 3, .int (σ 11 (p1 + 1).toNatClampNeg), .ref b]) C (kX4_rightSeal l G b σ (σ 11 (p1 + 1).toNatClampNeg) r21 hr21) (cwV 1 hts gX4_does_X4_rightSeal rfl rfl rfl (by decide +kernel) ⟨Nat.le_of_ble_eq_true rfl, Nat.le_of_ble_eq_true rfl⟩) (rcv_X4 X hK) X rfl hl.1 rfl (Nat.le_of_ble_eq_true rfl) dX4_does_131 ⟨Nat.zero_le _, Nat.zero_le _⟩ ?_
        obtain ⟨σ23, hr22, h⟩ := ob h
        refine rowW (As := [.int (σ 11 (p1 + 1).toNatClampNeg), .int 3, .int r21]) (rest := []) C (kX4_lay l G b σ (σ 11 (p1 + 1).toNatClampNeg) 3 r21 σ23 hr22) (cwV 3 hts gX4_does_X4_lay rfl rfl rfl (by decide +kernel) ⟨Nat.le_of_ble_eq_true rfl, Nat.le_of_ble_eq_true rfl⟩) (rcv_X4 X hK) X hS (fun _ z => z) rfl hl.1 rfl (Nat.le_of_ble_eq_true rfl) dX4_does_134 ⟨Nat.zero_le _, Nat.zero_le _⟩ (fun H locs X hS _ _ => ?_)
        show W p l e _ s m _ below meth c H locs 0 0 _ (F0 m 137 ls [])
        have h := so h
        subst h
        exact W.vret hx hb hr (fun t ht _ => ⟨rfl, by rw [ht]; exact X, hS.F ht⟩) hS.2.2 dX4_does_137

theorem in_X4_perform : ∀ w ∈ wsX40, w ∈ wsX4_perform := by decide +kernel
def fX4_perform_98 : Nat → St → Int32 → Int32 → Int32 → Option (Int32 × St)
  | 0, _, _, _, _ => none
  | n + 1, σ, v1, v2, v3 => if 200 ≤ v3 then (some (σ 12 0, σ)) else (if oob v3 200 then none else if oob ((200 * ((σ 4 0) - 1)) + v3) 800 then none else fX4_perform_98 n (up σ 3 ((200 * ((σ 4 0) - 1)) + v3).toNatClampNeg (σ 2 v3.toNatClampNeg)) v1 v2 (v3 + 1))
theorem fX4_perform_98_0 (σ : St) (v1 : Int32) (v2 : Int32) (v3 : Int32) : fX4_perform_98 0 σ v1 v2 v3 = none := rfl
theorem fX4_perform_98_s (n : Nat) (σ : St) (v1 : Int32) (v2 : Int32) (v3 : Int32) : fX4_perform_98 (n + 1) σ v1 v2 v3 = (if 200 ≤ v3 then (some (σ 12 0, σ)) else (if oob v3 200 then none else if oob ((200 * ((σ 4 0) - 1)) + v3) 800 then none else fX4_perform_98 n (up σ 3 ((200 * ((σ 4 0) - 1)) + v3).toNatClampNeg (σ 2 v3.toNatClampNeg)) v1 v2 (v3 + 1))) := rfl
def fX4_perform_29 : Nat → St → Int32 → Int32 → Int32 → Option (Int32 × St)
  | 0, _, _, _, _ => none
  | n + 1, σ, v1, v2, v3 => if (σ 12 0) ≤ v3 then (if v2 = 0 then ((fX4_records σ).bind (fun σ10 => fX4_perform_98 1000 σ10 v1 v2 0)) else ((fX4_takeBack σ).bind (fun σ15 => some (v2, σ15)))) else (if v2 = 0 then ((fX4_refuses σ (4 * v3)).bind (fun r22 => if r22 = (-5) then (if r22 = 0 then ((fX4_does σ (4 * v3)).bind (fun σ29 => fX4_perform_29 n σ29 v1 0 (v3 + 1))) else (fX4_perform_29 n σ v1 0 (v3 + 1))) else (if r22 = 0 then ((fX4_does σ (4 * v3)).bind (fun σ26 => fX4_perform_29 n σ26 v1 r22 (v3 + 1))) else (fX4_perform_29 n σ v1 r22 (v3 + 1))))) else (if v2 = 0 then ((fX4_records σ).bind (fun σ19 => fX4_perform_98 1000 σ19 v1 v2 0)) else ((fX4_takeBack σ).bind (fun σ21 => some (v2, σ21)))))
theorem fX4_perform_29_0 (σ : St) (v1 : Int32) (v2 : Int32) (v3 : Int32) : fX4_perform_29 0 σ v1 v2 v3 = none := rfl
theorem fX4_perform_29_s (n : Nat) (σ : St) (v1 : Int32) (v2 : Int32) (v3 : Int32) : fX4_perform_29 (n + 1) σ v1 v2 v3 = (if (σ 12 0) ≤ v3 then (if v2 = 0 then ((fX4_records σ).bind (fun σ10 => fX4_perform_98 1000 σ10 v1 v2 0)) else ((fX4_takeBack σ).bind (fun σ15 => some (v2, σ15)))) else (if v2 = 0 then ((fX4_refuses σ (4 * v3)).bind (fun r22 => if r22 = (-5) then (if r22 = 0 then ((fX4_does σ (4 * v3)).bind (fun σ29 => fX4_perform_29 n σ29 v1 0 (v3 + 1))) else (fX4_perform_29 n σ v1 0 (v3 + 1))) else (if r22 = 0 then ((fX4_does σ (4 * v3)).bind (fun σ26 => fX4_perform_29 n σ26 v1 r22 (v3 + 1))) else (fX4_perform_29 n σ v1 r22 (v3 + 1))))) else (if v2 = 0 then ((fX4_records σ).bind (fun σ19 => fX4_perform_98 1000 σ19 v1 v2 0)) else ((fX4_takeBack σ).bind (fun σ21 => some (v2, σ21)))))) := rfl
def fX4_perform (σ : St) : Option (Int32 × St) := (fX4_reads (up σ 0 0 0)).bind (fun q3 => if q3.1 = (-5) then ((fX4_putAside q3.2).bind (fun σ6 => fX4_perform_29 1000 σ6 q3.1 0 0)) else (some ((-100) - q3.1, q3.2)))
set_option maxHeartbeats 4000000 in
set_option maxRecDepth 100000 in
theorem kX4_perform (l : Launch) (G : Gx) (b : Nat) (σ : St) (r : Int32) (σ' : St) (h : fX4_perform σ = some (r, σ')) : Met l yX4_perform wsX4_perform (rmN 7) (pre G [.ref b] (mAt G b σ)) (QcW b (b + 7) (mAt G b σ') (some (.int r))) 0 0 (lw_Fr b (b + 7)) := by
  refine Met.ofW (cc := cX4_perform) (maxL := 5) (ret := (some .int)) (by decide) rfl ?_
  intro p e s m args below meth c s₁ B hml hv
  obtain ⟨rfl, X, hK⟩ := hv
  have hx := B.exec
  have hb := B.bytes
  have hr := B.returns
  have hts := atoms_spec (ws := wsX4_perform) B.pre
  have hown : s.vm.findClass RX4 = some m.cls := findClass_of_methodNamed B.named
  have hlocks := B.notSynchronized
  have C : Cx p m c cX4_perform 5 s _ wsX4_perform RX4 G := ⟨⟨hx, hb, hml, hown, hts⟩, hK⟩
  have hin : ∀ w ∈ wsX40, w ∈ wsX4_perform := in_X4_perform
  have hS : va_S (lw_Fr b (b + 7)) s.heap s.heap [] := va_S.rf
  have hl := lv_entry ([.ref b]) (n := 5) (Nat.le_of_ble_eq_true rfl)
  rw [lg_entry_eq]
  generalize (lg_sl ([.ref b]) ++ List.replicate (5 - (lg_sl ([.ref b])).length) Slot.unset).toArray = ls at hl ⊢
  have hl : lv_has ls 5 [(0, .ref b)] := hl
  have loop98 : ∀ (n : Nat) (σ : St) (v1 : Int32) (v2 : Int32) (v3 : Int32) (H : Heap) (locs : List Loc) (ls : Array Slot), fX4_perform_98 n σ v1 v2 v3 = some (r, σ') → mAt G b σ H → va_S (lw_Fr b (b + 7)) s.heap H locs → lv_has ls 5 [(0, .ref b), (1, .int v1), (2, .int v2), (3, .int v3)] → W p l e (rmN 7) s m #[Value.ref b] below meth c H locs 0 0 (MQ below (QcW b (b + 7) (mAt G b σ') (some (.int r))) #[Value.ref b] s 0 0 (lw_Fr b (b + 7))) (F0 m 98 ls []) := by
    intro n
    induction n with
    | zero =>
      intro σ v1 v2 v3 H locs ls h X hS hl
      rw [fX4_perform_98_0] at h
      cases h
    | succ n ih =>
      intro σ v1 v2 v3 H locs ls h X hS hl
      rw [fX4_perform_98_s] at h
      refine lv_iload_n hx hb dX4_perform_98 rfl (lv_at hl 3 rfl) ?_
      refine lv_sipush (v := 200) hx hb dX4_perform_99 (by decide) ?_
      refine lv_icmp_ge (tgt := 134) hx hb dX4_perform_102 (by decide) (fun c11 => ?_) (fun c11 => ?_)
      · have h := ip h c11
        refine lv_aload_n hx hb dX4_perform_134 rfl (lv_at hl 0 rfl) ?_
        refine gt_X4_12 C hin X 2 rfl dX4_perform_135 ?_
        obtain ⟨h, h9⟩ := pr h
        subst h
        subst h9
        exact W.iret hx hb hr (fun t ht _ => ⟨rfl, by rw [ht]; exact X, hS.F ht⟩) hS.2.2 dX4_perform_138
      · have h := iq h c11
        refine lv_aload_n hx hb dX4_perform_105 rfl (lv_at hl 0 rfl) ?_
        refine gt_X4_3 C hin X 3 rfl dX4_perform_106 ?_
        refine lv_sipush (v := 200) hx hb dX4_perform_109 (by decide) ?_
        refine lv_aload_n hx hb dX4_perform_112 rfl (lv_at hl 0 rfl) ?_
        refine gt_X4_4 C hin X 4 rfl dX4_perform_113 ?_
        refine lv_iconst (v := 1) hx hb dX4_perform_116 (by decide) ?_
        refine lv_isub hx hb dX4_perform_117 ?_
        refine lv_imul hx hb dX4_perform_118 ?_
        refine lv_iload_n hx hb dX4_perform_119 rfl (lv_at hl 3 rfl) ?_
        refine lv_iadd hx hb dX4_perform_120 ?_
        refine lv_aload_n hx hb dX4_perform_121 rfl (lv_at hl 0 rfl) ?_
        refine gt_X4_2 C hin X 5 rfl dX4_perform_122 ?_
        refine lv_iload_n hx hb dX4_perform_125 rfl (lv_at hl 3 rfl) ?_
        obtain ⟨c12, h⟩ := og h
        refine al_X4_2 C X rfl c12 dX4_perform_126 ?_
        obtain ⟨c13, h⟩ := og h
        refine as_X4_3 C X hS rfl c13 dX4_perform_127 (fun H locs X hS => ?_)
        refine lv_iinc (v := v3 + 1) (lv' := [(3, .int (v3 + 1)), (0, .ref b), (1, .int v1), (2, .int v2)]) hx hb dX4_perform_128 hl (k := 3) rfl rfl (by decide) rfl (fun ls hl => ?_)
        refine lv_goto (tgt := 98) hx hb dX4_perform_131 (by decide) ?_
        exact ih _ _ _ _ _ _ _ h X hS (lv_sub hl [1, 2, 3, 0] rfl)
  have loop29 : ∀ (n : Nat) (σ : St) (v1 : Int32) (v2 : Int32) (v3 : Int32) (H : Heap) (locs : List Loc) (ls : Array Slot), fX4_perform_29 n σ v1 v2 v3 = some (r, σ') → mAt G b σ H → va_S (lw_Fr b (b + 7)) s.heap H locs → lv_has ls 5 [(0, .ref b), (1, .int v1), (2, .int v2), (3, .int v3)] → W p l e (rmN 7) s m #[Value.ref b] below meth c H locs 0 0 (MQ below (QcW b (b + 7) (mAt G b σ') (some (.int r))) #[Value.ref b] s 0 0 (lw_Fr b (b + 7))) (F0 m 29 ls []) := by
    intro n
    induction n with
    | zero =>
      intro σ v1 v2 v3 H locs ls h X hS hl
      rw [fX4_perform_29_0] at h
      cases h
    | succ n ih =>
      intro σ v1 v2 v3 H locs ls h X hS hl
      rw [fX4_perform_29_s] at h
      refine lv_iload_n hx hb dX4_perform_29 rfl (lv_at hl 3 rfl) ?_
      refine lv_aload_n hx hb dX4_perform_30 rfl (lv_at hl 0 rfl) ?_
      refine gt_X4_12 C hin X 2 rfl dX4_perform_31 ?_
      refine lv_icmp_ge (tgt := 82) hx hb dX4_perform_34 (by decide) (fun c7 => ?_) (fun c7 => ?_)
      · have h := ip h c7
        refine lv_iload_n hx hb dX4_perform_82 rfl (lv_at hl 2 rfl) ?_
        refine lv_if_eq (tgt := 92) hx hb dX4_perform_83 (by decide) (fun c8 => ?_) (fun c8 => ?_)
        · have h := ip h c8
          refine lv_aload_n hx hb dX4_perform_92 rfl (lv_at hl 0 rfl) ?_
          obtain ⟨σ10, hr9, h⟩ := ob h
          refine rowW (As := []) (rest := []) C (kX4_records l G b σ σ10 hr9) (cwV 0 hts gX4_perform_X4_records rfl rfl rfl (by decide +kernel) ⟨Nat.le_of_ble_eq_true rfl, Nat.le_of_ble_eq_true rfl⟩) (rcv_X4 X hK) X hS (fun _ z => z) rfl hl.1 rfl (Nat.le_of_ble_eq_true rfl) dX4_perform_93 ⟨Nat.zero_le _, Nat.zero_le _⟩ (fun H locs X hS _ _ => ?_)
          show W p l e _ s m _ below meth c H locs 0 0 _ (F0 m 96 ls [])
          refine lv_iconst (v := 0) hx hb dX4_perform_96 (by decide) ?_
          refine lv_istore_n (lv' := [(3, .int 0), (0, .ref b), (1, .int v1), (2, .int v2)]) hx hb dX4_perform_97 rfl hl (by decide) rfl (fun ls hl => ?_)
          exact loop98 _ _ _ _ _ _ _ _ h X hS (lv_sub hl [1, 2, 3, 0] rfl)
        · have h := iq h c8
          refine lv_aload_n hx hb dX4_perform_86 rfl (lv_at hl 0 rfl) ?_
          obtain ⟨σ15, hr14, h⟩ := ob h
          refine rowW (As := []) (rest := []) C (kX4_takeBack l G b σ σ15 hr14) (cwV 0 hts gX4_perform_X4_takeBack rfl rfl rfl (by decide +kernel) ⟨Nat.le_of_ble_eq_true rfl, Nat.le_of_ble_eq_true rfl⟩) (rcv_X4 X hK) X hS (fun _ z => z) rfl hl.1 rfl (Nat.le_of_ble_eq_true rfl) dX4_perform_87 ⟨Nat.zero_le _, Nat.zero_le _⟩ (fun H locs X hS _ _ => ?_)
          show W p l e _ s m _ below meth c H locs 0 0 _ (F0 m 90 ls [])
          refine lv_iload_n hx hb dX4_perform_90 rfl (lv_at hl 2 rfl) ?_
          obtain ⟨h, h9⟩ := pr h
          subst h
          subst h9
          exact W.iret hx hb hr (fun t ht _ => ⟨rfl, by rw [ht]; exact X, hS.F ht⟩) hS.2.2 dX4_perform_91
      · have h := iq h c7
        refine lv_iload_n hx hb dX4_perform_37 rfl (lv_at hl 2 rfl) ?_
        refine lv_if_ne (tgt := 82) hx hb dX4_perform_38 (by decide) (fun c16 => ?_) (fun c16 => ?_)
        · have h := iq h c16
          refine lv_iload_n hx hb dX4_perform_82 rfl (lv_at hl 2 rfl) ?_
          refine lv_if_eq (tgt := 92) hx hb dX4_perform_83 (by decide) (fun c17 => ?_) (fun c17 => ?_)
          · have h := ip h c17
            refine lv_aload_n hx hb dX4_perform_92 rfl (lv_at hl 0 rfl) ?_
            obtain ⟨σ19, hr18, h⟩ := ob h
            refine rowW (As := []) (rest := []) C (kX4_records l G b σ σ19 hr18) (cwV 0 hts gX4_perform_X4_records rfl rfl rfl (by decide +kernel) ⟨Nat.le_of_ble_eq_true rfl, Nat.le_of_ble_eq_true rfl⟩) (rcv_X4 X hK) X hS (fun _ z => z) rfl hl.1 rfl (Nat.le_of_ble_eq_true rfl) dX4_perform_93 ⟨Nat.zero_le _, Nat.zero_le _⟩ (fun H locs X hS _ _ => ?_)
            show W p l e _ s m _ below meth c H locs 0 0 _ (F0 m 96 ls [])
            refine lv_iconst (v := 0) hx hb dX4_perform_96 (by decide) ?_
            refine lv_istore_n (lv' := [(3, .int 0), (0, .ref b), (1, .int v1), (2, .int v2)]) hx hb dX4_perform_97 rfl hl (by decide) rfl (fun ls hl => ?_)
            exact loop98 _ _ _ _ _ _ _ _ h X hS (lv_sub hl [1, 2, 3, 0] rfl)
          · have h := iq h c17
            refine lv_aload_n hx hb dX4_perform_86 rfl (lv_at hl 0 rfl) ?_
            obtain ⟨σ21, hr20, h⟩ := ob h
            refine rowW (As := []) (rest := []) C (kX4_takeBack l G b σ σ21 hr20) (cwV 0 hts gX4_perform_X4_takeBack rfl rfl rfl (by decide +kernel) ⟨Nat.le_of_ble_eq_true rfl, Nat.le_of_ble_eq_true rfl⟩) (rcv_X4 X hK) X hS (fun _ z => z) rfl hl.1 rfl (Nat.le_of_ble_eq_true rfl) dX4_perform_87 ⟨Nat.zero_le _, Nat.zero_le _⟩ (fun H locs X hS _ _ => ?_)
            show W p l e _ s m _ below meth c H locs 0 0 _ (F0 m 90 ls [])
            refine lv_iload_n hx hb dX4_perform_90 rfl (lv_at hl 2 rfl) ?_
            obtain ⟨h, h9⟩ := pr h
            subst h
            subst h9
            exact W.iret hx hb hr (fun t ht _ => ⟨rfl, by rw [ht]; exact X, hS.F ht⟩) hS.2.2 dX4_perform_91
        · have h := ip h c16
          refine lv_aload_n hx hb dX4_perform_41 rfl (lv_at hl 0 rfl) ?_
          refine lv_iconst (v := 4) hx hb dX4_perform_42 (by decide) ?_
          refine lv_iload_n hx hb dX4_perform_43 rfl (lv_at hl 3 rfl) ?_
          refine lv_imul hx hb dX4_perform_44 ?_
          obtain ⟨r22, hr22, h⟩ := ob h
          refine rowV (As := [.int (4 * v3)]) (rest := []) C (kX4_refuses l G b σ (4 * v3) r22 hr22) (cwV 1 hts gX4_perform_X4_refuses rfl rfl rfl (by decide +kernel) ⟨Nat.le_of_ble_eq_true rfl, Nat.le_of_ble_eq_true rfl⟩) (rcv_X4 X hK) X rfl hl.1 rfl (Nat.le_of_ble_eq_true rfl) dX4_perform_45 ⟨Nat.zero_le _, Nat.zero_le _⟩ ?_
          refine lv_istore (lv' := [(4, .int r22), (0, .ref b), (1, .int v1), (2, .int v2), (3, .int v3)]) hx hb dX4_perform_48 hl (by decide) rfl (fun ls hl => ?_)
          refine lv_iload hx hb dX4_perform_50 (lv_at hl 0 rfl) ?_
          refine lv_bipush (v := (-5)) hx hb dX4_perform_52 (by decide) ?_
          refine lv_icmp_ne (tgt := 61) hx hb dX4_perform_54 (by decide) (fun c23 => ?_) (fun c23 => ?_)
          · have h := iq h c23
            refine lv_iload hx hb dX4_perform_61 (lv_at hl 0 rfl) ?_
            refine lv_istore_n (lv' := [(2, .int r22), (4, .int r22), (0, .ref b), (1, .int v1), (3, .int v3)]) hx hb dX4_perform_63 rfl hl (by decide) rfl (fun ls hl => ?_)
            refine lv_iload hx hb dX4_perform_64 (lv_at hl 1 rfl) ?_
            refine lv_if_ne (tgt := 76) hx hb dX4_perform_66 (by decide) (fun c24 => ?_) (fun c24 => ?_)
            · have h := iq h c24
              refine lv_iinc (v := v3 + 1) (lv' := [(3, .int (v3 + 1)), (2, .int r22), (4, .int r22), (0, .ref b), (1, .int v1)]) hx hb dX4_perform_76 hl (k := 4) rfl rfl (by decide) rfl (fun ls hl => ?_)
              refine lv_goto (tgt := 29) hx hb dX4_perform_79 (by decide) ?_
              exact ih _ _ _ _ _ _ _ h X hS (lv_sub hl [3, 4, 1, 0] rfl)
            · have h := ip h c24
              refine lv_aload_n hx hb dX4_perform_69 rfl (lv_at hl 2 rfl) ?_
              refine lv_iconst (v := 4) hx hb dX4_perform_70 (by decide) ?_
              refine lv_iload_n hx hb dX4_perform_71 rfl (lv_at hl 4 rfl) ?_
              refine lv_imul hx hb dX4_perform_72 ?_
              obtain ⟨σ26, hr25, h⟩ := ob h
              refine rowW (As := [.int (4 * v3)]) (rest := []) C (kX4_does l G b σ (4 * v3) σ26 hr25) (cwV 1 hts gX4_perform_X4_does rfl rfl rfl (by decide +kernel) ⟨Nat.le_of_ble_eq_true rfl, Nat.le_of_ble_eq_true rfl⟩) (rcv_X4 X hK) X hS (fun _ z => z) rfl hl.1 rfl (Nat.le_of_ble_eq_true rfl) dX4_perform_73 ⟨Nat.zero_le _, Nat.zero_le _⟩ (fun H locs X hS _ _ => ?_)
              show W p l e _ s m _ below meth c H locs 0 0 _ (F0 m 76 ls [])
              refine lv_iinc (v := v3 + 1) (lv' := [(3, .int (v3 + 1)), (2, .int r22), (4, .int r22), (0, .ref b), (1, .int v1)]) hx hb dX4_perform_76 hl (k := 4) rfl rfl (by decide) rfl (fun ls hl => ?_)
              refine lv_goto (tgt := 29) hx hb dX4_perform_79 (by decide) ?_
              exact ih _ _ _ _ _ _ _ h X hS (lv_sub hl [3, 4, 1, 0] rfl)
          · have h := ip h c23
            refine lv_iconst (v := 0) hx hb dX4_perform_57 (by decide) ?_
            refine lv_goto (tgt := 63) hx hb dX4_perform_58 (by decide) ?_
            refine lv_istore_n (lv' := [(2, .int 0), (4, .int r22), (0, .ref b), (1, .int v1), (3, .int v3)]) hx hb dX4_perform_63 rfl hl (by decide) rfl (fun ls hl => ?_)
            refine lv_iload hx hb dX4_perform_64 (lv_at hl 1 rfl) ?_
            refine lv_if_ne (tgt := 76) hx hb dX4_perform_66 (by decide) (fun c27 => ?_) (fun c27 => ?_)
            · have h := iq h c27
              refine lv_iinc (v := v3 + 1) (lv' := [(3, .int (v3 + 1)), (2, .int 0), (4, .int r22), (0, .ref b), (1, .int v1)]) hx hb dX4_perform_76 hl (k := 4) rfl rfl (by decide) rfl (fun ls hl => ?_)
              refine lv_goto (tgt := 29) hx hb dX4_perform_79 (by decide) ?_
              exact ih _ _ _ _ _ _ _ h X hS (lv_sub hl [3, 4, 1, 0] rfl)
            · have h := ip h c27
              refine lv_aload_n hx hb dX4_perform_69 rfl (lv_at hl 2 rfl) ?_
              refine lv_iconst (v := 4) hx hb dX4_perform_70 (by decide) ?_
              refine lv_iload_n hx hb dX4_perform_71 rfl (lv_at hl 4 rfl) ?_
              refine lv_imul hx hb dX4_perform_72 ?_
              obtain ⟨σ29, hr28, h⟩ := ob h
              refine rowW (As := [.int (4 * v3)]) (rest := []) C (kX4_does l G b σ (4 * v3) σ29 hr28) (cwV 1 hts gX4_perform_X4_does rfl rfl rfl (by decide +kernel) ⟨Nat.le_of_ble_eq_true rfl, Nat.le_of_ble_eq_true rfl⟩) (rcv_X4 X hK) X hS (fun _ z => z) rfl hl.1 rfl (Nat.le_of_ble_eq_true rfl) dX4_perform_73 ⟨Nat.zero_le _, Nat.zero_le _⟩ (fun H locs X hS _ _ => ?_)
              show W p l e _ s m _ below meth c H locs 0 0 _ (F0 m 76 ls [])
              refine lv_iinc (v := v3 + 1) (lv' := [(3, .int (v3 + 1)), (2, .int 0), (4, .int r22), (0, .ref b), (1, .int v1)]) hx hb dX4_perform_76 hl (k := 4) rfl rfl (by decide) rfl (fun ls hl => ?_)
              refine lv_goto (tgt := 29) hx hb dX4_perform_79 (by decide) ?_
              exact ih _ _ _ _ _ _ _ h X hS (lv_sub hl [3, 4, 1, 0] rfl)
  unfold fX4_perform at h
  refine lv_aload_n hx hb dX4_perform_0 rfl (lv_at hl 0 rfl) ?_
  refine lv_iconst (v := 0) hx hb dX4_perform_1 (by decide) ?_
  refine pt_X4_0 C hin X hS 1 rfl dX4_perform_2 (fun H locs X hS => ?_)
  refine lv_aload_n hx hb dX4_perform_5 rfl (lv_at hl 0 rfl) ?_
  obtain ⟨q3, hr1, h⟩ := ob h
  refine rowW (As := []) (rest := []) C (kX4_reads l G b (up σ 0 0 0) q3.1 q3.2 hr1) (cwV 0 hts gX4_perform_X4_reads rfl rfl rfl (by decide +kernel) ⟨Nat.le_of_ble_eq_true rfl, Nat.le_of_ble_eq_true rfl⟩) (rcv_X4 X hK) X hS (fun _ z => z) rfl hl.1 rfl (Nat.le_of_ble_eq_true rfl) dX4_perform_6 ⟨Nat.zero_le _, Nat.zero_le _⟩ (fun H locs X hS _ _ => ?_)
  show W p l e _ s m _ below meth c H locs 0 0 _ (F0 m 9 ls [.int q3.1])
  refine lv_istore_n (lv' := [(1, .int q3.1), (0, .ref b)]) hx hb dX4_perform_9 rfl hl (by decide) rfl (fun ls hl => ?_)
  refine lv_iload_n hx hb dX4_perform_10 rfl (lv_at hl 0 rfl) ?_
  refine lv_bipush (v := (-5)) hx hb dX4_perform_11 (by decide) ?_
  refine lv_icmp_eq (tgt := 21) hx hb dX4_perform_13 (by decide) (fun c4 => ?_) (fun c4 => ?_)
  · have h := ip h c4
    refine lv_aload_n hx hb dX4_perform_21 rfl (lv_at hl 1 rfl) ?_
    obtain ⟨σ6, hr5, h⟩ := ob h
    refine rowW (As := []) (rest := []) C (kX4_putAside l G b q3.2 σ6 hr5) (cwV 0 hts gX4_perform_X4_putAside rfl rfl rfl (by decide +kernel) ⟨Nat.le_of_ble_eq_true rfl, Nat.le_of_ble_eq_true rfl⟩) (rcv_X4 X hK) X hS (fun _ z => z) rfl hl.1 rfl (Nat.le_of_ble_eq_true rfl) dX4_perform_22 ⟨Nat.zero_le _, Nat.zero_le _⟩ (fun H locs X hS _ _ => ?_)
    show W p l e _ s m _ below meth c H locs 0 0 _ (F0 m 25 ls [])
    refine lv_iconst (v := 0) hx hb dX4_perform_25 (by decide) ?_
    refine lv_istore_n (lv' := [(2, .int 0), (1, .int q3.1), (0, .ref b)]) hx hb dX4_perform_26 rfl hl (by decide) rfl (fun ls hl => ?_)
    refine lv_iconst (v := 0) hx hb dX4_perform_27 (by decide) ?_
    refine lv_istore_n (lv' := [(3, .int 0), (2, .int 0), (1, .int q3.1), (0, .ref b)]) hx hb dX4_perform_28 rfl hl (by decide) rfl (fun ls hl => ?_)
    exact loop29 _ _ _ _ _ _ _ _ h X hS (lv_sub hl [3, 2, 1, 0] rfl)
  · have h := iq h c4
    refine lv_bipush (v := (-100)) hx hb dX4_perform_16 (by decide) ?_
    refine lv_iload_n hx hb dX4_perform_18 rfl (lv_at hl 0 rfl) ?_
    refine lv_isub hx hb dX4_perform_19 ?_
    obtain ⟨h, h9⟩ := pr h
    subst h
    subst h9
    exact W.iret hx hb hr (fun t ht _ => ⟨rfl, by rw [ht]; exact X, hS.F ht⟩) hS.2.2 dX4_perform_20

theorem in_X4_undo : ∀ w ∈ wsX40, w ∈ wsX4_undo := by decide +kernel
def fX4_undo_27 : Nat → St → Int32 → Option (Int32 × St)
  | 0, _, _ => none
  | n + 1, σ, v1 => if 200 ≤ v1 then (some (σ 4 0, σ)) else (if oob ((200 * (σ 4 0)) + v1) 800 then none else if oob v1 200 then none else fX4_undo_27 n (up σ 1 v1.toNatClampNeg (σ 3 ((200 * (σ 4 0)) + v1).toNatClampNeg)) (v1 + 1))
theorem fX4_undo_27_0 (σ : St) (v1 : Int32) : fX4_undo_27 0 σ v1 = none := rfl
theorem fX4_undo_27_s (n : Nat) (σ : St) (v1 : Int32) : fX4_undo_27 (n + 1) σ v1 = (if 200 ≤ v1 then (some (σ 4 0, σ)) else (if oob ((200 * (σ 4 0)) + v1) 800 then none else if oob v1 200 then none else fX4_undo_27 n (up σ 1 v1.toNatClampNeg (σ 3 ((200 * (σ 4 0)) + v1).toNatClampNeg)) (v1 + 1))) := rfl
def fX4_undo (σ : St) : Option (Int32 × St) := if ((up σ 0 0 0) 4 0) = 0 then (some ((-5), up σ 0 0 0)) else (fX4_undo_27 1000 (up (up σ 0 0 0) 4 0 (((up σ 0 0 0) 4 0) - 1)) 0)
set_option maxHeartbeats 4000000 in
set_option maxRecDepth 100000 in
theorem kX4_undo (l : Launch) (G : Gx) (b : Nat) (σ : St) (r : Int32) (σ' : St) (h : fX4_undo σ = some (r, σ')) : Met l yX4_undo wsX4_undo (rmN 0) (pre G [.ref b] (mAt G b σ)) (QcW b (b + 7) (mAt G b σ') (some (.int r))) 0 0 (lw_Fr b (b + 7)) := by
  refine Met.ofW (cc := cX4_undo) (maxL := 2) (ret := (some .int)) (by decide) rfl ?_
  intro p e s m args below meth c s₁ B hml hv
  obtain ⟨rfl, X, hK⟩ := hv
  have hx := B.exec
  have hb := B.bytes
  have hr := B.returns
  have hts := atoms_spec (ws := wsX4_undo) B.pre
  have hown : s.vm.findClass RX4 = some m.cls := findClass_of_methodNamed B.named
  have hlocks := B.notSynchronized
  have C : Cx p m c cX4_undo 2 s _ wsX4_undo RX4 G := ⟨⟨hx, hb, hml, hown, hts⟩, hK⟩
  have hin : ∀ w ∈ wsX40, w ∈ wsX4_undo := in_X4_undo
  have hS : va_S (lw_Fr b (b + 7)) s.heap s.heap [] := va_S.rf
  have hl := lv_entry ([.ref b]) (n := 2) (Nat.le_of_ble_eq_true rfl)
  rw [lg_entry_eq]
  generalize (lg_sl ([.ref b]) ++ List.replicate (2 - (lg_sl ([.ref b])).length) Slot.unset).toArray = ls at hl ⊢
  have hl : lv_has ls 2 [(0, .ref b)] := hl
  have loop27 : ∀ (n : Nat) (σ : St) (v1 : Int32) (H : Heap) (locs : List Loc) (ls : Array Slot), fX4_undo_27 n σ v1 = some (r, σ') → mAt G b σ H → va_S (lw_Fr b (b + 7)) s.heap H locs → lv_has ls 2 [(0, .ref b), (1, .int v1)] → W p l e (rmN 0) s m #[Value.ref b] below meth c H locs 0 0 (MQ below (QcW b (b + 7) (mAt G b σ') (some (.int r))) #[Value.ref b] s 0 0 (lw_Fr b (b + 7))) (F0 m 27 ls []) := by
    intro n
    induction n with
    | zero =>
      intro σ v1 H locs ls h X hS hl
      rw [fX4_undo_27_0] at h
      cases h
    | succ n ih =>
      intro σ v1 H locs ls h X hS hl
      rw [fX4_undo_27_s] at h
      refine lv_iload_n hx hb dX4_undo_27 rfl (lv_at hl 1 rfl) ?_
      refine lv_sipush (v := 200) hx hb dX4_undo_28 (by decide) ?_
      refine lv_icmp_ge (tgt := 61) hx hb dX4_undo_31 (by decide) (fun c2 => ?_) (fun c2 => ?_)
      · have h := ip h c2
        refine lv_aload_n hx hb dX4_undo_61 rfl (lv_at hl 0 rfl) ?_
        refine gt_X4_4 C hin X 2 rfl dX4_undo_62 ?_
        obtain ⟨h, h9⟩ := pr h
        subst h
        subst h9
        exact W.iret hx hb hr (fun t ht _ => ⟨rfl, by rw [ht]; exact X, hS.F ht⟩) hS.2.2 dX4_undo_65
      · have h := iq h c2
        refine lv_aload_n hx hb dX4_undo_34 rfl (lv_at hl 0 rfl) ?_
        refine gt_X4_1 C hin X 3 rfl dX4_undo_35 ?_
        refine lv_iload_n hx hb dX4_undo_38 rfl (lv_at hl 1 rfl) ?_
        refine lv_aload_n hx hb dX4_undo_39 rfl (lv_at hl 0 rfl) ?_
        refine gt_X4_3 C hin X 4 rfl dX4_undo_40 ?_
        refine lv_sipush (v := 200) hx hb dX4_undo_43 (by decide) ?_
        refine lv_aload_n hx hb dX4_undo_46 rfl (lv_at hl 0 rfl) ?_
        refine gt_X4_4 C hin X 2 rfl dX4_undo_47 ?_
        refine lv_imul hx hb dX4_undo_50 ?_
        refine lv_iload_n hx hb dX4_undo_51 rfl (lv_at hl 1 rfl) ?_
        refine lv_iadd hx hb dX4_undo_52 ?_
        obtain ⟨c3, h⟩ := og h
        refine al_X4_3 C X rfl c3 dX4_undo_53 ?_
        obtain ⟨c4, h⟩ := og h
        refine as_X4_1 C X hS rfl c4 dX4_undo_54 (fun H locs X hS => ?_)
        refine lv_iinc (v := v1 + 1) (lv' := [(1, .int (v1 + 1)), (0, .ref b)]) hx hb dX4_undo_55 hl (k := 1) rfl rfl (by decide) rfl (fun ls hl => ?_)
        refine lv_goto (tgt := 27) hx hb dX4_undo_58 (by decide) ?_
        exact ih _ _ _ _ _ h X hS (lv_sub hl [1, 0] rfl)
  unfold fX4_undo at h
  refine lv_aload_n hx hb dX4_undo_0 rfl (lv_at hl 0 rfl) ?_
  refine lv_iconst (v := 0) hx hb dX4_undo_1 (by decide) ?_
  refine pt_X4_0 C hin X hS 1 rfl dX4_undo_2 (fun H locs X hS => ?_)
  refine lv_aload_n hx hb dX4_undo_5 rfl (lv_at hl 0 rfl) ?_
  refine gt_X4_4 C hin X 2 rfl dX4_undo_6 ?_
  refine lv_if_ne (tgt := 15) hx hb dX4_undo_9 (by decide) (fun c1 => ?_) (fun c1 => ?_)
  · have h := iq h c1
    refine lv_aload_n hx hb dX4_undo_15 rfl (lv_at hl 0 rfl) ?_
    refine lv_dup hx hb dX4_undo_16 rfl ?_
    refine gt_X4_4 C hin X 2 rfl dX4_undo_17 ?_
    refine lv_iconst (v := 1) hx hb dX4_undo_20 (by decide) ?_
    refine lv_isub hx hb dX4_undo_21 ?_
    refine pt_X4_4 C hin X hS 2 rfl dX4_undo_22 (fun H locs X hS => ?_)
    refine lv_iconst (v := 0) hx hb dX4_undo_25 (by decide) ?_
    refine lv_istore_n (lv' := [(1, .int 0), (0, .ref b)]) hx hb dX4_undo_26 rfl hl (by decide) rfl (fun ls hl => ?_)
    exact loop27 _ _ _ _ _ _ h X hS (lv_sub hl [1, 0] rfl)
  · have h := ip h c1
    refine lv_bipush (v := (-5)) hx hb dX4_undo_12 (by decide) ?_
    obtain ⟨h, h9⟩ := pr h
    subst h
    subst h9
    exact W.iret hx hb hr (fun t ht _ => ⟨rfl, by rw [ht]; exact X, hS.F ht⟩) hS.2.2 dX4_undo_14

theorem in_X4_keep : ∀ w ∈ wsX40, w ∈ wsX4_keep := by decide +kernel
def fX4_keep_7 : Nat → St → Int32 → Option (Int32 × St)
  | 0, _, _ => none
  | n + 1, σ, v1 => if 200 ≤ v1 then (some ((up σ 6 0 1) 1 5, up σ 6 0 1)) else (if oob v1 200 then none else if oob v1 200 then none else fX4_keep_7 n (up σ 5 v1.toNatClampNeg (σ 1 v1.toNatClampNeg)) (v1 + 1))
theorem fX4_keep_7_0 (σ : St) (v1 : Int32) : fX4_keep_7 0 σ v1 = none := rfl
theorem fX4_keep_7_s (n : Nat) (σ : St) (v1 : Int32) : fX4_keep_7 (n + 1) σ v1 = (if 200 ≤ v1 then (some ((up σ 6 0 1) 1 5, up σ 6 0 1)) else (if oob v1 200 then none else if oob v1 200 then none else fX4_keep_7 n (up σ 5 v1.toNatClampNeg (σ 1 v1.toNatClampNeg)) (v1 + 1))) := rfl
def fX4_keep (σ : St) : Option (Int32 × St) := fX4_keep_7 1000 (up σ 0 0 0) 0
set_option maxHeartbeats 4000000 in
set_option maxRecDepth 100000 in
theorem kX4_keep (l : Launch) (G : Gx) (b : Nat) (σ : St) (r : Int32) (σ' : St) (h : fX4_keep σ = some (r, σ')) : Met l yX4_keep wsX4_keep (rmN 0) (pre G [.ref b] (mAt G b σ)) (QcW b (b + 7) (mAt G b σ') (some (.int r))) 0 0 (lw_Fr b (b + 7)) := by
  refine Met.ofW (cc := cX4_keep) (maxL := 2) (ret := (some .int)) (by decide) rfl ?_
  intro p e s m args below meth c s₁ B hml hv
  obtain ⟨rfl, X, hK⟩ := hv
  have hx := B.exec
  have hb := B.bytes
  have hr := B.returns
  have hts := atoms_spec (ws := wsX4_keep) B.pre
  have hown : s.vm.findClass RX4 = some m.cls := findClass_of_methodNamed B.named
  have hlocks := B.notSynchronized
  have C : Cx p m c cX4_keep 2 s _ wsX4_keep RX4 G := ⟨⟨hx, hb, hml, hown, hts⟩, hK⟩
  have hin : ∀ w ∈ wsX40, w ∈ wsX4_keep := in_X4_keep
  have hS : va_S (lw_Fr b (b + 7)) s.heap s.heap [] := va_S.rf
  have hl := lv_entry ([.ref b]) (n := 2) (Nat.le_of_ble_eq_true rfl)
  rw [lg_entry_eq]
  generalize (lg_sl ([.ref b]) ++ List.replicate (2 - (lg_sl ([.ref b])).length) Slot.unset).toArray = ls at hl ⊢
  have hl : lv_has ls 2 [(0, .ref b)] := hl
  have loop7 : ∀ (n : Nat) (σ : St) (v1 : Int32) (H : Heap) (locs : List Loc) (ls : Array Slot), fX4_keep_7 n σ v1 = some (r, σ') → mAt G b σ H → va_S (lw_Fr b (b + 7)) s.heap H locs → lv_has ls 2 [(0, .ref b), (1, .int v1)] → W p l e (rmN 0) s m #[Value.ref b] below meth c H locs 0 0 (MQ below (QcW b (b + 7) (mAt G b σ') (some (.int r))) #[Value.ref b] s 0 0 (lw_Fr b (b + 7))) (F0 m 7 ls []) := by
    intro n
    induction n with
    | zero =>
      intro σ v1 H locs ls h X hS hl
      rw [fX4_keep_7_0] at h
      cases h
    | succ n ih =>
      intro σ v1 H locs ls h X hS hl
      rw [fX4_keep_7_s] at h
      refine lv_iload_n hx hb dX4_keep_7 rfl (lv_at hl 1 rfl) ?_
      refine lv_sipush (v := 200) hx hb dX4_keep_8 (by decide) ?_
      refine lv_icmp_ge (tgt := 32) hx hb dX4_keep_11 (by decide) (fun c1 => ?_) (fun c1 => ?_)
      · have h := ip h c1
        refine lv_aload_n hx hb dX4_keep_32 rfl (lv_at hl 0 rfl) ?_
        refine lv_iconst (v := 1) hx hb dX4_keep_33 (by decide) ?_
        refine pt_X4_6 C hin X hS 4 rfl rfl (by decide) dX4_keep_34 (fun H locs X hS => ?_)
        refine lv_aload_n hx hb dX4_keep_37 rfl (lv_at hl 0 rfl) ?_
        refine gt_X4_1 C hin X 3 rfl dX4_keep_38 ?_
        refine lv_iconst (v := 5) hx hb dX4_keep_41 (by decide) ?_
        refine al_X4_1 (j := 5) C X rfl (by decide) dX4_keep_42 ?_
        obtain ⟨h, h9⟩ := pr h
        subst h
        subst h9
        exact W.iret hx hb hr (fun t ht _ => ⟨rfl, by rw [ht]; exact X, hS.F ht⟩) hS.2.2 dX4_keep_43
      · have h := iq h c1
        refine lv_aload_n hx hb dX4_keep_14 rfl (lv_at hl 0 rfl) ?_
        refine gt_X4_5 C hin X 2 rfl dX4_keep_15 ?_
        refine lv_iload_n hx hb dX4_keep_18 rfl (lv_at hl 1 rfl) ?_
        refine lv_aload_n hx hb dX4_keep_19 rfl (lv_at hl 0 rfl) ?_
        refine gt_X4_1 C hin X 3 rfl dX4_keep_20 ?_
        refine lv_iload_n hx hb dX4_keep_23 rfl (lv_at hl 1 rfl) ?_
        obtain ⟨c2, h⟩ := og h
        refine al_X4_1 C X rfl c2 dX4_keep_24 ?_
        obtain ⟨c3, h⟩ := og h
        refine as_X4_5 C X hS rfl c3 dX4_keep_25 (fun H locs X hS => ?_)
        refine lv_iinc (v := v1 + 1) (lv' := [(1, .int (v1 + 1)), (0, .ref b)]) hx hb dX4_keep_26 hl (k := 1) rfl rfl (by decide) rfl (fun ls hl => ?_)
        refine lv_goto (tgt := 7) hx hb dX4_keep_29 (by decide) ?_
        exact ih _ _ _ _ _ h X hS (lv_sub hl [1, 0] rfl)
  unfold fX4_keep at h
  refine lv_aload_n hx hb dX4_keep_0 rfl (lv_at hl 0 rfl) ?_
  refine lv_iconst (v := 0) hx hb dX4_keep_1 (by decide) ?_
  refine pt_X4_0 C hin X hS 1 rfl dX4_keep_2 (fun H locs X hS => ?_)
  refine lv_iconst (v := 0) hx hb dX4_keep_5 (by decide) ?_
  refine lv_istore_n (lv' := [(1, .int 0), (0, .ref b)]) hx hb dX4_keep_6 rfl hl (by decide) rfl (fun ls hl => ?_)
  exact loop7 _ _ _ _ _ _ h X hS (lv_sub hl [1, 0] rfl)

theorem in_X4_restore : ∀ w ∈ wsX40, w ∈ wsX4_restore := by decide +kernel
def fX4_restore_21 : Nat → St → Int32 → Option (Int32 × St)
  | 0, _, _ => none
  | n + 1, σ, v1 => if 200 ≤ v1 then (some (σ 1 5, σ)) else (if oob v1 200 then none else if oob v1 200 then none else fX4_restore_21 n (up σ 1 v1.toNatClampNeg (σ 5 v1.toNatClampNeg)) (v1 + 1))
theorem fX4_restore_21_0 (σ : St) (v1 : Int32) : fX4_restore_21 0 σ v1 = none := rfl
theorem fX4_restore_21_s (n : Nat) (σ : St) (v1 : Int32) : fX4_restore_21 (n + 1) σ v1 = (if 200 ≤ v1 then (some (σ 1 5, σ)) else (if oob v1 200 then none else if oob v1 200 then none else fX4_restore_21 n (up σ 1 v1.toNatClampNeg (σ 5 v1.toNatClampNeg)) (v1 + 1))) := rfl
def fX4_restore (σ : St) : Option (Int32 × St) := if ((up σ 0 0 0) 6 0) = 0 then (some ((-5), up σ 0 0 0)) else ((fX4_records (up σ 0 0 0)).bind (fun σ3 => fX4_restore_21 1000 σ3 0))
set_option maxHeartbeats 4000000 in
set_option maxRecDepth 100000 in
theorem kX4_restore (l : Launch) (G : Gx) (b : Nat) (σ : St) (r : Int32) (σ' : St) (h : fX4_restore σ = some (r, σ')) : Met l yX4_restore wsX4_restore (rmN 1) (pre G [.ref b] (mAt G b σ)) (QcW b (b + 7) (mAt G b σ') (some (.int r))) 0 0 (lw_Fr b (b + 7)) := by
  refine Met.ofW (cc := cX4_restore) (maxL := 2) (ret := (some .int)) (by decide) rfl ?_
  intro p e s m args below meth c s₁ B hml hv
  obtain ⟨rfl, X, hK⟩ := hv
  have hx := B.exec
  have hb := B.bytes
  have hr := B.returns
  have hts := atoms_spec (ws := wsX4_restore) B.pre
  have hown : s.vm.findClass RX4 = some m.cls := findClass_of_methodNamed B.named
  have hlocks := B.notSynchronized
  have C : Cx p m c cX4_restore 2 s _ wsX4_restore RX4 G := ⟨⟨hx, hb, hml, hown, hts⟩, hK⟩
  have hin : ∀ w ∈ wsX40, w ∈ wsX4_restore := in_X4_restore
  have hS : va_S (lw_Fr b (b + 7)) s.heap s.heap [] := va_S.rf
  have hl := lv_entry ([.ref b]) (n := 2) (Nat.le_of_ble_eq_true rfl)
  rw [lg_entry_eq]
  generalize (lg_sl ([.ref b]) ++ List.replicate (2 - (lg_sl ([.ref b])).length) Slot.unset).toArray = ls at hl ⊢
  have hl : lv_has ls 2 [(0, .ref b)] := hl
  have loop21 : ∀ (n : Nat) (σ : St) (v1 : Int32) (H : Heap) (locs : List Loc) (ls : Array Slot), fX4_restore_21 n σ v1 = some (r, σ') → mAt G b σ H → va_S (lw_Fr b (b + 7)) s.heap H locs → lv_has ls 2 [(0, .ref b), (1, .int v1)] → W p l e (rmN 1) s m #[Value.ref b] below meth c H locs 0 0 (MQ below (QcW b (b + 7) (mAt G b σ') (some (.int r))) #[Value.ref b] s 0 0 (lw_Fr b (b + 7))) (F0 m 21 ls []) := by
    intro n
    induction n with
    | zero =>
      intro σ v1 H locs ls h X hS hl
      rw [fX4_restore_21_0] at h
      cases h
    | succ n ih =>
      intro σ v1 H locs ls h X hS hl
      rw [fX4_restore_21_s] at h
      refine lv_iload_n hx hb dX4_restore_21 rfl (lv_at hl 1 rfl) ?_
      refine lv_sipush (v := 200) hx hb dX4_restore_22 (by decide) ?_
      refine lv_icmp_ge (tgt := 46) hx hb dX4_restore_25 (by decide) (fun c4 => ?_) (fun c4 => ?_)
      · have h := ip h c4
        refine lv_aload_n hx hb dX4_restore_46 rfl (lv_at hl 0 rfl) ?_
        refine gt_X4_1 C hin X 3 rfl dX4_restore_47 ?_
        refine lv_iconst (v := 5) hx hb dX4_restore_50 (by decide) ?_
        refine al_X4_1 (j := 5) C X rfl (by decide) dX4_restore_51 ?_
        obtain ⟨h, h9⟩ := pr h
        subst h
        subst h9
        exact W.iret hx hb hr (fun t ht _ => ⟨rfl, by rw [ht]; exact X, hS.F ht⟩) hS.2.2 dX4_restore_52
      · have h := iq h c4
        refine lv_aload_n hx hb dX4_restore_28 rfl (lv_at hl 0 rfl) ?_
        refine gt_X4_1 C hin X 3 rfl dX4_restore_29 ?_
        refine lv_iload_n hx hb dX4_restore_32 rfl (lv_at hl 1 rfl) ?_
        refine lv_aload_n hx hb dX4_restore_33 rfl (lv_at hl 0 rfl) ?_
        refine gt_X4_5 C hin X 4 rfl dX4_restore_34 ?_
        refine lv_iload_n hx hb dX4_restore_37 rfl (lv_at hl 1 rfl) ?_
        obtain ⟨c5, h⟩ := og h
        refine al_X4_5 C X rfl c5 dX4_restore_38 ?_
        obtain ⟨c6, h⟩ := og h
        refine as_X4_1 C X hS rfl c6 dX4_restore_39 (fun H locs X hS => ?_)
        refine lv_iinc (v := v1 + 1) (lv' := [(1, .int (v1 + 1)), (0, .ref b)]) hx hb dX4_restore_40 hl (k := 1) rfl rfl (by decide) rfl (fun ls hl => ?_)
        refine lv_goto (tgt := 21) hx hb dX4_restore_43 (by decide) ?_
        exact ih _ _ _ _ _ h X hS (lv_sub hl [1, 0] rfl)
  unfold fX4_restore at h
  refine lv_aload_n hx hb dX4_restore_0 rfl (lv_at hl 0 rfl) ?_
  refine lv_iconst (v := 0) hx hb dX4_restore_1 (by decide) ?_
  refine pt_X4_0 C hin X hS 1 rfl dX4_restore_2 (fun H locs X hS => ?_)
  refine lv_aload_n hx hb dX4_restore_5 rfl (lv_at hl 0 rfl) ?_
  refine gt_X4_6 C hin X 2 rfl dX4_restore_6 ?_
  refine lv_if_ne (tgt := 15) hx hb dX4_restore_9 (by decide) (fun c1 => ?_) (fun c1 => ?_)
  · have h := iq h c1
    refine lv_aload_n hx hb dX4_restore_15 rfl (lv_at hl 0 rfl) ?_
    obtain ⟨σ3, hr2, h⟩ := ob h
    refine rowW (As := []) (rest := []) C (kX4_records l G b (up σ 0 0 0) σ3 hr2) (cwV 0 hts gX4_restore_X4_records rfl rfl rfl (by decide +kernel) ⟨Nat.le_of_ble_eq_true rfl, Nat.le_of_ble_eq_true rfl⟩) (rcv_X4 X hK) X hS (fun _ z => z) rfl hl.1 rfl (Nat.le_of_ble_eq_true rfl) dX4_restore_16 ⟨Nat.zero_le _, Nat.zero_le _⟩ (fun H locs X hS _ _ => ?_)
    show W p l e _ s m _ below meth c H locs 0 0 _ (F0 m 19 ls [])
    refine lv_iconst (v := 0) hx hb dX4_restore_19 (by decide) ?_
    refine lv_istore_n (lv' := [(1, .int 0), (0, .ref b)]) hx hb dX4_restore_20 rfl hl (by decide) rfl (fun ls hl => ?_)
    exact loop21 _ _ _ _ _ _ h X hS (lv_sub hl [1, 0] rfl)
  · have h := ip h c1
    refine lv_bipush (v := (-5)) hx hb dX4_restore_12 (by decide) ?_
    obtain ⟨h, h9⟩ := pr h
    subst h
    subst h9
    exact W.iret hx hb hr (fun t ht _ => ⟨rfl, by rw [ht]; exact X, hS.F ht⟩) hS.2.2 dX4_restore_14

theorem in_X4_inChains : ∀ w ∈ wsX40, w ∈ wsX4_inChains := by decide +kernel
def fX4_inChains_4 : Nat → St → Int32 → Int32 → Int32 → Option (Int32)
  | 0, _, _, _, _ => none
  | n + 1, σ, v1, v2, v3 => if (σ 1 5) ≤ v3 then (some v2) else ((fX4_isInChain σ v1 v3).bind (fun r2 => if r2 = 0 then (fX4_inChains_4 n σ v1 (v2 + 0) (v3 + 1)) else (fX4_inChains_4 n σ v1 (v2 + 1) (v3 + 1))))
theorem fX4_inChains_4_0 (σ : St) (v1 : Int32) (v2 : Int32) (v3 : Int32) : fX4_inChains_4 0 σ v1 v2 v3 = none := rfl
theorem fX4_inChains_4_s (n : Nat) (σ : St) (v1 : Int32) (v2 : Int32) (v3 : Int32) : fX4_inChains_4 (n + 1) σ v1 v2 v3 = (if (σ 1 5) ≤ v3 then (some v2) else ((fX4_isInChain σ v1 v3).bind (fun r2 => if r2 = 0 then (fX4_inChains_4 n σ v1 (v2 + 0) (v3 + 1)) else (fX4_inChains_4 n σ v1 (v2 + 1) (v3 + 1))))) := rfl
def fX4_inChains (σ : St) (p1 : Int32) : Option (Int32) := fX4_inChains_4 1000 σ p1 0 0
set_option maxHeartbeats 4000000 in
set_option maxRecDepth 100000 in
theorem kX4_inChains (l : Launch) (G : Gx) (b : Nat) (σ : St) (p1 : Int32) (r : Int32) (h : fX4_inChains σ p1 = some r) : Met l yX4_inChains wsX4_inChains (rmN 2) (pre G [.ref b, .int p1] (mAt G b σ)) (QcRead r) 0 0 (fun _ => False) := by
  refine Met.ofW (cc := cX4_inChains) (maxL := 4) (ret := (some .int)) (by decide) rfl ?_
  intro p e s m args below meth c s₁ B hml hv
  obtain ⟨rfl, X, hK⟩ := hv
  have hx := B.exec
  have hb := B.bytes
  have hr := B.returns
  have hts := atoms_spec (ws := wsX4_inChains) B.pre
  have hown : s.vm.findClass RX4 = some m.cls := findClass_of_methodNamed B.named
  have hlocks := B.notSynchronized
  have C : Cx p m c cX4_inChains 4 s _ wsX4_inChains RX4 G := ⟨⟨hx, hb, hml, hown, hts⟩, hK⟩
  have hin : ∀ w ∈ wsX40, w ∈ wsX4_inChains := in_X4_inChains
  have hl := lv_entry ([.ref b, .int p1]) (n := 4) (Nat.le_of_ble_eq_true rfl)
  rw [lg_entry_eq]
  generalize (lg_sl ([.ref b, .int p1]) ++ List.replicate (4 - (lg_sl ([.ref b, .int p1])).length) Slot.unset).toArray = ls at hl ⊢
  have hl : lv_has ls 4 [(0, .ref b), (1, .int p1)] := hl
  have loop4 : ∀ (n : Nat) (v1 : Int32) (v2 : Int32) (v3 : Int32) (ls : Array Slot), fX4_inChains_4 n σ v1 v2 v3 = some r → lv_has ls 4 [(0, .ref b), (1, .int v1), (2, .int v2), (3, .int v3)] → W p l e (rmN 2) s m #[Value.ref b, Value.int p1] below meth c s.heap [] 0 0 (MQ below (QcRead r) #[Value.ref b, Value.int p1] s 0 0 (fun _ => False)) (F0 m 4 ls []) := by
    intro n
    induction n with
    | zero =>
      intro v1 v2 v3 ls h hl
      rw [fX4_inChains_4_0] at h
      cases h
    | succ n ih =>
      intro v1 v2 v3 ls h hl
      rw [fX4_inChains_4_s] at h
      refine lv_iload_n hx hb dX4_inChains_4 rfl (lv_at hl 3 rfl) ?_
      refine lv_aload_n hx hb dX4_inChains_5 rfl (lv_at hl 0 rfl) ?_
      refine gt_X4_1 C hin X 1 rfl dX4_inChains_6 ?_
      refine lv_iconst (v := 5) hx hb dX4_inChains_9 (by decide) ?_
      refine al_X4_1 (j := 5) C X rfl (by decide) dX4_inChains_10 ?_
      refine lv_icmp_ge (tgt := 37) hx hb dX4_inChains_11 (by decide) (fun c1 => ?_) (fun c1 => ?_)
      · have h := ip h c1
        refine lv_iload_n hx hb dX4_inChains_37 rfl (lv_at hl 2 rfl) ?_
        have h := so h
        subst h
        exact W.iret hx hb hr (fun t ht _ => ⟨rfl, ht⟩) (fun q h => absurd h List.not_mem_nil) dX4_inChains_38
      · have h := iq h c1
        refine lv_iload_n hx hb dX4_inChains_14 rfl (lv_at hl 2 rfl) ?_
        refine lv_aload_n hx hb dX4_inChains_15 rfl (lv_at hl 0 rfl) ?_
        refine lv_iload_n hx hb dX4_inChains_16 rfl (lv_at hl 1 rfl) ?_
        refine lv_iload_n hx hb dX4_inChains_17 rfl (lv_at hl 3 rfl) ?_
        obtain ⟨r2, hr2, h⟩ := ob h
        refine rowV (As := [.int v1, .int v3]) (rest := [.int v2]) C (kX4_isInChain l G b σ v1 v3 r2 hr2) (cwV 2 hts gX4_inChains_X4_isInChain rfl rfl rfl (by decide +kernel) ⟨Nat.le_of_ble_eq_true rfl, Nat.le_of_ble_eq_true rfl⟩) (rcv_X4 X hK) X rfl hl.1 rfl (Nat.le_of_ble_eq_true rfl) dX4_inChains_18 ⟨Nat.zero_le _, Nat.zero_le _⟩ ?_
        refine lv_if_eq (tgt := 28) hx hb dX4_inChains_21 (by decide) (fun c3 => ?_) (fun c3 => ?_)
        · have h := ip h c3
          refine lv_iconst (v := 0) hx hb dX4_inChains_28 (by decide) ?_
          refine lv_iadd hx hb dX4_inChains_29 ?_
          refine lv_istore_n (lv' := [(2, .int (v2 + 0)), (0, .ref b), (1, .int v1), (3, .int v3)]) hx hb dX4_inChains_30 rfl hl (by decide) rfl (fun ls hl => ?_)
          refine lv_iinc (v := v3 + 1) (lv' := [(3, .int (v3 + 1)), (2, .int (v2 + 0)), (0, .ref b), (1, .int v1)]) hx hb dX4_inChains_31 hl (k := 3) rfl rfl (by decide) rfl (fun ls hl => ?_)
          refine lv_goto (tgt := 4) hx hb dX4_inChains_34 (by decide) ?_
          exact ih _ _ _ _ h (lv_sub hl [2, 3, 1, 0] rfl)
        · have h := iq h c3
          refine lv_iconst (v := 1) hx hb dX4_inChains_24 (by decide) ?_
          refine lv_goto (tgt := 29) hx hb dX4_inChains_25 (by decide) ?_
          refine lv_iadd hx hb dX4_inChains_29 ?_
          refine lv_istore_n (lv' := [(2, .int (v2 + 1)), (0, .ref b), (1, .int v1), (3, .int v3)]) hx hb dX4_inChains_30 rfl hl (by decide) rfl (fun ls hl => ?_)
          refine lv_iinc (v := v3 + 1) (lv' := [(3, .int (v3 + 1)), (2, .int (v2 + 1)), (0, .ref b), (1, .int v1)]) hx hb dX4_inChains_31 hl (k := 3) rfl rfl (by decide) rfl (fun ls hl => ?_)
          refine lv_goto (tgt := 4) hx hb dX4_inChains_34 (by decide) ?_
          exact ih _ _ _ _ h (lv_sub hl [2, 3, 1, 0] rfl)
  unfold fX4_inChains at h
  refine lv_iconst (v := 0) hx hb dX4_inChains_0 (by decide) ?_
  refine lv_istore_n (lv' := [(2, .int 0), (0, .ref b), (1, .int p1)]) hx hb dX4_inChains_1 rfl hl (by decide) rfl (fun ls hl => ?_)
  refine lv_iconst (v := 0) hx hb dX4_inChains_2 (by decide) ?_
  refine lv_istore_n (lv' := [(3, .int 0), (2, .int 0), (0, .ref b), (1, .int p1)]) hx hb dX4_inChains_3 rfl hl (by decide) rfl (fun ls hl => ?_)
  exact loop4 _ _ _ _ _ h (lv_sub hl [2, 3, 1, 0] rfl)

theorem in_X4_whyNot : ∀ w ∈ wsX40, w ∈ wsX4_whyNot := by decide +kernel
def fX4_whyNot_29 : Nat → St → Int32 → Int32 → Int32 → Option (Int32)
  | 0, _, _, _, _ => none
  | n + 1, σ, v1, v2, v3 => if (σ 1 5) ≤ v3 then ((fX4_vouchers σ v1).bind (fun r6 => if r6 = 0 then (some 2) else (if v2 = 0 then (some 3) else (some 4)))) else ((fX4_of σ v3 2).bind (fun r9 => if r9 = v1 then ((fX4_of σ v3 5).bind (fun r11 => if r11 = 1 then (fX4_whyNot_29 n σ v1 (v2 + 1) (v3 + 1)) else (fX4_whyNot_29 n σ v1 (v2 + 0) (v3 + 1)))) else (fX4_whyNot_29 n σ v1 (v2 + 0) (v3 + 1))))
theorem fX4_whyNot_29_0 (σ : St) (v1 : Int32) (v2 : Int32) (v3 : Int32) : fX4_whyNot_29 0 σ v1 v2 v3 = none := rfl
theorem fX4_whyNot_29_s (n : Nat) (σ : St) (v1 : Int32) (v2 : Int32) (v3 : Int32) : fX4_whyNot_29 (n + 1) σ v1 v2 v3 = (if (σ 1 5) ≤ v3 then ((fX4_vouchers σ v1).bind (fun r6 => if r6 = 0 then (some 2) else (if v2 = 0 then (some 3) else (some 4)))) else ((fX4_of σ v3 2).bind (fun r9 => if r9 = v1 then ((fX4_of σ v3 5).bind (fun r11 => if r11 = 1 then (fX4_whyNot_29 n σ v1 (v2 + 1) (v3 + 1)) else (fX4_whyNot_29 n σ v1 (v2 + 0) (v3 + 1)))) else (fX4_whyNot_29 n σ v1 (v2 + 0) (v3 + 1))))) := rfl
def fX4_whyNot (σ : St) (p1 : Int32) : Option (Int32) := (fX4_of σ p1 5).bind (fun r1 => if r1 = 1 then (some 0) else ((fX4_of σ p1 6).bind (fun r3 => if r3 = 1 then (some 1) else (fX4_whyNot_29 1000 σ p1 0 0))))
set_option maxHeartbeats 4000000 in
set_option maxRecDepth 100000 in
theorem kX4_whyNot (l : Launch) (G : Gx) (b : Nat) (σ : St) (p1 : Int32) (r : Int32) (h : fX4_whyNot σ p1 = some r) : Met l yX4_whyNot wsX4_whyNot (rmN 2) (pre G [.ref b, .int p1] (mAt G b σ)) (QcRead r) 0 0 (fun _ => False) := by
  refine Met.ofW (cc := cX4_whyNot) (maxL := 4) (ret := (some .int)) (by decide) rfl ?_
  intro p e s m args below meth c s₁ B hml hv
  obtain ⟨rfl, X, hK⟩ := hv
  have hx := B.exec
  have hb := B.bytes
  have hr := B.returns
  have hts := atoms_spec (ws := wsX4_whyNot) B.pre
  have hown : s.vm.findClass RX4 = some m.cls := findClass_of_methodNamed B.named
  have hlocks := B.notSynchronized
  have C : Cx p m c cX4_whyNot 4 s _ wsX4_whyNot RX4 G := ⟨⟨hx, hb, hml, hown, hts⟩, hK⟩
  have hin : ∀ w ∈ wsX40, w ∈ wsX4_whyNot := in_X4_whyNot
  have hl := lv_entry ([.ref b, .int p1]) (n := 4) (Nat.le_of_ble_eq_true rfl)
  rw [lg_entry_eq]
  generalize (lg_sl ([.ref b, .int p1]) ++ List.replicate (4 - (lg_sl ([.ref b, .int p1])).length) Slot.unset).toArray = ls at hl ⊢
  have hl : lv_has ls 4 [(0, .ref b), (1, .int p1)] := hl
  have loop29 : ∀ (n : Nat) (v1 : Int32) (v2 : Int32) (v3 : Int32) (ls : Array Slot), fX4_whyNot_29 n σ v1 v2 v3 = some r → lv_has ls 4 [(0, .ref b), (1, .int v1), (2, .int v2), (3, .int v3)] → W p l e (rmN 2) s m #[Value.ref b, Value.int p1] below meth c s.heap [] 0 0 (MQ below (QcRead r) #[Value.ref b, Value.int p1] s 0 0 (fun _ => False)) (F0 m 29 ls []) := by
    intro n
    induction n with
    | zero =>
      intro v1 v2 v3 ls h hl
      rw [fX4_whyNot_29_0] at h
      cases h
    | succ n ih =>
      intro v1 v2 v3 ls h hl
      rw [fX4_whyNot_29_s] at h
      refine lv_iload_n hx hb dX4_whyNot_29 rfl (lv_at hl 3 rfl) ?_
      refine lv_aload_n hx hb dX4_whyNot_30 rfl (lv_at hl 0 rfl) ?_
      refine gt_X4_1 C hin X 1 rfl dX4_whyNot_31 ?_
      refine lv_iconst (v := 5) hx hb dX4_whyNot_34 (by decide) ?_
      refine al_X4_1 (j := 5) C X rfl (by decide) dX4_whyNot_35 ?_
      refine lv_icmp_ge (tgt := 73) hx hb dX4_whyNot_36 (by decide) (fun c5 => ?_) (fun c5 => ?_)
      · have h := ip h c5
        refine lv_aload_n hx hb dX4_whyNot_73 rfl (lv_at hl 0 rfl) ?_
        refine lv_iload_n hx hb dX4_whyNot_74 rfl (lv_at hl 1 rfl) ?_
        obtain ⟨r6, hr6, h⟩ := ob h
        refine rowV (As := [.int v1]) (rest := []) C (kX4_vouchers l G b σ v1 r6 hr6) (cwV 1 hts gX4_whyNot_X4_vouchers rfl rfl rfl (by decide +kernel) ⟨Nat.le_of_ble_eq_true rfl, Nat.le_of_ble_eq_true rfl⟩) (rcv_X4 X hK) X rfl hl.1 rfl (Nat.le_of_ble_eq_true rfl) dX4_whyNot_75 ⟨Nat.zero_le _, Nat.zero_le _⟩ ?_
        refine lv_if_ne (tgt := 85) hx hb dX4_whyNot_78 (by decide) (fun c7 => ?_) (fun c7 => ?_)
        · have h := iq h c7
          refine lv_iload_n hx hb dX4_whyNot_85 rfl (lv_at hl 2 rfl) ?_
          refine lv_if_ne (tgt := 93) hx hb dX4_whyNot_86 (by decide) (fun c8 => ?_) (fun c8 => ?_)
          · have h := iq h c8
            refine lv_iconst (v := 4) hx hb dX4_whyNot_93 (by decide) ?_
            have h := so h
            subst h
            exact W.iret hx hb hr (fun t ht _ => ⟨rfl, ht⟩) (fun q h => absurd h List.not_mem_nil) dX4_whyNot_94
          · have h := ip h c8
            refine lv_iconst (v := 3) hx hb dX4_whyNot_89 (by decide) ?_
            refine lv_goto (tgt := 94) hx hb dX4_whyNot_90 (by decide) ?_
            have h := so h
            subst h
            exact W.iret hx hb hr (fun t ht _ => ⟨rfl, ht⟩) (fun q h => absurd h List.not_mem_nil) dX4_whyNot_94
        · have h := ip h c7
          refine lv_iconst (v := 2) hx hb dX4_whyNot_81 (by decide) ?_
          refine lv_goto (tgt := 94) hx hb dX4_whyNot_82 (by decide) ?_
          have h := so h
          subst h
          exact W.iret hx hb hr (fun t ht _ => ⟨rfl, ht⟩) (fun q h => absurd h List.not_mem_nil) dX4_whyNot_94
      · have h := iq h c5
        refine lv_iload_n hx hb dX4_whyNot_39 rfl (lv_at hl 2 rfl) ?_
        refine lv_aload_n hx hb dX4_whyNot_40 rfl (lv_at hl 0 rfl) ?_
        refine lv_iload_n hx hb dX4_whyNot_41 rfl (lv_at hl 3 rfl) ?_
        refine lv_iconst (v := 2) hx hb dX4_whyNot_42 (by decide) ?_
        obtain ⟨r9, hr9, h⟩ := ob h
        refine rowV (As := [.int v3, .int 2]) (rest := [.int v2]) C (kX4_of l G b σ v3 2 r9 hr9) (cwV 2 hts gX4_whyNot_X4_of rfl rfl rfl (by decide +kernel) ⟨Nat.le_of_ble_eq_true rfl, Nat.le_of_ble_eq_true rfl⟩) (rcv_X4 X hK) X rfl hl.1 rfl (Nat.le_of_ble_eq_true rfl) dX4_whyNot_43 ⟨Nat.zero_le _, Nat.zero_le _⟩ ?_
        refine lv_iload_n hx hb dX4_whyNot_46 rfl (lv_at hl 1 rfl) ?_
        refine lv_icmp_ne (tgt := 64) hx hb dX4_whyNot_47 (by decide) (fun c10 => ?_) (fun c10 => ?_)
        · have h := iq h c10
          refine lv_iconst (v := 0) hx hb dX4_whyNot_64 (by decide) ?_
          refine lv_iadd hx hb dX4_whyNot_65 ?_
          refine lv_istore_n (lv' := [(2, .int (v2 + 0)), (0, .ref b), (1, .int v1), (3, .int v3)]) hx hb dX4_whyNot_66 rfl hl (by decide) rfl (fun ls hl => ?_)
          refine lv_iinc (v := v3 + 1) (lv' := [(3, .int (v3 + 1)), (2, .int (v2 + 0)), (0, .ref b), (1, .int v1)]) hx hb dX4_whyNot_67 hl (k := 3) rfl rfl (by decide) rfl (fun ls hl => ?_)
          refine lv_goto (tgt := 29) hx hb dX4_whyNot_70 (by decide) ?_
          exact ih _ _ _ _ h (lv_sub hl [2, 3, 1, 0] rfl)
        · have h := ip h c10
          refine lv_aload_n hx hb dX4_whyNot_50 rfl (lv_at hl 0 rfl) ?_
          refine lv_iload_n hx hb dX4_whyNot_51 rfl (lv_at hl 3 rfl) ?_
          refine lv_iconst (v := 5) hx hb dX4_whyNot_52 (by decide) ?_
          obtain ⟨r11, hr11, h⟩ := ob h
          refine rowV (As := [.int v3, .int 5]) (rest := [.int v2]) C (kX4_of l G b σ v3 5 r11 hr11) (cwV 2 hts gX4_whyNot_X4_of rfl rfl rfl (by decide +kernel) ⟨Nat.le_of_ble_eq_true rfl, Nat.le_of_ble_eq_true rfl⟩) (rcv_X4 X hK) X rfl hl.1 rfl (Nat.le_of_ble_eq_true rfl) dX4_whyNot_53 ⟨Nat.zero_le _, Nat.zero_le _⟩ ?_
          refine lv_iconst (v := 1) hx hb dX4_whyNot_56 (by decide) ?_
          refine lv_icmp_ne (tgt := 64) hx hb dX4_whyNot_57 (by decide) (fun c12 => ?_) (fun c12 => ?_)
          · have h := iq h c12
            refine lv_iconst (v := 0) hx hb dX4_whyNot_64 (by decide) ?_
            refine lv_iadd hx hb dX4_whyNot_65 ?_
            refine lv_istore_n (lv' := [(2, .int (v2 + 0)), (0, .ref b), (1, .int v1), (3, .int v3)]) hx hb dX4_whyNot_66 rfl hl (by decide) rfl (fun ls hl => ?_)
            refine lv_iinc (v := v3 + 1) (lv' := [(3, .int (v3 + 1)), (2, .int (v2 + 0)), (0, .ref b), (1, .int v1)]) hx hb dX4_whyNot_67 hl (k := 3) rfl rfl (by decide) rfl (fun ls hl => ?_)
            refine lv_goto (tgt := 29) hx hb dX4_whyNot_70 (by decide) ?_
            exact ih _ _ _ _ h (lv_sub hl [2, 3, 1, 0] rfl)
          · have h := ip h c12
            refine lv_iconst (v := 1) hx hb dX4_whyNot_60 (by decide) ?_
            refine lv_goto (tgt := 65) hx hb dX4_whyNot_61 (by decide) ?_
            refine lv_iadd hx hb dX4_whyNot_65 ?_
            refine lv_istore_n (lv' := [(2, .int (v2 + 1)), (0, .ref b), (1, .int v1), (3, .int v3)]) hx hb dX4_whyNot_66 rfl hl (by decide) rfl (fun ls hl => ?_)
            refine lv_iinc (v := v3 + 1) (lv' := [(3, .int (v3 + 1)), (2, .int (v2 + 1)), (0, .ref b), (1, .int v1)]) hx hb dX4_whyNot_67 hl (k := 3) rfl rfl (by decide) rfl (fun ls hl => ?_)
            refine lv_goto (tgt := 29) hx hb dX4_whyNot_70 (by decide) ?_
            exact ih _ _ _ _ h (lv_sub hl [2, 3, 1, 0] rfl)
  unfold fX4_whyNot at h
  refine lv_aload_n hx hb dX4_whyNot_0 rfl (lv_at hl 0 rfl) ?_
  refine lv_iload_n hx hb dX4_whyNot_1 rfl (lv_at hl 1 rfl) ?_
  refine lv_iconst (v := 5) hx hb dX4_whyNot_2 (by decide) ?_
  obtain ⟨r1, hr1, h⟩ := ob h
  refine rowV (As := [.int p1, .int 5]) (rest := []) C (kX4_of l G b σ p1 5 r1 hr1) (cwV 2 hts gX4_whyNot_X4_of rfl rfl rfl (by decide +kernel) ⟨Nat.le_of_ble_eq_true rfl, Nat.le_of_ble_eq_true rfl⟩) (rcv_X4 X hK) X rfl hl.1 rfl (Nat.le_of_ble_eq_true rfl) dX4_whyNot_3 ⟨Nat.zero_le _, Nat.zero_le _⟩ ?_
  refine lv_iconst (v := 1) hx hb dX4_whyNot_6 (by decide) ?_
  refine lv_icmp_ne (tgt := 12) hx hb dX4_whyNot_7 (by decide) (fun c2 => ?_) (fun c2 => ?_)
  · have h := iq h c2
    refine lv_aload_n hx hb dX4_whyNot_12 rfl (lv_at hl 0 rfl) ?_
    refine lv_iload_n hx hb dX4_whyNot_13 rfl (lv_at hl 1 rfl) ?_
    refine lv_bipush (v := 6) hx hb dX4_whyNot_14 (by decide) ?_
    obtain ⟨r3, hr3, h⟩ := ob h
    refine rowV (As := [.int p1, .int 6]) (rest := []) C (kX4_of l G b σ p1 6 r3 hr3) (cwV 2 hts gX4_whyNot_X4_of rfl rfl rfl (by decide +kernel) ⟨Nat.le_of_ble_eq_true rfl, Nat.le_of_ble_eq_true rfl⟩) (rcv_X4 X hK) X rfl hl.1 rfl (Nat.le_of_ble_eq_true rfl) dX4_whyNot_16 ⟨Nat.zero_le _, Nat.zero_le _⟩ ?_
    refine lv_iconst (v := 1) hx hb dX4_whyNot_19 (by decide) ?_
    refine lv_icmp_ne (tgt := 25) hx hb dX4_whyNot_20 (by decide) (fun c4 => ?_) (fun c4 => ?_)
    · have h := iq h c4
      refine lv_iconst (v := 0) hx hb dX4_whyNot_25 (by decide) ?_
      refine lv_istore_n (lv' := [(2, .int 0), (0, .ref b), (1, .int p1)]) hx hb dX4_whyNot_26 rfl hl (by decide) rfl (fun ls hl => ?_)
      refine lv_iconst (v := 0) hx hb dX4_whyNot_27 (by decide) ?_
      refine lv_istore_n (lv' := [(3, .int 0), (2, .int 0), (0, .ref b), (1, .int p1)]) hx hb dX4_whyNot_28 rfl hl (by decide) rfl (fun ls hl => ?_)
      exact loop29 _ _ _ _ _ h (lv_sub hl [2, 3, 1, 0] rfl)
    · have h := ip h c4
      refine lv_iconst (v := 1) hx hb dX4_whyNot_23 (by decide) ?_
      have h := so h
      subst h
      exact W.iret hx hb hr (fun t ht _ => ⟨rfl, ht⟩) (fun q h => absurd h List.not_mem_nil) dX4_whyNot_24
  · have h := ip h c2
    refine lv_iconst (v := 0) hx hb dX4_whyNot_10 (by decide) ?_
    have h := so h
    subst h
    exact W.iret hx hb hr (fun t ht _ => ⟨rfl, ht⟩) (fun q h => absurd h List.not_mem_nil) dX4_whyNot_11

theorem in_X4_cart : ∀ w ∈ wsX40, w ∈ wsX4_cart := by decide +kernel
def fX4_cart (σ : St) (p1 : Int32) (p2 : Int32) : Option (Int32 × St) := (fX4_isCart (up σ 0 0 0) p1).bind (fun r1 => if r1 = 0 then (some ((-1), up σ 0 0 0)) else (if p2 = 0 then ((fX4_of (up σ 0 0 0) p1 0).bind (fun r4 => some (r4, up σ 0 0 0))) else if p2 = 1 then ((fX4_of (up σ 0 0 0) p1 4).bind (fun r6 => if r6 = 1 then ((fX4_of (up σ 0 0 0) p1 1).bind (fun r8 => some (r8, up σ 0 0 0))) else (some ((-5), up σ 0 0 0)))) else if p2 = 2 then ((fX4_of (up σ 0 0 0) p1 2).bind (fun r10 => if 0 ≤ r10 then ((fX4_of (up σ 0 0 0) p1 2).bind (fun r12 => some (r12, up σ 0 0 0))) else (some ((-5), up σ 0 0 0)))) else if p2 = 3 then ((fX4_of (up σ 0 0 0) p1 3).bind (fun r14 => some (r14, up σ 0 0 0))) else if p2 = 4 then ((fX4_rightSeal (up σ 0 0 0) p1).bind (fun r16 => some (r16, up σ 0 0 0))) else if p2 = 5 then ((fX4_isWhole (up σ 0 0 0) p1).bind (fun r18 => if r18 = 0 then (some (0, up σ 0 0 0)) else (some (1, up σ 0 0 0)))) else if p2 = 6 then ((fX4_of (up σ 0 0 0) p1 4).bind (fun r21 => some (r21, up σ 0 0 0))) else if p2 = 7 then ((fX4_of (up σ 0 0 0) p1 5).bind (fun r23 => some (r23, up σ 0 0 0))) else if p2 = 8 then ((fX4_of (up σ 0 0 0) p1 7).bind (fun r25 => some (r25, up σ 0 0 0))) else if p2 = 9 then ((fX4_depth (up σ 0 0 0) p1).bind (fun r27 => some (r27, up σ 0 0 0))) else if p2 = 10 then ((fX4_vouchers (up σ 0 0 0) p1).bind (fun r29 => some (r29, up σ 0 0 0))) else if p2 = 11 then ((fX4_inChains (up σ 0 0 0) p1).bind (fun r31 => some (r31, up σ 0 0 0))) else if p2 = 12 then ((fX4_whyNot (up σ 0 0 0) p1).bind (fun r33 => some (r33, up σ 0 0 0))) else (some ((-2), up σ 0 0 0))))
set_option maxHeartbeats 4000000 in
set_option maxRecDepth 100000 in
theorem kX4_cart (l : Launch) (G : Gx) (b : Nat) (σ : St) (p1 : Int32) (p2 : Int32) (r : Int32) (σ' : St) (h : fX4_cart σ p1 p2 = some (r, σ')) : Met l yX4_cart wsX4_cart (rmN 4) (pre G [.ref b, .int p1, .int p2] (mAt G b σ)) (QcW b (b + 7) (mAt G b σ') (some (.int r))) 0 0 (lw_Fr b (b + 7)) := by
  refine Met.ofW (cc := cX4_cart) (maxL := 3) (ret := (some .int)) (by decide) rfl ?_
  intro p e s m args below meth c s₁ B hml hv
  obtain ⟨rfl, X, hK⟩ := hv
  have hx := B.exec
  have hb := B.bytes
  have hr := B.returns
  have hts := atoms_spec (ws := wsX4_cart) B.pre
  have hown : s.vm.findClass RX4 = some m.cls := findClass_of_methodNamed B.named
  have hlocks := B.notSynchronized
  have C : Cx p m c cX4_cart 3 s _ wsX4_cart RX4 G := ⟨⟨hx, hb, hml, hown, hts⟩, hK⟩
  have hin : ∀ w ∈ wsX40, w ∈ wsX4_cart := in_X4_cart
  have hS : va_S (lw_Fr b (b + 7)) s.heap s.heap [] := va_S.rf
  have hl := lv_entry ([.ref b, .int p1, .int p2]) (n := 3) (Nat.le_of_ble_eq_true rfl)
  rw [lg_entry_eq]
  generalize (lg_sl ([.ref b, .int p1, .int p2]) ++ List.replicate (3 - (lg_sl ([.ref b, .int p1, .int p2])).length) Slot.unset).toArray = ls at hl ⊢
  have hl : lv_has ls 3 [(0, .ref b), (1, .int p1), (2, .int p2)] := hl
  unfold fX4_cart at h
  refine lv_aload_n hx hb dX4_cart_0 rfl (lv_at hl 0 rfl) ?_
  refine lv_iconst (v := 0) hx hb dX4_cart_1 (by decide) ?_
  refine pt_X4_0 C hin X hS 1 rfl dX4_cart_2 (fun H locs X hS => ?_)
  refine lv_aload_n hx hb dX4_cart_5 rfl (lv_at hl 0 rfl) ?_
  refine lv_iload_n hx hb dX4_cart_6 rfl (lv_at hl 1 rfl) ?_
  obtain ⟨r1, hr1, h⟩ := ob h
  refine rowV (As := [.int p1]) (rest := []) C (kX4_isCart l G b (up σ 0 0 0) p1 r1 hr1) (cwV 1 hts gX4_cart_X4_isCart rfl rfl rfl (by decide +kernel) ⟨Nat.le_of_ble_eq_true rfl, Nat.le_of_ble_eq_true rfl⟩) (rcv_X4 X hK) X rfl hl.1 rfl (Nat.le_of_ble_eq_true rfl) dX4_cart_7 ⟨Nat.zero_le _, Nat.zero_le _⟩ ?_
  refine lv_if_ne (tgt := 15) hx hb dX4_cart_10 (by decide) (fun c2 => ?_) (fun c2 => ?_)
  · have h := iq h c2
    refine lv_iload_n hx hb dX4_cart_15 rfl (lv_at hl 2 rfl) ?_
    by_cases c3 : p2 = 0
    · have h := ip h c3
      refine rowTab (K := 0) (off := 68) (tgt := 84) hx hb c3 dX4_cart_16 (by decide) (by decide) (by decide) (by decide) ?_
      refine lv_aload_n hx hb dX4_cart_84 rfl (lv_at hl 0 rfl) ?_
      refine lv_iload_n hx hb dX4_cart_85 rfl (lv_at hl 1 rfl) ?_
      refine lv_iconst (v := 0) hx hb dX4_cart_86 (by decide) ?_
      obtain ⟨r4, hr4, h⟩ := ob h
      refine rowV (As := [.int p1, .int 0]) (rest := []) C (kX4_of l G b (up σ 0 0 0) p1 0 r4 hr4) (cwV 2 hts gX4_cart_X4_of rfl rfl rfl (by decide +kernel) ⟨Nat.le_of_ble_eq_true rfl, Nat.le_of_ble_eq_true rfl⟩) (rcv_X4 X hK) X rfl hl.1 rfl (Nat.le_of_ble_eq_true rfl) dX4_cart_87 ⟨Nat.zero_le _, Nat.zero_le _⟩ ?_
      obtain ⟨h, h9⟩ := pr h
      subst h
      subst h9
      exact W.iret hx hb hr (fun t ht _ => ⟨rfl, by rw [ht]; exact X, hS.F ht⟩) hS.2.2 dX4_cart_90
    · have h := iq h c3
      by_cases c5 : p2 = 1
      · have h := ip h c5
        refine rowTab (K := 1) (off := 75) (tgt := 91) hx hb c5 dX4_cart_16 (by decide) (by decide) (by decide) (by decide) ?_
        refine lv_aload_n hx hb dX4_cart_91 rfl (lv_at hl 0 rfl) ?_
        refine lv_iload_n hx hb dX4_cart_92 rfl (lv_at hl 1 rfl) ?_
        refine lv_iconst (v := 4) hx hb dX4_cart_93 (by decide) ?_
        obtain ⟨r6, hr6, h⟩ := ob h
        refine rowV (As := [.int p1, .int 4]) (rest := []) C (kX4_of l G b (up σ 0 0 0) p1 4 r6 hr6) (cwV 2 hts gX4_cart_X4_of rfl rfl rfl (by decide +kernel) ⟨Nat.le_of_ble_eq_true rfl, Nat.le_of_ble_eq_true rfl⟩) (rcv_X4 X hK) X rfl hl.1 rfl (Nat.le_of_ble_eq_true rfl) dX4_cart_94 ⟨Nat.zero_le _, Nat.zero_le _⟩ ?_
        refine lv_iconst (v := 1) hx hb dX4_cart_97 (by decide) ?_
        refine lv_icmp_ne (tgt := 110) hx hb dX4_cart_98 (by decide) (fun c7 => ?_) (fun c7 => ?_)
        · have h := iq h c7
          refine lv_bipush (v := (-5)) hx hb dX4_cart_110 (by decide) ?_
          obtain ⟨h, h9⟩ := pr h
          subst h
          subst h9
          exact W.iret hx hb hr (fun t ht _ => ⟨rfl, by rw [ht]; exact X, hS.F ht⟩) hS.2.2 dX4_cart_112
        · have h := ip h c7
          refine lv_aload_n hx hb dX4_cart_101 rfl (lv_at hl 0 rfl) ?_
          refine lv_iload_n hx hb dX4_cart_102 rfl (lv_at hl 1 rfl) ?_
          refine lv_iconst (v := 1) hx hb dX4_cart_103 (by decide) ?_
          obtain ⟨r8, hr8, h⟩ := ob h
          refine rowV (As := [.int p1, .int 1]) (rest := []) C (kX4_of l G b (up σ 0 0 0) p1 1 r8 hr8) (cwV 2 hts gX4_cart_X4_of rfl rfl rfl (by decide +kernel) ⟨Nat.le_of_ble_eq_true rfl, Nat.le_of_ble_eq_true rfl⟩) (rcv_X4 X hK) X rfl hl.1 rfl (Nat.le_of_ble_eq_true rfl) dX4_cart_104 ⟨Nat.zero_le _, Nat.zero_le _⟩ ?_
          refine lv_goto (tgt := 112) hx hb dX4_cart_107 (by decide) ?_
          obtain ⟨h, h9⟩ := pr h
          subst h
          subst h9
          exact W.iret hx hb hr (fun t ht _ => ⟨rfl, by rw [ht]; exact X, hS.F ht⟩) hS.2.2 dX4_cart_112
      · have h := iq h c5
        by_cases c9 : p2 = 2
        · have h := ip h c9
          refine rowTab (K := 2) (off := 97) (tgt := 113) hx hb c9 dX4_cart_16 (by decide) (by decide) (by decide) (by decide) ?_
          refine lv_aload_n hx hb dX4_cart_113 rfl (lv_at hl 0 rfl) ?_
          refine lv_iload_n hx hb dX4_cart_114 rfl (lv_at hl 1 rfl) ?_
          refine lv_iconst (v := 2) hx hb dX4_cart_115 (by decide) ?_
          obtain ⟨r10, hr10, h⟩ := ob h
          refine rowV (As := [.int p1, .int 2]) (rest := []) C (kX4_of l G b (up σ 0 0 0) p1 2 r10 hr10) (cwV 2 hts gX4_cart_X4_of rfl rfl rfl (by decide +kernel) ⟨Nat.le_of_ble_eq_true rfl, Nat.le_of_ble_eq_true rfl⟩) (rcv_X4 X hK) X rfl hl.1 rfl (Nat.le_of_ble_eq_true rfl) dX4_cart_116 ⟨Nat.zero_le _, Nat.zero_le _⟩ ?_
          refine lv_if_ge (tgt := 127) hx hb dX4_cart_119 (by decide) (fun c11 => ?_) (fun c11 => ?_)
          · have h := ip h c11
            refine lv_aload_n hx hb dX4_cart_127 rfl (lv_at hl 0 rfl) ?_
            refine lv_iload_n hx hb dX4_cart_128 rfl (lv_at hl 1 rfl) ?_
            refine lv_iconst (v := 2) hx hb dX4_cart_129 (by decide) ?_
            obtain ⟨r12, hr12, h⟩ := ob h
            refine rowV (As := [.int p1, .int 2]) (rest := []) C (kX4_of l G b (up σ 0 0 0) p1 2 r12 hr12) (cwV 2 hts gX4_cart_X4_of rfl rfl rfl (by decide +kernel) ⟨Nat.le_of_ble_eq_true rfl, Nat.le_of_ble_eq_true rfl⟩) (rcv_X4 X hK) X rfl hl.1 rfl (Nat.le_of_ble_eq_true rfl) dX4_cart_130 ⟨Nat.zero_le _, Nat.zero_le _⟩ ?_
            obtain ⟨h, h9⟩ := pr h
            subst h
            subst h9
            exact W.iret hx hb hr (fun t ht _ => ⟨rfl, by rw [ht]; exact X, hS.F ht⟩) hS.2.2 dX4_cart_133
          · have h := iq h c11
            refine lv_bipush (v := (-5)) hx hb dX4_cart_122 (by decide) ?_
            refine lv_goto (tgt := 133) hx hb dX4_cart_124 (by decide) ?_
            obtain ⟨h, h9⟩ := pr h
            subst h
            subst h9
            exact W.iret hx hb hr (fun t ht _ => ⟨rfl, by rw [ht]; exact X, hS.F ht⟩) hS.2.2 dX4_cart_133
        · have h := iq h c9
          by_cases c13 : p2 = 3
          · have h := ip h c13
            refine rowTab (K := 3) (off := 118) (tgt := 134) hx hb c13 dX4_cart_16 (by decide) (by decide) (by decide) (by decide) ?_
            refine lv_aload_n hx hb dX4_cart_134 rfl (lv_at hl 0 rfl) ?_
            refine lv_iload_n hx hb dX4_cart_135 rfl (lv_at hl 1 rfl) ?_
            refine lv_iconst (v := 3) hx hb dX4_cart_136 (by decide) ?_
            obtain ⟨r14, hr14, h⟩ := ob h
            refine rowV (As := [.int p1, .int 3]) (rest := []) C (kX4_of l G b (up σ 0 0 0) p1 3 r14 hr14) (cwV 2 hts gX4_cart_X4_of rfl rfl rfl (by decide +kernel) ⟨Nat.le_of_ble_eq_true rfl, Nat.le_of_ble_eq_true rfl⟩) (rcv_X4 X hK) X rfl hl.1 rfl (Nat.le_of_ble_eq_true rfl) dX4_cart_137 ⟨Nat.zero_le _, Nat.zero_le _⟩ ?_
            obtain ⟨h, h9⟩ := pr h
            subst h
            subst h9
            exact W.iret hx hb hr (fun t ht _ => ⟨rfl, by rw [ht]; exact X, hS.F ht⟩) hS.2.2 dX4_cart_140
          · have h := iq h c13
            by_cases c15 : p2 = 4
            · have h := ip h c15
              refine rowTab (K := 4) (off := 125) (tgt := 141) hx hb c15 dX4_cart_16 (by decide) (by decide) (by decide) (by decide) ?_
              refine lv_aload_n hx hb dX4_cart_141 rfl (lv_at hl 0 rfl) ?_
              refine lv_iload_n hx hb dX4_cart_142 rfl (lv_at hl 1 rfl) ?_
              obtain ⟨r16, hr16, h⟩ := ob h
              refine rowV (As := [.int p1]) (rest := []) C (kX4_rightSeal l G b (up σ 0 0 0) p1 r16 hr16) (cwV 1 hts gX4_cart_X4_rightSeal rfl rfl rfl (by decide +kernel) ⟨Nat.le_of_ble_eq_true rfl, Nat.le_of_ble_eq_true rfl⟩) (rcv_X4 X hK) X rfl hl.1 rfl (Nat.le_of_ble_eq_true rfl) dX4_cart_143 ⟨Nat.zero_le _, Nat.zero_le _⟩ ?_
              obtain ⟨h, h9⟩ := pr h
              subst h
              subst h9
              exact W.iret hx hb hr (fun t ht _ => ⟨rfl, by rw [ht]; exact X, hS.F ht⟩) hS.2.2 dX4_cart_146
            · have h := iq h c15
              by_cases c17 : p2 = 5
              · have h := ip h c17
                refine rowTab (K := 5) (off := 131) (tgt := 147) hx hb c17 dX4_cart_16 (by decide) (by decide) (by decide) (by decide) ?_
                refine lv_aload_n hx hb dX4_cart_147 rfl (lv_at hl 0 rfl) ?_
                refine lv_iload_n hx hb dX4_cart_148 rfl (lv_at hl 1 rfl) ?_
                obtain ⟨r18, hr18, h⟩ := ob h
                refine rowV (As := [.int p1]) (rest := []) C (kX4_isWhole l G b (up σ 0 0 0) p1 r18 hr18) (cwV 1 hts gX4_cart_X4_isWhole rfl rfl rfl (by decide +kernel) ⟨Nat.le_of_ble_eq_true rfl, Nat.le_of_ble_eq_true rfl⟩) (rcv_X4 X hK) X rfl hl.1 rfl (Nat.le_of_ble_eq_true rfl) dX4_cart_149 ⟨Nat.zero_le _, Nat.zero_le _⟩ ?_
                refine lv_if_eq (tgt := 159) hx hb dX4_cart_152 (by decide) (fun c19 => ?_) (fun c19 => ?_)
                · have h := ip h c19
                  refine lv_iconst (v := 0) hx hb dX4_cart_159 (by decide) ?_
                  obtain ⟨h, h9⟩ := pr h
                  subst h
                  subst h9
                  exact W.iret hx hb hr (fun t ht _ => ⟨rfl, by rw [ht]; exact X, hS.F ht⟩) hS.2.2 dX4_cart_160
                · have h := iq h c19
                  refine lv_iconst (v := 1) hx hb dX4_cart_155 (by decide) ?_
                  refine lv_goto (tgt := 160) hx hb dX4_cart_156 (by decide) ?_
                  obtain ⟨h, h9⟩ := pr h
                  subst h
                  subst h9
                  exact W.iret hx hb hr (fun t ht _ => ⟨rfl, by rw [ht]; exact X, hS.F ht⟩) hS.2.2 dX4_cart_160
              · have h := iq h c17
                by_cases c20 : p2 = 6
                · have h := ip h c20
                  refine rowTab (K := 6) (off := 145) (tgt := 161) hx hb c20 dX4_cart_16 (by decide) (by decide) (by decide) (by decide) ?_
                  refine lv_aload_n hx hb dX4_cart_161 rfl (lv_at hl 0 rfl) ?_
                  refine lv_iload_n hx hb dX4_cart_162 rfl (lv_at hl 1 rfl) ?_
                  refine lv_iconst (v := 4) hx hb dX4_cart_163 (by decide) ?_
                  obtain ⟨r21, hr21, h⟩ := ob h
                  refine rowV (As := [.int p1, .int 4]) (rest := []) C (kX4_of l G b (up σ 0 0 0) p1 4 r21 hr21) (cwV 2 hts gX4_cart_X4_of rfl rfl rfl (by decide +kernel) ⟨Nat.le_of_ble_eq_true rfl, Nat.le_of_ble_eq_true rfl⟩) (rcv_X4 X hK) X rfl hl.1 rfl (Nat.le_of_ble_eq_true rfl) dX4_cart_164 ⟨Nat.zero_le _, Nat.zero_le _⟩ ?_
                  obtain ⟨h, h9⟩ := pr h
                  subst h
                  subst h9
                  exact W.iret hx hb hr (fun t ht _ => ⟨rfl, by rw [ht]; exact X, hS.F ht⟩) hS.2.2 dX4_cart_167
                · have h := iq h c20
                  by_cases c22 : p2 = 7
                  · have h := ip h c22
                    refine rowTab (K := 7) (off := 152) (tgt := 168) hx hb c22 dX4_cart_16 (by decide) (by decide) (by decide) (by decide) ?_
                    refine lv_aload_n hx hb dX4_cart_168 rfl (lv_at hl 0 rfl) ?_
                    refine lv_iload_n hx hb dX4_cart_169 rfl (lv_at hl 1 rfl) ?_
                    refine lv_iconst (v := 5) hx hb dX4_cart_170 (by decide) ?_
                    obtain ⟨r23, hr23, h⟩ := ob h
                    refine rowV (As := [.int p1, .int 5]) (rest := []) C (kX4_of l G b (up σ 0 0 0) p1 5 r23 hr23) (cwV 2 hts gX4_cart_X4_of rfl rfl rfl (by decide +kernel) ⟨Nat.le_of_ble_eq_true rfl, Nat.le_of_ble_eq_true rfl⟩) (rcv_X4 X hK) X rfl hl.1 rfl (Nat.le_of_ble_eq_true rfl) dX4_cart_171 ⟨Nat.zero_le _, Nat.zero_le _⟩ ?_
                    obtain ⟨h, h9⟩ := pr h
                    subst h
                    subst h9
                    exact W.iret hx hb hr (fun t ht _ => ⟨rfl, by rw [ht]; exact X, hS.F ht⟩) hS.2.2 dX4_cart_174
                  · have h := iq h c22
                    by_cases c24 : p2 = 8
                    · have h := ip h c24
                      refine rowTab (K := 8) (off := 159) (tgt := 175) hx hb c24 dX4_cart_16 (by decide) (by decide) (by decide) (by decide) ?_
                      refine lv_aload_n hx hb dX4_cart_175 rfl (lv_at hl 0 rfl) ?_
                      refine lv_iload_n hx hb dX4_cart_176 rfl (lv_at hl 1 rfl) ?_
                      refine lv_bipush (v := 7) hx hb dX4_cart_177 (by decide) ?_
                      obtain ⟨r25, hr25, h⟩ := ob h
                      refine rowV (As := [.int p1, .int 7]) (rest := []) C (kX4_of l G b (up σ 0 0 0) p1 7 r25 hr25) (cwV 2 hts gX4_cart_X4_of rfl rfl rfl (by decide +kernel) ⟨Nat.le_of_ble_eq_true rfl, Nat.le_of_ble_eq_true rfl⟩) (rcv_X4 X hK) X rfl hl.1 rfl (Nat.le_of_ble_eq_true rfl) dX4_cart_179 ⟨Nat.zero_le _, Nat.zero_le _⟩ ?_
                      obtain ⟨h, h9⟩ := pr h
                      subst h
                      subst h9
                      exact W.iret hx hb hr (fun t ht _ => ⟨rfl, by rw [ht]; exact X, hS.F ht⟩) hS.2.2 dX4_cart_182
                    · have h := iq h c24
                      by_cases c26 : p2 = 9
                      · have h := ip h c26
                        refine rowTab (K := 9) (off := 167) (tgt := 183) hx hb c26 dX4_cart_16 (by decide) (by decide) (by decide) (by decide) ?_
                        refine lv_aload_n hx hb dX4_cart_183 rfl (lv_at hl 0 rfl) ?_
                        refine lv_iload_n hx hb dX4_cart_184 rfl (lv_at hl 1 rfl) ?_
                        obtain ⟨r27, hr27, h⟩ := ob h
                        refine rowV (As := [.int p1]) (rest := []) C (kX4_depth l G b (up σ 0 0 0) p1 r27 hr27) (cwV 1 hts gX4_cart_X4_depth rfl rfl rfl (by decide +kernel) ⟨Nat.le_of_ble_eq_true rfl, Nat.le_of_ble_eq_true rfl⟩) (rcv_X4 X hK) X rfl hl.1 rfl (Nat.le_of_ble_eq_true rfl) dX4_cart_185 ⟨Nat.zero_le _, Nat.zero_le _⟩ ?_
                        obtain ⟨h, h9⟩ := pr h
                        subst h
                        subst h9
                        exact W.iret hx hb hr (fun t ht _ => ⟨rfl, by rw [ht]; exact X, hS.F ht⟩) hS.2.2 dX4_cart_188
                      · have h := iq h c26
                        by_cases c28 : p2 = 10
                        · have h := ip h c28
                          refine rowTab (K := 10) (off := 173) (tgt := 189) hx hb c28 dX4_cart_16 (by decide) (by decide) (by decide) (by decide) ?_
                          refine lv_aload_n hx hb dX4_cart_189 rfl (lv_at hl 0 rfl) ?_
                          refine lv_iload_n hx hb dX4_cart_190 rfl (lv_at hl 1 rfl) ?_
                          obtain ⟨r29, hr29, h⟩ := ob h
                          refine rowV (As := [.int p1]) (rest := []) C (kX4_vouchers l G b (up σ 0 0 0) p1 r29 hr29) (cwV 1 hts gX4_cart_X4_vouchers rfl rfl rfl (by decide +kernel) ⟨Nat.le_of_ble_eq_true rfl, Nat.le_of_ble_eq_true rfl⟩) (rcv_X4 X hK) X rfl hl.1 rfl (Nat.le_of_ble_eq_true rfl) dX4_cart_191 ⟨Nat.zero_le _, Nat.zero_le _⟩ ?_
                          obtain ⟨h, h9⟩ := pr h
                          subst h
                          subst h9
                          exact W.iret hx hb hr (fun t ht _ => ⟨rfl, by rw [ht]; exact X, hS.F ht⟩) hS.2.2 dX4_cart_194
                        · have h := iq h c28
                          by_cases c30 : p2 = 11
                          · have h := ip h c30
                            refine rowTab (K := 11) (off := 179) (tgt := 195) hx hb c30 dX4_cart_16 (by decide) (by decide) (by decide) (by decide) ?_
                            refine lv_aload_n hx hb dX4_cart_195 rfl (lv_at hl 0 rfl) ?_
                            refine lv_iload_n hx hb dX4_cart_196 rfl (lv_at hl 1 rfl) ?_
                            obtain ⟨r31, hr31, h⟩ := ob h
                            refine rowV (As := [.int p1]) (rest := []) C (kX4_inChains l G b (up σ 0 0 0) p1 r31 hr31) (cwV 1 hts gX4_cart_X4_inChains rfl rfl rfl (by decide +kernel) ⟨Nat.le_of_ble_eq_true rfl, Nat.le_of_ble_eq_true rfl⟩) (rcv_X4 X hK) X rfl hl.1 rfl (Nat.le_of_ble_eq_true rfl) dX4_cart_197 ⟨Nat.zero_le _, Nat.zero_le _⟩ ?_
                            obtain ⟨h, h9⟩ := pr h
                            subst h
                            subst h9
                            exact W.iret hx hb hr (fun t ht _ => ⟨rfl, by rw [ht]; exact X, hS.F ht⟩) hS.2.2 dX4_cart_200
                          · have h := iq h c30
                            by_cases c32 : p2 = 12
                            · have h := ip h c32
                              refine rowTab (K := 12) (off := 185) (tgt := 201) hx hb c32 dX4_cart_16 (by decide) (by decide) (by decide) (by decide) ?_
                              refine lv_aload_n hx hb dX4_cart_201 rfl (lv_at hl 0 rfl) ?_
                              refine lv_iload_n hx hb dX4_cart_202 rfl (lv_at hl 1 rfl) ?_
                              obtain ⟨r33, hr33, h⟩ := ob h
                              refine rowV (As := [.int p1]) (rest := []) C (kX4_whyNot l G b (up σ 0 0 0) p1 r33 hr33) (cwV 1 hts gX4_cart_X4_whyNot rfl rfl rfl (by decide +kernel) ⟨Nat.le_of_ble_eq_true rfl, Nat.le_of_ble_eq_true rfl⟩) (rcv_X4 X hK) X rfl hl.1 rfl (Nat.le_of_ble_eq_true rfl) dX4_cart_203 ⟨Nat.zero_le _, Nat.zero_le _⟩ ?_
                              obtain ⟨h, h9⟩ := pr h
                              subst h
                              subst h9
                              exact W.iret hx hb hr (fun t ht _ => ⟨rfl, by rw [ht]; exact X, hS.F ht⟩) hS.2.2 dX4_cart_206
                            · have h := iq h c32
                              have c3t : ¬ p2.toInt = 0 := lv_neT c3 (by decide)
                              have c5t : ¬ p2.toInt = 1 := lv_neT c5 (by decide)
                              have c9t : ¬ p2.toInt = 2 := lv_neT c9 (by decide)
                              have c13t : ¬ p2.toInt = 3 := lv_neT c13 (by decide)
                              have c15t : ¬ p2.toInt = 4 := lv_neT c15 (by decide)
                              have c17t : ¬ p2.toInt = 5 := lv_neT c17 (by decide)
                              have c20t : ¬ p2.toInt = 6 := lv_neT c20 (by decide)
                              have c22t : ¬ p2.toInt = 7 := lv_neT c22 (by decide)
                              have c24t : ¬ p2.toInt = 8 := lv_neT c24 (by decide)
                              have c26t : ¬ p2.toInt = 9 := lv_neT c26 (by decide)
                              have c28t : ¬ p2.toInt = 10 := lv_neT c28 (by decide)
                              have c30t : ¬ p2.toInt = 11 := lv_neT c30 (by decide)
                              have c32t : ¬ p2.toInt = 12 := lv_neT c32 (by decide)
                              refine lv_tableOut (tgt := 207) hx hb dX4_cart_16 (by omega) (by decide) ?_
                              refine lv_bipush (v := (-2)) hx hb dX4_cart_207 (by decide) ?_
                              obtain ⟨h, h9⟩ := pr h
                              subst h
                              subst h9
                              exact W.iret hx hb hr (fun t ht _ => ⟨rfl, by rw [ht]; exact X, hS.F ht⟩) hS.2.2 dX4_cart_209
  · have h := ip h c2
    refine lv_iconst (v := (-1)) hx hb dX4_cart_13 (by decide) ?_
    obtain ⟨h, h9⟩ := pr h
    subst h
    subst h9
    exact W.iret hx hb hr (fun t ht _ => ⟨rfl, by rw [ht]; exact X, hS.F ht⟩) hS.2.2 dX4_cart_14

theorem in_X4_chain : ∀ w ∈ wsX40, w ∈ wsX4_chain := by decide +kernel
def fX4_chain_27 : Nat → St → Int32 → Int32 → Int32 → Int32 → Option (Int32 × St)
  | 0, _, _, _, _, _ => none
  | n + 1, σ, v1, v2, v3, v4 => if v2 ≤ v4 then (if 0 ≤ v3 then (some (v3, σ)) else (some ((-5), σ))) else (if v3 < 0 then (if 0 ≤ v3 then (some (v3, σ)) else (some ((-5), σ))) else ((fX4_of σ v3 2).bind (fun r8 => fX4_chain_27 n σ v1 v2 r8 (v4 + 1))))
theorem fX4_chain_27_0 (σ : St) (v1 : Int32) (v2 : Int32) (v3 : Int32) (v4 : Int32) : fX4_chain_27 0 σ v1 v2 v3 v4 = none := rfl
theorem fX4_chain_27_s (n : Nat) (σ : St) (v1 : Int32) (v2 : Int32) (v3 : Int32) (v4 : Int32) : fX4_chain_27 (n + 1) σ v1 v2 v3 v4 = (if v2 ≤ v4 then (if 0 ≤ v3 then (some (v3, σ)) else (some ((-5), σ))) else (if v3 < 0 then (if 0 ≤ v3 then (some (v3, σ)) else (some ((-5), σ))) else ((fX4_of σ v3 2).bind (fun r8 => fX4_chain_27 n σ v1 v2 r8 (v4 + 1))))) := rfl
def fX4_chain (σ : St) (p1 : Int32) (p2 : Int32) : Option (Int32 × St) := (fX4_isCart (up σ 0 0 0) p1).bind (fun r1 => if r1 = 0 then (some ((-1), up σ 0 0 0)) else (if 0 ≤ p2 then (fX4_chain_27 1000 (up σ 0 0 0) p1 p2 p1 0) else (some ((-2), up σ 0 0 0))))
set_option maxHeartbeats 4000000 in
set_option maxRecDepth 100000 in
theorem kX4_chain (l : Launch) (G : Gx) (b : Nat) (σ : St) (p1 : Int32) (p2 : Int32) (r : Int32) (σ' : St) (h : fX4_chain σ p1 p2 = some (r, σ')) : Met l yX4_chain wsX4_chain (rmN 2) (pre G [.ref b, .int p1, .int p2] (mAt G b σ)) (QcW b (b + 7) (mAt G b σ') (some (.int r))) 0 0 (lw_Fr b (b + 7)) := by
  refine Met.ofW (cc := cX4_chain) (maxL := 5) (ret := (some .int)) (by decide) rfl ?_
  intro p e s m args below meth c s₁ B hml hv
  obtain ⟨rfl, X, hK⟩ := hv
  have hx := B.exec
  have hb := B.bytes
  have hr := B.returns
  have hts := atoms_spec (ws := wsX4_chain) B.pre
  have hown : s.vm.findClass RX4 = some m.cls := findClass_of_methodNamed B.named
  have hlocks := B.notSynchronized
  have C : Cx p m c cX4_chain 5 s _ wsX4_chain RX4 G := ⟨⟨hx, hb, hml, hown, hts⟩, hK⟩
  have hin : ∀ w ∈ wsX40, w ∈ wsX4_chain := in_X4_chain
  have hS : va_S (lw_Fr b (b + 7)) s.heap s.heap [] := va_S.rf
  have hl := lv_entry ([.ref b, .int p1, .int p2]) (n := 5) (Nat.le_of_ble_eq_true rfl)
  rw [lg_entry_eq]
  generalize (lg_sl ([.ref b, .int p1, .int p2]) ++ List.replicate (5 - (lg_sl ([.ref b, .int p1, .int p2])).length) Slot.unset).toArray = ls at hl ⊢
  have hl : lv_has ls 5 [(0, .ref b), (1, .int p1), (2, .int p2)] := hl
  have loop27 : ∀ (n : Nat) (σ : St) (v1 : Int32) (v2 : Int32) (v3 : Int32) (v4 : Int32) (H : Heap) (locs : List Loc) (ls : Array Slot), fX4_chain_27 n σ v1 v2 v3 v4 = some (r, σ') → mAt G b σ H → va_S (lw_Fr b (b + 7)) s.heap H locs → lv_has ls 5 [(0, .ref b), (1, .int v1), (2, .int v2), (3, .int v3), (4, .int v4)] → W p l e (rmN 2) s m #[Value.ref b, Value.int p1, Value.int p2] below meth c H locs 0 0 (MQ below (QcW b (b + 7) (mAt G b σ') (some (.int r))) #[Value.ref b, Value.int p1, Value.int p2] s 0 0 (lw_Fr b (b + 7))) (F0 m 27 ls []) := by
    intro n
    induction n with
    | zero =>
      intro σ v1 v2 v3 v4 H locs ls h X hS hl
      rw [fX4_chain_27_0] at h
      cases h
    | succ n ih =>
      intro σ v1 v2 v3 v4 H locs ls h X hS hl
      rw [fX4_chain_27_s] at h
      refine lv_iload hx hb dX4_chain_27 (lv_at hl 4 rfl) ?_
      refine lv_iload_n hx hb dX4_chain_29 rfl (lv_at hl 2 rfl) ?_
      refine lv_icmp_ge (tgt := 50) hx hb dX4_chain_30 (by decide) (fun c4 => ?_) (fun c4 => ?_)
      · have h := ip h c4
        refine lv_iload_n hx hb dX4_chain_50 rfl (lv_at hl 3 rfl) ?_
        refine lv_if_ge (tgt := 59) hx hb dX4_chain_51 (by decide) (fun c5 => ?_) (fun c5 => ?_)
        · have h := ip h c5
          refine lv_iload_n hx hb dX4_chain_59 rfl (lv_at hl 3 rfl) ?_
          obtain ⟨h, h9⟩ := pr h
          subst h
          subst h9
          exact W.iret hx hb hr (fun t ht _ => ⟨rfl, by rw [ht]; exact X, hS.F ht⟩) hS.2.2 dX4_chain_60
        · have h := iq h c5
          refine lv_bipush (v := (-5)) hx hb dX4_chain_54 (by decide) ?_
          refine lv_goto (tgt := 60) hx hb dX4_chain_56 (by decide) ?_
          obtain ⟨h, h9⟩ := pr h
          subst h
          subst h9
          exact W.iret hx hb hr (fun t ht _ => ⟨rfl, by rw [ht]; exact X, hS.F ht⟩) hS.2.2 dX4_chain_60
      · have h := iq h c4
        refine lv_iload_n hx hb dX4_chain_33 rfl (lv_at hl 3 rfl) ?_
        refine lv_if_lt (tgt := 50) hx hb dX4_chain_34 (by decide) (fun c6 => ?_) (fun c6 => ?_)
        · have h := ip h c6
          refine lv_iload_n hx hb dX4_chain_50 rfl (lv_at hl 3 rfl) ?_
          refine lv_if_ge (tgt := 59) hx hb dX4_chain_51 (by decide) (fun c7 => ?_) (fun c7 => ?_)
          · have h := ip h c7
            refine lv_iload_n hx hb dX4_chain_59 rfl (lv_at hl 3 rfl) ?_
            obtain ⟨h, h9⟩ := pr h
            subst h
            subst h9
            exact W.iret hx hb hr (fun t ht _ => ⟨rfl, by rw [ht]; exact X, hS.F ht⟩) hS.2.2 dX4_chain_60
          · have h := iq h c7
            refine lv_bipush (v := (-5)) hx hb dX4_chain_54 (by decide) ?_
            refine lv_goto (tgt := 60) hx hb dX4_chain_56 (by decide) ?_
            obtain ⟨h, h9⟩ := pr h
            subst h
            subst h9
            exact W.iret hx hb hr (fun t ht _ => ⟨rfl, by rw [ht]; exact X, hS.F ht⟩) hS.2.2 dX4_chain_60
        · have h := iq h c6
          refine lv_aload_n hx hb dX4_chain_37 rfl (lv_at hl 0 rfl) ?_
          refine lv_iload_n hx hb dX4_chain_38 rfl (lv_at hl 3 rfl) ?_
          refine lv_iconst (v := 2) hx hb dX4_chain_39 (by decide) ?_
          obtain ⟨r8, hr8, h⟩ := ob h
          refine rowV (As := [.int v3, .int 2]) (rest := []) C (kX4_of l G b σ v3 2 r8 hr8) (cwV 2 hts gX4_chain_X4_of rfl rfl rfl (by decide +kernel) ⟨Nat.le_of_ble_eq_true rfl, Nat.le_of_ble_eq_true rfl⟩) (rcv_X4 X hK) X rfl hl.1 rfl (Nat.le_of_ble_eq_true rfl) dX4_chain_40 ⟨Nat.zero_le _, Nat.zero_le _⟩ ?_
          refine lv_istore_n (lv' := [(3, .int r8), (0, .ref b), (1, .int v1), (2, .int v2), (4, .int v4)]) hx hb dX4_chain_43 rfl hl (by decide) rfl (fun ls hl => ?_)
          refine lv_iinc (v := v4 + 1) (lv' := [(4, .int (v4 + 1)), (3, .int r8), (0, .ref b), (1, .int v1), (2, .int v2)]) hx hb dX4_chain_44 hl (k := 4) rfl rfl (by decide) rfl (fun ls hl => ?_)
          refine lv_goto (tgt := 27) hx hb dX4_chain_47 (by decide) ?_
          exact ih _ _ _ _ _ _ _ _ h X hS (lv_sub hl [2, 3, 4, 1, 0] rfl)
  unfold fX4_chain at h
  refine lv_aload_n hx hb dX4_chain_0 rfl (lv_at hl 0 rfl) ?_
  refine lv_iconst (v := 0) hx hb dX4_chain_1 (by decide) ?_
  refine pt_X4_0 C hin X hS 1 rfl dX4_chain_2 (fun H locs X hS => ?_)
  refine lv_aload_n hx hb dX4_chain_5 rfl (lv_at hl 0 rfl) ?_
  refine lv_iload_n hx hb dX4_chain_6 rfl (lv_at hl 1 rfl) ?_
  obtain ⟨r1, hr1, h⟩ := ob h
  refine rowV (As := [.int p1]) (rest := []) C (kX4_isCart l G b (up σ 0 0 0) p1 r1 hr1) (cwV 1 hts gX4_chain_X4_isCart rfl rfl rfl (by decide +kernel) ⟨Nat.le_of_ble_eq_true rfl, Nat.le_of_ble_eq_true rfl⟩) (rcv_X4 X hK) X rfl hl.1 rfl (Nat.le_of_ble_eq_true rfl) dX4_chain_7 ⟨Nat.zero_le _, Nat.zero_le _⟩ ?_
  refine lv_if_ne (tgt := 15) hx hb dX4_chain_10 (by decide) (fun c2 => ?_) (fun c2 => ?_)
  · have h := iq h c2
    refine lv_iload_n hx hb dX4_chain_15 rfl (lv_at hl 2 rfl) ?_
    refine lv_if_ge (tgt := 22) hx hb dX4_chain_16 (by decide) (fun c3 => ?_) (fun c3 => ?_)
    · have h := ip h c3
      refine lv_iload_n hx hb dX4_chain_22 rfl (lv_at hl 1 rfl) ?_
      refine lv_istore_n (lv' := [(3, .int p1), (0, .ref b), (1, .int p1), (2, .int p2)]) hx hb dX4_chain_23 rfl hl (by decide) rfl (fun ls hl => ?_)
      refine lv_iconst (v := 0) hx hb dX4_chain_24 (by decide) ?_
      refine lv_istore (lv' := [(4, .int 0), (3, .int p1), (0, .ref b), (1, .int p1), (2, .int p2)]) hx hb dX4_chain_25 hl (by decide) rfl (fun ls hl => ?_)
      exact loop27 _ _ _ _ _ _ _ _ _ h X hS (lv_sub hl [2, 3, 4, 1, 0] rfl)
    · have h := iq h c3
      refine lv_bipush (v := (-2)) hx hb dX4_chain_19 (by decide) ?_
      obtain ⟨h, h9⟩ := pr h
      subst h
      subst h9
      exact W.iret hx hb hr (fun t ht _ => ⟨rfl, by rw [ht]; exact X, hS.F ht⟩) hS.2.2 dX4_chain_21
  · have h := ip h c2
    refine lv_iconst (v := (-1)) hx hb dX4_chain_13 (by decide) ?_
    obtain ⟨h, h9⟩ := pr h
    subst h
    subst h9
    exact W.iret hx hb hr (fun t ht _ => ⟨rfl, by rw [ht]; exact X, hS.F ht⟩) hS.2.2 dX4_chain_14

theorem in_X4_brokenIn : ∀ w ∈ wsX40, w ∈ wsX4_brokenIn := by decide +kernel
def fX4_brokenIn_17 : Nat → St → Int32 → Int32 → Option (Int32 × St)
  | 0, _, _, _ => none
  | n + 1, σ, v1, v2 => if v2 < 0 then (if 0 ≤ v2 then (some (v2, σ)) else (some ((-5), σ))) else ((fX4_isWhole σ v2).bind (fun r5 => if r5 = 0 then (if 0 ≤ v2 then (some (v2, σ)) else (some ((-5), σ))) else ((fX4_of σ v2 2).bind (fun r8 => fX4_brokenIn_17 n σ v1 r8))))
theorem fX4_brokenIn_17_0 (σ : St) (v1 : Int32) (v2 : Int32) : fX4_brokenIn_17 0 σ v1 v2 = none := rfl
theorem fX4_brokenIn_17_s (n : Nat) (σ : St) (v1 : Int32) (v2 : Int32) : fX4_brokenIn_17 (n + 1) σ v1 v2 = (if v2 < 0 then (if 0 ≤ v2 then (some (v2, σ)) else (some ((-5), σ))) else ((fX4_isWhole σ v2).bind (fun r5 => if r5 = 0 then (if 0 ≤ v2 then (some (v2, σ)) else (some ((-5), σ))) else ((fX4_of σ v2 2).bind (fun r8 => fX4_brokenIn_17 n σ v1 r8))))) := rfl
def fX4_brokenIn (σ : St) (p1 : Int32) : Option (Int32 × St) := (fX4_isCart (up σ 0 0 0) p1).bind (fun r1 => if r1 = 0 then (some ((-1), up σ 0 0 0)) else (fX4_brokenIn_17 1000 (up σ 0 0 0) p1 p1))
set_option maxHeartbeats 4000000 in
set_option maxRecDepth 100000 in
theorem kX4_brokenIn (l : Launch) (G : Gx) (b : Nat) (σ : St) (p1 : Int32) (r : Int32) (σ' : St) (h : fX4_brokenIn σ p1 = some (r, σ')) : Met l yX4_brokenIn wsX4_brokenIn (rmN 4) (pre G [.ref b, .int p1] (mAt G b σ)) (QcW b (b + 7) (mAt G b σ') (some (.int r))) 0 0 (lw_Fr b (b + 7)) := by
  refine Met.ofW (cc := cX4_brokenIn) (maxL := 3) (ret := (some .int)) (by decide) rfl ?_
  intro p e s m args below meth c s₁ B hml hv
  obtain ⟨rfl, X, hK⟩ := hv
  have hx := B.exec
  have hb := B.bytes
  have hr := B.returns
  have hts := atoms_spec (ws := wsX4_brokenIn) B.pre
  have hown : s.vm.findClass RX4 = some m.cls := findClass_of_methodNamed B.named
  have hlocks := B.notSynchronized
  have C : Cx p m c cX4_brokenIn 3 s _ wsX4_brokenIn RX4 G := ⟨⟨hx, hb, hml, hown, hts⟩, hK⟩
  have hin : ∀ w ∈ wsX40, w ∈ wsX4_brokenIn := in_X4_brokenIn
  have hS : va_S (lw_Fr b (b + 7)) s.heap s.heap [] := va_S.rf
  have hl := lv_entry ([.ref b, .int p1]) (n := 3) (Nat.le_of_ble_eq_true rfl)
  rw [lg_entry_eq]
  generalize (lg_sl ([.ref b, .int p1]) ++ List.replicate (3 - (lg_sl ([.ref b, .int p1])).length) Slot.unset).toArray = ls at hl ⊢
  have hl : lv_has ls 3 [(0, .ref b), (1, .int p1)] := hl
  have loop17 : ∀ (n : Nat) (σ : St) (v1 : Int32) (v2 : Int32) (H : Heap) (locs : List Loc) (ls : Array Slot), fX4_brokenIn_17 n σ v1 v2 = some (r, σ') → mAt G b σ H → va_S (lw_Fr b (b + 7)) s.heap H locs → lv_has ls 3 [(0, .ref b), (1, .int v1), (2, .int v2)] → W p l e (rmN 4) s m #[Value.ref b, Value.int p1] below meth c H locs 0 0 (MQ below (QcW b (b + 7) (mAt G b σ') (some (.int r))) #[Value.ref b, Value.int p1] s 0 0 (lw_Fr b (b + 7))) (F0 m 17 ls []) := by
    intro n
    induction n with
    | zero =>
      intro σ v1 v2 H locs ls h X hS hl
      rw [fX4_brokenIn_17_0] at h
      cases h
    | succ n ih =>
      intro σ v1 v2 H locs ls h X hS hl
      rw [fX4_brokenIn_17_s] at h
      refine lv_iload_n hx hb dX4_brokenIn_17 rfl (lv_at hl 2 rfl) ?_
      refine lv_if_lt (tgt := 39) hx hb dX4_brokenIn_18 (by decide) (fun c3 => ?_) (fun c3 => ?_)
      · have h := ip h c3
        refine lv_iload_n hx hb dX4_brokenIn_39 rfl (lv_at hl 2 rfl) ?_
        refine lv_if_ge (tgt := 48) hx hb dX4_brokenIn_40 (by decide) (fun c4 => ?_) (fun c4 => ?_)
        · have h := ip h c4
          refine lv_iload_n hx hb dX4_brokenIn_48 rfl (lv_at hl 2 rfl) ?_
          obtain ⟨h, h9⟩ := pr h
          subst h
          subst h9
          exact W.iret hx hb hr (fun t ht _ => ⟨rfl, by rw [ht]; exact X, hS.F ht⟩) hS.2.2 dX4_brokenIn_49
        · have h := iq h c4
          refine lv_bipush (v := (-5)) hx hb dX4_brokenIn_43 (by decide) ?_
          refine lv_goto (tgt := 49) hx hb dX4_brokenIn_45 (by decide) ?_
          obtain ⟨h, h9⟩ := pr h
          subst h
          subst h9
          exact W.iret hx hb hr (fun t ht _ => ⟨rfl, by rw [ht]; exact X, hS.F ht⟩) hS.2.2 dX4_brokenIn_49
      · have h := iq h c3
        refine lv_aload_n hx hb dX4_brokenIn_21 rfl (lv_at hl 0 rfl) ?_
        refine lv_iload_n hx hb dX4_brokenIn_22 rfl (lv_at hl 2 rfl) ?_
        obtain ⟨r5, hr5, h⟩ := ob h
        refine rowV (As := [.int v2]) (rest := []) C (kX4_isWhole l G b σ v2 r5 hr5) (cwV 1 hts gX4_brokenIn_X4_isWhole rfl rfl rfl (by decide +kernel) ⟨Nat.le_of_ble_eq_true rfl, Nat.le_of_ble_eq_true rfl⟩) (rcv_X4 X hK) X rfl hl.1 rfl (Nat.le_of_ble_eq_true rfl) dX4_brokenIn_23 ⟨Nat.zero_le _, Nat.zero_le _⟩ ?_
        refine lv_if_eq (tgt := 39) hx hb dX4_brokenIn_26 (by decide) (fun c6 => ?_) (fun c6 => ?_)
        · have h := ip h c6
          refine lv_iload_n hx hb dX4_brokenIn_39 rfl (lv_at hl 2 rfl) ?_
          refine lv_if_ge (tgt := 48) hx hb dX4_brokenIn_40 (by decide) (fun c7 => ?_) (fun c7 => ?_)
          · have h := ip h c7
            refine lv_iload_n hx hb dX4_brokenIn_48 rfl (lv_at hl 2 rfl) ?_
            obtain ⟨h, h9⟩ := pr h
            subst h
            subst h9
            exact W.iret hx hb hr (fun t ht _ => ⟨rfl, by rw [ht]; exact X, hS.F ht⟩) hS.2.2 dX4_brokenIn_49
          · have h := iq h c7
            refine lv_bipush (v := (-5)) hx hb dX4_brokenIn_43 (by decide) ?_
            refine lv_goto (tgt := 49) hx hb dX4_brokenIn_45 (by decide) ?_
            obtain ⟨h, h9⟩ := pr h
            subst h
            subst h9
            exact W.iret hx hb hr (fun t ht _ => ⟨rfl, by rw [ht]; exact X, hS.F ht⟩) hS.2.2 dX4_brokenIn_49
        · have h := iq h c6
          refine lv_aload_n hx hb dX4_brokenIn_29 rfl (lv_at hl 0 rfl) ?_
          refine lv_iload_n hx hb dX4_brokenIn_30 rfl (lv_at hl 2 rfl) ?_
          refine lv_iconst (v := 2) hx hb dX4_brokenIn_31 (by decide) ?_
          obtain ⟨r8, hr8, h⟩ := ob h
          refine rowV (As := [.int v2, .int 2]) (rest := []) C (kX4_of l G b σ v2 2 r8 hr8) (cwV 2 hts gX4_brokenIn_X4_of rfl rfl rfl (by decide +kernel) ⟨Nat.le_of_ble_eq_true rfl, Nat.le_of_ble_eq_true rfl⟩) (rcv_X4 X hK) X rfl hl.1 rfl (Nat.le_of_ble_eq_true rfl) dX4_brokenIn_32 ⟨Nat.zero_le _, Nat.zero_le _⟩ ?_
          refine lv_istore_n (lv' := [(2, .int r8), (0, .ref b), (1, .int v1)]) hx hb dX4_brokenIn_35 rfl hl (by decide) rfl (fun ls hl => ?_)
          refine lv_goto (tgt := 17) hx hb dX4_brokenIn_36 (by decide) ?_
          exact ih _ _ _ _ _ _ h X hS (lv_sub hl [1, 2, 0] rfl)
  unfold fX4_brokenIn at h
  refine lv_aload_n hx hb dX4_brokenIn_0 rfl (lv_at hl 0 rfl) ?_
  refine lv_iconst (v := 0) hx hb dX4_brokenIn_1 (by decide) ?_
  refine pt_X4_0 C hin X hS 1 rfl dX4_brokenIn_2 (fun H locs X hS => ?_)
  refine lv_aload_n hx hb dX4_brokenIn_5 rfl (lv_at hl 0 rfl) ?_
  refine lv_iload_n hx hb dX4_brokenIn_6 rfl (lv_at hl 1 rfl) ?_
  obtain ⟨r1, hr1, h⟩ := ob h
  refine rowV (As := [.int p1]) (rest := []) C (kX4_isCart l G b (up σ 0 0 0) p1 r1 hr1) (cwV 1 hts gX4_brokenIn_X4_isCart rfl rfl rfl (by decide +kernel) ⟨Nat.le_of_ble_eq_true rfl, Nat.le_of_ble_eq_true rfl⟩) (rcv_X4 X hK) X rfl hl.1 rfl (Nat.le_of_ble_eq_true rfl) dX4_brokenIn_7 ⟨Nat.zero_le _, Nat.zero_le _⟩ ?_
  refine lv_if_ne (tgt := 15) hx hb dX4_brokenIn_10 (by decide) (fun c2 => ?_) (fun c2 => ?_)
  · have h := iq h c2
    refine lv_iload_n hx hb dX4_brokenIn_15 rfl (lv_at hl 1 rfl) ?_
    refine lv_istore_n (lv' := [(2, .int p1), (0, .ref b), (1, .int p1)]) hx hb dX4_brokenIn_16 rfl hl (by decide) rfl (fun ls hl => ?_)
    exact loop17 _ _ _ _ _ _ _ h X hS (lv_sub hl [1, 2, 0] rfl)
  · have h := ip h c2
    refine lv_iconst (v := (-1)) hx hb dX4_brokenIn_13 (by decide) ?_
    obtain ⟨h, h9⟩ := pr h
    subst h
    subst h9
    exact W.iret hx hb hr (fun t ht _ => ⟨rfl, by rw [ht]; exact X, hS.F ht⟩) hS.2.2 dX4_brokenIn_14

theorem in_X4_sumOf : ∀ w ∈ wsX40, w ∈ wsX4_sumOf := by decide +kernel
def fX4_sumOf_4 : Nat → St → Int32 → Int32 → Int32 → Option (Int32)
  | 0, _, _, _, _ => none
  | n + 1, σ, v1, v2, v3 => if (σ 1 5) ≤ v3 then (some v2) else ((fX4_of σ v3 v1).bind (fun r2 => fX4_sumOf_4 n σ v1 (v2 + r2) (v3 + 1)))
theorem fX4_sumOf_4_0 (σ : St) (v1 : Int32) (v2 : Int32) (v3 : Int32) : fX4_sumOf_4 0 σ v1 v2 v3 = none := rfl
theorem fX4_sumOf_4_s (n : Nat) (σ : St) (v1 : Int32) (v2 : Int32) (v3 : Int32) : fX4_sumOf_4 (n + 1) σ v1 v2 v3 = (if (σ 1 5) ≤ v3 then (some v2) else ((fX4_of σ v3 v1).bind (fun r2 => fX4_sumOf_4 n σ v1 (v2 + r2) (v3 + 1)))) := rfl
def fX4_sumOf (σ : St) (p1 : Int32) : Option (Int32) := fX4_sumOf_4 1000 σ p1 0 0
set_option maxHeartbeats 4000000 in
set_option maxRecDepth 100000 in
theorem kX4_sumOf (l : Launch) (G : Gx) (b : Nat) (σ : St) (p1 : Int32) (r : Int32) (h : fX4_sumOf σ p1 = some r) : Met l yX4_sumOf wsX4_sumOf (rmN 1) (pre G [.ref b, .int p1] (mAt G b σ)) (QcRead r) 0 0 (fun _ => False) := by
  refine Met.ofW (cc := cX4_sumOf) (maxL := 4) (ret := (some .int)) (by decide) rfl ?_
  intro p e s m args below meth c s₁ B hml hv
  obtain ⟨rfl, X, hK⟩ := hv
  have hx := B.exec
  have hb := B.bytes
  have hr := B.returns
  have hts := atoms_spec (ws := wsX4_sumOf) B.pre
  have hown : s.vm.findClass RX4 = some m.cls := findClass_of_methodNamed B.named
  have hlocks := B.notSynchronized
  have C : Cx p m c cX4_sumOf 4 s _ wsX4_sumOf RX4 G := ⟨⟨hx, hb, hml, hown, hts⟩, hK⟩
  have hin : ∀ w ∈ wsX40, w ∈ wsX4_sumOf := in_X4_sumOf
  have hl := lv_entry ([.ref b, .int p1]) (n := 4) (Nat.le_of_ble_eq_true rfl)
  rw [lg_entry_eq]
  generalize (lg_sl ([.ref b, .int p1]) ++ List.replicate (4 - (lg_sl ([.ref b, .int p1])).length) Slot.unset).toArray = ls at hl ⊢
  have hl : lv_has ls 4 [(0, .ref b), (1, .int p1)] := hl
  have loop4 : ∀ (n : Nat) (v1 : Int32) (v2 : Int32) (v3 : Int32) (ls : Array Slot), fX4_sumOf_4 n σ v1 v2 v3 = some r → lv_has ls 4 [(0, .ref b), (1, .int v1), (2, .int v2), (3, .int v3)] → W p l e (rmN 1) s m #[Value.ref b, Value.int p1] below meth c s.heap [] 0 0 (MQ below (QcRead r) #[Value.ref b, Value.int p1] s 0 0 (fun _ => False)) (F0 m 4 ls []) := by
    intro n
    induction n with
    | zero =>
      intro v1 v2 v3 ls h hl
      rw [fX4_sumOf_4_0] at h
      cases h
    | succ n ih =>
      intro v1 v2 v3 ls h hl
      rw [fX4_sumOf_4_s] at h
      refine lv_iload_n hx hb dX4_sumOf_4 rfl (lv_at hl 3 rfl) ?_
      refine lv_aload_n hx hb dX4_sumOf_5 rfl (lv_at hl 0 rfl) ?_
      refine gt_X4_1 C hin X 1 rfl dX4_sumOf_6 ?_
      refine lv_iconst (v := 5) hx hb dX4_sumOf_9 (by decide) ?_
      refine al_X4_1 (j := 5) C X rfl (by decide) dX4_sumOf_10 ?_
      refine lv_icmp_ge (tgt := 29) hx hb dX4_sumOf_11 (by decide) (fun c1 => ?_) (fun c1 => ?_)
      · have h := ip h c1
        refine lv_iload_n hx hb dX4_sumOf_29 rfl (lv_at hl 2 rfl) ?_
        have h := so h
        subst h
        exact W.iret hx hb hr (fun t ht _ => ⟨rfl, ht⟩) (fun q h => absurd h List.not_mem_nil) dX4_sumOf_30
      · have h := iq h c1
        refine lv_iload_n hx hb dX4_sumOf_14 rfl (lv_at hl 2 rfl) ?_
        refine lv_aload_n hx hb dX4_sumOf_15 rfl (lv_at hl 0 rfl) ?_
        refine lv_iload_n hx hb dX4_sumOf_16 rfl (lv_at hl 3 rfl) ?_
        refine lv_iload_n hx hb dX4_sumOf_17 rfl (lv_at hl 1 rfl) ?_
        obtain ⟨r2, hr2, h⟩ := ob h
        refine rowV (As := [.int v3, .int v1]) (rest := [.int v2]) C (kX4_of l G b σ v3 v1 r2 hr2) (cwV 2 hts gX4_sumOf_X4_of rfl rfl rfl (by decide +kernel) ⟨Nat.le_of_ble_eq_true rfl, Nat.le_of_ble_eq_true rfl⟩) (rcv_X4 X hK) X rfl hl.1 rfl (Nat.le_of_ble_eq_true rfl) dX4_sumOf_18 ⟨Nat.zero_le _, Nat.zero_le _⟩ ?_
        refine lv_iadd hx hb dX4_sumOf_21 ?_
        refine lv_istore_n (lv' := [(2, .int (v2 + r2)), (0, .ref b), (1, .int v1), (3, .int v3)]) hx hb dX4_sumOf_22 rfl hl (by decide) rfl (fun ls hl => ?_)
        refine lv_iinc (v := v3 + 1) (lv' := [(3, .int (v3 + 1)), (2, .int (v2 + r2)), (0, .ref b), (1, .int v1)]) hx hb dX4_sumOf_23 hl (k := 3) rfl rfl (by decide) rfl (fun ls hl => ?_)
        refine lv_goto (tgt := 4) hx hb dX4_sumOf_26 (by decide) ?_
        exact ih _ _ _ _ h (lv_sub hl [2, 3, 1, 0] rfl)
  unfold fX4_sumOf at h
  refine lv_iconst (v := 0) hx hb dX4_sumOf_0 (by decide) ?_
  refine lv_istore_n (lv' := [(2, .int 0), (0, .ref b), (1, .int p1)]) hx hb dX4_sumOf_1 rfl hl (by decide) rfl (fun ls hl => ?_)
  refine lv_iconst (v := 0) hx hb dX4_sumOf_2 (by decide) ?_
  refine lv_istore_n (lv' := [(3, .int 0), (2, .int 0), (0, .ref b), (1, .int p1)]) hx hb dX4_sumOf_3 rfl hl (by decide) rfl (fun ls hl => ?_)
  exact loop4 _ _ _ _ _ h (lv_sub hl [2, 3, 1, 0] rfl)

theorem in_X4_brokenMany : ∀ w ∈ wsX40, w ∈ wsX4_brokenMany := by decide +kernel
def fX4_brokenMany_4 : Nat → St → Int32 → Int32 → Option (Int32)
  | 0, _, _, _ => none
  | n + 1, σ, v1, v2 => if (σ 1 5) ≤ v2 then (some v1) else ((fX4_isWhole σ v2).bind (fun r2 => if r2 = 0 then (fX4_brokenMany_4 n σ (v1 + 1) (v2 + 1)) else (fX4_brokenMany_4 n σ (v1 + 0) (v2 + 1))))
theorem fX4_brokenMany_4_0 (σ : St) (v1 : Int32) (v2 : Int32) : fX4_brokenMany_4 0 σ v1 v2 = none := rfl
theorem fX4_brokenMany_4_s (n : Nat) (σ : St) (v1 : Int32) (v2 : Int32) : fX4_brokenMany_4 (n + 1) σ v1 v2 = (if (σ 1 5) ≤ v2 then (some v1) else ((fX4_isWhole σ v2).bind (fun r2 => if r2 = 0 then (fX4_brokenMany_4 n σ (v1 + 1) (v2 + 1)) else (fX4_brokenMany_4 n σ (v1 + 0) (v2 + 1))))) := rfl
def fX4_brokenMany (σ : St) : Option (Int32) := fX4_brokenMany_4 1000 σ 0 0
set_option maxHeartbeats 4000000 in
set_option maxRecDepth 100000 in
theorem kX4_brokenMany (l : Launch) (G : Gx) (b : Nat) (σ : St) (r : Int32) (h : fX4_brokenMany σ = some r) : Met l yX4_brokenMany wsX4_brokenMany (rmN 4) (pre G [.ref b] (mAt G b σ)) (QcRead r) 0 0 (fun _ => False) := by
  refine Met.ofW (cc := cX4_brokenMany) (maxL := 3) (ret := (some .int)) (by decide) rfl ?_
  intro p e s m args below meth c s₁ B hml hv
  obtain ⟨rfl, X, hK⟩ := hv
  have hx := B.exec
  have hb := B.bytes
  have hr := B.returns
  have hts := atoms_spec (ws := wsX4_brokenMany) B.pre
  have hown : s.vm.findClass RX4 = some m.cls := findClass_of_methodNamed B.named
  have hlocks := B.notSynchronized
  have C : Cx p m c cX4_brokenMany 3 s _ wsX4_brokenMany RX4 G := ⟨⟨hx, hb, hml, hown, hts⟩, hK⟩
  have hin : ∀ w ∈ wsX40, w ∈ wsX4_brokenMany := in_X4_brokenMany
  have hl := lv_entry ([.ref b]) (n := 3) (Nat.le_of_ble_eq_true rfl)
  rw [lg_entry_eq]
  generalize (lg_sl ([.ref b]) ++ List.replicate (3 - (lg_sl ([.ref b])).length) Slot.unset).toArray = ls at hl ⊢
  have hl : lv_has ls 3 [(0, .ref b)] := hl
  have loop4 : ∀ (n : Nat) (v1 : Int32) (v2 : Int32) (ls : Array Slot), fX4_brokenMany_4 n σ v1 v2 = some r → lv_has ls 3 [(0, .ref b), (1, .int v1), (2, .int v2)] → W p l e (rmN 4) s m #[Value.ref b] below meth c s.heap [] 0 0 (MQ below (QcRead r) #[Value.ref b] s 0 0 (fun _ => False)) (F0 m 4 ls []) := by
    intro n
    induction n with
    | zero =>
      intro v1 v2 ls h hl
      rw [fX4_brokenMany_4_0] at h
      cases h
    | succ n ih =>
      intro v1 v2 ls h hl
      rw [fX4_brokenMany_4_s] at h
      refine lv_iload_n hx hb dX4_brokenMany_4 rfl (lv_at hl 2 rfl) ?_
      refine lv_aload_n hx hb dX4_brokenMany_5 rfl (lv_at hl 0 rfl) ?_
      refine gt_X4_1 C hin X 1 rfl dX4_brokenMany_6 ?_
      refine lv_iconst (v := 5) hx hb dX4_brokenMany_9 (by decide) ?_
      refine al_X4_1 (j := 5) C X rfl (by decide) dX4_brokenMany_10 ?_
      refine lv_icmp_ge (tgt := 36) hx hb dX4_brokenMany_11 (by decide) (fun c1 => ?_) (fun c1 => ?_)
      · have h := ip h c1
        refine lv_iload_n hx hb dX4_brokenMany_36 rfl (lv_at hl 1 rfl) ?_
        have h := so h
        subst h
        exact W.iret hx hb hr (fun t ht _ => ⟨rfl, ht⟩) (fun q h => absurd h List.not_mem_nil) dX4_brokenMany_37
      · have h := iq h c1
        refine lv_iload_n hx hb dX4_brokenMany_14 rfl (lv_at hl 1 rfl) ?_
        refine lv_aload_n hx hb dX4_brokenMany_15 rfl (lv_at hl 0 rfl) ?_
        refine lv_iload_n hx hb dX4_brokenMany_16 rfl (lv_at hl 2 rfl) ?_
        obtain ⟨r2, hr2, h⟩ := ob h
        refine rowV (As := [.int v2]) (rest := [.int v1]) C (kX4_isWhole l G b σ v2 r2 hr2) (cwV 1 hts gX4_brokenMany_X4_isWhole rfl rfl rfl (by decide +kernel) ⟨Nat.le_of_ble_eq_true rfl, Nat.le_of_ble_eq_true rfl⟩) (rcv_X4 X hK) X rfl hl.1 rfl (Nat.le_of_ble_eq_true rfl) dX4_brokenMany_17 ⟨Nat.zero_le _, Nat.zero_le _⟩ ?_
        refine lv_if_eq (tgt := 27) hx hb dX4_brokenMany_20 (by decide) (fun c3 => ?_) (fun c3 => ?_)
        · have h := ip h c3
          refine lv_iconst (v := 1) hx hb dX4_brokenMany_27 (by decide) ?_
          refine lv_iadd hx hb dX4_brokenMany_28 ?_
          refine lv_istore_n (lv' := [(1, .int (v1 + 1)), (0, .ref b), (2, .int v2)]) hx hb dX4_brokenMany_29 rfl hl (by decide) rfl (fun ls hl => ?_)
          refine lv_iinc (v := v2 + 1) (lv' := [(2, .int (v2 + 1)), (1, .int (v1 + 1)), (0, .ref b)]) hx hb dX4_brokenMany_30 hl (k := 2) rfl rfl (by decide) rfl (fun ls hl => ?_)
          refine lv_goto (tgt := 4) hx hb dX4_brokenMany_33 (by decide) ?_
          exact ih _ _ _ h (lv_sub hl [2, 1, 0] rfl)
        · have h := iq h c3
          refine lv_iconst (v := 0) hx hb dX4_brokenMany_23 (by decide) ?_
          refine lv_goto (tgt := 28) hx hb dX4_brokenMany_24 (by decide) ?_
          refine lv_iadd hx hb dX4_brokenMany_28 ?_
          refine lv_istore_n (lv' := [(1, .int (v1 + 0)), (0, .ref b), (2, .int v2)]) hx hb dX4_brokenMany_29 rfl hl (by decide) rfl (fun ls hl => ?_)
          refine lv_iinc (v := v2 + 1) (lv' := [(2, .int (v2 + 1)), (1, .int (v1 + 0)), (0, .ref b)]) hx hb dX4_brokenMany_30 hl (k := 2) rfl rfl (by decide) rfl (fun ls hl => ?_)
          refine lv_goto (tgt := 4) hx hb dX4_brokenMany_33 (by decide) ?_
          exact ih _ _ _ h (lv_sub hl [2, 1, 0] rfl)
  unfold fX4_brokenMany at h
  refine lv_iconst (v := 0) hx hb dX4_brokenMany_0 (by decide) ?_
  refine lv_istore_n (lv' := [(1, .int 0), (0, .ref b)]) hx hb dX4_brokenMany_1 rfl hl (by decide) rfl (fun ls hl => ?_)
  refine lv_iconst (v := 0) hx hb dX4_brokenMany_2 (by decide) ?_
  refine lv_istore_n (lv' := [(2, .int 0), (1, .int 0), (0, .ref b)]) hx hb dX4_brokenMany_3 rfl hl (by decide) rfl (fun ls hl => ?_)
  exact loop4 _ _ _ _ h (lv_sub hl [2, 1, 0] rfl)

theorem in_X4_deepest : ∀ w ∈ wsX40, w ∈ wsX4_deepest := by decide +kernel
def fX4_deepest_4 : Nat → St → Int32 → Int32 → Option (Int32)
  | 0, _, _, _ => none
  | n + 1, σ, v1, v2 => if (σ 1 5) ≤ v2 then (some v1) else ((fX4_depth σ v2).bind (fun r2 => if r2 ≤ v1 then (fX4_deepest_4 n σ v1 (v2 + 1)) else ((fX4_depth σ v2).bind (fun r4 => fX4_deepest_4 n σ r4 (v2 + 1)))))
theorem fX4_deepest_4_0 (σ : St) (v1 : Int32) (v2 : Int32) : fX4_deepest_4 0 σ v1 v2 = none := rfl
theorem fX4_deepest_4_s (n : Nat) (σ : St) (v1 : Int32) (v2 : Int32) : fX4_deepest_4 (n + 1) σ v1 v2 = (if (σ 1 5) ≤ v2 then (some v1) else ((fX4_depth σ v2).bind (fun r2 => if r2 ≤ v1 then (fX4_deepest_4 n σ v1 (v2 + 1)) else ((fX4_depth σ v2).bind (fun r4 => fX4_deepest_4 n σ r4 (v2 + 1)))))) := rfl
def fX4_deepest (σ : St) : Option (Int32) := fX4_deepest_4 1000 σ 0 0
set_option maxHeartbeats 4000000 in
set_option maxRecDepth 100000 in
theorem kX4_deepest (l : Launch) (G : Gx) (b : Nat) (σ : St) (r : Int32) (h : fX4_deepest σ = some r) : Met l yX4_deepest wsX4_deepest (rmN 2) (pre G [.ref b] (mAt G b σ)) (QcRead r) 0 0 (fun _ => False) := by
  refine Met.ofW (cc := cX4_deepest) (maxL := 3) (ret := (some .int)) (by decide) rfl ?_
  intro p e s m args below meth c s₁ B hml hv
  obtain ⟨rfl, X, hK⟩ := hv
  have hx := B.exec
  have hb := B.bytes
  have hr := B.returns
  have hts := atoms_spec (ws := wsX4_deepest) B.pre
  have hown : s.vm.findClass RX4 = some m.cls := findClass_of_methodNamed B.named
  have hlocks := B.notSynchronized
  have C : Cx p m c cX4_deepest 3 s _ wsX4_deepest RX4 G := ⟨⟨hx, hb, hml, hown, hts⟩, hK⟩
  have hin : ∀ w ∈ wsX40, w ∈ wsX4_deepest := in_X4_deepest
  have hl := lv_entry ([.ref b]) (n := 3) (Nat.le_of_ble_eq_true rfl)
  rw [lg_entry_eq]
  generalize (lg_sl ([.ref b]) ++ List.replicate (3 - (lg_sl ([.ref b])).length) Slot.unset).toArray = ls at hl ⊢
  have hl : lv_has ls 3 [(0, .ref b)] := hl
  have loop4 : ∀ (n : Nat) (v1 : Int32) (v2 : Int32) (ls : Array Slot), fX4_deepest_4 n σ v1 v2 = some r → lv_has ls 3 [(0, .ref b), (1, .int v1), (2, .int v2)] → W p l e (rmN 2) s m #[Value.ref b] below meth c s.heap [] 0 0 (MQ below (QcRead r) #[Value.ref b] s 0 0 (fun _ => False)) (F0 m 4 ls []) := by
    intro n
    induction n with
    | zero =>
      intro v1 v2 ls h hl
      rw [fX4_deepest_4_0] at h
      cases h
    | succ n ih =>
      intro v1 v2 ls h hl
      rw [fX4_deepest_4_s] at h
      refine lv_iload_n hx hb dX4_deepest_4 rfl (lv_at hl 2 rfl) ?_
      refine lv_aload_n hx hb dX4_deepest_5 rfl (lv_at hl 0 rfl) ?_
      refine gt_X4_1 C hin X 1 rfl dX4_deepest_6 ?_
      refine lv_iconst (v := 5) hx hb dX4_deepest_9 (by decide) ?_
      refine al_X4_1 (j := 5) C X rfl (by decide) dX4_deepest_10 ?_
      refine lv_icmp_ge (tgt := 39) hx hb dX4_deepest_11 (by decide) (fun c1 => ?_) (fun c1 => ?_)
      · have h := ip h c1
        refine lv_iload_n hx hb dX4_deepest_39 rfl (lv_at hl 1 rfl) ?_
        have h := so h
        subst h
        exact W.iret hx hb hr (fun t ht _ => ⟨rfl, ht⟩) (fun q h => absurd h List.not_mem_nil) dX4_deepest_40
      · have h := iq h c1
        refine lv_aload_n hx hb dX4_deepest_14 rfl (lv_at hl 0 rfl) ?_
        refine lv_iload_n hx hb dX4_deepest_15 rfl (lv_at hl 2 rfl) ?_
        obtain ⟨r2, hr2, h⟩ := ob h
        refine rowV (As := [.int v2]) (rest := []) C (kX4_depth l G b σ v2 r2 hr2) (cwV 1 hts gX4_deepest_X4_depth rfl rfl rfl (by decide +kernel) ⟨Nat.le_of_ble_eq_true rfl, Nat.le_of_ble_eq_true rfl⟩) (rcv_X4 X hK) X rfl hl.1 rfl (Nat.le_of_ble_eq_true rfl) dX4_deepest_16 ⟨Nat.zero_le _, Nat.zero_le _⟩ ?_
        refine lv_iload_n hx hb dX4_deepest_19 rfl (lv_at hl 1 rfl) ?_
        refine lv_icmp_le (tgt := 31) hx hb dX4_deepest_20 (by decide) (fun c3 => ?_) (fun c3 => ?_)
        · have h := ip h c3
          refine lv_iload_n hx hb dX4_deepest_31 rfl (lv_at hl 1 rfl) ?_
          refine lv_istore_n (lv' := [(1, .int v1), (0, .ref b), (2, .int v2)]) hx hb dX4_deepest_32 rfl hl (by decide) rfl (fun ls hl => ?_)
          refine lv_iinc (v := v2 + 1) (lv' := [(2, .int (v2 + 1)), (1, .int v1), (0, .ref b)]) hx hb dX4_deepest_33 hl (k := 2) rfl rfl (by decide) rfl (fun ls hl => ?_)
          refine lv_goto (tgt := 4) hx hb dX4_deepest_36 (by decide) ?_
          exact ih _ _ _ h (lv_sub hl [2, 1, 0] rfl)
        · have h := iq h c3
          refine lv_aload_n hx hb dX4_deepest_23 rfl (lv_at hl 0 rfl) ?_
          refine lv_iload_n hx hb dX4_deepest_24 rfl (lv_at hl 2 rfl) ?_
          obtain ⟨r4, hr4, h⟩ := ob h
          refine rowV (As := [.int v2]) (rest := []) C (kX4_depth l G b σ v2 r4 hr4) (cwV 1 hts gX4_deepest_X4_depth rfl rfl rfl (by decide +kernel) ⟨Nat.le_of_ble_eq_true rfl, Nat.le_of_ble_eq_true rfl⟩) (rcv_X4 X hK) X rfl hl.1 rfl (Nat.le_of_ble_eq_true rfl) dX4_deepest_25 ⟨Nat.zero_le _, Nat.zero_le _⟩ ?_
          refine lv_goto (tgt := 32) hx hb dX4_deepest_28 (by decide) ?_
          refine lv_istore_n (lv' := [(1, .int r4), (0, .ref b), (2, .int v2)]) hx hb dX4_deepest_32 rfl hl (by decide) rfl (fun ls hl => ?_)
          refine lv_iinc (v := v2 + 1) (lv' := [(2, .int (v2 + 1)), (1, .int r4), (0, .ref b)]) hx hb dX4_deepest_33 hl (k := 2) rfl rfl (by decide) rfl (fun ls hl => ?_)
          refine lv_goto (tgt := 4) hx hb dX4_deepest_36 (by decide) ?_
          exact ih _ _ _ h (lv_sub hl [2, 1, 0] rfl)
  unfold fX4_deepest at h
  refine lv_iconst (v := 0) hx hb dX4_deepest_0 (by decide) ?_
  refine lv_istore_n (lv' := [(1, .int 0), (0, .ref b)]) hx hb dX4_deepest_1 rfl hl (by decide) rfl (fun ls hl => ?_)
  refine lv_iconst (v := 0) hx hb dX4_deepest_2 (by decide) ?_
  refine lv_istore_n (lv' := [(2, .int 0), (1, .int 0), (0, .ref b)]) hx hb dX4_deepest_3 rfl hl (by decide) rfl (fun ls hl => ?_)
  exact loop4 _ _ _ _ h (lv_sub hl [2, 1, 0] rfl)

theorem in_X4_ends : ∀ w ∈ wsX40, w ∈ wsX4_ends := by decide +kernel
def fX4_ends_4 : Nat → St → Int32 → Int32 → Option (Int32)
  | 0, _, _, _ => none
  | n + 1, σ, v1, v2 => if (σ 1 5) ≤ v2 then (some v1) else ((fX4_vouchers σ v2).bind (fun r2 => if r2 = 0 then (fX4_ends_4 n σ (v1 + 1) (v2 + 1)) else (fX4_ends_4 n σ (v1 + 0) (v2 + 1))))
theorem fX4_ends_4_0 (σ : St) (v1 : Int32) (v2 : Int32) : fX4_ends_4 0 σ v1 v2 = none := rfl
theorem fX4_ends_4_s (n : Nat) (σ : St) (v1 : Int32) (v2 : Int32) : fX4_ends_4 (n + 1) σ v1 v2 = (if (σ 1 5) ≤ v2 then (some v1) else ((fX4_vouchers σ v2).bind (fun r2 => if r2 = 0 then (fX4_ends_4 n σ (v1 + 1) (v2 + 1)) else (fX4_ends_4 n σ (v1 + 0) (v2 + 1))))) := rfl
def fX4_ends (σ : St) : Option (Int32) := fX4_ends_4 1000 σ 0 0
set_option maxHeartbeats 4000000 in
set_option maxRecDepth 100000 in
theorem kX4_ends (l : Launch) (G : Gx) (b : Nat) (σ : St) (r : Int32) (h : fX4_ends σ = some r) : Met l yX4_ends wsX4_ends (rmN 2) (pre G [.ref b] (mAt G b σ)) (QcRead r) 0 0 (fun _ => False) := by
  refine Met.ofW (cc := cX4_ends) (maxL := 3) (ret := (some .int)) (by decide) rfl ?_
  intro p e s m args below meth c s₁ B hml hv
  obtain ⟨rfl, X, hK⟩ := hv
  have hx := B.exec
  have hb := B.bytes
  have hr := B.returns
  have hts := atoms_spec (ws := wsX4_ends) B.pre
  have hown : s.vm.findClass RX4 = some m.cls := findClass_of_methodNamed B.named
  have hlocks := B.notSynchronized
  have C : Cx p m c cX4_ends 3 s _ wsX4_ends RX4 G := ⟨⟨hx, hb, hml, hown, hts⟩, hK⟩
  have hin : ∀ w ∈ wsX40, w ∈ wsX4_ends := in_X4_ends
  have hl := lv_entry ([.ref b]) (n := 3) (Nat.le_of_ble_eq_true rfl)
  rw [lg_entry_eq]
  generalize (lg_sl ([.ref b]) ++ List.replicate (3 - (lg_sl ([.ref b])).length) Slot.unset).toArray = ls at hl ⊢
  have hl : lv_has ls 3 [(0, .ref b)] := hl
  have loop4 : ∀ (n : Nat) (v1 : Int32) (v2 : Int32) (ls : Array Slot), fX4_ends_4 n σ v1 v2 = some r → lv_has ls 3 [(0, .ref b), (1, .int v1), (2, .int v2)] → W p l e (rmN 2) s m #[Value.ref b] below meth c s.heap [] 0 0 (MQ below (QcRead r) #[Value.ref b] s 0 0 (fun _ => False)) (F0 m 4 ls []) := by
    intro n
    induction n with
    | zero =>
      intro v1 v2 ls h hl
      rw [fX4_ends_4_0] at h
      cases h
    | succ n ih =>
      intro v1 v2 ls h hl
      rw [fX4_ends_4_s] at h
      refine lv_iload_n hx hb dX4_ends_4 rfl (lv_at hl 2 rfl) ?_
      refine lv_aload_n hx hb dX4_ends_5 rfl (lv_at hl 0 rfl) ?_
      refine gt_X4_1 C hin X 1 rfl dX4_ends_6 ?_
      refine lv_iconst (v := 5) hx hb dX4_ends_9 (by decide) ?_
      refine al_X4_1 (j := 5) C X rfl (by decide) dX4_ends_10 ?_
      refine lv_icmp_ge (tgt := 36) hx hb dX4_ends_11 (by decide) (fun c1 => ?_) (fun c1 => ?_)
      · have h := ip h c1
        refine lv_iload_n hx hb dX4_ends_36 rfl (lv_at hl 1 rfl) ?_
        have h := so h
        subst h
        exact W.iret hx hb hr (fun t ht _ => ⟨rfl, ht⟩) (fun q h => absurd h List.not_mem_nil) dX4_ends_37
      · have h := iq h c1
        refine lv_iload_n hx hb dX4_ends_14 rfl (lv_at hl 1 rfl) ?_
        refine lv_aload_n hx hb dX4_ends_15 rfl (lv_at hl 0 rfl) ?_
        refine lv_iload_n hx hb dX4_ends_16 rfl (lv_at hl 2 rfl) ?_
        obtain ⟨r2, hr2, h⟩ := ob h
        refine rowV (As := [.int v2]) (rest := [.int v1]) C (kX4_vouchers l G b σ v2 r2 hr2) (cwV 1 hts gX4_ends_X4_vouchers rfl rfl rfl (by decide +kernel) ⟨Nat.le_of_ble_eq_true rfl, Nat.le_of_ble_eq_true rfl⟩) (rcv_X4 X hK) X rfl hl.1 rfl (Nat.le_of_ble_eq_true rfl) dX4_ends_17 ⟨Nat.zero_le _, Nat.zero_le _⟩ ?_
        refine lv_if_ne (tgt := 27) hx hb dX4_ends_20 (by decide) (fun c3 => ?_) (fun c3 => ?_)
        · have h := iq h c3
          refine lv_iconst (v := 0) hx hb dX4_ends_27 (by decide) ?_
          refine lv_iadd hx hb dX4_ends_28 ?_
          refine lv_istore_n (lv' := [(1, .int (v1 + 0)), (0, .ref b), (2, .int v2)]) hx hb dX4_ends_29 rfl hl (by decide) rfl (fun ls hl => ?_)
          refine lv_iinc (v := v2 + 1) (lv' := [(2, .int (v2 + 1)), (1, .int (v1 + 0)), (0, .ref b)]) hx hb dX4_ends_30 hl (k := 2) rfl rfl (by decide) rfl (fun ls hl => ?_)
          refine lv_goto (tgt := 4) hx hb dX4_ends_33 (by decide) ?_
          exact ih _ _ _ h (lv_sub hl [2, 1, 0] rfl)
        · have h := ip h c3
          refine lv_iconst (v := 1) hx hb dX4_ends_23 (by decide) ?_
          refine lv_goto (tgt := 28) hx hb dX4_ends_24 (by decide) ?_
          refine lv_iadd hx hb dX4_ends_28 ?_
          refine lv_istore_n (lv' := [(1, .int (v1 + 1)), (0, .ref b), (2, .int v2)]) hx hb dX4_ends_29 rfl hl (by decide) rfl (fun ls hl => ?_)
          refine lv_iinc (v := v2 + 1) (lv' := [(2, .int (v2 + 1)), (1, .int (v1 + 1)), (0, .ref b)]) hx hb dX4_ends_30 hl (k := 2) rfl rfl (by decide) rfl (fun ls hl => ?_)
          refine lv_goto (tgt := 4) hx hb dX4_ends_33 (by decide) ?_
          exact ih _ _ _ h (lv_sub hl [2, 1, 0] rfl)
  unfold fX4_ends at h
  refine lv_iconst (v := 0) hx hb dX4_ends_0 (by decide) ?_
  refine lv_istore_n (lv' := [(1, .int 0), (0, .ref b)]) hx hb dX4_ends_1 rfl hl (by decide) rfl (fun ls hl => ?_)
  refine lv_iconst (v := 0) hx hb dX4_ends_2 (by decide) ?_
  refine lv_istore_n (lv' := [(2, .int 0), (1, .int 0), (0, .ref b)]) hx hb dX4_ends_3 rfl hl (by decide) rfl (fun ls hl => ?_)
  exact loop4 _ _ _ _ h (lv_sub hl [2, 1, 0] rfl)

theorem in_X4_found : ∀ w ∈ wsX40, w ∈ wsX4_found := by decide +kernel
def fX4_found_4 : Nat → St → Int32 → Int32 → Option (Int32)
  | 0, _, _, _ => none
  | n + 1, σ, v1, v2 => if (σ 1 5) ≤ v2 then (some v1) else ((fX4_of σ v2 4).bind (fun r2 => if r2 = 1 then ((fX4_of σ v2 1).bind (fun r4 => fX4_found_4 n σ (v1 + r4) (v2 + 1))) else (fX4_found_4 n σ (v1 + 0) (v2 + 1))))
theorem fX4_found_4_0 (σ : St) (v1 : Int32) (v2 : Int32) : fX4_found_4 0 σ v1 v2 = none := rfl
theorem fX4_found_4_s (n : Nat) (σ : St) (v1 : Int32) (v2 : Int32) : fX4_found_4 (n + 1) σ v1 v2 = (if (σ 1 5) ≤ v2 then (some v1) else ((fX4_of σ v2 4).bind (fun r2 => if r2 = 1 then ((fX4_of σ v2 1).bind (fun r4 => fX4_found_4 n σ (v1 + r4) (v2 + 1))) else (fX4_found_4 n σ (v1 + 0) (v2 + 1))))) := rfl
def fX4_found (σ : St) : Option (Int32) := fX4_found_4 1000 σ 0 0
set_option maxHeartbeats 4000000 in
set_option maxRecDepth 100000 in
theorem kX4_found (l : Launch) (G : Gx) (b : Nat) (σ : St) (r : Int32) (h : fX4_found σ = some r) : Met l yX4_found wsX4_found (rmN 1) (pre G [.ref b] (mAt G b σ)) (QcRead r) 0 0 (fun _ => False) := by
  refine Met.ofW (cc := cX4_found) (maxL := 3) (ret := (some .int)) (by decide) rfl ?_
  intro p e s m args below meth c s₁ B hml hv
  obtain ⟨rfl, X, hK⟩ := hv
  have hx := B.exec
  have hb := B.bytes
  have hr := B.returns
  have hts := atoms_spec (ws := wsX4_found) B.pre
  have hown : s.vm.findClass RX4 = some m.cls := findClass_of_methodNamed B.named
  have hlocks := B.notSynchronized
  have C : Cx p m c cX4_found 3 s _ wsX4_found RX4 G := ⟨⟨hx, hb, hml, hown, hts⟩, hK⟩
  have hin : ∀ w ∈ wsX40, w ∈ wsX4_found := in_X4_found
  have hl := lv_entry ([.ref b]) (n := 3) (Nat.le_of_ble_eq_true rfl)
  rw [lg_entry_eq]
  generalize (lg_sl ([.ref b]) ++ List.replicate (3 - (lg_sl ([.ref b])).length) Slot.unset).toArray = ls at hl ⊢
  have hl : lv_has ls 3 [(0, .ref b)] := hl
  have loop4 : ∀ (n : Nat) (v1 : Int32) (v2 : Int32) (ls : Array Slot), fX4_found_4 n σ v1 v2 = some r → lv_has ls 3 [(0, .ref b), (1, .int v1), (2, .int v2)] → W p l e (rmN 1) s m #[Value.ref b] below meth c s.heap [] 0 0 (MQ below (QcRead r) #[Value.ref b] s 0 0 (fun _ => False)) (F0 m 4 ls []) := by
    intro n
    induction n with
    | zero =>
      intro v1 v2 ls h hl
      rw [fX4_found_4_0] at h
      cases h
    | succ n ih =>
      intro v1 v2 ls h hl
      rw [fX4_found_4_s] at h
      refine lv_iload_n hx hb dX4_found_4 rfl (lv_at hl 2 rfl) ?_
      refine lv_aload_n hx hb dX4_found_5 rfl (lv_at hl 0 rfl) ?_
      refine gt_X4_1 C hin X 1 rfl dX4_found_6 ?_
      refine lv_iconst (v := 5) hx hb dX4_found_9 (by decide) ?_
      refine al_X4_1 (j := 5) C X rfl (by decide) dX4_found_10 ?_
      refine lv_icmp_ge (tgt := 43) hx hb dX4_found_11 (by decide) (fun c1 => ?_) (fun c1 => ?_)
      · have h := ip h c1
        refine lv_iload_n hx hb dX4_found_43 rfl (lv_at hl 1 rfl) ?_
        have h := so h
        subst h
        exact W.iret hx hb hr (fun t ht _ => ⟨rfl, ht⟩) (fun q h => absurd h List.not_mem_nil) dX4_found_44
      · have h := iq h c1
        refine lv_iload_n hx hb dX4_found_14 rfl (lv_at hl 1 rfl) ?_
        refine lv_aload_n hx hb dX4_found_15 rfl (lv_at hl 0 rfl) ?_
        refine lv_iload_n hx hb dX4_found_16 rfl (lv_at hl 2 rfl) ?_
        refine lv_iconst (v := 4) hx hb dX4_found_17 (by decide) ?_
        obtain ⟨r2, hr2, h⟩ := ob h
        refine rowV (As := [.int v2, .int 4]) (rest := [.int v1]) C (kX4_of l G b σ v2 4 r2 hr2) (cwV 2 hts gX4_found_X4_of rfl rfl rfl (by decide +kernel) ⟨Nat.le_of_ble_eq_true rfl, Nat.le_of_ble_eq_true rfl⟩) (rcv_X4 X hK) X rfl hl.1 rfl (Nat.le_of_ble_eq_true rfl) dX4_found_18 ⟨Nat.zero_le _, Nat.zero_le _⟩ ?_
        refine lv_iconst (v := 1) hx hb dX4_found_21 (by decide) ?_
        refine lv_icmp_ne (tgt := 34) hx hb dX4_found_22 (by decide) (fun c3 => ?_) (fun c3 => ?_)
        · have h := iq h c3
          refine lv_iconst (v := 0) hx hb dX4_found_34 (by decide) ?_
          refine lv_iadd hx hb dX4_found_35 ?_
          refine lv_istore_n (lv' := [(1, .int (v1 + 0)), (0, .ref b), (2, .int v2)]) hx hb dX4_found_36 rfl hl (by decide) rfl (fun ls hl => ?_)
          refine lv_iinc (v := v2 + 1) (lv' := [(2, .int (v2 + 1)), (1, .int (v1 + 0)), (0, .ref b)]) hx hb dX4_found_37 hl (k := 2) rfl rfl (by decide) rfl (fun ls hl => ?_)
          refine lv_goto (tgt := 4) hx hb dX4_found_40 (by decide) ?_
          exact ih _ _ _ h (lv_sub hl [2, 1, 0] rfl)
        · have h := ip h c3
          refine lv_aload_n hx hb dX4_found_25 rfl (lv_at hl 0 rfl) ?_
          refine lv_iload_n hx hb dX4_found_26 rfl (lv_at hl 2 rfl) ?_
          refine lv_iconst (v := 1) hx hb dX4_found_27 (by decide) ?_
          obtain ⟨r4, hr4, h⟩ := ob h
          refine rowV (As := [.int v2, .int 1]) (rest := [.int v1]) C (kX4_of l G b σ v2 1 r4 hr4) (cwV 2 hts gX4_found_X4_of rfl rfl rfl (by decide +kernel) ⟨Nat.le_of_ble_eq_true rfl, Nat.le_of_ble_eq_true rfl⟩) (rcv_X4 X hK) X rfl hl.1 rfl (Nat.le_of_ble_eq_true rfl) dX4_found_28 ⟨Nat.zero_le _, Nat.zero_le _⟩ ?_
          refine lv_goto (tgt := 35) hx hb dX4_found_31 (by decide) ?_
          refine lv_iadd hx hb dX4_found_35 ?_
          refine lv_istore_n (lv' := [(1, .int (v1 + r4)), (0, .ref b), (2, .int v2)]) hx hb dX4_found_36 rfl hl (by decide) rfl (fun ls hl => ?_)
          refine lv_iinc (v := v2 + 1) (lv' := [(2, .int (v2 + 1)), (1, .int (v1 + r4)), (0, .ref b)]) hx hb dX4_found_37 hl (k := 2) rfl rfl (by decide) rfl (fun ls hl => ?_)
          refine lv_goto (tgt := 4) hx hb dX4_found_40 (by decide) ?_
          exact ih _ _ _ h (lv_sub hl [2, 1, 0] rfl)
  unfold fX4_found at h
  refine lv_iconst (v := 0) hx hb dX4_found_0 (by decide) ?_
  refine lv_istore_n (lv' := [(1, .int 0), (0, .ref b)]) hx hb dX4_found_1 rfl hl (by decide) rfl (fun ls hl => ?_)
  refine lv_iconst (v := 0) hx hb dX4_found_2 (by decide) ?_
  refine lv_istore_n (lv' := [(2, .int 0), (1, .int 0), (0, .ref b)]) hx hb dX4_found_3 rfl hl (by decide) rfl (fun ls hl => ?_)
  exact loop4 _ _ _ _ h (lv_sub hl [2, 1, 0] rfl)

theorem in_X4_tellsTotal : ∀ w ∈ wsX40, w ∈ wsX4_tellsTotal := by decide +kernel
def fX4_tellsTotal (σ : St) (p1 : Int32) : Option (Int32) := if p1 = 6 then ((fX4_sumOf σ 4).bind (fun r2 => some r2)) else if p1 = 7 then ((fX4_sumOf σ 5).bind (fun r4 => some r4)) else if p1 = 8 then ((fX4_sumOf σ 6).bind (fun r6 => some r6)) else if p1 = 9 then ((fX4_brokenMany σ).bind (fun r8 => some r8)) else if p1 = 10 then (some (σ 1 6)) else if p1 = 11 then ((fX4_sumOf σ 7).bind (fun r11 => some r11)) else if p1 = 12 then ((fX4_deepest σ).bind (fun r13 => some r13)) else if p1 = 13 then ((fX4_ends σ).bind (fun r15 => some r15)) else if p1 = 14 then ((fX4_found σ).bind (fun r17 => some r17)) else if p1 = 15 then (some (σ 4 0)) else if p1 = 16 then (some (σ 8 0)) else (if oob p1 200 then none else some (σ 1 p1.toNatClampNeg))
set_option maxHeartbeats 4000000 in
set_option maxRecDepth 100000 in
theorem kX4_tellsTotal (l : Launch) (G : Gx) (b : Nat) (σ : St) (p1 : Int32) (r : Int32) (h : fX4_tellsTotal σ p1 = some r) : Met l yX4_tellsTotal wsX4_tellsTotal (rmN 5) (pre G [.ref b, .int p1] (mAt G b σ)) (QcRead r) 0 0 (fun _ => False) := by
  refine Met.ofW (cc := cX4_tellsTotal) (maxL := 2) (ret := (some .int)) (by decide) rfl ?_
  intro p e s m args below meth c s₁ B hml hv
  obtain ⟨rfl, X, hK⟩ := hv
  have hx := B.exec
  have hb := B.bytes
  have hr := B.returns
  have hts := atoms_spec (ws := wsX4_tellsTotal) B.pre
  have hown : s.vm.findClass RX4 = some m.cls := findClass_of_methodNamed B.named
  have hlocks := B.notSynchronized
  have C : Cx p m c cX4_tellsTotal 2 s _ wsX4_tellsTotal RX4 G := ⟨⟨hx, hb, hml, hown, hts⟩, hK⟩
  have hin : ∀ w ∈ wsX40, w ∈ wsX4_tellsTotal := in_X4_tellsTotal
  have hl := lv_entry ([.ref b, .int p1]) (n := 2) (Nat.le_of_ble_eq_true rfl)
  rw [lg_entry_eq]
  generalize (lg_sl ([.ref b, .int p1]) ++ List.replicate (2 - (lg_sl ([.ref b, .int p1])).length) Slot.unset).toArray = ls at hl ⊢
  have hl : lv_has ls 2 [(0, .ref b), (1, .int p1)] := hl
  unfold fX4_tellsTotal at h
  refine lv_iload_n hx hb dX4_tellsTotal_0 rfl (lv_at hl 1 rfl) ?_
  by_cases c1 : p1 = 6
  · have h := ip h c1
    refine rowTab (K := 6) (off := 59) (tgt := 60) hx hb c1 dX4_tellsTotal_1 (by decide) (by decide) (by decide) (by decide) ?_
    refine lv_aload_n hx hb dX4_tellsTotal_60 rfl (lv_at hl 0 rfl) ?_
    refine lv_iconst (v := 4) hx hb dX4_tellsTotal_61 (by decide) ?_
    obtain ⟨r2, hr2, h⟩ := ob h
    refine rowV (As := [.int 4]) (rest := []) C (kX4_sumOf l G b σ 4 r2 hr2) (cwV 1 hts gX4_tellsTotal_X4_sumOf rfl rfl rfl (by decide +kernel) ⟨Nat.le_of_ble_eq_true rfl, Nat.le_of_ble_eq_true rfl⟩) (rcv_X4 X hK) X rfl hl.1 rfl (Nat.le_of_ble_eq_true rfl) dX4_tellsTotal_62 ⟨Nat.zero_le _, Nat.zero_le _⟩ ?_
    have h := so h
    subst h
    exact W.iret hx hb hr (fun t ht _ => ⟨rfl, ht⟩) (fun q h => absurd h List.not_mem_nil) dX4_tellsTotal_65
  · have h := iq h c1
    by_cases c3 : p1 = 7
    · have h := ip h c3
      refine rowTab (K := 7) (off := 65) (tgt := 66) hx hb c3 dX4_tellsTotal_1 (by decide) (by decide) (by decide) (by decide) ?_
      refine lv_aload_n hx hb dX4_tellsTotal_66 rfl (lv_at hl 0 rfl) ?_
      refine lv_iconst (v := 5) hx hb dX4_tellsTotal_67 (by decide) ?_
      obtain ⟨r4, hr4, h⟩ := ob h
      refine rowV (As := [.int 5]) (rest := []) C (kX4_sumOf l G b σ 5 r4 hr4) (cwV 1 hts gX4_tellsTotal_X4_sumOf rfl rfl rfl (by decide +kernel) ⟨Nat.le_of_ble_eq_true rfl, Nat.le_of_ble_eq_true rfl⟩) (rcv_X4 X hK) X rfl hl.1 rfl (Nat.le_of_ble_eq_true rfl) dX4_tellsTotal_68 ⟨Nat.zero_le _, Nat.zero_le _⟩ ?_
      have h := so h
      subst h
      exact W.iret hx hb hr (fun t ht _ => ⟨rfl, ht⟩) (fun q h => absurd h List.not_mem_nil) dX4_tellsTotal_71
    · have h := iq h c3
      by_cases c5 : p1 = 8
      · have h := ip h c5
        refine rowTab (K := 8) (off := 71) (tgt := 72) hx hb c5 dX4_tellsTotal_1 (by decide) (by decide) (by decide) (by decide) ?_
        refine lv_aload_n hx hb dX4_tellsTotal_72 rfl (lv_at hl 0 rfl) ?_
        refine lv_bipush (v := 6) hx hb dX4_tellsTotal_73 (by decide) ?_
        obtain ⟨r6, hr6, h⟩ := ob h
        refine rowV (As := [.int 6]) (rest := []) C (kX4_sumOf l G b σ 6 r6 hr6) (cwV 1 hts gX4_tellsTotal_X4_sumOf rfl rfl rfl (by decide +kernel) ⟨Nat.le_of_ble_eq_true rfl, Nat.le_of_ble_eq_true rfl⟩) (rcv_X4 X hK) X rfl hl.1 rfl (Nat.le_of_ble_eq_true rfl) dX4_tellsTotal_75 ⟨Nat.zero_le _, Nat.zero_le _⟩ ?_
        have h := so h
        subst h
        exact W.iret hx hb hr (fun t ht _ => ⟨rfl, ht⟩) (fun q h => absurd h List.not_mem_nil) dX4_tellsTotal_78
      · have h := iq h c5
        by_cases c7 : p1 = 9
        · have h := ip h c7
          refine rowTab (K := 9) (off := 78) (tgt := 79) hx hb c7 dX4_tellsTotal_1 (by decide) (by decide) (by decide) (by decide) ?_
          refine lv_aload_n hx hb dX4_tellsTotal_79 rfl (lv_at hl 0 rfl) ?_
          obtain ⟨r8, hr8, h⟩ := ob h
          refine rowV (As := []) (rest := []) C (kX4_brokenMany l G b σ r8 hr8) (cwV 0 hts gX4_tellsTotal_X4_brokenMany rfl rfl rfl (by decide +kernel) ⟨Nat.le_of_ble_eq_true rfl, Nat.le_of_ble_eq_true rfl⟩) (rcv_X4 X hK) X rfl hl.1 rfl (Nat.le_of_ble_eq_true rfl) dX4_tellsTotal_80 ⟨Nat.zero_le _, Nat.zero_le _⟩ ?_
          have h := so h
          subst h
          exact W.iret hx hb hr (fun t ht _ => ⟨rfl, ht⟩) (fun q h => absurd h List.not_mem_nil) dX4_tellsTotal_83
        · have h := iq h c7
          by_cases c9 : p1 = 10
          · have h := ip h c9
            refine rowTab (K := 10) (off := 83) (tgt := 84) hx hb c9 dX4_tellsTotal_1 (by decide) (by decide) (by decide) (by decide) ?_
            refine lv_aload_n hx hb dX4_tellsTotal_84 rfl (lv_at hl 0 rfl) ?_
            refine gt_X4_1 C hin X 1 rfl dX4_tellsTotal_85 ?_
            refine lv_bipush (v := 6) hx hb dX4_tellsTotal_88 (by decide) ?_
            refine al_X4_1 (j := 6) C X rfl (by decide) dX4_tellsTotal_90 ?_
            have h := so h
            subst h
            exact W.iret hx hb hr (fun t ht _ => ⟨rfl, ht⟩) (fun q h => absurd h List.not_mem_nil) dX4_tellsTotal_91
          · have h := iq h c9
            by_cases c10 : p1 = 11
            · have h := ip h c10
              refine rowTab (K := 11) (off := 91) (tgt := 92) hx hb c10 dX4_tellsTotal_1 (by decide) (by decide) (by decide) (by decide) ?_
              refine lv_aload_n hx hb dX4_tellsTotal_92 rfl (lv_at hl 0 rfl) ?_
              refine lv_bipush (v := 7) hx hb dX4_tellsTotal_93 (by decide) ?_
              obtain ⟨r11, hr11, h⟩ := ob h
              refine rowV (As := [.int 7]) (rest := []) C (kX4_sumOf l G b σ 7 r11 hr11) (cwV 1 hts gX4_tellsTotal_X4_sumOf rfl rfl rfl (by decide +kernel) ⟨Nat.le_of_ble_eq_true rfl, Nat.le_of_ble_eq_true rfl⟩) (rcv_X4 X hK) X rfl hl.1 rfl (Nat.le_of_ble_eq_true rfl) dX4_tellsTotal_95 ⟨Nat.zero_le _, Nat.zero_le _⟩ ?_
              have h := so h
              subst h
              exact W.iret hx hb hr (fun t ht _ => ⟨rfl, ht⟩) (fun q h => absurd h List.not_mem_nil) dX4_tellsTotal_98
            · have h := iq h c10
              by_cases c12 : p1 = 12
              · have h := ip h c12
                refine rowTab (K := 12) (off := 98) (tgt := 99) hx hb c12 dX4_tellsTotal_1 (by decide) (by decide) (by decide) (by decide) ?_
                refine lv_aload_n hx hb dX4_tellsTotal_99 rfl (lv_at hl 0 rfl) ?_
                obtain ⟨r13, hr13, h⟩ := ob h
                refine rowV (As := []) (rest := []) C (kX4_deepest l G b σ r13 hr13) (cwV 0 hts gX4_tellsTotal_X4_deepest rfl rfl rfl (by decide +kernel) ⟨Nat.le_of_ble_eq_true rfl, Nat.le_of_ble_eq_true rfl⟩) (rcv_X4 X hK) X rfl hl.1 rfl (Nat.le_of_ble_eq_true rfl) dX4_tellsTotal_100 ⟨Nat.zero_le _, Nat.zero_le _⟩ ?_
                have h := so h
                subst h
                exact W.iret hx hb hr (fun t ht _ => ⟨rfl, ht⟩) (fun q h => absurd h List.not_mem_nil) dX4_tellsTotal_103
              · have h := iq h c12
                by_cases c14 : p1 = 13
                · have h := ip h c14
                  refine rowTab (K := 13) (off := 103) (tgt := 104) hx hb c14 dX4_tellsTotal_1 (by decide) (by decide) (by decide) (by decide) ?_
                  refine lv_aload_n hx hb dX4_tellsTotal_104 rfl (lv_at hl 0 rfl) ?_
                  obtain ⟨r15, hr15, h⟩ := ob h
                  refine rowV (As := []) (rest := []) C (kX4_ends l G b σ r15 hr15) (cwV 0 hts gX4_tellsTotal_X4_ends rfl rfl rfl (by decide +kernel) ⟨Nat.le_of_ble_eq_true rfl, Nat.le_of_ble_eq_true rfl⟩) (rcv_X4 X hK) X rfl hl.1 rfl (Nat.le_of_ble_eq_true rfl) dX4_tellsTotal_105 ⟨Nat.zero_le _, Nat.zero_le _⟩ ?_
                  have h := so h
                  subst h
                  exact W.iret hx hb hr (fun t ht _ => ⟨rfl, ht⟩) (fun q h => absurd h List.not_mem_nil) dX4_tellsTotal_108
                · have h := iq h c14
                  by_cases c16 : p1 = 14
                  · have h := ip h c16
                    refine rowTab (K := 14) (off := 108) (tgt := 109) hx hb c16 dX4_tellsTotal_1 (by decide) (by decide) (by decide) (by decide) ?_
                    refine lv_aload_n hx hb dX4_tellsTotal_109 rfl (lv_at hl 0 rfl) ?_
                    obtain ⟨r17, hr17, h⟩ := ob h
                    refine rowV (As := []) (rest := []) C (kX4_found l G b σ r17 hr17) (cwV 0 hts gX4_tellsTotal_X4_found rfl rfl rfl (by decide +kernel) ⟨Nat.le_of_ble_eq_true rfl, Nat.le_of_ble_eq_true rfl⟩) (rcv_X4 X hK) X rfl hl.1 rfl (Nat.le_of_ble_eq_true rfl) dX4_tellsTotal_110 ⟨Nat.zero_le _, Nat.zero_le _⟩ ?_
                    have h := so h
                    subst h
                    exact W.iret hx hb hr (fun t ht _ => ⟨rfl, ht⟩) (fun q h => absurd h List.not_mem_nil) dX4_tellsTotal_113
                  · have h := iq h c16
                    by_cases c18 : p1 = 15
                    · have h := ip h c18
                      refine rowTab (K := 15) (off := 113) (tgt := 114) hx hb c18 dX4_tellsTotal_1 (by decide) (by decide) (by decide) (by decide) ?_
                      refine lv_aload_n hx hb dX4_tellsTotal_114 rfl (lv_at hl 0 rfl) ?_
                      refine gt_X4_4 C hin X 2 rfl dX4_tellsTotal_115 ?_
                      have h := so h
                      subst h
                      exact W.iret hx hb hr (fun t ht _ => ⟨rfl, ht⟩) (fun q h => absurd h List.not_mem_nil) dX4_tellsTotal_118
                    · have h := iq h c18
                      by_cases c19 : p1 = 16
                      · have h := ip h c19
                        refine rowTab (K := 16) (off := 118) (tgt := 119) hx hb c19 dX4_tellsTotal_1 (by decide) (by decide) (by decide) (by decide) ?_
                        refine lv_aload_n hx hb dX4_tellsTotal_119 rfl (lv_at hl 0 rfl) ?_
                        refine gt_X4_8 C hin X 3 rfl dX4_tellsTotal_120 ?_
                        have h := so h
                        subst h
                        exact W.iret hx hb hr (fun t ht _ => ⟨rfl, ht⟩) (fun q h => absurd h List.not_mem_nil) dX4_tellsTotal_123
                      · have h := iq h c19
                        have c1t : ¬ p1.toInt = 6 := lv_neT c1 (by decide)
                        have c3t : ¬ p1.toInt = 7 := lv_neT c3 (by decide)
                        have c5t : ¬ p1.toInt = 8 := lv_neT c5 (by decide)
                        have c7t : ¬ p1.toInt = 9 := lv_neT c7 (by decide)
                        have c9t : ¬ p1.toInt = 10 := lv_neT c9 (by decide)
                        have c10t : ¬ p1.toInt = 11 := lv_neT c10 (by decide)
                        have c12t : ¬ p1.toInt = 12 := lv_neT c12 (by decide)
                        have c14t : ¬ p1.toInt = 13 := lv_neT c14 (by decide)
                        have c16t : ¬ p1.toInt = 14 := lv_neT c16 (by decide)
                        have c18t : ¬ p1.toInt = 15 := lv_neT c18 (by decide)
                        have c19t : ¬ p1.toInt = 16 := lv_neT c19 (by decide)
                        refine lv_tableOut (tgt := 124) hx hb dX4_tellsTotal_1 (by omega) (by decide) ?_
                        refine lv_aload_n hx hb dX4_tellsTotal_124 rfl (lv_at hl 0 rfl) ?_
                        refine gt_X4_1 C hin X 1 rfl dX4_tellsTotal_125 ?_
                        refine lv_iload_n hx hb dX4_tellsTotal_128 rfl (lv_at hl 1 rfl) ?_
                        obtain ⟨c20, h⟩ := og h
                        refine al_X4_1 C X rfl c20 dX4_tellsTotal_129 ?_
                        have h := so h
                        subst h
                        exact W.iret hx hb hr (fun t ht _ => ⟨rfl, ht⟩) (fun q h => absurd h List.not_mem_nil) dX4_tellsTotal_130

theorem in_X4_total : ∀ w ∈ wsX40, w ∈ wsX4_total := by decide +kernel
def fX4_total (σ : St) (p1 : Int32) : Option (Int32 × St) := (fX4_in p1 0 16).bind (fun r1 => if r1 = 0 then (some ((-2), up σ 0 0 0)) else ((fX4_tellsTotal (up σ 0 0 0) p1).bind (fun r3 => some (r3, up σ 0 0 0))))
set_option maxHeartbeats 4000000 in
set_option maxRecDepth 100000 in
theorem kX4_total (l : Launch) (G : Gx) (b : Nat) (σ : St) (p1 : Int32) (r : Int32) (σ' : St) (h : fX4_total σ p1 = some (r, σ')) : Met l yX4_total wsX4_total (rmN 6) (pre G [.ref b, .int p1] (mAt G b σ)) (QcW b (b + 7) (mAt G b σ') (some (.int r))) 0 0 (lw_Fr b (b + 7)) := by
  refine Met.ofW (cc := cX4_total) (maxL := 2) (ret := (some .int)) (by decide) rfl ?_
  intro p e s m args below meth c s₁ B hml hv
  obtain ⟨rfl, X, hK⟩ := hv
  have hx := B.exec
  have hb := B.bytes
  have hr := B.returns
  have hts := atoms_spec (ws := wsX4_total) B.pre
  have hown : s.vm.findClass RX4 = some m.cls := findClass_of_methodNamed B.named
  have hlocks := B.notSynchronized
  have C : Cx p m c cX4_total 2 s _ wsX4_total RX4 G := ⟨⟨hx, hb, hml, hown, hts⟩, hK⟩
  have hin : ∀ w ∈ wsX40, w ∈ wsX4_total := in_X4_total
  have hS : va_S (lw_Fr b (b + 7)) s.heap s.heap [] := va_S.rf
  have hl := lv_entry ([.ref b, .int p1]) (n := 2) (Nat.le_of_ble_eq_true rfl)
  rw [lg_entry_eq]
  generalize (lg_sl ([.ref b, .int p1]) ++ List.replicate (2 - (lg_sl ([.ref b, .int p1])).length) Slot.unset).toArray = ls at hl ⊢
  have hl : lv_has ls 2 [(0, .ref b), (1, .int p1)] := hl
  unfold fX4_total at h
  refine lv_aload_n hx hb dX4_total_0 rfl (lv_at hl 0 rfl) ?_
  refine lv_iconst (v := 0) hx hb dX4_total_1 (by decide) ?_
  refine pt_X4_0 C hin X hS 1 rfl dX4_total_2 (fun H locs X hS => ?_)
  refine lv_iload_n hx hb dX4_total_5 rfl (lv_at hl 1 rfl) ?_
  refine lv_iconst (v := 0) hx hb dX4_total_6 (by decide) ?_
  refine lv_bipush (v := 16) hx hb dX4_total_7 (by decide) ?_
  obtain ⟨r1, hr1, h⟩ := ob h
  refine rowS (As := [.int p1, .int 0, .int 16]) (rest := []) (B := fun _ => True) C (kX4_in l G p1 0 16 r1 hr1) (va_cwS 3 hts gX4_total_X4_in rfl rfl rfl (by decide +kernel) ⟨Nat.le_of_ble_eq_true rfl, Nat.le_of_ble_eq_true rfl⟩) trivial rfl hl.1 rfl (Nat.le_of_ble_eq_true rfl) dX4_total_9 ⟨Nat.zero_le _, Nat.zero_le _⟩ ?_
  refine lv_if_eq (tgt := 23) hx hb dX4_total_12 (by decide) (fun c2 => ?_) (fun c2 => ?_)
  · have h := ip h c2
    refine lv_bipush (v := (-2)) hx hb dX4_total_23 (by decide) ?_
    obtain ⟨h, h9⟩ := pr h
    subst h
    subst h9
    exact W.iret hx hb hr (fun t ht _ => ⟨rfl, by rw [ht]; exact X, hS.F ht⟩) hS.2.2 dX4_total_25
  · have h := iq h c2
    refine lv_aload_n hx hb dX4_total_15 rfl (lv_at hl 0 rfl) ?_
    refine lv_iload_n hx hb dX4_total_16 rfl (lv_at hl 1 rfl) ?_
    obtain ⟨r3, hr3, h⟩ := ob h
    refine rowV (As := [.int p1]) (rest := []) C (kX4_tellsTotal l G b (up σ 0 0 0) p1 r3 hr3) (cwV 1 hts gX4_total_X4_tellsTotal rfl rfl rfl (by decide +kernel) ⟨Nat.le_of_ble_eq_true rfl, Nat.le_of_ble_eq_true rfl⟩) (rcv_X4 X hK) X rfl hl.1 rfl (Nat.le_of_ble_eq_true rfl) dX4_total_17 ⟨Nat.zero_le _, Nat.zero_le _⟩ ?_
    refine lv_goto (tgt := 25) hx hb dX4_total_20 (by decide) ?_
    obtain ⟨h, h9⟩ := pr h
    subst h
    subst h9
    exact W.iret hx hb hr (fun t ht _ => ⟨rfl, by rw [ht]; exact X, hS.F ht⟩) hS.2.2 dX4_total_25

def fX4_wouldClear (σ : St) (p1 : Int32) : Option (Int32 × St) := (fX4_putAside σ).bind (fun σ2 => (fX4_clears σ2 p1).bind (fun q5 => (fX4_takeBack q5.2).bind (fun σ7 => some (q5.1, σ7))))
set_option maxHeartbeats 4000000 in
set_option maxRecDepth 100000 in
theorem kX4_wouldClear (l : Launch) (G : Gx) (b : Nat) (σ : St) (p1 : Int32) (r : Int32) (σ' : St) (h : fX4_wouldClear σ p1 = some (r, σ')) : Met l yX4_wouldClear wsX4_wouldClear (rmN 5) (pre G [.ref b, .int p1] (mAt G b σ)) (QcW b (b + 7) (mAt G b σ') (some (.int r))) 0 0 (lw_Fr b (b + 7)) := by
  refine Met.ofW (cc := cX4_wouldClear) (maxL := 3) (ret := (some .int)) (by decide) rfl ?_
  intro p e s m args below meth c s₁ B hml hv
  obtain ⟨rfl, X, hK⟩ := hv
  have hx := B.exec
  have hb := B.bytes
  have hr := B.returns
  have hts := atoms_spec (ws := wsX4_wouldClear) B.pre
  have hown : s.vm.findClass RX4 = some m.cls := findClass_of_methodNamed B.named
  have hlocks := B.notSynchronized
  have C : Cx p m c cX4_wouldClear 3 s _ wsX4_wouldClear RX4 G := ⟨⟨hx, hb, hml, hown, hts⟩, hK⟩
  have hS : va_S (lw_Fr b (b + 7)) s.heap s.heap [] := va_S.rf
  have hl := lv_entry ([.ref b, .int p1]) (n := 3) (Nat.le_of_ble_eq_true rfl)
  rw [lg_entry_eq]
  generalize (lg_sl ([.ref b, .int p1]) ++ List.replicate (3 - (lg_sl ([.ref b, .int p1])).length) Slot.unset).toArray = ls at hl ⊢
  have hl : lv_has ls 3 [(0, .ref b), (1, .int p1)] := hl
  unfold fX4_wouldClear at h
  refine lv_aload_n hx hb dX4_wouldClear_0 rfl (lv_at hl 0 rfl) ?_
  obtain ⟨σ2, hr1, h⟩ := ob h
  refine rowW (As := []) (rest := []) C (kX4_putAside l G b σ σ2 hr1) (cwV 0 hts gX4_wouldClear_X4_putAside rfl rfl rfl (by decide +kernel) ⟨Nat.le_of_ble_eq_true rfl, Nat.le_of_ble_eq_true rfl⟩) (rcv_X4 X hK) X hS (fun _ z => z) rfl hl.1 rfl (Nat.le_of_ble_eq_true rfl) dX4_wouldClear_1 ⟨Nat.zero_le _, Nat.zero_le _⟩ (fun H locs X hS _ _ => ?_)
  show W p l e _ s m _ below meth c H locs 0 0 _ (F0 m 4 ls [])
  refine lv_aload_n hx hb dX4_wouldClear_4 rfl (lv_at hl 0 rfl) ?_
  refine lv_iload_n hx hb dX4_wouldClear_5 rfl (lv_at hl 1 rfl) ?_
  obtain ⟨q5, hr3, h⟩ := ob h
  refine rowW (As := [.int p1]) (rest := []) C (kX4_clears l G b σ2 p1 q5.1 q5.2 hr3) (cwV 1 hts gX4_wouldClear_X4_clears rfl rfl rfl (by decide +kernel) ⟨Nat.le_of_ble_eq_true rfl, Nat.le_of_ble_eq_true rfl⟩) (rcv_X4 X hK) X hS (fun _ z => z) rfl hl.1 rfl (Nat.le_of_ble_eq_true rfl) dX4_wouldClear_6 ⟨Nat.zero_le _, Nat.zero_le _⟩ (fun H locs X hS _ _ => ?_)
  show W p l e _ s m _ below meth c H locs 0 0 _ (F0 m 9 ls [.int q5.1])
  refine lv_istore_n (lv' := [(2, .int q5.1), (0, .ref b), (1, .int p1)]) hx hb dX4_wouldClear_9 rfl hl (by decide) rfl (fun ls hl => ?_)
  refine lv_aload_n hx hb dX4_wouldClear_10 rfl (lv_at hl 1 rfl) ?_
  obtain ⟨σ7, hr6, h⟩ := ob h
  refine rowW (As := []) (rest := []) C (kX4_takeBack l G b q5.2 σ7 hr6) (cwV 0 hts gX4_wouldClear_X4_takeBack rfl rfl rfl (by decide +kernel) ⟨Nat.le_of_ble_eq_true rfl, Nat.le_of_ble_eq_true rfl⟩) (rcv_X4 X hK) X hS (fun _ z => z) rfl hl.1 rfl (Nat.le_of_ble_eq_true rfl) dX4_wouldClear_11 ⟨Nat.zero_le _, Nat.zero_le _⟩ (fun H locs X hS _ _ => ?_)
  show W p l e _ s m _ below meth c H locs 0 0 _ (F0 m 14 ls [])
  refine lv_iload_n hx hb dX4_wouldClear_14 rfl (lv_at hl 0 rfl) ?_
  obtain ⟨h, h9⟩ := pr h
  subst h
  subst h9
  exact W.iret hx hb hr (fun t ht _ => ⟨rfl, by rw [ht]; exact X, hS.F ht⟩) hS.2.2 dX4_wouldClear_15

theorem in_X4_finesOfOthers : ∀ w ∈ wsX40, w ∈ wsX4_finesOfOthers := by decide +kernel
def fX4_finesOfOthers_4 : Nat → St → Int32 → Int32 → Int32 → Option (Int32)
  | 0, _, _, _, _ => none
  | n + 1, σ, v1, v2, v3 => if (σ 1 5) ≤ v3 then (some v2) else ((fX4_of σ v3 2).bind (fun r2 => if r2 = v1 then ((fX4_isWhole σ v3).bind (fun r4 => if r4 = 0 then (fX4_finesOfOthers_4 n σ v1 (v2 + 0) (v3 + 1)) else (fX4_finesOfOthers_4 n σ v1 (v2 + (σ 1 4)) (v3 + 1)))) else (fX4_finesOfOthers_4 n σ v1 (v2 + 0) (v3 + 1))))
theorem fX4_finesOfOthers_4_0 (σ : St) (v1 : Int32) (v2 : Int32) (v3 : Int32) : fX4_finesOfOthers_4 0 σ v1 v2 v3 = none := rfl
theorem fX4_finesOfOthers_4_s (n : Nat) (σ : St) (v1 : Int32) (v2 : Int32) (v3 : Int32) : fX4_finesOfOthers_4 (n + 1) σ v1 v2 v3 = (if (σ 1 5) ≤ v3 then (some v2) else ((fX4_of σ v3 2).bind (fun r2 => if r2 = v1 then ((fX4_isWhole σ v3).bind (fun r4 => if r4 = 0 then (fX4_finesOfOthers_4 n σ v1 (v2 + 0) (v3 + 1)) else (fX4_finesOfOthers_4 n σ v1 (v2 + (σ 1 4)) (v3 + 1)))) else (fX4_finesOfOthers_4 n σ v1 (v2 + 0) (v3 + 1))))) := rfl
def fX4_finesOfOthers (σ : St) (p1 : Int32) : Option (Int32) := fX4_finesOfOthers_4 1000 σ p1 0 0
set_option maxHeartbeats 4000000 in
set_option maxRecDepth 100000 in
theorem kX4_finesOfOthers (l : Launch) (G : Gx) (b : Nat) (σ : St) (p1 : Int32) (r : Int32) (h : fX4_finesOfOthers σ p1 = some r) : Met l yX4_finesOfOthers wsX4_finesOfOthers (rmN 4) (pre G [.ref b, .int p1] (mAt G b σ)) (QcRead r) 0 0 (fun _ => False) := by
  refine Met.ofW (cc := cX4_finesOfOthers) (maxL := 4) (ret := (some .int)) (by decide) rfl ?_
  intro p e s m args below meth c s₁ B hml hv
  obtain ⟨rfl, X, hK⟩ := hv
  have hx := B.exec
  have hb := B.bytes
  have hr := B.returns
  have hts := atoms_spec (ws := wsX4_finesOfOthers) B.pre
  have hown : s.vm.findClass RX4 = some m.cls := findClass_of_methodNamed B.named
  have hlocks := B.notSynchronized
  have C : Cx p m c cX4_finesOfOthers 4 s _ wsX4_finesOfOthers RX4 G := ⟨⟨hx, hb, hml, hown, hts⟩, hK⟩
  have hin : ∀ w ∈ wsX40, w ∈ wsX4_finesOfOthers := in_X4_finesOfOthers
  have hl := lv_entry ([.ref b, .int p1]) (n := 4) (Nat.le_of_ble_eq_true rfl)
  rw [lg_entry_eq]
  generalize (lg_sl ([.ref b, .int p1]) ++ List.replicate (4 - (lg_sl ([.ref b, .int p1])).length) Slot.unset).toArray = ls at hl ⊢
  have hl : lv_has ls 4 [(0, .ref b), (1, .int p1)] := hl
  have loop4 : ∀ (n : Nat) (v1 : Int32) (v2 : Int32) (v3 : Int32) (ls : Array Slot), fX4_finesOfOthers_4 n σ v1 v2 v3 = some r → lv_has ls 4 [(0, .ref b), (1, .int v1), (2, .int v2), (3, .int v3)] → W p l e (rmN 4) s m #[Value.ref b, Value.int p1] below meth c s.heap [] 0 0 (MQ below (QcRead r) #[Value.ref b, Value.int p1] s 0 0 (fun _ => False)) (F0 m 4 ls []) := by
    intro n
    induction n with
    | zero =>
      intro v1 v2 v3 ls h hl
      rw [fX4_finesOfOthers_4_0] at h
      cases h
    | succ n ih =>
      intro v1 v2 v3 ls h hl
      rw [fX4_finesOfOthers_4_s] at h
      refine lv_iload_n hx hb dX4_finesOfOthers_4 rfl (lv_at hl 3 rfl) ?_
      refine lv_aload_n hx hb dX4_finesOfOthers_5 rfl (lv_at hl 0 rfl) ?_
      refine gt_X4_1 C hin X 1 rfl dX4_finesOfOthers_6 ?_
      refine lv_iconst (v := 5) hx hb dX4_finesOfOthers_9 (by decide) ?_
      refine al_X4_1 (j := 5) C X rfl (by decide) dX4_finesOfOthers_10 ?_
      refine lv_icmp_ge (tgt := 51) hx hb dX4_finesOfOthers_11 (by decide) (fun c1 => ?_) (fun c1 => ?_)
      · have h := ip h c1
        refine lv_iload_n hx hb dX4_finesOfOthers_51 rfl (lv_at hl 2 rfl) ?_
        have h := so h
        subst h
        exact W.iret hx hb hr (fun t ht _ => ⟨rfl, ht⟩) (fun q h => absurd h List.not_mem_nil) dX4_finesOfOthers_52
      · have h := iq h c1
        refine lv_iload_n hx hb dX4_finesOfOthers_14 rfl (lv_at hl 2 rfl) ?_
        refine lv_aload_n hx hb dX4_finesOfOthers_15 rfl (lv_at hl 0 rfl) ?_
        refine lv_iload_n hx hb dX4_finesOfOthers_16 rfl (lv_at hl 3 rfl) ?_
        refine lv_iconst (v := 2) hx hb dX4_finesOfOthers_17 (by decide) ?_
        obtain ⟨r2, hr2, h⟩ := ob h
        refine rowV (As := [.int v3, .int 2]) (rest := [.int v2]) C (kX4_of l G b σ v3 2 r2 hr2) (cwV 2 hts gX4_finesOfOthers_X4_of rfl rfl rfl (by decide +kernel) ⟨Nat.le_of_ble_eq_true rfl, Nat.le_of_ble_eq_true rfl⟩) (rcv_X4 X hK) X rfl hl.1 rfl (Nat.le_of_ble_eq_true rfl) dX4_finesOfOthers_18 ⟨Nat.zero_le _, Nat.zero_le _⟩ ?_
        refine lv_iload_n hx hb dX4_finesOfOthers_21 rfl (lv_at hl 1 rfl) ?_
        refine lv_icmp_ne (tgt := 42) hx hb dX4_finesOfOthers_22 (by decide) (fun c3 => ?_) (fun c3 => ?_)
        · have h := iq h c3
          refine lv_iconst (v := 0) hx hb dX4_finesOfOthers_42 (by decide) ?_
          refine lv_iadd hx hb dX4_finesOfOthers_43 ?_
          refine lv_istore_n (lv' := [(2, .int (v2 + 0)), (0, .ref b), (1, .int v1), (3, .int v3)]) hx hb dX4_finesOfOthers_44 rfl hl (by decide) rfl (fun ls hl => ?_)
          refine lv_iinc (v := v3 + 1) (lv' := [(3, .int (v3 + 1)), (2, .int (v2 + 0)), (0, .ref b), (1, .int v1)]) hx hb dX4_finesOfOthers_45 hl (k := 3) rfl rfl (by decide) rfl (fun ls hl => ?_)
          refine lv_goto (tgt := 4) hx hb dX4_finesOfOthers_48 (by decide) ?_
          exact ih _ _ _ _ h (lv_sub hl [2, 3, 1, 0] rfl)
        · have h := ip h c3
          refine lv_aload_n hx hb dX4_finesOfOthers_25 rfl (lv_at hl 0 rfl) ?_
          refine lv_iload_n hx hb dX4_finesOfOthers_26 rfl (lv_at hl 3 rfl) ?_
          obtain ⟨r4, hr4, h⟩ := ob h
          refine rowV (As := [.int v3]) (rest := [.int v2]) C (kX4_isWhole l G b σ v3 r4 hr4) (cwV 1 hts gX4_finesOfOthers_X4_isWhole rfl rfl rfl (by decide +kernel) ⟨Nat.le_of_ble_eq_true rfl, Nat.le_of_ble_eq_true rfl⟩) (rcv_X4 X hK) X rfl hl.1 rfl (Nat.le_of_ble_eq_true rfl) dX4_finesOfOthers_27 ⟨Nat.zero_le _, Nat.zero_le _⟩ ?_
          refine lv_if_eq (tgt := 42) hx hb dX4_finesOfOthers_30 (by decide) (fun c5 => ?_) (fun c5 => ?_)
          · have h := ip h c5
            refine lv_iconst (v := 0) hx hb dX4_finesOfOthers_42 (by decide) ?_
            refine lv_iadd hx hb dX4_finesOfOthers_43 ?_
            refine lv_istore_n (lv' := [(2, .int (v2 + 0)), (0, .ref b), (1, .int v1), (3, .int v3)]) hx hb dX4_finesOfOthers_44 rfl hl (by decide) rfl (fun ls hl => ?_)
            refine lv_iinc (v := v3 + 1) (lv' := [(3, .int (v3 + 1)), (2, .int (v2 + 0)), (0, .ref b), (1, .int v1)]) hx hb dX4_finesOfOthers_45 hl (k := 3) rfl rfl (by decide) rfl (fun ls hl => ?_)
            refine lv_goto (tgt := 4) hx hb dX4_finesOfOthers_48 (by decide) ?_
            exact ih _ _ _ _ h (lv_sub hl [2, 3, 1, 0] rfl)
          · have h := iq h c5
            refine lv_aload_n hx hb dX4_finesOfOthers_33 rfl (lv_at hl 0 rfl) ?_
            refine gt_X4_1 C hin X 1 rfl dX4_finesOfOthers_34 ?_
            refine lv_iconst (v := 4) hx hb dX4_finesOfOthers_37 (by decide) ?_
            refine al_X4_1 (j := 4) C X rfl (by decide) dX4_finesOfOthers_38 ?_
            refine lv_goto (tgt := 43) hx hb dX4_finesOfOthers_39 (by decide) ?_
            refine lv_iadd hx hb dX4_finesOfOthers_43 ?_
            refine lv_istore_n (lv' := [(2, .int (v2 + (σ 1 4))), (0, .ref b), (1, .int v1), (3, .int v3)]) hx hb dX4_finesOfOthers_44 rfl hl (by decide) rfl (fun ls hl => ?_)
            refine lv_iinc (v := v3 + 1) (lv' := [(3, .int (v3 + 1)), (2, .int (v2 + (σ 1 4))), (0, .ref b), (1, .int v1)]) hx hb dX4_finesOfOthers_45 hl (k := 3) rfl rfl (by decide) rfl (fun ls hl => ?_)
            refine lv_goto (tgt := 4) hx hb dX4_finesOfOthers_48 (by decide) ?_
            exact ih _ _ _ _ h (lv_sub hl [2, 3, 1, 0] rfl)
  unfold fX4_finesOfOthers at h
  refine lv_iconst (v := 0) hx hb dX4_finesOfOthers_0 (by decide) ?_
  refine lv_istore_n (lv' := [(2, .int 0), (0, .ref b), (1, .int p1)]) hx hb dX4_finesOfOthers_1 rfl hl (by decide) rfl (fun ls hl => ?_)
  refine lv_iconst (v := 0) hx hb dX4_finesOfOthers_2 (by decide) ?_
  refine lv_istore_n (lv' := [(3, .int 0), (2, .int 0), (0, .ref b), (1, .int p1)]) hx hb dX4_finesOfOthers_3 rfl hl (by decide) rfl (fun ls hl => ?_)
  exact loop4 _ _ _ _ _ h (lv_sub hl [2, 3, 1, 0] rfl)

theorem in_X4_ifOpened : ∀ w ∈ wsX40, w ∈ wsX4_ifOpened := by decide +kernel
def fX4_ifOpened (σ : St) (p1 : Int32) (p2 : Int32) : Option (Int32 × St) := (fX4_isCart (up σ 0 0 0) p1).bind (fun r1 => if r1 = 0 then (some ((-1), up σ 0 0 0)) else ((fX4_in p2 0 2).bind (fun r3 => if r3 = 0 then (some ((-2), up σ 0 0 0)) else ((fX4_of (up σ 0 0 0) p1 4).bind (fun r5 => if r5 = 1 then (some ((-4), up σ 0 0 0)) else ((fX4_of (up σ 0 0 0) p1 0).bind (fun r7 => if r7 ≤ 0 then (if p2 = 1 then ((fX4_isWhole (up σ 0 0 0) p1).bind (fun r15 => if r15 = 0 then (some (3 + 0, up σ 0 0 0)) else (some (0 + 0, up σ 0 0 0)))) else (if p2 = 0 then ((fX4_wouldClear (up σ 0 0 0) p1).bind (fun q14 => some (q14.1, q14.2))) else (some (0, up σ 0 0 0)))) else (if p2 = 1 then ((fX4_isWhole (up σ 0 0 0) p1).bind (fun r26 => if r26 = 0 then ((fX4_fineOfLie (up σ 0 0 0) p1 0).bind (fun r29 => some (3 + r29, up σ 0 0 0))) else ((fX4_fineOfLie (up σ 0 0 0) p1 0).bind (fun r31 => some (0 + r31, up σ 0 0 0))))) else (if p2 = 0 then ((fX4_wouldClear (up σ 0 0 0) p1).bind (fun q25 => some (q25.1, q25.2))) else ((fX4_finesOfOthers (up σ 0 0 0) p1).bind (fun r22 => some (r22, up σ 0 0 0))))))))))))
set_option maxHeartbeats 4000000 in
set_option maxRecDepth 100000 in
theorem kX4_ifOpened (l : Launch) (G : Gx) (b : Nat) (σ : St) (p1 : Int32) (p2 : Int32) (r : Int32) (σ' : St) (h : fX4_ifOpened σ p1 p2 = some (r, σ')) : Met l yX4_ifOpened wsX4_ifOpened (rmN 6) (pre G [.ref b, .int p1, .int p2] (mAt G b σ)) (QcW b (b + 7) (mAt G b σ') (some (.int r))) 0 0 (lw_Fr b (b + 7)) := by
  refine Met.ofW (cc := cX4_ifOpened) (maxL := 4) (ret := (some .int)) (by decide) rfl ?_
  intro p e s m args below meth c s₁ B hml hv
  obtain ⟨rfl, X, hK⟩ := hv
  have hx := B.exec
  have hb := B.bytes
  have hr := B.returns
  have hts := atoms_spec (ws := wsX4_ifOpened) B.pre
  have hown : s.vm.findClass RX4 = some m.cls := findClass_of_methodNamed B.named
  have hlocks := B.notSynchronized
  have C : Cx p m c cX4_ifOpened 4 s _ wsX4_ifOpened RX4 G := ⟨⟨hx, hb, hml, hown, hts⟩, hK⟩
  have hin : ∀ w ∈ wsX40, w ∈ wsX4_ifOpened := in_X4_ifOpened
  have hS : va_S (lw_Fr b (b + 7)) s.heap s.heap [] := va_S.rf
  have hl := lv_entry ([.ref b, .int p1, .int p2]) (n := 4) (Nat.le_of_ble_eq_true rfl)
  rw [lg_entry_eq]
  generalize (lg_sl ([.ref b, .int p1, .int p2]) ++ List.replicate (4 - (lg_sl ([.ref b, .int p1, .int p2])).length) Slot.unset).toArray = ls at hl ⊢
  have hl : lv_has ls 4 [(0, .ref b), (1, .int p1), (2, .int p2)] := hl
  unfold fX4_ifOpened at h
  refine lv_aload_n hx hb dX4_ifOpened_0 rfl (lv_at hl 0 rfl) ?_
  refine lv_iconst (v := 0) hx hb dX4_ifOpened_1 (by decide) ?_
  refine pt_X4_0 C hin X hS 1 rfl dX4_ifOpened_2 (fun H locs X hS => ?_)
  refine lv_aload_n hx hb dX4_ifOpened_5 rfl (lv_at hl 0 rfl) ?_
  refine lv_iload_n hx hb dX4_ifOpened_6 rfl (lv_at hl 1 rfl) ?_
  obtain ⟨r1, hr1, h⟩ := ob h
  refine rowV (As := [.int p1]) (rest := []) C (kX4_isCart l G b (up σ 0 0 0) p1 r1 hr1) (cwV 1 hts gX4_ifOpened_X4_isCart rfl rfl rfl (by decide +kernel) ⟨Nat.le_of_ble_eq_true rfl, Nat.le_of_ble_eq_true rfl⟩) (rcv_X4 X hK) X rfl hl.1 rfl (Nat.le_of_ble_eq_true rfl) dX4_ifOpened_7 ⟨Nat.zero_le _, Nat.zero_le _⟩ ?_
  refine lv_if_ne (tgt := 15) hx hb dX4_ifOpened_10 (by decide) (fun c2 => ?_) (fun c2 => ?_)
  · have h := iq h c2
    refine lv_iload_n hx hb dX4_ifOpened_15 rfl (lv_at hl 2 rfl) ?_
    refine lv_iconst (v := 0) hx hb dX4_ifOpened_16 (by decide) ?_
    refine lv_iconst (v := 2) hx hb dX4_ifOpened_17 (by decide) ?_
    obtain ⟨r3, hr3, h⟩ := ob h
    refine rowS (As := [.int p2, .int 0, .int 2]) (rest := []) (B := fun _ => True) C (kX4_in l G p2 0 2 r3 hr3) (va_cwS 3 hts gX4_ifOpened_X4_in rfl rfl rfl (by decide +kernel) ⟨Nat.le_of_ble_eq_true rfl, Nat.le_of_ble_eq_true rfl⟩) trivial rfl hl.1 rfl (Nat.le_of_ble_eq_true rfl) dX4_ifOpened_18 ⟨Nat.zero_le _, Nat.zero_le _⟩ ?_
    refine lv_if_ne (tgt := 27) hx hb dX4_ifOpened_21 (by decide) (fun c4 => ?_) (fun c4 => ?_)
    · have h := iq h c4
      refine lv_aload_n hx hb dX4_ifOpened_27 rfl (lv_at hl 0 rfl) ?_
      refine lv_iload_n hx hb dX4_ifOpened_28 rfl (lv_at hl 1 rfl) ?_
      refine lv_iconst (v := 4) hx hb dX4_ifOpened_29 (by decide) ?_
      obtain ⟨r5, hr5, h⟩ := ob h
      refine rowV (As := [.int p1, .int 4]) (rest := []) C (kX4_of l G b (up σ 0 0 0) p1 4 r5 hr5) (cwV 2 hts gX4_ifOpened_X4_of rfl rfl rfl (by decide +kernel) ⟨Nat.le_of_ble_eq_true rfl, Nat.le_of_ble_eq_true rfl⟩) (rcv_X4 X hK) X rfl hl.1 rfl (Nat.le_of_ble_eq_true rfl) dX4_ifOpened_30 ⟨Nat.zero_le _, Nat.zero_le _⟩ ?_
      refine lv_iconst (v := 1) hx hb dX4_ifOpened_33 (by decide) ?_
      refine lv_icmp_ne (tgt := 40) hx hb dX4_ifOpened_34 (by decide) (fun c6 => ?_) (fun c6 => ?_)
      · have h := iq h c6
        refine lv_aload_n hx hb dX4_ifOpened_40 rfl (lv_at hl 0 rfl) ?_
        refine lv_iload_n hx hb dX4_ifOpened_41 rfl (lv_at hl 1 rfl) ?_
        refine lv_iconst (v := 0) hx hb dX4_ifOpened_42 (by decide) ?_
        obtain ⟨r7, hr7, h⟩ := ob h
        refine rowV (As := [.int p1, .int 0]) (rest := []) C (kX4_of l G b (up σ 0 0 0) p1 0 r7 hr7) (cwV 2 hts gX4_ifOpened_X4_of rfl rfl rfl (by decide +kernel) ⟨Nat.le_of_ble_eq_true rfl, Nat.le_of_ble_eq_true rfl⟩) (rcv_X4 X hK) X rfl hl.1 rfl (Nat.le_of_ble_eq_true rfl) dX4_ifOpened_43 ⟨Nat.zero_le _, Nat.zero_le _⟩ ?_
        refine lv_if_le (tgt := 53) hx hb dX4_ifOpened_46 (by decide) (fun c8 => ?_) (fun c8 => ?_)
        · have h := ip h c8
          refine lv_iconst (v := 0) hx hb dX4_ifOpened_53 (by decide) ?_
          refine lv_istore_n (lv' := [(3, .int 0), (0, .ref b), (1, .int p1), (2, .int p2)]) hx hb dX4_ifOpened_54 rfl hl (by decide) rfl (fun ls hl => ?_)
          refine lv_iload_n hx hb dX4_ifOpened_55 rfl (lv_at hl 3 rfl) ?_
          refine lv_iconst (v := 1) hx hb dX4_ifOpened_56 (by decide) ?_
          refine lv_icmp_ne (tgt := 89) hx hb dX4_ifOpened_57 (by decide) (fun c9 => ?_) (fun c9 => ?_)
          · have h := iq h c9
            refine lv_iload_n hx hb dX4_ifOpened_89 rfl (lv_at hl 3 rfl) ?_
            refine lv_if_ne (tgt := 101) hx hb dX4_ifOpened_90 (by decide) (fun c10 => ?_) (fun c10 => ?_)
            · have h := iq h c10
              refine lv_iload_n hx hb dX4_ifOpened_101 rfl (lv_at hl 0 rfl) ?_
              refine lv_if_eq (tgt := 113) hx hb dX4_ifOpened_102 (by decide) (fun c11 => ?_) (fun c11 => ?_)
              · skip
                refine lv_iconst (v := 0) hx hb dX4_ifOpened_113 (by decide) ?_
                obtain ⟨h, h9⟩ := pr h
                subst h
                subst h9
                exact W.iret hx hb hr (fun t ht _ => ⟨rfl, by rw [ht]; exact X, hS.F ht⟩) hS.2.2 dX4_ifOpened_114
              · exact absurd c11 (by decide)
            · have h := ip h c10
              refine lv_aload_n hx hb dX4_ifOpened_93 rfl (lv_at hl 1 rfl) ?_
              refine lv_iload_n hx hb dX4_ifOpened_94 rfl (lv_at hl 2 rfl) ?_
              obtain ⟨q14, hr12, h⟩ := ob h
              refine rowW (As := [.int p1]) (rest := []) C (kX4_wouldClear l G b (up σ 0 0 0) p1 q14.1 q14.2 hr12) (cwV 1 hts gX4_ifOpened_X4_wouldClear rfl rfl rfl (by decide +kernel) ⟨Nat.le_of_ble_eq_true rfl, Nat.le_of_ble_eq_true rfl⟩) (rcv_X4 X hK) X hS (fun _ z => z) rfl hl.1 rfl (Nat.le_of_ble_eq_true rfl) dX4_ifOpened_95 ⟨Nat.zero_le _, Nat.zero_le _⟩ (fun H locs X hS _ _ => ?_)
              show W p l e _ s m _ below meth c H locs 0 0 _ (F0 m 98 ls [.int q14.1])
              refine lv_goto (tgt := 114) hx hb dX4_ifOpened_98 (by decide) ?_
              obtain ⟨h, h9⟩ := pr h
              subst h
              subst h9
              exact W.iret hx hb hr (fun t ht _ => ⟨rfl, by rw [ht]; exact X, hS.F ht⟩) hS.2.2 dX4_ifOpened_114
          · have h := ip h c9
            refine lv_aload_n hx hb dX4_ifOpened_60 rfl (lv_at hl 1 rfl) ?_
            refine lv_iload_n hx hb dX4_ifOpened_61 rfl (lv_at hl 2 rfl) ?_
            obtain ⟨r15, hr15, h⟩ := ob h
            refine rowV (As := [.int p1]) (rest := []) C (kX4_isWhole l G b (up σ 0 0 0) p1 r15 hr15) (cwV 1 hts gX4_ifOpened_X4_isWhole rfl rfl rfl (by decide +kernel) ⟨Nat.le_of_ble_eq_true rfl, Nat.le_of_ble_eq_true rfl⟩) (rcv_X4 X hK) X rfl hl.1 rfl (Nat.le_of_ble_eq_true rfl) dX4_ifOpened_62 ⟨Nat.zero_le _, Nat.zero_le _⟩ ?_
            refine lv_if_eq (tgt := 72) hx hb dX4_ifOpened_65 (by decide) (fun c16 => ?_) (fun c16 => ?_)
            · have h := ip h c16
              refine lv_iconst (v := 3) hx hb dX4_ifOpened_72 (by decide) ?_
              refine lv_iload_n hx hb dX4_ifOpened_73 rfl (lv_at hl 0 rfl) ?_
              refine lv_if_eq (tgt := 86) hx hb dX4_ifOpened_74 (by decide) (fun c17 => ?_) (fun c17 => ?_)
              · skip
                refine lv_iconst (v := 0) hx hb dX4_ifOpened_86 (by decide) ?_
                refine lv_iadd hx hb dX4_ifOpened_87 ?_
                obtain ⟨h, h9⟩ := pr h
                subst h
                subst h9
                exact W.iret hx hb hr (fun t ht _ => ⟨rfl, by rw [ht]; exact X, hS.F ht⟩) hS.2.2 dX4_ifOpened_88
              · exact absurd c17 (by decide)
            · have h := iq h c16
              refine lv_iconst (v := 0) hx hb dX4_ifOpened_68 (by decide) ?_
              refine lv_goto (tgt := 73) hx hb dX4_ifOpened_69 (by decide) ?_
              refine lv_iload_n hx hb dX4_ifOpened_73 rfl (lv_at hl 0 rfl) ?_
              refine lv_if_eq (tgt := 86) hx hb dX4_ifOpened_74 (by decide) (fun c18 => ?_) (fun c18 => ?_)
              · skip
                refine lv_iconst (v := 0) hx hb dX4_ifOpened_86 (by decide) ?_
                refine lv_iadd hx hb dX4_ifOpened_87 ?_
                obtain ⟨h, h9⟩ := pr h
                subst h
                subst h9
                exact W.iret hx hb hr (fun t ht _ => ⟨rfl, by rw [ht]; exact X, hS.F ht⟩) hS.2.2 dX4_ifOpened_88
              · exact absurd c18 (by decide)
        · have h := iq h c8
          refine lv_iconst (v := 1) hx hb dX4_ifOpened_49 (by decide) ?_
          refine lv_goto (tgt := 54) hx hb dX4_ifOpened_50 (by decide) ?_
          refine lv_istore_n (lv' := [(3, .int 1), (0, .ref b), (1, .int p1), (2, .int p2)]) hx hb dX4_ifOpened_54 rfl hl (by decide) rfl (fun ls hl => ?_)
          refine lv_iload_n hx hb dX4_ifOpened_55 rfl (lv_at hl 3 rfl) ?_
          refine lv_iconst (v := 1) hx hb dX4_ifOpened_56 (by decide) ?_
          refine lv_icmp_ne (tgt := 89) hx hb dX4_ifOpened_57 (by decide) (fun c19 => ?_) (fun c19 => ?_)
          · have h := iq h c19
            refine lv_iload_n hx hb dX4_ifOpened_89 rfl (lv_at hl 3 rfl) ?_
            refine lv_if_ne (tgt := 101) hx hb dX4_ifOpened_90 (by decide) (fun c20 => ?_) (fun c20 => ?_)
            · have h := iq h c20
              refine lv_iload_n hx hb dX4_ifOpened_101 rfl (lv_at hl 0 rfl) ?_
              refine lv_if_eq (tgt := 113) hx hb dX4_ifOpened_102 (by decide) (fun c21 => ?_) (fun c21 => ?_)
              · exact absurd c21 (by decide)
              · skip
                refine lv_aload_n hx hb dX4_ifOpened_105 rfl (lv_at hl 1 rfl) ?_
                refine lv_iload_n hx hb dX4_ifOpened_106 rfl (lv_at hl 2 rfl) ?_
                obtain ⟨r22, hr22, h⟩ := ob h
                refine rowV (As := [.int p1]) (rest := []) C (kX4_finesOfOthers l G b (up σ 0 0 0) p1 r22 hr22) (cwV 1 hts gX4_ifOpened_X4_finesOfOthers rfl rfl rfl (by decide +kernel) ⟨Nat.le_of_ble_eq_true rfl, Nat.le_of_ble_eq_true rfl⟩) (rcv_X4 X hK) X rfl hl.1 rfl (Nat.le_of_ble_eq_true rfl) dX4_ifOpened_107 ⟨Nat.zero_le _, Nat.zero_le _⟩ ?_
                refine lv_goto (tgt := 114) hx hb dX4_ifOpened_110 (by decide) ?_
                obtain ⟨h, h9⟩ := pr h
                subst h
                subst h9
                exact W.iret hx hb hr (fun t ht _ => ⟨rfl, by rw [ht]; exact X, hS.F ht⟩) hS.2.2 dX4_ifOpened_114
            · have h := ip h c20
              refine lv_aload_n hx hb dX4_ifOpened_93 rfl (lv_at hl 1 rfl) ?_
              refine lv_iload_n hx hb dX4_ifOpened_94 rfl (lv_at hl 2 rfl) ?_
              obtain ⟨q25, hr23, h⟩ := ob h
              refine rowW (As := [.int p1]) (rest := []) C (kX4_wouldClear l G b (up σ 0 0 0) p1 q25.1 q25.2 hr23) (cwV 1 hts gX4_ifOpened_X4_wouldClear rfl rfl rfl (by decide +kernel) ⟨Nat.le_of_ble_eq_true rfl, Nat.le_of_ble_eq_true rfl⟩) (rcv_X4 X hK) X hS (fun _ z => z) rfl hl.1 rfl (Nat.le_of_ble_eq_true rfl) dX4_ifOpened_95 ⟨Nat.zero_le _, Nat.zero_le _⟩ (fun H locs X hS _ _ => ?_)
              show W p l e _ s m _ below meth c H locs 0 0 _ (F0 m 98 ls [.int q25.1])
              refine lv_goto (tgt := 114) hx hb dX4_ifOpened_98 (by decide) ?_
              obtain ⟨h, h9⟩ := pr h
              subst h
              subst h9
              exact W.iret hx hb hr (fun t ht _ => ⟨rfl, by rw [ht]; exact X, hS.F ht⟩) hS.2.2 dX4_ifOpened_114
          · have h := ip h c19
            refine lv_aload_n hx hb dX4_ifOpened_60 rfl (lv_at hl 1 rfl) ?_
            refine lv_iload_n hx hb dX4_ifOpened_61 rfl (lv_at hl 2 rfl) ?_
            obtain ⟨r26, hr26, h⟩ := ob h
            refine rowV (As := [.int p1]) (rest := []) C (kX4_isWhole l G b (up σ 0 0 0) p1 r26 hr26) (cwV 1 hts gX4_ifOpened_X4_isWhole rfl rfl rfl (by decide +kernel) ⟨Nat.le_of_ble_eq_true rfl, Nat.le_of_ble_eq_true rfl⟩) (rcv_X4 X hK) X rfl hl.1 rfl (Nat.le_of_ble_eq_true rfl) dX4_ifOpened_62 ⟨Nat.zero_le _, Nat.zero_le _⟩ ?_
            refine lv_if_eq (tgt := 72) hx hb dX4_ifOpened_65 (by decide) (fun c27 => ?_) (fun c27 => ?_)
            · have h := ip h c27
              refine lv_iconst (v := 3) hx hb dX4_ifOpened_72 (by decide) ?_
              refine lv_iload_n hx hb dX4_ifOpened_73 rfl (lv_at hl 0 rfl) ?_
              refine lv_if_eq (tgt := 86) hx hb dX4_ifOpened_74 (by decide) (fun c28 => ?_) (fun c28 => ?_)
              · exact absurd c28 (by decide)
              · skip
                refine lv_aload_n hx hb dX4_ifOpened_77 rfl (lv_at hl 1 rfl) ?_
                refine lv_iload_n hx hb dX4_ifOpened_78 rfl (lv_at hl 2 rfl) ?_
                refine lv_iconst (v := 0) hx hb dX4_ifOpened_79 (by decide) ?_
                obtain ⟨r29, hr29, h⟩ := ob h
                refine rowV (As := [.int p1, .int 0]) (rest := [.int 3]) C (kX4_fineOfLie l G b (up σ 0 0 0) p1 0 r29 hr29) (cwV 2 hts gX4_ifOpened_X4_fineOfLie rfl rfl rfl (by decide +kernel) ⟨Nat.le_of_ble_eq_true rfl, Nat.le_of_ble_eq_true rfl⟩) (rcv_X4 X hK) X rfl hl.1 rfl (Nat.le_of_ble_eq_true rfl) dX4_ifOpened_80 ⟨Nat.zero_le _, Nat.zero_le _⟩ ?_
                refine lv_goto (tgt := 87) hx hb dX4_ifOpened_83 (by decide) ?_
                refine lv_iadd hx hb dX4_ifOpened_87 ?_
                obtain ⟨h, h9⟩ := pr h
                subst h
                subst h9
                exact W.iret hx hb hr (fun t ht _ => ⟨rfl, by rw [ht]; exact X, hS.F ht⟩) hS.2.2 dX4_ifOpened_88
            · have h := iq h c27
              refine lv_iconst (v := 0) hx hb dX4_ifOpened_68 (by decide) ?_
              refine lv_goto (tgt := 73) hx hb dX4_ifOpened_69 (by decide) ?_
              refine lv_iload_n hx hb dX4_ifOpened_73 rfl (lv_at hl 0 rfl) ?_
              refine lv_if_eq (tgt := 86) hx hb dX4_ifOpened_74 (by decide) (fun c30 => ?_) (fun c30 => ?_)
              · exact absurd c30 (by decide)
              · skip
                refine lv_aload_n hx hb dX4_ifOpened_77 rfl (lv_at hl 1 rfl) ?_
                refine lv_iload_n hx hb dX4_ifOpened_78 rfl (lv_at hl 2 rfl) ?_
                refine lv_iconst (v := 0) hx hb dX4_ifOpened_79 (by decide) ?_
                obtain ⟨r31, hr31, h⟩ := ob h
                refine rowV (As := [.int p1, .int 0]) (rest := [.int 0]) C (kX4_fineOfLie l G b (up σ 0 0 0) p1 0 r31 hr31) (cwV 2 hts gX4_ifOpened_X4_fineOfLie rfl rfl rfl (by decide +kernel) ⟨Nat.le_of_ble_eq_true rfl, Nat.le_of_ble_eq_true rfl⟩) (rcv_X4 X hK) X rfl hl.1 rfl (Nat.le_of_ble_eq_true rfl) dX4_ifOpened_80 ⟨Nat.zero_le _, Nat.zero_le _⟩ ?_
                refine lv_goto (tgt := 87) hx hb dX4_ifOpened_83 (by decide) ?_
                refine lv_iadd hx hb dX4_ifOpened_87 ?_
                obtain ⟨h, h9⟩ := pr h
                subst h
                subst h9
                exact W.iret hx hb hr (fun t ht _ => ⟨rfl, by rw [ht]; exact X, hS.F ht⟩) hS.2.2 dX4_ifOpened_88
      · have h := ip h c6
        refine lv_bipush (v := (-4)) hx hb dX4_ifOpened_37 (by decide) ?_
        obtain ⟨h, h9⟩ := pr h
        subst h
        subst h9
        exact W.iret hx hb hr (fun t ht _ => ⟨rfl, by rw [ht]; exact X, hS.F ht⟩) hS.2.2 dX4_ifOpened_39
    · have h := ip h c4
      refine lv_bipush (v := (-2)) hx hb dX4_ifOpened_24 (by decide) ?_
      obtain ⟨h, h9⟩ := pr h
      subst h
      subst h9
      exact W.iret hx hb hr (fun t ht _ => ⟨rfl, by rw [ht]; exact X, hS.F ht⟩) hS.2.2 dX4_ifOpened_26
  · have h := ip h c2
    refine lv_iconst (v := (-1)) hx hb dX4_ifOpened_13 (by decide) ?_
    obtain ⟨h, h9⟩ := pr h
    subst h
    subst h9
    exact W.iret hx hb hr (fun t ht _ => ⟨rfl, by rw [ht]; exact X, hS.F ht⟩) hS.2.2 dX4_ifOpened_14

def fX4_reaches_2 : Nat → St → Int32 → Int32 → Int32 → Option (Int32)
  | 0, _, _, _, _ => none
  | n + 1, σ, v1, v2, v3 => if v3 ≤ v2 then (if v3 = v2 then (if v1 = v2 then (some 0) else (some 1)) else (some 0)) else ((fX4_isWhole σ v3).bind (fun r4 => if r4 = 0 then (if v3 = v2 then (if v1 = v2 then (some 0) else (some 1)) else (some 0)) else ((fX4_of σ v3 2).bind (fun r8 => fX4_reaches_2 n σ v1 v2 r8))))
theorem fX4_reaches_2_0 (σ : St) (v1 : Int32) (v2 : Int32) (v3 : Int32) : fX4_reaches_2 0 σ v1 v2 v3 = none := rfl
theorem fX4_reaches_2_s (n : Nat) (σ : St) (v1 : Int32) (v2 : Int32) (v3 : Int32) : fX4_reaches_2 (n + 1) σ v1 v2 v3 = (if v3 ≤ v2 then (if v3 = v2 then (if v1 = v2 then (some 0) else (some 1)) else (some 0)) else ((fX4_isWhole σ v3).bind (fun r4 => if r4 = 0 then (if v3 = v2 then (if v1 = v2 then (some 0) else (some 1)) else (some 0)) else ((fX4_of σ v3 2).bind (fun r8 => fX4_reaches_2 n σ v1 v2 r8))))) := rfl
def fX4_reaches (σ : St) (p1 : Int32) (p2 : Int32) : Option (Int32) := fX4_reaches_2 1000 σ p1 p2 p1
set_option maxHeartbeats 4000000 in
set_option maxRecDepth 100000 in
theorem kX4_reaches (l : Launch) (G : Gx) (b : Nat) (σ : St) (p1 : Int32) (p2 : Int32) (r : Int32) (h : fX4_reaches σ p1 p2 = some r) : Met l yX4_reaches wsX4_reaches (rmN 4) (pre G [.ref b, .int p1, .int p2] (mAt G b σ)) (QcRead r) 0 0 (fun _ => False) := by
  refine Met.ofW (cc := cX4_reaches) (maxL := 4) (ret := (some .boolean)) (by decide) rfl ?_
  intro p e s m args below meth c s₁ B hml hv
  obtain ⟨rfl, X, hK⟩ := hv
  have hx := B.exec
  have hb := B.bytes
  have hr := B.returns
  have hts := atoms_spec (ws := wsX4_reaches) B.pre
  have hown : s.vm.findClass RX4 = some m.cls := findClass_of_methodNamed B.named
  have hlocks := B.notSynchronized
  have C : Cx p m c cX4_reaches 4 s _ wsX4_reaches RX4 G := ⟨⟨hx, hb, hml, hown, hts⟩, hK⟩
  have hl := lv_entry ([.ref b, .int p1, .int p2]) (n := 4) (Nat.le_of_ble_eq_true rfl)
  rw [lg_entry_eq]
  generalize (lg_sl ([.ref b, .int p1, .int p2]) ++ List.replicate (4 - (lg_sl ([.ref b, .int p1, .int p2])).length) Slot.unset).toArray = ls at hl ⊢
  have hl : lv_has ls 4 [(0, .ref b), (1, .int p1), (2, .int p2)] := hl
  have loop2 : ∀ (n : Nat) (v1 : Int32) (v2 : Int32) (v3 : Int32) (ls : Array Slot), fX4_reaches_2 n σ v1 v2 v3 = some r → lv_has ls 4 [(0, .ref b), (1, .int v1), (2, .int v2), (3, .int v3)] → W p l e (rmN 4) s m #[Value.ref b, Value.int p1, Value.int p2] below meth c s.heap [] 0 0 (MQ below (QcRead r) #[Value.ref b, Value.int p1, Value.int p2] s 0 0 (fun _ => False)) (F0 m 2 ls []) := by
    intro n
    induction n with
    | zero =>
      intro v1 v2 v3 ls h hl
      rw [fX4_reaches_2_0] at h
      cases h
    | succ n ih =>
      intro v1 v2 v3 ls h hl
      rw [fX4_reaches_2_s] at h
      refine lv_iload_n hx hb dX4_reaches_2 rfl (lv_at hl 3 rfl) ?_
      refine lv_iload_n hx hb dX4_reaches_3 rfl (lv_at hl 2 rfl) ?_
      refine lv_icmp_le (tgt := 25) hx hb dX4_reaches_4 (by decide) (fun c1 => ?_) (fun c1 => ?_)
      · have h := ip h c1
        refine lv_iload_n hx hb dX4_reaches_25 rfl (lv_at hl 3 rfl) ?_
        refine lv_iload_n hx hb dX4_reaches_26 rfl (lv_at hl 2 rfl) ?_
        refine lv_icmp_ne (tgt := 39) hx hb dX4_reaches_27 (by decide) (fun c2 => ?_) (fun c2 => ?_)
        · have h := iq h c2
          refine lv_iconst (v := 0) hx hb dX4_reaches_39 (by decide) ?_
          have h := so h
          subst h
          exact W.zret hx hb hr rfl (fun t ht _ => ⟨rfl, ht⟩) (fun q h => absurd h List.not_mem_nil) dX4_reaches_40
        · have h := ip h c2
          refine lv_iload_n hx hb dX4_reaches_30 rfl (lv_at hl 1 rfl) ?_
          refine lv_iload_n hx hb dX4_reaches_31 rfl (lv_at hl 2 rfl) ?_
          refine lv_icmp_eq (tgt := 39) hx hb dX4_reaches_32 (by decide) (fun c3 => ?_) (fun c3 => ?_)
          · have h := ip h c3
            refine lv_iconst (v := 0) hx hb dX4_reaches_39 (by decide) ?_
            have h := so h
            subst h
            exact W.zret hx hb hr rfl (fun t ht _ => ⟨rfl, ht⟩) (fun q h => absurd h List.not_mem_nil) dX4_reaches_40
          · have h := iq h c3
            refine lv_iconst (v := 1) hx hb dX4_reaches_35 (by decide) ?_
            refine lv_goto (tgt := 40) hx hb dX4_reaches_36 (by decide) ?_
            have h := so h
            subst h
            exact W.zret hx hb hr rfl (fun t ht _ => ⟨rfl, ht⟩) (fun q h => absurd h List.not_mem_nil) dX4_reaches_40
      · have h := iq h c1
        refine lv_aload_n hx hb dX4_reaches_7 rfl (lv_at hl 0 rfl) ?_
        refine lv_iload_n hx hb dX4_reaches_8 rfl (lv_at hl 3 rfl) ?_
        obtain ⟨r4, hr4, h⟩ := ob h
        refine rowV (As := [.int v3]) (rest := []) C (kX4_isWhole l G b σ v3 r4 hr4) (cwV 1 hts gX4_reaches_X4_isWhole rfl rfl rfl (by decide +kernel) ⟨Nat.le_of_ble_eq_true rfl, Nat.le_of_ble_eq_true rfl⟩) (rcv_X4 X hK) X rfl hl.1 rfl (Nat.le_of_ble_eq_true rfl) dX4_reaches_9 ⟨Nat.zero_le _, Nat.zero_le _⟩ ?_
        refine lv_if_eq (tgt := 25) hx hb dX4_reaches_12 (by decide) (fun c5 => ?_) (fun c5 => ?_)
        · have h := ip h c5
          refine lv_iload_n hx hb dX4_reaches_25 rfl (lv_at hl 3 rfl) ?_
          refine lv_iload_n hx hb dX4_reaches_26 rfl (lv_at hl 2 rfl) ?_
          refine lv_icmp_ne (tgt := 39) hx hb dX4_reaches_27 (by decide) (fun c6 => ?_) (fun c6 => ?_)
          · have h := iq h c6
            refine lv_iconst (v := 0) hx hb dX4_reaches_39 (by decide) ?_
            have h := so h
            subst h
            exact W.zret hx hb hr rfl (fun t ht _ => ⟨rfl, ht⟩) (fun q h => absurd h List.not_mem_nil) dX4_reaches_40
          · have h := ip h c6
            refine lv_iload_n hx hb dX4_reaches_30 rfl (lv_at hl 1 rfl) ?_
            refine lv_iload_n hx hb dX4_reaches_31 rfl (lv_at hl 2 rfl) ?_
            refine lv_icmp_eq (tgt := 39) hx hb dX4_reaches_32 (by decide) (fun c7 => ?_) (fun c7 => ?_)
            · have h := ip h c7
              refine lv_iconst (v := 0) hx hb dX4_reaches_39 (by decide) ?_
              have h := so h
              subst h
              exact W.zret hx hb hr rfl (fun t ht _ => ⟨rfl, ht⟩) (fun q h => absurd h List.not_mem_nil) dX4_reaches_40
            · have h := iq h c7
              refine lv_iconst (v := 1) hx hb dX4_reaches_35 (by decide) ?_
              refine lv_goto (tgt := 40) hx hb dX4_reaches_36 (by decide) ?_
              have h := so h
              subst h
              exact W.zret hx hb hr rfl (fun t ht _ => ⟨rfl, ht⟩) (fun q h => absurd h List.not_mem_nil) dX4_reaches_40
        · have h := iq h c5
          refine lv_aload_n hx hb dX4_reaches_15 rfl (lv_at hl 0 rfl) ?_
          refine lv_iload_n hx hb dX4_reaches_16 rfl (lv_at hl 3 rfl) ?_
          refine lv_iconst (v := 2) hx hb dX4_reaches_17 (by decide) ?_
          obtain ⟨r8, hr8, h⟩ := ob h
          refine rowV (As := [.int v3, .int 2]) (rest := []) C (kX4_of l G b σ v3 2 r8 hr8) (cwV 2 hts gX4_reaches_X4_of rfl rfl rfl (by decide +kernel) ⟨Nat.le_of_ble_eq_true rfl, Nat.le_of_ble_eq_true rfl⟩) (rcv_X4 X hK) X rfl hl.1 rfl (Nat.le_of_ble_eq_true rfl) dX4_reaches_18 ⟨Nat.zero_le _, Nat.zero_le _⟩ ?_
          refine lv_istore_n (lv' := [(3, .int r8), (0, .ref b), (1, .int v1), (2, .int v2)]) hx hb dX4_reaches_21 rfl hl (by decide) rfl (fun ls hl => ?_)
          refine lv_goto (tgt := 2) hx hb dX4_reaches_22 (by decide) ?_
          exact ih _ _ _ _ h (lv_sub hl [1, 2, 3, 0] rfl)
  unfold fX4_reaches at h
  refine lv_iload_n hx hb dX4_reaches_0 rfl (lv_at hl 1 rfl) ?_
  refine lv_istore_n (lv' := [(3, .int p1), (0, .ref b), (1, .int p1), (2, .int p2)]) hx hb dX4_reaches_1 rfl hl (by decide) rfl (fun ls hl => ?_)
  exact loop2 _ _ _ _ _ h (lv_sub hl [1, 2, 3, 0] rfl)

theorem in_X4_byEnds : ∀ w ∈ wsX40, w ∈ wsX4_byEnds := by decide +kernel
def fX4_byEnds_23 (k : Int32 → Int32 → Int32 → Int32 → Option (Int32)) : Nat → St → Int32 → Int32 → Int32 → Int32 → Option (Int32)
  | 0, _, _, _, _, _ => none
  | n + 1, σ, v1, v2, v3, v4 => if (σ 1 5) ≤ v4 then (k v1 v2 v3 v4) else (if v3 = 0 then (fX4_byEnds_23 k n σ v1 v2 0 (v4 + 1)) else ((fX4_isLeft σ v4).bind (fun r5 => if r5 = 0 then (fX4_byEnds_23 k n σ v1 v2 1 (v4 + 1)) else ((fX4_reaches σ v4 v2).bind (fun r7 => if r7 = 0 then (fX4_byEnds_23 k n σ v1 v2 1 (v4 + 1)) else (fX4_byEnds_23 k n σ v1 v2 0 (v4 + 1)))))))
theorem fX4_byEnds_23_0 (k : Int32 → Int32 → Int32 → Int32 → Option (Int32)) (σ : St) (v1 : Int32) (v2 : Int32) (v3 : Int32) (v4 : Int32) : fX4_byEnds_23 k 0 σ v1 v2 v3 v4 = none := rfl
theorem fX4_byEnds_23_s (k : Int32 → Int32 → Int32 → Int32 → Option (Int32)) (n : Nat) (σ : St) (v1 : Int32) (v2 : Int32) (v3 : Int32) (v4 : Int32) : fX4_byEnds_23 k (n + 1) σ v1 v2 v3 v4 = (if (σ 1 5) ≤ v4 then (k v1 v2 v3 v4) else (if v3 = 0 then (fX4_byEnds_23 k n σ v1 v2 0 (v4 + 1)) else ((fX4_isLeft σ v4).bind (fun r5 => if r5 = 0 then (fX4_byEnds_23 k n σ v1 v2 1 (v4 + 1)) else ((fX4_reaches σ v4 v2).bind (fun r7 => if r7 = 0 then (fX4_byEnds_23 k n σ v1 v2 1 (v4 + 1)) else (fX4_byEnds_23 k n σ v1 v2 0 (v4 + 1)))))))) := rfl
def fX4_byEnds_4 : Nat → St → Int32 → Int32 → Option (Int32)
  | 0, _, _, _ => none
  | n + 1, σ, v1, v2 => if (σ 1 5) ≤ v2 then (some v1) else ((fX4_isLeft σ v2).bind (fun r2 => fX4_byEnds_23 (fun v1 v2 v3 v4 => if v3 = 0 then (fX4_byEnds_4 n σ (v1 + 0) (v2 + 1)) else (fX4_byEnds_4 n σ (v1 + 1) (v2 + 1))) 1000 σ v1 v2 r2 0))
theorem fX4_byEnds_4_0 (σ : St) (v1 : Int32) (v2 : Int32) : fX4_byEnds_4 0 σ v1 v2 = none := rfl
theorem fX4_byEnds_4_s (n : Nat) (σ : St) (v1 : Int32) (v2 : Int32) : fX4_byEnds_4 (n + 1) σ v1 v2 = (if (σ 1 5) ≤ v2 then (some v1) else ((fX4_isLeft σ v2).bind (fun r2 => fX4_byEnds_23 (fun v1 v2 v3 v4 => if v3 = 0 then (fX4_byEnds_4 n σ (v1 + 0) (v2 + 1)) else (fX4_byEnds_4 n σ (v1 + 1) (v2 + 1))) 1000 σ v1 v2 r2 0))) := rfl
def fX4_byEnds (σ : St) : Option (Int32) := fX4_byEnds_4 1000 σ 0 0
set_option maxHeartbeats 4000000 in
set_option maxRecDepth 100000 in
theorem kX4_byEnds (l : Launch) (G : Gx) (b : Nat) (σ : St) (r : Int32) (h : fX4_byEnds σ = some r) : Met l yX4_byEnds wsX4_byEnds (rmN 5) (pre G [.ref b] (mAt G b σ)) (QcRead r) 0 0 (fun _ => False) := by
  refine Met.ofW (cc := cX4_byEnds) (maxL := 5) (ret := (some .int)) (by decide) rfl ?_
  intro p e s m args below meth c s₁ B hml hv
  obtain ⟨rfl, X, hK⟩ := hv
  have hx := B.exec
  have hb := B.bytes
  have hr := B.returns
  have hts := atoms_spec (ws := wsX4_byEnds) B.pre
  have hown : s.vm.findClass RX4 = some m.cls := findClass_of_methodNamed B.named
  have hlocks := B.notSynchronized
  have C : Cx p m c cX4_byEnds 5 s _ wsX4_byEnds RX4 G := ⟨⟨hx, hb, hml, hown, hts⟩, hK⟩
  have hin : ∀ w ∈ wsX40, w ∈ wsX4_byEnds := in_X4_byEnds
  have hl := lv_entry ([.ref b]) (n := 5) (Nat.le_of_ble_eq_true rfl)
  rw [lg_entry_eq]
  generalize (lg_sl ([.ref b]) ++ List.replicate (5 - (lg_sl ([.ref b])).length) Slot.unset).toArray = ls at hl ⊢
  have hl : lv_has ls 5 [(0, .ref b)] := hl
  have loop23 : ∀ (k : Int32 → Int32 → Int32 → Int32 → Option (Int32)), (∀ (v1 : Int32) (v2 : Int32) (v3 : Int32) (v4 : Int32) (ls : Array Slot), k v1 v2 v3 v4 = some r → lv_has ls 5 [(0, .ref b), (1, .int v1), (2, .int v2), (3, .int v3), (4, .int v4)] → W p l e (rmN 5) s m #[Value.ref b] below meth c s.heap [] 0 0 (MQ below (QcRead r) #[Value.ref b] s 0 0 (fun _ => False)) (F0 m 69 ls [])) → ∀ (n : Nat) (v1 : Int32) (v2 : Int32) (v3 : Int32) (v4 : Int32) (ls : Array Slot), fX4_byEnds_23 k n σ v1 v2 v3 v4 = some r → lv_has ls 5 [(0, .ref b), (1, .int v1), (2, .int v2), (3, .int v3), (4, .int v4)] → W p l e (rmN 5) s m #[Value.ref b] below meth c s.heap [] 0 0 (MQ below (QcRead r) #[Value.ref b] s 0 0 (fun _ => False)) (F0 m 23 ls []) := by
    intro k hk n
    induction n with
    | zero =>
      intro v1 v2 v3 v4 ls h hl
      rw [fX4_byEnds_23_0] at h
      cases h
    | succ n ih =>
      intro v1 v2 v3 v4 ls h hl
      rw [fX4_byEnds_23_s] at h
      refine lv_iload hx hb dX4_byEnds_23 (lv_at hl 4 rfl) ?_
      refine lv_aload_n hx hb dX4_byEnds_25 rfl (lv_at hl 0 rfl) ?_
      refine gt_X4_1 C hin X 1 rfl dX4_byEnds_26 ?_
      refine lv_iconst (v := 5) hx hb dX4_byEnds_29 (by decide) ?_
      refine al_X4_1 (j := 5) C X rfl (by decide) dX4_byEnds_30 ?_
      refine lv_icmp_ge (tgt := 69) hx hb dX4_byEnds_31 (by decide) (fun c3 => ?_) (fun c3 => ?_)
      · have h := ip h c3
        exact hk _ _ _ _ _ h (lv_sub hl [0, 1, 2, 3, 4] rfl)
      · have h := iq h c3
        refine lv_iload_n hx hb dX4_byEnds_34 rfl (lv_at hl 3 rfl) ?_
        refine lv_if_eq (tgt := 61) hx hb dX4_byEnds_35 (by decide) (fun c4 => ?_) (fun c4 => ?_)
        · have h := ip h c4
          refine lv_iconst (v := 0) hx hb dX4_byEnds_61 (by decide) ?_
          refine lv_istore_n (lv' := [(3, .int 0), (0, .ref b), (1, .int v1), (2, .int v2), (4, .int v4)]) hx hb dX4_byEnds_62 rfl hl (by decide) rfl (fun ls hl => ?_)
          refine lv_iinc (v := v4 + 1) (lv' := [(4, .int (v4 + 1)), (3, .int 0), (0, .ref b), (1, .int v1), (2, .int v2)]) hx hb dX4_byEnds_63 hl (k := 4) rfl rfl (by decide) rfl (fun ls hl => ?_)
          refine lv_goto (tgt := 23) hx hb dX4_byEnds_66 (by decide) ?_
          exact ih _ _ _ _ _ h (lv_sub hl [2, 3, 4, 1, 0] rfl)
        · have h := iq h c4
          refine lv_aload_n hx hb dX4_byEnds_38 rfl (lv_at hl 0 rfl) ?_
          refine lv_iload hx hb dX4_byEnds_39 (lv_at hl 4 rfl) ?_
          obtain ⟨r5, hr5, h⟩ := ob h
          refine rowV (As := [.int v4]) (rest := []) C (kX4_isLeft l G b σ v4 r5 hr5) (cwV 1 hts gX4_byEnds_X4_isLeft rfl rfl rfl (by decide +kernel) ⟨Nat.le_of_ble_eq_true rfl, Nat.le_of_ble_eq_true rfl⟩) (rcv_X4 X hK) X rfl hl.1 rfl (Nat.le_of_ble_eq_true rfl) dX4_byEnds_41 ⟨Nat.zero_le _, Nat.zero_le _⟩ ?_
          refine lv_if_eq (tgt := 57) hx hb dX4_byEnds_44 (by decide) (fun c6 => ?_) (fun c6 => ?_)
          · have h := ip h c6
            refine lv_iconst (v := 1) hx hb dX4_byEnds_57 (by decide) ?_
            refine lv_goto (tgt := 62) hx hb dX4_byEnds_58 (by decide) ?_
            refine lv_istore_n (lv' := [(3, .int 1), (0, .ref b), (1, .int v1), (2, .int v2), (4, .int v4)]) hx hb dX4_byEnds_62 rfl hl (by decide) rfl (fun ls hl => ?_)
            refine lv_iinc (v := v4 + 1) (lv' := [(4, .int (v4 + 1)), (3, .int 1), (0, .ref b), (1, .int v1), (2, .int v2)]) hx hb dX4_byEnds_63 hl (k := 4) rfl rfl (by decide) rfl (fun ls hl => ?_)
            refine lv_goto (tgt := 23) hx hb dX4_byEnds_66 (by decide) ?_
            exact ih _ _ _ _ _ h (lv_sub hl [2, 3, 4, 1, 0] rfl)
          · have h := iq h c6
            refine lv_aload_n hx hb dX4_byEnds_47 rfl (lv_at hl 0 rfl) ?_
            refine lv_iload hx hb dX4_byEnds_48 (lv_at hl 4 rfl) ?_
            refine lv_iload_n hx hb dX4_byEnds_50 rfl (lv_at hl 2 rfl) ?_
            obtain ⟨r7, hr7, h⟩ := ob h
            refine rowV (As := [.int v4, .int v2]) (rest := []) C (kX4_reaches l G b σ v4 v2 r7 hr7) (cwV 2 hts gX4_byEnds_X4_reaches rfl rfl rfl (by decide +kernel) ⟨Nat.le_of_ble_eq_true rfl, Nat.le_of_ble_eq_true rfl⟩) (rcv_X4 X hK) X rfl hl.1 rfl (Nat.le_of_ble_eq_true rfl) dX4_byEnds_51 ⟨Nat.zero_le _, Nat.zero_le _⟩ ?_
            refine lv_if_ne (tgt := 61) hx hb dX4_byEnds_54 (by decide) (fun c8 => ?_) (fun c8 => ?_)
            · have h := iq h c8
              refine lv_iconst (v := 0) hx hb dX4_byEnds_61 (by decide) ?_
              refine lv_istore_n (lv' := [(3, .int 0), (0, .ref b), (1, .int v1), (2, .int v2), (4, .int v4)]) hx hb dX4_byEnds_62 rfl hl (by decide) rfl (fun ls hl => ?_)
              refine lv_iinc (v := v4 + 1) (lv' := [(4, .int (v4 + 1)), (3, .int 0), (0, .ref b), (1, .int v1), (2, .int v2)]) hx hb dX4_byEnds_63 hl (k := 4) rfl rfl (by decide) rfl (fun ls hl => ?_)
              refine lv_goto (tgt := 23) hx hb dX4_byEnds_66 (by decide) ?_
              exact ih _ _ _ _ _ h (lv_sub hl [2, 3, 4, 1, 0] rfl)
            · have h := ip h c8
              refine lv_iconst (v := 1) hx hb dX4_byEnds_57 (by decide) ?_
              refine lv_goto (tgt := 62) hx hb dX4_byEnds_58 (by decide) ?_
              refine lv_istore_n (lv' := [(3, .int 1), (0, .ref b), (1, .int v1), (2, .int v2), (4, .int v4)]) hx hb dX4_byEnds_62 rfl hl (by decide) rfl (fun ls hl => ?_)
              refine lv_iinc (v := v4 + 1) (lv' := [(4, .int (v4 + 1)), (3, .int 1), (0, .ref b), (1, .int v1), (2, .int v2)]) hx hb dX4_byEnds_63 hl (k := 4) rfl rfl (by decide) rfl (fun ls hl => ?_)
              refine lv_goto (tgt := 23) hx hb dX4_byEnds_66 (by decide) ?_
              exact ih _ _ _ _ _ h (lv_sub hl [2, 3, 4, 1, 0] rfl)
  have loop4 : ∀ (n : Nat) (v1 : Int32) (v2 : Int32) (ls : Array Slot), fX4_byEnds_4 n σ v1 v2 = some r → lv_has ls 5 [(0, .ref b), (1, .int v1), (2, .int v2)] → W p l e (rmN 5) s m #[Value.ref b] below meth c s.heap [] 0 0 (MQ below (QcRead r) #[Value.ref b] s 0 0 (fun _ => False)) (F0 m 4 ls []) := by
    intro n
    induction n with
    | zero =>
      intro v1 v2 ls h hl
      rw [fX4_byEnds_4_0] at h
      cases h
    | succ n ih =>
      intro v1 v2 ls h hl
      rw [fX4_byEnds_4_s] at h
      refine lv_iload_n hx hb dX4_byEnds_4 rfl (lv_at hl 2 rfl) ?_
      refine lv_aload_n hx hb dX4_byEnds_5 rfl (lv_at hl 0 rfl) ?_
      refine gt_X4_1 C hin X 1 rfl dX4_byEnds_6 ?_
      refine lv_iconst (v := 5) hx hb dX4_byEnds_9 (by decide) ?_
      refine al_X4_1 (j := 5) C X rfl (by decide) dX4_byEnds_10 ?_
      refine lv_icmp_ge (tgt := 87) hx hb dX4_byEnds_11 (by decide) (fun c1 => ?_) (fun c1 => ?_)
      · have h := ip h c1
        refine lv_iload_n hx hb dX4_byEnds_87 rfl (lv_at hl 1 rfl) ?_
        have h := so h
        subst h
        exact W.iret hx hb hr (fun t ht _ => ⟨rfl, ht⟩) (fun q h => absurd h List.not_mem_nil) dX4_byEnds_88
      · have h := iq h c1
        refine lv_aload_n hx hb dX4_byEnds_14 rfl (lv_at hl 0 rfl) ?_
        refine lv_iload_n hx hb dX4_byEnds_15 rfl (lv_at hl 2 rfl) ?_
        obtain ⟨r2, hr2, h⟩ := ob h
        refine rowV (As := [.int v2]) (rest := []) C (kX4_isLeft l G b σ v2 r2 hr2) (cwV 1 hts gX4_byEnds_X4_isLeft rfl rfl rfl (by decide +kernel) ⟨Nat.le_of_ble_eq_true rfl, Nat.le_of_ble_eq_true rfl⟩) (rcv_X4 X hK) X rfl hl.1 rfl (Nat.le_of_ble_eq_true rfl) dX4_byEnds_16 ⟨Nat.zero_le _, Nat.zero_le _⟩ ?_
        refine lv_istore_n (lv' := [(3, .int r2), (0, .ref b), (1, .int v1), (2, .int v2)]) hx hb dX4_byEnds_19 rfl hl (by decide) rfl (fun ls hl => ?_)
        refine lv_iconst (v := 0) hx hb dX4_byEnds_20 (by decide) ?_
        refine lv_istore (lv' := [(4, .int 0), (3, .int r2), (0, .ref b), (1, .int v1), (2, .int v2)]) hx hb dX4_byEnds_21 hl (by decide) rfl (fun ls hl => ?_)
        refine loop23 _ (fun v1 v2 v3 v4 ls h hl => ?_) _ _ _ _ _ _ h (lv_sub hl [2, 3, 4, 1, 0] rfl)
        refine lv_iload_n hx hb dX4_byEnds_69 rfl (lv_at hl 1 rfl) ?_
        refine lv_iload_n hx hb dX4_byEnds_70 rfl (lv_at hl 3 rfl) ?_
        refine lv_if_eq (tgt := 78) hx hb dX4_byEnds_71 (by decide) (fun c9 => ?_) (fun c9 => ?_)
        · have h := ip h c9
          refine lv_iconst (v := 0) hx hb dX4_byEnds_78 (by decide) ?_
          refine lv_iadd hx hb dX4_byEnds_79 ?_
          refine lv_istore_n (lv' := [(1, .int (v1 + 0)), (0, .ref b), (2, .int v2), (3, .int v3), (4, .int v4)]) hx hb dX4_byEnds_80 rfl hl (by decide) rfl (fun ls hl => ?_)
          refine lv_iinc (v := v2 + 1) (lv' := [(2, .int (v2 + 1)), (1, .int (v1 + 0)), (0, .ref b), (3, .int v3), (4, .int v4)]) hx hb dX4_byEnds_81 hl (k := 2) rfl rfl (by decide) rfl (fun ls hl => ?_)
          refine lv_goto (tgt := 4) hx hb dX4_byEnds_84 (by decide) ?_
          exact ih _ _ _ h (lv_sub hl [2, 1, 0] rfl)
        · have h := iq h c9
          refine lv_iconst (v := 1) hx hb dX4_byEnds_74 (by decide) ?_
          refine lv_goto (tgt := 79) hx hb dX4_byEnds_75 (by decide) ?_
          refine lv_iadd hx hb dX4_byEnds_79 ?_
          refine lv_istore_n (lv' := [(1, .int (v1 + 1)), (0, .ref b), (2, .int v2), (3, .int v3), (4, .int v4)]) hx hb dX4_byEnds_80 rfl hl (by decide) rfl (fun ls hl => ?_)
          refine lv_iinc (v := v2 + 1) (lv' := [(2, .int (v2 + 1)), (1, .int (v1 + 1)), (0, .ref b), (3, .int v3), (4, .int v4)]) hx hb dX4_byEnds_81 hl (k := 2) rfl rfl (by decide) rfl (fun ls hl => ?_)
          refine lv_goto (tgt := 4) hx hb dX4_byEnds_84 (by decide) ?_
          exact ih _ _ _ h (lv_sub hl [2, 1, 0] rfl)
  unfold fX4_byEnds at h
  refine lv_iconst (v := 0) hx hb dX4_byEnds_0 (by decide) ?_
  refine lv_istore_n (lv' := [(1, .int 0), (0, .ref b)]) hx hb dX4_byEnds_1 rfl hl (by decide) rfl (fun ls hl => ?_)
  refine lv_iconst (v := 0) hx hb dX4_byEnds_2 (by decide) ?_
  refine lv_istore_n (lv' := [(2, .int 0), (1, .int 0), (0, .ref b)]) hx hb dX4_byEnds_3 rfl hl (by decide) rfl (fun ls hl => ?_)
  exact loop4 _ _ _ _ h (lv_sub hl [2, 1, 0] rfl)

def fX4_byOpening_6 : Nat → St → Int32 → Option (Int32 × St)
  | 0, _, _ => none
  | n + 1, σ, v1 => (fX4_lastLeft σ).bind (fun r3 => if r3 = (-5) then ((fX4_takeBack σ).bind (fun σ6 => some (v1, σ6))) else ((fX4_lastLeft σ).bind (fun r7 => (fX4_lay σ r7 4 1).bind (fun σ9 => (fX4_clears σ9 r7).bind (fun q12 => fX4_byOpening_6 n q12.2 (v1 + 1))))))
theorem fX4_byOpening_6_0 (σ : St) (v1 : Int32) : fX4_byOpening_6 0 σ v1 = none := rfl
theorem fX4_byOpening_6_s (n : Nat) (σ : St) (v1 : Int32) : fX4_byOpening_6 (n + 1) σ v1 = ((fX4_lastLeft σ).bind (fun r3 => if r3 = (-5) then ((fX4_takeBack σ).bind (fun σ6 => some (v1, σ6))) else ((fX4_lastLeft σ).bind (fun r7 => (fX4_lay σ r7 4 1).bind (fun σ9 => (fX4_clears σ9 r7).bind (fun q12 => fX4_byOpening_6 n q12.2 (v1 + 1))))))) := rfl
def fX4_byOpening (σ : St) : Option (Int32 × St) := (fX4_putAside σ).bind (fun σ2 => fX4_byOpening_6 1000 σ2 0)
set_option maxHeartbeats 4000000 in
set_option maxRecDepth 100000 in
theorem kX4_byOpening (l : Launch) (G : Gx) (b : Nat) (σ : St) (r : Int32) (σ' : St) (h : fX4_byOpening σ = some (r, σ')) : Met l yX4_byOpening wsX4_byOpening (rmN 5) (pre G [.ref b] (mAt G b σ)) (QcW b (b + 7) (mAt G b σ') (some (.int r))) 0 0 (lw_Fr b (b + 7)) := by
  refine Met.ofW (cc := cX4_byOpening) (maxL := 3) (ret := (some .int)) (by decide) rfl ?_
  intro p e s m args below meth c s₁ B hml hv
  obtain ⟨rfl, X, hK⟩ := hv
  have hx := B.exec
  have hb := B.bytes
  have hr := B.returns
  have hts := atoms_spec (ws := wsX4_byOpening) B.pre
  have hown : s.vm.findClass RX4 = some m.cls := findClass_of_methodNamed B.named
  have hlocks := B.notSynchronized
  have C : Cx p m c cX4_byOpening 3 s _ wsX4_byOpening RX4 G := ⟨⟨hx, hb, hml, hown, hts⟩, hK⟩
  have hS : va_S (lw_Fr b (b + 7)) s.heap s.heap [] := va_S.rf
  have hl := lv_entry ([.ref b]) (n := 3) (Nat.le_of_ble_eq_true rfl)
  rw [lg_entry_eq]
  generalize (lg_sl ([.ref b]) ++ List.replicate (3 - (lg_sl ([.ref b])).length) Slot.unset).toArray = ls at hl ⊢
  have hl : lv_has ls 3 [(0, .ref b)] := hl
  have loop6 : ∀ (n : Nat) (σ : St) (v1 : Int32) (H : Heap) (locs : List Loc) (ls : Array Slot), fX4_byOpening_6 n σ v1 = some (r, σ') → mAt G b σ H → va_S (lw_Fr b (b + 7)) s.heap H locs → lv_has ls 3 [(0, .ref b), (1, .int v1)] → W p l e (rmN 5) s m #[Value.ref b] below meth c H locs 0 0 (MQ below (QcW b (b + 7) (mAt G b σ') (some (.int r))) #[Value.ref b] s 0 0 (lw_Fr b (b + 7))) (F0 m 6 ls []) := by
    intro n
    induction n with
    | zero =>
      intro σ v1 H locs ls h X hS hl
      rw [fX4_byOpening_6_0] at h
      cases h
    | succ n ih =>
      intro σ v1 H locs ls h X hS hl
      rw [fX4_byOpening_6_s] at h
      refine lv_aload_n hx hb dX4_byOpening_6 rfl (lv_at hl 0 rfl) ?_
      obtain ⟨r3, hr3, h⟩ := ob h
      refine rowV (As := []) (rest := []) C (kX4_lastLeft l G b σ r3 hr3) (cwV 0 hts gX4_byOpening_X4_lastLeft rfl rfl rfl (by decide +kernel) ⟨Nat.le_of_ble_eq_true rfl, Nat.le_of_ble_eq_true rfl⟩) (rcv_X4 X hK) X rfl hl.1 rfl (Nat.le_of_ble_eq_true rfl) dX4_byOpening_7 ⟨Nat.zero_le _, Nat.zero_le _⟩ ?_
      refine lv_bipush (v := (-5)) hx hb dX4_byOpening_10 (by decide) ?_
      refine lv_icmp_eq (tgt := 39) hx hb dX4_byOpening_12 (by decide) (fun c4 => ?_) (fun c4 => ?_)
      · have h := ip h c4
        refine lv_aload_n hx hb dX4_byOpening_39 rfl (lv_at hl 0 rfl) ?_
        obtain ⟨σ6, hr5, h⟩ := ob h
        refine rowW (As := []) (rest := []) C (kX4_takeBack l G b σ σ6 hr5) (cwV 0 hts gX4_byOpening_X4_takeBack rfl rfl rfl (by decide +kernel) ⟨Nat.le_of_ble_eq_true rfl, Nat.le_of_ble_eq_true rfl⟩) (rcv_X4 X hK) X hS (fun _ z => z) rfl hl.1 rfl (Nat.le_of_ble_eq_true rfl) dX4_byOpening_40 ⟨Nat.zero_le _, Nat.zero_le _⟩ (fun H locs X hS _ _ => ?_)
        show W p l e _ s m _ below meth c H locs 0 0 _ (F0 m 43 ls [])
        refine lv_iload_n hx hb dX4_byOpening_43 rfl (lv_at hl 1 rfl) ?_
        obtain ⟨h, h9⟩ := pr h
        subst h
        subst h9
        exact W.iret hx hb hr (fun t ht _ => ⟨rfl, by rw [ht]; exact X, hS.F ht⟩) hS.2.2 dX4_byOpening_44
      · have h := iq h c4
        refine lv_aload_n hx hb dX4_byOpening_15 rfl (lv_at hl 0 rfl) ?_
        obtain ⟨r7, hr7, h⟩ := ob h
        refine rowV (As := []) (rest := []) C (kX4_lastLeft l G b σ r7 hr7) (cwV 0 hts gX4_byOpening_X4_lastLeft rfl rfl rfl (by decide +kernel) ⟨Nat.le_of_ble_eq_true rfl, Nat.le_of_ble_eq_true rfl⟩) (rcv_X4 X hK) X rfl hl.1 rfl (Nat.le_of_ble_eq_true rfl) dX4_byOpening_16 ⟨Nat.zero_le _, Nat.zero_le _⟩ ?_
        refine lv_istore_n (lv' := [(2, .int r7), (0, .ref b), (1, .int v1)]) hx hb dX4_byOpening_19 rfl hl (by decide) rfl (fun ls hl => ?_)
        refine lv_aload_n hx hb dX4_byOpening_20 rfl (lv_at hl 1 rfl) ?_
        refine lv_iload_n hx hb dX4_byOpening_21 rfl (lv_at hl 0 rfl) ?_
        refine lv_iconst (v := 4) hx hb dX4_byOpening_22 (by decide) ?_
        refine lv_iconst (v := 1) hx hb dX4_byOpening_23 (by decide) ?_
        obtain ⟨σ9, hr8, h⟩ := ob h
        refine rowW (As := [.int r7, .int 4, .int 1]) (rest := []) C (kX4_lay l G b σ r7 4 1 σ9 hr8) (cwV 3 hts gX4_byOpening_X4_lay rfl rfl rfl (by decide +kernel) ⟨Nat.le_of_ble_eq_true rfl, Nat.le_of_ble_eq_true rfl⟩) (rcv_X4 X hK) X hS (fun _ z => z) rfl hl.1 rfl (Nat.le_of_ble_eq_true rfl) dX4_byOpening_24 ⟨Nat.zero_le _, Nat.zero_le _⟩ (fun H locs X hS _ _ => ?_)
        show W p l e _ s m _ below meth c H locs 0 0 _ (F0 m 27 ls [])
        refine lv_aload_n hx hb dX4_byOpening_27 rfl (lv_at hl 1 rfl) ?_
        refine lv_iload_n hx hb dX4_byOpening_28 rfl (lv_at hl 0 rfl) ?_
        obtain ⟨q12, hr10, h⟩ := ob h
        refine rowW (As := [.int r7]) (rest := []) C (kX4_clears l G b σ9 r7 q12.1 q12.2 hr10) (cwV 1 hts gX4_byOpening_X4_clears rfl rfl rfl (by decide +kernel) ⟨Nat.le_of_ble_eq_true rfl, Nat.le_of_ble_eq_true rfl⟩) (rcv_X4 X hK) X hS (fun _ z => z) rfl hl.1 rfl (Nat.le_of_ble_eq_true rfl) dX4_byOpening_29 ⟨Nat.zero_le _, Nat.zero_le _⟩ (fun H locs X hS _ _ => ?_)
        show W p l e _ s m _ below meth c H locs 0 0 _ (F0 m 32 ls [.int q12.1])
        refine lv_pop hx hb dX4_byOpening_32 rfl ?_
        refine lv_iinc (v := v1 + 1) (lv' := [(1, .int (v1 + 1)), (2, .int r7), (0, .ref b)]) hx hb dX4_byOpening_33 hl (k := 2) rfl rfl (by decide) rfl (fun ls hl => ?_)
        refine lv_goto (tgt := 6) hx hb dX4_byOpening_36 (by decide) ?_
        exact ih _ _ _ _ _ h X hS (lv_sub hl [2, 0] rfl)
  unfold fX4_byOpening at h
  refine lv_aload_n hx hb dX4_byOpening_0 rfl (lv_at hl 0 rfl) ?_
  obtain ⟨σ2, hr1, h⟩ := ob h
  refine rowW (As := []) (rest := []) C (kX4_putAside l G b σ σ2 hr1) (cwV 0 hts gX4_byOpening_X4_putAside rfl rfl rfl (by decide +kernel) ⟨Nat.le_of_ble_eq_true rfl, Nat.le_of_ble_eq_true rfl⟩) (rcv_X4 X hK) X hS (fun _ z => z) rfl hl.1 rfl (Nat.le_of_ble_eq_true rfl) dX4_byOpening_1 ⟨Nat.zero_le _, Nat.zero_le _⟩ (fun H locs X hS _ _ => ?_)
  show W p l e _ s m _ below meth c H locs 0 0 _ (F0 m 4 ls [])
  refine lv_iconst (v := 0) hx hb dX4_byOpening_4 (by decide) ?_
  refine lv_istore_n (lv' := [(1, .int 0), (0, .ref b)]) hx hb dX4_byOpening_5 rfl hl (by decide) rfl (fun ls hl => ?_)
  exact loop6 _ _ _ _ _ _ h X hS (lv_sub hl [1, 0] rfl)

theorem in_X4_fewestOpenings : ∀ w ∈ wsX40, w ∈ wsX4_fewestOpenings := by decide +kernel
def fX4_fewestOpenings (σ : St) (p1 : Int32) : Option (Int32 × St) := if p1 = 0 then ((fX4_byEnds (up σ 0 0 0)).bind (fun r6 => some (r6, up σ 0 0 0))) else (if p1 = 1 then ((fX4_byOpening (up σ 0 0 0)).bind (fun q5 => some (q5.1, q5.2))) else (some ((-2), up σ 0 0 0)))
set_option maxHeartbeats 4000000 in
set_option maxRecDepth 100000 in
theorem kX4_fewestOpenings (l : Launch) (G : Gx) (b : Nat) (σ : St) (p1 : Int32) (r : Int32) (σ' : St) (h : fX4_fewestOpenings σ p1 = some (r, σ')) : Met l yX4_fewestOpenings wsX4_fewestOpenings (rmN 6) (pre G [.ref b, .int p1] (mAt G b σ)) (QcW b (b + 7) (mAt G b σ') (some (.int r))) 0 0 (lw_Fr b (b + 7)) := by
  refine Met.ofW (cc := cX4_fewestOpenings) (maxL := 2) (ret := (some .int)) (by decide) rfl ?_
  intro p e s m args below meth c s₁ B hml hv
  obtain ⟨rfl, X, hK⟩ := hv
  have hx := B.exec
  have hb := B.bytes
  have hr := B.returns
  have hts := atoms_spec (ws := wsX4_fewestOpenings) B.pre
  have hown : s.vm.findClass RX4 = some m.cls := findClass_of_methodNamed B.named
  have hlocks := B.notSynchronized
  have C : Cx p m c cX4_fewestOpenings 2 s _ wsX4_fewestOpenings RX4 G := ⟨⟨hx, hb, hml, hown, hts⟩, hK⟩
  have hin : ∀ w ∈ wsX40, w ∈ wsX4_fewestOpenings := in_X4_fewestOpenings
  have hS : va_S (lw_Fr b (b + 7)) s.heap s.heap [] := va_S.rf
  have hl := lv_entry ([.ref b, .int p1]) (n := 2) (Nat.le_of_ble_eq_true rfl)
  rw [lg_entry_eq]
  generalize (lg_sl ([.ref b, .int p1]) ++ List.replicate (2 - (lg_sl ([.ref b, .int p1])).length) Slot.unset).toArray = ls at hl ⊢
  have hl : lv_has ls 2 [(0, .ref b), (1, .int p1)] := hl
  unfold fX4_fewestOpenings at h
  refine lv_aload_n hx hb dX4_fewestOpenings_0 rfl (lv_at hl 0 rfl) ?_
  refine lv_iconst (v := 0) hx hb dX4_fewestOpenings_1 (by decide) ?_
  refine pt_X4_0 C hin X hS 1 rfl dX4_fewestOpenings_2 (fun H locs X hS => ?_)
  refine lv_iload_n hx hb dX4_fewestOpenings_5 rfl (lv_at hl 1 rfl) ?_
  refine lv_if_ne (tgt := 16) hx hb dX4_fewestOpenings_6 (by decide) (fun c1 => ?_) (fun c1 => ?_)
  · have h := iq h c1
    refine lv_iload_n hx hb dX4_fewestOpenings_16 rfl (lv_at hl 1 rfl) ?_
    refine lv_iconst (v := 1) hx hb dX4_fewestOpenings_17 (by decide) ?_
    refine lv_icmp_ne (tgt := 28) hx hb dX4_fewestOpenings_18 (by decide) (fun c2 => ?_) (fun c2 => ?_)
    · have h := iq h c2
      refine lv_bipush (v := (-2)) hx hb dX4_fewestOpenings_28 (by decide) ?_
      obtain ⟨h, h9⟩ := pr h
      subst h
      subst h9
      exact W.iret hx hb hr (fun t ht _ => ⟨rfl, by rw [ht]; exact X, hS.F ht⟩) hS.2.2 dX4_fewestOpenings_30
    · have h := ip h c2
      refine lv_aload_n hx hb dX4_fewestOpenings_21 rfl (lv_at hl 0 rfl) ?_
      obtain ⟨q5, hr3, h⟩ := ob h
      refine rowW (As := []) (rest := []) C (kX4_byOpening l G b (up σ 0 0 0) q5.1 q5.2 hr3) (cwV 0 hts gX4_fewestOpenings_X4_byOpening rfl rfl rfl (by decide +kernel) ⟨Nat.le_of_ble_eq_true rfl, Nat.le_of_ble_eq_true rfl⟩) (rcv_X4 X hK) X hS (fun _ z => z) rfl hl.1 rfl (Nat.le_of_ble_eq_true rfl) dX4_fewestOpenings_22 ⟨Nat.zero_le _, Nat.zero_le _⟩ (fun H locs X hS _ _ => ?_)
      show W p l e _ s m _ below meth c H locs 0 0 _ (F0 m 25 ls [.int q5.1])
      refine lv_goto (tgt := 30) hx hb dX4_fewestOpenings_25 (by decide) ?_
      obtain ⟨h, h9⟩ := pr h
      subst h
      subst h9
      exact W.iret hx hb hr (fun t ht _ => ⟨rfl, by rw [ht]; exact X, hS.F ht⟩) hS.2.2 dX4_fewestOpenings_30
  · have h := ip h c1
    refine lv_aload_n hx hb dX4_fewestOpenings_9 rfl (lv_at hl 0 rfl) ?_
    obtain ⟨r6, hr6, h⟩ := ob h
    refine rowV (As := []) (rest := []) C (kX4_byEnds l G b (up σ 0 0 0) r6 hr6) (cwV 0 hts gX4_fewestOpenings_X4_byEnds rfl rfl rfl (by decide +kernel) ⟨Nat.le_of_ble_eq_true rfl, Nat.le_of_ble_eq_true rfl⟩) (rcv_X4 X hK) X rfl hl.1 rfl (Nat.le_of_ble_eq_true rfl) dX4_fewestOpenings_10 ⟨Nat.zero_le _, Nat.zero_le _⟩ ?_
    refine lv_goto (tgt := 30) hx hb dX4_fewestOpenings_13 (by decide) ?_
    obtain ⟨h, h9⟩ := pr h
    subst h
    subst h9
    exact W.iret hx hb hr (fun t ht _ => ⟨rfl, by rw [ht]; exact X, hS.F ht⟩) hS.2.2 dX4_fewestOpenings_30

theorem in_X4_bestOpening : ∀ w ∈ wsX40, w ∈ wsX4_bestOpening := by decide +kernel
def fX4_bestOpening_12 : Nat → St → Int32 → Int32 → Int32 → Option (Int32 × St)
  | 0, _, _, _, _ => none
  | n + 1, σ, v1, v2, v3 => if (σ 1 5) ≤ v3 then (some (v1, σ)) else ((fX4_of σ v3 4).bind (fun r2 => if r2 = 1 then (if (-1 : Int32) ≤ v2 then (if (-1 : Int32) ≤ v2 then (fX4_bestOpening_12 n σ v1 v2 (v3 + 1)) else (fX4_bestOpening_12 n σ v1 (-1) (v3 + 1))) else (if (-1 : Int32) ≤ v2 then (fX4_bestOpening_12 n σ v3 v2 (v3 + 1)) else (fX4_bestOpening_12 n σ v3 (-1) (v3 + 1)))) else ((fX4_wouldClear σ v3).bind (fun q6 => if q6.1 ≤ v2 then (if q6.1 ≤ v2 then (fX4_bestOpening_12 n q6.2 v1 v2 (v3 + 1)) else (fX4_bestOpening_12 n q6.2 v1 q6.1 (v3 + 1))) else (if q6.1 ≤ v2 then (fX4_bestOpening_12 n q6.2 v3 v2 (v3 + 1)) else (fX4_bestOpening_12 n q6.2 v3 q6.1 (v3 + 1)))))))
theorem fX4_bestOpening_12_0 (σ : St) (v1 : Int32) (v2 : Int32) (v3 : Int32) : fX4_bestOpening_12 0 σ v1 v2 v3 = none := rfl
theorem fX4_bestOpening_12_s (n : Nat) (σ : St) (v1 : Int32) (v2 : Int32) (v3 : Int32) : fX4_bestOpening_12 (n + 1) σ v1 v2 v3 = (if (σ 1 5) ≤ v3 then (some (v1, σ)) else ((fX4_of σ v3 4).bind (fun r2 => if r2 = 1 then (if (-1 : Int32) ≤ v2 then (if (-1 : Int32) ≤ v2 then (fX4_bestOpening_12 n σ v1 v2 (v3 + 1)) else (fX4_bestOpening_12 n σ v1 (-1) (v3 + 1))) else (if (-1 : Int32) ≤ v2 then (fX4_bestOpening_12 n σ v3 v2 (v3 + 1)) else (fX4_bestOpening_12 n σ v3 (-1) (v3 + 1)))) else ((fX4_wouldClear σ v3).bind (fun q6 => if q6.1 ≤ v2 then (if q6.1 ≤ v2 then (fX4_bestOpening_12 n q6.2 v1 v2 (v3 + 1)) else (fX4_bestOpening_12 n q6.2 v1 q6.1 (v3 + 1))) else (if q6.1 ≤ v2 then (fX4_bestOpening_12 n q6.2 v3 v2 (v3 + 1)) else (fX4_bestOpening_12 n q6.2 v3 q6.1 (v3 + 1)))))))) := rfl
def fX4_bestOpening (σ : St) : Option (Int32 × St) := fX4_bestOpening_12 1000 (up σ 0 0 0) (-5) (-1) 0
set_option maxHeartbeats 4000000 in
set_option maxRecDepth 100000 in
theorem kX4_bestOpening (l : Launch) (G : Gx) (b : Nat) (σ : St) (r : Int32) (σ' : St) (h : fX4_bestOpening σ = some (r, σ')) : Met l yX4_bestOpening wsX4_bestOpening (rmN 6) (pre G [.ref b] (mAt G b σ)) (QcW b (b + 7) (mAt G b σ') (some (.int r))) 0 0 (lw_Fr b (b + 7)) := by
  refine Met.ofW (cc := cX4_bestOpening) (maxL := 5) (ret := (some .int)) (by decide) rfl ?_
  intro p e s m args below meth c s₁ B hml hv
  obtain ⟨rfl, X, hK⟩ := hv
  have hx := B.exec
  have hb := B.bytes
  have hr := B.returns
  have hts := atoms_spec (ws := wsX4_bestOpening) B.pre
  have hown : s.vm.findClass RX4 = some m.cls := findClass_of_methodNamed B.named
  have hlocks := B.notSynchronized
  have C : Cx p m c cX4_bestOpening 5 s _ wsX4_bestOpening RX4 G := ⟨⟨hx, hb, hml, hown, hts⟩, hK⟩
  have hin : ∀ w ∈ wsX40, w ∈ wsX4_bestOpening := in_X4_bestOpening
  have hS : va_S (lw_Fr b (b + 7)) s.heap s.heap [] := va_S.rf
  have hl := lv_entry ([.ref b]) (n := 5) (Nat.le_of_ble_eq_true rfl)
  rw [lg_entry_eq]
  generalize (lg_sl ([.ref b]) ++ List.replicate (5 - (lg_sl ([.ref b])).length) Slot.unset).toArray = ls at hl ⊢
  have hl : lv_has ls 5 [(0, .ref b)] := hl
  have loop12 : ∀ (n : Nat) (σ : St) (v1 : Int32) (v2 : Int32) (v3 : Int32) (H : Heap) (locs : List Loc) (ls : Array Slot), fX4_bestOpening_12 n σ v1 v2 v3 = some (r, σ') → mAt G b σ H → va_S (lw_Fr b (b + 7)) s.heap H locs → lv_has ls 5 [(0, .ref b), (1, .int v1), (2, .int v2), (3, .int v3)] → W p l e (rmN 6) s m #[Value.ref b] below meth c H locs 0 0 (MQ below (QcW b (b + 7) (mAt G b σ') (some (.int r))) #[Value.ref b] s 0 0 (lw_Fr b (b + 7))) (F0 m 12 ls []) := by
    intro n
    induction n with
    | zero =>
      intro σ v1 v2 v3 H locs ls h X hS hl
      rw [fX4_bestOpening_12_0] at h
      cases h
    | succ n ih =>
      intro σ v1 v2 v3 H locs ls h X hS hl
      rw [fX4_bestOpening_12_s] at h
      refine lv_iload_n hx hb dX4_bestOpening_12 rfl (lv_at hl 3 rfl) ?_
      refine lv_aload_n hx hb dX4_bestOpening_13 rfl (lv_at hl 0 rfl) ?_
      refine gt_X4_1 C hin X 2 rfl dX4_bestOpening_14 ?_
      refine lv_iconst (v := 5) hx hb dX4_bestOpening_17 (by decide) ?_
      refine al_X4_1 (j := 5) C X rfl (by decide) dX4_bestOpening_18 ?_
      refine lv_icmp_ge (tgt := 74) hx hb dX4_bestOpening_19 (by decide) (fun c1 => ?_) (fun c1 => ?_)
      · have h := ip h c1
        refine lv_iload_n hx hb dX4_bestOpening_74 rfl (lv_at hl 1 rfl) ?_
        obtain ⟨h, h9⟩ := pr h
        subst h
        subst h9
        exact W.iret hx hb hr (fun t ht _ => ⟨rfl, by rw [ht]; exact X, hS.F ht⟩) hS.2.2 dX4_bestOpening_75
      · have h := iq h c1
        refine lv_aload_n hx hb dX4_bestOpening_22 rfl (lv_at hl 0 rfl) ?_
        refine lv_iload_n hx hb dX4_bestOpening_23 rfl (lv_at hl 3 rfl) ?_
        refine lv_iconst (v := 4) hx hb dX4_bestOpening_24 (by decide) ?_
        obtain ⟨r2, hr2, h⟩ := ob h
        refine rowV (As := [.int v3, .int 4]) (rest := []) C (kX4_of l G b σ v3 4 r2 hr2) (cwV 2 hts gX4_bestOpening_X4_of rfl rfl rfl (by decide +kernel) ⟨Nat.le_of_ble_eq_true rfl, Nat.le_of_ble_eq_true rfl⟩) (rcv_X4 X hK) X rfl hl.1 rfl (Nat.le_of_ble_eq_true rfl) dX4_bestOpening_25 ⟨Nat.zero_le _, Nat.zero_le _⟩ ?_
        refine lv_iconst (v := 1) hx hb dX4_bestOpening_28 (by decide) ?_
        refine lv_icmp_ne (tgt := 36) hx hb dX4_bestOpening_29 (by decide) (fun c3 => ?_) (fun c3 => ?_)
        · have h := iq h c3
          refine lv_aload_n hx hb dX4_bestOpening_36 rfl (lv_at hl 0 rfl) ?_
          refine lv_iload_n hx hb dX4_bestOpening_37 rfl (lv_at hl 3 rfl) ?_
          obtain ⟨q6, hr4, h⟩ := ob h
          refine rowW (As := [.int v3]) (rest := []) C (kX4_wouldClear l G b σ v3 q6.1 q6.2 hr4) (cwV 1 hts gX4_bestOpening_X4_wouldClear rfl rfl rfl (by decide +kernel) ⟨Nat.le_of_ble_eq_true rfl, Nat.le_of_ble_eq_true rfl⟩) (rcv_X4 X hK) X hS (fun _ z => z) rfl hl.1 rfl (Nat.le_of_ble_eq_true rfl) dX4_bestOpening_38 ⟨Nat.zero_le _, Nat.zero_le _⟩ (fun H locs X hS _ _ => ?_)
          show W p l e _ s m _ below meth c H locs 0 0 _ (F0 m 41 ls [.int q6.1])
          refine lv_istore (lv' := [(4, .int q6.1), (0, .ref b), (1, .int v1), (2, .int v2), (3, .int v3)]) hx hb dX4_bestOpening_41 hl (by decide) rfl (fun ls hl => ?_)
          refine lv_iload hx hb dX4_bestOpening_43 (lv_at hl 0 rfl) ?_
          refine lv_iload_n hx hb dX4_bestOpening_45 rfl (lv_at hl 3 rfl) ?_
          refine lv_icmp_le (tgt := 53) hx hb dX4_bestOpening_46 (by decide) (fun c7 => ?_) (fun c7 => ?_)
          · have h := ip h c7
            refine lv_iload_n hx hb dX4_bestOpening_53 rfl (lv_at hl 2 rfl) ?_
            refine lv_istore_n (lv' := [(1, .int v1), (4, .int q6.1), (0, .ref b), (2, .int v2), (3, .int v3)]) hx hb dX4_bestOpening_54 rfl hl (by decide) rfl (fun ls hl => ?_)
            refine lv_iload hx hb dX4_bestOpening_55 (lv_at hl 1 rfl) ?_
            refine lv_iload_n hx hb dX4_bestOpening_57 rfl (lv_at hl 3 rfl) ?_
            refine lv_icmp_le (tgt := 66) hx hb dX4_bestOpening_58 (by decide) (fun c8 => ?_) (fun c8 => ?_)
            · have h := ip h c8
              refine lv_iload_n hx hb dX4_bestOpening_66 rfl (lv_at hl 3 rfl) ?_
              refine lv_istore_n (lv' := [(2, .int v2), (1, .int v1), (4, .int q6.1), (0, .ref b), (3, .int v3)]) hx hb dX4_bestOpening_67 rfl hl (by decide) rfl (fun ls hl => ?_)
              refine lv_iinc (v := v3 + 1) (lv' := [(3, .int (v3 + 1)), (2, .int v2), (1, .int v1), (4, .int q6.1), (0, .ref b)]) hx hb dX4_bestOpening_68 hl (k := 4) rfl rfl (by decide) rfl (fun ls hl => ?_)
              refine lv_goto (tgt := 12) hx hb dX4_bestOpening_71 (by decide) ?_
              exact ih _ _ _ _ _ _ _ h X hS (lv_sub hl [4, 2, 1, 0] rfl)
            · have h := iq h c8
              refine lv_iload hx hb dX4_bestOpening_61 (lv_at hl 1 rfl) ?_
              refine lv_goto (tgt := 67) hx hb dX4_bestOpening_63 (by decide) ?_
              refine lv_istore_n (lv' := [(2, .int q6.1), (1, .int v1), (4, .int q6.1), (0, .ref b), (3, .int v3)]) hx hb dX4_bestOpening_67 rfl hl (by decide) rfl (fun ls hl => ?_)
              refine lv_iinc (v := v3 + 1) (lv' := [(3, .int (v3 + 1)), (2, .int q6.1), (1, .int v1), (4, .int q6.1), (0, .ref b)]) hx hb dX4_bestOpening_68 hl (k := 4) rfl rfl (by decide) rfl (fun ls hl => ?_)
              refine lv_goto (tgt := 12) hx hb dX4_bestOpening_71 (by decide) ?_
              exact ih _ _ _ _ _ _ _ h X hS (lv_sub hl [4, 2, 1, 0] rfl)
          · have h := iq h c7
            refine lv_iload_n hx hb dX4_bestOpening_49 rfl (lv_at hl 4 rfl) ?_
            refine lv_goto (tgt := 54) hx hb dX4_bestOpening_50 (by decide) ?_
            refine lv_istore_n (lv' := [(1, .int v3), (4, .int q6.1), (0, .ref b), (2, .int v2), (3, .int v3)]) hx hb dX4_bestOpening_54 rfl hl (by decide) rfl (fun ls hl => ?_)
            refine lv_iload hx hb dX4_bestOpening_55 (lv_at hl 1 rfl) ?_
            refine lv_iload_n hx hb dX4_bestOpening_57 rfl (lv_at hl 3 rfl) ?_
            refine lv_icmp_le (tgt := 66) hx hb dX4_bestOpening_58 (by decide) (fun c9 => ?_) (fun c9 => ?_)
            · have h := ip h c9
              refine lv_iload_n hx hb dX4_bestOpening_66 rfl (lv_at hl 3 rfl) ?_
              refine lv_istore_n (lv' := [(2, .int v2), (1, .int v3), (4, .int q6.1), (0, .ref b), (3, .int v3)]) hx hb dX4_bestOpening_67 rfl hl (by decide) rfl (fun ls hl => ?_)
              refine lv_iinc (v := v3 + 1) (lv' := [(3, .int (v3 + 1)), (2, .int v2), (1, .int v3), (4, .int q6.1), (0, .ref b)]) hx hb dX4_bestOpening_68 hl (k := 4) rfl rfl (by decide) rfl (fun ls hl => ?_)
              refine lv_goto (tgt := 12) hx hb dX4_bestOpening_71 (by decide) ?_
              exact ih _ _ _ _ _ _ _ h X hS (lv_sub hl [4, 2, 1, 0] rfl)
            · have h := iq h c9
              refine lv_iload hx hb dX4_bestOpening_61 (lv_at hl 1 rfl) ?_
              refine lv_goto (tgt := 67) hx hb dX4_bestOpening_63 (by decide) ?_
              refine lv_istore_n (lv' := [(2, .int q6.1), (1, .int v3), (4, .int q6.1), (0, .ref b), (3, .int v3)]) hx hb dX4_bestOpening_67 rfl hl (by decide) rfl (fun ls hl => ?_)
              refine lv_iinc (v := v3 + 1) (lv' := [(3, .int (v3 + 1)), (2, .int q6.1), (1, .int v3), (4, .int q6.1), (0, .ref b)]) hx hb dX4_bestOpening_68 hl (k := 4) rfl rfl (by decide) rfl (fun ls hl => ?_)
              refine lv_goto (tgt := 12) hx hb dX4_bestOpening_71 (by decide) ?_
              exact ih _ _ _ _ _ _ _ h X hS (lv_sub hl [4, 2, 1, 0] rfl)
        · have h := ip h c3
          refine lv_iconst (v := (-1)) hx hb dX4_bestOpening_32 (by decide) ?_
          refine lv_goto (tgt := 41) hx hb dX4_bestOpening_33 (by decide) ?_
          refine lv_istore (lv' := [(4, .int (-1)), (0, .ref b), (1, .int v1), (2, .int v2), (3, .int v3)]) hx hb dX4_bestOpening_41 hl (by decide) rfl (fun ls hl => ?_)
          refine lv_iload hx hb dX4_bestOpening_43 (lv_at hl 0 rfl) ?_
          refine lv_iload_n hx hb dX4_bestOpening_45 rfl (lv_at hl 3 rfl) ?_
          refine lv_icmp_le (tgt := 53) hx hb dX4_bestOpening_46 (by decide) (fun c10 => ?_) (fun c10 => ?_)
          · have h := ip h c10
            refine lv_iload_n hx hb dX4_bestOpening_53 rfl (lv_at hl 2 rfl) ?_
            refine lv_istore_n (lv' := [(1, .int v1), (4, .int (-1)), (0, .ref b), (2, .int v2), (3, .int v3)]) hx hb dX4_bestOpening_54 rfl hl (by decide) rfl (fun ls hl => ?_)
            refine lv_iload hx hb dX4_bestOpening_55 (lv_at hl 1 rfl) ?_
            refine lv_iload_n hx hb dX4_bestOpening_57 rfl (lv_at hl 3 rfl) ?_
            refine lv_icmp_le (tgt := 66) hx hb dX4_bestOpening_58 (by decide) (fun c11 => ?_) (fun c11 => ?_)
            · have h := ip h c11
              refine lv_iload_n hx hb dX4_bestOpening_66 rfl (lv_at hl 3 rfl) ?_
              refine lv_istore_n (lv' := [(2, .int v2), (1, .int v1), (4, .int (-1)), (0, .ref b), (3, .int v3)]) hx hb dX4_bestOpening_67 rfl hl (by decide) rfl (fun ls hl => ?_)
              refine lv_iinc (v := v3 + 1) (lv' := [(3, .int (v3 + 1)), (2, .int v2), (1, .int v1), (4, .int (-1)), (0, .ref b)]) hx hb dX4_bestOpening_68 hl (k := 4) rfl rfl (by decide) rfl (fun ls hl => ?_)
              refine lv_goto (tgt := 12) hx hb dX4_bestOpening_71 (by decide) ?_
              exact ih _ _ _ _ _ _ _ h X hS (lv_sub hl [4, 2, 1, 0] rfl)
            · have h := iq h c11
              refine lv_iload hx hb dX4_bestOpening_61 (lv_at hl 1 rfl) ?_
              refine lv_goto (tgt := 67) hx hb dX4_bestOpening_63 (by decide) ?_
              refine lv_istore_n (lv' := [(2, .int (-1)), (1, .int v1), (4, .int (-1)), (0, .ref b), (3, .int v3)]) hx hb dX4_bestOpening_67 rfl hl (by decide) rfl (fun ls hl => ?_)
              refine lv_iinc (v := v3 + 1) (lv' := [(3, .int (v3 + 1)), (2, .int (-1)), (1, .int v1), (4, .int (-1)), (0, .ref b)]) hx hb dX4_bestOpening_68 hl (k := 4) rfl rfl (by decide) rfl (fun ls hl => ?_)
              refine lv_goto (tgt := 12) hx hb dX4_bestOpening_71 (by decide) ?_
              exact ih _ _ _ _ _ _ _ h X hS (lv_sub hl [4, 2, 1, 0] rfl)
          · have h := iq h c10
            refine lv_iload_n hx hb dX4_bestOpening_49 rfl (lv_at hl 4 rfl) ?_
            refine lv_goto (tgt := 54) hx hb dX4_bestOpening_50 (by decide) ?_
            refine lv_istore_n (lv' := [(1, .int v3), (4, .int (-1)), (0, .ref b), (2, .int v2), (3, .int v3)]) hx hb dX4_bestOpening_54 rfl hl (by decide) rfl (fun ls hl => ?_)
            refine lv_iload hx hb dX4_bestOpening_55 (lv_at hl 1 rfl) ?_
            refine lv_iload_n hx hb dX4_bestOpening_57 rfl (lv_at hl 3 rfl) ?_
            refine lv_icmp_le (tgt := 66) hx hb dX4_bestOpening_58 (by decide) (fun c12 => ?_) (fun c12 => ?_)
            · have h := ip h c12
              refine lv_iload_n hx hb dX4_bestOpening_66 rfl (lv_at hl 3 rfl) ?_
              refine lv_istore_n (lv' := [(2, .int v2), (1, .int v3), (4, .int (-1)), (0, .ref b), (3, .int v3)]) hx hb dX4_bestOpening_67 rfl hl (by decide) rfl (fun ls hl => ?_)
              refine lv_iinc (v := v3 + 1) (lv' := [(3, .int (v3 + 1)), (2, .int v2), (1, .int v3), (4, .int (-1)), (0, .ref b)]) hx hb dX4_bestOpening_68 hl (k := 4) rfl rfl (by decide) rfl (fun ls hl => ?_)
              refine lv_goto (tgt := 12) hx hb dX4_bestOpening_71 (by decide) ?_
              exact ih _ _ _ _ _ _ _ h X hS (lv_sub hl [4, 2, 1, 0] rfl)
            · have h := iq h c12
              refine lv_iload hx hb dX4_bestOpening_61 (lv_at hl 1 rfl) ?_
              refine lv_goto (tgt := 67) hx hb dX4_bestOpening_63 (by decide) ?_
              refine lv_istore_n (lv' := [(2, .int (-1)), (1, .int v3), (4, .int (-1)), (0, .ref b), (3, .int v3)]) hx hb dX4_bestOpening_67 rfl hl (by decide) rfl (fun ls hl => ?_)
              refine lv_iinc (v := v3 + 1) (lv' := [(3, .int (v3 + 1)), (2, .int (-1)), (1, .int v3), (4, .int (-1)), (0, .ref b)]) hx hb dX4_bestOpening_68 hl (k := 4) rfl rfl (by decide) rfl (fun ls hl => ?_)
              refine lv_goto (tgt := 12) hx hb dX4_bestOpening_71 (by decide) ?_
              exact ih _ _ _ _ _ _ _ h X hS (lv_sub hl [4, 2, 1, 0] rfl)
  unfold fX4_bestOpening at h
  refine lv_aload_n hx hb dX4_bestOpening_0 rfl (lv_at hl 0 rfl) ?_
  refine lv_iconst (v := 0) hx hb dX4_bestOpening_1 (by decide) ?_
  refine pt_X4_0 C hin X hS 1 rfl dX4_bestOpening_2 (fun H locs X hS => ?_)
  refine lv_bipush (v := (-5)) hx hb dX4_bestOpening_5 (by decide) ?_
  refine lv_istore_n (lv' := [(1, .int (-5)), (0, .ref b)]) hx hb dX4_bestOpening_7 rfl hl (by decide) rfl (fun ls hl => ?_)
  refine lv_iconst (v := (-1)) hx hb dX4_bestOpening_8 (by decide) ?_
  refine lv_istore_n (lv' := [(2, .int (-1)), (1, .int (-5)), (0, .ref b)]) hx hb dX4_bestOpening_9 rfl hl (by decide) rfl (fun ls hl => ?_)
  refine lv_iconst (v := 0) hx hb dX4_bestOpening_10 (by decide) ?_
  refine lv_istore_n (lv' := [(3, .int 0), (2, .int (-1)), (1, .int (-5)), (0, .ref b)]) hx hb dX4_bestOpening_11 rfl hl (by decide) rfl (fun ls hl => ?_)
  exact loop12 _ _ _ _ _ _ _ _ h X hS (lv_sub hl [3, 2, 1, 0] rfl)

theorem in_X4_sameSeal : ∀ w ∈ wsX40, w ∈ wsX4_sameSeal := by decide +kernel
def fX4_sameSeal_17 : Nat → St → Int32 → Int32 → Option (Int32 × St)
  | 0, _, _, _ => none
  | n + 1, σ, v1, v2 => if 99 < v2 then (some ((-5), σ)) else ((fX4_of σ v1 0).bind (fun r4 => if v2 = r4 then (fX4_sameSeal_17 n σ v1 (v2 + 1)) else ((fX4_sealBy σ v1 v2).bind (fun r6 => (fX4_rightSeal σ v1).bind (fun r7 => if r6 = r7 then (some (v2, σ)) else (fX4_sameSeal_17 n σ v1 (v2 + 1)))))))
theorem fX4_sameSeal_17_0 (σ : St) (v1 : Int32) (v2 : Int32) : fX4_sameSeal_17 0 σ v1 v2 = none := rfl
theorem fX4_sameSeal_17_s (n : Nat) (σ : St) (v1 : Int32) (v2 : Int32) : fX4_sameSeal_17 (n + 1) σ v1 v2 = (if 99 < v2 then (some ((-5), σ)) else ((fX4_of σ v1 0).bind (fun r4 => if v2 = r4 then (fX4_sameSeal_17 n σ v1 (v2 + 1)) else ((fX4_sealBy σ v1 v2).bind (fun r6 => (fX4_rightSeal σ v1).bind (fun r7 => if r6 = r7 then (some (v2, σ)) else (fX4_sameSeal_17 n σ v1 (v2 + 1)))))))) := rfl
def fX4_sameSeal (σ : St) (p1 : Int32) : Option (Int32 × St) := (fX4_isCart (up σ 0 0 0) p1).bind (fun r1 => if r1 = 0 then (some ((-1), up σ 0 0 0)) else (fX4_sameSeal_17 1000 (up σ 0 0 0) p1 0))
set_option maxHeartbeats 4000000 in
set_option maxRecDepth 100000 in
theorem kX4_sameSeal (l : Launch) (G : Gx) (b : Nat) (σ : St) (p1 : Int32) (r : Int32) (σ' : St) (h : fX4_sameSeal σ p1 = some (r, σ')) : Met l yX4_sameSeal wsX4_sameSeal (rmN 3) (pre G [.ref b, .int p1] (mAt G b σ)) (QcW b (b + 7) (mAt G b σ') (some (.int r))) 0 0 (lw_Fr b (b + 7)) := by
  refine Met.ofW (cc := cX4_sameSeal) (maxL := 3) (ret := (some .int)) (by decide) rfl ?_
  intro p e s m args below meth c s₁ B hml hv
  obtain ⟨rfl, X, hK⟩ := hv
  have hx := B.exec
  have hb := B.bytes
  have hr := B.returns
  have hts := atoms_spec (ws := wsX4_sameSeal) B.pre
  have hown : s.vm.findClass RX4 = some m.cls := findClass_of_methodNamed B.named
  have hlocks := B.notSynchronized
  have C : Cx p m c cX4_sameSeal 3 s _ wsX4_sameSeal RX4 G := ⟨⟨hx, hb, hml, hown, hts⟩, hK⟩
  have hin : ∀ w ∈ wsX40, w ∈ wsX4_sameSeal := in_X4_sameSeal
  have hS : va_S (lw_Fr b (b + 7)) s.heap s.heap [] := va_S.rf
  have hl := lv_entry ([.ref b, .int p1]) (n := 3) (Nat.le_of_ble_eq_true rfl)
  rw [lg_entry_eq]
  generalize (lg_sl ([.ref b, .int p1]) ++ List.replicate (3 - (lg_sl ([.ref b, .int p1])).length) Slot.unset).toArray = ls at hl ⊢
  have hl : lv_has ls 3 [(0, .ref b), (1, .int p1)] := hl
  have loop17 : ∀ (n : Nat) (σ : St) (v1 : Int32) (v2 : Int32) (H : Heap) (locs : List Loc) (ls : Array Slot), fX4_sameSeal_17 n σ v1 v2 = some (r, σ') → mAt G b σ H → va_S (lw_Fr b (b + 7)) s.heap H locs → lv_has ls 3 [(0, .ref b), (1, .int v1), (2, .int v2)] → W p l e (rmN 3) s m #[Value.ref b, Value.int p1] below meth c H locs 0 0 (MQ below (QcW b (b + 7) (mAt G b σ') (some (.int r))) #[Value.ref b, Value.int p1] s 0 0 (lw_Fr b (b + 7))) (F0 m 17 ls []) := by
    intro n
    induction n with
    | zero =>
      intro σ v1 v2 H locs ls h X hS hl
      rw [fX4_sameSeal_17_0] at h
      cases h
    | succ n ih =>
      intro σ v1 v2 H locs ls h X hS hl
      rw [fX4_sameSeal_17_s] at h
      refine lv_iload_n hx hb dX4_sameSeal_17 rfl (lv_at hl 2 rfl) ?_
      refine lv_bipush (v := 99) hx hb dX4_sameSeal_18 (by decide) ?_
      refine lv_icmp_gt (tgt := 55) hx hb dX4_sameSeal_20 (by decide) (fun c3 => ?_) (fun c3 => ?_)
      · have h := ip h c3
        refine lv_bipush (v := (-5)) hx hb dX4_sameSeal_55 (by decide) ?_
        obtain ⟨h, h9⟩ := pr h
        subst h
        subst h9
        exact W.iret hx hb hr (fun t ht _ => ⟨rfl, by rw [ht]; exact X, hS.F ht⟩) hS.2.2 dX4_sameSeal_57
      · have h := iq h c3
        refine lv_iload_n hx hb dX4_sameSeal_23 rfl (lv_at hl 2 rfl) ?_
        refine lv_aload_n hx hb dX4_sameSeal_24 rfl (lv_at hl 0 rfl) ?_
        refine lv_iload_n hx hb dX4_sameSeal_25 rfl (lv_at hl 1 rfl) ?_
        refine lv_iconst (v := 0) hx hb dX4_sameSeal_26 (by decide) ?_
        obtain ⟨r4, hr4, h⟩ := ob h
        refine rowV (As := [.int v1, .int 0]) (rest := [.int v2]) C (kX4_of l G b σ v1 0 r4 hr4) (cwV 2 hts gX4_sameSeal_X4_of rfl rfl rfl (by decide +kernel) ⟨Nat.le_of_ble_eq_true rfl, Nat.le_of_ble_eq_true rfl⟩) (rcv_X4 X hK) X rfl hl.1 rfl (Nat.le_of_ble_eq_true rfl) dX4_sameSeal_27 ⟨Nat.zero_le _, Nat.zero_le _⟩ ?_
        refine lv_icmp_eq (tgt := 49) hx hb dX4_sameSeal_30 (by decide) (fun c5 => ?_) (fun c5 => ?_)
        · have h := ip h c5
          refine lv_iinc (v := v2 + 1) (lv' := [(2, .int (v2 + 1)), (0, .ref b), (1, .int v1)]) hx hb dX4_sameSeal_49 hl (k := 2) rfl rfl (by decide) rfl (fun ls hl => ?_)
          refine lv_goto (tgt := 17) hx hb dX4_sameSeal_52 (by decide) ?_
          exact ih _ _ _ _ _ _ h X hS (lv_sub hl [1, 2, 0] rfl)
        · have h := iq h c5
          refine lv_aload_n hx hb dX4_sameSeal_33 rfl (lv_at hl 0 rfl) ?_
          refine lv_iload_n hx hb dX4_sameSeal_34 rfl (lv_at hl 1 rfl) ?_
          refine lv_iload_n hx hb dX4_sameSeal_35 rfl (lv_at hl 2 rfl) ?_
          obtain ⟨r6, hr6, h⟩ := ob h
          refine rowV (As := [.int v1, .int v2]) (rest := []) C (kX4_sealBy l G b σ v1 v2 r6 hr6) (cwV 2 hts gX4_sameSeal_X4_sealBy rfl rfl rfl (by decide +kernel) ⟨Nat.le_of_ble_eq_true rfl, Nat.le_of_ble_eq_true rfl⟩) (rcv_X4 X hK) X rfl hl.1 rfl (Nat.le_of_ble_eq_true rfl) dX4_sameSeal_36 ⟨Nat.zero_le _, Nat.zero_le _⟩ ?_
          refine lv_aload_n hx hb dX4_sameSeal_39 rfl (lv_at hl 0 rfl) ?_
          refine lv_iload_n hx hb dX4_sameSeal_40 rfl (lv_at hl 1 rfl) ?_
          obtain ⟨r7, hr7, h⟩ := ob h
          refine rowV (As := [.int v1]) (rest := [.int r6]) C (kX4_rightSeal l G b σ v1 r7 hr7) (cwV 1 hts gX4_sameSeal_X4_rightSeal rfl rfl rfl (by decide +kernel) ⟨Nat.le_of_ble_eq_true rfl, Nat.le_of_ble_eq_true rfl⟩) (rcv_X4 X hK) X rfl hl.1 rfl (Nat.le_of_ble_eq_true rfl) dX4_sameSeal_41 ⟨Nat.zero_le _, Nat.zero_le _⟩ ?_
          refine lv_icmp_ne (tgt := 49) hx hb dX4_sameSeal_44 (by decide) (fun c8 => ?_) (fun c8 => ?_)
          · have h := iq h c8
            refine lv_iinc (v := v2 + 1) (lv' := [(2, .int (v2 + 1)), (0, .ref b), (1, .int v1)]) hx hb dX4_sameSeal_49 hl (k := 2) rfl rfl (by decide) rfl (fun ls hl => ?_)
            refine lv_goto (tgt := 17) hx hb dX4_sameSeal_52 (by decide) ?_
            exact ih _ _ _ _ _ _ h X hS (lv_sub hl [1, 2, 0] rfl)
          · have h := ip h c8
            refine lv_iload_n hx hb dX4_sameSeal_47 rfl (lv_at hl 2 rfl) ?_
            obtain ⟨h, h9⟩ := pr h
            subst h
            subst h9
            exact W.iret hx hb hr (fun t ht _ => ⟨rfl, by rw [ht]; exact X, hS.F ht⟩) hS.2.2 dX4_sameSeal_48
  unfold fX4_sameSeal at h
  refine lv_aload_n hx hb dX4_sameSeal_0 rfl (lv_at hl 0 rfl) ?_
  refine lv_iconst (v := 0) hx hb dX4_sameSeal_1 (by decide) ?_
  refine pt_X4_0 C hin X hS 1 rfl dX4_sameSeal_2 (fun H locs X hS => ?_)
  refine lv_aload_n hx hb dX4_sameSeal_5 rfl (lv_at hl 0 rfl) ?_
  refine lv_iload_n hx hb dX4_sameSeal_6 rfl (lv_at hl 1 rfl) ?_
  obtain ⟨r1, hr1, h⟩ := ob h
  refine rowV (As := [.int p1]) (rest := []) C (kX4_isCart l G b (up σ 0 0 0) p1 r1 hr1) (cwV 1 hts gX4_sameSeal_X4_isCart rfl rfl rfl (by decide +kernel) ⟨Nat.le_of_ble_eq_true rfl, Nat.le_of_ble_eq_true rfl⟩) (rcv_X4 X hK) X rfl hl.1 rfl (Nat.le_of_ble_eq_true rfl) dX4_sameSeal_7 ⟨Nat.zero_le _, Nat.zero_le _⟩ ?_
  refine lv_if_ne (tgt := 15) hx hb dX4_sameSeal_10 (by decide) (fun c2 => ?_) (fun c2 => ?_)
  · have h := iq h c2
    refine lv_iconst (v := 0) hx hb dX4_sameSeal_15 (by decide) ?_
    refine lv_istore_n (lv' := [(2, .int 0), (0, .ref b), (1, .int p1)]) hx hb dX4_sameSeal_16 rfl hl (by decide) rfl (fun ls hl => ?_)
    exact loop17 _ _ _ _ _ _ _ h X hS (lv_sub hl [1, 2, 0] rfl)
  · have h := ip h c2
    refine lv_iconst (v := (-1)) hx hb dX4_sameSeal_13 (by decide) ?_
    obtain ⟨h, h9⟩ := pr h
    subst h
    subst h9
    exact W.iret hx hb hr (fun t ht _ => ⟨rfl, by rw [ht]; exact X, hS.F ht⟩) hS.2.2 dX4_sameSeal_14
