abbrev YS : Type := (Nat → Nat) × Nat × (Nat → St)
def rOK (hb : Nat) (r : Nat → Nat) : Prop := (∀ i, i < 4 → ∃ j, j < 4 ∧ r i = hb + 2 + 7 * j) ∧ ∀ i j, i < 4 → j < 4 → r i = r j → i = j
def yAt (G : Gx) (hb : Nat) (y : YS) (H : Heap) : Prop := va_P G.1 vwCl (yWs G hb y.1 y.2.1) H ∧ rOK hb y.1 ∧ y.2.1 ≤ 4 ∧ ∀ i, i < 4 → hAt G (y.1 i) (y.2.2 i) H
def addY (y : YS) (σ : St) : YS := if y.2.1 < 4 then (y.1, y.2.1 + 1, fun i => if i = y.2.1 then σ else y.2.2 i) else (rot y.1, 4, fun i => if i = 3 then σ else y.2.2 (i + 1))
theorem rOK.ge {hb : Nat} {r : Nat → Nat} (h : rOK hb r) {i : Nat} (hi : i < 4) : hb + 2 ≤ r i ∧ r i + 7 ≤ hb + 30 := by
  obtain ⟨j, h1, h2⟩ := h.1 i hi
  omega
theorem rOK.apart {hb : Nat} {r : Nat → Nat} (h : rOK hb r) {i j : Nat} (hi : i < 4) (hj : j < 4) (n : i ≠ j) : r i + 7 ≤ r j ∨ r j + 7 ≤ r i := by
  obtain ⟨a, h1, h2⟩ := h.1 i hi
  obtain ⟨b, h3, h4⟩ := h.1 j hj
  have hab : a ≠ b := fun e => n (h.2 i j hi hj (by rw [h2, h4, e]))
  omega
theorem rot_lt {i : Nat} (hi : i < 4) : ∃ j, j < 4 ∧ ∀ r : Nat → Nat, rot r i = r j := by
  rcases i with _ | _ | _ | _ | i
  · exact ⟨1, by decide, fun _ => rfl⟩
  · exact ⟨2, by decide, fun _ => rfl⟩
  · exact ⟨3, by decide, fun _ => rfl⟩
  · exact ⟨0, by decide, fun _ => rfl⟩
  · omega
theorem rOK.turn {hb : Nat} {r : Nat → Nat} (h : rOK hb r) : rOK hb (rot r) := by
  refine ⟨fun i hi => ?_, fun i j hi hj e => ?_⟩
  · obtain ⟨k, hk, ek⟩ := rot_lt hi
    obtain ⟨q, h1, h2⟩ := h.1 k hk
    exact ⟨q, h1, by rw [ek]; exact h2⟩
  · have key : ∀ i, i < 4 → rot r i = r (if i = 3 then 0 else i + 1) := fun i hi => by
      unfold rot
      split <;> rfl
    have lt : ∀ i, i < 4 → (if i = 3 then 0 else i + 1) < 4 := fun i hi => by split <;> omega
    have e2 := h.2 _ _ (lt i hi) (lt j hj) (by rw [← key i hi, ← key j hj]; exact e)
    by_cases a : i = 3 <;> by_cases b : j = 3
    · omega
    · rw [if_pos a, if_neg b] at e2
      omega
    · rw [if_neg a, if_pos b] at e2
      omega
    · rw [if_neg a, if_neg b] at e2
      omega

set_option maxHeartbeats 4000000 in
set_option maxRecDepth 100000 in
theorem kX0_states (l : Launch) (G : Gx) (hb : Nat) (r : Nat → Nat) (k : Nat) : Met l yX0_states wsX0_states (rmN 0) (pre G [.ref hb] (fun H => va_P G.1 vwCl (yWs G hb r k) H)) (QcRead (nI k)) 0 0 (fun _ => False) := by
  refine Met.ofW (cc := cX0_states) (maxL := 1) (ret := (some .int)) (by decide) rfl ?_
  intro p e s m args below meth c s₁ B hml hv
  obtain ⟨rfl, Y, hK⟩ := hv
  have hx := B.exec
  have hbb := B.bytes
  have hr := B.returns
  have hts := atoms_spec (ws := wsX0_states) B.pre
  have hown : s.vm.findClass RX0 = some m.cls := findClass_of_methodNamed B.named
  have hlocks := B.notSynchronized
  have C : Cx p m c cX0_states 1 s _ wsX0_states RX0 G := ⟨⟨hx, hbb, hml, hown, hts⟩, hK⟩
  have hin := in_X0_states
  have hl := lv_entry ([.ref hb]) (n := 1) (Nat.le_of_ble_eq_true rfl)
  rw [lg_entry_eq]
  generalize (lg_sl ([.ref hb]) ++ List.replicate (1 - (lg_sl ([.ref hb])).length) Slot.unset).toArray = ls at hl ⊢
  have hl : lv_has ls 1 [(0, .ref hb)] := hl
  refine lv_aload_n hx hbb dX0_states_0 rfl (lv_at hl 0 rfl) ?_
  refine gtY1 C hin Y 1 rfl dX0_states_1 ?_
  exact W.iret hx hbb hr (fun t ht _ => ⟨rfl, ht⟩) (fun q h => absurd h List.not_mem_nil) dX0_states_4

set_option maxHeartbeats 4000000 in
set_option maxRecDepth 100000 in
theorem kX0_dropOldest (l : Launch) (G : Gx) (hb : Nat) (r : Nat → Nat) (k : Nat) (η : Nat → St) (hr4 : ∀ i, i < 4 → hb + 2 ≤ r i) : Met l yX0_dropOldest wsX0_dropOldest (rmN 0) (pre G [.ref hb] (fun H => va_P G.1 vwCl (yWs G hb r k) H ∧ ∀ i, i < 4 → hAt G (r i) (η i) H)) (QcA (lw_Fr hb (hb + 2)) (fun H => va_P G.1 vwCl (yWs G hb (rot r) 3) H) none) 0 0 (lw_Fr hb (hb + 2)) := by
  refine Met.ofW (cc := cX0_dropOldest) (maxL := 3) (ret := none) (by decide) rfl ?_
  intro p e s m args below meth c s₁ B hml hv
  obtain ⟨rfl, ⟨Y, X⟩, hK⟩ := hv
  have hx := B.exec
  have hbb := B.bytes
  have hr := B.returns
  have hts := atoms_spec (ws := wsX0_dropOldest) B.pre
  have hown : s.vm.findClass RX0 = some m.cls := findClass_of_methodNamed B.named
  have hlocks := B.notSynchronized
  have C : Cx p m c cX0_dropOldest 3 s _ wsX0_dropOldest RX0 G := ⟨⟨hx, hbb, hml, hown, hts⟩, hK⟩
  have hin := in_X0_dropOldest
  have hl := lv_entry ([.ref hb]) (n := 3) (Nat.le_of_ble_eq_true rfl)
  rw [lg_entry_eq]
  generalize (lg_sl ([.ref hb]) ++ List.replicate (3 - (lg_sl ([.ref hb])).length) Slot.unset).toArray = ls at hl ⊢
  have hl : lv_has ls 3 [(0, .ref hb)] := hl
  have hS : va_S (lw_Fr hb (hb + 2)) s.heap s.heap [] := va_S.rf
  have hA0 : lw_Fr hb (hb + 2) hb := fr_iff.mpr ⟨Nat.le_refl _, by omega⟩
  have hA1 : lw_Fr hb (hb + 2) (hb + 1) := fr_iff.mpr ⟨by omega, by omega⟩
  have hout : ∀ i, i < 4 → ∀ q, r i ≤ q → ¬ lw_Fr hb (hb + 2) q := fun i hi q h1 h2 => by
    have h3 := hr4 i hi
    have h4 := fr_iff.mp h2
    omega
  refine lv_aload_n hx hbb dX0_dropOldest_0 rfl (lv_at hl 0 rfl) ?_
  refine gtY0 C hin Y 1 rfl dX0_dropOldest_1 ?_
  refine lv_iconst (v := 0) hx hbb dX0_dropOldest_4 (by decide) ?_
  refine alY (j := 0) C Y rfl (by decide) dX0_dropOldest_5 ?_
  refine lv_astore_n (lv' := [(1, .ref (r 0)), (0, .ref hb)]) hx hbb dX0_dropOldest_6 rfl hl (by decide) rfl (fun ls hl => ?_)
  refine lv_iconst (v := 1) hx hbb dX0_dropOldest_7 (by decide) ?_
  refine lv_istore_n (lv' := [(2, .int 1), (1, .ref (r 0)), (0, .ref hb)]) hx hbb dX0_dropOldest_8 rfl hl (by decide) rfl (fun ls hl => ?_)
  refine lv_iload_n hx hbb dX0_dropOldest_9 rfl (lv_at hl 0 rfl) ?_
  refine lv_iconst (v := 4) hx hbb dX0_dropOldest_10 (by decide) ?_
  refine lv_icmp_ge (tgt := 34) hx hbb dX0_dropOldest_11 (by decide) (fun c9 => absurd c9 (by decide)) (fun _ => ?_)
  refine lv_aload_n hx hbb dX0_dropOldest_14 rfl (lv_at hl 2 rfl) ?_
  refine gtY0 C hin Y 1 rfl dX0_dropOldest_15 ?_
  refine lv_iload_n hx hbb dX0_dropOldest_18 rfl (lv_at hl 0 rfl) ?_
  refine lv_iconst (v := 1) hx hbb dX0_dropOldest_19 (by decide) ?_
  refine lv_isub hx hbb dX0_dropOldest_20 ?_
  refine lv_aload_n hx hbb dX0_dropOldest_21 rfl (lv_at hl 2 rfl) ?_
  refine gtY0 C hin Y 1 rfl dX0_dropOldest_22 ?_
  refine lv_iload_n hx hbb dX0_dropOldest_25 rfl (lv_at hl 0 rfl) ?_
  refine alY (j := 1) C Y rfl (by decide) dX0_dropOldest_26 ?_
  refine asY (j := 0) (v := r 1) (σv := η 1) C Y ((X 1 (by decide)).keep hS.2.1 (fun q h1 _ => hout 1 (by decide) q h1)) hS hA1 (by decide) (by decide) dX0_dropOldest_27 (fun H locs Y hS _ => ?_)
  refine lv_iinc (v := 2) (lv' := [(2, .int 2), (1, .ref (r 0)), (0, .ref hb)]) hx hbb dX0_dropOldest_28 hl (k := 0) rfl (by decide) (by decide) rfl (fun ls hl => ?_)
  refine lv_goto (tgt := 9) hx hbb dX0_dropOldest_31 (by decide) ?_
  refine lv_iload_n hx hbb dX0_dropOldest_9 rfl (lv_at hl 0 rfl) ?_
  refine lv_iconst (v := 4) hx hbb dX0_dropOldest_10 (by decide) ?_
  refine lv_icmp_ge (tgt := 34) hx hbb dX0_dropOldest_11 (by decide) (fun c9 => absurd c9 (by decide)) (fun _ => ?_)
  refine lv_aload_n hx hbb dX0_dropOldest_14 rfl (lv_at hl 2 rfl) ?_
  refine gtY0 C hin Y 1 rfl dX0_dropOldest_15 ?_
  refine lv_iload_n hx hbb dX0_dropOldest_18 rfl (lv_at hl 0 rfl) ?_
  refine lv_iconst (v := 1) hx hbb dX0_dropOldest_19 (by decide) ?_
  refine lv_isub hx hbb dX0_dropOldest_20 ?_
  refine lv_aload_n hx hbb dX0_dropOldest_21 rfl (lv_at hl 2 rfl) ?_
  refine gtY0 C hin Y 1 rfl dX0_dropOldest_22 ?_
  refine lv_iload_n hx hbb dX0_dropOldest_25 rfl (lv_at hl 0 rfl) ?_
  refine alY (j := 2) C Y rfl (by decide) dX0_dropOldest_26 ?_
  refine asY (j := 1) (v := r 2) (σv := η 2) C Y ((X 2 (by decide)).keep hS.2.1 (fun q h1 _ => hout 2 (by decide) q h1)) hS hA1 (by decide) (by decide) dX0_dropOldest_27 (fun H locs Y hS _ => ?_)
  refine lv_iinc (v := 3) (lv' := [(2, .int 3), (1, .ref (r 0)), (0, .ref hb)]) hx hbb dX0_dropOldest_28 hl (k := 0) rfl (by decide) (by decide) rfl (fun ls hl => ?_)
  refine lv_goto (tgt := 9) hx hbb dX0_dropOldest_31 (by decide) ?_
  refine lv_iload_n hx hbb dX0_dropOldest_9 rfl (lv_at hl 0 rfl) ?_
  refine lv_iconst (v := 4) hx hbb dX0_dropOldest_10 (by decide) ?_
  refine lv_icmp_ge (tgt := 34) hx hbb dX0_dropOldest_11 (by decide) (fun c9 => absurd c9 (by decide)) (fun _ => ?_)
  refine lv_aload_n hx hbb dX0_dropOldest_14 rfl (lv_at hl 2 rfl) ?_
  refine gtY0 C hin Y 1 rfl dX0_dropOldest_15 ?_
  refine lv_iload_n hx hbb dX0_dropOldest_18 rfl (lv_at hl 0 rfl) ?_
  refine lv_iconst (v := 1) hx hbb dX0_dropOldest_19 (by decide) ?_
  refine lv_isub hx hbb dX0_dropOldest_20 ?_
  refine lv_aload_n hx hbb dX0_dropOldest_21 rfl (lv_at hl 2 rfl) ?_
  refine gtY0 C hin Y 1 rfl dX0_dropOldest_22 ?_
  refine lv_iload_n hx hbb dX0_dropOldest_25 rfl (lv_at hl 0 rfl) ?_
  refine alY (j := 3) C Y rfl (by decide) dX0_dropOldest_26 ?_
  refine asY (j := 2) (v := r 3) (σv := η 3) C Y ((X 3 (by decide)).keep hS.2.1 (fun q h1 _ => hout 3 (by decide) q h1)) hS hA1 (by decide) (by decide) dX0_dropOldest_27 (fun H locs Y hS _ => ?_)
  refine lv_iinc (v := 4) (lv' := [(2, .int 4), (1, .ref (r 0)), (0, .ref hb)]) hx hbb dX0_dropOldest_28 hl (k := 0) rfl (by decide) (by decide) rfl (fun ls hl => ?_)
  refine lv_goto (tgt := 9) hx hbb dX0_dropOldest_31 (by decide) ?_
  refine lv_iload_n hx hbb dX0_dropOldest_9 rfl (lv_at hl 0 rfl) ?_
  refine lv_iconst (v := 4) hx hbb dX0_dropOldest_10 (by decide) ?_
  refine lv_icmp_ge (tgt := 34) hx hbb dX0_dropOldest_11 (by decide) (fun _ => ?_) (fun c9 => absurd (by decide) c9)
  refine lv_aload_n hx hbb dX0_dropOldest_34 rfl (lv_at hl 2 rfl) ?_
  refine gtY0 C hin Y 1 rfl dX0_dropOldest_35 ?_
  refine lv_iconst (v := 3) hx hbb dX0_dropOldest_38 (by decide) ?_
  refine lv_aload_n hx hbb dX0_dropOldest_39 rfl (lv_at hl 1 rfl) ?_
  refine asY (j := 3) (v := r 0) (σv := η 0) C Y ((X 0 (by decide)).keep hS.2.1 (fun q h1 _ => hout 0 (by decide) q h1)) hS hA1 (by decide) (by decide) dX0_dropOldest_40 (fun H locs Y hS _ => ?_)
  refine lv_aload_n hx hbb dX0_dropOldest_41 rfl (lv_at hl 2 rfl) ?_
  refine lv_iconst (v := 3) hx hbb dX0_dropOldest_42 (by decide) ?_
  refine ptY1 (k2 := 3) C hin Y hS hA0 rfl 2 rfl dX0_dropOldest_43 (fun H locs Y hS _ => ?_)
  exact W.vret hx hbb hr (fun t ht _ => ⟨rfl, by rw [ht]; exact yWs_ext Y (fun i hi => by rcases i with _ | _ | _ | _ | i <;> first | rfl | omega), hS.F ht⟩) hS.2.2 dX0_dropOldest_46

def frY (hb b2 : Nat) : Nat → Prop := fun q => lw_Fr hb (hb + 30) q ∨ lw_Fr b2 (b2 + 7) q

set_option maxHeartbeats 4000000 in
set_option maxRecDepth 100000 in
theorem kX0_add (l : Launch) (G : Gx) (hb b2 : Nat) (y : YS) (σ2 : St) (hd : b2 + 7 ≤ hb ∨ hb + 30 ≤ b2) : Met l yX0_add wsX0_add (rmN 2) (pre G [.ref hb, .ref b2] (fun H => yAt G hb y H ∧ hAt G b2 σ2 H)) (QcA (frY hb b2) (fun H => yAt G hb (addY y σ2) H ∧ hAt G b2 σ2 H) none) 0 0 (frY hb b2) := by
  refine Met.ofW (cc := cX0_add) (maxL := 3) (ret := none) (by decide) rfl ?_
  intro p e s m args below meth c s₁ B hml hv
  obtain ⟨rfl, ⟨⟨Y, hR, hk4, X⟩, X2⟩, hK⟩ := hv
  have hx := B.exec
  have hbb := B.bytes
  have hr := B.returns
  have hts := atoms_spec (ws := wsX0_add) B.pre
  have hown : s.vm.findClass RX0 = some m.cls := findClass_of_methodNamed B.named
  have hlocks := B.notSynchronized
  have C : Cx p m c cX0_add 3 s _ wsX0_add RX0 G := ⟨⟨hx, hbb, hml, hown, hts⟩, hK⟩
  have hin := in_X0_add
  have hl := lv_entry ([.ref hb, .ref b2]) (n := 3) (Nat.le_of_ble_eq_true rfl)
  rw [lg_entry_eq]
  generalize (lg_sl ([.ref hb, .ref b2]) ++ List.replicate (3 - (lg_sl ([.ref hb, .ref b2])).length) Slot.unset).toArray = ls at hl ⊢
  have hl : lv_has ls 3 [(0, .ref hb), (1, .ref b2)] := hl
  obtain ⟨r, k, η⟩ := y
  generalize hy0 : ((r, k, η) : YS) = y0
  replace Y : va_P G.1 vwCl (yWs G hb r k) s.heap := Y
  replace hR : rOK hb r := hR
  replace hk4 : k ≤ 4 := hk4
  replace X : ∀ i, i < 4 → hAt G (r i) (η i) s.heap := X
  have hS : va_S (frY hb b2) s.heap s.heap [] := va_S.rf
  have hA0 : frY hb b2 hb := Or.inl (fr_iff.mpr ⟨Nat.le_refl _, by omega⟩)
  have tail : ∀ (r : Nat → Nat) (k : Nat) (η : Nat → St) (H : Heap) (locs : List Loc) (ls : Array Slot), k < 4 → rOK hb r → va_P G.1 vwCl (yWs G hb r k) H → (∀ i, i < 4 → hAt G (r i) (η i) H) → hAt G b2 σ2 H → va_S (frY hb b2) s.heap H locs → lv_has ls 3 [(0, .ref hb), (1, .ref b2)] → (∀ H' : Heap, va_P G.1 vwCl (yWs G hb r (k + 1)) H' → (∀ i, i < 4 → hAt G (r i) (if i = k then σ2 else η i) H') → yAt G hb (addY y0 σ2) H') → W p l e (rmN 2) s m #[Value.ref hb, Value.ref b2] below meth c H locs 0 0 (MQ below (QcA (frY hb b2) (fun H => yAt G hb (addY y0 σ2) H ∧ hAt G b2 σ2 H) none) #[Value.ref hb, Value.ref b2] s 0 0 (frY hb b2)) (F0 m 12 ls []) := by
    intro r k η H locs ls hk hR Y X X2 hS hl hfin
    have hg := hR.ge hk
    refine lv_aload_n hx hbb dX0_add_12 rfl (lv_at hl 0 rfl) ?_
    refine gtY0 C hin Y 2 rfl dX0_add_13 ?_
    refine lv_aload_n hx hbb dX0_add_16 rfl (lv_at hl 0 rfl) ?_
    refine gtY1 C hin Y 1 rfl dX0_add_17 ?_
    refine alY (j := k) C Y (nI_clamp (by omega)) (vp_in_nI hk (by decide)) dX0_add_20 ?_
    refine lv_astore_n (lv' := [(2, .ref (r k)), (0, .ref hb), (1, .ref b2)]) hx hbb dX0_add_21 rfl hl (by decide) rfl (fun ls hl => ?_)
    refine lv_aload_n hx hbb dX0_add_22 rfl (lv_at hl 0 rfl) ?_
    refine lv_ifnull hx hbb dX0_add_23 ?_
    refine lv_aload_n hx hbb dX0_add_26 rfl (lv_at hl 0 rfl) ?_
    refine lv_aload_n hx hbb dX0_add_27 rfl (lv_at hl 2 rfl) ?_
    refine rowA (As := [.ref b2]) (rest := []) C (kX1_copyFrom l G (r k) b2 (η k) σ2 (by omega)) (cwV 1 hts gX0_add_X1_copyFrom rfl rfl rfl (by decide +kernel) ⟨Nat.le_of_ble_eq_true rfl, Nat.le_of_ble_eq_true rfl⟩) (rcv_X1 (X k hk) hK) ⟨X k hk, X2⟩ hS (fun q z => z.elim (fun z => Or.inl (fr_iff.mpr (by have := fr_iff.mp z; omega))) (fun z => Or.inr z)) rfl hl.1 rfl (Nat.le_of_ble_eq_true rfl) dX0_add_28 ⟨Nat.zero_le _, Nat.zero_le _⟩ (fun H1 locs X3 hS hz hf => ?_)
    obtain ⟨X3, X4⟩ := X3
    have Y : va_P G.1 vwCl (yWs G hb r k) H1 := P_kept Y (yWs_D G hb r k) hf (fun q h1 h2 z => by
      rcases z with z | z <;> have z := fr_iff.mp z <;> omega)
    have X : ∀ i, i < 4 → hAt G (r i) (if i = k then σ2 else η i) H1 := fun i hi => by
      by_cases e : i = k
      · subst e
        rw [if_pos rfl]
        exact X3
      · rw [if_neg e]
        refine (X i hi).keep hf (fun q h1 h2 z => ?_)
        have hgi := hR.ge hi
        have hap := hR.apart hi hk e
        rcases z with z | z <;> have z := fr_iff.mp z <;> omega
    show W p l e _ s m _ below meth c H1 locs 0 0 _ (F0 m 31 ls [])
    refine lv_aload_n hx hbb dX0_add_31 rfl (lv_at hl 1 rfl) ?_
    refine lv_dup hx hbb dX0_add_32 rfl ?_
    refine gtY1 C hin Y 1 rfl dX0_add_33 ?_
    refine lv_iconst (v := 1) hx hbb dX0_add_36 (by decide) ?_
    refine lv_iadd hx hbb dX0_add_37 ?_
    refine ptY1 (k2 := k + 1) C hin Y hS hA0 (nI_1 k) 1 rfl dX0_add_38 (fun H2 locs Y hS o => ?_)
    have kp : ∀ (b : Nat) (σ : St), hAt G b σ H1 → hb + 1 ≤ b ∨ b + 7 ≤ hb → hAt G b σ H2 := fun b σ h hh => h.keep (A := fun q => q = hb) (fun q _ h2 => o q h2) (fun q h1 h2 z => by omega)
    exact W.vret hx hbb hr (fun t ht _ => ⟨rfl, by rw [ht]; exact ⟨hfin H2 Y (fun i hi => kp _ _ (X i hi) (by have := hR.ge hi; omega)), kp _ _ X4 (by omega)⟩, hS.F ht⟩) hS.2.2 dX0_add_41
  refine lv_aload_n hx hbb dX0_add_0 rfl (lv_at hl 0 rfl) ?_
  refine gtY1 C hin Y 1 rfl dX0_add_1 ?_
  refine lv_iconst (v := 4) hx hbb dX0_add_4 (by decide) ?_
  refine lv_icmp_lt (tgt := 12) hx hbb dX0_add_5 (by decide) (fun c1 => ?_) (fun c1 => ?_)
  · have hk : k < 4 := (nI_ltI (a := k) (b := 4) (by have : k ≤ 4 := hk4; omega) (by decide)).mp c1
    refine tail r k η _ _ ls hk hR Y X X2 hS hl (fun H' Y' X' => ?_)
    have e : addY (r, k, η) σ2 = (r, k + 1, fun i => if i = k then σ2 else η i) := if_pos hk
    rw [← hy0, e]
    exact ⟨Y', hR, hk, X'⟩
  · have hk : ¬ k < 4 := fun h => c1 ((nI_ltI (a := k) (b := 4) (by omega) (by decide)).mpr h)
    refine lv_aload_n hx hbb dX0_add_8 rfl (lv_at hl 0 rfl) ?_
    refine rowA (As := []) (rest := []) C (kX0_dropOldest l G hb r k η (fun i hi => (hR.ge hi).1)) (cwV 0 hts gX0_add_X0_dropOldest rfl rfl rfl (by decide +kernel) ⟨Nat.le_of_ble_eq_true rfl, Nat.le_of_ble_eq_true rfl⟩) (rcv_X0 Y hK) ⟨Y, X⟩ hS (fun q z => Or.inl (fr_iff.mpr (by have := fr_iff.mp z; omega))) rfl hl.1 rfl (Nat.le_of_ble_eq_true rfl) dX0_add_9 ⟨Nat.zero_le _, Nat.zero_le _⟩ (fun H1 locs Y hS hz hf => ?_)
    have X1 : ∀ i, i < 4 → hAt G (r i) (η i) H1 := fun i hi => (X i hi).keep hf (fun q h1 h2 z => by
      have hgi := hR.ge hi
      have z := fr_iff.mp z
      omega)
    have X2 : hAt G b2 σ2 H1 := X2.keep hf (fun q h1 h2 z => by
      have z := fr_iff.mp z
      omega)
    show W p l e _ s m _ below meth c H1 locs 0 0 _ (F0 m 12 ls [])
    refine tail (rot r) 3 (fun i => if i = 3 then η 0 else η (i + 1)) _ _ ls (by decide) hR.turn Y (fun i hi => ?_) X2 hS hl (fun H' Y' X' => ?_)
    · rcases i with _ | _ | _ | _ | i
      · exact X1 1 (by decide)
      · exact X1 2 (by decide)
      · exact X1 3 (by decide)
      · exact X1 0 (by decide)
      · omega
    · have e : addY (r, k, η) σ2 = (rot r, 4, fun i => if i = 3 then σ2 else η (i + 1)) := if_neg hk
      rw [← hy0, e]
      refine ⟨Y', hR.turn, Nat.le_refl 4, fun i hi => ?_⟩
      have h := X' i hi
      show hAt G (rot r i) (if i = 3 then σ2 else η (i + 1)) H'
      by_cases e3 : i = 3
      · rw [if_pos e3] at h ⊢
        exact h
      · rw [if_neg e3] at h ⊢
        rw [if_neg e3] at h
        exact h

def takeY (y : YS) (σ : St) : Int32 × YS × St := if y.2.1 = 0 then (-5, y, σ) else (nI (y.2.1 - 1), (y.1, y.2.1 - 1, y.2.2), y.2.2 (y.2.1 - 1))

set_option maxHeartbeats 4000000 in
set_option maxRecDepth 100000 in
theorem kX0_takeLatest (l : Launch) (G : Gx) (hb b2 : Nat) (y : YS) (σ2 : St) (hd : b2 + 7 ≤ hb ∨ hb + 30 ≤ b2) : Met l yX0_takeLatest wsX0_takeLatest (rmN 2) (pre G [.ref hb, .ref b2] (fun H => yAt G hb y H ∧ hAt G b2 σ2 H)) (QcA (frY hb b2) (fun H => yAt G hb (takeY y σ2).2.1 H ∧ hAt G b2 (takeY y σ2).2.2 H) (some (.int (takeY y σ2).1))) 0 0 (frY hb b2) := by
  refine Met.ofW (cc := cX0_takeLatest) (maxL := 2) (ret := (some .int)) (by decide) rfl ?_
  intro p e s m args below meth c s₁ B hml hv
  obtain ⟨rfl, ⟨⟨Y, hR, hk4, X⟩, X2⟩, hK⟩ := hv
  have hx := B.exec
  have hbb := B.bytes
  have hr := B.returns
  have hts := atoms_spec (ws := wsX0_takeLatest) B.pre
  have hown : s.vm.findClass RX0 = some m.cls := findClass_of_methodNamed B.named
  have hlocks := B.notSynchronized
  have C : Cx p m c cX0_takeLatest 2 s _ wsX0_takeLatest RX0 G := ⟨⟨hx, hbb, hml, hown, hts⟩, hK⟩
  have hin := in_X0_takeLatest
  have hl := lv_entry ([.ref hb, .ref b2]) (n := 2) (Nat.le_of_ble_eq_true rfl)
  rw [lg_entry_eq]
  generalize (lg_sl ([.ref hb, .ref b2]) ++ List.replicate (2 - (lg_sl ([.ref hb, .ref b2])).length) Slot.unset).toArray = ls at hl ⊢
  have hl : lv_has ls 2 [(0, .ref hb), (1, .ref b2)] := hl
  obtain ⟨r, k, η⟩ := y
  replace Y : va_P G.1 vwCl (yWs G hb r k) s.heap := Y
  replace hR : rOK hb r := hR
  replace hk4 : k ≤ 4 := hk4
  replace X : ∀ i, i < 4 → hAt G (r i) (η i) s.heap := X
  have hS : va_S (frY hb b2) s.heap s.heap [] := va_S.rf
  have hA0 : frY hb b2 hb := Or.inl (fr_iff.mpr ⟨Nat.le_refl _, by omega⟩)
  refine lv_aload_n hx hbb dX0_takeLatest_0 rfl (lv_at hl 0 rfl) ?_
  refine gtY1 C hin Y 1 rfl dX0_takeLatest_1 ?_
  cases k with
  | zero =>
    refine lv_if_le (tgt := 11) hx hbb dX0_takeLatest_4 (by decide) (fun _ => ?_) (fun c1 => absurd (show nI 0 ≤ 0 from by decide) c1)
    refine lv_bipush (v := (-5)) hx hbb dX0_takeLatest_11 (by decide) ?_
    exact W.iret hx hbb hr (fun t ht _ => ⟨rfl, by rw [ht]; exact ⟨⟨Y, hR, hk4, X⟩, X2⟩, hS.F ht⟩) hS.2.2 dX0_takeLatest_13
  | succ k =>
    have hk : k < 4 := hk4
    have hg := hR.ge hk
    have ek : nI (k + 1) - 1 = nI k := nI_pred k
    refine lv_if_le (tgt := 11) hx hbb dX0_takeLatest_4 (by decide) (fun c1 => absurd c1 (nI_nle (by omega) (by omega))) (fun _ => ?_)
    refine lv_aload_n hx hbb dX0_takeLatest_7 rfl (lv_at hl 1 rfl) ?_
    refine lv_ifnonnull (tgt := 14) hx hbb dX0_takeLatest_8 (by decide) ?_
    refine lv_aload_n hx hbb dX0_takeLatest_14 rfl (lv_at hl 0 rfl) ?_
    refine lv_dup hx hbb dX0_takeLatest_15 rfl ?_
    refine gtY1 C hin Y 1 rfl dX0_takeLatest_16 ?_
    refine lv_iconst (v := 1) hx hbb dX0_takeLatest_19 (by decide) ?_
    refine lv_isub hx hbb dX0_takeLatest_20 ?_
    refine ptY1 (k2 := k) C hin Y hS hA0 ek 1 rfl dX0_takeLatest_21 (fun H2 locs Y hS o => ?_)
    have kp : ∀ (b : Nat) (σ : St), hAt G b σ s.heap → hb + 1 ≤ b ∨ b + 7 ≤ hb → hAt G b σ H2 := fun b σ h hh => h.keep (A := fun q => q = hb) (fun q _ h2 => o q h2) (fun q h1 h2 z => by omega)
    have X : ∀ i, i < 4 → hAt G (r i) (η i) H2 := fun i hi => kp _ _ (X i hi) (by have := hR.ge hi; omega)
    have X2 : hAt G b2 σ2 H2 := kp _ _ X2 (by omega)
    refine lv_aload_n hx hbb dX0_takeLatest_24 rfl (lv_at hl 1 rfl) ?_
    refine lv_aload_n hx hbb dX0_takeLatest_25 rfl (lv_at hl 0 rfl) ?_
    refine gtY0 C hin Y 2 rfl dX0_takeLatest_26 ?_
    refine lv_aload_n hx hbb dX0_takeLatest_29 rfl (lv_at hl 0 rfl) ?_
    refine gtY1 C hin Y 1 rfl dX0_takeLatest_30 ?_
    refine alY (j := k) C Y (nI_clamp (by omega)) (vp_in_nI hk (by decide)) dX0_takeLatest_33 ?_
    refine rowA (As := [.ref (r k)]) (rest := []) C (kX1_copyFrom l G b2 (r k) σ2 (η k) (by omega)) (cwV 1 hts gX0_takeLatest_X1_copyFrom rfl rfl rfl (by decide +kernel) ⟨Nat.le_of_ble_eq_true rfl, Nat.le_of_ble_eq_true rfl⟩) (rcv_X1 X2 hK) ⟨X2, X k hk⟩ hS (fun q z => z.elim (fun z => Or.inr z) (fun z => Or.inl (fr_iff.mpr (by have := fr_iff.mp z; omega)))) rfl hl.1 rfl (Nat.le_of_ble_eq_true rfl) dX0_takeLatest_34 ⟨Nat.zero_le _, Nat.zero_le _⟩ (fun H1 locs X3 hS hz hf => ?_)
    obtain ⟨X3, X4⟩ := X3
    have Y : va_P G.1 vwCl (yWs G hb r k) H1 := P_kept Y (yWs_D G hb r k) hf (fun q h1 h2 z => by
      rcases z with z | z <;> have z := fr_iff.mp z <;> omega)
    have X : ∀ i, i < 4 → hAt G (r i) (η i) H1 := fun i hi => by
      by_cases e : i = k
      · subst e
        exact X4
      · refine (X i hi).keep hf (fun q h1 h2 z => ?_)
        have hgi := hR.ge hi
        have hap := hR.apart hi hk e
        rcases z with z | z <;> have z := fr_iff.mp z <;> omega
    show W p l e _ s m _ below meth c H1 locs 0 0 _ (F0 m 37 ls [])
    refine lv_aload_n hx hbb dX0_takeLatest_37 rfl (lv_at hl 0 rfl) ?_
    refine gtY1 C hin Y 1 rfl dX0_takeLatest_38 ?_
    exact W.iret hx hbb hr (fun t ht _ => ⟨rfl, by rw [ht]; exact ⟨⟨Y, hR, Nat.le_of_lt hk, X⟩, X3⟩, hS.F ht⟩) hS.2.2 dX0_takeLatest_41
