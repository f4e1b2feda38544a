theorem in_X1_changeSetting : ∀ w ∈ wsX10, w ∈ wsX1_changeSetting := by decide +kernel
def fX1_changeSetting (σ : St) (p1 : Int32) (p2 : Int32) : Option (Int32 × St) := if p1 < 0 then (some ((-1), σ)) else (if p1 < 5 then (if oob p1 5 then none else if p2 < (tLEAST p1.toNatClampNeg) then (some ((-2), σ)) else (if oob p1 5 then none else if p2 ≤ (tGREATEST p1.toNatClampNeg) then (if oob p1 5 then none else if (σ 0 p1.toNatClampNeg) = p2 then (some ((-5), σ)) else (if oob p1 5 then none else some (σ 0 p1.toNatClampNeg, up σ 0 p1.toNatClampNeg p2))) else (some ((-2), σ)))) else (some ((-1), σ)))
set_option maxHeartbeats 4000000 in
set_option maxRecDepth 100000 in
theorem kX1_changeSetting (l : Launch) (G : Gx) (A0 : Nat → Prop) (b : Nat) (σ : St) (p1 : Int32) (p2 : Int32) (r : Int32) (σ' : St) (hA0 : ∀ q, lw_Fr b (b + 7) q → A0 q) (h : fX1_changeSetting σ p1 p2 = some (r, σ')) : Met l yX1_changeSetting wsX1_changeSetting (rmN 0) (preS G [.ref b, .int p1, .int p2] (hAt G b σ) A0) (QcW b (b + 7) (hAt G b σ') (some (.int r))) 0 0 (lw_Fr b (b + 7)) := by
  refine Met.ofW (cc := cX1_changeSetting) (maxL := 4) (ret := (some .int)) (by decide) rfl ?_
  intro p e s m args below meth c s₁ B hml hv
  obtain ⟨rfl, X, hK, hst⟩ := hv
  obtain ⟨t1, t2, z1, e1, z2, e2⟩ := hst.narrow hA0
  have hx := B.exec
  have hb := B.bytes
  have hr := B.returns
  have hts := atoms_spec (ws := wsX1_changeSetting) B.pre
  have hown : s.vm.findClass RX1 = some m.cls := findClass_of_methodNamed B.named
  have hlocks := B.notSynchronized
  have C : Cx p m c cX1_changeSetting 4 s _ wsX1_changeSetting RX1 G := ⟨⟨hx, hb, hml, hown, hts⟩, hK⟩
  have hin : ∀ w ∈ wsX10, w ∈ wsX1_changeSetting := in_X1_changeSetting
  have hS : va_S (lw_Fr b (b + 7)) s.heap s.heap [] := va_S.rf
  have hl := lv_entry ([.ref b, .int p1, .int p2]) (n := 4) (Nat.le_of_ble_eq_true rfl)
  rw [lg_entry_eq]
  generalize (lg_sl ([.ref b, .int p1, .int p2]) ++ List.replicate (4 - (lg_sl ([.ref b, .int p1, .int p2])).length) Slot.unset).toArray = ls at hl ⊢
  have hl : lv_has ls 4 [(0, .ref b), (1, .int p1), (2, .int p2)] := hl
  unfold fX1_changeSetting at h
  refine lv_iload_n hx hb dX1_changeSetting_0 rfl (lv_at hl 1 rfl) ?_
  refine lv_if_lt (tgt := 9) hx hb dX1_changeSetting_1 (by decide) (fun c1 => ?_) (fun c1 => ?_)
  · have h := ip h c1
    refine lv_iconst (v := (-1)) hx hb dX1_changeSetting_9 (by decide) ?_
    obtain ⟨h, h9⟩ := pr h
    subst h
    subst h9
    exact W.iret hx hb hr (fun t ht _ => ⟨rfl, by rw [ht]; exact X, hS.F ht⟩) hS.2.2 dX1_changeSetting_10
  · have h := iq h c1
    refine lv_iload_n hx hb dX1_changeSetting_4 rfl (lv_at hl 1 rfl) ?_
    refine lv_iconst (v := 5) hx hb dX1_changeSetting_5 (by decide) ?_
    refine lv_icmp_lt (tgt := 11) hx hb dX1_changeSetting_6 (by decide) (fun c2 => ?_) (fun c2 => ?_)
    · have h := ip h c2
      refine lv_iload_n hx hb dX1_changeSetting_11 rfl (lv_at hl 2 rfl) ?_
      refine va_gets hx hb z1 hS hown (hts _ (List.mem_of_getElem? (i := 1) rfl)) (fun _ h => h) dX1_changeSetting_12 ?_
      refine lv_iload_n hx hb dX1_changeSetting_15 rfl (lv_at hl 1 rfl) ?_
      obtain ⟨c3, h⟩ := og h
      refine va_ti hx hb e1 hS c3 (v := .int (tLEAST p1.toNatClampNeg)) rfl dX1_changeSetting_16 ?_
      refine lv_icmp_lt (tgt := 29) hx hb dX1_changeSetting_17 (by decide) (fun c4 => ?_) (fun c4 => ?_)
      · have h := ip h c4
        refine lv_bipush (v := (-2)) hx hb dX1_changeSetting_29 (by decide) ?_
        obtain ⟨h, h9⟩ := pr h
        subst h
        subst h9
        exact W.iret hx hb hr (fun t ht _ => ⟨rfl, by rw [ht]; exact X, hS.F ht⟩) hS.2.2 dX1_changeSetting_31
      · have h := iq h c4
        refine lv_iload_n hx hb dX1_changeSetting_20 rfl (lv_at hl 2 rfl) ?_
        refine va_gets hx hb z2 hS hown (hts _ (List.mem_of_getElem? (i := 2) rfl)) (fun _ h => h) dX1_changeSetting_21 ?_
        refine lv_iload_n hx hb dX1_changeSetting_24 rfl (lv_at hl 1 rfl) ?_
        obtain ⟨c5, h⟩ := og h
        refine va_ti hx hb e2 hS c5 (v := .int (tGREATEST p1.toNatClampNeg)) rfl dX1_changeSetting_25 ?_
        refine lv_icmp_le (tgt := 32) hx hb dX1_changeSetting_26 (by decide) (fun c6 => ?_) (fun c6 => ?_)
        · have h := ip h c6
          refine lv_aload_n hx hb dX1_changeSetting_32 rfl (lv_at hl 0 rfl) ?_
          refine gt_X1_0 C hin X 3 rfl dX1_changeSetting_33 ?_
          refine lv_iload_n hx hb dX1_changeSetting_36 rfl (lv_at hl 1 rfl) ?_
          obtain ⟨c7, h⟩ := og h
          refine al_X1_0 C X rfl c7 dX1_changeSetting_37 ?_
          refine lv_istore_n (lv' := [(3, .int (σ 0 p1.toNatClampNeg)), (0, .ref b), (1, .int p1), (2, .int p2)]) hx hb dX1_changeSetting_38 rfl hl (by decide) rfl (fun ls hl => ?_)
          refine lv_iload_n hx hb dX1_changeSetting_39 rfl (lv_at hl 0 rfl) ?_
          refine lv_iload_n hx hb dX1_changeSetting_40 rfl (lv_at hl 3 rfl) ?_
          refine lv_icmp_ne (tgt := 47) hx hb dX1_changeSetting_41 (by decide) (fun c8 => ?_) (fun c8 => ?_)
          · have h := iq h c8
            refine lv_aload_n hx hb dX1_changeSetting_47 rfl (lv_at hl 1 rfl) ?_
            refine gt_X1_0 C hin X 3 rfl dX1_changeSetting_48 ?_
            refine lv_iload_n hx hb dX1_changeSetting_51 rfl (lv_at hl 2 rfl) ?_
            refine lv_iload_n hx hb dX1_changeSetting_52 rfl (lv_at hl 3 rfl) ?_
            obtain ⟨c9, h⟩ := og h
            refine as_X1_0 C X hS rfl c9 dX1_changeSetting_53 (fun H locs X hS => ?_)
            refine lv_iload_n hx hb dX1_changeSetting_54 rfl (lv_at hl 0 rfl) ?_
            obtain ⟨h, h9⟩ := pr h
            subst h
            subst h9
            exact W.iret hx hb hr (fun t ht _ => ⟨rfl, by rw [ht]; exact X, hS.F ht⟩) hS.2.2 dX1_changeSetting_55
          · have h := ip h c8
            refine lv_bipush (v := (-5)) hx hb dX1_changeSetting_44 (by decide) ?_
            obtain ⟨h, h9⟩ := pr h
            subst h
            subst h9
            exact W.iret hx hb hr (fun t ht _ => ⟨rfl, by rw [ht]; exact X, hS.F ht⟩) hS.2.2 dX1_changeSetting_46
        · have h := iq h c6
          refine lv_bipush (v := (-2)) hx hb dX1_changeSetting_29 (by decide) ?_
          obtain ⟨h, h9⟩ := pr h
          subst h
          subst h9
          exact W.iret hx hb hr (fun t ht _ => ⟨rfl, by rw [ht]; exact X, hS.F ht⟩) hS.2.2 dX1_changeSetting_31
    · have h := iq h c2
      refine lv_iconst (v := (-1)) hx hb dX1_changeSetting_9 (by decide) ?_
      obtain ⟨h, h9⟩ := pr h
      subst h
      subst h9
      exact W.iret hx hb hr (fun t ht _ => ⟨rfl, by rw [ht]; exact X, hS.F ht⟩) hS.2.2 dX1_changeSetting_10
