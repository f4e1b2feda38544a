/-! calls of the law's own static methods -/
def QcV (v : Value) : Array Value → State → Outcome → State → Prop := fun _ st o t => o = .returned (some v) ∧ t.heap = st.heap
section MYL
variable {p : Program} {l : Launch} {e : Env} {R : Room} {s : State} {m : MethodId} {args : Array Value} {below : List Frame} {meth : Method} {c : Code} {H : Heap} {locs : List Loc} {cells slots : Nat} {Q : State → Prop}
variable {cc bytes : ByteArray} {pc nL index n maxL : Nat} {ls : Array Slot} {rest st0 As : List Value} {G : Gx} {Ts ws : List Cond} {A A0 : Nat → Prop} {b lo hi : Nat} {own : String} {y : MethodName} {ret : Option FieldType} {rm : Room} {B B2 : Heap → Prop}
/-- it only reads -/
theorem rowSV {v : Value} (C : Cx p m c cc nL s args Ts own G) (hM : Met l y ws rm (pre G As B) (QcV v) 0 0 (fun _ => False)) (cw : CallB R s args own index y bytes maxL ret ws rm 0 0 n ∧ (Cond.static y).before args s = true)
    (hB : B H) (hn : As.length = n) (hsz : ls.size = nL) (hst : st0 = As.reverse ++ rest) (hW : (rest.map fun v => v.category).sum ≤ 8)
    (hdg : decode cc pc = .ok (.invokestatic index, 3)) (hf : cells + 0 ≤ R.cells ∧ slots + 0 ≤ R.slots)
    (kk : W p l e R s m args below meth c H locs cells slots Q (F0 m (pc + 3) ls (v :: rest))) : W p l e R s m args below meth c H locs cells slots Q (F0 m pc ls st0) := by
  intro T hT X
  obtain ⟨v1, st₀, t, T', L, h0, X', hL, e1, ⟨hv, hh⟩, st⟩ := W.runS (H := H) (cells := cells) (slots := slots) (locs := locs) C.1 hM cw ⟨pre_blind, fun U hU hW => ⟨rfl, by rw [hU]; exact hB, gK.moved hW.alike C.2⟩⟩ rfl hn hsz hst (lv_room hW) hdg hf T hT X
  cases hv
  obtain ⟨t2, a1, b1⟩ := kk T' (by rw [e1, hh, h0]) (Stand.forget X' (fun q h => (hL q h).elim))
  exact ⟨t2, st t2 a1, b1⟩
theorem rowSW {v : Option Value} (C : Cx p m c cc nL s args Ts own G) (hM : Met l y ws rm (pre G As B) (QcW lo hi B2 v) 0 0 (lw_Fr lo hi)) (cw : CallB R s args own index y bytes maxL ret ws rm 0 0 n ∧ (Cond.static y).before args s = true)
    (hB : B H) (hS : va_S A s.heap H locs) (hA : ∀ q, lw_Fr lo hi q → A q) (hn : As.length = n) (hsz : ls.size = nL) (hst : st0 = As.reverse ++ rest) (hW : (rest.map fun v => v.category).sum ≤ 8)
    (hdg : decode cc pc = .ok (.invokestatic index, 3)) (hf : cells + 0 ≤ R.cells ∧ slots + 0 ≤ R.slots)
    (kk : ∀ (H1 : Heap) (locs1 : List Loc), B2 H1 → va_S A s.heap H1 locs1 → H.size ≤ H1.size → (∀ q : Nat, q < H.size → ¬ lw_Fr lo hi q → H1[q]? = H[q]?) → W p l e R s m args below meth c H1 locs1 cells slots Q (F0 m (pc + 3) ls (v.toList ++ rest))) : W p l e R s m args below meth c H locs cells slots Q (F0 m pc ls st0) := by
  intro T hT X
  obtain ⟨v1, st₀, t, T', L, h0, X', hL, e1, ⟨hv, hb2, hz, hk⟩, st⟩ := W.runS (H := H) (cells := cells) (slots := slots) (locs := locs) C.1 hM cw ⟨pre_blind, fun U hU hW => ⟨rfl, by rw [hU]; exact hB, gK.moved hW.alike C.2⟩⟩ rfl hn hsz hst (lv_room hW) hdg hf T hT X
  cases hv
  rw [h0] at hz hk
  obtain ⟨t2, a1, b1⟩ := kk T'.heap (locs ++ L) (by rw [e1]; exact hb2) ⟨Nat.le_trans hS.1 (by rw [e1]; exact hz), fun q h1 h2 => by rw [e1, hk q (Nat.lt_of_lt_of_le h1 hS.1) (fun z => h2 (hA q z))]; exact hS.2.1 q h1 h2, fun q hq => by
      rcases List.mem_append.mp hq with h | h
      · exact hS.2.2 q h
      · exact hA _ (hL q h)⟩ (by rw [e1]; exact hz) (fun q h1 h2 => by rw [e1]; exact hk q h1 h2) T' rfl X'
  exact ⟨t2, st t2 a1, b1⟩
theorem rowSWs {v : Option Value} (C : Cx p m c cc nL s args Ts own G) (hM : Met l y ws rm (preS G As B A0) (QcW lo hi B2 v) 0 0 (lw_Fr lo hi)) (cw : CallB R s args own index y bytes maxL ret ws rm 0 0 n ∧ (Cond.static y).before args s = true)
    (hB : B H) (hst0 : stA A0 s H) (hS : va_S A s.heap H locs) (hA : ∀ q, lw_Fr lo hi q → A q) (hn : As.length = n) (hsz : ls.size = nL) (hst : st0 = As.reverse ++ rest) (hW : (rest.map fun v => v.category).sum ≤ 8)
    (hdg : decode cc pc = .ok (.invokestatic index, 3)) (hf : cells + 0 ≤ R.cells ∧ slots + 0 ≤ R.slots)
    (kk : ∀ (H1 : Heap) (locs1 : List Loc), B2 H1 → va_S A s.heap H1 locs1 → H.size ≤ H1.size → (∀ q : Nat, q < H.size → ¬ lw_Fr lo hi q → H1[q]? = H[q]?) → W p l e R s m args below meth c H1 locs1 cells slots Q (F0 m (pc + 3) ls (v.toList ++ rest))) : W p l e R s m args below meth c H locs cells slots Q (F0 m pc ls st0) := by
  intro T hT X
  obtain ⟨v1, st₀, t, T', L, h0, X', hL, e1, ⟨hv, hb2, hz, hk⟩, st⟩ := W.runS (H := H) (cells := cells) (slots := slots) (locs := locs) C.1 hM cw ⟨preS_blind, fun U hU hW => ⟨rfl, by rw [hU]; exact hB, gK.moved hW.alike C.2, by rw [hU]; exact hst0.moved hW.alike⟩⟩ rfl hn hsz hst (lv_room hW) hdg hf T hT X
  cases hv
  rw [h0] at hz hk
  obtain ⟨t2, a1, b1⟩ := kk T'.heap (locs ++ L) (by rw [e1]; exact hb2) ⟨Nat.le_trans hS.1 (by rw [e1]; exact hz), fun q h1 h2 => by rw [e1, hk q (Nat.lt_of_lt_of_le h1 hS.1) (fun z => h2 (hA q z))]; exact hS.2.1 q h1 h2, fun q hq => by
      rcases List.mem_append.mp hq with h | h
      · exact hS.2.2 q h
      · exact hA _ (hL q h)⟩ (by rw [e1]; exact hz) (fun q h1 h2 => by rw [e1]; exact hk q h1 h2) T' rfl X'
  exact ⟨t2, st t2 a1, b1⟩
end MYL
def fL_low (p1 : Int32) (p2 : Int32) : Option (Int32) := if p2 = 0 then none else some ((p1 &&& 2147483647) - (p1 &&& 2147483647) / p2 * p2)
set_option maxHeartbeats 4000000 in
set_option maxRecDepth 100000 in
theorem kL_low (l : Launch) (G : Gx) (p1 : Int32) (p2 : Int32) (r : Int32) (h : fL_low p1 p2 = some r) : Met l yL_low wsL_low (rmN 0) (pre G [.int p1, .int p2] (fun _ => True)) (QcRead r) 0 0 (fun _ => False) := by
  refine Met.ofW (cc := cL_low) (maxL := 2) (ret := (some .int)) (by decide) rfl ?_
  intro p e s m args below meth c s₁ B hml hv
  obtain ⟨rfl, -, hK⟩ := hv
  have hx := B.exec
  have hb := B.bytes
  have hr := B.returns
  have hts := atoms_spec (ws := wsL_low) B.pre
  have hown : s.vm.findClass RL = some m.cls := findClass_of_methodNamed B.named
  have hlocks := B.notSynchronized
  have C : Cx p m c cL_low 2 s _ wsL_low RL G := ⟨⟨hx, hb, hml, hown, hts⟩, hK⟩
  have hl := lv_entry ([.int p1, .int p2]) (n := 2) (Nat.le_of_ble_eq_true rfl)
  rw [lg_entry_eq]
  generalize (lg_sl ([.int p1, .int p2]) ++ List.replicate (2 - (lg_sl ([.int p1, .int p2])).length) Slot.unset).toArray = ls at hl ⊢
  have hl : lv_has ls 2 [(0, .int p1), (1, .int p2)] := hl
  unfold fL_low at h
  refine lv_iload_n hx hb dL_low_0 rfl (lv_at hl 0 rfl) ?_
  refine lv_ldc hx hb hown (hts _ (List.mem_of_getElem? (i := 1) rfl)) dL_low_1 ?_
  refine lv_iand hx hb dL_low_3 ?_
  refine lv_iload_n hx hb dL_low_4 rfl (lv_at hl 1 rfl) ?_
  obtain ⟨c1, h⟩ := og h
  refine lv_irem hx hb dL_low_5 c1 ?_
  have h := so h
  subst h
  exact W.iret hx hb hr (fun t ht _ => ⟨rfl, ht⟩) (fun q h => absurd h List.not_mem_nil) dL_low_6

def fL_told_45 (k : Int64 → Int32 → Int32 → Option (Int64)) : Nat → XS → Int64 → Int32 → Int32 → Option (Int64)
  | 0, _, _, _, _ => none
  | n + 1, σ, v1, v3, v4 => if 9 ≤ v4 then (k v1 v3 v4) else ((fX3_cart σ v3 v4).bind (fun q5 => fL_told_45 k n σ ((31 * v1) + q5.toInt64) v3 (v4 + 1)))
theorem fL_told_45_0 (k : Int64 → Int32 → Int32 → Option (Int64)) (σ : XS) (v1 : Int64) (v3 : Int32) (v4 : Int32) : fL_told_45 k 0 σ v1 v3 v4 = none := rfl
theorem fL_told_45_s (k : Int64 → Int32 → Int32 → Option (Int64)) (n : Nat) (σ : XS) (v1 : Int64) (v3 : Int32) (v4 : Int32) : fL_told_45 k (n + 1) σ v1 v3 v4 = (if 9 ≤ v4 then (k v1 v3 v4) else ((fX3_cart σ v3 v4).bind (fun q5 => fL_told_45 k n σ ((31 * v1) + q5.toInt64) v3 (v4 + 1)))) := rfl
def fL_told_33 : Nat → XS → Int64 → Int32 → Option (Int64)
  | 0, _, _, _ => none
  | n + 1, σ, v1, v3 => (fX3_total σ 5).bind (fun q2 => if q2 ≤ v3 then (some v1) else (fL_told_45 (fun v1 v3 v4 => fL_told_33 n σ v1 (v3 + 1)) 1000 σ v1 v3 0))
theorem fL_told_33_0 (σ : XS) (v1 : Int64) (v3 : Int32) : fL_told_33 0 σ v1 v3 = none := rfl
theorem fL_told_33_s (n : Nat) (σ : XS) (v1 : Int64) (v3 : Int32) : fL_told_33 (n + 1) σ v1 v3 = ((fX3_total σ 5).bind (fun q2 => if q2 ≤ v3 then (some v1) else (fL_told_45 (fun v1 v3 v4 => fL_told_33 n σ v1 (v3 + 1)) 1000 σ v1 v3 0))) := rfl
def fL_told_6 : Nat → XS → Int64 → Int32 → Option (Int64)
  | 0, _, _, _ => none
  | n + 1, σ, v1, v3 => if 15 ≤ v3 then (fL_told_33 1000 σ v1 0) else ((fX3_total σ v3).bind (fun q6 => fL_told_6 n σ ((31 * v1) + q6.toInt64) (v3 + 1)))
theorem fL_told_6_0 (σ : XS) (v1 : Int64) (v3 : Int32) : fL_told_6 0 σ v1 v3 = none := rfl
theorem fL_told_6_s (n : Nat) (σ : XS) (v1 : Int64) (v3 : Int32) : fL_told_6 (n + 1) σ v1 v3 = (if 15 ≤ v3 then (fL_told_33 1000 σ v1 0) else ((fX3_total σ v3).bind (fun q6 => fL_told_6 n σ ((31 * v1) + q6.toInt64) (v3 + 1)))) := rfl
def fL_told (σ : XS) : Option (Int64) := fL_told_6 1000 σ 3 0
set_option maxHeartbeats 4000000 in
set_option maxRecDepth 100000 in
theorem kL_told (l : Launch) (G : Gx) (b : Nat) (σ : XS) (r : Int64) (h : fL_told σ = some r) : Met l yL_told wsL_told (rmN 5) (pre G [.ref b] (xAt G b σ)) (QcV (.long r)) 0 0 (fun _ => False) := by
  refine Met.ofW (cc := cL_told) (maxL := 5) (ret := (some .long)) (by decide) rfl ?_
  intro p e s m args below meth c s₁ B hml hv
  obtain ⟨rfl, X, hK⟩ := hv
  have hx := B.exec
  have hb := B.bytes
  have hr := B.returns
  have hts := atoms_spec (ws := wsL_told) B.pre
  have hown : s.vm.findClass RL = some m.cls := findClass_of_methodNamed B.named
  have hlocks := B.notSynchronized
  have C : Cx p m c cL_told 5 s _ wsL_told RL G := ⟨⟨hx, hb, hml, hown, hts⟩, hK⟩
  have hl := lv_entry ([.ref b]) (n := 5) (Nat.le_of_ble_eq_true rfl)
  rw [lg_entry_eq]
  generalize (lg_sl ([.ref b]) ++ List.replicate (5 - (lg_sl ([.ref b])).length) Slot.unset).toArray = ls at hl ⊢
  have hl : lv_has ls 5 [(0, .ref b)] := hl
  have loop45 : ∀ (k : Int64 → Int32 → Int32 → Option (Int64)), (∀ (v1 : Int64) (v3 : Int32) (v4 : Int32) (ls : Array Slot), k v1 v3 v4 = some r → lv_has ls 5 [(0, .ref b), (1, .long v1), (3, .int v3), (4, .int v4)] → W p l e (rmN 5) s m #[Value.ref b] below meth c s.heap [] 0 0 (MQ below (QcV (.long r)) #[Value.ref b] s 0 0 (fun _ => False)) (F0 m 73 ls [])) → ∀ (n : Nat) (v1 : Int64) (v3 : Int32) (v4 : Int32) (ls : Array Slot), fL_told_45 k n σ v1 v3 v4 = some r → lv_has ls 5 [(0, .ref b), (1, .long v1), (3, .int v3), (4, .int v4)] → W p l e (rmN 5) s m #[Value.ref b] below meth c s.heap [] 0 0 (MQ below (QcV (.long r)) #[Value.ref b] s 0 0 (fun _ => False)) (F0 m 45 ls []) := by
    intro k hk n
    induction n with
    | zero =>
      intro v1 v3 v4 ls h hl
      rw [fL_told_45_0] at h
      cases h
    | succ n ih =>
      intro v1 v3 v4 ls h hl
      rw [fL_told_45_s] at h
      refine lv_iload hx hb dL_told_45 (lv_at hl 3 rfl) ?_
      refine lv_bipush (v := 9) hx hb dL_told_47 (by decide) ?_
      refine lv_icmp_ge (tgt := 73) hx hb dL_told_49 (by decide) (fun c4 => ?_) (fun c4 => ?_)
      · have h := ip h c4
        exact hk _ _ _ _ h (lv_sub hl [0, 1, 2, 3] rfl)
      · have h := iq h c4
        refine lv_ldc2 (v := 31) hx hb hown (hts _ (List.mem_of_getElem? (i := 2) rfl)) dL_told_52 ?_
        refine lv_lload_n hx hb dL_told_55 rfl (lv_at hl 1 rfl) ?_
        refine lv_lmul hx hb dL_told_56 ?_
        refine lv_aload_n hx hb dL_told_57 rfl (lv_at hl 0 rfl) ?_
        refine lv_iload_n hx hb dL_told_58 rfl (lv_at hl 2 rfl) ?_
        refine lv_iload hx hb dL_told_59 (lv_at hl 3 rfl) ?_
        obtain ⟨q5, hq5, h⟩ := ob h
        refine rowV (As := [.int v3, .int v4]) (rest := [.long (31 * v1)]) C (kX3_cart l G b σ v3 v4 q5 hq5) (cwV 2 hts gL_told_X3_cart rfl rfl rfl (by decide +kernel) ⟨Nat.le_of_ble_eq_true rfl, Nat.le_of_ble_eq_true rfl⟩) (rcv_X3 X hK) X rfl hl.1 rfl (Nat.le_of_ble_eq_true rfl) dL_told_61 ⟨Nat.zero_le _, Nat.zero_le _⟩ ?_
        refine lv_i2l (v := q5.toInt64) hx hb dL_told_64 rfl ?_
        refine lv_ladd hx hb dL_told_65 ?_
        refine lv_lstore_n (lv' := [(1, .long ((31 * v1) + q5.toInt64)), (0, .ref b), (3, .int v3), (4, .int v4)]) hx hb dL_told_66 rfl hl (by decide) rfl (fun ls hl => ?_)
        refine lv_iinc (v := v4 + 1) (lv' := [(4, .int (v4 + 1)), (1, .long ((31 * v1) + q5.toInt64)), (0, .ref b), (3, .int v3)]) hx hb dL_told_67 hl (k := 3) rfl rfl (by decide) rfl (fun ls hl => ?_)
        refine lv_goto (tgt := 45) hx hb dL_told_70 (by decide) ?_
        exact ih _ _ _ _ h (lv_sub hl [2, 1, 3, 0] rfl)
  have loop33 : ∀ (n : Nat) (v1 : Int64) (v3 : Int32) (ls : Array Slot), fL_told_33 n σ v1 v3 = some r → lv_has ls 5 [(0, .ref b), (1, .long v1), (3, .int v3)] → W p l e (rmN 5) s m #[Value.ref b] below meth c s.heap [] 0 0 (MQ below (QcV (.long r)) #[Value.ref b] s 0 0 (fun _ => False)) (F0 m 33 ls []) := by
    intro n
    induction n with
    | zero =>
      intro v1 v3 ls h hl
      rw [fL_told_33_0] at h
      cases h
    | succ n ih =>
      intro v1 v3 ls h hl
      rw [fL_told_33_s] at h
      refine lv_iload_n hx hb dL_told_33 rfl (lv_at hl 2 rfl) ?_
      refine lv_aload_n hx hb dL_told_34 rfl (lv_at hl 0 rfl) ?_
      refine lv_iconst (v := 5) hx hb dL_told_35 (by decide) ?_
      obtain ⟨q2, hq2, h⟩ := ob h
      refine rowV (As := [.int 5]) (rest := [.int v3]) C (kX3_total l G b σ 5 q2 hq2) (cwV 1 hts gL_told_X3_total rfl rfl rfl (by decide +kernel) ⟨Nat.le_of_ble_eq_true rfl, Nat.le_of_ble_eq_true rfl⟩) (rcv_X3 X hK) X rfl hl.1 rfl (Nat.le_of_ble_eq_true rfl) dL_told_36 ⟨Nat.zero_le _, Nat.zero_le _⟩ ?_
      refine lv_icmp_ge (tgt := 79) hx hb dL_told_39 (by decide) (fun c3 => ?_) (fun c3 => ?_)
      · have h := ip h c3
        refine lv_lload_n hx hb dL_told_79 rfl (lv_at hl 1 rfl) ?_
        have h := so h
        subst h
        exact W.lret hx hb hr (fun t ht _ => ⟨rfl, ht⟩) (fun q h => absurd h List.not_mem_nil) dL_told_80
      · have h := iq h c3
        refine lv_iconst (v := 0) hx hb dL_told_42 (by decide) ?_
        refine lv_istore (lv' := [(4, .int 0), (0, .ref b), (1, .long v1), (3, .int v3)]) hx hb dL_told_43 hl (by decide) rfl (fun ls hl => ?_)
        refine loop45 _ (fun v1 v3 v4 ls h hl => ?_) _ _ _ _ _ h (lv_sub hl [1, 2, 3, 0] rfl)
        refine lv_iinc (v := v3 + 1) (lv' := [(3, .int (v3 + 1)), (0, .ref b), (1, .long v1), (4, .int v4)]) hx hb dL_told_73 hl (k := 2) rfl rfl (by decide) rfl (fun ls hl => ?_)
        refine lv_goto (tgt := 33) hx hb dL_told_76 (by decide) ?_
        exact ih _ _ _ h (lv_sub hl [1, 2, 0] rfl)
  have loop6 : ∀ (n : Nat) (v1 : Int64) (v3 : Int32) (ls : Array Slot), fL_told_6 n σ v1 v3 = some r → lv_has ls 5 [(0, .ref b), (1, .long v1), (3, .int v3)] → W p l e (rmN 5) s m #[Value.ref b] below meth c s.heap [] 0 0 (MQ below (QcV (.long r)) #[Value.ref b] s 0 0 (fun _ => False)) (F0 m 6 ls []) := by
    intro n
    induction n with
    | zero =>
      intro v1 v3 ls h hl
      rw [fL_told_6_0] at h
      cases h
    | succ n ih =>
      intro v1 v3 ls h hl
      rw [fL_told_6_s] at h
      refine lv_iload_n hx hb dL_told_6 rfl (lv_at hl 2 rfl) ?_
      refine lv_bipush (v := 15) hx hb dL_told_7 (by decide) ?_
      refine lv_icmp_ge (tgt := 31) hx hb dL_told_9 (by decide) (fun c1 => ?_) (fun c1 => ?_)
      · have h := ip h c1
        refine lv_iconst (v := 0) hx hb dL_told_31 (by decide) ?_
        refine lv_istore_n (lv' := [(3, .int 0), (0, .ref b), (1, .long v1)]) hx hb dL_told_32 rfl hl (by decide) rfl (fun ls hl => ?_)
        exact loop33 _ _ _ _ h (lv_sub hl [1, 2, 0] rfl)
      · have h := iq h c1
        refine lv_ldc2 (v := 31) hx hb hown (hts _ (List.mem_of_getElem? (i := 2) rfl)) dL_told_12 ?_
        refine lv_lload_n hx hb dL_told_15 rfl (lv_at hl 1 rfl) ?_
        refine lv_lmul hx hb dL_told_16 ?_
        refine lv_aload_n hx hb dL_told_17 rfl (lv_at hl 0 rfl) ?_
        refine lv_iload_n hx hb dL_told_18 rfl (lv_at hl 2 rfl) ?_
        obtain ⟨q6, hq6, h⟩ := ob h
        refine rowV (As := [.int v3]) (rest := [.long (31 * v1)]) C (kX3_total l G b σ v3 q6 hq6) (cwV 1 hts gL_told_X3_total rfl rfl rfl (by decide +kernel) ⟨Nat.le_of_ble_eq_true rfl, Nat.le_of_ble_eq_true rfl⟩) (rcv_X3 X hK) X rfl hl.1 rfl (Nat.le_of_ble_eq_true rfl) dL_told_19 ⟨Nat.zero_le _, Nat.zero_le _⟩ ?_
        refine lv_i2l (v := q6.toInt64) hx hb dL_told_22 rfl ?_
        refine lv_ladd hx hb dL_told_23 ?_
        refine lv_lstore_n (lv' := [(1, .long ((31 * v1) + q6.toInt64)), (0, .ref b), (3, .int v3)]) hx hb dL_told_24 rfl hl (by decide) rfl (fun ls hl => ?_)
        refine lv_iinc (v := v3 + 1) (lv' := [(3, .int (v3 + 1)), (1, .long ((31 * v1) + q6.toInt64)), (0, .ref b)]) hx hb dL_told_25 hl (k := 2) rfl rfl (by decide) rfl (fun ls hl => ?_)
        refine lv_goto (tgt := 6) hx hb dL_told_28 (by decide) ?_
        exact ih _ _ _ h (lv_sub hl [2, 1, 0] rfl)
  unfold fL_told at h
  refine lv_ldc2 (v := 3) hx hb hown (hts _ (List.mem_of_getElem? (i := 1) rfl)) dL_told_0 ?_
  refine lv_lstore_n (lv' := [(1, .long 3), (0, .ref b)]) hx hb dL_told_3 rfl hl (by decide) rfl (fun ls hl => ?_)
  refine lv_iconst (v := 0) hx hb dL_told_4 (by decide) ?_
  refine lv_istore_n (lv' := [(3, .int 0), (1, .long 3), (0, .ref b)]) hx hb dL_told_5 rfl hl (by decide) rfl (fun ls hl => ?_)
  exact loop6 _ _ _ _ h (lv_sub hl [2, 1, 0] rfl)
