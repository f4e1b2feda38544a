theorem xAt.keep {G : Gx} {B : Nat} {x : XS} {A : Nat → Prop} {H H1 : Heap} (X : xAt G B x H) (hk : ∀ q : Nat, q < H.size → ¬ A q → H1[q]? = H[q]?) (hd : ∀ q, B ≤ q → q < B + 54 → ¬ A q) : xAt G B x H1 := by
  obtain ⟨X0, X1, X2, X3, X4, X5⟩ := X
  exact ⟨P_kept X0 (xWs_D B _) hk (fun q h1 h2 => hd q (by omega) (by omega)), X1.keep hk (fun q h1 h2 => hd q (by omega) (by omega)), X2.keep hk (fun q h1 h2 => hd q (by omega) (by omega)), X3.keep hk (fun q h1 h2 => hd q (by omega) (by omega)), X4.keep hk (fun q h1 h2 => hd q (by omega) (by omega)), X5.keep hk (fun q h1 h2 => hd q (by omega) (by omega))⟩
theorem char_w (v : Int32) : ∃ w, w < 65536 ∧ (v.toUInt32 % 65536).toInt32 = nI w := ⟨v.toBitVec.toNat % 65536, Nat.mod_lt _ (by decide), pk_char v⟩
set_option maxHeartbeats 8000000 in
set_option maxRecDepth 100000 in
/-- THE LAW'S LOOP: at its head, with i ints read, the two agree -/
theorem law_loop {p : Program} {l : Launch} {e : Env} {s : State} {m : MethodId} {below : List Frame} {meth : Method} {c : Code} {G : Gx} {b L : Nat} {xs : Nat → Int32} (hL : L ≤ 2048) (C0 : lw_At p s m meth c b L xs) (hK : gK G s) (hst : stA (fun q => s.heap.size ≤ q) s s.heap) :
    ∀ (n i : Nat), L + 4 ≤ i + n → i ≤ L → ∀ (x : XS) (μ : St) (H : Heap) (locs : List Loc) (ls : Array Slot), RX x μ → xAt G s.heap.size x H → mAt G (s.heap.size + 54) μ H → va_S (fun q : Nat => s.heap.size ≤ q) s.heap H locs → lv_has ls 4 [(0, .ref b), (1, .ref s.heap.size), (2, .ref (s.heap.size + 54)), (3, .int (nI i))] → W p l e room_1 s m #[Value.ref b] below meth c H locs 61 2600 (lw_Z below #[Value.ref b] s) (F0 m 18 ls []) := by
  obtain ⟨hx, hb, hr, hml, hown, hts9, hX, hbl, hlocks, hgv⟩ := C0
  have hts : ∀ w ∈ wsL_law, w.before #[Value.ref b] s = true := fun w h => hts9 w (wsL_law_in w h)
  have C : Cx p m c cL_law 4 s #[Value.ref b] wsL_law RL G := ⟨⟨hx, hb, hml, hown, hts⟩, hK⟩
  have hA : ∀ q : Nat, s.heap.size ≤ q → (fun q : Nat => s.heap.size ≤ q) q := fun _ h => h
  have hbA : ¬ (fun q : Nat => s.heap.size ≤ q) b := Nat.not_le.mpr hbl
  intro n
  induction n with
  | zero =>
    intro i h1 h2
    exact absurd h1 (by omega)
  | succ n ih =>
    intro i hin hi x μ H locs ls hR X Z hS hl
    refine lv_iload_n hx hb dL_law_18 rfl (lv_at hl 3 rfl) ?_
    refine lv_aload_n hx hb dL_law_19 rfl (lv_at hl 0 rfl) ?_
    refine va_slen hx hb hX hbl hbA hS dL_law_20 ?_
    refine lv_iconst (v := 4) hx hb dL_law_21 (by decide) ?_
    refine lv_isub hx hb dL_law_22 ?_
    have e4 : (nI L - 4).toInt = (L : Int) - 4 := pk_sub_toInt (a := L) (b := 4) (by omega) (by decide)
    have ei : (nI i).toInt = (i : Int) := nI_toInt (by omega)
    refine lv_icmp_gt (tgt := 596) hx hb dL_law_23 (by decide) (fun c1 => ?_) (fun c1 => ?_)
    · refine lv_iconst (v := 1) hx hb dL_law_596 (by decide) ?_
      refine va_forget (fun q hq => hS.2.2 q hq) ?_
      refine W.widen (k := 600000) (n := 7302250) (Nat.le_of_ble_eq_true rfl) (Nat.le_of_ble_eq_true rfl) ?_
      exact lw_ret hx hb hr hlocks dL_law_597
    · have hi4 : i + 4 ≤ L := by
        have c1 : ¬ (nI L - 4).toInt < (nI i).toInt := fun z => c1 (Int32.lt_iff_toInt_lt.mpr z)
        rw [e4, ei] at c1
        omega
      have vin : ∀ j : Nat, j < 4 → vp_in (nI i + nI j) L := fun j hj => by
        rw [nI_add]
        exact vp_in_nI (by omega) (by omega)
      have tail590 : ∀ (x : XS) (μ : St) (H : Heap) (locs : List Loc) (ls : Array Slot), RX x μ → xAt G s.heap.size x H → mAt G (s.heap.size + 54) μ H → va_S (fun q : Nat => s.heap.size ≤ q) s.heap H locs → lv_has ls 4 [(0, .ref b), (1, .ref s.heap.size), (2, .ref (s.heap.size + 54)), (3, .int (nI i))] → W p l e room_1 s m #[Value.ref b] below meth c H locs 61 2600 (lw_Z below #[Value.ref b] s) (F0 m 590 ls []) := by
        intro x μ H locs ls hR X Z hS hl
        refine lv_iinc (v := nI (i + 4)) (lv' := [(3, .int (nI (i + 4))), (0, .ref b), (1, .ref s.heap.size), (2, .ref (s.heap.size + 54))]) hx hb dL_law_590 hl (k := 3) rfl (nI_add i 4) (by decide) rfl (fun ls hl => ?_)
        refine lv_goto (tgt := 18) hx hb dL_law_593 (by decide) ?_
        exact ih (i + 4) (by omega) hi4 x μ H locs ls hR X Z hS (lv_sub hl [1, 2, 3, 0] rfl)
      refine lv_aload_n hx hb dL_law_26 rfl (lv_at hl 0 rfl) ?_
      refine lv_iload_n hx hb dL_law_27 rfl (lv_at hl 3 rfl) ?_
      refine va_sld hx hb hX hbl hbA hS (vp_in_nI (by omega) (by omega)) dL_law_28 ?_
      refine lv_bipush (v := 31) hx hb dL_law_29 (by decide) ?_
      refine lv_iand hx hb dL_law_31 ?_
      refine lv_topi (fun sw _ => ?_)
      by_cases c2 : sw = 0
      · refine rowTab (K := 0) (off := 96) (tgt := 128) hx hb c2 dL_law_32 (by decide) (by decide) (by decide) (by decide) ?_
        obtain ⟨r, x2, μ2, e1, e2, hR⟩ := q_come hR (xs (nI i + 1).toNatClampNeg) (xs (nI i + 2).toNatClampNeg) (xs (nI i + 3).toNatClampNeg)
        refine lv_aload_n hx hb dL_law_128 rfl (lv_at hl 1 rfl) ?_
        refine lv_aload_n hx hb dL_law_129 rfl (lv_at hl 0 rfl) ?_
        refine lv_iload_n hx hb dL_law_130 rfl (lv_at hl 3 rfl) ?_
        refine lv_iconst (v := 1) hx hb dL_law_131 (by decide) ?_
        refine lv_iadd hx hb dL_law_132 ?_
        refine va_sld hx hb hX hbl hbA hS (vin 1 (by decide)) dL_law_133 ?_
        refine lv_aload_n hx hb dL_law_134 rfl (lv_at hl 0 rfl) ?_
        refine lv_iload_n hx hb dL_law_135 rfl (lv_at hl 3 rfl) ?_
        refine lv_iconst (v := 2) hx hb dL_law_136 (by decide) ?_
        refine lv_iadd hx hb dL_law_137 ?_
        refine va_sld hx hb hX hbl hbA hS (vin 2 (by decide)) dL_law_138 ?_
        refine lv_aload_n hx hb dL_law_139 rfl (lv_at hl 0 rfl) ?_
        refine lv_iload_n hx hb dL_law_140 rfl (lv_at hl 3 rfl) ?_
        refine lv_iconst (v := 3) hx hb dL_law_141 (by decide) ?_
        refine lv_iadd hx hb dL_law_142 ?_
        refine va_sld hx hb hX hbl hbA hS (vin 3 (by decide)) dL_law_143 ?_
        refine rowW (As := [.int (xs (nI i + 1).toNatClampNeg), .int (xs (nI i + 2).toNatClampNeg), .int (xs (nI i + 3).toNatClampNeg)]) (rest := []) C (kX3_come l G s.heap.size x (xs (nI i + 1).toNatClampNeg) (xs (nI i + 2).toNatClampNeg) (xs (nI i + 3).toNatClampNeg) r x2 e1) (cwV 3 hts gL_law_X3_come rfl rfl rfl (by decide +kernel) ⟨Nat.le_of_ble_eq_true rfl, Nat.le_of_ble_eq_true rfl⟩) (rcv_X3 X C.2) X hS (fun q z => (fr_iff.mp z).1) rfl hl.1 rfl (Nat.le_of_ble_eq_true rfl) dL_law_144 ⟨Nat.le_of_ble_eq_true rfl, Nat.le_of_ble_eq_true rfl⟩ (fun H1 locs X2 hS hz hf => ?_)
        have Z2 : mAt G (s.heap.size + 54) μ H1 := Z.keep hf (fun q h1 h2 z => by have z := fr_iff.mp z; omega)
        clear X Z hf hz
        have X := X2
        have Z := Z2
        show W p l e _ s m _ below meth c H1 locs 61 2600 _ (F0 m 147 ls [.int r])
        refine lv_aload_n hx hb dL_law_147 rfl (lv_at hl 2 rfl) ?_
        refine lv_aload_n hx hb dL_law_148 rfl (lv_at hl 0 rfl) ?_
        refine lv_iload_n hx hb dL_law_149 rfl (lv_at hl 3 rfl) ?_
        refine lv_iconst (v := 1) hx hb dL_law_150 (by decide) ?_
        refine lv_iadd hx hb dL_law_151 ?_
        refine va_sld hx hb hX hbl hbA hS (vin 1 (by decide)) dL_law_152 ?_
        refine lv_aload_n hx hb dL_law_153 rfl (lv_at hl 0 rfl) ?_
        refine lv_iload_n hx hb dL_law_154 rfl (lv_at hl 3 rfl) ?_
        refine lv_iconst (v := 2) hx hb dL_law_155 (by decide) ?_
        refine lv_iadd hx hb dL_law_156 ?_
        refine va_sld hx hb hX hbl hbA hS (vin 2 (by decide)) dL_law_157 ?_
        refine lv_aload_n hx hb dL_law_158 rfl (lv_at hl 0 rfl) ?_
        refine lv_iload_n hx hb dL_law_159 rfl (lv_at hl 3 rfl) ?_
        refine lv_iconst (v := 3) hx hb dL_law_160 (by decide) ?_
        refine lv_iadd hx hb dL_law_161 ?_
        refine va_sld hx hb hX hbl hbA hS (vin 3 (by decide)) dL_law_162 ?_
        refine rowW (As := [.int (xs (nI i + 1).toNatClampNeg), .int (xs (nI i + 2).toNatClampNeg), .int (xs (nI i + 3).toNatClampNeg)]) (rest := [.int r]) C (kX4_come l G (s.heap.size + 54) μ (xs (nI i + 1).toNatClampNeg) (xs (nI i + 2).toNatClampNeg) (xs (nI i + 3).toNatClampNeg) r μ2 e2) (cwV 3 hts gL_law_X4_come rfl rfl rfl (by decide +kernel) ⟨Nat.le_of_ble_eq_true rfl, Nat.le_of_ble_eq_true rfl⟩) (rcv_X4 Z C.2) Z hS (fun q z => by have z := fr_iff.mp z; show s.heap.size ≤ q; omega) rfl hl.1 rfl (Nat.le_of_ble_eq_true rfl) dL_law_163 ⟨Nat.le_of_ble_eq_true rfl, Nat.le_of_ble_eq_true rfl⟩ (fun H2 locs Z2 hS hz hf => ?_)
        have X := X.keep hf (fun q h1 h2 z => by have z := fr_iff.mp z; omega)
        show W p l e _ s m _ below meth c H2 locs 61 2600 _ (F0 m 166 ls [.int r, .int r])
        refine lv_icmp_eq (tgt := 590) hx hb dL_law_166 (by decide) (fun _ => ?_) (fun c9 => absurd rfl c9)
        exact tail590 x2 μ2 _ _ ls hR X Z2 hS hl
      by_cases c3 : sw = 1
      · refine rowTab (K := 1) (off := 139) (tgt := 171) hx hb c3 dL_law_32 (by decide) (by decide) (by decide) (by decide) ?_
        obtain ⟨r, x2, μ2, e1, e2, hR⟩ := q_alter hR (xs (nI i + 1).toNatClampNeg) (xs (nI i + 2).toNatClampNeg)
        refine lv_aload_n hx hb dL_law_171 rfl (lv_at hl 1 rfl) ?_
        refine lv_aload_n hx hb dL_law_172 rfl (lv_at hl 0 rfl) ?_
        refine lv_iload_n hx hb dL_law_173 rfl (lv_at hl 3 rfl) ?_
        refine lv_iconst (v := 1) hx hb dL_law_174 (by decide) ?_
        refine lv_iadd hx hb dL_law_175 ?_
        refine va_sld hx hb hX hbl hbA hS (vin 1 (by decide)) dL_law_176 ?_
        refine lv_aload_n hx hb dL_law_177 rfl (lv_at hl 0 rfl) ?_
        refine lv_iload_n hx hb dL_law_178 rfl (lv_at hl 3 rfl) ?_
        refine lv_iconst (v := 2) hx hb dL_law_179 (by decide) ?_
        refine lv_iadd hx hb dL_law_180 ?_
        refine va_sld hx hb hX hbl hbA hS (vin 2 (by decide)) dL_law_181 ?_
        refine rowW (As := [.int (xs (nI i + 1).toNatClampNeg), .int (xs (nI i + 2).toNatClampNeg)]) (rest := []) C (kX3_alter l G s.heap.size x (xs (nI i + 1).toNatClampNeg) (xs (nI i + 2).toNatClampNeg) r x2 e1) (cwV 2 hts gL_law_X3_alter rfl rfl rfl (by decide +kernel) ⟨Nat.le_of_ble_eq_true rfl, Nat.le_of_ble_eq_true rfl⟩) (rcv_X3 X C.2) X hS (fun q z => (fr_iff.mp z).1) rfl hl.1 rfl (Nat.le_of_ble_eq_true rfl) dL_law_182 ⟨Nat.le_of_ble_eq_true rfl, Nat.le_of_ble_eq_true rfl⟩ (fun H1 locs X2 hS hz hf => ?_)
        have Z2 : mAt G (s.heap.size + 54) μ H1 := Z.keep hf (fun q h1 h2 z => by have z := fr_iff.mp z; omega)
        clear X Z hf hz
        have X := X2
        have Z := Z2
        show W p l e _ s m _ below meth c H1 locs 61 2600 _ (F0 m 185 ls [.int r])
        refine lv_aload_n hx hb dL_law_185 rfl (lv_at hl 2 rfl) ?_
        refine lv_aload_n hx hb dL_law_186 rfl (lv_at hl 0 rfl) ?_
        refine lv_iload_n hx hb dL_law_187 rfl (lv_at hl 3 rfl) ?_
        refine lv_iconst (v := 1) hx hb dL_law_188 (by decide) ?_
        refine lv_iadd hx hb dL_law_189 ?_
        refine va_sld hx hb hX hbl hbA hS (vin 1 (by decide)) dL_law_190 ?_
        refine lv_aload_n hx hb dL_law_191 rfl (lv_at hl 0 rfl) ?_
        refine lv_iload_n hx hb dL_law_192 rfl (lv_at hl 3 rfl) ?_
        refine lv_iconst (v := 2) hx hb dL_law_193 (by decide) ?_
        refine lv_iadd hx hb dL_law_194 ?_
        refine va_sld hx hb hX hbl hbA hS (vin 2 (by decide)) dL_law_195 ?_
        refine rowW (As := [.int (xs (nI i + 1).toNatClampNeg), .int (xs (nI i + 2).toNatClampNeg)]) (rest := [.int r]) C (kX4_alter l G (s.heap.size + 54) μ (xs (nI i + 1).toNatClampNeg) (xs (nI i + 2).toNatClampNeg) r μ2 e2) (cwV 2 hts gL_law_X4_alter rfl rfl rfl (by decide +kernel) ⟨Nat.le_of_ble_eq_true rfl, Nat.le_of_ble_eq_true rfl⟩) (rcv_X4 Z C.2) Z hS (fun q z => by have z := fr_iff.mp z; show s.heap.size ≤ q; omega) rfl hl.1 rfl (Nat.le_of_ble_eq_true rfl) dL_law_196 ⟨Nat.le_of_ble_eq_true rfl, Nat.le_of_ble_eq_true rfl⟩ (fun H2 locs Z2 hS hz hf => ?_)
        have X := X.keep hf (fun q h1 h2 z => by have z := fr_iff.mp z; omega)
        show W p l e _ s m _ below meth c H2 locs 61 2600 _ (F0 m 199 ls [.int r, .int r])
        refine lv_icmp_eq (tgt := 590) hx hb dL_law_199 (by decide) (fun _ => ?_) (fun c9 => absurd rfl c9)
        exact tail590 x2 μ2 _ _ ls hR X Z2 hS hl
      by_cases c4 : sw = 2
      · refine rowTab (K := 2) (off := 172) (tgt := 204) hx hb c4 dL_law_32 (by decide) (by decide) (by decide) (by decide) ?_
        obtain ⟨r, x2, μ2, e1, e2, hR⟩ := q_reseal hR (xs (nI i + 1).toNatClampNeg)
        refine lv_aload_n hx hb dL_law_204 rfl (lv_at hl 1 rfl) ?_
        refine lv_aload_n hx hb dL_law_205 rfl (lv_at hl 0 rfl) ?_
        refine lv_iload_n hx hb dL_law_206 rfl (lv_at hl 3 rfl) ?_
        refine lv_iconst (v := 1) hx hb dL_law_207 (by decide) ?_
        refine lv_iadd hx hb dL_law_208 ?_
        refine va_sld hx hb hX hbl hbA hS (vin 1 (by decide)) dL_law_209 ?_
        refine rowW (As := [.int (xs (nI i + 1).toNatClampNeg)]) (rest := []) C (kX3_reseal l G s.heap.size x (xs (nI i + 1).toNatClampNeg) r x2 e1) (cwV 1 hts gL_law_X3_reseal rfl rfl rfl (by decide +kernel) ⟨Nat.le_of_ble_eq_true rfl, Nat.le_of_ble_eq_true rfl⟩) (rcv_X3 X C.2) X hS (fun q z => (fr_iff.mp z).1) rfl hl.1 rfl (Nat.le_of_ble_eq_true rfl) dL_law_210 ⟨Nat.le_of_ble_eq_true rfl, Nat.le_of_ble_eq_true rfl⟩ (fun H1 locs X2 hS hz hf => ?_)
        have Z2 : mAt G (s.heap.size + 54) μ H1 := Z.keep hf (fun q h1 h2 z => by have z := fr_iff.mp z; omega)
        clear X Z hf hz
        have X := X2
        have Z := Z2
        show W p l e _ s m _ below meth c H1 locs 61 2600 _ (F0 m 213 ls [.int r])
        refine lv_aload_n hx hb dL_law_213 rfl (lv_at hl 2 rfl) ?_
        refine lv_aload_n hx hb dL_law_214 rfl (lv_at hl 0 rfl) ?_
        refine lv_iload_n hx hb dL_law_215 rfl (lv_at hl 3 rfl) ?_
        refine lv_iconst (v := 1) hx hb dL_law_216 (by decide) ?_
        refine lv_iadd hx hb dL_law_217 ?_
        refine va_sld hx hb hX hbl hbA hS (vin 1 (by decide)) dL_law_218 ?_
        refine rowW (As := [.int (xs (nI i + 1).toNatClampNeg)]) (rest := [.int r]) C (kX4_reseal l G (s.heap.size + 54) μ (xs (nI i + 1).toNatClampNeg) r μ2 e2) (cwV 1 hts gL_law_X4_reseal rfl rfl rfl (by decide +kernel) ⟨Nat.le_of_ble_eq_true rfl, Nat.le_of_ble_eq_true rfl⟩) (rcv_X4 Z C.2) Z hS (fun q z => by have z := fr_iff.mp z; show s.heap.size ≤ q; omega) rfl hl.1 rfl (Nat.le_of_ble_eq_true rfl) dL_law_219 ⟨Nat.le_of_ble_eq_true rfl, Nat.le_of_ble_eq_true rfl⟩ (fun H2 locs Z2 hS hz hf => ?_)
        have X := X.keep hf (fun q h1 h2 z => by have z := fr_iff.mp z; omega)
        show W p l e _ s m _ below meth c H2 locs 61 2600 _ (F0 m 222 ls [.int r, .int r])
        refine lv_icmp_eq (tgt := 590) hx hb dL_law_222 (by decide) (fun _ => ?_) (fun c9 => absurd rfl c9)
        exact tail590 x2 μ2 _ _ ls hR X Z2 hS hl
      by_cases c5 : sw = 3
      · refine rowTab (K := 3) (off := 195) (tgt := 227) hx hb c5 dL_law_32 (by decide) (by decide) (by decide) (by decide) ?_
        obtain ⟨r, x2, μ2, e1, e2, hR⟩ := q_open hR (xs (nI i + 1).toNatClampNeg)
        refine lv_aload_n hx hb dL_law_227 rfl (lv_at hl 1 rfl) ?_
        refine lv_aload_n hx hb dL_law_228 rfl (lv_at hl 0 rfl) ?_
        refine lv_iload_n hx hb dL_law_229 rfl (lv_at hl 3 rfl) ?_
        refine lv_iconst (v := 1) hx hb dL_law_230 (by decide) ?_
        refine lv_iadd hx hb dL_law_231 ?_
        refine va_sld hx hb hX hbl hbA hS (vin 1 (by decide)) dL_law_232 ?_
        refine rowW (As := [.int (xs (nI i + 1).toNatClampNeg)]) (rest := []) C (kX3_open l G s.heap.size x (xs (nI i + 1).toNatClampNeg) r x2 e1) (cwV 1 hts gL_law_X3_open rfl rfl rfl (by decide +kernel) ⟨Nat.le_of_ble_eq_true rfl, Nat.le_of_ble_eq_true rfl⟩) (rcv_X3 X C.2) X hS (fun q z => (fr_iff.mp z).1) rfl hl.1 rfl (Nat.le_of_ble_eq_true rfl) dL_law_233 ⟨Nat.le_of_ble_eq_true rfl, Nat.le_of_ble_eq_true rfl⟩ (fun H1 locs X2 hS hz hf => ?_)
        have Z2 : mAt G (s.heap.size + 54) μ H1 := Z.keep hf (fun q h1 h2 z => by have z := fr_iff.mp z; omega)
        clear X Z hf hz
        have X := X2
        have Z := Z2
        show W p l e _ s m _ below meth c H1 locs 61 2600 _ (F0 m 236 ls [.int r])
        refine lv_aload_n hx hb dL_law_236 rfl (lv_at hl 2 rfl) ?_
        refine lv_aload_n hx hb dL_law_237 rfl (lv_at hl 0 rfl) ?_
        refine lv_iload_n hx hb dL_law_238 rfl (lv_at hl 3 rfl) ?_
        refine lv_iconst (v := 1) hx hb dL_law_239 (by decide) ?_
        refine lv_iadd hx hb dL_law_240 ?_
        refine va_sld hx hb hX hbl hbA hS (vin 1 (by decide)) dL_law_241 ?_
        refine rowW (As := [.int (xs (nI i + 1).toNatClampNeg)]) (rest := [.int r]) C (kX4_open l G (s.heap.size + 54) μ (xs (nI i + 1).toNatClampNeg) r μ2 e2) (cwV 1 hts gL_law_X4_open rfl rfl rfl (by decide +kernel) ⟨Nat.le_of_ble_eq_true rfl, Nat.le_of_ble_eq_true rfl⟩) (rcv_X4 Z C.2) Z hS (fun q z => by have z := fr_iff.mp z; show s.heap.size ≤ q; omega) rfl hl.1 rfl (Nat.le_of_ble_eq_true rfl) dL_law_242 ⟨Nat.le_of_ble_eq_true rfl, Nat.le_of_ble_eq_true rfl⟩ (fun H2 locs Z2 hS hz hf => ?_)
        have X := X.keep hf (fun q h1 h2 z => by have z := fr_iff.mp z; omega)
        show W p l e _ s m _ below meth c H2 locs 61 2600 _ (F0 m 245 ls [.int r, .int r])
        refine lv_icmp_eq (tgt := 590) hx hb dL_law_245 (by decide) (fun _ => ?_) (fun c9 => absurd rfl c9)
        exact tail590 x2 μ2 _ _ ls hR X Z2 hS hl
      by_cases c6 : sw = 4
      · refine rowTab (K := 4) (off := 218) (tgt := 250) hx hb c6 dL_law_32 (by decide) (by decide) (by decide) (by decide) ?_
        obtain ⟨r, x2, μ2, e1, e2, hR⟩ := q_openAll hR
        refine lv_aload_n hx hb dL_law_250 rfl (lv_at hl 1 rfl) ?_
        refine rowW (As := []) (rest := []) C (kX3_openAll l G s.heap.size x r x2 e1) (cwV 0 hts gL_law_X3_openAll rfl rfl rfl (by decide +kernel) ⟨Nat.le_of_ble_eq_true rfl, Nat.le_of_ble_eq_true rfl⟩) (rcv_X3 X C.2) X hS (fun q z => (fr_iff.mp z).1) rfl hl.1 rfl (Nat.le_of_ble_eq_true rfl) dL_law_251 ⟨Nat.le_of_ble_eq_true rfl, Nat.le_of_ble_eq_true rfl⟩ (fun H1 locs X2 hS hz hf => ?_)
        have Z2 : mAt G (s.heap.size + 54) μ H1 := Z.keep hf (fun q h1 h2 z => by have z := fr_iff.mp z; omega)
        clear X Z hf hz
        have X := X2
        have Z := Z2
        show W p l e _ s m _ below meth c H1 locs 61 2600 _ (F0 m 254 ls [.int r])
        refine lv_aload_n hx hb dL_law_254 rfl (lv_at hl 2 rfl) ?_
        refine rowW (As := []) (rest := [.int r]) C (kX4_openAll l G (s.heap.size + 54) μ r μ2 e2) (cwV 0 hts gL_law_X4_openAll rfl rfl rfl (by decide +kernel) ⟨Nat.le_of_ble_eq_true rfl, Nat.le_of_ble_eq_true rfl⟩) (rcv_X4 Z C.2) Z hS (fun q z => by have z := fr_iff.mp z; show s.heap.size ≤ q; omega) rfl hl.1 rfl (Nat.le_of_ble_eq_true rfl) dL_law_255 ⟨Nat.le_of_ble_eq_true rfl, Nat.le_of_ble_eq_true rfl⟩ (fun H2 locs Z2 hS hz hf => ?_)
        have X := X.keep hf (fun q h1 h2 z => by have z := fr_iff.mp z; omega)
        show W p l e _ s m _ below meth c H2 locs 61 2600 _ (F0 m 258 ls [.int r, .int r])
        refine lv_icmp_eq (tgt := 590) hx hb dL_law_258 (by decide) (fun _ => ?_) (fun c9 => absurd rfl c9)
        exact tail590 x2 μ2 _ _ ls hR X Z2 hS hl
      by_cases c7 : sw = 5
      · refine rowTab (K := 5) (off := 231) (tgt := 263) hx hb c7 dL_law_32 (by decide) (by decide) (by decide) (by decide) ?_
        obtain ⟨r, x2, μ2, e1, e2, hR⟩ := q_set hR (xs (nI i + 1).toNatClampNeg) (xs (nI i + 2).toNatClampNeg)
        refine lv_aload_n hx hb dL_law_263 rfl (lv_at hl 1 rfl) ?_
        refine lv_aload_n hx hb dL_law_264 rfl (lv_at hl 0 rfl) ?_
        refine lv_iload_n hx hb dL_law_265 rfl (lv_at hl 3 rfl) ?_
        refine lv_iconst (v := 1) hx hb dL_law_266 (by decide) ?_
        refine lv_iadd hx hb dL_law_267 ?_
        refine va_sld hx hb hX hbl hbA hS (vin 1 (by decide)) dL_law_268 ?_
        refine lv_aload_n hx hb dL_law_269 rfl (lv_at hl 0 rfl) ?_
        refine lv_iload_n hx hb dL_law_270 rfl (lv_at hl 3 rfl) ?_
        refine lv_iconst (v := 2) hx hb dL_law_271 (by decide) ?_
        refine lv_iadd hx hb dL_law_272 ?_
        refine va_sld hx hb hX hbl hbA hS (vin 2 (by decide)) dL_law_273 ?_
        refine rowWs (As := [.int (xs (nI i + 1).toNatClampNeg), .int (xs (nI i + 2).toNatClampNeg)]) (rest := []) C (kX3_set l G (fun q => s.heap.size ≤ q) s.heap.size x (xs (nI i + 1).toNatClampNeg) (xs (nI i + 2).toNatClampNeg) r x2 (fun q z => (fr_iff.mp z).1) e1) (cwV 2 hts gL_law_X3_set rfl rfl rfl (by decide +kernel) ⟨Nat.le_of_ble_eq_true rfl, Nat.le_of_ble_eq_true rfl⟩) (rcv_X3 X C.2) X (hst.kept (fun q h1 h2 => hS.2.1 q h1 h2)) hS (fun q z => (fr_iff.mp z).1) rfl hl.1 rfl (Nat.le_of_ble_eq_true rfl) dL_law_274 ⟨Nat.le_of_ble_eq_true rfl, Nat.le_of_ble_eq_true rfl⟩ (fun H1 locs X2 hS hz hf => ?_)
        have Z2 : mAt G (s.heap.size + 54) μ H1 := Z.keep hf (fun q h1 h2 z => by have z := fr_iff.mp z; omega)
        clear X Z hf hz
        have X := X2
        have Z := Z2
        show W p l e _ s m _ below meth c H1 locs 61 2600 _ (F0 m 277 ls [.int r])
        refine lv_aload_n hx hb dL_law_277 rfl (lv_at hl 2 rfl) ?_
        refine lv_aload_n hx hb dL_law_278 rfl (lv_at hl 0 rfl) ?_
        refine lv_iload_n hx hb dL_law_279 rfl (lv_at hl 3 rfl) ?_
        refine lv_iconst (v := 1) hx hb dL_law_280 (by decide) ?_
        refine lv_iadd hx hb dL_law_281 ?_
        refine va_sld hx hb hX hbl hbA hS (vin 1 (by decide)) dL_law_282 ?_
        refine lv_aload_n hx hb dL_law_283 rfl (lv_at hl 0 rfl) ?_
        refine lv_iload_n hx hb dL_law_284 rfl (lv_at hl 3 rfl) ?_
        refine lv_iconst (v := 2) hx hb dL_law_285 (by decide) ?_
        refine lv_iadd hx hb dL_law_286 ?_
        refine va_sld hx hb hX hbl hbA hS (vin 2 (by decide)) dL_law_287 ?_
        refine rowW (As := [.int (xs (nI i + 1).toNatClampNeg), .int (xs (nI i + 2).toNatClampNeg)]) (rest := [.int r]) C (kX4_set l G (s.heap.size + 54) μ (xs (nI i + 1).toNatClampNeg) (xs (nI i + 2).toNatClampNeg) r μ2 e2) (cwV 2 hts gL_law_X4_set rfl rfl rfl (by decide +kernel) ⟨Nat.le_of_ble_eq_true rfl, Nat.le_of_ble_eq_true rfl⟩) (rcv_X4 Z C.2) Z hS (fun q z => by have z := fr_iff.mp z; show s.heap.size ≤ q; omega) rfl hl.1 rfl (Nat.le_of_ble_eq_true rfl) dL_law_288 ⟨Nat.le_of_ble_eq_true rfl, Nat.le_of_ble_eq_true rfl⟩ (fun H2 locs Z2 hS hz hf => ?_)
        have X := X.keep hf (fun q h1 h2 z => by have z := fr_iff.mp z; omega)
        show W p l e _ s m _ below meth c H2 locs 61 2600 _ (F0 m 291 ls [.int r, .int r])
        refine lv_icmp_eq (tgt := 590) hx hb dL_law_291 (by decide) (fun _ => ?_) (fun c9 => absurd rfl c9)
        exact tail590 x2 μ2 _ _ ls hR X Z2 hS hl
      by_cases c8 : sw = 6
      · refine rowTab (K := 6) (off := 264) (tgt := 296) hx hb c8 dL_law_32 (by decide) (by decide) (by decide) (by decide) ?_
        obtain ⟨r, x2, μ2, e1, e2, hR⟩ := q_type hR ((xs (nI i + 1).toNatClampNeg).toUInt32 % 65536).toInt32 (char_w _)
        refine lv_aload_n hx hb dL_law_296 rfl (lv_at hl 1 rfl) ?_
        refine lv_aload_n hx hb dL_law_297 rfl (lv_at hl 0 rfl) ?_
        refine lv_iload_n hx hb dL_law_298 rfl (lv_at hl 3 rfl) ?_
        refine lv_iconst (v := 1) hx hb dL_law_299 (by decide) ?_
        refine lv_iadd hx hb dL_law_300 ?_
        refine va_sld hx hb hX hbl hbA hS (vin 1 (by decide)) dL_law_301 ?_
        refine lv_i2c hx hb dL_law_302 rfl ?_
        refine rowW (As := [.int ((xs (nI i + 1).toNatClampNeg).toUInt32 % 65536).toInt32]) (rest := []) C (kX3_type l G s.heap.size x ((xs (nI i + 1).toNatClampNeg).toUInt32 % 65536).toInt32 r x2 e1) (cwV 1 hts gL_law_X3_type rfl rfl rfl (by decide +kernel) ⟨Nat.le_of_ble_eq_true rfl, Nat.le_of_ble_eq_true rfl⟩) (rcv_X3 X C.2) X hS (fun q z => (fr_iff.mp z).1) rfl hl.1 rfl (Nat.le_of_ble_eq_true rfl) dL_law_303 ⟨Nat.le_of_ble_eq_true rfl, Nat.le_of_ble_eq_true rfl⟩ (fun H1 locs X2 hS hz hf => ?_)
        have Z2 : mAt G (s.heap.size + 54) μ H1 := Z.keep hf (fun q h1 h2 z => by have z := fr_iff.mp z; omega)
        clear X Z hf hz
        have X := X2
        have Z := Z2
        show W p l e _ s m _ below meth c H1 locs 61 2600 _ (F0 m 306 ls [.int r])
        refine lv_aload_n hx hb dL_law_306 rfl (lv_at hl 2 rfl) ?_
        refine lv_aload_n hx hb dL_law_307 rfl (lv_at hl 0 rfl) ?_
        refine lv_iload_n hx hb dL_law_308 rfl (lv_at hl 3 rfl) ?_
        refine lv_iconst (v := 1) hx hb dL_law_309 (by decide) ?_
        refine lv_iadd hx hb dL_law_310 ?_
        refine va_sld hx hb hX hbl hbA hS (vin 1 (by decide)) dL_law_311 ?_
        refine lv_i2c hx hb dL_law_312 rfl ?_
        refine rowW (As := [.int ((xs (nI i + 1).toNatClampNeg).toUInt32 % 65536).toInt32]) (rest := [.int r]) C (kX4_type l G (s.heap.size + 54) μ ((xs (nI i + 1).toNatClampNeg).toUInt32 % 65536).toInt32 r μ2 e2) (cwV 1 hts gL_law_X4_type rfl rfl rfl (by decide +kernel) ⟨Nat.le_of_ble_eq_true rfl, Nat.le_of_ble_eq_true rfl⟩) (rcv_X4 Z C.2) Z hS (fun q z => by have z := fr_iff.mp z; show s.heap.size ≤ q; omega) rfl hl.1 rfl (Nat.le_of_ble_eq_true rfl) dL_law_313 ⟨Nat.le_of_ble_eq_true rfl, Nat.le_of_ble_eq_true rfl⟩ (fun H2 locs Z2 hS hz hf => ?_)
        have X := X.keep hf (fun q h1 h2 z => by have z := fr_iff.mp z; omega)
        show W p l e _ s m _ below meth c H2 locs 61 2600 _ (F0 m 316 ls [.int r, .int r])
        refine lv_icmp_eq (tgt := 590) hx hb dL_law_316 (by decide) (fun _ => ?_) (fun c9 => absurd rfl c9)
        exact tail590 x2 μ2 _ _ ls hR X Z2 hS hl
      by_cases c9 : sw = 7
      · refine rowTab (K := 7) (off := 289) (tgt := 321) hx hb c9 dL_law_32 (by decide) (by decide) (by decide) (by decide) ?_
        obtain ⟨r, x2, μ2, e1, e2, hR⟩ := q_clearText hR
        refine lv_aload_n hx hb dL_law_321 rfl (lv_at hl 1 rfl) ?_
        refine rowW (As := []) (rest := []) C (kX3_clearText l G s.heap.size x r x2 e1) (cwV 0 hts gL_law_X3_clearText rfl rfl rfl (by decide +kernel) ⟨Nat.le_of_ble_eq_true rfl, Nat.le_of_ble_eq_true rfl⟩) (rcv_X3 X C.2) X hS (fun q z => (fr_iff.mp z).1) rfl hl.1 rfl (Nat.le_of_ble_eq_true rfl) dL_law_322 ⟨Nat.le_of_ble_eq_true rfl, Nat.le_of_ble_eq_true rfl⟩ (fun H1 locs X2 hS hz hf => ?_)
        have Z2 : mAt G (s.heap.size + 54) μ H1 := Z.keep hf (fun q h1 h2 z => by have z := fr_iff.mp z; omega)
        clear X Z hf hz
        have X := X2
        have Z := Z2
        show W p l e _ s m _ below meth c H1 locs 61 2600 _ (F0 m 325 ls [.int r])
        refine lv_aload_n hx hb dL_law_325 rfl (lv_at hl 2 rfl) ?_
        refine rowW (As := []) (rest := [.int r]) C (kX4_clearText l G (s.heap.size + 54) μ r μ2 e2) (cwV 0 hts gL_law_X4_clearText rfl rfl rfl (by decide +kernel) ⟨Nat.le_of_ble_eq_true rfl, Nat.le_of_ble_eq_true rfl⟩) (rcv_X4 Z C.2) Z hS (fun q z => by have z := fr_iff.mp z; show s.heap.size ≤ q; omega) rfl hl.1 rfl (Nat.le_of_ble_eq_true rfl) dL_law_326 ⟨Nat.le_of_ble_eq_true rfl, Nat.le_of_ble_eq_true rfl⟩ (fun H2 locs Z2 hS hz hf => ?_)
        have X := X.keep hf (fun q h1 h2 z => by have z := fr_iff.mp z; omega)
        show W p l e _ s m _ below meth c H2 locs 61 2600 _ (F0 m 329 ls [.int r, .int r])
        refine lv_icmp_eq (tgt := 590) hx hb dL_law_329 (by decide) (fun _ => ?_) (fun c9 => absurd rfl c9)
        exact tail590 x2 μ2 _ _ ls hR X Z2 hS hl
      by_cases c10 : sw = 8
      · refine rowTab (K := 8) (off := 302) (tgt := 334) hx hb c10 dL_law_32 (by decide) (by decide) (by decide) (by decide) ?_
        obtain ⟨r, x2, μ2, e1, e2, hR⟩ := q_perform hR
        refine lv_aload_n hx hb dL_law_334 rfl (lv_at hl 1 rfl) ?_
        refine rowW (As := []) (rest := []) C (kX3_perform l G s.heap.size x r x2 e1) (cwV 0 hts gL_law_X3_perform rfl rfl rfl (by decide +kernel) ⟨Nat.le_of_ble_eq_true rfl, Nat.le_of_ble_eq_true rfl⟩) (rcv_X3 X C.2) X hS (fun q z => (fr_iff.mp z).1) rfl hl.1 rfl (Nat.le_of_ble_eq_true rfl) dL_law_335 ⟨Nat.le_of_ble_eq_true rfl, Nat.le_of_ble_eq_true rfl⟩ (fun H1 locs X2 hS hz hf => ?_)
        have Z2 : mAt G (s.heap.size + 54) μ H1 := Z.keep hf (fun q h1 h2 z => by have z := fr_iff.mp z; omega)
        clear X Z hf hz
        have X := X2
        have Z := Z2
        show W p l e _ s m _ below meth c H1 locs 61 2600 _ (F0 m 338 ls [.int r])
        refine lv_aload_n hx hb dL_law_338 rfl (lv_at hl 2 rfl) ?_
        refine rowW (As := []) (rest := [.int r]) C (kX4_perform l G (s.heap.size + 54) μ r μ2 e2) (cwV 0 hts gL_law_X4_perform rfl rfl rfl (by decide +kernel) ⟨Nat.le_of_ble_eq_true rfl, Nat.le_of_ble_eq_true rfl⟩) (rcv_X4 Z C.2) Z hS (fun q z => by have z := fr_iff.mp z; show s.heap.size ≤ q; omega) rfl hl.1 rfl (Nat.le_of_ble_eq_true rfl) dL_law_339 ⟨Nat.le_of_ble_eq_true rfl, Nat.le_of_ble_eq_true rfl⟩ (fun H2 locs Z2 hS hz hf => ?_)
        have X := X.keep hf (fun q h1 h2 z => by have z := fr_iff.mp z; omega)
        show W p l e _ s m _ below meth c H2 locs 61 2600 _ (F0 m 342 ls [.int r, .int r])
        refine lv_icmp_eq (tgt := 590) hx hb dL_law_342 (by decide) (fun _ => ?_) (fun c9 => absurd rfl c9)
        exact tail590 x2 μ2 _ _ ls hR X Z2 hS hl
      by_cases c11 : sw = 9
      · refine rowTab (K := 9) (off := 315) (tgt := 347) hx hb c11 dL_law_32 (by decide) (by decide) (by decide) (by decide) ?_
        obtain ⟨r, x2, μ2, e1, e2, hR⟩ := q_undo hR
        refine lv_aload_n hx hb dL_law_347 rfl (lv_at hl 1 rfl) ?_
        refine rowW (As := []) (rest := []) C (kX3_undo l G s.heap.size x r x2 e1) (cwV 0 hts gL_law_X3_undo rfl rfl rfl (by decide +kernel) ⟨Nat.le_of_ble_eq_true rfl, Nat.le_of_ble_eq_true rfl⟩) (rcv_X3 X C.2) X hS (fun q z => (fr_iff.mp z).1) rfl hl.1 rfl (Nat.le_of_ble_eq_true rfl) dL_law_348 ⟨Nat.le_of_ble_eq_true rfl, Nat.le_of_ble_eq_true rfl⟩ (fun H1 locs X2 hS hz hf => ?_)
        have Z2 : mAt G (s.heap.size + 54) μ H1 := Z.keep hf (fun q h1 h2 z => by have z := fr_iff.mp z; omega)
        clear X Z hf hz
        have X := X2
        have Z := Z2
        show W p l e _ s m _ below meth c H1 locs 61 2600 _ (F0 m 351 ls [.int r])
        refine lv_aload_n hx hb dL_law_351 rfl (lv_at hl 2 rfl) ?_
        refine rowW (As := []) (rest := [.int r]) C (kX4_undo l G (s.heap.size + 54) μ r μ2 e2) (cwV 0 hts gL_law_X4_undo rfl rfl rfl (by decide +kernel) ⟨Nat.le_of_ble_eq_true rfl, Nat.le_of_ble_eq_true rfl⟩) (rcv_X4 Z C.2) Z hS (fun q z => by have z := fr_iff.mp z; show s.heap.size ≤ q; omega) rfl hl.1 rfl (Nat.le_of_ble_eq_true rfl) dL_law_352 ⟨Nat.le_of_ble_eq_true rfl, Nat.le_of_ble_eq_true rfl⟩ (fun H2 locs Z2 hS hz hf => ?_)
        have X := X.keep hf (fun q h1 h2 z => by have z := fr_iff.mp z; omega)
        show W p l e _ s m _ below meth c H2 locs 61 2600 _ (F0 m 355 ls [.int r, .int r])
        refine lv_icmp_eq (tgt := 590) hx hb dL_law_355 (by decide) (fun _ => ?_) (fun c9 => absurd rfl c9)
        exact tail590 x2 μ2 _ _ ls hR X Z2 hS hl
      by_cases c12 : sw = 10
      · refine rowTab (K := 10) (off := 328) (tgt := 360) hx hb c12 dL_law_32 (by decide) (by decide) (by decide) (by decide) ?_
        obtain ⟨r, x2, μ2, e1, e2, hR⟩ := q_keep hR
        refine lv_aload_n hx hb dL_law_360 rfl (lv_at hl 1 rfl) ?_
        refine rowW (As := []) (rest := []) C (kX3_keep l G s.heap.size x r x2 e1) (cwV 0 hts gL_law_X3_keep rfl rfl rfl (by decide +kernel) ⟨Nat.le_of_ble_eq_true rfl, Nat.le_of_ble_eq_true rfl⟩) (rcv_X3 X C.2) X hS (fun q z => (fr_iff.mp z).1) rfl hl.1 rfl (Nat.le_of_ble_eq_true rfl) dL_law_361 ⟨Nat.le_of_ble_eq_true rfl, Nat.le_of_ble_eq_true rfl⟩ (fun H1 locs X2 hS hz hf => ?_)
        have Z2 : mAt G (s.heap.size + 54) μ H1 := Z.keep hf (fun q h1 h2 z => by have z := fr_iff.mp z; omega)
        clear X Z hf hz
        have X := X2
        have Z := Z2
        show W p l e _ s m _ below meth c H1 locs 61 2600 _ (F0 m 364 ls [.int r])
        refine lv_aload_n hx hb dL_law_364 rfl (lv_at hl 2 rfl) ?_
        refine rowW (As := []) (rest := [.int r]) C (kX4_keep l G (s.heap.size + 54) μ r μ2 e2) (cwV 0 hts gL_law_X4_keep rfl rfl rfl (by decide +kernel) ⟨Nat.le_of_ble_eq_true rfl, Nat.le_of_ble_eq_true rfl⟩) (rcv_X4 Z C.2) Z hS (fun q z => by have z := fr_iff.mp z; show s.heap.size ≤ q; omega) rfl hl.1 rfl (Nat.le_of_ble_eq_true rfl) dL_law_365 ⟨Nat.le_of_ble_eq_true rfl, Nat.le_of_ble_eq_true rfl⟩ (fun H2 locs Z2 hS hz hf => ?_)
        have X := X.keep hf (fun q h1 h2 z => by have z := fr_iff.mp z; omega)
        show W p l e _ s m _ below meth c H2 locs 61 2600 _ (F0 m 368 ls [.int r, .int r])
        refine lv_icmp_eq (tgt := 590) hx hb dL_law_368 (by decide) (fun _ => ?_) (fun c9 => absurd rfl c9)
        exact tail590 x2 μ2 _ _ ls hR X Z2 hS hl
      by_cases c13 : sw = 11
      · refine rowTab (K := 11) (off := 341) (tgt := 373) hx hb c13 dL_law_32 (by decide) (by decide) (by decide) (by decide) ?_
        obtain ⟨r, x2, μ2, e1, e2, hR⟩ := q_restore hR
        refine lv_aload_n hx hb dL_law_373 rfl (lv_at hl 1 rfl) ?_
        refine rowW (As := []) (rest := []) C (kX3_restore l G s.heap.size x r x2 e1) (cwV 0 hts gL_law_X3_restore rfl rfl rfl (by decide +kernel) ⟨Nat.le_of_ble_eq_true rfl, Nat.le_of_ble_eq_true rfl⟩) (rcv_X3 X C.2) X hS (fun q z => (fr_iff.mp z).1) rfl hl.1 rfl (Nat.le_of_ble_eq_true rfl) dL_law_374 ⟨Nat.le_of_ble_eq_true rfl, Nat.le_of_ble_eq_true rfl⟩ (fun H1 locs X2 hS hz hf => ?_)
        have Z2 : mAt G (s.heap.size + 54) μ H1 := Z.keep hf (fun q h1 h2 z => by have z := fr_iff.mp z; omega)
        clear X Z hf hz
        have X := X2
        have Z := Z2
        show W p l e _ s m _ below meth c H1 locs 61 2600 _ (F0 m 377 ls [.int r])
        refine lv_aload_n hx hb dL_law_377 rfl (lv_at hl 2 rfl) ?_
        refine rowW (As := []) (rest := [.int r]) C (kX4_restore l G (s.heap.size + 54) μ r μ2 e2) (cwV 0 hts gL_law_X4_restore rfl rfl rfl (by decide +kernel) ⟨Nat.le_of_ble_eq_true rfl, Nat.le_of_ble_eq_true rfl⟩) (rcv_X4 Z C.2) Z hS (fun q z => by have z := fr_iff.mp z; show s.heap.size ≤ q; omega) rfl hl.1 rfl (Nat.le_of_ble_eq_true rfl) dL_law_378 ⟨Nat.le_of_ble_eq_true rfl, Nat.le_of_ble_eq_true rfl⟩ (fun H2 locs Z2 hS hz hf => ?_)
        have X := X.keep hf (fun q h1 h2 z => by have z := fr_iff.mp z; omega)
        show W p l e _ s m _ below meth c H2 locs 61 2600 _ (F0 m 381 ls [.int r, .int r])
        refine lv_icmp_eq (tgt := 590) hx hb dL_law_381 (by decide) (fun _ => ?_) (fun c9 => absurd rfl c9)
        exact tail590 x2 μ2 _ _ ls hR X Z2 hS hl
      by_cases c14 : sw = 12
      · refine rowTab (K := 12) (off := 354) (tgt := 386) hx hb c14 dL_law_32 (by decide) (by decide) (by decide) (by decide) ?_
        obtain ⟨r, μ2, e1, e2, hR⟩ := q_cart hR (xs (nI i + 1).toNatClampNeg) (xs (nI i + 2).toNatClampNeg)
        refine lv_aload_n hx hb dL_law_386 rfl (lv_at hl 1 rfl) ?_
        refine lv_aload_n hx hb dL_law_387 rfl (lv_at hl 0 rfl) ?_
        refine lv_iload_n hx hb dL_law_388 rfl (lv_at hl 3 rfl) ?_
        refine lv_iconst (v := 1) hx hb dL_law_389 (by decide) ?_
        refine lv_iadd hx hb dL_law_390 ?_
        refine va_sld hx hb hX hbl hbA hS (vin 1 (by decide)) dL_law_391 ?_
        refine lv_aload_n hx hb dL_law_392 rfl (lv_at hl 0 rfl) ?_
        refine lv_iload_n hx hb dL_law_393 rfl (lv_at hl 3 rfl) ?_
        refine lv_iconst (v := 2) hx hb dL_law_394 (by decide) ?_
        refine lv_iadd hx hb dL_law_395 ?_
        refine va_sld hx hb hX hbl hbA hS (vin 2 (by decide)) dL_law_396 ?_
        refine rowV (As := [.int (xs (nI i + 1).toNatClampNeg), .int (xs (nI i + 2).toNatClampNeg)]) (rest := []) C (kX3_cart l G s.heap.size x (xs (nI i + 1).toNatClampNeg) (xs (nI i + 2).toNatClampNeg) r e1) (cwV 2 hts gL_law_X3_cart rfl rfl rfl (by decide +kernel) ⟨Nat.le_of_ble_eq_true rfl, Nat.le_of_ble_eq_true rfl⟩) (rcv_X3 X C.2) X rfl hl.1 rfl (Nat.le_of_ble_eq_true rfl) dL_law_397 ⟨Nat.le_of_ble_eq_true rfl, Nat.le_of_ble_eq_true rfl⟩ ?_
        refine lv_aload_n hx hb dL_law_400 rfl (lv_at hl 2 rfl) ?_
        refine lv_aload_n hx hb dL_law_401 rfl (lv_at hl 0 rfl) ?_
        refine lv_iload_n hx hb dL_law_402 rfl (lv_at hl 3 rfl) ?_
        refine lv_iconst (v := 1) hx hb dL_law_403 (by decide) ?_
        refine lv_iadd hx hb dL_law_404 ?_
        refine va_sld hx hb hX hbl hbA hS (vin 1 (by decide)) dL_law_405 ?_
        refine lv_aload_n hx hb dL_law_406 rfl (lv_at hl 0 rfl) ?_
        refine lv_iload_n hx hb dL_law_407 rfl (lv_at hl 3 rfl) ?_
        refine lv_iconst (v := 2) hx hb dL_law_408 (by decide) ?_
        refine lv_iadd hx hb dL_law_409 ?_
        refine va_sld hx hb hX hbl hbA hS (vin 2 (by decide)) dL_law_410 ?_
        refine rowW (As := [.int (xs (nI i + 1).toNatClampNeg), .int (xs (nI i + 2).toNatClampNeg)]) (rest := [.int r]) C (kX4_cart l G (s.heap.size + 54) μ (xs (nI i + 1).toNatClampNeg) (xs (nI i + 2).toNatClampNeg) r μ2 e2) (cwV 2 hts gL_law_X4_cart rfl rfl rfl (by decide +kernel) ⟨Nat.le_of_ble_eq_true rfl, Nat.le_of_ble_eq_true rfl⟩) (rcv_X4 Z C.2) Z hS (fun q z => by have z := fr_iff.mp z; show s.heap.size ≤ q; omega) rfl hl.1 rfl (Nat.le_of_ble_eq_true rfl) dL_law_411 ⟨Nat.le_of_ble_eq_true rfl, Nat.le_of_ble_eq_true rfl⟩ (fun H2 locs Z2 hS hz hf => ?_)
        have X := X.keep hf (fun q h1 h2 z => by have z := fr_iff.mp z; omega)
        show W p l e _ s m _ below meth c H2 locs 61 2600 _ (F0 m 414 ls [.int r, .int r])
        refine lv_icmp_eq (tgt := 590) hx hb dL_law_414 (by decide) (fun _ => ?_) (fun c9 => absurd rfl c9)
        exact tail590 x μ2 _ _ ls hR X Z2 hS hl
      by_cases c15 : sw = 13
      · refine rowTab (K := 13) (off := 387) (tgt := 419) hx hb c15 dL_law_32 (by decide) (by decide) (by decide) (by decide) ?_
        obtain ⟨r, μ2, e1, e2, hR⟩ := q_chain hR (xs (nI i + 1).toNatClampNeg) (xs (nI i + 2).toNatClampNeg)
        refine lv_aload_n hx hb dL_law_419 rfl (lv_at hl 1 rfl) ?_
        refine lv_aload_n hx hb dL_law_420 rfl (lv_at hl 0 rfl) ?_
        refine lv_iload_n hx hb dL_law_421 rfl (lv_at hl 3 rfl) ?_
        refine lv_iconst (v := 1) hx hb dL_law_422 (by decide) ?_
        refine lv_iadd hx hb dL_law_423 ?_
        refine va_sld hx hb hX hbl hbA hS (vin 1 (by decide)) dL_law_424 ?_
        refine lv_aload_n hx hb dL_law_425 rfl (lv_at hl 0 rfl) ?_
        refine lv_iload_n hx hb dL_law_426 rfl (lv_at hl 3 rfl) ?_
        refine lv_iconst (v := 2) hx hb dL_law_427 (by decide) ?_
        refine lv_iadd hx hb dL_law_428 ?_
        refine va_sld hx hb hX hbl hbA hS (vin 2 (by decide)) dL_law_429 ?_
        refine rowV (As := [.int (xs (nI i + 1).toNatClampNeg), .int (xs (nI i + 2).toNatClampNeg)]) (rest := []) C (kX3_chain l G s.heap.size x (xs (nI i + 1).toNatClampNeg) (xs (nI i + 2).toNatClampNeg) r e1) (cwV 2 hts gL_law_X3_chain rfl rfl rfl (by decide +kernel) ⟨Nat.le_of_ble_eq_true rfl, Nat.le_of_ble_eq_true rfl⟩) (rcv_X3 X C.2) X rfl hl.1 rfl (Nat.le_of_ble_eq_true rfl) dL_law_430 ⟨Nat.le_of_ble_eq_true rfl, Nat.le_of_ble_eq_true rfl⟩ ?_
        refine lv_aload_n hx hb dL_law_433 rfl (lv_at hl 2 rfl) ?_
        refine lv_aload_n hx hb dL_law_434 rfl (lv_at hl 0 rfl) ?_
        refine lv_iload_n hx hb dL_law_435 rfl (lv_at hl 3 rfl) ?_
        refine lv_iconst (v := 1) hx hb dL_law_436 (by decide) ?_
        refine lv_iadd hx hb dL_law_437 ?_
        refine va_sld hx hb hX hbl hbA hS (vin 1 (by decide)) dL_law_438 ?_
        refine lv_aload_n hx hb dL_law_439 rfl (lv_at hl 0 rfl) ?_
        refine lv_iload_n hx hb dL_law_440 rfl (lv_at hl 3 rfl) ?_
        refine lv_iconst (v := 2) hx hb dL_law_441 (by decide) ?_
        refine lv_iadd hx hb dL_law_442 ?_
        refine va_sld hx hb hX hbl hbA hS (vin 2 (by decide)) dL_law_443 ?_
        refine rowW (As := [.int (xs (nI i + 1).toNatClampNeg), .int (xs (nI i + 2).toNatClampNeg)]) (rest := [.int r]) C (kX4_chain l G (s.heap.size + 54) μ (xs (nI i + 1).toNatClampNeg) (xs (nI i + 2).toNatClampNeg) r μ2 e2) (cwV 2 hts gL_law_X4_chain rfl rfl rfl (by decide +kernel) ⟨Nat.le_of_ble_eq_true rfl, Nat.le_of_ble_eq_true rfl⟩) (rcv_X4 Z C.2) Z hS (fun q z => by have z := fr_iff.mp z; show s.heap.size ≤ q; omega) rfl hl.1 rfl (Nat.le_of_ble_eq_true rfl) dL_law_444 ⟨Nat.le_of_ble_eq_true rfl, Nat.le_of_ble_eq_true rfl⟩ (fun H2 locs Z2 hS hz hf => ?_)
        have X := X.keep hf (fun q h1 h2 z => by have z := fr_iff.mp z; omega)
        show W p l e _ s m _ below meth c H2 locs 61 2600 _ (F0 m 447 ls [.int r, .int r])
        refine lv_icmp_eq (tgt := 590) hx hb dL_law_447 (by decide) (fun _ => ?_) (fun c9 => absurd rfl c9)
        exact tail590 x μ2 _ _ ls hR X Z2 hS hl
      by_cases c16 : sw = 14
      · refine rowTab (K := 14) (off := 420) (tgt := 452) hx hb c16 dL_law_32 (by decide) (by decide) (by decide) (by decide) ?_
        obtain ⟨r, μ2, e1, e2, hR⟩ := q_brokenIn hR (xs (nI i + 1).toNatClampNeg)
        refine lv_aload_n hx hb dL_law_452 rfl (lv_at hl 1 rfl) ?_
        refine lv_aload_n hx hb dL_law_453 rfl (lv_at hl 0 rfl) ?_
        refine lv_iload_n hx hb dL_law_454 rfl (lv_at hl 3 rfl) ?_
        refine lv_iconst (v := 1) hx hb dL_law_455 (by decide) ?_
        refine lv_iadd hx hb dL_law_456 ?_
        refine va_sld hx hb hX hbl hbA hS (vin 1 (by decide)) dL_law_457 ?_
        refine rowV (As := [.int (xs (nI i + 1).toNatClampNeg)]) (rest := []) C (kX3_brokenIn l G s.heap.size x (xs (nI i + 1).toNatClampNeg) r e1) (cwV 1 hts gL_law_X3_brokenIn rfl rfl rfl (by decide +kernel) ⟨Nat.le_of_ble_eq_true rfl, Nat.le_of_ble_eq_true rfl⟩) (rcv_X3 X C.2) X rfl hl.1 rfl (Nat.le_of_ble_eq_true rfl) dL_law_458 ⟨Nat.le_of_ble_eq_true rfl, Nat.le_of_ble_eq_true rfl⟩ ?_
        refine lv_aload_n hx hb dL_law_461 rfl (lv_at hl 2 rfl) ?_
        refine lv_aload_n hx hb dL_law_462 rfl (lv_at hl 0 rfl) ?_
        refine lv_iload_n hx hb dL_law_463 rfl (lv_at hl 3 rfl) ?_
        refine lv_iconst (v := 1) hx hb dL_law_464 (by decide) ?_
        refine lv_iadd hx hb dL_law_465 ?_
        refine va_sld hx hb hX hbl hbA hS (vin 1 (by decide)) dL_law_466 ?_
        refine rowW (As := [.int (xs (nI i + 1).toNatClampNeg)]) (rest := [.int r]) C (kX4_brokenIn l G (s.heap.size + 54) μ (xs (nI i + 1).toNatClampNeg) r μ2 e2) (cwV 1 hts gL_law_X4_brokenIn rfl rfl rfl (by decide +kernel) ⟨Nat.le_of_ble_eq_true rfl, Nat.le_of_ble_eq_true rfl⟩) (rcv_X4 Z C.2) Z hS (fun q z => by have z := fr_iff.mp z; show s.heap.size ≤ q; omega) rfl hl.1 rfl (Nat.le_of_ble_eq_true rfl) dL_law_467 ⟨Nat.le_of_ble_eq_true rfl, Nat.le_of_ble_eq_true rfl⟩ (fun H2 locs Z2 hS hz hf => ?_)
        have X := X.keep hf (fun q h1 h2 z => by have z := fr_iff.mp z; omega)
        show W p l e _ s m _ below meth c H2 locs 61 2600 _ (F0 m 470 ls [.int r, .int r])
        refine lv_icmp_eq (tgt := 590) hx hb dL_law_470 (by decide) (fun _ => ?_) (fun c9 => absurd rfl c9)
        exact tail590 x μ2 _ _ ls hR X Z2 hS hl
      by_cases c17 : sw = 15
      · refine rowTab (K := 15) (off := 443) (tgt := 475) hx hb c17 dL_law_32 (by decide) (by decide) (by decide) (by decide) ?_
        obtain ⟨r, μ2, e1, e2, hR⟩ := q_total hR (xs (nI i + 1).toNatClampNeg)
        refine lv_aload_n hx hb dL_law_475 rfl (lv_at hl 1 rfl) ?_
        refine lv_aload_n hx hb dL_law_476 rfl (lv_at hl 0 rfl) ?_
        refine lv_iload_n hx hb dL_law_477 rfl (lv_at hl 3 rfl) ?_
        refine lv_iconst (v := 1) hx hb dL_law_478 (by decide) ?_
        refine lv_iadd hx hb dL_law_479 ?_
        refine va_sld hx hb hX hbl hbA hS (vin 1 (by decide)) dL_law_480 ?_
        refine rowV (As := [.int (xs (nI i + 1).toNatClampNeg)]) (rest := []) C (kX3_total l G s.heap.size x (xs (nI i + 1).toNatClampNeg) r e1) (cwV 1 hts gL_law_X3_total rfl rfl rfl (by decide +kernel) ⟨Nat.le_of_ble_eq_true rfl, Nat.le_of_ble_eq_true rfl⟩) (rcv_X3 X C.2) X rfl hl.1 rfl (Nat.le_of_ble_eq_true rfl) dL_law_481 ⟨Nat.le_of_ble_eq_true rfl, Nat.le_of_ble_eq_true rfl⟩ ?_
        refine lv_aload_n hx hb dL_law_484 rfl (lv_at hl 2 rfl) ?_
        refine lv_aload_n hx hb dL_law_485 rfl (lv_at hl 0 rfl) ?_
        refine lv_iload_n hx hb dL_law_486 rfl (lv_at hl 3 rfl) ?_
        refine lv_iconst (v := 1) hx hb dL_law_487 (by decide) ?_
        refine lv_iadd hx hb dL_law_488 ?_
        refine va_sld hx hb hX hbl hbA hS (vin 1 (by decide)) dL_law_489 ?_
        refine rowW (As := [.int (xs (nI i + 1).toNatClampNeg)]) (rest := [.int r]) C (kX4_total l G (s.heap.size + 54) μ (xs (nI i + 1).toNatClampNeg) r μ2 e2) (cwV 1 hts gL_law_X4_total rfl rfl rfl (by decide +kernel) ⟨Nat.le_of_ble_eq_true rfl, Nat.le_of_ble_eq_true rfl⟩) (rcv_X4 Z C.2) Z hS (fun q z => by have z := fr_iff.mp z; show s.heap.size ≤ q; omega) rfl hl.1 rfl (Nat.le_of_ble_eq_true rfl) dL_law_490 ⟨Nat.le_of_ble_eq_true rfl, Nat.le_of_ble_eq_true rfl⟩ (fun H2 locs Z2 hS hz hf => ?_)
        have X := X.keep hf (fun q h1 h2 z => by have z := fr_iff.mp z; omega)
        show W p l e _ s m _ below meth c H2 locs 61 2600 _ (F0 m 493 ls [.int r, .int r])
        refine lv_icmp_eq (tgt := 590) hx hb dL_law_493 (by decide) (fun _ => ?_) (fun c9 => absurd rfl c9)
        exact tail590 x μ2 _ _ ls hR X Z2 hS hl
      by_cases c18 : sw = 16
      · refine rowTab (K := 16) (off := 466) (tgt := 498) hx hb c18 dL_law_32 (by decide) (by decide) (by decide) (by decide) ?_
        obtain ⟨r, μ2, e1, e2, hR⟩ := q_ifOpened hR (xs (nI i + 1).toNatClampNeg) (xs (nI i + 2).toNatClampNeg)
        refine lv_aload_n hx hb dL_law_498 rfl (lv_at hl 1 rfl) ?_
        refine lv_aload_n hx hb dL_law_499 rfl (lv_at hl 0 rfl) ?_
        refine lv_iload_n hx hb dL_law_500 rfl (lv_at hl 3 rfl) ?_
        refine lv_iconst (v := 1) hx hb dL_law_501 (by decide) ?_
        refine lv_iadd hx hb dL_law_502 ?_
        refine va_sld hx hb hX hbl hbA hS (vin 1 (by decide)) dL_law_503 ?_
        refine lv_aload_n hx hb dL_law_504 rfl (lv_at hl 0 rfl) ?_
        refine lv_iload_n hx hb dL_law_505 rfl (lv_at hl 3 rfl) ?_
        refine lv_iconst (v := 2) hx hb dL_law_506 (by decide) ?_
        refine lv_iadd hx hb dL_law_507 ?_
        refine va_sld hx hb hX hbl hbA hS (vin 2 (by decide)) dL_law_508 ?_
        refine rowV (As := [.int (xs (nI i + 1).toNatClampNeg), .int (xs (nI i + 2).toNatClampNeg)]) (rest := []) C (kX3_ifOpened l G s.heap.size x (xs (nI i + 1).toNatClampNeg) (xs (nI i + 2).toNatClampNeg) r e1) (cwV 2 hts gL_law_X3_ifOpened rfl rfl rfl (by decide +kernel) ⟨Nat.le_of_ble_eq_true rfl, Nat.le_of_ble_eq_true rfl⟩) (rcv_X3 X C.2) X rfl hl.1 rfl (Nat.le_of_ble_eq_true rfl) dL_law_509 ⟨Nat.le_of_ble_eq_true rfl, Nat.le_of_ble_eq_true rfl⟩ ?_
        refine lv_aload_n hx hb dL_law_512 rfl (lv_at hl 2 rfl) ?_
        refine lv_aload_n hx hb dL_law_513 rfl (lv_at hl 0 rfl) ?_
        refine lv_iload_n hx hb dL_law_514 rfl (lv_at hl 3 rfl) ?_
        refine lv_iconst (v := 1) hx hb dL_law_515 (by decide) ?_
        refine lv_iadd hx hb dL_law_516 ?_
        refine va_sld hx hb hX hbl hbA hS (vin 1 (by decide)) dL_law_517 ?_
        refine lv_aload_n hx hb dL_law_518 rfl (lv_at hl 0 rfl) ?_
        refine lv_iload_n hx hb dL_law_519 rfl (lv_at hl 3 rfl) ?_
        refine lv_iconst (v := 2) hx hb dL_law_520 (by decide) ?_
        refine lv_iadd hx hb dL_law_521 ?_
        refine va_sld hx hb hX hbl hbA hS (vin 2 (by decide)) dL_law_522 ?_
        refine rowW (As := [.int (xs (nI i + 1).toNatClampNeg), .int (xs (nI i + 2).toNatClampNeg)]) (rest := [.int r]) C (kX4_ifOpened l G (s.heap.size + 54) μ (xs (nI i + 1).toNatClampNeg) (xs (nI i + 2).toNatClampNeg) r μ2 e2) (cwV 2 hts gL_law_X4_ifOpened rfl rfl rfl (by decide +kernel) ⟨Nat.le_of_ble_eq_true rfl, Nat.le_of_ble_eq_true rfl⟩) (rcv_X4 Z C.2) Z hS (fun q z => by have z := fr_iff.mp z; show s.heap.size ≤ q; omega) rfl hl.1 rfl (Nat.le_of_ble_eq_true rfl) dL_law_523 ⟨Nat.le_of_ble_eq_true rfl, Nat.le_of_ble_eq_true rfl⟩ (fun H2 locs Z2 hS hz hf => ?_)
        have X := X.keep hf (fun q h1 h2 z => by have z := fr_iff.mp z; omega)
        show W p l e _ s m _ below meth c H2 locs 61 2600 _ (F0 m 526 ls [.int r, .int r])
        refine lv_icmp_eq (tgt := 590) hx hb dL_law_526 (by decide) (fun _ => ?_) (fun c9 => absurd rfl c9)
        exact tail590 x μ2 _ _ ls hR X Z2 hS hl
      by_cases c19 : sw = 17
      · refine rowTab (K := 17) (off := 499) (tgt := 531) hx hb c19 dL_law_32 (by decide) (by decide) (by decide) (by decide) ?_
        obtain ⟨r, μ2, e1, e2, hR⟩ := q_fewestOpenings hR (xs (nI i + 1).toNatClampNeg)
        refine lv_aload_n hx hb dL_law_531 rfl (lv_at hl 1 rfl) ?_
        refine lv_aload_n hx hb dL_law_532 rfl (lv_at hl 0 rfl) ?_
        refine lv_iload_n hx hb dL_law_533 rfl (lv_at hl 3 rfl) ?_
        refine lv_iconst (v := 1) hx hb dL_law_534 (by decide) ?_
        refine lv_iadd hx hb dL_law_535 ?_
        refine va_sld hx hb hX hbl hbA hS (vin 1 (by decide)) dL_law_536 ?_
        refine rowV (As := [.int (xs (nI i + 1).toNatClampNeg)]) (rest := []) C (kX3_fewestOpenings l G s.heap.size x (xs (nI i + 1).toNatClampNeg) r e1) (cwV 1 hts gL_law_X3_fewestOpenings rfl rfl rfl (by decide +kernel) ⟨Nat.le_of_ble_eq_true rfl, Nat.le_of_ble_eq_true rfl⟩) (rcv_X3 X C.2) X rfl hl.1 rfl (Nat.le_of_ble_eq_true rfl) dL_law_537 ⟨Nat.le_of_ble_eq_true rfl, Nat.le_of_ble_eq_true rfl⟩ ?_
        refine lv_aload_n hx hb dL_law_540 rfl (lv_at hl 2 rfl) ?_
        refine lv_aload_n hx hb dL_law_541 rfl (lv_at hl 0 rfl) ?_
        refine lv_iload_n hx hb dL_law_542 rfl (lv_at hl 3 rfl) ?_
        refine lv_iconst (v := 1) hx hb dL_law_543 (by decide) ?_
        refine lv_iadd hx hb dL_law_544 ?_
        refine va_sld hx hb hX hbl hbA hS (vin 1 (by decide)) dL_law_545 ?_
        refine rowW (As := [.int (xs (nI i + 1).toNatClampNeg)]) (rest := [.int r]) C (kX4_fewestOpenings l G (s.heap.size + 54) μ (xs (nI i + 1).toNatClampNeg) r μ2 e2) (cwV 1 hts gL_law_X4_fewestOpenings rfl rfl rfl (by decide +kernel) ⟨Nat.le_of_ble_eq_true rfl, Nat.le_of_ble_eq_true rfl⟩) (rcv_X4 Z C.2) Z hS (fun q z => by have z := fr_iff.mp z; show s.heap.size ≤ q; omega) rfl hl.1 rfl (Nat.le_of_ble_eq_true rfl) dL_law_546 ⟨Nat.le_of_ble_eq_true rfl, Nat.le_of_ble_eq_true rfl⟩ (fun H2 locs Z2 hS hz hf => ?_)
        have X := X.keep hf (fun q h1 h2 z => by have z := fr_iff.mp z; omega)
        show W p l e _ s m _ below meth c H2 locs 61 2600 _ (F0 m 549 ls [.int r, .int r])
        refine lv_icmp_eq (tgt := 590) hx hb dL_law_549 (by decide) (fun _ => ?_) (fun c9 => absurd rfl c9)
        exact tail590 x μ2 _ _ ls hR X Z2 hS hl
      by_cases c20 : sw = 18
      · refine rowTab (K := 18) (off := 522) (tgt := 554) hx hb c20 dL_law_32 (by decide) (by decide) (by decide) (by decide) ?_
        obtain ⟨r, μ2, e1, e2, hR⟩ := q_bestOpening hR
        refine lv_aload_n hx hb dL_law_554 rfl (lv_at hl 1 rfl) ?_
        refine rowV (As := []) (rest := []) C (kX3_bestOpening l G s.heap.size x r e1) (cwV 0 hts gL_law_X3_bestOpening rfl rfl rfl (by decide +kernel) ⟨Nat.le_of_ble_eq_true rfl, Nat.le_of_ble_eq_true rfl⟩) (rcv_X3 X C.2) X rfl hl.1 rfl (Nat.le_of_ble_eq_true rfl) dL_law_555 ⟨Nat.le_of_ble_eq_true rfl, Nat.le_of_ble_eq_true rfl⟩ ?_
        refine lv_aload_n hx hb dL_law_558 rfl (lv_at hl 2 rfl) ?_
        refine rowW (As := []) (rest := [.int r]) C (kX4_bestOpening l G (s.heap.size + 54) μ r μ2 e2) (cwV 0 hts gL_law_X4_bestOpening rfl rfl rfl (by decide +kernel) ⟨Nat.le_of_ble_eq_true rfl, Nat.le_of_ble_eq_true rfl⟩) (rcv_X4 Z C.2) Z hS (fun q z => by have z := fr_iff.mp z; show s.heap.size ≤ q; omega) rfl hl.1 rfl (Nat.le_of_ble_eq_true rfl) dL_law_559 ⟨Nat.le_of_ble_eq_true rfl, Nat.le_of_ble_eq_true rfl⟩ (fun H2 locs Z2 hS hz hf => ?_)
        have X := X.keep hf (fun q h1 h2 z => by have z := fr_iff.mp z; omega)
        show W p l e _ s m _ below meth c H2 locs 61 2600 _ (F0 m 562 ls [.int r, .int r])
        refine lv_icmp_eq (tgt := 590) hx hb dL_law_562 (by decide) (fun _ => ?_) (fun c9 => absurd rfl c9)
        exact tail590 x μ2 _ _ ls hR X Z2 hS hl
      by_cases c21 : sw = 19
      · refine rowTab (K := 19) (off := 535) (tgt := 567) hx hb c21 dL_law_32 (by decide) (by decide) (by decide) (by decide) ?_
        obtain ⟨r, μ2, e1, e2, hR⟩ := q_sameSeal hR (xs (nI i + 1).toNatClampNeg)
        refine lv_aload_n hx hb dL_law_567 rfl (lv_at hl 1 rfl) ?_
        refine lv_aload_n hx hb dL_law_568 rfl (lv_at hl 0 rfl) ?_
        refine lv_iload_n hx hb dL_law_569 rfl (lv_at hl 3 rfl) ?_
        refine lv_iconst (v := 1) hx hb dL_law_570 (by decide) ?_
        refine lv_iadd hx hb dL_law_571 ?_
        refine va_sld hx hb hX hbl hbA hS (vin 1 (by decide)) dL_law_572 ?_
        refine rowV (As := [.int (xs (nI i + 1).toNatClampNeg)]) (rest := []) C (kX3_sameSeal l G s.heap.size x (xs (nI i + 1).toNatClampNeg) r e1) (cwV 1 hts gL_law_X3_sameSeal rfl rfl rfl (by decide +kernel) ⟨Nat.le_of_ble_eq_true rfl, Nat.le_of_ble_eq_true rfl⟩) (rcv_X3 X C.2) X rfl hl.1 rfl (Nat.le_of_ble_eq_true rfl) dL_law_573 ⟨Nat.le_of_ble_eq_true rfl, Nat.le_of_ble_eq_true rfl⟩ ?_
        refine lv_aload_n hx hb dL_law_576 rfl (lv_at hl 2 rfl) ?_
        refine lv_aload_n hx hb dL_law_577 rfl (lv_at hl 0 rfl) ?_
        refine lv_iload_n hx hb dL_law_578 rfl (lv_at hl 3 rfl) ?_
        refine lv_iconst (v := 1) hx hb dL_law_579 (by decide) ?_
        refine lv_iadd hx hb dL_law_580 ?_
        refine va_sld hx hb hX hbl hbA hS (vin 1 (by decide)) dL_law_581 ?_
        refine rowW (As := [.int (xs (nI i + 1).toNatClampNeg)]) (rest := [.int r]) C (kX4_sameSeal l G (s.heap.size + 54) μ (xs (nI i + 1).toNatClampNeg) r μ2 e2) (cwV 1 hts gL_law_X4_sameSeal rfl rfl rfl (by decide +kernel) ⟨Nat.le_of_ble_eq_true rfl, Nat.le_of_ble_eq_true rfl⟩) (rcv_X4 Z C.2) Z hS (fun q z => by have z := fr_iff.mp z; show s.heap.size ≤ q; omega) rfl hl.1 rfl (Nat.le_of_ble_eq_true rfl) dL_law_582 ⟨Nat.le_of_ble_eq_true rfl, Nat.le_of_ble_eq_true rfl⟩ (fun H2 locs Z2 hS hz hf => ?_)
        have X := X.keep hf (fun q h1 h2 z => by have z := fr_iff.mp z; omega)
        show W p l e _ s m _ below meth c H2 locs 61 2600 _ (F0 m 585 ls [.int r, .int r])
        refine lv_icmp_eq (tgt := 590) hx hb dL_law_585 (by decide) (fun _ => ?_) (fun c9 => absurd rfl c9)
        exact tail590 x μ2 _ _ ls hR X Z2 hS hl
      have c2t : ¬ sw.toInt = 0 := lv_neT c2 (by decide)
      have c3t : ¬ sw.toInt = 1 := lv_neT c3 (by decide)
      have c4t : ¬ sw.toInt = 2 := lv_neT c4 (by decide)
      have c5t : ¬ sw.toInt = 3 := lv_neT c5 (by decide)
      have c6t : ¬ sw.toInt = 4 := lv_neT c6 (by decide)
      have c7t : ¬ sw.toInt = 5 := lv_neT c7 (by decide)
      have c8t : ¬ sw.toInt = 6 := lv_neT c8 (by decide)
      have c9t : ¬ sw.toInt = 7 := lv_neT c9 (by decide)
      have c10t : ¬ sw.toInt = 8 := lv_neT c10 (by decide)
      have c11t : ¬ sw.toInt = 9 := lv_neT c11 (by decide)
      have c12t : ¬ sw.toInt = 10 := lv_neT c12 (by decide)
      have c13t : ¬ sw.toInt = 11 := lv_neT c13 (by decide)
      have c14t : ¬ sw.toInt = 12 := lv_neT c14 (by decide)
      have c15t : ¬ sw.toInt = 13 := lv_neT c15 (by decide)
      have c16t : ¬ sw.toInt = 14 := lv_neT c16 (by decide)
      have c17t : ¬ sw.toInt = 15 := lv_neT c17 (by decide)
      have c18t : ¬ sw.toInt = 16 := lv_neT c18 (by decide)
      have c19t : ¬ sw.toInt = 17 := lv_neT c19 (by decide)
      have c20t : ¬ sw.toInt = 18 := lv_neT c20 (by decide)
      have c21t : ¬ sw.toInt = 19 := lv_neT c21 (by decide)
      refine lv_tableOut (tgt := 590) hx hb dL_law_32 (by omega) (by decide) ?_
      exact tail590 x μ H locs ls hR X Z hS hl
