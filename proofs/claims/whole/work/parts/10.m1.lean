def pX6_hasBit (C : Nat → ClassId) (b : Nat) (E : Nat → va_E) (S k : Nat) : Int32 → (Nat → va_E) → Prop := fun r E' => r = nI (S.testBit k).toNat ∧ E = E'
set_option maxHeartbeats 4000000 in
set_option maxRecDepth 100000 in
theorem kX6_hasBit (l : Launch) (D : va_G) (C : Nat → ClassId) (b n : Nat) (E : Nat → va_E) (S k : Nat) (hSb : S < 2 ^ 32) (hk : k < 32) : Met l yX6_hasBit (wm_ws yX6_hasBit cX6_hasBit 2 (some .boolean)) { frames := 0, cells := 0, slots := 0, locals := 0 } (va_Pc [.int (nI S), .int (nI k)] (wm_G D C b n E)) (va_Qi (pX6_hasBit C b E S k) (fun E' t => wm_P D b n E' t.heap) (wm_A b)) 0 0 (wm_A b) := by
  refine wm_ofW (by decide) (Nat.le_of_ble_eq_true rfl) (fun p e s m below meth c ls R args Q hRe hQ X hr hnm hP hS hl => ?_)
  have hl : lv_has ls 2 [(0, .int (nI S)), (1, .int (nI k))] := hl
  refine lv_iload_n X.1 X.2.1 dX6_hasBit_0 rfl (lv_at hl 0 rfl) ?_
  refine lv_iload_n X.1 X.2.1 dX6_hasBit_1 rfl (lv_at hl 1 rfl) ?_
  refine wm_iushr (x := S) (y := k) X (by omega) (by omega) dX6_hasBit_2 ?_
  refine lv_iconst (v := nI 1) X.1 X.2.1 dX6_hasBit_3 (by decide) ?_
  refine wm_iand (x := (S >>> k)) (y := 1) X dX6_hasBit_4 ?_
  refine wm_if_eq (x := ((S >>> k) &&& 1)) (tgt := 12) X (Nat.lt_trans (wm_and1_lt _) (by decide)) dX6_hasBit_5 (by decide) (fun hc5 => ?_) (fun hc5 => ?_)
  · refine lv_iconst (v := nI 0) X.1 X.2.1 dX6_hasBit_12 (by decide) ?_
    exact wm_zret (v := false) (post := pX6_hasBit C b E S k) X hr hP hS ⟨(by rw [wm_tbf hc5]), rfl⟩ hQ dX6_hasBit_13
  · refine lv_iconst (v := nI 1) X.1 X.2.1 dX6_hasBit_8 (by decide) ?_
    refine lv_goto (tgt := 13) X.1 X.2.1 dX6_hasBit_9 (by decide) ?_
    exact wm_zret (v := true) (post := pX6_hasBit C b E S k) X hr hP hS ⟨(by rw [wm_tb hc5]), rfl⟩ hQ dX6_hasBit_13
def pX6_withBit (C : Nat → ClassId) (b : Nat) (E : Nat → va_E) (S k : Nat) (v : Bool) : Int32 → (Nat → va_E) → Prop := fun r E' => r = nI (wm_wb S k v) ∧ E = E'
set_option maxHeartbeats 4000000 in
set_option maxRecDepth 100000 in
theorem kX6_withBit (l : Launch) (D : va_G) (C : Nat → ClassId) (b n : Nat) (E : Nat → va_E) (S k : Nat) (v : Bool) (hSb : S < 2 ^ 32) (hk : k < 32) : Met l yX6_withBit (wm_ws yX6_withBit cX6_withBit 3 (some .int)) { frames := 0, cells := 0, slots := 0, locals := 0 } (va_Pc [.int (nI S), .int (nI k), .int (nI v.toNat)] (wm_G D C b n E)) (va_Qi (pX6_withBit C b E S k v) (fun E' t => wm_P D b n E' t.heap) (wm_A b)) 0 0 (wm_A b) := by
  refine wm_ofW (by decide) (Nat.le_of_ble_eq_true rfl) (fun p e s m below meth c ls R args Q hRe hQ X hr hnm hP hS hl => ?_)
  have hl : lv_has ls 3 [(0, .int (nI S)), (1, .int (nI k)), (2, .int (nI v.toNat))] := hl
  refine lv_iload_n X.1 X.2.1 dX6_withBit_0 rfl (lv_at hl 2 rfl) ?_
  refine wm_ifz_eq (x := v) (tgt := 12) X dX6_withBit_1 (by decide) (fun hc1 => ?_) (fun hc1 => ?_)
  · refine lv_iload_n X.1 X.2.1 dX6_withBit_12 rfl (lv_at hl 0 rfl) ?_
    refine lv_iconst (v := nI 1) X.1 X.2.1 dX6_withBit_13 (by decide) ?_
    refine lv_iload_n X.1 X.2.1 dX6_withBit_14 rfl (lv_at hl 1 rfl) ?_
    refine wm_ishl (x := 1) (y := k) X (by omega) dX6_withBit_15 ?_
    refine lv_iconst (v := nI 4294967295) X.1 X.2.1 dX6_withBit_16 (by decide) ?_
    refine wm_ixor (x := (1 <<< k)) (y := 4294967295) X dX6_withBit_17 ?_
    refine wm_iand (x := S) (y := ((1 <<< k) ^^^ 4294967295)) X dX6_withBit_18 ?_
    exact wm_iret (post := pX6_withBit C b E S k v) X hr hP hS ⟨(by rw [wm_wb_f hc1]), rfl⟩ hQ dX6_withBit_19
  · refine lv_iload_n X.1 X.2.1 dX6_withBit_4 rfl (lv_at hl 0 rfl) ?_
    refine lv_iconst (v := nI 1) X.1 X.2.1 dX6_withBit_5 (by decide) ?_
    refine lv_iload_n X.1 X.2.1 dX6_withBit_6 rfl (lv_at hl 1 rfl) ?_
    refine wm_ishl (x := 1) (y := k) X (by omega) dX6_withBit_7 ?_
    refine wm_ior (x := S) (y := (1 <<< k)) X dX6_withBit_8 ?_
    refine lv_goto (tgt := 19) X.1 X.2.1 dX6_withBit_9 (by decide) ?_
    exact wm_iret (post := pX6_withBit C b E S k v) X hr hP hS ⟨(by rw [wm_wb_t hc1]), rfl⟩ hQ dX6_withBit_19
def pX2_goalsOf (C : Nat → ClassId) (b : Nat) (E : Nat → va_E) (t tg cn st en sv lr : Nat) (g : Nat → Nat) : Int32 → (Nat → va_E) → Prop := fun r E' => r = nI (g (lr * 24 + sv)) ∧ E = E'
set_option maxHeartbeats 4000000 in
set_option maxRecDepth 100000 in
theorem kX2_goalsOf (l : Launch) (D : va_G) (C : Nat → ClassId) (b n : Nat) (E : Nat → va_E) (t tg cn st en sv lr : Nat) (g : Nat → Nat) (hlt0 : t < n) (hE0 : E t = .inr (2, [.ref (b + tg), .int (nI cn), .int (nI st), .int (nI en)])) (hlt1 : tg < n) (hE1 : E tg = wm_I C 192 g) (hi : lr * 24 + sv < 192) : Met l yX2_goalsOf (wm_ws yX2_goalsOf cX2_goalsOf 3 (some .int)) { frames := 0, cells := 0, slots := 0, locals := 0 } (va_Pc [.ref (b + t), .int (nI sv), .int (nI lr)] (wm_G D C b n E)) (va_Qi (pX2_goalsOf C b E t tg cn st en sv lr g) (fun E' t => wm_P D b n E' t.heap) (wm_A b)) 0 0 (wm_A b) := by
  refine wm_ofW (by decide) (Nat.le_of_ble_eq_true rfl) (fun p e s m below meth c ls R args Q hRe hQ X hr hnm hP hS hl => ?_)
  have hl : lv_has ls 3 [(0, .ref (b + t)), (1, .int (nI sv)), (2, .int (nI lr))] := hl
  refine lv_aload_n X.1 X.2.1 dX2_goalsOf_0 rfl (lv_at hl 0 rfl) ?_
  refine wm_get X hP hlt0 hE0 rfl wm_inX2 0 (by decide) wq1_41 rfl dX2_goalsOf_1 ?_
  refine lv_iload_n X.1 X.2.1 dX2_goalsOf_4 rfl (lv_at hl 2 rfl) ?_
  refine lv_bipush (v := nI 24) X.1 X.2.1 dX2_goalsOf_5 (by decide) ?_
  refine wm_imul (x := lr) (y := 24) X dX2_goalsOf_7 ?_
  refine lv_iload_n X.1 X.2.1 dX2_goalsOf_8 rfl (lv_at hl 1 rfl) ?_
  refine wm_iadd (x := (lr * 24)) (y := sv) X dX2_goalsOf_9 ?_
  refine wm_iald (i := ((lr * 24) + sv)) X hP hlt1 hE1 (by omega) (by decide) dX2_goalsOf_10 ?_
  exact wm_iret (post := pX2_goalsOf C b E t tg cn st en sv lr g) X hr hP hS ⟨rfl, rfl⟩ hQ dX2_goalsOf_11
def pX2_putGoals (C : Nat → ClassId) (b : Nat) (E : Nat → va_E) (t tg cn st en sv lr v : Nat) (g : Nat → Nat) : (Nat → va_E) → Prop := fun E' => E' tg = wm_I C 192 (va_up g (lr * 24 + sv) v) ∧ (∀ j, j ≠ tg → E' j = E j)
set_option maxHeartbeats 4000000 in
set_option maxRecDepth 100000 in
theorem kX2_putGoals (l : Launch) (D : va_G) (C : Nat → ClassId) (b n : Nat) (E : Nat → va_E) (t tg cn st en sv lr v : Nat) (g : Nat → Nat) (hlt0 : t < n) (hE0 : E t = .inr (2, [.ref (b + tg), .int (nI cn), .int (nI st), .int (nI en)])) (hlt1 : tg < n) (hE1 : E tg = wm_I C 192 g) (hi : lr * 24 + sv < 192) (hne : t ≠ tg) : Met l yX2_putGoals (wm_ws yX2_putGoals cX2_putGoals 4 none) { frames := 0, cells := 0, slots := 0, locals := 0 } (va_Pc [.ref (b + t), .int (nI sv), .int (nI lr), .int (nI v)] (wm_G D C b n E)) (va_Qv (pX2_putGoals C b E t tg cn st en sv lr v g) (fun E' t => wm_P D b n E' t.heap) (wm_A b)) 0 0 (wm_A b) := by
  refine wm_ofW (by decide) (Nat.le_of_ble_eq_true rfl) (fun p e s m below meth c ls R args Q hRe hQ X hr hnm hP hS hl => ?_)
  have hl : lv_has ls 4 [(0, .ref (b + t)), (1, .int (nI sv)), (2, .int (nI lr)), (3, .int (nI v))] := hl
  have hfr : ∀ j, j ≠ tg → E j = E j := fun _ _ => rfl
  refine lv_aload_n X.1 X.2.1 dX2_putGoals_0 rfl (lv_at hl 0 rfl) ?_
  refine wm_get X hP hlt0 hE0 rfl wm_inX2 0 (by decide) wq1_41 rfl dX2_putGoals_1 ?_
  refine lv_iload_n X.1 X.2.1 dX2_putGoals_4 rfl (lv_at hl 2 rfl) ?_
  refine lv_bipush (v := nI 24) X.1 X.2.1 dX2_putGoals_5 (by decide) ?_
  refine wm_imul (x := lr) (y := 24) X dX2_putGoals_7 ?_
  refine lv_iload_n X.1 X.2.1 dX2_putGoals_8 rfl (lv_at hl 1 rfl) ?_
  refine wm_iadd (x := (lr * 24)) (y := sv) X dX2_putGoals_9 ?_
  refine lv_iload_n X.1 X.2.1 dX2_putGoals_10 rfl (lv_at hl 3 rfl) ?_
  refine wm_iast (i := ((lr * 24) + sv)) (x := v) X hP hS hlt1 hE1 (by omega) (by decide) dX2_putGoals_11 (fun H locs E1 hP hS hE1 hq => ?_)
  have hE0 := (hq t (by omega)).trans hE0
  have hfr : ∀ j, j ≠ tg → E1 j = E j := fun j h0 => (hq j h0).trans (hfr j h0)
  exact wm_vret (post := pX2_putGoals C b E t tg cn st en sv lr v g) X hr hP hS ⟨hE1, hfr⟩ hQ dX2_putGoals_12
def pJ7_fill_53178 (C : Nat → ClassId) (b : Nat) (E : Nat → va_E) (t k v : Nat) (f : Nat → Nat) : (Nat → va_E) → Prop := fun E' => ∃ (g : Nat → Nat), E' t = wm_I C k g ∧ (∀ j, j ≠ t → E' j = E j) ∧ (∀ j, j < k → g j = v)
set_option maxHeartbeats 4000000 in
set_option maxRecDepth 100000 in
theorem kJ7_fill_53178 (l : Launch) (D : va_G) (C : Nat → ClassId) (b n : Nat) (E : Nat → va_E) (t k v : Nat) (f : Nat → Nat) (hlt0 : t < n) (hE0 : E t = wm_I C k f) (hk : k < 2 ^ 31) : Met l yJ7_fill_53178 (wm_ws yJ7_fill_53178 cJ7_fill_53178 4 none) { frames := 0, cells := 0, slots := 0, locals := 0 } (va_Pc [.ref (b + t), .int (nI v)] (wm_G D C b n E)) (va_Qv (pJ7_fill_53178 C b E t k v f) (fun E' t => wm_P D b n E' t.heap) (wm_A b)) 0 0 (wm_A b) := by
  refine wm_ofW (by decide) (Nat.le_of_ble_eq_true rfl) (fun p e s m below meth c ls R args Q hRe hQ X hr hnm hP hS hl => ?_)
  have hl : lv_has ls 4 [(0, .ref (b + t)), (1, .int (nI v))] := hl
  have hfr : ∀ j, j ≠ t → E j = E j := fun _ _ => rfl
  refine lv_iconst (v := nI 0) X.1 X.2.1 dJ7_fill_53178_0 (by decide) ?_
  refine lv_istore_n (lv' := [(2, .int (nI 0)), (0, .ref (b + t)), (1, .int (nI v))]) X.1 X.2.1 dJ7_fill_53178_1 rfl hl (by decide) rfl (fun ls hl => ?_)
  refine lv_aload_n X.1 X.2.1 dJ7_fill_53178_2 rfl (lv_at hl 1 rfl) ?_
  refine wm_alen (N := k) (k := 0) X hP hlt0 hE0 rfl rfl dJ7_fill_53178_3 ?_
  refine lv_istore_n (lv' := [(3, .int (nI k)), (2, .int (nI 0)), (0, .ref (b + t)), (1, .int (nI v))]) X.1 X.2.1 dJ7_fill_53178_4 rfl hl (by decide) rfl (fun ls hl => ?_)
  have L5 : ∀ (fu : Nat) (i : Nat) (g : Nat → Nat), k - i < fu → (i ≤ k) → (∀ j, j < i → g j = v) → ∀ (E1 : Nat → va_E) (H : Heap) (locs : List Loc) (ls : Array Slot), wm_P D b n E1 H → wm_S b s.heap H locs → E1 t = wm_I C k g → (∀ j, j ≠ t → E1 j = E j) → lv_has ls 4 [(0, .ref (b + t)), (1, .int (nI v)), (2, .int (nI i)), (3, .int (nI k))] → W p l e R s m args below meth c H locs 0 0 Q (F0 m 5 ls []) := by
    intro fu
    induction fu with
    | zero => intro i g hm; exact absurd hm (Nat.not_lt_zero _)
    | succ fu ih5 =>
      intro i g hm hi hg E1 H locs ls hP hS hE0 hfr hl
      refine lv_iload_n X.1 X.2.1 dJ7_fill_53178_5 rfl (lv_at hl 2 rfl) ?_
      refine lv_iload_n X.1 X.2.1 dJ7_fill_53178_6 rfl (lv_at hl 3 rfl) ?_
      refine wm_icmp_ge (x := i) (y := k) (tgt := 20) X (by omega) (by omega) dJ7_fill_53178_7 (by decide) (fun hc7 => ?_) (fun hc7 => ?_)
      · exact wm_vret (post := pJ7_fill_53178 C b E t k v f) X hr hP hS ⟨g, hE0, hfr, (fun j h => hg j (by omega))⟩ hQ dJ7_fill_53178_20
      · refine lv_aload_n X.1 X.2.1 dJ7_fill_53178_10 rfl (lv_at hl 0 rfl) ?_
        refine lv_iload_n X.1 X.2.1 dJ7_fill_53178_11 rfl (lv_at hl 2 rfl) ?_
        refine lv_iload_n X.1 X.2.1 dJ7_fill_53178_12 rfl (lv_at hl 1 rfl) ?_
        refine wm_iast (i := i) (x := v) X hP hS hlt0 hE0 (by omega) (by omega) dJ7_fill_53178_13 (fun H locs E3 hP hS hE0 hq => ?_)
        have hfr : ∀ j, j ≠ t → E3 j = E j := fun j h0 => (hq j h0).trans (hfr j h0)
        refine lv_iinc (v := nI (i + 1)) (lv' := [(2, .int (nI (i + 1))), (0, .ref (b + t)), (1, .int (nI v)), (3, .int (nI k))]) X.1 X.2.1 dJ7_fill_53178_14 hl (k := 2) rfl (wm_inc i) (by decide) rfl (fun ls hl => ?_)
        refine lv_goto (tgt := 5) X.1 X.2.1 dJ7_fill_53178_17 (by decide) ?_
        exact ih5 (i + 1) (va_up g i v) (by omega) (by omega) (wm_fill1 hg) E3 _ _ _ hP hS hE0 hfr (lv_sub hl [1, 2, 0, 3] rfl)
  exact L5 (k - 0 + 1) 0 f (Nat.lt_succ_self _) (by omega) (fun j h => absurd h (Nat.not_lt_zero _)) E _ _ _ hP hS hE0 hfr (lv_sub hl [2, 3, 1, 0] rfl)
def pJ7_rangeCheck_23922 (C : Nat → ClassId) (b : Nat) (E : Nat → va_E) (k x y : Nat) : (Nat → va_E) → Prop := fun E' => E = E'
set_option maxHeartbeats 4000000 in
set_option maxRecDepth 100000 in
theorem kJ7_rangeCheck_23922 (l : Launch) (D : va_G) (C : Nat → ClassId) (b n : Nat) (E : Nat → va_E) (k x y : Nat) (hxy : x ≤ y) (hyk : y ≤ k) (hk : k < 2 ^ 31) : Met l yJ7_rangeCheck_23922 (wm_ws yJ7_rangeCheck_23922 cJ7_rangeCheck_23922 3 none) { frames := 0, cells := 0, slots := 0, locals := 0 } (va_Pc [.int (nI k), .int (nI x), .int (nI y)] (wm_G D C b n E)) (va_Qv (pJ7_rangeCheck_23922 C b E k x y) (fun E' t => wm_P D b n E' t.heap) (wm_A b)) 0 0 (wm_A b) := by
  refine wm_ofW (by decide) (Nat.le_of_ble_eq_true rfl) (fun p e s m below meth c ls R args Q hRe hQ X hr hnm hP hS hl => ?_)
  have hl : lv_has ls 3 [(0, .int (nI k)), (1, .int (nI x)), (2, .int (nI y))] := hl
  refine lv_iload_n X.1 X.2.1 dJ7_rangeCheck_23922_0 rfl (lv_at hl 1 rfl) ?_
  refine lv_iload_n X.1 X.2.1 dJ7_rangeCheck_23922_1 rfl (lv_at hl 2 rfl) ?_
  refine wm_icmp_le (x := x) (y := y) (tgt := 46) X (by omega) (by omega) dJ7_rangeCheck_23922_2 (by decide) (fun hc2 => ?_) (fun hc2 => ?_)
  · refine lv_iload_n X.1 X.2.1 dJ7_rangeCheck_23922_46 rfl (lv_at hl 1 rfl) ?_
    refine wm_if_ge (x := x) (tgt := 59) X (by omega) dJ7_rangeCheck_23922_47 (by decide) ?_
    refine lv_iload_n X.1 X.2.1 dJ7_rangeCheck_23922_59 rfl (lv_at hl 2 rfl) ?_
    refine lv_iload_n X.1 X.2.1 dJ7_rangeCheck_23922_60 rfl (lv_at hl 0 rfl) ?_
    refine wm_icmp_le (x := y) (y := k) (tgt := 73) X (by omega) (by omega) dJ7_rangeCheck_23922_61 (by decide) (fun hc61 => ?_) (fun hc61 => ?_)
    · exact wm_vret (post := pJ7_rangeCheck_23922 C b E k x y) X hr hP hS rfl hQ dJ7_rangeCheck_23922_73
    · exact absurd hc61 (by omega)
  · exact absurd hc2 (by omega)
def pJ7_fill_fda19 (C : Nat → ClassId) (b : Nat) (E : Nat → va_E) (t k x y v : Nat) (f : Nat → Nat) : (Nat → va_E) → Prop := fun E' => ∃ (g : Nat → Nat), E' t = wm_I C k g ∧ (∀ j, j ≠ t → E' j = E j) ∧ (∀ j, x ≤ j → j < y → g j = v) ∧ (∀ j, j < x ∨ y ≤ j → g j = f j)
set_option maxHeartbeats 4000000 in
set_option maxRecDepth 100000 in
theorem kJ7_fill_fda19 (l : Launch) (D : va_G) (C : Nat → ClassId) (b n : Nat) (E : Nat → va_E) (t k x y v : Nat) (f : Nat → Nat) (hlt0 : t < n) (hE0 : E t = wm_I C k f) (hxy : x ≤ y) (hyk : y ≤ k) (hk : k < 2 ^ 31) : Met l yJ7_fill_fda19 (wm_ws yJ7_fill_fda19 cJ7_fill_fda19 5 none) { frames := 1, cells := 0, slots := 0, locals := 22 } (va_Pc [.ref (b + t), .int (nI x), .int (nI y), .int (nI v)] (wm_G D C b n E)) (va_Qv (pJ7_fill_fda19 C b E t k x y v f) (fun E' t => wm_P D b n E' t.heap) (wm_A b)) 0 0 (wm_A b) := by
  refine wm_ofW (by decide) (Nat.le_of_ble_eq_true rfl) (fun p e s m below meth c ls R args Q hRe hQ X hr hnm hP hS hl => ?_)
  have hl : lv_has ls 5 [(0, .ref (b + t)), (1, .int (nI x)), (2, .int (nI y)), (3, .int (nI v))] := hl
  have hfr : ∀ j, j ≠ t → E j = E j := fun _ _ => rfl
  refine lv_aload_n X.1 X.2.1 dJ7_fill_fda19_0 rfl (lv_at hl 0 rfl) ?_
  refine wm_alen (N := k) (k := 0) X hP hlt0 hE0 rfl rfl dJ7_fill_fda19_1 ?_
  refine lv_iload_n X.1 X.2.1 dJ7_fill_fda19_2 rfl (lv_at hl 1 rfl) ?_
  refine lv_iload_n X.1 X.2.1 dJ7_fill_fda19_3 rfl (lv_at hl 2 rfl) ?_
  refine wm_callSv (k := 3) (As := [.int (nI k), .int (nI x), .int (nI y)]) (rest := []) X hP hS  (kJ7_rangeCheck_23922 l D C b n E k x y (by omega) (by omega) (by omega)) wq3_125 wq3_126 wq1_14 wq3_127 (by decide) (by rw [hRe]; exact ⟨Nat.le_of_ble_eq_true rfl, Nat.le_of_ble_eq_true rfl⟩) rfl hl.1 rfl (Nat.le_of_ble_eq_true rfl) (Nat.zero_le _) (Nat.zero_le _) dJ7_fill_fda19_4 (fun E1 H locs hw hP hS => ?_)
  have hEe := hw
  subst hEe
  refine lv_iload_n X.1 X.2.1 dJ7_fill_fda19_7 rfl (lv_at hl 1 rfl) ?_
  refine lv_istore (lv' := [(4, .int (nI x)), (0, .ref (b + t)), (1, .int (nI x)), (2, .int (nI y)), (3, .int (nI v))]) X.1 X.2.1 dJ7_fill_fda19_8 hl (by decide) rfl (fun ls hl => ?_)
  have L10 : ∀ (fu : Nat) (i : Nat) (g : Nat → Nat), y - i < fu → (i ≤ y) → (x ≤ i) → (∀ j, x ≤ j → j < i → g j = v) → (∀ j, j < x ∨ y ≤ j → g j = f j) → ∀ (E2 : Nat → va_E) (H : Heap) (locs : List Loc) (ls : Array Slot), wm_P D b n E2 H → wm_S b s.heap H locs → E2 t = wm_I C k g → (∀ j, j ≠ t → E2 j = E j) → lv_has ls 5 [(0, .ref (b + t)), (1, .int (nI x)), (2, .int (nI y)), (3, .int (nI v)), (4, .int (nI i))] → W p l e R s m args below meth c H locs 0 0 Q (F0 m 10 ls []) := by
    intro fu
    induction fu with
    | zero => intro i g hm; exact absurd hm (Nat.not_lt_zero _)
    | succ fu ih10 =>
      intro i g hm hi hxi hg hg2 E2 H locs ls hP hS hE0 hfr hl
      refine lv_iload X.1 X.2.1 dJ7_fill_fda19_10 (lv_at hl 4 rfl) ?_
      refine lv_iload_n X.1 X.2.1 dJ7_fill_fda19_12 rfl (lv_at hl 2 rfl) ?_
      refine wm_icmp_ge (x := i) (y := y) (tgt := 27) X (by omega) (by omega) dJ7_fill_fda19_13 (by decide) (fun hc13 => ?_) (fun hc13 => ?_)
      · exact wm_vret (post := pJ7_fill_fda19 C b E t k x y v f) X hr hP hS ⟨g, hE0, hfr, (fun j h1 h2 => hg j h1 (by omega)), hg2⟩ hQ dJ7_fill_fda19_27
      · refine lv_aload_n X.1 X.2.1 dJ7_fill_fda19_16 rfl (lv_at hl 0 rfl) ?_
        refine lv_iload X.1 X.2.1 dJ7_fill_fda19_17 (lv_at hl 4 rfl) ?_
        refine lv_iload_n X.1 X.2.1 dJ7_fill_fda19_19 rfl (lv_at hl 3 rfl) ?_
        refine wm_iast (i := i) (x := v) X hP hS hlt0 hE0 (by omega) (by omega) dJ7_fill_fda19_20 (fun H locs E4 hP hS hE0 hq => ?_)
        have hfr : ∀ j, j ≠ t → E4 j = E j := fun j h0 => (hq j h0).trans (hfr j h0)
        refine lv_iinc (v := nI (i + 1)) (lv' := [(4, .int (nI (i + 1))), (0, .ref (b + t)), (1, .int (nI x)), (2, .int (nI y)), (3, .int (nI v))]) X.1 X.2.1 dJ7_fill_fda19_21 hl (k := 4) rfl (wm_inc i) (by decide) rfl (fun ls hl => ?_)
        refine lv_goto (tgt := 10) X.1 X.2.1 dJ7_fill_fda19_24 (by decide) ?_
        exact ih10 (i + 1) (va_up g i v) (by omega) (by omega) (by omega) (wm_fill2 hg) (wm_fill3 hg2 hxi (by omega)) E4 _ _ _ hP hS hE0 hfr (lv_sub hl [1, 2, 3, 4, 0] rfl)
  exact L10 (y - x + 1) x f (Nat.lt_succ_self _) (by omega) (by omega) (fun j h1 h2 => absurd h2 (by omega)) (fun _ _ => rfl) E _ _ _ hP hS hE0 hfr (lv_sub hl [1, 2, 3, 4, 0] rfl)
def pJ7_fill_bad5a (C : Nat → ClassId) (b : Nat) (E : Nat → va_E) (t k x y v : Nat) (f : Nat → Nat) : (Nat → va_E) → Prop := fun E' => ∃ (g : Nat → Nat), E' t = wm_J C k g ∧ (∀ j, j ≠ t → E' j = E j) ∧ (∀ j, x ≤ j → j < y → g j = v) ∧ (∀ j, j < x ∨ y ≤ j → g j = f j)
set_option maxHeartbeats 4000000 in
set_option maxRecDepth 100000 in
theorem kJ7_fill_bad5a (l : Launch) (D : va_G) (C : Nat → ClassId) (b n : Nat) (E : Nat → va_E) (t k x y v : Nat) (f : Nat → Nat) (hlt0 : t < n) (hE0 : E t = wm_J C k f) (hxy : x ≤ y) (hyk : y ≤ k) (hk : k < 2 ^ 31) : Met l yJ7_fill_bad5a (wm_ws yJ7_fill_bad5a cJ7_fill_bad5a 6 none) { frames := 1, cells := 0, slots := 0, locals := 22 } (va_Pc [.ref (b + t), .int (nI x), .int (nI y), .long (lN v)] (wm_G D C b n E)) (va_Qv (pJ7_fill_bad5a C b E t k x y v f) (fun E' t => wm_P D b n E' t.heap) (wm_A b)) 0 0 (wm_A b) := by
  refine wm_ofW (by decide) (Nat.le_of_ble_eq_true rfl) (fun p e s m below meth c ls R args Q hRe hQ X hr hnm hP hS hl => ?_)
  have hl : lv_has ls 6 [(0, .ref (b + t)), (1, .int (nI x)), (2, .int (nI y)), (3, .long (lN v))] := hl
  have hfr : ∀ j, j ≠ t → E j = E j := fun _ _ => rfl
  refine lv_aload_n X.1 X.2.1 dJ7_fill_bad5a_0 rfl (lv_at hl 0 rfl) ?_
  refine wm_alen (N := k) (k := 1) X hP hlt0 hE0 rfl rfl dJ7_fill_bad5a_1 ?_
  refine lv_iload_n X.1 X.2.1 dJ7_fill_bad5a_2 rfl (lv_at hl 1 rfl) ?_
  refine lv_iload_n X.1 X.2.1 dJ7_fill_bad5a_3 rfl (lv_at hl 2 rfl) ?_
  refine wm_callSv (k := 3) (As := [.int (nI k), .int (nI x), .int (nI y)]) (rest := []) X hP hS  (kJ7_rangeCheck_23922 l D C b n E k x y (by omega) (by omega) (by omega)) wq3_125 wq3_126 wq1_14 wq3_127 (by decide) (by rw [hRe]; exact ⟨Nat.le_of_ble_eq_true rfl, Nat.le_of_ble_eq_true rfl⟩) rfl hl.1 rfl (Nat.le_of_ble_eq_true rfl) (Nat.zero_le _) (Nat.zero_le _) dJ7_fill_bad5a_4 (fun E1 H locs hw hP hS => ?_)
  have hEe := hw
  subst hEe
  refine lv_iload_n X.1 X.2.1 dJ7_fill_bad5a_7 rfl (lv_at hl 1 rfl) ?_
  refine lv_istore (lv' := [(5, .int (nI x)), (0, .ref (b + t)), (1, .int (nI x)), (2, .int (nI y)), (3, .long (lN v))]) X.1 X.2.1 dJ7_fill_bad5a_8 hl (by decide) rfl (fun ls hl => ?_)
  have L10 : ∀ (fu : Nat) (i : Nat) (g : Nat → Nat), y - i < fu → (i ≤ y) → (x ≤ i) → (∀ j, x ≤ j → j < i → g j = v) → (∀ j, j < x ∨ y ≤ j → g j = f j) → ∀ (E2 : Nat → va_E) (H : Heap) (locs : List Loc) (ls : Array Slot), wm_P D b n E2 H → wm_S b s.heap H locs → E2 t = wm_J C k g → (∀ j, j ≠ t → E2 j = E j) → lv_has ls 6 [(0, .ref (b + t)), (1, .int (nI x)), (2, .int (nI y)), (3, .long (lN v)), (5, .int (nI i))] → W p l e R s m args below meth c H locs 0 0 Q (F0 m 10 ls []) := by
    intro fu
    induction fu with
    | zero => intro i g hm; exact absurd hm (Nat.not_lt_zero _)
    | succ fu ih10 =>
      intro i g hm hi hxi hg hg2 E2 H locs ls hP hS hE0 hfr hl
      refine lv_iload X.1 X.2.1 dJ7_fill_bad5a_10 (lv_at hl 4 rfl) ?_
      refine lv_iload_n X.1 X.2.1 dJ7_fill_bad5a_12 rfl (lv_at hl 2 rfl) ?_
      refine wm_icmp_ge (x := i) (y := y) (tgt := 27) X (by omega) (by omega) dJ7_fill_bad5a_13 (by decide) (fun hc13 => ?_) (fun hc13 => ?_)
      · exact wm_vret (post := pJ7_fill_bad5a C b E t k x y v f) X hr hP hS ⟨g, hE0, hfr, (fun j h1 h2 => hg j h1 (by omega)), hg2⟩ hQ dJ7_fill_bad5a_27
      · refine lv_aload_n X.1 X.2.1 dJ7_fill_bad5a_16 rfl (lv_at hl 0 rfl) ?_
        refine lv_iload X.1 X.2.1 dJ7_fill_bad5a_17 (lv_at hl 4 rfl) ?_
        refine lv_lload_n X.1 X.2.1 dJ7_fill_bad5a_19 rfl (lv_at hl 3 rfl) ?_
        refine wm_last (i := i) (x := v) X hP hS hlt0 hE0 (by omega) (by omega) dJ7_fill_bad5a_20 (fun H locs E4 hP hS hE0 hq => ?_)
        have hfr : ∀ j, j ≠ t → E4 j = E j := fun j h0 => (hq j h0).trans (hfr j h0)
        refine lv_iinc (v := nI (i + 1)) (lv' := [(5, .int (nI (i + 1))), (0, .ref (b + t)), (1, .int (nI x)), (2, .int (nI y)), (3, .long (lN v))]) X.1 X.2.1 dJ7_fill_bad5a_21 hl (k := 4) rfl (wm_inc i) (by decide) rfl (fun ls hl => ?_)
        refine lv_goto (tgt := 10) X.1 X.2.1 dJ7_fill_bad5a_24 (by decide) ?_
        exact ih10 (i + 1) (va_up g i v) (by omega) (by omega) (by omega) (wm_fill2 hg) (wm_fill3 hg2 hxi (by omega)) E4 _ _ _ hP hS hE0 hfr (lv_sub hl [1, 2, 3, 4, 0] rfl)
  exact L10 (y - x + 1) x f (Nat.lt_succ_self _) (by omega) (by omega) (fun j h1 h2 => absurd h2 (by omega)) (fun _ _ => rfl) E _ _ _ hP hS hE0 hfr (lv_sub hl [1, 2, 3, 4, 0] rfl)
