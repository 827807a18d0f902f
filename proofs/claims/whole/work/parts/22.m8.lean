def paddState1 (C : Nat → ClassId) (b : Nat) (E : Nat → va_E) (fk fp op cn md rs pf pl rf rl qf ql v : Nat) (nt h pb rb qb : Bool) (fl lt : Nat → Nat) : Int32 → (Nat → va_E) → Prop := fun r E' => r = nI 0 ∧ E' 5 = .inr (0, [.int (nI fk), .int (nI fp), .ref (b + 6), .ref (b + 7), .ref (b + 8), .int (nI op), .int (nI (cn + 1)), .int (nI md), .int (nI nt.toNat), .int (nI rs)]) ∧ E' 7 = wm_I C 24 (wm_lk (va_up fl cn 0) cn rl qf) ∧ E' 8 = wm_I C 24 (va_up lt cn v) ∧ E' (9 + 4 * op) = .inr (1, [.ref (b + (10 + 4 * op)), .ref (b + (11 + 4 * op)), .ref (b + (12 + 4 * op)), .int (nI true.toNat)]) ∧ E' (10 + 4 * op) = .inr (3, [.int (nI pb.toNat), .int (nI pf), .int (nI pl)]) ∧ E' (11 + 4 * op) = .inr (3, [.int (nI (rb && qb).toNat), .int (nI (rf ||| (if rb then qf else 0))), .int (nI (ql ||| (if qb then rl else 0)))]) ∧ E' (12 + 4 * op) = .inr (3, [.int (nI false.toNat), .int (nI (1 <<< cn)), .int (nI (1 <<< cn))]) ∧ (∀ j, j ≠ 5 → j ≠ 7 → j ≠ 8 → j ≠ 9 + 4 * op → j ≠ 10 + 4 * op → j ≠ 11 + 4 * op → j ≠ 12 + 4 * op → E' j = E j)
set_option maxHeartbeats 4000000 in
set_option maxRecDepth 100000 in
theorem kaddState1 (l : Launch) (D : va_G) (C : Nat → ClassId) (b n : Nat) (E : Nat → va_E) (fk fp op cn md rs pf pl rf rl qf ql v : Nat) (nt h pb rb qb : Bool) (fl lt : Nat → Nat) (hlt0 : 5 < n) (hE0 : E 5 = .inr (0, [.int (nI fk), .int (nI fp), .ref (b + 6), .ref (b + 7), .ref (b + 8), .int (nI op), .int (nI cn), .int (nI md), .int (nI nt.toNat), .int (nI rs)])) (hlt1 : 6 < n) (hE1 : E 6 = wm_Q C 5 21 (fun i => some (b + (9 + 4 * i)))) (hlt2 : 7 < n) (hE2 : E 7 = wm_I C 24 fl) (hlt3 : 8 < n) (hE3 : E 8 = wm_I C 24 lt) (hlt4 : 9 + 4 * op < n) (hE4 : E (9 + 4 * op) = .inr (1, [.ref (b + (10 + 4 * op)), .ref (b + (11 + 4 * op)), .ref (b + (12 + 4 * op)), .int (nI h.toNat)])) (hlt5 : 10 + 4 * op < n) (hE5 : E (10 + 4 * op) = .inr (3, [.int (nI pb.toNat), .int (nI pf), .int (nI pl)])) (hlt6 : 11 + 4 * op < n) (hE6 : E (11 + 4 * op) = .inr (3, [.int (nI rb.toNat), .int (nI rf), .int (nI rl)])) (hlt7 : 12 + 4 * op < n) (hE7 : E (12 + 4 * op) = .inr (3, [.int (nI qb.toNat), .int (nI qf), .int (nI ql)])) (hop : op ≤ 20) (hcn : cn ≤ 24) (hcp : 1 ≤ cn) (hrl : rl < 2 ^ 32) (hlt24 : cn < 24) : Met l yX0_addState (wm_ws yX0_addState cX0_addState 2 (some .int)) { frames := 3, cells := 0, slots := 0, locals := 68 } (va_Pc [.ref (b + 5), .int (nI v)] (wm_G D C b n E)) (va_Qi (paddState1 C b E fk fp op cn md rs pf pl rf rl qf ql v nt h pb rb qb fl lt) (fun E' t => wm_P D b n E' t.heap) (wm_A b)) 0 0 (wm_A b) := by
  refine wm_ofW (by decide) (Nat.le_of_ble_eq_true rfl) (fun p e s m below meth c ls R args Q hRe hQ X hr hnm hP hS hl => ?_)
  have hl : lv_has ls 2 [(0, .ref (b + 5)), (1, .int (nI v))] := hl
  have hfr : ∀ j, j ≠ 5 → j ≠ 7 → j ≠ 8 → j ≠ 9 + 4 * op → j ≠ 10 + 4 * op → j ≠ 11 + 4 * op → j ≠ 12 + 4 * op → E j = E j := fun _ _ _ _ _ _ _ _ => rfl
  refine lv_aload_n X.1 X.2.1 dX0_addState_0 rfl (lv_at hl 0 rfl) ?_
  refine wm_get X hP hlt0 hE0 rfl wm_inX0 6 (by decide) wq1_123 rfl dX0_addState_1 ?_
  refine lv_bipush (v := nI 24) X.1 X.2.1 dX0_addState_4 (by decide) ?_
  refine wm_icmp_lt (x := cn) (y := 24) (tgt := 11) X (by omega) (by decide) dX0_addState_6 (by decide) (fun hc6 => ?_) (fun hc6 => ?_)
  · refine lv_aload_n X.1 X.2.1 dX0_addState_11 rfl (lv_at hl 0 rfl) ?_
    refine wm_get X hP hlt0 hE0 rfl wm_inX0 4 (by decide) wq1_121 rfl dX0_addState_12 ?_
    refine lv_aload_n X.1 X.2.1 dX0_addState_15 rfl (lv_at hl 0 rfl) ?_
    refine wm_get X hP hlt0 hE0 rfl wm_inX0 6 (by decide) wq1_123 rfl dX0_addState_16 ?_
    refine lv_iload_n X.1 X.2.1 dX0_addState_19 rfl (lv_at hl 1 rfl) ?_
    refine wm_iast (i := cn) (x := v) X hP hS hlt3 hE3 (by omega) (by decide) dX0_addState_20 (fun H locs E2 hP hS hE3 hq => ?_)
    have hE0 := (hq 5 (by decide)).trans hE0
    have hE1 := (hq 6 (by decide)).trans hE1
    have hE2 := (hq 7 (by decide)).trans hE2
    have hE4 := (hq (9 + 4 * op) (by omega)).trans hE4
    have hE5 := (hq (10 + 4 * op) (by omega)).trans hE5
    have hE6 := (hq (11 + 4 * op) (by omega)).trans hE6
    have hE7 := (hq (12 + 4 * op) (by omega)).trans hE7
    have hfr : ∀ j, j ≠ 5 → j ≠ 7 → j ≠ 8 → j ≠ 9 + 4 * op → j ≠ 10 + 4 * op → j ≠ 11 + 4 * op → j ≠ 12 + 4 * op → E2 j = E j := fun j h0 h1 h2 h3 h4 h5 h6 => (hq j h2).trans (hfr j h0 h1 h2 h3 h4 h5 h6)
    refine lv_aload_n X.1 X.2.1 dX0_addState_21 rfl (lv_at hl 0 rfl) ?_
    refine wm_get X hP hlt0 hE0 rfl wm_inX0 3 (by decide) wq1_120 rfl dX0_addState_22 ?_
    refine lv_aload_n X.1 X.2.1 dX0_addState_25 rfl (lv_at hl 0 rfl) ?_
    refine wm_get X hP hlt0 hE0 rfl wm_inX0 6 (by decide) wq1_123 rfl dX0_addState_26 ?_
    refine lv_iconst (v := nI 0) X.1 X.2.1 dX0_addState_29 (by decide) ?_
    refine wm_iast (i := cn) (x := 0) X hP hS hlt2 hE2 (by omega) (by decide) dX0_addState_30 (fun H locs E3 hP hS hE2 hq => ?_)
    have hE0 := (hq 5 (by decide)).trans hE0
    have hE1 := (hq 6 (by decide)).trans hE1
    have hE3 := (hq 8 (by decide)).trans hE3
    have hE4 := (hq (9 + 4 * op) (by omega)).trans hE4
    have hE5 := (hq (10 + 4 * op) (by omega)).trans hE5
    have hE6 := (hq (11 + 4 * op) (by omega)).trans hE6
    have hE7 := (hq (12 + 4 * op) (by omega)).trans hE7
    have hfr : ∀ j, j ≠ 5 → j ≠ 7 → j ≠ 8 → j ≠ 9 + 4 * op → j ≠ 10 + 4 * op → j ≠ 11 + 4 * op → j ≠ 12 + 4 * op → E3 j = E j := fun j h0 h1 h2 h3 h4 h5 h6 => (hq j h1).trans (hfr j h0 h1 h2 h3 h4 h5 h6)
    refine lv_aload_n X.1 X.2.1 dX0_addState_31 rfl (lv_at hl 0 rfl) ?_
    refine lv_aload_n X.1 X.2.1 dX0_addState_32 rfl (lv_at hl 0 rfl) ?_
    refine wm_get X hP hlt0 hE0 rfl wm_inX0 2 (by decide) wq1_119 rfl dX0_addState_33 ?_
    refine lv_aload_n X.1 X.2.1 dX0_addState_36 rfl (lv_at hl 0 rfl) ?_
    refine wm_get X hP hlt0 hE0 rfl wm_inX0 5 (by decide) wq1_122 rfl dX0_addState_37 ?_
    refine wm_aald (i := op) (q := b + (9 + 4 * op)) X hP hlt1 hE1 rfl (by omega) (by decide) rfl dX0_addState_40 ?_
    refine lv_iconst (v := nI 0) X.1 X.2.1 dX0_addState_41 (by decide) ?_
    refine lv_iconst (v := nI 1) X.1 X.2.1 dX0_addState_42 (by decide) ?_
    refine lv_aload_n X.1 X.2.1 dX0_addState_43 rfl (lv_at hl 0 rfl) ?_
    refine wm_get X hP hlt0 hE0 rfl wm_inX0 6 (by decide) wq1_123 rfl dX0_addState_44 ?_
    refine wm_ishl (x := 1) (y := cn) X (by omega) dX0_addState_47 ?_
    refine lv_iconst (v := nI 1) X.1 X.2.1 dX0_addState_48 (by decide) ?_
    refine lv_aload_n X.1 X.2.1 dX0_addState_49 rfl (lv_at hl 0 rfl) ?_
    refine wm_get X hP hlt0 hE0 rfl wm_inX0 6 (by decide) wq1_123 rfl dX0_addState_50 ?_
    refine wm_ishl (x := 1) (y := cn) X (by omega) dX0_addState_53 ?_
    refine wm_callVv (k := 4) (As := [.ref (b + (9 + 4 * op)), .int (nI false.toNat), .int (nI (1 <<< cn)), .int (nI (1 <<< cn))]) (rest := []) X hP hS hlt0 hE0 rfl (kX0_addThing l D C b n E3 fk fp op cn md rs (9 + 4 * op) (10 + 4 * op) (11 + 4 * op) (12 + 4 * op) pf pl rf rl qf ql (1 <<< cn) (1 <<< cn) nt h pb rb qb false (va_up fl cn 0) hlt0 hE0 hlt2 hE2 hlt4 hE4 hlt5 hE5 hlt6 hE6 hlt7 hE7 (by omega) (by omega) (by omega) (by omega) (by omega) (by omega) (by omega) (by omega) (by omega) (by omega)) wq2_139 wq2_141 wqP1_5 wq1_3 wq2_142 (by decide) (by rw [hRe]; exact ⟨Nat.le_of_ble_eq_true rfl, Nat.le_of_ble_eq_true rfl⟩) rfl hl.1 rfl (Nat.le_of_ble_eq_true rfl) (Nat.zero_le _) (Nat.zero_le _) dX0_addState_54 (fun E4 H locs hw hP hS => ?_)
    obtain ⟨hE2, hE4, hE6, hE7, hq⟩ := hw
    have hE0 := (hq 5 (by decide) (by omega) (by omega) (by omega)).trans hE0
    have hE1 := (hq 6 (by decide) (by omega) (by omega) (by omega)).trans hE1
    have hE3 := (hq 8 (by decide) (by omega) (by omega) (by omega)).trans hE3
    have hE5 := (hq (10 + 4 * op) (by omega) (by omega) (by omega) (by omega)).trans hE5
    have hfr : ∀ j, j ≠ 5 → j ≠ 7 → j ≠ 8 → j ≠ 9 + 4 * op → j ≠ 10 + 4 * op → j ≠ 11 + 4 * op → j ≠ 12 + 4 * op → E4 j = E j := fun j h0 h1 h2 h3 h4 h5 h6 => (hq j h1 h3 h5 h6).trans (hfr j h0 h1 h2 h3 h4 h5 h6)
    refine lv_aload_n X.1 X.2.1 dX0_addState_57 rfl (lv_at hl 0 rfl) ?_
    refine lv_dup X.1 X.2.1 dX0_addState_58 rfl ?_
    refine wm_get X hP hlt0 hE0 rfl wm_inX0 6 (by decide) wq1_123 rfl dX0_addState_59 ?_
    refine lv_iconst (v := nI 1) X.1 X.2.1 dX0_addState_62 (by decide) ?_
    refine wm_iadd (x := cn) (y := 1) X dX0_addState_63 ?_
    refine wm_put (v := .int (nI (cn + 1))) X hP hS hlt0 hE0 rfl wm_inX0 tyX0 tyX0_ok nmX0 6 (by decide) wq1_123 rfl rfl rfl (fs1 := [.int (nI fk), .int (nI fp), .ref (b + 6), .ref (b + 7), .ref (b + 8), .int (nI op), .int (nI (cn + 1)), .int (nI md), .int (nI nt.toNat), .int (nI rs)]) rfl (Nat.le_of_ble_eq_true rfl) dX0_addState_64 (fun H locs E5 hP hS hE0 hq => ?_)
    have hE1 := (hq 6 (by decide)).trans hE1
    have hE2 := (hq 7 (by decide)).trans hE2
    have hE3 := (hq 8 (by decide)).trans hE3
    have hE4 := (hq (9 + 4 * op) (by omega)).trans hE4
    have hE5 := (hq (10 + 4 * op) (by omega)).trans hE5
    have hE6 := (hq (11 + 4 * op) (by omega)).trans hE6
    have hE7 := (hq (12 + 4 * op) (by omega)).trans hE7
    have hfr : ∀ j, j ≠ 5 → j ≠ 7 → j ≠ 8 → j ≠ 9 + 4 * op → j ≠ 10 + 4 * op → j ≠ 11 + 4 * op → j ≠ 12 + 4 * op → E5 j = E j := fun j h0 h1 h2 h3 h4 h5 h6 => (hq j h0).trans (hfr j h0 h1 h2 h3 h4 h5 h6)
    refine lv_iconst (v := nI 0) X.1 X.2.1 dX0_addState_67 (by decide) ?_
    exact wm_iret (post := paddState1 C b E fk fp op cn md rs pf pl rf rl qf ql v nt h pb rb qb fl lt) X hr hP hS ⟨rfl, hE0, hE2, hE3, hE4, hE5, hE6, hE7, hfr⟩ hQ dX0_addState_68
  · exact absurd hc6 (by omega)
def paddState0 (C : Nat → ClassId) (b : Nat) (E : Nat → va_E) (fk fp op cn md rs v : Nat) (nt : Bool) : Int32 → (Nat → va_E) → Prop := fun r E' => r = nI 2 ∧ E = E'
set_option maxHeartbeats 4000000 in
set_option maxRecDepth 100000 in
theorem kaddState0 (l : Launch) (D : va_G) (C : Nat → ClassId) (b n : Nat) (E : Nat → va_E) (fk fp op cn md rs v : Nat) (nt : Bool) (hlt0 : 5 < n) (hE0 : E 5 = .inr (0, [.int (nI fk), .int (nI fp), .ref (b + 6), .ref (b + 7), .ref (b + 8), .int (nI op), .int (nI cn), .int (nI md), .int (nI nt.toNat), .int (nI rs)])) (hlt24 : cn = 24) : Met l yX0_addState (wm_ws yX0_addState cX0_addState 2 (some .int)) { frames := 0, cells := 0, slots := 0, locals := 0 } (va_Pc [.ref (b + 5), .int (nI v)] (wm_G D C b n E)) (va_Qi (paddState0 C b E fk fp op cn md rs v nt) (fun E' t => wm_P D b n E' t.heap) (wm_A b)) 0 0 (wm_A b) := by
  refine wm_ofW (by decide) (Nat.le_of_ble_eq_true rfl) (fun p e s m below meth c ls R args Q hRe hQ X hr hnm hP hS hl => ?_)
  have hl : lv_has ls 2 [(0, .ref (b + 5)), (1, .int (nI v))] := hl
  refine lv_aload_n X.1 X.2.1 dX0_addState_0 rfl (lv_at hl 0 rfl) ?_
  refine wm_get X hP hlt0 hE0 rfl wm_inX0 6 (by decide) wq1_123 rfl dX0_addState_1 ?_
  refine lv_bipush (v := nI 24) X.1 X.2.1 dX0_addState_4 (by decide) ?_
  refine wm_icmp_lt (x := cn) (y := 24) (tgt := 11) X (by omega) (by decide) dX0_addState_6 (by decide) (fun hc6 => ?_) (fun hc6 => ?_)
  · exact absurd hc6 (by omega)
  · refine lv_iconst (v := nI 2) X.1 X.2.1 dX0_addState_9 (by decide) ?_
    exact wm_iret (post := paddState0 C b E fk fp op cn md rs v nt) X hr hP hS ⟨rfl, rfl⟩ hQ dX0_addState_10
def popen1 (C : Nat → ClassId) (b : Nat) (E : Nat → va_E) (fk fp op cn md rs pf pl rf rl qf ql : Nat) (nt h pb rb qb : Bool) : Int32 → (Nat → va_E) → Prop := fun r E' => r = nI 0 ∧ E' 5 = .inr (0, [.int (nI fk), .int (nI fp), .ref (b + 6), .ref (b + 7), .ref (b + 8), .int (nI (op + 1)), .int (nI cn), .int (nI md), .int (nI nt.toNat), .int (nI rs)]) ∧ E' (9 + 4 * (op + 1)) = .inr (1, [.ref (b + (10 + 4 * (op + 1))), .ref (b + (11 + 4 * (op + 1))), .ref (b + (12 + 4 * (op + 1))), .int (nI false.toNat)]) ∧ E' (10 + 4 * (op + 1)) = .inr (3, [.int (nI false.toNat), .int (nI 0), .int (nI 0)]) ∧ E' (11 + 4 * (op + 1)) = .inr (3, [.int (nI true.toNat), .int (nI 0), .int (nI 0)]) ∧ E' (12 + 4 * (op + 1)) = .inr (3, [.int (nI true.toNat), .int (nI 0), .int (nI 0)]) ∧ (∀ j, j ≠ 5 → j ≠ 9 + 4 * (op + 1) → j ≠ 10 + 4 * (op + 1) → j ≠ 11 + 4 * (op + 1) → j ≠ 12 + 4 * (op + 1) → E' j = E j)
set_option maxHeartbeats 4000000 in
set_option maxRecDepth 100000 in
theorem kopen1 (l : Launch) (D : va_G) (C : Nat → ClassId) (b n : Nat) (E : Nat → va_E) (fk fp op cn md rs pf pl rf rl qf ql : Nat) (nt h pb rb qb : Bool) (hlt0 : 5 < n) (hE0 : E 5 = .inr (0, [.int (nI fk), .int (nI fp), .ref (b + 6), .ref (b + 7), .ref (b + 8), .int (nI op), .int (nI cn), .int (nI md), .int (nI nt.toNat), .int (nI rs)])) (hlt1 : 6 < n) (hE1 : E 6 = wm_Q C 5 21 (fun i => some (b + (9 + 4 * i)))) (hlt2 : 9 + 4 * (op + 1) < n) (hE2 : E (9 + 4 * (op + 1)) = .inr (1, [.ref (b + (10 + 4 * (op + 1))), .ref (b + (11 + 4 * (op + 1))), .ref (b + (12 + 4 * (op + 1))), .int (nI h.toNat)])) (hlt3 : 10 + 4 * (op + 1) < n) (hE3 : E (10 + 4 * (op + 1)) = .inr (3, [.int (nI pb.toNat), .int (nI pf), .int (nI pl)])) (hlt4 : 11 + 4 * (op + 1) < n) (hE4 : E (11 + 4 * (op + 1)) = .inr (3, [.int (nI rb.toNat), .int (nI rf), .int (nI rl)])) (hlt5 : 12 + 4 * (op + 1) < n) (hE5 : E (12 + 4 * (op + 1)) = .inr (3, [.int (nI qb.toNat), .int (nI qf), .int (nI ql)])) (hop : op < 20) : Met l yX0_openExpression (wm_ws yX0_openExpression cX0_openExpression 1 (some .int)) { frames := 3, cells := 0, slots := 0, locals := 63 } (va_Pc [.ref (b + 5)] (wm_G D C b n E)) (va_Qi (popen1 C b E fk fp op cn md rs pf pl rf rl qf ql nt h pb rb qb) (fun E' t => wm_P D b n E' t.heap) (wm_A b)) 0 0 (wm_A b) := by
  refine wm_ofW (by decide) (Nat.le_of_ble_eq_true rfl) (fun p e s m below meth c ls R args Q hRe hQ X hr hnm hP hS hl => ?_)
  have hl : lv_has ls 1 [(0, .ref (b + 5))] := hl
  have hfr : ∀ j, j ≠ 5 → j ≠ 9 + 4 * (op + 1) → j ≠ 10 + 4 * (op + 1) → j ≠ 11 + 4 * (op + 1) → j ≠ 12 + 4 * (op + 1) → E j = E j := fun _ _ _ _ _ _ => rfl
  refine lv_aload_n X.1 X.2.1 dX0_openExpression_0 rfl (lv_at hl 0 rfl) ?_
  refine wm_get X hP hlt0 hE0 rfl wm_inX0 5 (by decide) wq1_122 rfl dX0_openExpression_1 ?_
  refine lv_bipush (v := nI 20) X.1 X.2.1 dX0_openExpression_4 (by decide) ?_
  refine wm_icmp_lt (x := op) (y := 20) (tgt := 11) X (by omega) (by decide) dX0_openExpression_6 (by decide) (fun hc6 => ?_) (fun hc6 => ?_)
  · refine lv_aload_n X.1 X.2.1 dX0_openExpression_11 rfl (lv_at hl 0 rfl) ?_
    refine lv_dup X.1 X.2.1 dX0_openExpression_12 rfl ?_
    refine wm_get X hP hlt0 hE0 rfl wm_inX0 5 (by decide) wq1_122 rfl dX0_openExpression_13 ?_
    refine lv_iconst (v := nI 1) X.1 X.2.1 dX0_openExpression_16 (by decide) ?_
    refine wm_iadd (x := op) (y := 1) X dX0_openExpression_17 ?_
    refine wm_put (v := .int (nI (op + 1))) X hP hS hlt0 hE0 rfl wm_inX0 tyX0 tyX0_ok nmX0 5 (by decide) wq1_122 rfl rfl rfl (fs1 := [.int (nI fk), .int (nI fp), .ref (b + 6), .ref (b + 7), .ref (b + 8), .int (nI (op + 1)), .int (nI cn), .int (nI md), .int (nI nt.toNat), .int (nI rs)]) rfl (Nat.le_of_ble_eq_true rfl) dX0_openExpression_18 (fun H locs E2 hP hS hE0 hq => ?_)
    have hE1 := (hq 6 (by decide)).trans hE1
    have hE2 := (hq (9 + 4 * (op + 1)) (by omega)).trans hE2
    have hE3 := (hq (10 + 4 * (op + 1)) (by omega)).trans hE3
    have hE4 := (hq (11 + 4 * (op + 1)) (by omega)).trans hE4
    have hE5 := (hq (12 + 4 * (op + 1)) (by omega)).trans hE5
    have hfr : ∀ j, j ≠ 5 → j ≠ 9 + 4 * (op + 1) → j ≠ 10 + 4 * (op + 1) → j ≠ 11 + 4 * (op + 1) → j ≠ 12 + 4 * (op + 1) → E2 j = E j := fun j h0 h1 h2 h3 h4 => (hq j h0).trans (hfr j h0 h1 h2 h3 h4)
    refine lv_aload_n X.1 X.2.1 dX0_openExpression_21 rfl (lv_at hl 0 rfl) ?_
    refine wm_get X hP hlt0 hE0 rfl wm_inX0 2 (by decide) wq1_119 rfl dX0_openExpression_22 ?_
    refine lv_aload_n X.1 X.2.1 dX0_openExpression_25 rfl (lv_at hl 0 rfl) ?_
    refine wm_get X hP hlt0 hE0 rfl wm_inX0 5 (by decide) wq1_122 rfl dX0_openExpression_26 ?_
    refine wm_aald (i := (op + 1)) (q := b + (9 + 4 * (op + 1))) X hP hlt1 hE1 rfl (by omega) (by decide) rfl dX0_openExpression_29 ?_
    refine wm_callVv (k := 0) (As := []) (rest := []) X hP hS hlt2 hE2 rfl (kX1_beginExpression l D C b n E2 (9 + 4 * (op + 1)) (10 + 4 * (op + 1)) (11 + 4 * (op + 1)) (12 + 4 * (op + 1)) pf pl rf rl qf ql h pb rb qb hlt2 hE2 hlt3 hE3 hlt4 hE4 hlt5 hE5 (by omega) (by omega) (by omega) (by omega) (by omega) (by omega)) wq2_116 wq2_117 wq2_118 wq1_4 wq2_119 (by decide) (by rw [hRe]; exact ⟨Nat.le_of_ble_eq_true rfl, Nat.le_of_ble_eq_true rfl⟩) rfl hl.1 rfl (Nat.le_of_ble_eq_true rfl) (Nat.zero_le _) (Nat.zero_le _) dX0_openExpression_30 (fun E3 H locs hw hP hS => ?_)
    obtain ⟨hE2, hE3, hE4, hE5, hq⟩ := hw
    have hE0 := (hq 5 (by omega) (by omega) (by omega) (by omega)).trans hE0
    have hE1 := (hq 6 (by omega) (by omega) (by omega) (by omega)).trans hE1
    have hfr : ∀ j, j ≠ 5 → j ≠ 9 + 4 * (op + 1) → j ≠ 10 + 4 * (op + 1) → j ≠ 11 + 4 * (op + 1) → j ≠ 12 + 4 * (op + 1) → E3 j = E j := fun j h0 h1 h2 h3 h4 => (hq j h1 h2 h3 h4).trans (hfr j h0 h1 h2 h3 h4)
    refine lv_iconst (v := nI 0) X.1 X.2.1 dX0_openExpression_33 (by decide) ?_
    exact wm_iret (post := popen1 C b E fk fp op cn md rs pf pl rf rl qf ql nt h pb rb qb) X hr hP hS ⟨rfl, hE0, hE2, hE3, hE4, hE5, hfr⟩ hQ dX0_openExpression_34
  · exact absurd hc6 (by omega)
def popen0 (C : Nat → ClassId) (b : Nat) (E : Nat → va_E) (fk fp op cn md rs : Nat) (nt : Bool) : Int32 → (Nat → va_E) → Prop := fun r E' => r = nI 3 ∧ E = E'
set_option maxHeartbeats 4000000 in
set_option maxRecDepth 100000 in
theorem kopen0 (l : Launch) (D : va_G) (C : Nat → ClassId) (b n : Nat) (E : Nat → va_E) (fk fp op cn md rs : Nat) (nt : Bool) (hlt0 : 5 < n) (hE0 : E 5 = .inr (0, [.int (nI fk), .int (nI fp), .ref (b + 6), .ref (b + 7), .ref (b + 8), .int (nI op), .int (nI cn), .int (nI md), .int (nI nt.toNat), .int (nI rs)])) (hop : op = 20) : Met l yX0_openExpression (wm_ws yX0_openExpression cX0_openExpression 1 (some .int)) { frames := 0, cells := 0, slots := 0, locals := 0 } (va_Pc [.ref (b + 5)] (wm_G D C b n E)) (va_Qi (popen0 C b E fk fp op cn md rs nt) (fun E' t => wm_P D b n E' t.heap) (wm_A b)) 0 0 (wm_A b) := by
  refine wm_ofW (by decide) (Nat.le_of_ble_eq_true rfl) (fun p e s m below meth c ls R args Q hRe hQ X hr hnm hP hS hl => ?_)
  have hl : lv_has ls 1 [(0, .ref (b + 5))] := hl
  refine lv_aload_n X.1 X.2.1 dX0_openExpression_0 rfl (lv_at hl 0 rfl) ?_
  refine wm_get X hP hlt0 hE0 rfl wm_inX0 5 (by decide) wq1_122 rfl dX0_openExpression_1 ?_
  refine lv_bipush (v := nI 20) X.1 X.2.1 dX0_openExpression_4 (by decide) ?_
  refine wm_icmp_lt (x := op) (y := 20) (tgt := 11) X (by omega) (by decide) dX0_openExpression_6 (by decide) (fun hc6 => ?_) (fun hc6 => ?_)
  · exact absurd hc6 (by omega)
  · refine lv_iconst (v := nI 3) X.1 X.2.1 dX0_openExpression_9 (by decide) ?_
    exact wm_iret (post := popen0 C b E fk fp op cn md rs nt) X hr hP hS ⟨rfl, rfl⟩ hQ dX0_openExpression_10
def pclose1 (C : Nat → ClassId) (b : Nat) (E : Nat → va_E) (fk fp op cn md rs pf pl rf rl qf ql pf2 pl2 rf2 rl2 qf2 ql2 : Nat) (nt h pb rb qb h2 pb2 rb2 qb2 : Bool) (fl : Nat → Nat) : Int32 → (Nat → va_E) → Prop := fun r E' => r = nI 0 ∧ E' 5 = .inr (0, [.int (nI fk), .int (nI fp), .ref (b + 6), .ref (b + 7), .ref (b + 8), .int (nI op), .int (nI cn), .int (nI md), .int (nI nt.toNat), .int (nI rs)]) ∧ E' 7 = wm_I C 24 (wm_lk (wm_lk fl cn rl qf) cn rl2 qf2) ∧ E' (9 + 4 * (op + 1)) = .inr (1, [.ref (b + (10 + 4 * (op + 1))), .ref (b + (11 + 4 * (op + 1))), .ref (b + (12 + 4 * (op + 1))), .int (nI false.toNat)]) ∧ E' (10 + 4 * (op + 1)) = .inr (3, [.int (nI (pb || (rb && qb)).toNat), .int (nI (pf ||| (rf ||| (if rb then qf else 0)))), .int (nI (pl ||| (ql ||| (if qb then rl else 0))))]) ∧ E' (11 + 4 * (op + 1)) = .inr (3, [.int (nI true.toNat), .int (nI 0), .int (nI 0)]) ∧ E' (12 + 4 * (op + 1)) = .inr (3, [.int (nI true.toNat), .int (nI 0), .int (nI 0)]) ∧ E' (9 + 4 * op) = .inr (1, [.ref (b + (10 + 4 * op)), .ref (b + (11 + 4 * op)), .ref (b + (12 + 4 * op)), .int (nI true.toNat)]) ∧ E' (10 + 4 * op) = .inr (3, [.int (nI pb2.toNat), .int (nI pf2), .int (nI pl2)]) ∧ E' (11 + 4 * op) = .inr (3, [.int (nI (rb2 && qb2).toNat), .int (nI (rf2 ||| (if rb2 then qf2 else 0))), .int (nI (ql2 ||| (if qb2 then rl2 else 0)))]) ∧ E' (12 + 4 * op) = .inr (3, [.int (nI (pb || (rb && qb)).toNat), .int (nI (pf ||| (rf ||| (if rb then qf else 0)))), .int (nI (pl ||| (ql ||| (if qb then rl else 0))))]) ∧ (∀ j, j ≠ 5 → j ≠ 7 → j ≠ 9 + 4 * (op + 1) → j ≠ 10 + 4 * (op + 1) → j ≠ 11 + 4 * (op + 1) → j ≠ 12 + 4 * (op + 1) → j ≠ 9 + 4 * op → j ≠ 10 + 4 * op → j ≠ 11 + 4 * op → j ≠ 12 + 4 * op → E' j = E j)
set_option maxHeartbeats 4000000 in
set_option maxRecDepth 100000 in
theorem kclose1 (l : Launch) (D : va_G) (C : Nat → ClassId) (b n : Nat) (E : Nat → va_E) (fk fp op cn md rs pf pl rf rl qf ql pf2 pl2 rf2 rl2 qf2 ql2 : Nat) (nt h pb rb qb h2 pb2 rb2 qb2 : Bool) (fl : Nat → Nat) (hlt0 : 5 < n) (hE0 : E 5 = .inr (0, [.int (nI fk), .int (nI fp), .ref (b + 6), .ref (b + 7), .ref (b + 8), .int (nI (op + 1)), .int (nI cn), .int (nI md), .int (nI nt.toNat), .int (nI rs)])) (hlt1 : 6 < n) (hE1 : E 6 = wm_Q C 5 21 (fun i => some (b + (9 + 4 * i)))) (hlt2 : 7 < n) (hE2 : E 7 = wm_I C 24 fl) (hlt3 : 9 + 4 * (op + 1) < n) (hE3 : E (9 + 4 * (op + 1)) = .inr (1, [.ref (b + (10 + 4 * (op + 1))), .ref (b + (11 + 4 * (op + 1))), .ref (b + (12 + 4 * (op + 1))), .int (nI h.toNat)])) (hlt4 : 10 + 4 * (op + 1) < n) (hE4 : E (10 + 4 * (op + 1)) = .inr (3, [.int (nI pb.toNat), .int (nI pf), .int (nI pl)])) (hlt5 : 11 + 4 * (op + 1) < n) (hE5 : E (11 + 4 * (op + 1)) = .inr (3, [.int (nI rb.toNat), .int (nI rf), .int (nI rl)])) (hlt6 : 12 + 4 * (op + 1) < n) (hE6 : E (12 + 4 * (op + 1)) = .inr (3, [.int (nI qb.toNat), .int (nI qf), .int (nI ql)])) (hlt7 : 9 + 4 * op < n) (hE7 : E (9 + 4 * op) = .inr (1, [.ref (b + (10 + 4 * op)), .ref (b + (11 + 4 * op)), .ref (b + (12 + 4 * op)), .int (nI h2.toNat)])) (hlt8 : 10 + 4 * op < n) (hE8 : E (10 + 4 * op) = .inr (3, [.int (nI pb2.toNat), .int (nI pf2), .int (nI pl2)])) (hlt9 : 11 + 4 * op < n) (hE9 : E (11 + 4 * op) = .inr (3, [.int (nI rb2.toNat), .int (nI rf2), .int (nI rl2)])) (hlt10 : 12 + 4 * op < n) (hE10 : E (12 + 4 * op) = .inr (3, [.int (nI qb2.toNat), .int (nI qf2), .int (nI ql2)])) (hop : op < 20) (hcn : cn ≤ 24) (hcp : 1 ≤ cn) (hrl : rl < 2 ^ 32) (hrl2 : rl2 < 2 ^ 32) : Met l yX0_closeExpression (wm_ws yX0_closeExpression cX0_closeExpression 2 (some .int)) { frames := 3, cells := 0, slots := 0, locals := 68 } (va_Pc [.ref (b + 5)] (wm_G D C b n E)) (va_Qi (pclose1 C b E fk fp op cn md rs pf pl rf rl qf ql pf2 pl2 rf2 rl2 qf2 ql2 nt h pb rb qb h2 pb2 rb2 qb2 fl) (fun E' t => wm_P D b n E' t.heap) (wm_A b)) 0 0 (wm_A b) := by
  refine wm_ofW (by decide) (Nat.le_of_ble_eq_true rfl) (fun p e s m below meth c ls R args Q hRe hQ X hr hnm hP hS hl => ?_)
  have hl : lv_has ls 2 [(0, .ref (b + 5))] := hl
  have hfr : ∀ j, j ≠ 5 → j ≠ 7 → j ≠ 9 + 4 * (op + 1) → j ≠ 10 + 4 * (op + 1) → j ≠ 11 + 4 * (op + 1) → j ≠ 12 + 4 * (op + 1) → j ≠ 9 + 4 * op → j ≠ 10 + 4 * op → j ≠ 11 + 4 * op → j ≠ 12 + 4 * op → E j = E j := fun _ _ _ _ _ _ _ _ _ _ _ => rfl
  refine lv_aload_n X.1 X.2.1 dX0_closeExpression_0 rfl (lv_at hl 0 rfl) ?_
  refine wm_get X hP hlt0 hE0 rfl wm_inX0 5 (by decide) wq1_122 rfl dX0_closeExpression_1 ?_
  refine wm_if_gt (x := (op + 1)) (tgt := 9) X (by omega) dX0_closeExpression_4 (by decide) (fun hc4 => ?_) (fun hc4 => ?_)
  · refine lv_aload_n X.1 X.2.1 dX0_closeExpression_9 rfl (lv_at hl 0 rfl) ?_
    refine wm_get X hP hlt0 hE0 rfl wm_inX0 2 (by decide) wq1_119 rfl dX0_closeExpression_10 ?_
    refine lv_aload_n X.1 X.2.1 dX0_closeExpression_13 rfl (lv_at hl 0 rfl) ?_
    refine wm_get X hP hlt0 hE0 rfl wm_inX0 5 (by decide) wq1_122 rfl dX0_closeExpression_14 ?_
    refine wm_aald (i := (op + 1)) (q := b + (9 + 4 * (op + 1))) X hP hlt1 hE1 rfl (by omega) (by decide) rfl dX0_closeExpression_17 ?_
    refine lv_astore_n (lv' := [(1, .ref (b + (9 + 4 * (op + 1)))), (0, .ref (b + 5))]) X.1 X.2.1 dX0_closeExpression_18 rfl hl (by decide) rfl (fun ls hl => ?_)
    refine lv_aload_n X.1 X.2.1 dX0_closeExpression_19 rfl (lv_at hl 1 rfl) ?_
    refine lv_aload_n X.1 X.2.1 dX0_closeExpression_20 rfl (lv_at hl 0 rfl) ?_
    refine wm_callVv (k := 1) (As := [.ref (b + (9 + 4 * (op + 1)))]) (rest := []) X hP hS hlt0 hE0 rfl (kX0_endPart l D C b n E fk fp (op + 1) cn md rs (9 + 4 * (op + 1)) (10 + 4 * (op + 1)) (11 + 4 * (op + 1)) (12 + 4 * (op + 1)) pf pl rf rl qf ql nt h pb rb qb fl hlt0 hE0 hlt2 hE2 hlt3 hE3 hlt4 hE4 hlt5 hE5 hlt6 hE6 (by omega) (by omega) (by omega) (by omega) (by omega) (by omega) (by omega) (by omega) (by omega) (by omega)) wq2_164 wq2_166 wqP1_10 wq1_3 wq2_167 (by decide) (by rw [hRe]; exact ⟨Nat.le_of_ble_eq_true rfl, Nat.le_of_ble_eq_true rfl⟩) rfl hl.1 rfl (Nat.le_of_ble_eq_true rfl) (Nat.zero_le _) (Nat.zero_le _) dX0_closeExpression_21 (fun E2 H locs hw hP hS => ?_)
    obtain ⟨hE2, hE3, hE4, hE5, hE6, hq⟩ := hw
    have hE0 := (hq 5 (by decide) (by omega) (by omega) (by omega) (by omega)).trans hE0
    have hE1 := (hq 6 (by decide) (by omega) (by omega) (by omega) (by omega)).trans hE1
    have hE7 := (hq (9 + 4 * op) (by omega) (by omega) (by omega) (by omega) (by omega)).trans hE7
    have hE8 := (hq (10 + 4 * op) (by omega) (by omega) (by omega) (by omega) (by omega)).trans hE8
    have hE9 := (hq (11 + 4 * op) (by omega) (by omega) (by omega) (by omega) (by omega)).trans hE9
    have hE10 := (hq (12 + 4 * op) (by omega) (by omega) (by omega) (by omega) (by omega)).trans hE10
    have hfr : ∀ j, j ≠ 5 → j ≠ 7 → j ≠ 9 + 4 * (op + 1) → j ≠ 10 + 4 * (op + 1) → j ≠ 11 + 4 * (op + 1) → j ≠ 12 + 4 * (op + 1) → j ≠ 9 + 4 * op → j ≠ 10 + 4 * op → j ≠ 11 + 4 * op → j ≠ 12 + 4 * op → E2 j = E j := fun j h0 h1 h2 h3 h4 h5 h6 h7 h8 h9 => (hq j h1 h2 h3 h4 h5).trans (hfr j h0 h1 h2 h3 h4 h5 h6 h7 h8 h9)
    refine lv_aload_n X.1 X.2.1 dX0_closeExpression_24 rfl (lv_at hl 1 rfl) ?_
    refine lv_dup X.1 X.2.1 dX0_closeExpression_25 rfl ?_
    refine wm_get X hP hlt0 hE0 rfl wm_inX0 5 (by decide) wq1_122 rfl dX0_closeExpression_26 ?_
    refine lv_iconst (v := nI 1) X.1 X.2.1 dX0_closeExpression_29 (by decide) ?_
    refine wm_isub (x := (op + 1)) (y := 1) X (by omega) dX0_closeExpression_30 ?_
    rw [show (op + 1) - 1 = op from by omega]
    refine wm_put (v := .int (nI op)) X hP hS hlt0 hE0 rfl wm_inX0 tyX0 tyX0_ok nmX0 5 (by decide) wq1_122 rfl rfl rfl (fs1 := [.int (nI fk), .int (nI fp), .ref (b + 6), .ref (b + 7), .ref (b + 8), .int (nI op), .int (nI cn), .int (nI md), .int (nI nt.toNat), .int (nI rs)]) rfl (Nat.le_of_ble_eq_true rfl) dX0_closeExpression_31 (fun H locs E3 hP hS hE0 hq => ?_)
    have hE1 := (hq 6 (by decide)).trans hE1
    have hE2 := (hq 7 (by decide)).trans hE2
    have hE3 := (hq (9 + 4 * (op + 1)) (by omega)).trans hE3
    have hE4 := (hq (10 + 4 * (op + 1)) (by omega)).trans hE4
    have hE5 := (hq (11 + 4 * (op + 1)) (by omega)).trans hE5
    have hE6 := (hq (12 + 4 * (op + 1)) (by omega)).trans hE6
    have hE7 := (hq (9 + 4 * op) (by omega)).trans hE7
    have hE8 := (hq (10 + 4 * op) (by omega)).trans hE8
    have hE9 := (hq (11 + 4 * op) (by omega)).trans hE9
    have hE10 := (hq (12 + 4 * op) (by omega)).trans hE10
    have hfr : ∀ j, j ≠ 5 → j ≠ 7 → j ≠ 9 + 4 * (op + 1) → j ≠ 10 + 4 * (op + 1) → j ≠ 11 + 4 * (op + 1) → j ≠ 12 + 4 * (op + 1) → j ≠ 9 + 4 * op → j ≠ 10 + 4 * op → j ≠ 11 + 4 * op → j ≠ 12 + 4 * op → E3 j = E j := fun j h0 h1 h2 h3 h4 h5 h6 h7 h8 h9 => (hq j h0).trans (hfr j h0 h1 h2 h3 h4 h5 h6 h7 h8 h9)
    refine lv_aload_n X.1 X.2.1 dX0_closeExpression_34 rfl (lv_at hl 1 rfl) ?_
    refine lv_aload_n X.1 X.2.1 dX0_closeExpression_35 rfl (lv_at hl 1 rfl) ?_
    refine wm_get X hP hlt0 hE0 rfl wm_inX0 2 (by decide) wq1_119 rfl dX0_closeExpression_36 ?_
    refine lv_aload_n X.1 X.2.1 dX0_closeExpression_39 rfl (lv_at hl 1 rfl) ?_
    refine wm_get X hP hlt0 hE0 rfl wm_inX0 5 (by decide) wq1_122 rfl dX0_closeExpression_40 ?_
    refine wm_aald (i := op) (q := b + (9 + 4 * op)) X hP hlt1 hE1 rfl (by omega) (by decide) rfl dX0_closeExpression_43 ?_
    refine lv_aload_n X.1 X.2.1 dX0_closeExpression_44 rfl (lv_at hl 0 rfl) ?_
    refine wm_get X hP hlt3 hE3 rfl wm_inX1 0 (by decide) wq1_99 rfl dX0_closeExpression_45 ?_
    refine wm_get X hP hlt4 hE4 rfl wm_inX3 0 (by decide) wq1_85 rfl dX0_closeExpression_48 ?_
    refine lv_aload_n X.1 X.2.1 dX0_closeExpression_51 rfl (lv_at hl 0 rfl) ?_
    refine wm_get X hP hlt3 hE3 rfl wm_inX1 0 (by decide) wq1_99 rfl dX0_closeExpression_52 ?_
    refine wm_get X hP hlt4 hE4 rfl wm_inX3 1 (by decide) wq1_87 rfl dX0_closeExpression_55 ?_
    refine lv_aload_n X.1 X.2.1 dX0_closeExpression_58 rfl (lv_at hl 0 rfl) ?_
    refine wm_get X hP hlt3 hE3 rfl wm_inX1 0 (by decide) wq1_99 rfl dX0_closeExpression_59 ?_
    refine wm_get X hP hlt4 hE4 rfl wm_inX3 2 (by decide) wq1_89 rfl dX0_closeExpression_62 ?_
    refine wm_callVv (k := 4) (As := [.ref (b + (9 + 4 * op)), .int (nI (pb || (rb && qb)).toNat), .int (nI (pf ||| (rf ||| (if rb then qf else 0)))), .int (nI (pl ||| (ql ||| (if qb then rl else 0))))]) (rest := []) X hP hS hlt0 hE0 rfl (kX0_addThing l D C b n E3 fk fp op cn md rs (9 + 4 * op) (10 + 4 * op) (11 + 4 * op) (12 + 4 * op) pf2 pl2 rf2 rl2 qf2 ql2 (pf ||| (rf ||| (if rb then qf else 0))) (pl ||| (ql ||| (if qb then rl else 0))) nt h2 pb2 rb2 qb2 (pb || (rb && qb)) (wm_lk fl cn rl qf) hlt0 hE0 hlt2 hE2 hlt7 hE7 hlt8 hE8 hlt9 hE9 hlt10 hE10 (by omega) (by omega) (by omega) (by omega) (by omega) (by omega) (by omega) (by omega) (by omega) (by omega)) wq2_139 wq2_141 wqP1_5 wq1_3 wq2_142 (by decide) (by rw [hRe]; exact ⟨Nat.le_of_ble_eq_true rfl, Nat.le_of_ble_eq_true rfl⟩) rfl hl.1 rfl (Nat.le_of_ble_eq_true rfl) (Nat.zero_le _) (Nat.zero_le _) dX0_closeExpression_65 (fun E4 H locs hw hP hS => ?_)
    obtain ⟨hE2, hE7, hE9, hE10, hq⟩ := hw
    have hE0 := (hq 5 (by decide) (by omega) (by omega) (by omega)).trans hE0
    have hE1 := (hq 6 (by decide) (by omega) (by omega) (by omega)).trans hE1
    have hE3 := (hq (9 + 4 * (op + 1)) (by omega) (by omega) (by omega) (by omega)).trans hE3
    have hE4 := (hq (10 + 4 * (op + 1)) (by omega) (by omega) (by omega) (by omega)).trans hE4
    have hE5 := (hq (11 + 4 * (op + 1)) (by omega) (by omega) (by omega) (by omega)).trans hE5
    have hE6 := (hq (12 + 4 * (op + 1)) (by omega) (by omega) (by omega) (by omega)).trans hE6
    have hE8 := (hq (10 + 4 * op) (by omega) (by omega) (by omega) (by omega)).trans hE8
    have hfr : ∀ j, j ≠ 5 → j ≠ 7 → j ≠ 9 + 4 * (op + 1) → j ≠ 10 + 4 * (op + 1) → j ≠ 11 + 4 * (op + 1) → j ≠ 12 + 4 * (op + 1) → j ≠ 9 + 4 * op → j ≠ 10 + 4 * op → j ≠ 11 + 4 * op → j ≠ 12 + 4 * op → E4 j = E j := fun j h0 h1 h2 h3 h4 h5 h6 h7 h8 h9 => (hq j h1 h6 h8 h9).trans (hfr j h0 h1 h2 h3 h4 h5 h6 h7 h8 h9)
    refine lv_iconst (v := nI 0) X.1 X.2.1 dX0_closeExpression_68 (by decide) ?_
    exact wm_iret (post := pclose1 C b E fk fp op cn md rs pf pl rf rl qf ql pf2 pl2 rf2 rl2 qf2 ql2 nt h pb rb qb h2 pb2 rb2 qb2 fl) X hr hP hS ⟨rfl, hE0, hE2, hE3, hE4, hE5, hE6, hE7, hE8, hE9, hE10, hfr⟩ hQ dX0_closeExpression_69
  · exact absurd hc4 (by omega)
def pclose0 (C : Nat → ClassId) (b : Nat) (E : Nat → va_E) (fk fp op cn md rs : Nat) (nt : Bool) : Int32 → (Nat → va_E) → Prop := fun r E' => r = nI 1 ∧ E = E'
set_option maxHeartbeats 4000000 in
set_option maxRecDepth 100000 in
theorem kclose0 (l : Launch) (D : va_G) (C : Nat → ClassId) (b n : Nat) (E : Nat → va_E) (fk fp op cn md rs : Nat) (nt : Bool) (hlt0 : 5 < n) (hE0 : E 5 = .inr (0, [.int (nI fk), .int (nI fp), .ref (b + 6), .ref (b + 7), .ref (b + 8), .int (nI op), .int (nI cn), .int (nI md), .int (nI nt.toNat), .int (nI rs)])) (hop : op = 0) : Met l yX0_closeExpression (wm_ws yX0_closeExpression cX0_closeExpression 2 (some .int)) { frames := 0, cells := 0, slots := 0, locals := 0 } (va_Pc [.ref (b + 5)] (wm_G D C b n E)) (va_Qi (pclose0 C b E fk fp op cn md rs nt) (fun E' t => wm_P D b n E' t.heap) (wm_A b)) 0 0 (wm_A b) := by
  refine wm_ofW (by decide) (Nat.le_of_ble_eq_true rfl) (fun p e s m below meth c ls R args Q hRe hQ X hr hnm hP hS hl => ?_)
  have hl : lv_has ls 2 [(0, .ref (b + 5))] := hl
  refine lv_aload_n X.1 X.2.1 dX0_closeExpression_0 rfl (lv_at hl 0 rfl) ?_
  refine wm_get X hP hlt0 hE0 rfl wm_inX0 5 (by decide) wq1_122 rfl dX0_closeExpression_1 ?_
  refine wm_if_gt (x := op) (tgt := 9) X (by omega) dX0_closeExpression_4 (by decide) (fun hc4 => ?_) (fun hc4 => ?_)
  · exact absurd hc4 (by omega)
  · refine lv_iconst (v := nI 1) X.1 X.2.1 dX0_closeExpression_7 (by decide) ?_
    exact wm_iret (post := pclose0 C b E fk fp op cn md rs nt) X hr hP hS ⟨rfl, rfl⟩ hQ dX0_closeExpression_8
def pX6_letterOf (C : Nat → ClassId) (b : Nat) (E : Nat → va_E) (x : Nat) : Int32 → (Nat → va_E) → Prop := fun r E' => r = nI (wm_lo x) ∧ E = E'
set_option maxHeartbeats 4000000 in
set_option maxRecDepth 100000 in
theorem kX6_letterOf (l : Launch) (D : va_G) (C : Nat → ClassId) (b n : Nat) (E : Nat → va_E) (x : Nat) (hx : x < 256) : Met l yX6_letterOf (wm_ws yX6_letterOf cX6_letterOf 1 (some .int)) { frames := 0, cells := 0, slots := 0, locals := 0 } (va_Pc [.int (wm_sb x)] (wm_G D C b n E)) (va_Qi (pX6_letterOf C b E x) (fun E' t => wm_P D b n E' t.heap) (wm_A b)) 0 0 (wm_A b) := by
  refine wm_ofW (by decide) (Nat.le_of_ble_eq_true rfl) (fun p e s m below meth c ls R args Q hRe hQ X hr hnm hP hS hl => ?_)
  have hl : lv_has ls 1 [(0, .int (wm_sb x))] := hl
  refine lv_iload_n X.1 X.2.1 dX6_letterOf_0 rfl (lv_at hl 0 rfl) ?_
  refine lv_bipush (v := nI 97) X.1 X.2.1 dX6_letterOf_1 (by decide) ?_
  refine lv_icmp_lt (tgt := 19) X.1 X.2.1 dX6_letterOf_3 (by decide) (fun hc3 => ?_) (fun hc3 => ?_)
  · refine lv_iconst (v := nI 4294967295) X.1 X.2.1 dX6_letterOf_19 (by decide) ?_
    exact wm_iret (post := pX6_letterOf C b E x) X hr hP hS ⟨(by rw [wm_sb_lt97 x hx hc3]), rfl⟩ hQ dX6_letterOf_20
  · refine lv_iload_n X.1 X.2.1 dX6_letterOf_6 rfl (lv_at hl 0 rfl) ?_
    refine lv_bipush (v := nI 105) X.1 X.2.1 dX6_letterOf_7 (by decide) ?_
    refine lv_icmp_ge (tgt := 19) X.1 X.2.1 dX6_letterOf_9 (by decide) (fun hc9 => ?_) (fun hc9 => ?_)
    · refine lv_iconst (v := nI 4294967295) X.1 X.2.1 dX6_letterOf_19 (by decide) ?_
      exact wm_iret (post := pX6_letterOf C b E x) X hr hP hS ⟨(by rw [wm_sb_ge105 x hx hc9]), rfl⟩ hQ dX6_letterOf_20
    · refine lv_iload_n X.1 X.2.1 dX6_letterOf_12 rfl (lv_at hl 0 rfl) ?_
      refine lv_bipush (v := nI 97) X.1 X.2.1 dX6_letterOf_13 (by decide) ?_
      refine lv_isub X.1 X.2.1 dX6_letterOf_15 ?_
      rw [(wm_sb_in x hx hc3 hc9).1]
      refine lv_goto (tgt := 20) X.1 X.2.1 dX6_letterOf_16 (by decide) ?_
      exact wm_iret (post := pX6_letterOf C b E x) X hr hP hS ⟨rfl, rfl⟩ hQ dX6_letterOf_20
def pX0_addLetter (C : Nat → ClassId) (b : Nat) (E : Nat → va_E) (fk fp op cn md rs k : Nat) (nt : Bool) (lt : Nat → Nat) : Int32 → (Nat → va_E) → Prop := fun r E' => r = nI 0 ∧ E' 5 = .inr (0, [.int (nI fk), .int (nI fp), .ref (b + 6), .ref (b + 7), .ref (b + 8), .int (nI op), .int (nI cn), .int (nI 3), .int (nI nt.toNat), .int (nI k)]) ∧ E' 8 = wm_I C 24 (va_up lt (cn - 1) (lt (cn - 1) ||| 1 <<< k)) ∧ (∀ j, j ≠ 5 → j ≠ 8 → E' j = E j)
set_option maxHeartbeats 4000000 in
set_option maxRecDepth 100000 in
theorem kX0_addLetter (l : Launch) (D : va_G) (C : Nat → ClassId) (b n : Nat) (E : Nat → va_E) (fk fp op cn md rs k : Nat) (nt : Bool) (lt : Nat → Nat) (hlt0 : 5 < n) (hE0 : E 5 = .inr (0, [.int (nI fk), .int (nI fp), .ref (b + 6), .ref (b + 7), .ref (b + 8), .int (nI op), .int (nI cn), .int (nI md), .int (nI nt.toNat), .int (nI rs)])) (hlt1 : 8 < n) (hE1 : E 8 = wm_I C 24 lt) (hcn : cn ≤ 24) (hcp : 1 ≤ cn) (hk : k < 8) : Met l yX0_addLetter (wm_ws yX0_addLetter cX0_addLetter 2 (some .int)) { frames := 0, cells := 0, slots := 0, locals := 0 } (va_Pc [.ref (b + 5), .int (nI k)] (wm_G D C b n E)) (va_Qi (pX0_addLetter C b E fk fp op cn md rs k nt lt) (fun E' t => wm_P D b n E' t.heap) (wm_A b)) 0 0 (wm_A b) := by
  refine wm_ofW (by decide) (Nat.le_of_ble_eq_true rfl) (fun p e s m below meth c ls R args Q hRe hQ X hr hnm hP hS hl => ?_)
  have hl : lv_has ls 2 [(0, .ref (b + 5)), (1, .int (nI k))] := hl
  have hfr : ∀ j, j ≠ 5 → j ≠ 8 → E j = E j := fun _ _ _ => rfl
  refine lv_aload_n X.1 X.2.1 dX0_addLetter_0 rfl (lv_at hl 0 rfl) ?_
  refine wm_get X hP hlt0 hE0 rfl wm_inX0 4 (by decide) wq1_121 rfl dX0_addLetter_1 ?_
  refine lv_aload_n X.1 X.2.1 dX0_addLetter_4 rfl (lv_at hl 0 rfl) ?_
  refine wm_get X hP hlt0 hE0 rfl wm_inX0 6 (by decide) wq1_123 rfl dX0_addLetter_5 ?_
  refine lv_iconst (v := nI 1) X.1 X.2.1 dX0_addLetter_8 (by decide) ?_
  refine wm_isub (x := cn) (y := 1) X (by omega) dX0_addLetter_9 ?_
  refine lv_dup2_11 X.1 X.2.1 dX0_addLetter_10 rfl rfl ?_
  refine wm_iald (i := (cn - 1)) X hP hlt1 hE1 (by omega) (by decide) dX0_addLetter_11 ?_
  refine lv_iconst (v := nI 1) X.1 X.2.1 dX0_addLetter_12 (by decide) ?_
  refine lv_iload_n X.1 X.2.1 dX0_addLetter_13 rfl (lv_at hl 1 rfl) ?_
  refine wm_ishl (x := 1) (y := k) X (by omega) dX0_addLetter_14 ?_
  refine wm_ior (x := (lt (cn - 1))) (y := (1 <<< k)) X dX0_addLetter_15 ?_
  refine wm_iast (i := (cn - 1)) (x := ((lt (cn - 1)) ||| (1 <<< k))) X hP hS hlt1 hE1 (by omega) (by decide) dX0_addLetter_16 (fun H locs E1 hP hS hE1 hq => ?_)
  have hE0 := (hq 5 (by decide)).trans hE0
  have hfr : ∀ j, j ≠ 5 → j ≠ 8 → E1 j = E j := fun j h0 h1 => (hq j h1).trans (hfr j h0 h1)
  refine lv_aload_n X.1 X.2.1 dX0_addLetter_17 rfl (lv_at hl 0 rfl) ?_
  refine lv_iload_n X.1 X.2.1 dX0_addLetter_18 rfl (lv_at hl 1 rfl) ?_
  refine wm_put (v := .int (nI k)) X hP hS hlt0 hE0 rfl wm_inX0 tyX0 tyX0_ok nmX0 9 (by decide) wq1_126 rfl rfl rfl (fs1 := [.int (nI fk), .int (nI fp), .ref (b + 6), .ref (b + 7), .ref (b + 8), .int (nI op), .int (nI cn), .int (nI md), .int (nI nt.toNat), .int (nI k)]) rfl (Nat.le_of_ble_eq_true rfl) dX0_addLetter_19 (fun H locs E2 hP hS hE0 hq => ?_)
  have hE1 := (hq 8 (by decide)).trans hE1
  have hfr : ∀ j, j ≠ 5 → j ≠ 8 → E2 j = E j := fun j h0 h1 => (hq j h0).trans (hfr j h0 h1)
  refine lv_aload_n X.1 X.2.1 dX0_addLetter_22 rfl (lv_at hl 0 rfl) ?_
  refine lv_iconst (v := nI 3) X.1 X.2.1 dX0_addLetter_23 (by decide) ?_
  refine wm_put (v := .int (nI 3)) X hP hS hlt0 hE0 rfl wm_inX0 tyX0 tyX0_ok nmX0 7 (by decide) wq1_124 rfl rfl rfl (fs1 := [.int (nI fk), .int (nI fp), .ref (b + 6), .ref (b + 7), .ref (b + 8), .int (nI op), .int (nI cn), .int (nI 3), .int (nI nt.toNat), .int (nI k)]) rfl (Nat.le_of_ble_eq_true rfl) dX0_addLetter_24 (fun H locs E3 hP hS hE0 hq => ?_)
  have hE1 := (hq 8 (by decide)).trans hE1
  have hfr : ∀ j, j ≠ 5 → j ≠ 8 → E3 j = E j := fun j h0 h1 => (hq j h0).trans (hfr j h0 h1)
  refine lv_iconst (v := nI 0) X.1 X.2.1 dX0_addLetter_27 (by decide) ?_
  exact wm_iret (post := pX0_addLetter C b E fk fp op cn md rs k nt lt) X hr hP hS ⟨rfl, hE0, hE1, hfr⟩ hQ dX0_addLetter_28
def prange1 (C : Nat → ClassId) (b : Nat) (E : Nat → va_E) (fk fp op cn md rs k : Nat) (nt : Bool) (lt : Nat → Nat) : Int32 → (Nat → va_E) → Prop := fun r E' => r = nI 0 ∧ E' 5 = .inr (0, [.int (nI fk), .int (nI fp), .ref (b + 6), .ref (b + 7), .ref (b + 8), .int (nI op), .int (nI cn), .int (nI 5), .int (nI nt.toNat), .int (nI rs)]) ∧ E' 8 = wm_I C 24 (va_up lt (cn - 1) (wm_rg (lt (cn - 1)) rs (k + 1))) ∧ (∀ j, j ≠ 5 → j ≠ 8 → E' j = E j)
set_option maxHeartbeats 4000000 in
set_option maxRecDepth 100000 in
theorem krange1 (l : Launch) (D : va_G) (C : Nat → ClassId) (b n : Nat) (E : Nat → va_E) (fk fp op cn md rs k : Nat) (nt : Bool) (lt : Nat → Nat) (hlt0 : 5 < n) (hE0 : E 5 = .inr (0, [.int (nI fk), .int (nI fp), .ref (b + 6), .ref (b + 7), .ref (b + 8), .int (nI op), .int (nI cn), .int (nI md), .int (nI nt.toNat), .int (nI rs)])) (hlt1 : 8 < n) (hE1 : E 8 = wm_I C 24 lt) (hcn : cn ≤ 24) (hcp : 1 ≤ cn) (hk : k < 8) (hrs : rs ≤ k) : Met l yX0_addRange (wm_ws yX0_addRange cX0_addRange 3 (some .int)) { frames := 0, cells := 0, slots := 0, locals := 0 } (va_Pc [.ref (b + 5), .int (nI k)] (wm_G D C b n E)) (va_Qi (prange1 C b E fk fp op cn md rs k nt lt) (fun E' t => wm_P D b n E' t.heap) (wm_A b)) 0 0 (wm_A b) := by
  refine wm_ofW (by decide) (Nat.le_of_ble_eq_true rfl) (fun p e s m below meth c ls R args Q hRe hQ X hr hnm hP hS hl => ?_)
  have hl : lv_has ls 3 [(0, .ref (b + 5)), (1, .int (nI k))] := hl
  have hfr : ∀ j, j ≠ 5 → j ≠ 8 → E j = E j := fun _ _ _ => rfl
  refine lv_iload_n X.1 X.2.1 dX0_addRange_0 rfl (lv_at hl 1 rfl) ?_
  refine lv_aload_n X.1 X.2.1 dX0_addRange_1 rfl (lv_at hl 0 rfl) ?_
  refine wm_get X hP hlt0 hE0 rfl wm_inX0 9 (by decide) wq1_126 rfl dX0_addRange_2 ?_
  refine wm_icmp_ge (x := k) (y := rs) (tgt := 10) X (by omega) (by omega) dX0_addRange_5 (by decide) (fun hc5 => ?_) (fun hc5 => ?_)
  · refine lv_aload_n X.1 X.2.1 dX0_addRange_10 rfl (lv_at hl 0 rfl) ?_
    refine wm_get X hP hlt0 hE0 rfl wm_inX0 9 (by decide) wq1_126 rfl dX0_addRange_11 ?_
    refine lv_istore_n (lv' := [(2, .int (nI rs)), (0, .ref (b + 5)), (1, .int (nI k))]) X.1 X.2.1 dX0_addRange_14 rfl hl (by decide) rfl (fun ls hl => ?_)
    have L15 : ∀ (fu : Nat) (i : Nat) (f1 : Nat → Nat), 9 - i < fu → (rs ≤ i) → (i ≤ k + 1) → (f1 = va_up lt (cn - 1) (wm_rg (lt (cn - 1)) rs i)) → ∀ (E2 : Nat → va_E) (H : Heap) (locs : List Loc) (ls : Array Slot), wm_P D b n E2 H → wm_S b s.heap H locs → E2 5 = .inr (0, [.int (nI fk), .int (nI fp), .ref (b + 6), .ref (b + 7), .ref (b + 8), .int (nI op), .int (nI cn), .int (nI md), .int (nI nt.toNat), .int (nI rs)]) → E2 8 = wm_I C 24 f1 → (∀ j, j ≠ 5 → j ≠ 8 → E2 j = E j) → lv_has ls 3 [(0, .ref (b + 5)), (1, .int (nI k)), (2, .int (nI i))] → W p l e R s m args below meth c H locs 0 0 Q (F0 m 15 ls []) := by
      intro fu
      induction fu with
      | zero => intro i f1 hm; exact absurd hm (Nat.not_lt_zero _)
      | succ fu ih15 =>
        intro i f1 hm hi hik hf1 E2 H locs ls hP hS hE0 hE1 hfr hl
        refine lv_iload_n X.1 X.2.1 dX0_addRange_15 rfl (lv_at hl 2 rfl) ?_
        refine lv_iload_n X.1 X.2.1 dX0_addRange_16 rfl (lv_at hl 1 rfl) ?_
        refine wm_icmp_gt (x := i) (y := k) (tgt := 43) X (by omega) (by omega) dX0_addRange_17 (by decide) (fun hc17 => ?_) (fun hc17 => ?_)
        · refine lv_aload_n X.1 X.2.1 dX0_addRange_43 rfl (lv_at hl 0 rfl) ?_
          refine lv_iconst (v := nI 5) X.1 X.2.1 dX0_addRange_44 (by decide) ?_
          refine wm_put (v := .int (nI 5)) X hP hS hlt0 hE0 rfl wm_inX0 tyX0 tyX0_ok nmX0 7 (by decide) wq1_124 rfl rfl rfl (fs1 := [.int (nI fk), .int (nI fp), .ref (b + 6), .ref (b + 7), .ref (b + 8), .int (nI op), .int (nI cn), .int (nI 5), .int (nI nt.toNat), .int (nI rs)]) rfl (Nat.le_of_ble_eq_true rfl) dX0_addRange_45 (fun H locs E4 hP hS hE0 hq => ?_)
          have hE1 := (hq 8 (by decide)).trans hE1
          have hfr : ∀ j, j ≠ 5 → j ≠ 8 → E4 j = E j := fun j h0 h1 => (hq j h0).trans (hfr j h0 h1)
          refine lv_iconst (v := nI 0) X.1 X.2.1 dX0_addRange_48 (by decide) ?_
          exact wm_iret (post := prange1 C b E fk fp op cn md rs k nt lt) X hr hP hS ⟨rfl, hE0, (by rw [show k + 1 = i by omega, ← hf1]; exact hE1), hfr⟩ hQ dX0_addRange_49
        · refine lv_aload_n X.1 X.2.1 dX0_addRange_20 rfl (lv_at hl 0 rfl) ?_
          refine wm_get X hP hlt0 hE0 rfl wm_inX0 4 (by decide) wq1_121 rfl dX0_addRange_21 ?_
          refine lv_aload_n X.1 X.2.1 dX0_addRange_24 rfl (lv_at hl 0 rfl) ?_
          refine wm_get X hP hlt0 hE0 rfl wm_inX0 6 (by decide) wq1_123 rfl dX0_addRange_25 ?_
          refine lv_iconst (v := nI 1) X.1 X.2.1 dX0_addRange_28 (by decide) ?_
          refine wm_isub (x := cn) (y := 1) X (by omega) dX0_addRange_29 ?_
          refine lv_dup2_11 X.1 X.2.1 dX0_addRange_30 rfl rfl ?_
          refine wm_iald (i := (cn - 1)) X hP hlt1 hE1 (by omega) (by decide) dX0_addRange_31 ?_
          refine lv_iconst (v := nI 1) X.1 X.2.1 dX0_addRange_32 (by decide) ?_
          refine lv_iload_n X.1 X.2.1 dX0_addRange_33 rfl (lv_at hl 2 rfl) ?_
          refine wm_ishl (x := 1) (y := i) X (by omega) dX0_addRange_34 ?_
          refine wm_ior (x := (f1 (cn - 1))) (y := (1 <<< i)) X dX0_addRange_35 ?_
          refine wm_iast (i := (cn - 1)) (x := ((f1 (cn - 1)) ||| (1 <<< i))) X hP hS hlt1 hE1 (by omega) (by decide) dX0_addRange_36 (fun H locs E5 hP hS hE1 hq => ?_)
          have hE0 := (hq 5 (by decide)).trans hE0
          have hfr : ∀ j, j ≠ 5 → j ≠ 8 → E5 j = E j := fun j h0 h1 => (hq j h1).trans (hfr j h0 h1)
          refine lv_iinc (v := nI (i + 1)) (lv' := [(2, .int (nI (i + 1))), (0, .ref (b + 5)), (1, .int (nI k))]) X.1 X.2.1 dX0_addRange_37 hl (k := 2) rfl (wm_inc i) (by decide) rfl (fun ls hl => ?_)
          refine lv_goto (tgt := 15) X.1 X.2.1 dX0_addRange_40 (by decide) ?_
          exact ih15 (i + 1) (va_up f1 (cn - 1) ((f1 (cn - 1)) ||| (1 <<< i))) (by omega) (by omega) (by omega) (by rw [hf1, va_up_self, wm_rg1 hi, wm_up_up]) E5 _ _ _ hP hS hE0 hE1 hfr (lv_sub hl [1, 2, 0] rfl)
    exact L15 (9 - rs + 1) rs lt (Nat.lt_succ_self _) (by omega) (by omega) (by rw [← wm_rg0]; exact wm_up_id lt (cn - 1)) E _ _ _ hP hS hE0 hE1 hfr (lv_sub hl [1, 2, 0] rfl)
  · exact absurd hc5 (by omega)
def prange0 (C : Nat → ClassId) (b : Nat) (E : Nat → va_E) (fk fp op cn md rs k : Nat) (nt : Bool) : Int32 → (Nat → va_E) → Prop := fun r E' => r = nI 4 ∧ E = E'
set_option maxHeartbeats 4000000 in
set_option maxRecDepth 100000 in
theorem krange0 (l : Launch) (D : va_G) (C : Nat → ClassId) (b n : Nat) (E : Nat → va_E) (fk fp op cn md rs k : Nat) (nt : Bool) (hlt0 : 5 < n) (hE0 : E 5 = .inr (0, [.int (nI fk), .int (nI fp), .ref (b + 6), .ref (b + 7), .ref (b + 8), .int (nI op), .int (nI cn), .int (nI md), .int (nI nt.toNat), .int (nI rs)])) (hk : k < 8) (hrs : k < rs) (hrs2 : rs < 2 ^ 31) : Met l yX0_addRange (wm_ws yX0_addRange cX0_addRange 3 (some .int)) { frames := 0, cells := 0, slots := 0, locals := 0 } (va_Pc [.ref (b + 5), .int (nI k)] (wm_G D C b n E)) (va_Qi (prange0 C b E fk fp op cn md rs k nt) (fun E' t => wm_P D b n E' t.heap) (wm_A b)) 0 0 (wm_A b) := by
  refine wm_ofW (by decide) (Nat.le_of_ble_eq_true rfl) (fun p e s m below meth c ls R args Q hRe hQ X hr hnm hP hS hl => ?_)
  have hl : lv_has ls 3 [(0, .ref (b + 5)), (1, .int (nI k))] := hl
  refine lv_iload_n X.1 X.2.1 dX0_addRange_0 rfl (lv_at hl 1 rfl) ?_
  refine lv_aload_n X.1 X.2.1 dX0_addRange_1 rfl (lv_at hl 0 rfl) ?_
  refine wm_get X hP hlt0 hE0 rfl wm_inX0 9 (by decide) wq1_126 rfl dX0_addRange_2 ?_
  refine wm_icmp_ge (x := k) (y := rs) (tgt := 10) X (by omega) (by omega) dX0_addRange_5 (by decide) (fun hc5 => ?_) (fun hc5 => ?_)
  · exact absurd hc5 (by omega)
  · refine lv_iconst (v := nI 4) X.1 X.2.1 dX0_addRange_8 (by decide) ?_
    exact wm_iret (post := prange0 C b E fk fp op cn md rs k nt) X hr hP hS ⟨rfl, rfl⟩ hQ dX0_addRange_9
def pX0_closeBracket (C : Nat → ClassId) (b : Nat) (E : Nat → va_E) (fk fp op cn md rs : Nat) (nt : Bool) (lt : Nat → Nat) : (Nat → va_E) → Prop := fun E' => E' 5 = .inr (0, [.int (nI fk), .int (nI fp), .ref (b + 6), .ref (b + 7), .ref (b + 8), .int (nI op), .int (nI cn), .int (nI 0), .int (nI nt.toNat), .int (nI rs)]) ∧ E' 8 = wm_I C 24 (if nt then va_up lt (cn - 1) (lt (cn - 1) ^^^ 255) else lt) ∧ (∀ j, j ≠ 5 → j ≠ 8 → E' j = E j)
set_option maxHeartbeats 4000000 in
set_option maxRecDepth 100000 in
theorem kX0_closeBracket (l : Launch) (D : va_G) (C : Nat → ClassId) (b n : Nat) (E : Nat → va_E) (fk fp op cn md rs : Nat) (nt : Bool) (lt : Nat → Nat) (hlt0 : 5 < n) (hE0 : E 5 = .inr (0, [.int (nI fk), .int (nI fp), .ref (b + 6), .ref (b + 7), .ref (b + 8), .int (nI op), .int (nI cn), .int (nI md), .int (nI nt.toNat), .int (nI rs)])) (hlt1 : 8 < n) (hE1 : E 8 = wm_I C 24 lt) (hcn : cn ≤ 24) (hcp : 1 ≤ cn) : Met l yX0_closeBracket (wm_ws yX0_closeBracket cX0_closeBracket 1 none) { frames := 0, cells := 0, slots := 0, locals := 0 } (va_Pc [.ref (b + 5)] (wm_G D C b n E)) (va_Qv (pX0_closeBracket C b E fk fp op cn md rs nt lt) (fun E' t => wm_P D b n E' t.heap) (wm_A b)) 0 0 (wm_A b) := by
  refine wm_ofW (by decide) (Nat.le_of_ble_eq_true rfl) (fun p e s m below meth c ls R args Q hRe hQ X hr hnm hP hS hl => ?_)
  have hl : lv_has ls 1 [(0, .ref (b + 5))] := hl
  have hfr : ∀ j, j ≠ 5 → j ≠ 8 → E j = E j := fun _ _ _ => rfl
  refine lv_aload_n X.1 X.2.1 dX0_closeBracket_0 rfl (lv_at hl 0 rfl) ?_
  refine wm_get X hP hlt0 hE0 rfl wm_inX0 8 (by decide) wq1_125 rfl dX0_closeBracket_1 ?_
  refine wm_ifz_eq (x := nt) (tgt := 24) X dX0_closeBracket_4 (by decide) (fun hc4 => ?_) (fun hc4 => ?_)
  · refine lv_aload_n X.1 X.2.1 dX0_closeBracket_24 rfl (lv_at hl 0 rfl) ?_
    refine lv_iconst (v := nI 0) X.1 X.2.1 dX0_closeBracket_25 (by decide) ?_
    refine wm_put (v := .int (nI 0)) X hP hS hlt0 hE0 rfl wm_inX0 tyX0 tyX0_ok nmX0 7 (by decide) wq1_124 rfl rfl rfl (fs1 := [.int (nI fk), .int (nI fp), .ref (b + 6), .ref (b + 7), .ref (b + 8), .int (nI op), .int (nI cn), .int (nI 0), .int (nI nt.toNat), .int (nI rs)]) rfl (Nat.le_of_ble_eq_true rfl) dX0_closeBracket_26 (fun H locs E2 hP hS hE0 hq => ?_)
    have hE1 := (hq 8 (by decide)).trans hE1
    have hfr : ∀ j, j ≠ 5 → j ≠ 8 → E2 j = E j := fun j h0 h1 => (hq j h0).trans (hfr j h0 h1)
    exact wm_vret (post := pX0_closeBracket C b E fk fp op cn md rs nt lt) X hr hP hS ⟨hE0, (by rw [hc4]; exact hE1), hfr⟩ hQ dX0_closeBracket_29
  · refine lv_aload_n X.1 X.2.1 dX0_closeBracket_7 rfl (lv_at hl 0 rfl) ?_
    refine wm_get X hP hlt0 hE0 rfl wm_inX0 4 (by decide) wq1_121 rfl dX0_closeBracket_8 ?_
    refine lv_aload_n X.1 X.2.1 dX0_closeBracket_11 rfl (lv_at hl 0 rfl) ?_
    refine wm_get X hP hlt0 hE0 rfl wm_inX0 6 (by decide) wq1_123 rfl dX0_closeBracket_12 ?_
    refine lv_iconst (v := nI 1) X.1 X.2.1 dX0_closeBracket_15 (by decide) ?_
    refine wm_isub (x := cn) (y := 1) X (by omega) dX0_closeBracket_16 ?_
    refine lv_dup2_11 X.1 X.2.1 dX0_closeBracket_17 rfl rfl ?_
    refine wm_iald (i := (cn - 1)) X hP hlt1 hE1 (by omega) (by decide) dX0_closeBracket_18 ?_
    refine lv_sipush (v := nI 255) X.1 X.2.1 dX0_closeBracket_19 (by decide) ?_
    refine wm_ixor (x := (lt (cn - 1))) (y := 255) X dX0_closeBracket_22 ?_
    refine wm_iast (i := (cn - 1)) (x := ((lt (cn - 1)) ^^^ 255)) X hP hS hlt1 hE1 (by omega) (by decide) dX0_closeBracket_23 (fun H locs E3 hP hS hE1 hq => ?_)
    have hE0 := (hq 5 (by decide)).trans hE0
    have hfr : ∀ j, j ≠ 5 → j ≠ 8 → E3 j = E j := fun j h0 h1 => (hq j h1).trans (hfr j h0 h1)
    refine lv_aload_n X.1 X.2.1 dX0_closeBracket_24 rfl (lv_at hl 0 rfl) ?_
    refine lv_iconst (v := nI 0) X.1 X.2.1 dX0_closeBracket_25 (by decide) ?_
    refine wm_put (v := .int (nI 0)) X hP hS hlt0 hE0 rfl wm_inX0 tyX0 tyX0_ok nmX0 7 (by decide) wq1_124 rfl rfl rfl (fs1 := [.int (nI fk), .int (nI fp), .ref (b + 6), .ref (b + 7), .ref (b + 8), .int (nI op), .int (nI cn), .int (nI 0), .int (nI nt.toNat), .int (nI rs)]) rfl (Nat.le_of_ble_eq_true rfl) dX0_closeBracket_26 (fun H locs E4 hP hS hE0 hq => ?_)
    have hE1 := (hq 8 (by decide)).trans hE1
    have hfr : ∀ j, j ≠ 5 → j ≠ 8 → E4 j = E j := fun j h0 h1 => (hq j h0).trans (hfr j h0 h1)
    exact wm_vret (post := pX0_closeBracket C b E fk fp op cn md rs nt lt) X hr hP hS ⟨hE0, (by rw [hc4]; exact hE1), hfr⟩ hQ dX0_closeBracket_29
def pX0_statesWith (C : Nat → ClassId) (b : Nat) (E : Nat → va_E) (fk fp op cn md rs a : Nat) (nt : Bool) (lt : Nat → Nat) : Int32 → (Nat → va_E) → Prop := fun r E' => r = nI (wm_or cn (fun x => if 1 ≤ x ∧ (lt x).testBit a = true then 1 <<< x else 0)) ∧ E = E'
set_option maxHeartbeats 4000000 in
set_option maxRecDepth 100000 in
theorem kX0_statesWith (l : Launch) (D : va_G) (C : Nat → ClassId) (b n : Nat) (E : Nat → va_E) (fk fp op cn md rs a : Nat) (nt : Bool) (lt : Nat → Nat) (hlt0 : 5 < n) (hE0 : E 5 = .inr (0, [.int (nI fk), .int (nI fp), .ref (b + 6), .ref (b + 7), .ref (b + 8), .int (nI op), .int (nI cn), .int (nI md), .int (nI nt.toNat), .int (nI rs)])) (hlt1 : 8 < n) (hE1 : E 8 = wm_I C 24 lt) (hcn : cn ≤ 24) (hcp : 1 ≤ cn) (ha8 : a < 8) (hlt : ∀ i, i < 24 → lt i < 2 ^ 32) : Met l yX0_statesWith (wm_ws yX0_statesWith cX0_statesWith 4 (some .int)) { frames := 1, cells := 0, slots := 0, locals := 21 } (va_Pc [.ref (b + 5), .int (nI a)] (wm_G D C b n E)) (va_Qi (pX0_statesWith C b E fk fp op cn md rs a nt lt) (fun E' t => wm_P D b n E' t.heap) (wm_A b)) 0 0 (wm_A b) := by
  refine wm_ofW (by decide) (Nat.le_of_ble_eq_true rfl) (fun p e s m below meth c ls R args Q hRe hQ X hr hnm hP hS hl => ?_)
  have hl : lv_has ls 4 [(0, .ref (b + 5)), (1, .int (nI a))] := hl
  refine lv_iconst (v := nI 0) X.1 X.2.1 dX0_statesWith_0 (by decide) ?_
  refine lv_istore_n (lv' := [(2, .int (nI 0)), (0, .ref (b + 5)), (1, .int (nI a))]) X.1 X.2.1 dX0_statesWith_1 rfl hl (by decide) rfl (fun ls hl => ?_)
  refine lv_iconst (v := nI 1) X.1 X.2.1 dX0_statesWith_2 (by decide) ?_
  refine lv_istore_n (lv' := [(3, .int (nI 1)), (2, .int (nI 0)), (0, .ref (b + 5)), (1, .int (nI a))]) X.1 X.2.1 dX0_statesWith_3 rfl hl (by decide) rfl (fun ls hl => ?_)
  have L4 : ∀ (fu : Nat) (k : Nat) (i : Nat), 25 - i < fu → (1 ≤ i) → (i ≤ cn) → (k = wm_or i (fun x => if 1 ≤ x ∧ (lt x).testBit a = true then 1 <<< x else 0)) → ∀ (H : Heap) (locs : List Loc) (ls : Array Slot), wm_P D b n E H → wm_S b s.heap H locs → E 5 = .inr (0, [.int (nI fk), .int (nI fp), .ref (b + 6), .ref (b + 7), .ref (b + 8), .int (nI op), .int (nI cn), .int (nI md), .int (nI nt.toNat), .int (nI rs)]) → E 8 = wm_I C 24 lt → lv_has ls 4 [(0, .ref (b + 5)), (1, .int (nI a)), (2, .int (nI k)), (3, .int (nI i))] → W p l e R s m args below meth c H locs 0 0 Q (F0 m 4 ls []) := by
    intro fu
    induction fu with
    | zero => intro k i hm; exact absurd hm (Nat.not_lt_zero _)
    | succ fu ih4 =>
      intro k i hm hi hic hk H locs ls hP hS hE0 hE1 hl
      refine lv_iload_n X.1 X.2.1 dX0_statesWith_4 rfl (lv_at hl 3 rfl) ?_
      refine lv_aload_n X.1 X.2.1 dX0_statesWith_5 rfl (lv_at hl 0 rfl) ?_
      refine wm_get X hP hlt0 hE0 rfl wm_inX0 6 (by decide) wq1_123 rfl dX0_statesWith_6 ?_
      refine wm_icmp_ge (x := i) (y := cn) (tgt := 37) X (by omega) (by omega) dX0_statesWith_9 (by decide) (fun hc9 => ?_) (fun hc9 => ?_)
      · refine lv_iload_n X.1 X.2.1 dX0_statesWith_37 rfl (lv_at hl 2 rfl) ?_
        exact wm_iret (post := pX0_statesWith C b E fk fp op cn md rs a nt lt) X hr hP hS ⟨(by rw [hk, show i = cn by omega]), rfl⟩ hQ dX0_statesWith_38
      · refine lv_aload_n X.1 X.2.1 dX0_statesWith_12 rfl (lv_at hl 0 rfl) ?_
        refine wm_get X hP hlt0 hE0 rfl wm_inX0 4 (by decide) wq1_121 rfl dX0_statesWith_13 ?_
        refine lv_iload_n X.1 X.2.1 dX0_statesWith_16 rfl (lv_at hl 3 rfl) ?_
        refine wm_iald (i := i) X hP hlt1 hE1 (by omega) (by decide) dX0_statesWith_17 ?_
        refine lv_iload_n X.1 X.2.1 dX0_statesWith_18 rfl (lv_at hl 1 rfl) ?_
        refine wm_callNi (k := 2) (As := [.int (nI (lt i)), .int (nI a)]) (rest := []) X hP hS  (kX6_hasBit l D C b n E (lt i) a (hlt i (by omega)) (by omega)) (host := "WordMachines") (by decide) wq2_210 wq1_1 wq2_211 (by decide) (by rw [hRe]; exact ⟨Nat.le_of_ble_eq_true rfl, Nat.le_of_ble_eq_true rfl⟩) rfl hl.1 rfl (Nat.le_of_ble_eq_true rfl) (Nat.zero_le _) (Nat.zero_le _) dX0_statesWith_19 (fun r2 E2 H locs hw hP hS => ?_)
        obtain ⟨hrt, hEe⟩ := hw
        subst hrt
        subst hEe
        refine wm_ifz_eq (x := ((lt i).testBit a)) (tgt := 31) X dX0_statesWith_22 (by decide) (fun hc22 => ?_) (fun hc22 => ?_)
        · refine lv_iinc (v := nI (i + 1)) (lv' := [(3, .int (nI (i + 1))), (0, .ref (b + 5)), (1, .int (nI a)), (2, .int (nI k))]) X.1 X.2.1 dX0_statesWith_31 hl (k := 3) rfl (wm_inc i) (by decide) rfl (fun ls hl => ?_)
          refine lv_goto (tgt := 4) X.1 X.2.1 dX0_statesWith_34 (by decide) ?_
          exact ih4 k (i + 1) (by omega) (by omega) (by omega) (wm_pr_f hk (if_neg (fun q => by rw [hc22] at q; exact absurd q.2 (by decide)))) _ _ _ hP hS hE0 hE1 (lv_sub hl [1, 2, 3, 0] rfl)
        · refine lv_iload_n X.1 X.2.1 dX0_statesWith_25 rfl (lv_at hl 2 rfl) ?_
          refine lv_iconst (v := nI 1) X.1 X.2.1 dX0_statesWith_26 (by decide) ?_
          refine lv_iload_n X.1 X.2.1 dX0_statesWith_27 rfl (lv_at hl 3 rfl) ?_
          refine wm_ishl (x := 1) (y := i) X (by omega) dX0_statesWith_28 ?_
          refine wm_ior (x := k) (y := (1 <<< i)) X dX0_statesWith_29 ?_
          refine lv_istore_n (lv' := [(2, .int (nI (k ||| (1 <<< i)))), (0, .ref (b + 5)), (1, .int (nI a)), (3, .int (nI i))]) X.1 X.2.1 dX0_statesWith_30 rfl hl (by decide) rfl (fun ls hl => ?_)
          refine lv_iinc (v := nI (i + 1)) (lv' := [(3, .int (nI (i + 1))), (2, .int (nI (k ||| (1 <<< i)))), (0, .ref (b + 5)), (1, .int (nI a))]) X.1 X.2.1 dX0_statesWith_31 hl (k := 3) rfl (wm_inc i) (by decide) rfl (fun ls hl => ?_)
          refine lv_goto (tgt := 4) X.1 X.2.1 dX0_statesWith_34 (by decide) ?_
          exact ih4 (k ||| (1 <<< i)) (i + 1) (by omega) (by omega) (by omega) (wm_pr_t hk _ (if_pos ⟨hi, hc22⟩)) _ _ _ hP hS hE0 hE1 (lv_sub hl [2, 3, 1, 0] rfl)
  exact L4 (25 - 1 + 1) 0 1 (Nat.lt_succ_self _) (by omega) (by omega) (by rw [wm_or_z (fun j hj => if_neg (by omega))]) _ _ _ hP hS hE0 hE1 (lv_sub hl [2, 3, 1, 0] rfl)
