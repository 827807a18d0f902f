def pX6_states (C : Nat → ClassId) (b : Nat) (E : Nat → va_E) (ts k cn st en : Nat) : Int32 → (Nat → va_E) → Prop := fun r E' => r = nI cn ∧ E = E'
set_option maxHeartbeats 4000000 in
set_option maxRecDepth 100000 in
theorem kX6_states (l : Launch) (D : va_G) (C : Nat → ClassId) (b n : Nat) (E : Nat → va_E) (ts k cn st en : Nat) (hlt0 : 0 < n) (hE0 : E 0 = .inr (6, [.ref (b + 1), .ref (b + 2), .ref (b + 4), .int (nI ts), .ref (b + 5), .ref (b + 93), .ref (b + 100)])) (hlt1 : 1 < n) (hE1 : E 1 = wm_Q C 4 8 (fun x9 => some (b + (103 + 2 * x9)))) (hlt2 : 103 + 2 * k < n) (hE2 : E (103 + 2 * k) = .inr (2, [.ref (b + (104 + 2 * k)), .int (nI cn), .int (nI st), .int (nI en)])) (hkk : k < 8) : Met l yX6_states (wm_ws yX6_states cX6_states 2 (some .int)) { frames := 1, cells := 0, slots := 0, locals := 21 } (va_Pc [.ref (b + 0), .int (nI k)] (wm_G D C b n E)) (va_Qi (pX6_states C b E ts k cn st en) (fun E' t => wm_P D b n E' t.heap) (wm_A b)) 0 0 (wm_A b) := by
  refine wm_ofW (by decide) (Nat.le_of_ble_eq_true rfl) (fun p e s m below meth c ls R args Q hRe hQ X hr hnm hP hS hl => ?_)
  have hl : lv_has ls 2 [(0, .ref (b + 0)), (1, .int (nI k))] := hl
  refine lv_aload_n X.1 X.2.1 dX6_states_0 rfl (lv_at hl 0 rfl) ?_
  refine lv_iload_n X.1 X.2.1 dX6_states_1 rfl (lv_at hl 1 rfl) ?_
  refine wm_callVr (k := 1) (As := [.int (nI k)]) (rest := []) X hP hS hlt0 hE0 rfl (kX6_machineAt l D C b n E ts k hlt0 hE0 hlt1 hE1 (by omega)) wq2_88 wq2_90 wqP1_1 wq1_1 wq2_91 (by decide) (by rw [hRe]; exact ⟨Nat.le_of_ble_eq_true rfl, Nat.le_of_ble_eq_true rfl⟩) rfl hl.1 rfl (Nat.le_of_ble_eq_true rfl) (Nat.zero_le _) (Nat.zero_le _) dX6_states_2 (fun E1 H locs hw hP hS => ?_)
  have hEe := hw
  subst hEe
  refine wm_get X hP hlt2 hE2 rfl wm_inX2 1 (by decide) wq1_44 rfl dX6_states_5 ?_
  exact wm_iret (post := pX6_states C b E ts k cn st en) X hr hP hS ⟨rfl, rfl⟩ hQ dX6_states_8
def pX6_blank (C : Nat → ClassId) (b : Nat) (E : Nat → va_E) (ts k cn st en y : Nat) (g : Nat → Nat) : (Nat → va_E) → Prop := fun E' => ∃ (g1 : Nat → Nat), E' (103 + 2 * k) = .inr (2, [.ref (b + (104 + 2 * k)), .int (nI y), .int (nI 0), .int (nI 0)]) ∧ E' (104 + 2 * k) = wm_I C 192 g1 ∧ (∀ j, j ≠ 103 + 2 * k → j ≠ 104 + 2 * k → E' j = E j) ∧ (∀ j, j < 192 → g1 j = 0)
set_option maxHeartbeats 4000000 in
set_option maxRecDepth 100000 in
theorem kX6_blank (l : Launch) (D : va_G) (C : Nat → ClassId) (b n : Nat) (E : Nat → va_E) (ts k cn st en y : Nat) (g : Nat → Nat) (hlt0 : 0 < n) (hE0 : E 0 = .inr (6, [.ref (b + 1), .ref (b + 2), .ref (b + 4), .int (nI ts), .ref (b + 5), .ref (b + 93), .ref (b + 100)])) (hlt1 : 1 < n) (hE1 : E 1 = wm_Q C 4 8 (fun x9 => some (b + (103 + 2 * x9)))) (hlt2 : 103 + 2 * k < n) (hE2 : E (103 + 2 * k) = .inr (2, [.ref (b + (104 + 2 * k)), .int (nI cn), .int (nI st), .int (nI en)])) (hlt3 : 104 + 2 * k < n) (hE3 : E (104 + 2 * k) = wm_I C 192 g) (hkk : k < 8) (hy : 1 ≤ y ∧ y ≤ 24) : Met l yX6_blank (wm_ws yX6_blank cX6_blank 4 none) { frames := 2, cells := 0, slots := 0, locals := 44 } (va_Pc [.ref (b + 0), .int (nI k), .int (nI y)] (wm_G D C b n E)) (va_Qv (pX6_blank C b E ts k cn st en y g) (fun E' t => wm_P D b n E' t.heap) (wm_A b)) 0 0 (wm_A b) := by
  refine wm_ofW (by decide) (Nat.le_of_ble_eq_true rfl) (fun p e s m below meth c ls R args Q hRe hQ X hr hnm hP hS hl => ?_)
  have hl : lv_has ls 4 [(0, .ref (b + 0)), (1, .int (nI k)), (2, .int (nI y))] := hl
  have hfr : ∀ j, j ≠ 103 + 2 * k → j ≠ 104 + 2 * k → E j = E j := fun _ _ _ => rfl
  refine lv_aload_n X.1 X.2.1 dX6_blank_0 rfl (lv_at hl 0 rfl) ?_
  refine lv_iload_n X.1 X.2.1 dX6_blank_1 rfl (lv_at hl 1 rfl) ?_
  refine wm_callVr (k := 1) (As := [.int (nI k)]) (rest := []) X hP hS hlt0 hE0 rfl (kX6_machineAt l D C b n E ts k hlt0 hE0 hlt1 hE1 (by omega)) wq2_88 wq2_90 wqP1_1 wq1_1 wq2_91 (by decide) (by rw [hRe]; exact ⟨Nat.le_of_ble_eq_true rfl, Nat.le_of_ble_eq_true rfl⟩) rfl hl.1 rfl (Nat.le_of_ble_eq_true rfl) (Nat.zero_le _) (Nat.zero_le _) dX6_blank_2 (fun E1 H locs hw hP hS => ?_)
  have hEe := hw
  subst hEe
  refine lv_astore_n (lv' := [(3, .ref (b + (103 + 2 * k))), (0, .ref (b + 0)), (1, .int (nI k)), (2, .int (nI y))]) X.1 X.2.1 dX6_blank_5 rfl hl (by decide) rfl (fun ls hl => ?_)
  refine lv_iload_n X.1 X.2.1 dX6_blank_6 rfl (lv_at hl 3 rfl) ?_
  refine lv_iconst (v := nI 1) X.1 X.2.1 dX6_blank_7 (by decide) ?_
  refine wm_icmp_lt (x := y) (y := 1) (tgt := 17) X (by omega) (by decide) dX6_blank_8 (by decide) (fun hc8 => ?_) (fun hc8 => ?_)
  · exact absurd hc8 (by omega)
  · refine lv_iload_n X.1 X.2.1 dX6_blank_11 rfl (lv_at hl 3 rfl) ?_
    refine lv_bipush (v := nI 24) X.1 X.2.1 dX6_blank_12 (by decide) ?_
    refine wm_icmp_le (x := y) (y := 24) (tgt := 27) X (by omega) (by decide) dX6_blank_14 (by decide) (fun hc14 => ?_) (fun hc14 => ?_)
    · refine lv_aload_n X.1 X.2.1 dX6_blank_27 rfl (lv_at hl 0 rfl) ?_
      refine lv_iload_n X.1 X.2.1 dX6_blank_28 rfl (lv_at hl 3 rfl) ?_
      refine wm_callVv (k := 1) (As := [.int (nI y)]) (rest := []) X hP hS hlt2 hE2 rfl (kX2_clear l D C b n E (103 + 2 * k) (104 + 2 * k) cn st en y g hlt2 hE2 hlt3 hE3 (by omega)) wq2_224 wq2_199 wq2_200 wq1_2 wq2_201 (by decide) (by rw [hRe]; exact ⟨Nat.le_of_ble_eq_true rfl, Nat.le_of_ble_eq_true rfl⟩) rfl hl.1 rfl (Nat.le_of_ble_eq_true rfl) (Nat.zero_le _) (Nat.zero_le _) dX6_blank_29 (fun E4 H locs hw hP hS => ?_)
      obtain ⟨g14, hE2, hE3, hq, hp4_0⟩ := hw
      have hE0 := (hq 0 (by omega) (by omega)).trans hE0
      have hE1 := (hq 1 (by omega) (by omega)).trans hE1
      have hfr : ∀ j, j ≠ 103 + 2 * k → j ≠ 104 + 2 * k → E4 j = E j := fun j h0 h1 => (hq j h0 h1).trans (hfr j h0 h1)
      exact wm_vret (post := pX6_blank C b E ts k cn st en y g) X hr hP hS ⟨g14, hE2, hE3, hfr, hp4_0⟩ hQ dX6_blank_32
    · exact absurd hc14 (by omega)
def pX6_mark (C : Nat → ClassId) (b : Nat) (E : Nat → va_E) (ts k cn st en sv z : Nat) : (Nat → va_E) → Prop := fun E' => E' (103 + 2 * k) = .inr (2, [.ref (b + (104 + 2 * k)), .int (nI cn), .int (nI (wm_wb st sv (decide (z &&& 1 ≠ 0)))), .int (nI (wm_wb en sv (decide (z &&& 2 ≠ 0))))]) ∧ (∀ j, j ≠ 103 + 2 * k → E' j = E j)
set_option maxHeartbeats 4000000 in
set_option maxRecDepth 100000 in
theorem kX6_mark (l : Launch) (D : va_G) (C : Nat → ClassId) (b n : Nat) (E : Nat → va_E) (ts k cn st en sv z : Nat) (hlt0 : 0 < n) (hE0 : E 0 = .inr (6, [.ref (b + 1), .ref (b + 2), .ref (b + 4), .int (nI ts), .ref (b + 5), .ref (b + 93), .ref (b + 100)])) (hlt1 : 1 < n) (hE1 : E 1 = wm_Q C 4 8 (fun x9 => some (b + (103 + 2 * x9)))) (hlt2 : 103 + 2 * k < n) (hE2 : E (103 + 2 * k) = .inr (2, [.ref (b + (104 + 2 * k)), .int (nI cn), .int (nI st), .int (nI en)])) (hkk : k < 8) (hc : cn ≤ 24) (hsv : sv < cn) (hz : z ≤ 3) (hst : st < 2 ^ 24) (hen : en < 2 ^ 24) : Met l yX6_mark (wm_ws yX6_mark cX6_mark 5 none) { frames := 1, cells := 0, slots := 0, locals := 22 } (va_Pc [.ref (b + 0), .int (nI k), .int (nI sv), .int (nI z)] (wm_G D C b n E)) (va_Qv (pX6_mark C b E ts k cn st en sv z) (fun E' t => wm_P D b n E' t.heap) (wm_A b)) 0 0 (wm_A b) := by
  refine wm_ofW (by decide) (Nat.le_of_ble_eq_true rfl) (fun p e s m below meth c ls R args Q hRe hQ X hr hnm hP hS hl => ?_)
  have hl : lv_has ls 5 [(0, .ref (b + 0)), (1, .int (nI k)), (2, .int (nI sv)), (3, .int (nI z))] := hl
  have hfr : ∀ j, j ≠ 103 + 2 * k → E j = E j := fun _ _ => rfl
  refine lv_aload_n X.1 X.2.1 dX6_mark_0 rfl (lv_at hl 0 rfl) ?_
  refine lv_iload_n X.1 X.2.1 dX6_mark_1 rfl (lv_at hl 1 rfl) ?_
  refine wm_callVr (k := 1) (As := [.int (nI k)]) (rest := []) X hP hS hlt0 hE0 rfl (kX6_machineAt l D C b n E ts k hlt0 hE0 hlt1 hE1 (by omega)) wq2_88 wq2_90 wqP1_1 wq1_1 wq2_91 (by decide) (by rw [hRe]; exact ⟨Nat.le_of_ble_eq_true rfl, Nat.le_of_ble_eq_true rfl⟩) rfl hl.1 rfl (Nat.le_of_ble_eq_true rfl) (Nat.zero_le _) (Nat.zero_le _) dX6_mark_2 (fun E1 H locs hw hP hS => ?_)
  have hEe := hw
  subst hEe
  refine lv_astore (lv' := [(4, .ref (b + (103 + 2 * k))), (0, .ref (b + 0)), (1, .int (nI k)), (2, .int (nI sv)), (3, .int (nI z))]) X.1 X.2.1 dX6_mark_5 hl (by decide) rfl (fun ls hl => ?_)
  refine lv_aload X.1 X.2.1 dX6_mark_7 (lv_at hl 0 rfl) ?_
  refine lv_iload_n X.1 X.2.1 dX6_mark_9 rfl (lv_at hl 3 rfl) ?_
  refine wm_callSv (k := 2) (As := [.ref (b + (103 + 2 * k)), .int (nI sv)]) (rest := []) X hP hS  (kX6_checkState l D C b n E (103 + 2 * k) (104 + 2 * k) cn st en sv hlt2 hE2 (by omega) (by omega)) wq2_232 wq2_233 wq1_1 wq2_234 (by decide) (by rw [hRe]; exact ⟨Nat.le_of_ble_eq_true rfl, Nat.le_of_ble_eq_true rfl⟩) rfl hl.1 rfl (Nat.le_of_ble_eq_true rfl) (Nat.zero_le _) (Nat.zero_le _) dX6_mark_10 (fun E2 H locs hw hP hS => ?_)
  have hEe := hw
  subst hEe
  refine lv_iload_n X.1 X.2.1 dX6_mark_13 rfl (lv_at hl 4 rfl) ?_
  refine wm_if_lt (x := z) (tgt := 22) X (by omega) dX6_mark_14 (by decide) ?_
  refine lv_iload_n X.1 X.2.1 dX6_mark_17 rfl (lv_at hl 4 rfl) ?_
  refine lv_iconst (v := nI 3) X.1 X.2.1 dX6_mark_18 (by decide) ?_
  refine wm_icmp_le (x := z) (y := 3) (tgt := 32) X (by omega) (by decide) dX6_mark_19 (by decide) (fun hc19 => ?_) (fun hc19 => ?_)
  · refine lv_aload X.1 X.2.1 dX6_mark_32 (lv_at hl 0 rfl) ?_
    refine lv_aload X.1 X.2.1 dX6_mark_34 (lv_at hl 0 rfl) ?_
    refine wm_get X hP hlt2 hE2 rfl wm_inX2 2 (by decide) wq1_49 rfl dX6_mark_36 ?_
    refine lv_iload_n X.1 X.2.1 dX6_mark_39 rfl (lv_at hl 3 rfl) ?_
    refine lv_iload_n X.1 X.2.1 dX6_mark_40 rfl (lv_at hl 4 rfl) ?_
    refine lv_iconst (v := nI 1) X.1 X.2.1 dX6_mark_41 (by decide) ?_
    refine wm_iand (x := z) (y := 1) X dX6_mark_42 ?_
    refine wm_if_eq (x := (z &&& 1)) (tgt := 50) X (Nat.lt_of_le_of_lt Nat.and_le_left (by omega)) dX6_mark_43 (by decide) (fun hc43 => ?_) (fun hc43 => ?_)
    · refine lv_iconst (v := nI 0) X.1 X.2.1 dX6_mark_50 (by decide) ?_
      refine wm_callSi (k := 3) (As := [.int (nI st), .int (nI sv), .int (nI false.toNat)]) (rest := [.ref (b + (103 + 2 * k))]) X hP hS  (kX6_withBit l D C b n E st sv false (by omega) (by omega)) wq2_237 wq2_238 wq1_1 wq2_239 (by decide) (by rw [hRe]; exact ⟨Nat.le_of_ble_eq_true rfl, Nat.le_of_ble_eq_true rfl⟩) rfl hl.1 rfl (Nat.le_of_ble_eq_true rfl) (Nat.zero_le _) (Nat.zero_le _) dX6_mark_51 (fun r5 E5 H locs hw hP hS => ?_)
      obtain ⟨hrt, hEe⟩ := hw
      subst hrt
      subst hEe
      refine wm_put (v := .int (nI (wm_wb st sv false))) X hP hS hlt2 hE2 rfl wm_inX2 tyX2 tyX2_ok nmX2 2 (by decide) wq1_49 rfl rfl rfl (fs1 := [.ref (b + (104 + 2 * k)), .int (nI cn), .int (nI (wm_wb st sv false)), .int (nI en)]) rfl (Nat.le_of_ble_eq_true rfl) dX6_mark_54 (fun H locs E6 hP hS hE2 hq => ?_)
      have hE0 := (hq 0 (by omega)).trans hE0
      have hE1 := (hq 1 (by omega)).trans hE1
      have hfr : ∀ j, j ≠ 103 + 2 * k → E6 j = E j := fun j h0 => (hq j h0).trans (hfr j h0)
      refine lv_aload X.1 X.2.1 dX6_mark_57 (lv_at hl 0 rfl) ?_
      refine lv_aload X.1 X.2.1 dX6_mark_59 (lv_at hl 0 rfl) ?_
      refine wm_get X hP hlt2 hE2 rfl wm_inX2 3 (by decide) wq1_53 rfl dX6_mark_61 ?_
      refine lv_iload_n X.1 X.2.1 dX6_mark_64 rfl (lv_at hl 3 rfl) ?_
      refine lv_iload_n X.1 X.2.1 dX6_mark_65 rfl (lv_at hl 4 rfl) ?_
      refine lv_iconst (v := nI 2) X.1 X.2.1 dX6_mark_66 (by decide) ?_
      refine wm_iand (x := z) (y := 2) X dX6_mark_67 ?_
      refine wm_if_eq (x := (z &&& 2)) (tgt := 75) X (Nat.lt_of_le_of_lt Nat.and_le_left (by omega)) dX6_mark_68 (by decide) (fun hc68 => ?_) (fun hc68 => ?_)
      · refine lv_iconst (v := nI 0) X.1 X.2.1 dX6_mark_75 (by decide) ?_
        refine wm_callSi (k := 3) (As := [.int (nI en), .int (nI sv), .int (nI false.toNat)]) (rest := [.ref (b + (103 + 2 * k))]) X hP hS  (kX6_withBit l D C b n E6 en sv false (by omega) (by omega)) wq2_237 wq2_238 wq1_1 wq2_239 (by decide) (by rw [hRe]; exact ⟨Nat.le_of_ble_eq_true rfl, Nat.le_of_ble_eq_true rfl⟩) rfl hl.1 rfl (Nat.le_of_ble_eq_true rfl) (Nat.zero_le _) (Nat.zero_le _) dX6_mark_76 (fun r8 E8 H locs hw hP hS => ?_)
        obtain ⟨hrt, hEe⟩ := hw
        subst hrt
        subst hEe
        refine wm_put (v := .int (nI (wm_wb en sv false))) X hP hS hlt2 hE2 rfl wm_inX2 tyX2 tyX2_ok nmX2 3 (by decide) wq1_53 rfl rfl rfl (fs1 := [.ref (b + (104 + 2 * k)), .int (nI cn), .int (nI (wm_wb st sv false)), .int (nI (wm_wb en sv false))]) rfl (Nat.le_of_ble_eq_true rfl) dX6_mark_79 (fun H locs E9 hP hS hE2 hq => ?_)
        have hE0 := (hq 0 (by omega)).trans hE0
        have hE1 := (hq 1 (by omega)).trans hE1
        have hfr : ∀ j, j ≠ 103 + 2 * k → E9 j = E j := fun j h0 => (hq j h0).trans (hfr j h0)
        have q1 : decide (z &&& 1 ≠ 0) = false := decide_eq_false (fun q => q hc43)
        have q2 : decide (z &&& 2 ≠ 0) = false := decide_eq_false (fun q => q hc68)
        exact wm_vret (post := pX6_mark C b E ts k cn st en sv z) X hr hP hS ⟨(by rw [q1, q2]; exact hE2), hfr⟩ hQ dX6_mark_82
      · refine lv_iconst (v := nI 1) X.1 X.2.1 dX6_mark_71 (by decide) ?_
        refine lv_goto (tgt := 76) X.1 X.2.1 dX6_mark_72 (by decide) ?_
        refine wm_callSi (k := 3) (As := [.int (nI en), .int (nI sv), .int (nI true.toNat)]) (rest := [.ref (b + (103 + 2 * k))]) X hP hS  (kX6_withBit l D C b n E6 en sv true (by omega) (by omega)) wq2_237 wq2_238 wq1_1 wq2_239 (by decide) (by rw [hRe]; exact ⟨Nat.le_of_ble_eq_true rfl, Nat.le_of_ble_eq_true rfl⟩) rfl hl.1 rfl (Nat.le_of_ble_eq_true rfl) (Nat.zero_le _) (Nat.zero_le _) dX6_mark_76 (fun r10 E10 H locs hw hP hS => ?_)
        obtain ⟨hrt, hEe⟩ := hw
        subst hrt
        subst hEe
        refine wm_put (v := .int (nI (wm_wb en sv true))) X hP hS hlt2 hE2 rfl wm_inX2 tyX2 tyX2_ok nmX2 3 (by decide) wq1_53 rfl rfl rfl (fs1 := [.ref (b + (104 + 2 * k)), .int (nI cn), .int (nI (wm_wb st sv false)), .int (nI (wm_wb en sv true))]) rfl (Nat.le_of_ble_eq_true rfl) dX6_mark_79 (fun H locs E11 hP hS hE2 hq => ?_)
        have hE0 := (hq 0 (by omega)).trans hE0
        have hE1 := (hq 1 (by omega)).trans hE1
        have hfr : ∀ j, j ≠ 103 + 2 * k → E11 j = E j := fun j h0 => (hq j h0).trans (hfr j h0)
        have q1 : decide (z &&& 1 ≠ 0) = false := decide_eq_false (fun q => q hc43)
        have q2 : decide (z &&& 2 ≠ 0) = true := decide_eq_true hc68
        exact wm_vret (post := pX6_mark C b E ts k cn st en sv z) X hr hP hS ⟨(by rw [q1, q2]; exact hE2), hfr⟩ hQ dX6_mark_82
    · refine lv_iconst (v := nI 1) X.1 X.2.1 dX6_mark_46 (by decide) ?_
      refine lv_goto (tgt := 51) X.1 X.2.1 dX6_mark_47 (by decide) ?_
      refine wm_callSi (k := 3) (As := [.int (nI st), .int (nI sv), .int (nI true.toNat)]) (rest := [.ref (b + (103 + 2 * k))]) X hP hS  (kX6_withBit l D C b n E st sv true (by omega) (by omega)) wq2_237 wq2_238 wq1_1 wq2_239 (by decide) (by rw [hRe]; exact ⟨Nat.le_of_ble_eq_true rfl, Nat.le_of_ble_eq_true rfl⟩) rfl hl.1 rfl (Nat.le_of_ble_eq_true rfl) (Nat.zero_le _) (Nat.zero_le _) dX6_mark_51 (fun r12 E12 H locs hw hP hS => ?_)
      obtain ⟨hrt, hEe⟩ := hw
      subst hrt
      subst hEe
      refine wm_put (v := .int (nI (wm_wb st sv true))) X hP hS hlt2 hE2 rfl wm_inX2 tyX2 tyX2_ok nmX2 2 (by decide) wq1_49 rfl rfl rfl (fs1 := [.ref (b + (104 + 2 * k)), .int (nI cn), .int (nI (wm_wb st sv true)), .int (nI en)]) rfl (Nat.le_of_ble_eq_true rfl) dX6_mark_54 (fun H locs E13 hP hS hE2 hq => ?_)
      have hE0 := (hq 0 (by omega)).trans hE0
      have hE1 := (hq 1 (by omega)).trans hE1
      have hfr : ∀ j, j ≠ 103 + 2 * k → E13 j = E j := fun j h0 => (hq j h0).trans (hfr j h0)
      refine lv_aload X.1 X.2.1 dX6_mark_57 (lv_at hl 0 rfl) ?_
      refine lv_aload X.1 X.2.1 dX6_mark_59 (lv_at hl 0 rfl) ?_
      refine wm_get X hP hlt2 hE2 rfl wm_inX2 3 (by decide) wq1_53 rfl dX6_mark_61 ?_
      refine lv_iload_n X.1 X.2.1 dX6_mark_64 rfl (lv_at hl 3 rfl) ?_
      refine lv_iload_n X.1 X.2.1 dX6_mark_65 rfl (lv_at hl 4 rfl) ?_
      refine lv_iconst (v := nI 2) X.1 X.2.1 dX6_mark_66 (by decide) ?_
      refine wm_iand (x := z) (y := 2) X dX6_mark_67 ?_
      refine wm_if_eq (x := (z &&& 2)) (tgt := 75) X (Nat.lt_of_le_of_lt Nat.and_le_left (by omega)) dX6_mark_68 (by decide) (fun hc68 => ?_) (fun hc68 => ?_)
      · refine lv_iconst (v := nI 0) X.1 X.2.1 dX6_mark_75 (by decide) ?_
        refine wm_callSi (k := 3) (As := [.int (nI en), .int (nI sv), .int (nI false.toNat)]) (rest := [.ref (b + (103 + 2 * k))]) X hP hS  (kX6_withBit l D C b n E13 en sv false (by omega) (by omega)) wq2_237 wq2_238 wq1_1 wq2_239 (by decide) (by rw [hRe]; exact ⟨Nat.le_of_ble_eq_true rfl, Nat.le_of_ble_eq_true rfl⟩) rfl hl.1 rfl (Nat.le_of_ble_eq_true rfl) (Nat.zero_le _) (Nat.zero_le _) dX6_mark_76 (fun r15 E15 H locs hw hP hS => ?_)
        obtain ⟨hrt, hEe⟩ := hw
        subst hrt
        subst hEe
        refine wm_put (v := .int (nI (wm_wb en sv false))) X hP hS hlt2 hE2 rfl wm_inX2 tyX2 tyX2_ok nmX2 3 (by decide) wq1_53 rfl rfl rfl (fs1 := [.ref (b + (104 + 2 * k)), .int (nI cn), .int (nI (wm_wb st sv true)), .int (nI (wm_wb en sv false))]) rfl (Nat.le_of_ble_eq_true rfl) dX6_mark_79 (fun H locs E16 hP hS hE2 hq => ?_)
        have hE0 := (hq 0 (by omega)).trans hE0
        have hE1 := (hq 1 (by omega)).trans hE1
        have hfr : ∀ j, j ≠ 103 + 2 * k → E16 j = E j := fun j h0 => (hq j h0).trans (hfr j h0)
        have q1 : decide (z &&& 1 ≠ 0) = true := decide_eq_true hc43
        have q2 : decide (z &&& 2 ≠ 0) = false := decide_eq_false (fun q => q hc68)
        exact wm_vret (post := pX6_mark C b E ts k cn st en sv z) X hr hP hS ⟨(by rw [q1, q2]; exact hE2), hfr⟩ hQ dX6_mark_82
      · refine lv_iconst (v := nI 1) X.1 X.2.1 dX6_mark_71 (by decide) ?_
        refine lv_goto (tgt := 76) X.1 X.2.1 dX6_mark_72 (by decide) ?_
        refine wm_callSi (k := 3) (As := [.int (nI en), .int (nI sv), .int (nI true.toNat)]) (rest := [.ref (b + (103 + 2 * k))]) X hP hS  (kX6_withBit l D C b n E13 en sv true (by omega) (by omega)) wq2_237 wq2_238 wq1_1 wq2_239 (by decide) (by rw [hRe]; exact ⟨Nat.le_of_ble_eq_true rfl, Nat.le_of_ble_eq_true rfl⟩) rfl hl.1 rfl (Nat.le_of_ble_eq_true rfl) (Nat.zero_le _) (Nat.zero_le _) dX6_mark_76 (fun r17 E17 H locs hw hP hS => ?_)
        obtain ⟨hrt, hEe⟩ := hw
        subst hrt
        subst hEe
        refine wm_put (v := .int (nI (wm_wb en sv true))) X hP hS hlt2 hE2 rfl wm_inX2 tyX2 tyX2_ok nmX2 3 (by decide) wq1_53 rfl rfl rfl (fs1 := [.ref (b + (104 + 2 * k)), .int (nI cn), .int (nI (wm_wb st sv true)), .int (nI (wm_wb en sv true))]) rfl (Nat.le_of_ble_eq_true rfl) dX6_mark_79 (fun H locs E18 hP hS hE2 hq => ?_)
        have hE0 := (hq 0 (by omega)).trans hE0
        have hE1 := (hq 1 (by omega)).trans hE1
        have hfr : ∀ j, j ≠ 103 + 2 * k → E18 j = E j := fun j h0 => (hq j h0).trans (hfr j h0)
        have q1 : decide (z &&& 1 ≠ 0) = true := decide_eq_true hc43
        have q2 : decide (z &&& 2 ≠ 0) = true := decide_eq_true hc68
        exact wm_vret (post := pX6_mark C b E ts k cn st en sv z) X hr hP hS ⟨(by rw [q1, q2]; exact hE2), hfr⟩ hQ dX6_mark_82
  · exact absurd hc19 (by omega)
def pX6_arc (C : Nat → ClassId) (b : Nat) (E : Nat → va_E) (ts k cn st en sv lr sw : Nat) (v : Bool) (g : Nat → Nat) : Int32 → (Nat → va_E) → Prop := fun r E' => r = nI ((g (lr * 24 + sv)).testBit sw).toNat ∧ E' (104 + 2 * k) = wm_I C 192 (va_up g (lr * 24 + sv) (wm_wb (g (lr * 24 + sv)) sw v)) ∧ (∀ j, j ≠ 104 + 2 * k → E' j = E j)
set_option maxHeartbeats 4000000 in
set_option maxRecDepth 100000 in
theorem kX6_arc (l : Launch) (D : va_G) (C : Nat → ClassId) (b n : Nat) (E : Nat → va_E) (ts k cn st en sv lr sw : Nat) (v : Bool) (g : Nat → Nat) (hlt0 : 0 < n) (hE0 : E 0 = .inr (6, [.ref (b + 1), .ref (b + 2), .ref (b + 4), .int (nI ts), .ref (b + 5), .ref (b + 93), .ref (b + 100)])) (hlt1 : 1 < n) (hE1 : E 1 = wm_Q C 4 8 (fun x9 => some (b + (103 + 2 * x9)))) (hlt2 : 103 + 2 * k < n) (hE2 : E (103 + 2 * k) = .inr (2, [.ref (b + (104 + 2 * k)), .int (nI cn), .int (nI st), .int (nI en)])) (hlt3 : 104 + 2 * k < n) (hE3 : E (104 + 2 * k) = wm_I C 192 g) (hkk : k < 8) (hc : cn ≤ 24) (hsv : sv < cn) (hsw : sw < cn) (hlr : lr < 8) (hgv : g (lr * 24 + sv) < 2 ^ 32) : Met l yX6_arc (wm_ws yX6_arc cX6_arc 8 (some .boolean)) { frames := 1, cells := 0, slots := 0, locals := 23 } (va_Pc [.ref (b + 0), .int (nI k), .int (nI sv), .int (nI lr), .int (nI sw), .int (nI v.toNat)] (wm_G D C b n E)) (va_Qi (pX6_arc C b E ts k cn st en sv lr sw v g) (fun E' t => wm_P D b n E' t.heap) (wm_A b)) 0 0 (wm_A b) := by
  refine wm_ofW (by decide) (Nat.le_of_ble_eq_true rfl) (fun p e s m below meth c ls R args Q hRe hQ X hr hnm hP hS hl => ?_)
  have hl : lv_has ls 8 [(0, .ref (b + 0)), (1, .int (nI k)), (2, .int (nI sv)), (3, .int (nI lr)), (4, .int (nI sw)), (5, .int (nI v.toNat))] := hl
  have hfr : ∀ j, j ≠ 104 + 2 * k → E j = E j := fun _ _ => rfl
  refine lv_aload_n X.1 X.2.1 dX6_arc_0 rfl (lv_at hl 0 rfl) ?_
  refine lv_iload_n X.1 X.2.1 dX6_arc_1 rfl (lv_at hl 1 rfl) ?_
  refine wm_callVr (k := 1) (As := [.int (nI k)]) (rest := []) X hP hS hlt0 hE0 rfl (kX6_machineAt l D C b n E ts k hlt0 hE0 hlt1 hE1 (by omega)) wq2_88 wq2_90 wqP1_1 wq1_1 wq2_91 (by decide) (by rw [hRe]; exact ⟨Nat.le_of_ble_eq_true rfl, Nat.le_of_ble_eq_true rfl⟩) rfl hl.1 rfl (Nat.le_of_ble_eq_true rfl) (Nat.zero_le _) (Nat.zero_le _) dX6_arc_2 (fun E1 H locs hw hP hS => ?_)
  have hEe := hw
  subst hEe
  refine lv_astore (lv' := [(6, .ref (b + (103 + 2 * k))), (0, .ref (b + 0)), (1, .int (nI k)), (2, .int (nI sv)), (3, .int (nI lr)), (4, .int (nI sw)), (5, .int (nI v.toNat))]) X.1 X.2.1 dX6_arc_5 hl (by decide) rfl (fun ls hl => ?_)
  refine lv_aload X.1 X.2.1 dX6_arc_7 (lv_at hl 0 rfl) ?_
  refine lv_iload_n X.1 X.2.1 dX6_arc_9 rfl (lv_at hl 3 rfl) ?_
  refine wm_callSv (k := 2) (As := [.ref (b + (103 + 2 * k)), .int (nI sv)]) (rest := []) X hP hS  (kX6_checkState l D C b n E (103 + 2 * k) (104 + 2 * k) cn st en sv hlt2 hE2 (by omega) (by omega)) wq2_232 wq2_233 wq1_1 wq2_234 (by decide) (by rw [hRe]; exact ⟨Nat.le_of_ble_eq_true rfl, Nat.le_of_ble_eq_true rfl⟩) rfl hl.1 rfl (Nat.le_of_ble_eq_true rfl) (Nat.zero_le _) (Nat.zero_le _) dX6_arc_10 (fun E2 H locs hw hP hS => ?_)
  have hEe := hw
  subst hEe
  refine lv_aload X.1 X.2.1 dX6_arc_13 (lv_at hl 0 rfl) ?_
  refine lv_iload X.1 X.2.1 dX6_arc_15 (lv_at hl 5 rfl) ?_
  refine wm_callSv (k := 2) (As := [.ref (b + (103 + 2 * k)), .int (nI sw)]) (rest := []) X hP hS  (kX6_checkState l D C b n E (103 + 2 * k) (104 + 2 * k) cn st en sw hlt2 hE2 (by omega) (by omega)) wq2_232 wq2_233 wq1_1 wq2_234 (by decide) (by rw [hRe]; exact ⟨Nat.le_of_ble_eq_true rfl, Nat.le_of_ble_eq_true rfl⟩) rfl hl.1 rfl (Nat.le_of_ble_eq_true rfl) (Nat.zero_le _) (Nat.zero_le _) dX6_arc_17 (fun E3 H locs hw hP hS => ?_)
  have hEe := hw
  subst hEe
  refine lv_iload_n X.1 X.2.1 dX6_arc_20 rfl (lv_at hl 4 rfl) ?_
  refine wm_if_lt (x := lr) (tgt := 30) X (by omega) dX6_arc_21 (by decide) ?_
  refine lv_iload_n X.1 X.2.1 dX6_arc_24 rfl (lv_at hl 4 rfl) ?_
  refine lv_bipush (v := nI 8) X.1 X.2.1 dX6_arc_25 (by decide) ?_
  refine wm_icmp_lt (x := lr) (y := 8) (tgt := 40) X (by omega) (by decide) dX6_arc_27 (by decide) (fun hc27 => ?_) (fun hc27 => ?_)
  · refine lv_aload X.1 X.2.1 dX6_arc_40 (lv_at hl 0 rfl) ?_
    refine lv_iload_n X.1 X.2.1 dX6_arc_42 rfl (lv_at hl 3 rfl) ?_
    refine lv_iload_n X.1 X.2.1 dX6_arc_43 rfl (lv_at hl 4 rfl) ?_
    refine wm_callVi (k := 2) (As := [.int (nI sv), .int (nI lr)]) (rest := []) X hP hS hlt2 hE2 rfl (kX2_goalsOf l D C b n E (103 + 2 * k) (104 + 2 * k) cn st en sv lr g hlt2 hE2 hlt3 hE3 (by omega)) wq3_8 wq3_9 wq3_10 wq1_2 wq3_11 (by decide) (by rw [hRe]; exact ⟨Nat.le_of_ble_eq_true rfl, Nat.le_of_ble_eq_true rfl⟩) rfl hl.1 rfl (Nat.le_of_ble_eq_true rfl) (Nat.zero_le _) (Nat.zero_le _) dX6_arc_44 (fun r5 E5 H locs hw hP hS => ?_)
    obtain ⟨hrt, hEe⟩ := hw
    subst hrt
    subst hEe
    refine lv_istore (lv' := [(7, .int (nI (g (lr * 24 + sv)))), (6, .ref (b + (103 + 2 * k))), (0, .ref (b + 0)), (1, .int (nI k)), (2, .int (nI sv)), (3, .int (nI lr)), (4, .int (nI sw)), (5, .int (nI v.toNat))]) X.1 X.2.1 dX6_arc_47 hl (by decide) rfl (fun ls hl => ?_)
    refine lv_aload X.1 X.2.1 dX6_arc_49 (lv_at hl 1 rfl) ?_
    refine lv_iload_n X.1 X.2.1 dX6_arc_51 rfl (lv_at hl 4 rfl) ?_
    refine lv_iload_n X.1 X.2.1 dX6_arc_52 rfl (lv_at hl 5 rfl) ?_
    refine lv_iload X.1 X.2.1 dX6_arc_53 (lv_at hl 0 rfl) ?_
    refine lv_iload X.1 X.2.1 dX6_arc_55 (lv_at hl 6 rfl) ?_
    refine lv_iload X.1 X.2.1 dX6_arc_57 (lv_at hl 7 rfl) ?_
    refine wm_callSi (k := 3) (As := [.int (nI (g (lr * 24 + sv))), .int (nI sw), .int (nI v.toNat)]) (rest := [.int (nI lr), .int (nI sv), .ref (b + (103 + 2 * k))]) X hP hS  (kX6_withBit l D C b n E (g (lr * 24 + sv)) sw v (by omega) (by omega)) wq2_237 wq2_238 wq1_1 wq2_239 (by decide) (by rw [hRe]; exact ⟨Nat.le_of_ble_eq_true rfl, Nat.le_of_ble_eq_true rfl⟩) rfl hl.1 rfl (Nat.le_of_ble_eq_true rfl) (Nat.zero_le _) (Nat.zero_le _) dX6_arc_59 (fun r6 E6 H locs hw hP hS => ?_)
    obtain ⟨hrt, hEe⟩ := hw
    subst hrt
    subst hEe
    refine wm_callVv (k := 3) (As := [.int (nI sv), .int (nI lr), .int (nI (wm_wb (g (lr * 24 + sv)) sw v))]) (rest := []) X hP hS hlt2 hE2 rfl (kX2_putGoals l D C b n E (103 + 2 * k) (104 + 2 * k) cn st en sv lr (wm_wb (g (lr * 24 + sv)) sw v) g hlt2 hE2 hlt3 hE3 (by omega) (by omega)) wq3_12 wq2_213 wq2_214 wq1_2 wq2_215 (by decide) (by rw [hRe]; exact ⟨Nat.le_of_ble_eq_true rfl, Nat.le_of_ble_eq_true rfl⟩) rfl hl.1 rfl (Nat.le_of_ble_eq_true rfl) (Nat.zero_le _) (Nat.zero_le _) dX6_arc_62 (fun E7 H locs hw hP hS => ?_)
    obtain ⟨hE3, hq⟩ := hw
    have hE0 := (hq 0 (by omega)).trans hE0
    have hE1 := (hq 1 (by omega)).trans hE1
    have hE2 := (hq (103 + 2 * k) (by omega)).trans hE2
    have hfr : ∀ j, j ≠ 104 + 2 * k → E7 j = E j := fun j h0 => (hq j h0).trans (hfr j h0)
    refine lv_iload X.1 X.2.1 dX6_arc_65 (lv_at hl 0 rfl) ?_
    refine lv_iload X.1 X.2.1 dX6_arc_67 (lv_at hl 6 rfl) ?_
    refine wm_callSi (k := 2) (As := [.int (nI (g (lr * 24 + sv))), .int (nI sw)]) (rest := []) X hP hS  (kX6_hasBit l D C b n E7 (g (lr * 24 + sv)) sw (by omega) (by omega)) wq3_13 wq2_210 wq1_1 wq2_211 (by decide) (by rw [hRe]; exact ⟨Nat.le_of_ble_eq_true rfl, Nat.le_of_ble_eq_true rfl⟩) rfl hl.1 rfl (Nat.le_of_ble_eq_true rfl) (Nat.zero_le _) (Nat.zero_le _) dX6_arc_69 (fun r8 E8 H locs hw hP hS => ?_)
    obtain ⟨hrt, hEe⟩ := hw
    subst hrt
    subst hEe
    exact wm_zret (v := (g (lr * 24 + sv)).testBit sw) (post := pX6_arc C b E ts k cn st en sv lr sw v g) X hr hP hS ⟨rfl, hE3, hfr⟩ hQ dX6_arc_72
  · exact absurd hc27 (by omega)
def pX6_arcs (C : Nat → ClassId) (b : Nat) (E : Nat → va_E) (ts k cn st en sv lr : Nat) (g : Nat → Nat) : Int32 → (Nat → va_E) → Prop := fun r E' => r = nI (if lr = 8 then (if st.testBit sv then 1 else 0) ||| (if en.testBit sv then 2 else 0) else g (lr * 24 + sv)) ∧ E = E'
set_option maxHeartbeats 4000000 in
set_option maxRecDepth 100000 in
theorem kX6_arcs (l : Launch) (D : va_G) (C : Nat → ClassId) (b n : Nat) (E : Nat → va_E) (ts k cn st en sv lr : Nat) (g : Nat → Nat) (hlt0 : 0 < n) (hE0 : E 0 = .inr (6, [.ref (b + 1), .ref (b + 2), .ref (b + 4), .int (nI ts), .ref (b + 5), .ref (b + 93), .ref (b + 100)])) (hlt1 : 1 < n) (hE1 : E 1 = wm_Q C 4 8 (fun x9 => some (b + (103 + 2 * x9)))) (hlt2 : 103 + 2 * k < n) (hE2 : E (103 + 2 * k) = .inr (2, [.ref (b + (104 + 2 * k)), .int (nI cn), .int (nI st), .int (nI en)])) (hlt3 : 104 + 2 * k < n) (hE3 : E (104 + 2 * k) = wm_I C 192 g) (hkk : k < 8) (hc : cn ≤ 24) (hsv : sv < cn) (hlr : lr ≤ 8) (hst : st < 2 ^ 24) (hen : en < 2 ^ 24) : Met l yX6_arcs (wm_ws yX6_arcs cX6_arcs 5 (some .int)) { frames := 1, cells := 0, slots := 0, locals := 22 } (va_Pc [.ref (b + 0), .int (nI k), .int (nI sv), .int (nI lr)] (wm_G D C b n E)) (va_Qi (pX6_arcs C b E ts k cn st en sv lr g) (fun E' t => wm_P D b n E' t.heap) (wm_A b)) 0 0 (wm_A b) := by
  refine wm_ofW (by decide) (Nat.le_of_ble_eq_true rfl) (fun p e s m below meth c ls R args Q hRe hQ X hr hnm hP hS hl => ?_)
  have hl : lv_has ls 5 [(0, .ref (b + 0)), (1, .int (nI k)), (2, .int (nI sv)), (3, .int (nI lr))] := hl
  refine lv_aload_n X.1 X.2.1 dX6_arcs_0 rfl (lv_at hl 0 rfl) ?_
  refine lv_iload_n X.1 X.2.1 dX6_arcs_1 rfl (lv_at hl 1 rfl) ?_
  refine wm_callVr (k := 1) (As := [.int (nI k)]) (rest := []) X hP hS hlt0 hE0 rfl (kX6_machineAt l D C b n E ts k hlt0 hE0 hlt1 hE1 (by omega)) wq2_88 wq2_90 wqP1_1 wq1_1 wq2_91 (by decide) (by rw [hRe]; exact ⟨Nat.le_of_ble_eq_true rfl, Nat.le_of_ble_eq_true rfl⟩) rfl hl.1 rfl (Nat.le_of_ble_eq_true rfl) (Nat.zero_le _) (Nat.zero_le _) dX6_arcs_2 (fun E1 H locs hw hP hS => ?_)
  have hEe := hw
  subst hEe
  refine lv_astore (lv' := [(4, .ref (b + (103 + 2 * k))), (0, .ref (b + 0)), (1, .int (nI k)), (2, .int (nI sv)), (3, .int (nI lr))]) X.1 X.2.1 dX6_arcs_5 hl (by decide) rfl (fun ls hl => ?_)
  refine lv_aload X.1 X.2.1 dX6_arcs_7 (lv_at hl 0 rfl) ?_
  refine lv_iload_n X.1 X.2.1 dX6_arcs_9 rfl (lv_at hl 3 rfl) ?_
  refine wm_callSv (k := 2) (As := [.ref (b + (103 + 2 * k)), .int (nI sv)]) (rest := []) X hP hS  (kX6_checkState l D C b n E (103 + 2 * k) (104 + 2 * k) cn st en sv hlt2 hE2 (by omega) (by omega)) wq2_232 wq2_233 wq1_1 wq2_234 (by decide) (by rw [hRe]; exact ⟨Nat.le_of_ble_eq_true rfl, Nat.le_of_ble_eq_true rfl⟩) rfl hl.1 rfl (Nat.le_of_ble_eq_true rfl) (Nat.zero_le _) (Nat.zero_le _) dX6_arcs_10 (fun E2 H locs hw hP hS => ?_)
  have hEe := hw
  subst hEe
  refine lv_iload_n X.1 X.2.1 dX6_arcs_13 rfl (lv_at hl 4 rfl) ?_
  refine wm_if_lt (x := lr) (tgt := 23) X (by omega) dX6_arcs_14 (by decide) ?_
  refine lv_iload_n X.1 X.2.1 dX6_arcs_17 rfl (lv_at hl 4 rfl) ?_
  refine lv_bipush (v := nI 8) X.1 X.2.1 dX6_arcs_18 (by decide) ?_
  refine wm_icmp_le (x := lr) (y := 8) (tgt := 33) X (by omega) (by decide) dX6_arcs_20 (by decide) (fun hc20 => ?_) (fun hc20 => ?_)
  · refine lv_iload_n X.1 X.2.1 dX6_arcs_33 rfl (lv_at hl 4 rfl) ?_
    refine lv_bipush (v := nI 8) X.1 X.2.1 dX6_arcs_34 (by decide) ?_
    refine wm_icmp_ne (x := lr) (y := 8) (tgt := 75) X (by omega) (by decide) dX6_arcs_36 (by decide) (fun hc36 => ?_) (fun hc36 => ?_)
    · refine lv_aload X.1 X.2.1 dX6_arcs_75 (lv_at hl 0 rfl) ?_
      refine lv_iload_n X.1 X.2.1 dX6_arcs_77 rfl (lv_at hl 3 rfl) ?_
      refine lv_iload_n X.1 X.2.1 dX6_arcs_78 rfl (lv_at hl 4 rfl) ?_
      refine wm_callVi (k := 2) (As := [.int (nI sv), .int (nI lr)]) (rest := []) X hP hS hlt2 hE2 rfl (kX2_goalsOf l D C b n E (103 + 2 * k) (104 + 2 * k) cn st en sv lr g hlt2 hE2 hlt3 hE3 (by omega)) wq3_8 wq3_9 wq3_10 wq1_2 wq3_11 (by decide) (by rw [hRe]; exact ⟨Nat.le_of_ble_eq_true rfl, Nat.le_of_ble_eq_true rfl⟩) rfl hl.1 rfl (Nat.le_of_ble_eq_true rfl) (Nat.zero_le _) (Nat.zero_le _) dX6_arcs_79 (fun r5 E5 H locs hw hP hS => ?_)
      obtain ⟨hrt, hEe⟩ := hw
      subst hrt
      subst hEe
      exact wm_iret (post := pX6_arcs C b E ts k cn st en sv lr g) X hr hP hS ⟨(congrArg nI (if_neg hc36).symm), rfl⟩ hQ dX6_arcs_82
    · refine lv_aload X.1 X.2.1 dX6_arcs_39 (lv_at hl 0 rfl) ?_
      refine wm_get X hP hlt2 hE2 rfl wm_inX2 2 (by decide) wq1_49 rfl dX6_arcs_41 ?_
      refine lv_iload_n X.1 X.2.1 dX6_arcs_44 rfl (lv_at hl 3 rfl) ?_
      refine wm_callSi (k := 2) (As := [.int (nI st), .int (nI sv)]) (rest := []) X hP hS  (kX6_hasBit l D C b n E st sv (by omega) (by omega)) wq3_13 wq2_210 wq1_1 wq2_211 (by decide) (by rw [hRe]; exact ⟨Nat.le_of_ble_eq_true rfl, Nat.le_of_ble_eq_true rfl⟩) rfl hl.1 rfl (Nat.le_of_ble_eq_true rfl) (Nat.zero_le _) (Nat.zero_le _) dX6_arcs_45 (fun r6 E6 H locs hw hP hS => ?_)
      obtain ⟨hrt, hEe⟩ := hw
      subst hrt
      subst hEe
      refine wm_ifz_eq (x := (st.testBit sv)) (tgt := 55) X dX6_arcs_48 (by decide) (fun hc48 => ?_) (fun hc48 => ?_)
      · refine lv_iconst (v := nI 0) X.1 X.2.1 dX6_arcs_55 (by decide) ?_
        refine lv_aload X.1 X.2.1 dX6_arcs_56 (lv_at hl 0 rfl) ?_
        refine wm_get X hP hlt2 hE2 rfl wm_inX2 3 (by decide) wq1_53 rfl dX6_arcs_58 ?_
        refine lv_iload_n X.1 X.2.1 dX6_arcs_61 rfl (lv_at hl 3 rfl) ?_
        refine wm_callSi (k := 2) (As := [.int (nI en), .int (nI sv)]) (rest := [.int (nI 0)]) X hP hS  (kX6_hasBit l D C b n E en sv (by omega) (by omega)) wq3_13 wq2_210 wq1_1 wq2_211 (by decide) (by rw [hRe]; exact ⟨Nat.le_of_ble_eq_true rfl, Nat.le_of_ble_eq_true rfl⟩) rfl hl.1 rfl (Nat.le_of_ble_eq_true rfl) (Nat.zero_le _) (Nat.zero_le _) dX6_arcs_62 (fun r8 E8 H locs hw hP hS => ?_)
        obtain ⟨hrt, hEe⟩ := hw
        subst hrt
        subst hEe
        refine wm_ifz_eq (x := (en.testBit sv)) (tgt := 72) X dX6_arcs_65 (by decide) (fun hc65 => ?_) (fun hc65 => ?_)
        · refine lv_iconst (v := nI 0) X.1 X.2.1 dX6_arcs_72 (by decide) ?_
          refine wm_ior (x := 0) (y := 0) X dX6_arcs_73 ?_
          exact wm_iret (post := pX6_arcs C b E ts k cn st en sv lr g) X hr hP hS ⟨(by rw [if_pos hc36, hc48, hc65]; rfl), rfl⟩ hQ dX6_arcs_74
        · refine lv_iconst (v := nI 2) X.1 X.2.1 dX6_arcs_68 (by decide) ?_
          refine lv_goto (tgt := 73) X.1 X.2.1 dX6_arcs_69 (by decide) ?_
          refine wm_ior (x := 0) (y := 2) X dX6_arcs_73 ?_
          exact wm_iret (post := pX6_arcs C b E ts k cn st en sv lr g) X hr hP hS ⟨(by rw [if_pos hc36, hc48, hc65]; rfl), rfl⟩ hQ dX6_arcs_74
      · refine lv_iconst (v := nI 1) X.1 X.2.1 dX6_arcs_51 (by decide) ?_
        refine lv_goto (tgt := 56) X.1 X.2.1 dX6_arcs_52 (by decide) ?_
        refine lv_aload X.1 X.2.1 dX6_arcs_56 (lv_at hl 0 rfl) ?_
        refine wm_get X hP hlt2 hE2 rfl wm_inX2 3 (by decide) wq1_53 rfl dX6_arcs_58 ?_
        refine lv_iload_n X.1 X.2.1 dX6_arcs_61 rfl (lv_at hl 3 rfl) ?_
        refine wm_callSi (k := 2) (As := [.int (nI en), .int (nI sv)]) (rest := [.int (nI 1)]) X hP hS  (kX6_hasBit l D C b n E en sv (by omega) (by omega)) wq3_13 wq2_210 wq1_1 wq2_211 (by decide) (by rw [hRe]; exact ⟨Nat.le_of_ble_eq_true rfl, Nat.le_of_ble_eq_true rfl⟩) rfl hl.1 rfl (Nat.le_of_ble_eq_true rfl) (Nat.zero_le _) (Nat.zero_le _) dX6_arcs_62 (fun r10 E10 H locs hw hP hS => ?_)
        obtain ⟨hrt, hEe⟩ := hw
        subst hrt
        subst hEe
        refine wm_ifz_eq (x := (en.testBit sv)) (tgt := 72) X dX6_arcs_65 (by decide) (fun hc65 => ?_) (fun hc65 => ?_)
        · refine lv_iconst (v := nI 0) X.1 X.2.1 dX6_arcs_72 (by decide) ?_
          refine wm_ior (x := 1) (y := 0) X dX6_arcs_73 ?_
          exact wm_iret (post := pX6_arcs C b E ts k cn st en sv lr g) X hr hP hS ⟨(by rw [if_pos hc36, hc48, hc65]; rfl), rfl⟩ hQ dX6_arcs_74
        · refine lv_iconst (v := nI 2) X.1 X.2.1 dX6_arcs_68 (by decide) ?_
          refine lv_goto (tgt := 73) X.1 X.2.1 dX6_arcs_69 (by decide) ?_
          refine wm_ior (x := 1) (y := 2) X dX6_arcs_73 ?_
          exact wm_iret (post := pX6_arcs C b E ts k cn st en sv lr g) X hr hP hS ⟨(by rw [if_pos hc36, hc48, hc65]; rfl), rfl⟩ hQ dX6_arcs_74
  · exact absurd hc20 (by omega)
def pX6_turn (C : Nat → ClassId) (b : Nat) (E : Nat → va_E) (ts k i c0 s0 e0 cn st en ci si ei : Nat) (g0 g gi : Nat → Nat) : (Nat → va_E) → Prop := fun E' => ∃ (g1 : Nat → Nat) (g3 : Nat → Nat), E' 2 = .inr (2, [.ref (b + 3), .int (nI ci), .int (nI ei), .int (nI si)]) ∧ E' 3 = wm_I C 192 g3 ∧ E' (103 + 2 * k) = .inr (2, [.ref (b + (104 + 2 * k)), .int (nI ci), .int (nI ei), .int (nI si)]) ∧ E' (104 + 2 * k) = wm_I C 192 g1 ∧ (∀ j, j ≠ 2 → j ≠ 3 → j ≠ 103 + 2 * k → j ≠ 104 + 2 * k → E' j = E j) ∧ wm_bt ci 8 0 gi g3 ∧ (∀ j, j < 192 → g1 j = g3 j)
set_option maxHeartbeats 4000000 in
set_option maxRecDepth 100000 in
theorem kX6_turn (l : Launch) (D : va_G) (C : Nat → ClassId) (b n : Nat) (E : Nat → va_E) (ts k i c0 s0 e0 cn st en ci si ei : Nat) (g0 g gi : Nat → Nat) (hlt0 : 0 < n) (hE0 : E 0 = .inr (6, [.ref (b + 1), .ref (b + 2), .ref (b + 4), .int (nI ts), .ref (b + 5), .ref (b + 93), .ref (b + 100)])) (hlt1 : 1 < n) (hE1 : E 1 = wm_Q C 4 8 (fun x9 => some (b + (103 + 2 * x9)))) (hlt2 : 2 < n) (hE2 : E 2 = .inr (2, [.ref (b + 3), .int (nI c0), .int (nI s0), .int (nI e0)])) (hlt3 : 3 < n) (hE3 : E 3 = wm_I C 192 g0) (hlt4 : 103 + 2 * k < n) (hE4 : E (103 + 2 * k) = .inr (2, [.ref (b + (104 + 2 * k)), .int (nI cn), .int (nI st), .int (nI en)])) (hlt5 : 104 + 2 * k < n) (hE5 : E (104 + 2 * k) = wm_I C 192 g) (hlt6 : 103 + 2 * i < n) (hE6 : E (103 + 2 * i) = .inr (2, [.ref (b + (104 + 2 * i)), .int (nI ci), .int (nI si), .int (nI ei)])) (hlt7 : 104 + 2 * i < n) (hE7 : E (104 + 2 * i) = wm_I C 192 gi) (hkk : k < 8) (hii : i < 8) (hci : ci ≤ 24) (hgi : ∀ a x, a < 8 → x < ci → gi (a * 24 + x) < 2 ^ 32) : Met l yX6_turn (wm_ws yX6_turn cX6_turn 5 none) { frames := 3, cells := 0, slots := 0, locals := 70 } (va_Pc [.ref (b + 0), .int (nI k), .int (nI i)] (wm_G D C b n E)) (va_Qv (pX6_turn C b E ts k i c0 s0 e0 cn st en ci si ei g0 g gi) (fun E' t => wm_P D b n E' t.heap) (wm_A b)) 0 0 (wm_A b) := by
  refine wm_ofW (by decide) (Nat.le_of_ble_eq_true rfl) (fun p e s m below meth c ls R args Q hRe hQ X hr hnm hP hS hl => ?_)
  have hl : lv_has ls 5 [(0, .ref (b + 0)), (1, .int (nI k)), (2, .int (nI i))] := hl
  have hfr : ∀ j, j ≠ 2 → j ≠ 3 → j ≠ 103 + 2 * k → j ≠ 104 + 2 * k → E j = E j := fun _ _ _ _ _ => rfl
  refine lv_aload_n X.1 X.2.1 dX6_turn_0 rfl (lv_at hl 0 rfl) ?_
  refine lv_iload_n X.1 X.2.1 dX6_turn_1 rfl (lv_at hl 1 rfl) ?_
  refine wm_callVr (k := 1) (As := [.int (nI k)]) (rest := []) X hP hS hlt0 hE0 rfl (kX6_machineAt l D C b n E ts k hlt0 hE0 hlt1 hE1 (by omega)) wq2_88 wq2_90 wqP1_1 wq1_1 wq2_91 (by decide) (by rw [hRe]; exact ⟨Nat.le_of_ble_eq_true rfl, Nat.le_of_ble_eq_true rfl⟩) rfl hl.1 rfl (Nat.le_of_ble_eq_true rfl) (Nat.zero_le _) (Nat.zero_le _) dX6_turn_2 (fun E1 H locs hw hP hS => ?_)
  have hEe := hw
  subst hEe
  refine lv_astore_n (lv' := [(3, .ref (b + (103 + 2 * k))), (0, .ref (b + 0)), (1, .int (nI k)), (2, .int (nI i))]) X.1 X.2.1 dX6_turn_5 rfl hl (by decide) rfl (fun ls hl => ?_)
  refine lv_aload_n X.1 X.2.1 dX6_turn_6 rfl (lv_at hl 1 rfl) ?_
  refine lv_iload_n X.1 X.2.1 dX6_turn_7 rfl (lv_at hl 3 rfl) ?_
  refine wm_callVr (k := 1) (As := [.int (nI i)]) (rest := []) X hP hS hlt0 hE0 rfl (kX6_machineAt l D C b n E ts i hlt0 hE0 hlt1 hE1 (by omega)) wq2_88 wq2_90 wqP1_1 wq1_1 wq2_91 (by decide) (by rw [hRe]; exact ⟨Nat.le_of_ble_eq_true rfl, Nat.le_of_ble_eq_true rfl⟩) rfl hl.1 rfl (Nat.le_of_ble_eq_true rfl) (Nat.zero_le _) (Nat.zero_le _) dX6_turn_8 (fun E2 H locs hw hP hS => ?_)
  have hEe := hw
  subst hEe
  refine lv_astore (lv' := [(4, .ref (b + (103 + 2 * i))), (3, .ref (b + (103 + 2 * k))), (0, .ref (b + 0)), (1, .int (nI k)), (2, .int (nI i))]) X.1 X.2.1 dX6_turn_11 hl (by decide) rfl (fun ls hl => ?_)
  refine lv_aload_n X.1 X.2.1 dX6_turn_13 rfl (lv_at hl 2 rfl) ?_
  refine wm_get X hP hlt0 hE0 rfl wm_inX6 1 (by decide) wq1_208 rfl dX6_turn_14 ?_
  refine lv_aload X.1 X.2.1 dX6_turn_17 (lv_at hl 0 rfl) ?_
  refine wm_callVv (k := 1) (As := [.ref (b + (103 + 2 * i))]) (rest := []) X hP hS hlt2 hE2 rfl (kX2_becomeTurned l D C b n E 2 3 c0 s0 e0 (103 + 2 * i) (104 + 2 * i) ci si ei g0 gi hlt2 hE2 hlt3 hE3 hlt6 hE6 hlt7 hE7 (by omega) (by omega) (by omega) (by omega) (by omega) (by omega) hgi) wq3_35 wq3_36 wq3_37 wq1_2 wq3_38 (by decide) (by rw [hRe]; exact ⟨Nat.le_of_ble_eq_true rfl, Nat.le_of_ble_eq_true rfl⟩) rfl hl.1 rfl (Nat.le_of_ble_eq_true rfl) (Nat.zero_le _) (Nat.zero_le _) dX6_turn_19 (fun E3 H locs hw hP hS => ?_)
  obtain ⟨g13, hE2, hE3, hq, hp3_0⟩ := hw
  have hE0 := (hq 0 (by decide) (by decide)).trans hE0
  have hE1 := (hq 1 (by decide) (by decide)).trans hE1
  have hE4 := (hq (103 + 2 * k) (by omega) (by omega)).trans hE4
  have hE5 := (hq (104 + 2 * k) (by omega) (by omega)).trans hE5
  have hE6 := (hq (103 + 2 * i) (by omega) (by omega)).trans hE6
  have hE7 := (hq (104 + 2 * i) (by omega) (by omega)).trans hE7
  have hfr : ∀ j, j ≠ 2 → j ≠ 3 → j ≠ 103 + 2 * k → j ≠ 104 + 2 * k → E3 j = E j := fun j h0 h1 h2 h3 => (hq j h0 h1).trans (hfr j h0 h1 h2 h3)
  have hrel := hp3_0
  refine lv_aload_n X.1 X.2.1 dX6_turn_22 rfl (lv_at hl 1 rfl) ?_
  refine lv_aload_n X.1 X.2.1 dX6_turn_23 rfl (lv_at hl 2 rfl) ?_
  refine wm_get X hP hlt0 hE0 rfl wm_inX6 1 (by decide) wq1_208 rfl dX6_turn_24 ?_
  refine wm_callVv (k := 1) (As := [.ref (b + 2)]) (rest := []) X hP hS hlt4 hE4 rfl (kX2_becomeCopy l D C b n E3 (103 + 2 * k) (104 + 2 * k) cn st en 2 3 ci ei si g g13 hlt4 hE4 hlt5 hE5 hlt2 hE2 hlt3 hE3 (by omega) (by omega) (by omega) (by omega) (by omega)) wq3_48 wq3_49 wq3_50 wq1_2 wq3_51 (by decide) (by rw [hRe]; exact ⟨Nat.le_of_ble_eq_true rfl, Nat.le_of_ble_eq_true rfl⟩) rfl hl.1 rfl (Nat.le_of_ble_eq_true rfl) (Nat.zero_le _) (Nat.zero_le _) dX6_turn_27 (fun E4 H locs hw hP hS => ?_)
  obtain ⟨g14, hE4, hE5, hq, hp4_0⟩ := hw
  have hE0 := (hq 0 (by omega) (by omega)).trans hE0
  have hE1 := (hq 1 (by omega) (by omega)).trans hE1
  have hE2 := (hq 2 (by omega) (by omega)).trans hE2
  have hE3 := (hq 3 (by omega) (by omega)).trans hE3
  have hfr : ∀ j, j ≠ 2 → j ≠ 3 → j ≠ 103 + 2 * k → j ≠ 104 + 2 * k → E4 j = E j := fun j h0 h1 h2 h3 => (hq j h2 h3).trans (hfr j h0 h1 h2 h3)
  exact wm_vret (post := pX6_turn C b E ts k i c0 s0 e0 cn st en ci si ei g0 g gi) X hr hP hS ⟨g14, g13, hE2, hE3, hE4, hE5, hfr, hrel, hp4_0⟩ hQ dX6_turn_30
def peither0 (C : Nat → ClassId) (b : Nat) (E : Nat → va_E) (ts k i jj ci si ei cj sj ej : Nat) : Int32 → (Nat → va_E) → Prop := fun r E' => r = nI 4294967295 ∧ E = E'
set_option maxHeartbeats 4000000 in
set_option maxRecDepth 100000 in
theorem keither0 (l : Launch) (D : va_G) (C : Nat → ClassId) (b n : Nat) (E : Nat → va_E) (ts k i jj ci si ei cj sj ej : Nat) (hlt0 : 0 < n) (hE0 : E 0 = .inr (6, [.ref (b + 1), .ref (b + 2), .ref (b + 4), .int (nI ts), .ref (b + 5), .ref (b + 93), .ref (b + 100)])) (hlt1 : 1 < n) (hE1 : E 1 = wm_Q C 4 8 (fun x9 => some (b + (103 + 2 * x9)))) (hlt2 : 103 + 2 * i < n) (hE2 : E (103 + 2 * i) = .inr (2, [.ref (b + (104 + 2 * i)), .int (nI ci), .int (nI si), .int (nI ei)])) (hlt3 : 103 + 2 * jj < n) (hE3 : E (103 + 2 * jj) = .inr (2, [.ref (b + (104 + 2 * jj)), .int (nI cj), .int (nI sj), .int (nI ej)])) (hkk : k < 8) (hii : i < 8) (hjj : jj < 8) (hci : ci ≤ 24) (hcj : cj ≤ 24) (hb : 24 < ci + cj) (hb2 : ci + cj < 2 ^ 31) : Met l yX6_either (wm_ws yX6_either cX6_either 7 (some .int)) { frames := 1, cells := 0, slots := 0, locals := 21 } (va_Pc [.ref (b + 0), .int (nI k), .int (nI i), .int (nI jj)] (wm_G D C b n E)) (va_Qi (peither0 C b E ts k i jj ci si ei cj sj ej) (fun E' t => wm_P D b n E' t.heap) (wm_A b)) 0 0 (wm_A b) := by
  refine wm_ofW (by decide) (Nat.le_of_ble_eq_true rfl) (fun p e s m below meth c ls R args Q hRe hQ X hr hnm hP hS hl => ?_)
  have hl : lv_has ls 7 [(0, .ref (b + 0)), (1, .int (nI k)), (2, .int (nI i)), (3, .int (nI jj))] := hl
  refine lv_aload_n X.1 X.2.1 dX6_either_0 rfl (lv_at hl 0 rfl) ?_
  refine lv_iload_n X.1 X.2.1 dX6_either_1 rfl (lv_at hl 1 rfl) ?_
  refine wm_callVr (k := 1) (As := [.int (nI k)]) (rest := []) X hP hS hlt0 hE0 rfl (kX6_machineAt l D C b n E ts k hlt0 hE0 hlt1 hE1 (by omega)) wq2_88 wq2_90 wqP1_1 wq1_1 wq2_91 (by decide) (by rw [hRe]; exact ⟨Nat.le_of_ble_eq_true rfl, Nat.le_of_ble_eq_true rfl⟩) rfl hl.1 rfl (Nat.le_of_ble_eq_true rfl) (Nat.zero_le _) (Nat.zero_le _) dX6_either_2 (fun E1 H locs hw hP hS => ?_)
  have hEe := hw
  subst hEe
  refine lv_astore (lv' := [(4, .ref (b + (103 + 2 * k))), (0, .ref (b + 0)), (1, .int (nI k)), (2, .int (nI i)), (3, .int (nI jj))]) X.1 X.2.1 dX6_either_5 hl (by decide) rfl (fun ls hl => ?_)
  refine lv_aload_n X.1 X.2.1 dX6_either_7 rfl (lv_at hl 1 rfl) ?_
  refine lv_iload_n X.1 X.2.1 dX6_either_8 rfl (lv_at hl 3 rfl) ?_
  refine wm_callVr (k := 1) (As := [.int (nI i)]) (rest := []) X hP hS hlt0 hE0 rfl (kX6_machineAt l D C b n E ts i hlt0 hE0 hlt1 hE1 (by omega)) wq2_88 wq2_90 wqP1_1 wq1_1 wq2_91 (by decide) (by rw [hRe]; exact ⟨Nat.le_of_ble_eq_true rfl, Nat.le_of_ble_eq_true rfl⟩) rfl hl.1 rfl (Nat.le_of_ble_eq_true rfl) (Nat.zero_le _) (Nat.zero_le _) dX6_either_9 (fun E2 H locs hw hP hS => ?_)
  have hEe := hw
  subst hEe
  refine lv_astore (lv' := [(5, .ref (b + (103 + 2 * i))), (4, .ref (b + (103 + 2 * k))), (0, .ref (b + 0)), (1, .int (nI k)), (2, .int (nI i)), (3, .int (nI jj))]) X.1 X.2.1 dX6_either_12 hl (by decide) rfl (fun ls hl => ?_)
  refine lv_aload_n X.1 X.2.1 dX6_either_14 rfl (lv_at hl 2 rfl) ?_
  refine lv_iload_n X.1 X.2.1 dX6_either_15 rfl (lv_at hl 5 rfl) ?_
  refine wm_callVr (k := 1) (As := [.int (nI jj)]) (rest := []) X hP hS hlt0 hE0 rfl (kX6_machineAt l D C b n E ts jj hlt0 hE0 hlt1 hE1 (by omega)) wq2_88 wq2_90 wqP1_1 wq1_1 wq2_91 (by decide) (by rw [hRe]; exact ⟨Nat.le_of_ble_eq_true rfl, Nat.le_of_ble_eq_true rfl⟩) rfl hl.1 rfl (Nat.le_of_ble_eq_true rfl) (Nat.zero_le _) (Nat.zero_le _) dX6_either_16 (fun E3 H locs hw hP hS => ?_)
  have hEe := hw
  subst hEe
  refine lv_astore (lv' := [(6, .ref (b + (103 + 2 * jj))), (5, .ref (b + (103 + 2 * i))), (4, .ref (b + (103 + 2 * k))), (0, .ref (b + 0)), (1, .int (nI k)), (2, .int (nI i)), (3, .int (nI jj))]) X.1 X.2.1 dX6_either_19 hl (by decide) rfl (fun ls hl => ?_)
  refine lv_aload X.1 X.2.1 dX6_either_21 (lv_at hl 1 rfl) ?_
  refine wm_get X hP hlt2 hE2 rfl wm_inX2 1 (by decide) wq1_44 rfl dX6_either_23 ?_
  refine lv_aload X.1 X.2.1 dX6_either_26 (lv_at hl 0 rfl) ?_
  refine wm_get X hP hlt3 hE3 rfl wm_inX2 1 (by decide) wq1_44 rfl dX6_either_28 ?_
  refine wm_iadd (x := ci) (y := cj) X dX6_either_31 ?_
  refine lv_bipush (v := nI 24) X.1 X.2.1 dX6_either_32 (by decide) ?_
  refine wm_icmp_le (x := (ci + cj)) (y := 24) (tgt := 39) X (by omega) (by decide) dX6_either_34 (by decide) (fun hc34 => ?_) (fun hc34 => ?_)
  · exact absurd hc34 (by omega)
  · refine lv_iconst (v := nI 4294967295) X.1 X.2.1 dX6_either_37 (by decide) ?_
    exact wm_iret (post := peither0 C b E ts k i jj ci si ei cj sj ej) X hr hP hS ⟨rfl, rfl⟩ hQ dX6_either_38
def pboth0 (C : Nat → ClassId) (b : Nat) (E : Nat → va_E) (ts k i jj ci si ei cj sj ej : Nat) : Int32 → (Nat → va_E) → Prop := fun r E' => r = nI 4294967295 ∧ E = E'
set_option maxHeartbeats 4000000 in
set_option maxRecDepth 100000 in
theorem kboth0 (l : Launch) (D : va_G) (C : Nat → ClassId) (b n : Nat) (E : Nat → va_E) (ts k i jj ci si ei cj sj ej : Nat) (hlt0 : 0 < n) (hE0 : E 0 = .inr (6, [.ref (b + 1), .ref (b + 2), .ref (b + 4), .int (nI ts), .ref (b + 5), .ref (b + 93), .ref (b + 100)])) (hlt1 : 1 < n) (hE1 : E 1 = wm_Q C 4 8 (fun x9 => some (b + (103 + 2 * x9)))) (hlt2 : 103 + 2 * i < n) (hE2 : E (103 + 2 * i) = .inr (2, [.ref (b + (104 + 2 * i)), .int (nI ci), .int (nI si), .int (nI ei)])) (hlt3 : 103 + 2 * jj < n) (hE3 : E (103 + 2 * jj) = .inr (2, [.ref (b + (104 + 2 * jj)), .int (nI cj), .int (nI sj), .int (nI ej)])) (hkk : k < 8) (hii : i < 8) (hjj : jj < 8) (hci : ci ≤ 24) (hcj : cj ≤ 24) (hb : 24 < ci * cj) (hb2 : ci * cj < 2 ^ 31) : Met l yX6_both (wm_ws yX6_both cX6_both 7 (some .int)) { frames := 1, cells := 0, slots := 0, locals := 21 } (va_Pc [.ref (b + 0), .int (nI k), .int (nI i), .int (nI jj)] (wm_G D C b n E)) (va_Qi (pboth0 C b E ts k i jj ci si ei cj sj ej) (fun E' t => wm_P D b n E' t.heap) (wm_A b)) 0 0 (wm_A b) := by
  refine wm_ofW (by decide) (Nat.le_of_ble_eq_true rfl) (fun p e s m below meth c ls R args Q hRe hQ X hr hnm hP hS hl => ?_)
  have hl : lv_has ls 7 [(0, .ref (b + 0)), (1, .int (nI k)), (2, .int (nI i)), (3, .int (nI jj))] := hl
  refine lv_aload_n X.1 X.2.1 dX6_both_0 rfl (lv_at hl 0 rfl) ?_
  refine lv_iload_n X.1 X.2.1 dX6_both_1 rfl (lv_at hl 1 rfl) ?_
  refine wm_callVr (k := 1) (As := [.int (nI k)]) (rest := []) X hP hS hlt0 hE0 rfl (kX6_machineAt l D C b n E ts k hlt0 hE0 hlt1 hE1 (by omega)) wq2_88 wq2_90 wqP1_1 wq1_1 wq2_91 (by decide) (by rw [hRe]; exact ⟨Nat.le_of_ble_eq_true rfl, Nat.le_of_ble_eq_true rfl⟩) rfl hl.1 rfl (Nat.le_of_ble_eq_true rfl) (Nat.zero_le _) (Nat.zero_le _) dX6_both_2 (fun E1 H locs hw hP hS => ?_)
  have hEe := hw
  subst hEe
  refine lv_astore (lv' := [(4, .ref (b + (103 + 2 * k))), (0, .ref (b + 0)), (1, .int (nI k)), (2, .int (nI i)), (3, .int (nI jj))]) X.1 X.2.1 dX6_both_5 hl (by decide) rfl (fun ls hl => ?_)
  refine lv_aload_n X.1 X.2.1 dX6_both_7 rfl (lv_at hl 1 rfl) ?_
  refine lv_iload_n X.1 X.2.1 dX6_both_8 rfl (lv_at hl 3 rfl) ?_
  refine wm_callVr (k := 1) (As := [.int (nI i)]) (rest := []) X hP hS hlt0 hE0 rfl (kX6_machineAt l D C b n E ts i hlt0 hE0 hlt1 hE1 (by omega)) wq2_88 wq2_90 wqP1_1 wq1_1 wq2_91 (by decide) (by rw [hRe]; exact ⟨Nat.le_of_ble_eq_true rfl, Nat.le_of_ble_eq_true rfl⟩) rfl hl.1 rfl (Nat.le_of_ble_eq_true rfl) (Nat.zero_le _) (Nat.zero_le _) dX6_both_9 (fun E2 H locs hw hP hS => ?_)
  have hEe := hw
  subst hEe
  refine lv_astore (lv' := [(5, .ref (b + (103 + 2 * i))), (4, .ref (b + (103 + 2 * k))), (0, .ref (b + 0)), (1, .int (nI k)), (2, .int (nI i)), (3, .int (nI jj))]) X.1 X.2.1 dX6_both_12 hl (by decide) rfl (fun ls hl => ?_)
  refine lv_aload_n X.1 X.2.1 dX6_both_14 rfl (lv_at hl 2 rfl) ?_
  refine lv_iload_n X.1 X.2.1 dX6_both_15 rfl (lv_at hl 5 rfl) ?_
  refine wm_callVr (k := 1) (As := [.int (nI jj)]) (rest := []) X hP hS hlt0 hE0 rfl (kX6_machineAt l D C b n E ts jj hlt0 hE0 hlt1 hE1 (by omega)) wq2_88 wq2_90 wqP1_1 wq1_1 wq2_91 (by decide) (by rw [hRe]; exact ⟨Nat.le_of_ble_eq_true rfl, Nat.le_of_ble_eq_true rfl⟩) rfl hl.1 rfl (Nat.le_of_ble_eq_true rfl) (Nat.zero_le _) (Nat.zero_le _) dX6_both_16 (fun E3 H locs hw hP hS => ?_)
  have hEe := hw
  subst hEe
  refine lv_astore (lv' := [(6, .ref (b + (103 + 2 * jj))), (5, .ref (b + (103 + 2 * i))), (4, .ref (b + (103 + 2 * k))), (0, .ref (b + 0)), (1, .int (nI k)), (2, .int (nI i)), (3, .int (nI jj))]) X.1 X.2.1 dX6_both_19 hl (by decide) rfl (fun ls hl => ?_)
  refine lv_aload X.1 X.2.1 dX6_both_21 (lv_at hl 1 rfl) ?_
  refine wm_get X hP hlt2 hE2 rfl wm_inX2 1 (by decide) wq1_44 rfl dX6_both_23 ?_
  refine lv_aload X.1 X.2.1 dX6_both_26 (lv_at hl 0 rfl) ?_
  refine wm_get X hP hlt3 hE3 rfl wm_inX2 1 (by decide) wq1_44 rfl dX6_both_28 ?_
  refine wm_imul (x := ci) (y := cj) X dX6_both_31 ?_
  refine lv_bipush (v := nI 24) X.1 X.2.1 dX6_both_32 (by decide) ?_
  refine wm_icmp_le (x := (ci * cj)) (y := 24) (tgt := 39) X (by omega) (by decide) dX6_both_34 (by decide) (fun hc34 => ?_) (fun hc34 => ?_)
  · exact absurd hc34 (by omega)
  · refine lv_iconst (v := nI 4294967295) X.1 X.2.1 dX6_both_37 (by decide) ?_
    exact wm_iret (post := pboth0 C b E ts k i jj ci si ei cj sj ej) X hr hP hS ⟨rfl, rfl⟩ hQ dX6_both_38
def peither1 (C : Nat → ClassId) (b : Nat) (E : Nat → va_E) (ts k i jj c0 s0 e0 cn st en ci si ei cj sj ej : Nat) (g0 g gi gj : Nat → Nat) : Int32 → (Nat → va_E) → Prop := fun r E' => ∃ (g1 : Nat → Nat) (g3 : Nat → Nat), r = nI (ci + cj) ∧ E' 2 = .inr (2, [.ref (b + 3), .int (nI (ci + cj)), .int (nI (si ||| sj <<< ci)), .int (nI (ei ||| ej <<< ci))]) ∧ E' 3 = wm_I C 192 g3 ∧ E' (103 + 2 * k) = .inr (2, [.ref (b + (104 + 2 * k)), .int (nI (ci + cj)), .int (nI (si ||| sj <<< ci)), .int (nI (ei ||| ej <<< ci))]) ∧ E' (104 + 2 * k) = wm_I C 192 g1 ∧ (∀ j, j ≠ 2 → j ≠ 3 → j ≠ 103 + 2 * k → j ≠ 104 + 2 * k → E' j = E j) ∧ wm_bb ci cj 8 0 gi gj g3 ∧ (∀ j, j < 192 → g1 j = g3 j)
set_option maxHeartbeats 4000000 in
set_option maxRecDepth 100000 in
theorem keither1 (l : Launch) (D : va_G) (C : Nat → ClassId) (b n : Nat) (E : Nat → va_E) (ts k i jj c0 s0 e0 cn st en ci si ei cj sj ej : Nat) (g0 g gi gj : Nat → Nat) (hlt0 : 0 < n) (hE0 : E 0 = .inr (6, [.ref (b + 1), .ref (b + 2), .ref (b + 4), .int (nI ts), .ref (b + 5), .ref (b + 93), .ref (b + 100)])) (hlt1 : 1 < n) (hE1 : E 1 = wm_Q C 4 8 (fun x9 => some (b + (103 + 2 * x9)))) (hlt2 : 2 < n) (hE2 : E 2 = .inr (2, [.ref (b + 3), .int (nI c0), .int (nI s0), .int (nI e0)])) (hlt3 : 3 < n) (hE3 : E 3 = wm_I C 192 g0) (hlt4 : 103 + 2 * k < n) (hE4 : E (103 + 2 * k) = .inr (2, [.ref (b + (104 + 2 * k)), .int (nI cn), .int (nI st), .int (nI en)])) (hlt5 : 104 + 2 * k < n) (hE5 : E (104 + 2 * k) = wm_I C 192 g) (hlt6 : 103 + 2 * i < n) (hE6 : E (103 + 2 * i) = .inr (2, [.ref (b + (104 + 2 * i)), .int (nI ci), .int (nI si), .int (nI ei)])) (hlt7 : 104 + 2 * i < n) (hE7 : E (104 + 2 * i) = wm_I C 192 gi) (hlt8 : 103 + 2 * jj < n) (hE8 : E (103 + 2 * jj) = .inr (2, [.ref (b + (104 + 2 * jj)), .int (nI cj), .int (nI sj), .int (nI ej)])) (hlt9 : 104 + 2 * jj < n) (hE9 : E (104 + 2 * jj) = wm_I C 192 gj) (hkk : k < 8) (hii : i < 8) (hjj : jj < 8) (hc : ci + cj ≤ 24) : Met l yX6_either (wm_ws yX6_either cX6_either 7 (some .int)) { frames := 3, cells := 0, slots := 0, locals := 63 } (va_Pc [.ref (b + 0), .int (nI k), .int (nI i), .int (nI jj)] (wm_G D C b n E)) (va_Qi (peither1 C b E ts k i jj c0 s0 e0 cn st en ci si ei cj sj ej g0 g gi gj) (fun E' t => wm_P D b n E' t.heap) (wm_A b)) 0 0 (wm_A b) := by
  refine wm_ofW (by decide) (Nat.le_of_ble_eq_true rfl) (fun p e s m below meth c ls R args Q hRe hQ X hr hnm hP hS hl => ?_)
  have hl : lv_has ls 7 [(0, .ref (b + 0)), (1, .int (nI k)), (2, .int (nI i)), (3, .int (nI jj))] := hl
  have hfr : ∀ j, j ≠ 2 → j ≠ 3 → j ≠ 103 + 2 * k → j ≠ 104 + 2 * k → E j = E j := fun _ _ _ _ _ => rfl
  refine lv_aload_n X.1 X.2.1 dX6_either_0 rfl (lv_at hl 0 rfl) ?_
  refine lv_iload_n X.1 X.2.1 dX6_either_1 rfl (lv_at hl 1 rfl) ?_
  refine wm_callVr (k := 1) (As := [.int (nI k)]) (rest := []) X hP hS hlt0 hE0 rfl (kX6_machineAt l D C b n E ts k hlt0 hE0 hlt1 hE1 (by omega)) wq2_88 wq2_90 wqP1_1 wq1_1 wq2_91 (by decide) (by rw [hRe]; exact ⟨Nat.le_of_ble_eq_true rfl, Nat.le_of_ble_eq_true rfl⟩) rfl hl.1 rfl (Nat.le_of_ble_eq_true rfl) (Nat.zero_le _) (Nat.zero_le _) dX6_either_2 (fun E1 H locs hw hP hS => ?_)
  have hEe := hw
  subst hEe
  refine lv_astore (lv' := [(4, .ref (b + (103 + 2 * k))), (0, .ref (b + 0)), (1, .int (nI k)), (2, .int (nI i)), (3, .int (nI jj))]) X.1 X.2.1 dX6_either_5 hl (by decide) rfl (fun ls hl => ?_)
  refine lv_aload_n X.1 X.2.1 dX6_either_7 rfl (lv_at hl 1 rfl) ?_
  refine lv_iload_n X.1 X.2.1 dX6_either_8 rfl (lv_at hl 3 rfl) ?_
  refine wm_callVr (k := 1) (As := [.int (nI i)]) (rest := []) X hP hS hlt0 hE0 rfl (kX6_machineAt l D C b n E ts i hlt0 hE0 hlt1 hE1 (by omega)) wq2_88 wq2_90 wqP1_1 wq1_1 wq2_91 (by decide) (by rw [hRe]; exact ⟨Nat.le_of_ble_eq_true rfl, Nat.le_of_ble_eq_true rfl⟩) rfl hl.1 rfl (Nat.le_of_ble_eq_true rfl) (Nat.zero_le _) (Nat.zero_le _) dX6_either_9 (fun E2 H locs hw hP hS => ?_)
  have hEe := hw
  subst hEe
  refine lv_astore (lv' := [(5, .ref (b + (103 + 2 * i))), (4, .ref (b + (103 + 2 * k))), (0, .ref (b + 0)), (1, .int (nI k)), (2, .int (nI i)), (3, .int (nI jj))]) X.1 X.2.1 dX6_either_12 hl (by decide) rfl (fun ls hl => ?_)
  refine lv_aload_n X.1 X.2.1 dX6_either_14 rfl (lv_at hl 2 rfl) ?_
  refine lv_iload_n X.1 X.2.1 dX6_either_15 rfl (lv_at hl 5 rfl) ?_
  refine wm_callVr (k := 1) (As := [.int (nI jj)]) (rest := []) X hP hS hlt0 hE0 rfl (kX6_machineAt l D C b n E ts jj hlt0 hE0 hlt1 hE1 (by omega)) wq2_88 wq2_90 wqP1_1 wq1_1 wq2_91 (by decide) (by rw [hRe]; exact ⟨Nat.le_of_ble_eq_true rfl, Nat.le_of_ble_eq_true rfl⟩) rfl hl.1 rfl (Nat.le_of_ble_eq_true rfl) (Nat.zero_le _) (Nat.zero_le _) dX6_either_16 (fun E3 H locs hw hP hS => ?_)
  have hEe := hw
  subst hEe
  refine lv_astore (lv' := [(6, .ref (b + (103 + 2 * jj))), (5, .ref (b + (103 + 2 * i))), (4, .ref (b + (103 + 2 * k))), (0, .ref (b + 0)), (1, .int (nI k)), (2, .int (nI i)), (3, .int (nI jj))]) X.1 X.2.1 dX6_either_19 hl (by decide) rfl (fun ls hl => ?_)
  refine lv_aload X.1 X.2.1 dX6_either_21 (lv_at hl 1 rfl) ?_
  refine wm_get X hP hlt6 hE6 rfl wm_inX2 1 (by decide) wq1_44 rfl dX6_either_23 ?_
  refine lv_aload X.1 X.2.1 dX6_either_26 (lv_at hl 0 rfl) ?_
  refine wm_get X hP hlt8 hE8 rfl wm_inX2 1 (by decide) wq1_44 rfl dX6_either_28 ?_
  refine wm_iadd (x := ci) (y := cj) X dX6_either_31 ?_
  refine lv_bipush (v := nI 24) X.1 X.2.1 dX6_either_32 (by decide) ?_
  refine wm_icmp_le (x := (ci + cj)) (y := 24) (tgt := 39) X (by omega) (by decide) dX6_either_34 (by decide) (fun hc34 => ?_) (fun hc34 => ?_)
  · refine lv_aload_n X.1 X.2.1 dX6_either_39 rfl (lv_at hl 3 rfl) ?_
    refine wm_get X hP hlt0 hE0 rfl wm_inX6 1 (by decide) wq1_208 rfl dX6_either_40 ?_
    refine lv_aload X.1 X.2.1 dX6_either_43 (lv_at hl 1 rfl) ?_
    refine lv_aload X.1 X.2.1 dX6_either_45 (lv_at hl 0 rfl) ?_
    refine wm_callVv (k := 2) (As := [.ref (b + (103 + 2 * i)), .ref (b + (103 + 2 * jj))]) (rest := []) X hP hS hlt2 hE2 rfl (kX2_becomeBeside l D C b n E 2 3 c0 s0 e0 (103 + 2 * i) (104 + 2 * i) ci si ei (103 + 2 * jj) (104 + 2 * jj) cj sj ej g0 gi gj hlt2 hE2 hlt3 hE3 hlt6 hE6 hlt7 hE7 hlt8 hE8 hlt9 hE9 (by omega) (by omega) (by omega) (by omega) (by omega) (by omega) (by omega) (by omega) (by omega) (by omega)) wq3_62 wq3_63 wq3_64 wq1_2 wq3_65 (by decide) (by rw [hRe]; exact ⟨Nat.le_of_ble_eq_true rfl, Nat.le_of_ble_eq_true rfl⟩) rfl hl.1 rfl (Nat.le_of_ble_eq_true rfl) (Nat.zero_le _) (Nat.zero_le _) dX6_either_47 (fun E5 H locs hw hP hS => ?_)
    obtain ⟨g15, hE2, hE3, hq, hp5_0⟩ := hw
    have hE0 := (hq 0 (by decide) (by decide)).trans hE0
    have hE1 := (hq 1 (by decide) (by decide)).trans hE1
    have hE4 := (hq (103 + 2 * k) (by omega) (by omega)).trans hE4
    have hE5 := (hq (104 + 2 * k) (by omega) (by omega)).trans hE5
    have hE6 := (hq (103 + 2 * i) (by omega) (by omega)).trans hE6
    have hE7 := (hq (104 + 2 * i) (by omega) (by omega)).trans hE7
    have hE8 := (hq (103 + 2 * jj) (by omega) (by omega)).trans hE8
    have hE9 := (hq (104 + 2 * jj) (by omega) (by omega)).trans hE9
    have hfr : ∀ j, j ≠ 2 → j ≠ 3 → j ≠ 103 + 2 * k → j ≠ 104 + 2 * k → E5 j = E j := fun j h0 h1 h2 h3 => (hq j h0 h1).trans (hfr j h0 h1 h2 h3)
    have hrel := hp5_0
    refine lv_aload X.1 X.2.1 dX6_either_50 (lv_at hl 2 rfl) ?_
    refine lv_aload_n X.1 X.2.1 dX6_either_52 rfl (lv_at hl 3 rfl) ?_
    refine wm_get X hP hlt0 hE0 rfl wm_inX6 1 (by decide) wq1_208 rfl dX6_either_53 ?_
    refine wm_callVv (k := 1) (As := [.ref (b + 2)]) (rest := []) X hP hS hlt4 hE4 rfl (kX2_becomeCopy l D C b n E5 (103 + 2 * k) (104 + 2 * k) cn st en 2 3 (ci + cj) (si ||| sj <<< ci) (ei ||| ej <<< ci) g g15 hlt4 hE4 hlt5 hE5 hlt2 hE2 hlt3 hE3 (by omega) (by omega) (by omega) (by omega) (by omega)) wq3_48 wq3_49 wq3_50 wq1_2 wq3_51 (by decide) (by rw [hRe]; exact ⟨Nat.le_of_ble_eq_true rfl, Nat.le_of_ble_eq_true rfl⟩) rfl hl.1 rfl (Nat.le_of_ble_eq_true rfl) (Nat.zero_le _) (Nat.zero_le _) dX6_either_56 (fun E6 H locs hw hP hS => ?_)
    obtain ⟨g16, hE4, hE5, hq, hp6_0⟩ := hw
    have hE0 := (hq 0 (by omega) (by omega)).trans hE0
    have hE1 := (hq 1 (by omega) (by omega)).trans hE1
    have hE2 := (hq 2 (by omega) (by omega)).trans hE2
    have hE3 := (hq 3 (by omega) (by omega)).trans hE3
    have hfr : ∀ j, j ≠ 2 → j ≠ 3 → j ≠ 103 + 2 * k → j ≠ 104 + 2 * k → E6 j = E j := fun j h0 h1 h2 h3 => (hq j h2 h3).trans (hfr j h0 h1 h2 h3)
    refine lv_aload X.1 X.2.1 dX6_either_59 (lv_at hl 2 rfl) ?_
    refine wm_get X hP hlt4 hE4 rfl wm_inX2 1 (by decide) wq1_44 rfl dX6_either_61 ?_
    exact wm_iret (post := peither1 C b E ts k i jj c0 s0 e0 cn st en ci si ei cj sj ej g0 g gi gj) X hr hP hS ⟨g16, g15, rfl, hE2, hE3, hE4, hE5, hfr, hrel, hp6_0⟩ hQ dX6_either_64
  · exact absurd hc34 (by omega)
def pboth1 (C : Nat → ClassId) (b : Nat) (E : Nat → va_E) (ts k i jj c0 s0 e0 cn st en ci si ei cj sj ej : Nat) (g0 g gi gj : Nat → Nat) : Int32 → (Nat → va_E) → Prop := fun r E' => ∃ (g1 : Nat → Nat) (g3 : Nat → Nat), r = nI (ci * cj) ∧ E' 2 = .inr (2, [.ref (b + 3), .int (nI (ci * cj)), .int (nI (wm_pr si sj ci cj)), .int (nI (wm_pr ei ej ci cj))]) ∧ E' 3 = wm_I C 192 g3 ∧ E' (103 + 2 * k) = .inr (2, [.ref (b + (104 + 2 * k)), .int (nI (ci * cj)), .int (nI (wm_pr si sj ci cj)), .int (nI (wm_pr ei ej ci cj))]) ∧ E' (104 + 2 * k) = wm_I C 192 g1 ∧ (∀ j, j ≠ 2 → j ≠ 3 → j ≠ 103 + 2 * k → j ≠ 104 + 2 * k → E' j = E j) ∧ wm_bp ci cj ci 0 gi gj g3 ∧ (∀ j, j < 192 → g1 j = g3 j)
set_option maxHeartbeats 4000000 in
set_option maxRecDepth 100000 in
theorem kboth1 (l : Launch) (D : va_G) (C : Nat → ClassId) (b n : Nat) (E : Nat → va_E) (ts k i jj c0 s0 e0 cn st en ci si ei cj sj ej : Nat) (g0 g gi gj : Nat → Nat) (hlt0 : 0 < n) (hE0 : E 0 = .inr (6, [.ref (b + 1), .ref (b + 2), .ref (b + 4), .int (nI ts), .ref (b + 5), .ref (b + 93), .ref (b + 100)])) (hlt1 : 1 < n) (hE1 : E 1 = wm_Q C 4 8 (fun x9 => some (b + (103 + 2 * x9)))) (hlt2 : 2 < n) (hE2 : E 2 = .inr (2, [.ref (b + 3), .int (nI c0), .int (nI s0), .int (nI e0)])) (hlt3 : 3 < n) (hE3 : E 3 = wm_I C 192 g0) (hlt4 : 103 + 2 * k < n) (hE4 : E (103 + 2 * k) = .inr (2, [.ref (b + (104 + 2 * k)), .int (nI cn), .int (nI st), .int (nI en)])) (hlt5 : 104 + 2 * k < n) (hE5 : E (104 + 2 * k) = wm_I C 192 g) (hlt6 : 103 + 2 * i < n) (hE6 : E (103 + 2 * i) = .inr (2, [.ref (b + (104 + 2 * i)), .int (nI ci), .int (nI si), .int (nI ei)])) (hlt7 : 104 + 2 * i < n) (hE7 : E (104 + 2 * i) = wm_I C 192 gi) (hlt8 : 103 + 2 * jj < n) (hE8 : E (103 + 2 * jj) = .inr (2, [.ref (b + (104 + 2 * jj)), .int (nI cj), .int (nI sj), .int (nI ej)])) (hlt9 : 104 + 2 * jj < n) (hE9 : E (104 + 2 * jj) = wm_I C 192 gj) (hkk : k < 8) (hii : i < 8) (hjj : jj < 8) (hc : ci * cj ≤ 24) (hci : ci ≤ 24) (hcj : cj ≤ 24) (hsi : si < 2 ^ 32) (hei : ei < 2 ^ 32) (hgi : ∀ a x, a < 8 → x < ci → gi (a * 24 + x) < 2 ^ 32) : Met l yX6_both (wm_ws yX6_both cX6_both 7 (some .int)) { frames := 4, cells := 0, slots := 0, locals := 96 } (va_Pc [.ref (b + 0), .int (nI k), .int (nI i), .int (nI jj)] (wm_G D C b n E)) (va_Qi (pboth1 C b E ts k i jj c0 s0 e0 cn st en ci si ei cj sj ej g0 g gi gj) (fun E' t => wm_P D b n E' t.heap) (wm_A b)) 0 0 (wm_A b) := by
  refine wm_ofW (by decide) (Nat.le_of_ble_eq_true rfl) (fun p e s m below meth c ls R args Q hRe hQ X hr hnm hP hS hl => ?_)
  have hl : lv_has ls 7 [(0, .ref (b + 0)), (1, .int (nI k)), (2, .int (nI i)), (3, .int (nI jj))] := hl
  have hfr : ∀ j, j ≠ 2 → j ≠ 3 → j ≠ 103 + 2 * k → j ≠ 104 + 2 * k → E j = E j := fun _ _ _ _ _ => rfl
  refine lv_aload_n X.1 X.2.1 dX6_both_0 rfl (lv_at hl 0 rfl) ?_
  refine lv_iload_n X.1 X.2.1 dX6_both_1 rfl (lv_at hl 1 rfl) ?_
  refine wm_callVr (k := 1) (As := [.int (nI k)]) (rest := []) X hP hS hlt0 hE0 rfl (kX6_machineAt l D C b n E ts k hlt0 hE0 hlt1 hE1 (by omega)) wq2_88 wq2_90 wqP1_1 wq1_1 wq2_91 (by decide) (by rw [hRe]; exact ⟨Nat.le_of_ble_eq_true rfl, Nat.le_of_ble_eq_true rfl⟩) rfl hl.1 rfl (Nat.le_of_ble_eq_true rfl) (Nat.zero_le _) (Nat.zero_le _) dX6_both_2 (fun E1 H locs hw hP hS => ?_)
  have hEe := hw
  subst hEe
  refine lv_astore (lv' := [(4, .ref (b + (103 + 2 * k))), (0, .ref (b + 0)), (1, .int (nI k)), (2, .int (nI i)), (3, .int (nI jj))]) X.1 X.2.1 dX6_both_5 hl (by decide) rfl (fun ls hl => ?_)
  refine lv_aload_n X.1 X.2.1 dX6_both_7 rfl (lv_at hl 1 rfl) ?_
  refine lv_iload_n X.1 X.2.1 dX6_both_8 rfl (lv_at hl 3 rfl) ?_
  refine wm_callVr (k := 1) (As := [.int (nI i)]) (rest := []) X hP hS hlt0 hE0 rfl (kX6_machineAt l D C b n E ts i hlt0 hE0 hlt1 hE1 (by omega)) wq2_88 wq2_90 wqP1_1 wq1_1 wq2_91 (by decide) (by rw [hRe]; exact ⟨Nat.le_of_ble_eq_true rfl, Nat.le_of_ble_eq_true rfl⟩) rfl hl.1 rfl (Nat.le_of_ble_eq_true rfl) (Nat.zero_le _) (Nat.zero_le _) dX6_both_9 (fun E2 H locs hw hP hS => ?_)
  have hEe := hw
  subst hEe
  refine lv_astore (lv' := [(5, .ref (b + (103 + 2 * i))), (4, .ref (b + (103 + 2 * k))), (0, .ref (b + 0)), (1, .int (nI k)), (2, .int (nI i)), (3, .int (nI jj))]) X.1 X.2.1 dX6_both_12 hl (by decide) rfl (fun ls hl => ?_)
  refine lv_aload_n X.1 X.2.1 dX6_both_14 rfl (lv_at hl 2 rfl) ?_
  refine lv_iload_n X.1 X.2.1 dX6_both_15 rfl (lv_at hl 5 rfl) ?_
  refine wm_callVr (k := 1) (As := [.int (nI jj)]) (rest := []) X hP hS hlt0 hE0 rfl (kX6_machineAt l D C b n E ts jj hlt0 hE0 hlt1 hE1 (by omega)) wq2_88 wq2_90 wqP1_1 wq1_1 wq2_91 (by decide) (by rw [hRe]; exact ⟨Nat.le_of_ble_eq_true rfl, Nat.le_of_ble_eq_true rfl⟩) rfl hl.1 rfl (Nat.le_of_ble_eq_true rfl) (Nat.zero_le _) (Nat.zero_le _) dX6_both_16 (fun E3 H locs hw hP hS => ?_)
  have hEe := hw
  subst hEe
  refine lv_astore (lv' := [(6, .ref (b + (103 + 2 * jj))), (5, .ref (b + (103 + 2 * i))), (4, .ref (b + (103 + 2 * k))), (0, .ref (b + 0)), (1, .int (nI k)), (2, .int (nI i)), (3, .int (nI jj))]) X.1 X.2.1 dX6_both_19 hl (by decide) rfl (fun ls hl => ?_)
  refine lv_aload X.1 X.2.1 dX6_both_21 (lv_at hl 1 rfl) ?_
  refine wm_get X hP hlt6 hE6 rfl wm_inX2 1 (by decide) wq1_44 rfl dX6_both_23 ?_
  refine lv_aload X.1 X.2.1 dX6_both_26 (lv_at hl 0 rfl) ?_
  refine wm_get X hP hlt8 hE8 rfl wm_inX2 1 (by decide) wq1_44 rfl dX6_both_28 ?_
  refine wm_imul (x := ci) (y := cj) X dX6_both_31 ?_
  refine lv_bipush (v := nI 24) X.1 X.2.1 dX6_both_32 (by decide) ?_
  refine wm_icmp_le (x := (ci * cj)) (y := 24) (tgt := 39) X (by omega) (by decide) dX6_both_34 (by decide) (fun hc34 => ?_) (fun hc34 => ?_)
  · refine lv_aload_n X.1 X.2.1 dX6_both_39 rfl (lv_at hl 3 rfl) ?_
    refine wm_get X hP hlt0 hE0 rfl wm_inX6 1 (by decide) wq1_208 rfl dX6_both_40 ?_
    refine lv_aload X.1 X.2.1 dX6_both_43 (lv_at hl 1 rfl) ?_
    refine lv_aload X.1 X.2.1 dX6_both_45 (lv_at hl 0 rfl) ?_
    refine wm_callVv (k := 2) (As := [.ref (b + (103 + 2 * i)), .ref (b + (103 + 2 * jj))]) (rest := []) X hP hS hlt2 hE2 rfl (kX2_becomePairs l D C b n E 2 3 c0 s0 e0 (103 + 2 * i) (104 + 2 * i) ci si ei (103 + 2 * jj) (104 + 2 * jj) cj sj ej g0 gi gj hlt2 hE2 hlt3 hE3 hlt6 hE6 hlt7 hE7 hlt8 hE8 hlt9 hE9 (by omega) (by omega) (by omega) (by omega) (by omega) (by omega) (by omega) (by omega) (by omega) hc (by omega) (by omega) (by omega) (by omega) hgi) wq3_74 wq3_75 wq3_76 wq1_2 wq3_77 (by decide) (by rw [hRe]; exact ⟨Nat.le_of_ble_eq_true rfl, Nat.le_of_ble_eq_true rfl⟩) rfl hl.1 rfl (Nat.le_of_ble_eq_true rfl) (Nat.zero_le _) (Nat.zero_le _) dX6_both_47 (fun E5 H locs hw hP hS => ?_)
    obtain ⟨g15, hE2, hE3, hq, hp5_0⟩ := hw
    have hE0 := (hq 0 (by decide) (by decide)).trans hE0
    have hE1 := (hq 1 (by decide) (by decide)).trans hE1
    have hE4 := (hq (103 + 2 * k) (by omega) (by omega)).trans hE4
    have hE5 := (hq (104 + 2 * k) (by omega) (by omega)).trans hE5
    have hE6 := (hq (103 + 2 * i) (by omega) (by omega)).trans hE6
    have hE7 := (hq (104 + 2 * i) (by omega) (by omega)).trans hE7
    have hE8 := (hq (103 + 2 * jj) (by omega) (by omega)).trans hE8
    have hE9 := (hq (104 + 2 * jj) (by omega) (by omega)).trans hE9
    have hfr : ∀ j, j ≠ 2 → j ≠ 3 → j ≠ 103 + 2 * k → j ≠ 104 + 2 * k → E5 j = E j := fun j h0 h1 h2 h3 => (hq j h0 h1).trans (hfr j h0 h1 h2 h3)
    have hrel := hp5_0
    refine lv_aload X.1 X.2.1 dX6_both_50 (lv_at hl 2 rfl) ?_
    refine lv_aload_n X.1 X.2.1 dX6_both_52 rfl (lv_at hl 3 rfl) ?_
    refine wm_get X hP hlt0 hE0 rfl wm_inX6 1 (by decide) wq1_208 rfl dX6_both_53 ?_
    refine wm_callVv (k := 1) (As := [.ref (b + 2)]) (rest := []) X hP hS hlt4 hE4 rfl (kX2_becomeCopy l D C b n E5 (103 + 2 * k) (104 + 2 * k) cn st en 2 3 (ci * cj) (wm_pr si sj ci cj) (wm_pr ei ej ci cj) g g15 hlt4 hE4 hlt5 hE5 hlt2 hE2 hlt3 hE3 (by omega) (by omega) (by omega) (by omega) (by omega)) wq3_48 wq3_49 wq3_50 wq1_2 wq3_51 (by decide) (by rw [hRe]; exact ⟨Nat.le_of_ble_eq_true rfl, Nat.le_of_ble_eq_true rfl⟩) rfl hl.1 rfl (Nat.le_of_ble_eq_true rfl) (Nat.zero_le _) (Nat.zero_le _) dX6_both_56 (fun E6 H locs hw hP hS => ?_)
    obtain ⟨g16, hE4, hE5, hq, hp6_0⟩ := hw
    have hE0 := (hq 0 (by omega) (by omega)).trans hE0
    have hE1 := (hq 1 (by omega) (by omega)).trans hE1
    have hE2 := (hq 2 (by omega) (by omega)).trans hE2
    have hE3 := (hq 3 (by omega) (by omega)).trans hE3
    have hfr : ∀ j, j ≠ 2 → j ≠ 3 → j ≠ 103 + 2 * k → j ≠ 104 + 2 * k → E6 j = E j := fun j h0 h1 h2 h3 => (hq j h2 h3).trans (hfr j h0 h1 h2 h3)
    refine lv_aload X.1 X.2.1 dX6_both_59 (lv_at hl 2 rfl) ?_
    refine wm_get X hP hlt4 hE4 rfl wm_inX2 1 (by decide) wq1_44 rfl dX6_both_61 ?_
    exact wm_iret (post := pboth1 C b E ts k i jj c0 s0 e0 cn st en ci si ei cj sj ej g0 g gi gj) X hr hP hS ⟨g16, g15, rfl, hE2, hE3, hE4, hE5, hfr, hrel, hp6_0⟩ hQ dX6_both_64
  · exact absurd hc34 (Nat.not_lt.mpr hc)
def pX6_takes (C : Nat → ClassId) (b : Nat) (E : Nat → va_E) (ts k cn st en : Nat) (g tx : Nat → Nat) : Int32 → (Nat → va_E) → Prop := fun r E' => r = nI (wm_tk g cn en tx ts 0 st).toNat ∧ E = E'
set_option maxHeartbeats 4000000 in
set_option maxRecDepth 100000 in
theorem kX6_takes (l : Launch) (D : va_G) (C : Nat → ClassId) (b n : Nat) (E : Nat → va_E) (ts k cn st en : Nat) (g tx : Nat → Nat) (hlt0 : 0 < n) (hE0 : E 0 = .inr (6, [.ref (b + 1), .ref (b + 2), .ref (b + 4), .int (nI ts), .ref (b + 5), .ref (b + 93), .ref (b + 100)])) (hlt1 : 1 < n) (hE1 : E 1 = wm_Q C 4 8 (fun x9 => some (b + (103 + 2 * x9)))) (hlt2 : 103 + 2 * k < n) (hE2 : E (103 + 2 * k) = .inr (2, [.ref (b + (104 + 2 * k)), .int (nI cn), .int (nI st), .int (nI en)])) (hlt3 : 104 + 2 * k < n) (hE3 : E (104 + 2 * k) = wm_I C 192 g) (hlt4 : 4 < n) (hE4 : E 4 = wm_B C 200 (fun j => wm_sb (tx j))) (hkk : k < 8) (hc : cn ≤ 24) (hts : ts ≤ 200) (hst : st < 2 ^ 24) (hen : en < 2 ^ 24) (htx : ∀ i, tx i < 256) (hg : ∀ a x, a < 8 → x < cn → g (a * 24 + x) < 2 ^ 24) : Met l yX6_takes (wm_ws yX6_takes cX6_takes 6 (some .boolean)) { frames := 2, cells := 0, slots := 0, locals := 46 } (va_Pc [.ref (b + 0), .int (nI k)] (wm_G D C b n E)) (va_Qi (pX6_takes C b E ts k cn st en g tx) (fun E' t => wm_P D b n E' t.heap) (wm_A b)) 0 0 (wm_A b) := by
  refine wm_ofW (by decide) (Nat.le_of_ble_eq_true rfl) (fun p e s m below meth c ls R args Q hRe hQ X hr hnm hP hS hl => ?_)
  have hl : lv_has ls 6 [(0, .ref (b + 0)), (1, .int (nI k))] := hl
  refine lv_aload_n X.1 X.2.1 dX6_takes_0 rfl (lv_at hl 0 rfl) ?_
  refine lv_iload_n X.1 X.2.1 dX6_takes_1 rfl (lv_at hl 1 rfl) ?_
  refine wm_callVr (k := 1) (As := [.int (nI k)]) (rest := []) X hP hS hlt0 hE0 rfl (kX6_machineAt l D C b n E ts k hlt0 hE0 hlt1 hE1 (by omega)) wq2_88 wq2_90 wqP1_1 wq1_1 wq2_91 (by decide) (by rw [hRe]; exact ⟨Nat.le_of_ble_eq_true rfl, Nat.le_of_ble_eq_true rfl⟩) rfl hl.1 rfl (Nat.le_of_ble_eq_true rfl) (Nat.zero_le _) (Nat.zero_le _) dX6_takes_2 (fun E1 H locs hw hP hS => ?_)
  have hEe := hw
  subst hEe
  refine lv_astore_n (lv' := [(2, .ref (b + (103 + 2 * k))), (0, .ref (b + 0)), (1, .int (nI k))]) X.1 X.2.1 dX6_takes_5 rfl hl (by decide) rfl (fun ls hl => ?_)
  refine lv_aload_n X.1 X.2.1 dX6_takes_6 rfl (lv_at hl 0 rfl) ?_
  refine wm_get X hP hlt2 hE2 rfl wm_inX2 2 (by decide) wq1_49 rfl dX6_takes_7 ?_
  refine lv_istore_n (lv' := [(3, .int (nI st)), (2, .ref (b + (103 + 2 * k))), (0, .ref (b + 0)), (1, .int (nI k))]) X.1 X.2.1 dX6_takes_10 rfl hl (by decide) rfl (fun ls hl => ?_)
  refine lv_iconst (v := nI 0) X.1 X.2.1 dX6_takes_11 (by decide) ?_
  refine lv_istore (lv' := [(4, .int (nI 0)), (3, .int (nI st)), (2, .ref (b + (103 + 2 * k))), (0, .ref (b + 0)), (1, .int (nI k))]) X.1 X.2.1 dX6_takes_12 hl (by decide) rfl (fun ls hl => ?_)
  have L14 : ∀ (fu : Nat) (i : Nat) (S : Nat), 200 - i < fu → (i ≤ ts) → (S < 2 ^ 24) → (wm_tk g cn en tx (ts - i) i S = wm_tk g cn en tx ts 0 st) → ∀ (H : Heap) (locs : List Loc) (ls : Array Slot), wm_P D b n E H → wm_S b s.heap H locs → E 0 = .inr (6, [.ref (b + 1), .ref (b + 2), .ref (b + 4), .int (nI ts), .ref (b + 5), .ref (b + 93), .ref (b + 100)]) → E 1 = wm_Q C 4 8 (fun x9 => some (b + (103 + 2 * x9))) → E (103 + 2 * k) = .inr (2, [.ref (b + (104 + 2 * k)), .int (nI cn), .int (nI st), .int (nI en)]) → E (104 + 2 * k) = wm_I C 192 g → E 4 = wm_B C 200 (fun j => wm_sb (tx j)) → lv_has ls 6 [(0, .ref (b + 0)), (2, .ref (b + (103 + 2 * k))), (3, .int (nI S)), (4, .int (nI i))] → W p l e R s m args below meth c H locs 0 0 Q (F0 m 14 ls []) := by
    intro fu
    induction fu with
    | zero => intro i S hm; exact absurd hm (Nat.not_lt_zero _)
    | succ fu ih14 =>
      intro i S hm hi hS9 hrun H locs ls hP hS hE0 hE1 hE2 hE3 hE4 hl
      refine lv_iload X.1 X.2.1 dX6_takes_14 (lv_at hl 3 rfl) ?_
      refine lv_aload_n X.1 X.2.1 dX6_takes_16 rfl (lv_at hl 0 rfl) ?_
      refine wm_get X hP hlt0 hE0 rfl wm_inX6 3 (by decide) wq1_210 rfl dX6_takes_17 ?_
      refine wm_icmp_ge (x := i) (y := ts) (tgt := 57) X (by omega) (by omega) dX6_takes_20 (by decide) (fun hc20 => ?_) (fun hc20 => ?_)
      · refine lv_iload_n X.1 X.2.1 dX6_takes_57 rfl (lv_at hl 2 rfl) ?_
        refine lv_aload_n X.1 X.2.1 dX6_takes_58 rfl (lv_at hl 1 rfl) ?_
        refine wm_get X hP hlt2 hE2 rfl wm_inX2 3 (by decide) wq1_53 rfl dX6_takes_59 ?_
        refine wm_iand (x := S) (y := en) X dX6_takes_62 ?_
        refine wm_if_eq (x := (S &&& en)) (tgt := 70) X (Nat.lt_of_le_of_lt Nat.and_le_right (Nat.lt_trans hen (by decide))) dX6_takes_63 (by decide) (fun hc63 => ?_) (fun hc63 => ?_)
        · refine lv_iconst (v := nI 0) X.1 X.2.1 dX6_takes_70 (by decide) ?_
          exact wm_zret (v := false) (post := pX6_takes C b E ts k cn st en g tx) X hr hP hS ⟨(by rw [wm_tk0 hrun hc20, decide_eq_false (fun q => q hc63)]), rfl⟩ hQ dX6_takes_71
        · refine lv_iconst (v := nI 1) X.1 X.2.1 dX6_takes_66 (by decide) ?_
          refine lv_goto (tgt := 71) X.1 X.2.1 dX6_takes_67 (by decide) ?_
          exact wm_zret (v := true) (post := pX6_takes C b E ts k cn st en g tx) X hr hP hS ⟨(by rw [wm_tk0 hrun hc20, decide_eq_true hc63]), rfl⟩ hQ dX6_takes_71
      · refine lv_aload_n X.1 X.2.1 dX6_takes_23 rfl (lv_at hl 0 rfl) ?_
        refine wm_get X hP hlt0 hE0 rfl wm_inX6 2 (by decide) wq1_209 rfl dX6_takes_24 ?_
        refine lv_iload X.1 X.2.1 dX6_takes_27 (lv_at hl 3 rfl) ?_
        refine wm_bald (i := i) X hP hlt4 hE4 (by omega) (by decide) dX6_takes_29 ?_
        refine wm_callSi (k := 1) (As := [.int (wm_sb (tx i))]) (rest := []) X hP hS  (kX6_letterOf l D C b n E (tx i) (htx i)) wq3_92 wq2_133 wq1_1 wq2_134 (by decide) (by rw [hRe]; exact ⟨Nat.le_of_ble_eq_true rfl, Nat.le_of_ble_eq_true rfl⟩) rfl hl.1 rfl (Nat.le_of_ble_eq_true rfl) (Nat.zero_le _) (Nat.zero_le _) dX6_takes_30 (fun r4 E4 H locs hw hP hS => ?_)
        obtain ⟨hrt, hEe⟩ := hw
        subst hrt
        subst hEe
        refine lv_istore (lv' := [(5, .int (nI (wm_lo (tx i)))), (0, .ref (b + 0)), (2, .ref (b + (103 + 2 * k))), (3, .int (nI S)), (4, .int (nI i))]) X.1 X.2.1 dX6_takes_33 hl (by decide) rfl (fun ls hl => ?_)
        refine lv_iload X.1 X.2.1 dX6_takes_35 (lv_at hl 0 rfl) ?_
        refine lv_iconst (v := nI 4294967295) X.1 X.2.1 dX6_takes_37 (by decide) ?_
        refine wm_icmp_ne (x := (wm_lo (tx i))) (y := 4294967295) (tgt := 43) X (wm_lo_lt _) (by decide) dX6_takes_38 (by decide) (fun hc38 => ?_) (fun hc38 => ?_)
        · have hl8 := wm_lo8 hc38
          refine lv_aload_n X.1 X.2.1 dX6_takes_43 rfl (lv_at hl 2 rfl) ?_
          refine lv_iload_n X.1 X.2.1 dX6_takes_44 rfl (lv_at hl 3 rfl) ?_
          refine lv_iload X.1 X.2.1 dX6_takes_45 (lv_at hl 0 rfl) ?_
          refine wm_callVi (k := 2) (As := [.int (nI S), .int (nI (wm_lo (tx i)))]) (rest := []) X hP hS hlt2 hE2 rfl (kX2_goalsOfSet l D C b n E (103 + 2 * k) (104 + 2 * k) cn st en S (wm_lo (tx i)) g hlt2 hE2 hlt3 hE3 (by omega) (by omega) (Nat.lt_trans hS9 (by decide))) wq3_93 wq3_94 wq3_95 wq1_2 wq3_96 (by decide) (by rw [hRe]; exact ⟨Nat.le_of_ble_eq_true rfl, Nat.le_of_ble_eq_true rfl⟩) rfl hl.1 rfl (Nat.le_of_ble_eq_true rfl) (Nat.zero_le _) (Nat.zero_le _) dX6_takes_47 (fun r6 E6 H locs hw hP hS => ?_)
          obtain ⟨hrt, hEe⟩ := hw
          subst hrt
          subst hEe
          refine lv_istore_n (lv' := [(3, .int (nI (wm_st g cn (wm_lo (tx i)) S))), (5, .int (nI (wm_lo (tx i)))), (0, .ref (b + 0)), (2, .ref (b + (103 + 2 * k))), (4, .int (nI i))]) X.1 X.2.1 dX6_takes_50 rfl hl (by decide) rfl (fun ls hl => ?_)
          refine lv_iinc (v := nI (i + 1)) (lv' := [(4, .int (nI (i + 1))), (3, .int (nI (wm_st g cn (wm_lo (tx i)) S))), (5, .int (nI (wm_lo (tx i)))), (0, .ref (b + 0)), (2, .ref (b + (103 + 2 * k)))]) X.1 X.2.1 dX6_takes_51 hl (k := 4) rfl (wm_inc i) (by decide) rfl (fun ls hl => ?_)
          refine lv_goto (tgt := 14) X.1 X.2.1 dX6_takes_54 (by decide) ?_
          exact ih14 (i + 1) (wm_st g cn (wm_lo (tx i)) S) (by omega) (by omega) (wm_st_lt (fun x hx => hg _ x hl8 hx)) (wm_tk2 hrun hc20 hc38) _ _ _ hP hS hE0 hE1 hE2 hE3 hE4 (lv_sub hl [3, 4, 1, 0] rfl)
        · refine lv_iconst (v := nI 0) X.1 X.2.1 dX6_takes_41 (by decide) ?_
          exact wm_zret (v := false) (post := pX6_takes C b E ts k cn st en g tx) X hr hP hS ⟨(by rw [wm_tk1 hrun hc20 hc38]), rfl⟩ hQ dX6_takes_42
  exact L14 (200 - 0 + 1) 0 st (Nat.lt_succ_self _) (by omega) (by omega) rfl _ _ _ hP hS hE0 hE1 hE2 hE3 hE4 (lv_sub hl [3, 2, 1, 0] rfl)
def pX6_within (C : Nat → ClassId) (b : Nat) (E : Nat → va_E) (ts i jj sc mc gc wg wl ci si ei cj sj ej : Nat) (sp gr mw gi gj : Nat → Nat) : Int32 → (Nat → va_E) → Prop := fun r E' => ∃ (sp1 : Nat → Nat) (wg1 : Nat) (wl1 : Nat) (gr1 : Nat → Nat) (mw1 : Nat → Nat), r = nI (decide (wl1 = 4294967295)).toNat ∧ E' 93 = .inr (4, [.ref (b + 94), .ref (b + 95), .ref (b + 96), .ref (b + 97), .ref (b + 98), .ref (b + 99), .int (nI (2 ^ cj)), .int (nI mc)]) ∧ E' 94 = wm_I C 16384 sp1 ∧ E' 100 = .inr (5, [.ref (b + 101), .ref (b + 102), .int (nI ((wm_hunt (fun S a => wm_st gi ci a S) (fun S a => wm_st gj cj a S) ei ej 49153 0 (wm_ag [] si sj 0 0)).1.length)), .int (nI wg1), .int (nI wl1)]) ∧ E' 101 = wm_J C 49152 gr1 ∧ E' 102 = wm_I C 2048 mw1 ∧ (∀ j, j ≠ 93 → j ≠ 94 → j ≠ 100 → j ≠ 101 → j ≠ 102 → E' j = E j) ∧ wm_hw (2 ^ cj) (wm_hunt (fun S a => wm_st gi ci a S) (fun S a => wm_st gj cj a S) ei ej 49153 0 (wm_ag [] si sj 0 0)).1 gr1 mw1 ∧ (((wm_hunt (fun S a => wm_st gi ci a S) (fun S a => wm_st gj cj a S) ei ej 49153 0 (wm_ag [] si sj 0 0)).2 = none ∧ wl1 = 4294967295 ∧ wg1 = wg) ∨ ∃ w, (wm_hunt (fun S a => wm_st gi ci a S) (fun S a => wm_st gj cj a S) ei ej 49153 0 (wm_ag [] si sj 0 0)).2 = some w ∧ w < (wm_hunt (fun S a => wm_st gi ci a S) (fun S a => wm_st gj cj a S) ei ej 49153 0 (wm_ag [] si sj 0 0)).1.length ∧ wg1 = w ∧ wl1 = wm_dp (wm_hunt (fun S a => wm_st gi ci a S) (fun S a => wm_st gj cj a S) ei ej 49153 0 (wm_ag [] si sj 0 0)).1 w)
set_option maxHeartbeats 4000000 in
set_option maxRecDepth 100000 in
theorem kX6_within (l : Launch) (D : va_G) (C : Nat → ClassId) (b n : Nat) (E : Nat → va_E) (ts i jj sc mc gc wg wl ci si ei cj sj ej : Nat) (sp gr mw gi gj : Nat → Nat) (hlt0 : 0 < n) (hE0 : E 0 = .inr (6, [.ref (b + 1), .ref (b + 2), .ref (b + 4), .int (nI ts), .ref (b + 5), .ref (b + 93), .ref (b + 100)])) (hlt1 : 1 < n) (hE1 : E 1 = wm_Q C 4 8 (fun x9 => some (b + (103 + 2 * x9)))) (hlt2 : 93 < n) (hE2 : E 93 = .inr (4, [.ref (b + 94), .ref (b + 95), .ref (b + 96), .ref (b + 97), .ref (b + 98), .ref (b + 99), .int (nI sc), .int (nI mc)])) (hlt3 : 94 < n) (hE3 : E 94 = wm_I C 16384 sp) (hlt4 : 100 < n) (hE4 : E 100 = .inr (5, [.ref (b + 101), .ref (b + 102), .int (nI gc), .int (nI wg), .int (nI wl)])) (hlt5 : 101 < n) (hE5 : E 101 = wm_J C 49152 gr) (hlt6 : 102 < n) (hE6 : E 102 = wm_I C 2048 mw) (hlt7 : 103 + 2 * i < n) (hE7 : E (103 + 2 * i) = .inr (2, [.ref (b + (104 + 2 * i)), .int (nI ci), .int (nI si), .int (nI ei)])) (hlt8 : 104 + 2 * i < n) (hE8 : E (104 + 2 * i) = wm_I C 192 gi) (hlt9 : 103 + 2 * jj < n) (hE9 : E (103 + 2 * jj) = .inr (2, [.ref (b + (104 + 2 * jj)), .int (nI cj), .int (nI sj), .int (nI ej)])) (hlt10 : 104 + 2 * jj < n) (hE10 : E (104 + 2 * jj) = wm_I C 192 gj) (hii : i < 8) (hjj : jj < 8) (hc1 : ci ≤ 24) (hc2 : cj ≤ 11) (hs1 : si < 2 ^ 24) (he1 : ei < 2 ^ 24) (hs2 : sj < 2 ^ cj) (he2 : ej < 2 ^ cj) (hgi : ∀ a x, a < 8 → x < ci → gi (a * 24 + x) < 2 ^ 24) (hgj : ∀ a x, a < 8 → x < cj → gj (a * 24 + x) < 2 ^ cj) : Met l yX6_within (wm_ws yX6_within cX6_within 5 (some .boolean)) { frames := 3, cells := 0, slots := 0, locals := 73 } (va_Pc [.ref (b + 0), .int (nI i), .int (nI jj)] (wm_G D C b n E)) (va_Qi (pX6_within C b E ts i jj sc mc gc wg wl ci si ei cj sj ej sp gr mw gi gj) (fun E' t => wm_P D b n E' t.heap) (wm_A b)) 0 0 (wm_A b) := by
  refine wm_ofW (by decide) (Nat.le_of_ble_eq_true rfl) (fun p e s m below meth c ls R args Q hRe hQ X hr hnm hP hS hl => ?_)
  have hl : lv_has ls 5 [(0, .ref (b + 0)), (1, .int (nI i)), (2, .int (nI jj))] := hl
  have hfr : ∀ j, j ≠ 93 → j ≠ 94 → j ≠ 100 → j ≠ 101 → j ≠ 102 → E j = E j := fun _ _ _ _ _ _ => rfl
  refine lv_aload_n X.1 X.2.1 dX6_within_0 rfl (lv_at hl 0 rfl) ?_
  refine lv_iload_n X.1 X.2.1 dX6_within_1 rfl (lv_at hl 1 rfl) ?_
  refine wm_callVr (k := 1) (As := [.int (nI i)]) (rest := []) X hP hS hlt0 hE0 rfl (kX6_machineAt l D C b n E ts i hlt0 hE0 hlt1 hE1 (by omega)) wq2_88 wq2_90 wqP1_1 wq1_1 wq2_91 (by decide) (by rw [hRe]; exact ⟨Nat.le_of_ble_eq_true rfl, Nat.le_of_ble_eq_true rfl⟩) rfl hl.1 rfl (Nat.le_of_ble_eq_true rfl) (Nat.zero_le _) (Nat.zero_le _) dX6_within_2 (fun E1 H locs hw hP hS => ?_)
  have hEe := hw
  subst hEe
  refine lv_astore_n (lv' := [(3, .ref (b + (103 + 2 * i))), (0, .ref (b + 0)), (1, .int (nI i)), (2, .int (nI jj))]) X.1 X.2.1 dX6_within_5 rfl hl (by decide) rfl (fun ls hl => ?_)
  refine lv_aload_n X.1 X.2.1 dX6_within_6 rfl (lv_at hl 1 rfl) ?_
  refine lv_iload_n X.1 X.2.1 dX6_within_7 rfl (lv_at hl 3 rfl) ?_
  refine wm_callVr (k := 1) (As := [.int (nI jj)]) (rest := []) X hP hS hlt0 hE0 rfl (kX6_machineAt l D C b n E ts jj hlt0 hE0 hlt1 hE1 (by omega)) wq2_88 wq2_90 wqP1_1 wq1_1 wq2_91 (by decide) (by rw [hRe]; exact ⟨Nat.le_of_ble_eq_true rfl, Nat.le_of_ble_eq_true rfl⟩) rfl hl.1 rfl (Nat.le_of_ble_eq_true rfl) (Nat.zero_le _) (Nat.zero_le _) dX6_within_8 (fun E2 H locs hw hP hS => ?_)
  have hEe := hw
  subst hEe
  refine lv_astore (lv' := [(4, .ref (b + (103 + 2 * jj))), (3, .ref (b + (103 + 2 * i))), (0, .ref (b + 0)), (1, .int (nI i)), (2, .int (nI jj))]) X.1 X.2.1 dX6_within_11 hl (by decide) rfl (fun ls hl => ?_)
  refine lv_aload X.1 X.2.1 dX6_within_13 (lv_at hl 0 rfl) ?_
  refine wm_callSv (k := 1) (As := [.ref (b + (103 + 2 * jj))]) (rest := []) X hP hS  (kX6_checkFewStates l D C b n E (103 + 2 * jj) (104 + 2 * jj) cj sj ej hlt9 hE9 (by omega)) wq3_108 wq3_109 wq1_1 wq3_110 (by decide) (by rw [hRe]; exact ⟨Nat.le_of_ble_eq_true rfl, Nat.le_of_ble_eq_true rfl⟩) rfl hl.1 rfl (Nat.le_of_ble_eq_true rfl) (Nat.zero_le _) (Nat.zero_le _) dX6_within_15 (fun E3 H locs hw hP hS => ?_)
  have hEe := hw
  subst hEe
  refine lv_aload_n X.1 X.2.1 dX6_within_18 rfl (lv_at hl 2 rfl) ?_
  refine wm_get X hP hlt0 hE0 rfl wm_inX6 5 (by decide) wq1_212 rfl dX6_within_19 ?_
  refine lv_aload X.1 X.2.1 dX6_within_22 (lv_at hl 0 rfl) ?_
  refine wm_callVv (k := 1) (As := [.ref (b + (103 + 2 * jj))]) (rest := []) X hP hS hlt2 hE2 rfl (kX4_fillSteps l D C b n E sc mc (103 + 2 * jj) (104 + 2 * jj) cj sj ej sp gj hlt2 hE2 hlt3 hE3 hlt9 hE9 hlt10 hE10 (by omega) (by omega) (by omega) (by omega)) wq3_112 wq3_113 wq3_114 wq1_6 wq3_115 (by decide) (by rw [hRe]; exact ⟨Nat.le_of_ble_eq_true rfl, Nat.le_of_ble_eq_true rfl⟩) rfl hl.1 rfl (Nat.le_of_ble_eq_true rfl) (Nat.zero_le _) (Nat.zero_le _) dX6_within_24 (fun E4 H locs hw hP hS => ?_)
  obtain ⟨sp14, hE2, hE3, hq, hp4_0⟩ := hw
  have hE0 := (hq 0 (by decide) (by decide)).trans hE0
  have hE1 := (hq 1 (by decide) (by decide)).trans hE1
  have hE4 := (hq 100 (by decide) (by decide)).trans hE4
  have hE5 := (hq 101 (by decide) (by decide)).trans hE5
  have hE6 := (hq 102 (by decide) (by decide)).trans hE6
  have hE7 := (hq (103 + 2 * i) (by omega) (by omega)).trans hE7
  have hE8 := (hq (104 + 2 * i) (by omega) (by omega)).trans hE8
  have hE9 := (hq (103 + 2 * jj) (by omega) (by omega)).trans hE9
  have hE10 := (hq (104 + 2 * jj) (by omega) (by omega)).trans hE10
  have hfr : ∀ j, j ≠ 93 → j ≠ 94 → j ≠ 100 → j ≠ 101 → j ≠ 102 → E4 j = E j := fun j h0 h1 h2 h3 h4 => (hq j h0 h1).trans (hfr j h0 h1 h2 h3 h4)
  have hsp := hp4_0
  refine lv_aload_n X.1 X.2.1 dX6_within_27 rfl (lv_at hl 2 rfl) ?_
  refine wm_get X hP hlt0 hE0 rfl wm_inX6 6 (by decide) wq1_213 rfl dX6_within_28 ?_
  refine lv_aload_n X.1 X.2.1 dX6_within_31 rfl (lv_at hl 1 rfl) ?_
  refine lv_aload X.1 X.2.1 dX6_within_32 (lv_at hl 0 rfl) ?_
  refine lv_aload_n X.1 X.2.1 dX6_within_34 rfl (lv_at hl 2 rfl) ?_
  refine wm_get X hP hlt0 hE0 rfl wm_inX6 5 (by decide) wq1_212 rfl dX6_within_35 ?_
  refine wm_callVv (k := 3) (As := [.ref (b + (103 + 2 * i)), .ref (b + (103 + 2 * jj)), .ref (b + 93)]) (rest := []) X hP hS hlt4 hE4 rfl (kX5_search l D C b n E4 gc wg wl (103 + 2 * i) (104 + 2 * i) ci si ei (103 + 2 * jj) (104 + 2 * jj) cj sj ej mc gr mw sp14 gi gj hlt4 hE4 hlt5 hE5 hlt6 hE6 hlt7 hE7 hlt8 hE8 hlt9 hE9 hlt2 hE2 hlt3 hE3 (by omega) (by omega) (by omega) (by omega) (by omega) hs1 he1 hs2 he2 hgi hgj hsp) wq3_118 wq3_119 wq3_120 wq1_7 wq3_121 (by decide) (by rw [hRe]; exact ⟨Nat.le_of_ble_eq_true rfl, Nat.le_of_ble_eq_true rfl⟩) rfl hl.1 rfl (Nat.le_of_ble_eq_true rfl) (Nat.zero_le _) (Nat.zero_le _) dX6_within_38 (fun E5 H locs hw hP hS => ?_)
  obtain ⟨wg15, wl15, gr15, mw15, hE4, hE5, hE6, hq, hp5_0, hp5_1⟩ := hw
  have hE0 := (hq 0 (by decide) (by decide) (by decide)).trans hE0
  have hE1 := (hq 1 (by decide) (by decide) (by decide)).trans hE1
  have hE2 := (hq 93 (by decide) (by decide) (by decide)).trans hE2
  have hE3 := (hq 94 (by decide) (by decide) (by decide)).trans hE3
  have hE7 := (hq (103 + 2 * i) (by omega) (by omega) (by omega)).trans hE7
  have hE8 := (hq (104 + 2 * i) (by omega) (by omega) (by omega)).trans hE8
  have hE9 := (hq (103 + 2 * jj) (by omega) (by omega) (by omega)).trans hE9
  have hE10 := (hq (104 + 2 * jj) (by omega) (by omega) (by omega)).trans hE10
  have hfr : ∀ j, j ≠ 93 → j ≠ 94 → j ≠ 100 → j ≠ 101 → j ≠ 102 → E5 j = E j := fun j h0 h1 h2 h3 h4 => (hq j h2 h3 h4).trans (hfr j h0 h1 h2 h3 h4)
  have hhw := hp5_0
  have hres := hp5_1
  have hwl : wl15 < 2 ^ 32 := wm_wl hhw (Nat.pow_le_pow_right (by decide) hc2) hres
  refine lv_aload_n X.1 X.2.1 dX6_within_41 rfl (lv_at hl 2 rfl) ?_
  refine wm_get X hP hlt0 hE0 rfl wm_inX6 6 (by decide) wq1_213 rfl dX6_within_42 ?_
  refine wm_get X hP hlt4 hE4 rfl wm_inX5 4 (by decide) wq1_195 rfl dX6_within_45 ?_
  refine lv_iconst (v := nI 4294967295) X.1 X.2.1 dX6_within_48 (by decide) ?_
  refine wm_icmp_ne (x := wl15) (y := 4294967295) (tgt := 56) X hwl (by decide) dX6_within_49 (by decide) (fun hc49 => ?_) (fun hc49 => ?_)
  · refine lv_iconst (v := nI 0) X.1 X.2.1 dX6_within_56 (by decide) ?_
    exact wm_zret (v := false) (post := pX6_within C b E ts i jj sc mc gc wg wl ci si ei cj sj ej sp gr mw gi gj) X hr hP hS ⟨sp14, wg15, wl15, gr15, mw15, (by rw [decide_eq_false hc49]), hE2, hE3, hE4, hE5, hE6, hfr, hhw, hres⟩ hQ dX6_within_57
  · refine lv_iconst (v := nI 1) X.1 X.2.1 dX6_within_52 (by decide) ?_
    refine lv_goto (tgt := 57) X.1 X.2.1 dX6_within_53 (by decide) ?_
    exact wm_zret (v := true) (post := pX6_within C b E ts i jj sc mc gc wg wl ci si ei cj sj ej sp gr mw gi gj) X hr hP hS ⟨sp14, wg15, wl15, gr15, mw15, (by rw [decide_eq_true hc49]), hE2, hE3, hE4, hE5, hE6, hfr, hhw, hres⟩ hQ dX6_within_57
def pX6_length (C : Nat → ClassId) (b : Nat) (E : Nat → va_E) (ts gc wg wl : Nat) : Int32 → (Nat → va_E) → Prop := fun r E' => r = nI wl ∧ E = E'
set_option maxHeartbeats 4000000 in
set_option maxRecDepth 100000 in
theorem kX6_length (l : Launch) (D : va_G) (C : Nat → ClassId) (b n : Nat) (E : Nat → va_E) (ts gc wg wl : Nat) (hlt0 : 0 < n) (hE0 : E 0 = .inr (6, [.ref (b + 1), .ref (b + 2), .ref (b + 4), .int (nI ts), .ref (b + 5), .ref (b + 93), .ref (b + 100)])) (hlt1 : 100 < n) (hE1 : E 100 = .inr (5, [.ref (b + 101), .ref (b + 102), .int (nI gc), .int (nI wg), .int (nI wl)])) : Met l yX6_length (wm_ws yX6_length cX6_length 1 (some .int)) { frames := 0, cells := 0, slots := 0, locals := 0 } (va_Pc [.ref (b + 0)] (wm_G D C b n E)) (va_Qi (pX6_length C b E ts gc wg wl) (fun E' t => wm_P D b n E' t.heap) (wm_A b)) 0 0 (wm_A b) := by
  refine wm_ofW (by decide) (Nat.le_of_ble_eq_true rfl) (fun p e s m below meth c ls R args Q hRe hQ X hr hnm hP hS hl => ?_)
  have hl : lv_has ls 1 [(0, .ref (b + 0))] := hl
  refine lv_aload_n X.1 X.2.1 dX6_length_0 rfl (lv_at hl 0 rfl) ?_
  refine wm_get X hP hlt0 hE0 rfl wm_inX6 6 (by decide) wq1_213 rfl dX6_length_1 ?_
  refine wm_get X hP hlt1 hE1 rfl wm_inX5 4 (by decide) wq1_195 rfl dX6_length_4 ?_
  exact wm_iret (post := pX6_length C b E ts gc wg wl) X hr hP hS ⟨rfl, rfl⟩ hQ dX6_length_7
def pX6_letter (C : Nat → ClassId) (b : Nat) (E : Nat → va_E) (ts gc w t1 sc : Nat) (G : List wm_gp) (gr : Nat → Nat) : Int32 → (Nat → va_E) → Prop := fun r E' => r = nI ((G.getD (wm_upg G (wm_dp G w - 1 - t1) w) wm_g0).2.2.1) ∧ E = E'
set_option maxHeartbeats 4000000 in
set_option maxRecDepth 100000 in
theorem kX6_letter (l : Launch) (D : va_G) (C : Nat → ClassId) (b n : Nat) (E : Nat → va_E) (ts gc w t1 sc : Nat) (G : List wm_gp) (gr : Nat → Nat) (hlt0 : 0 < n) (hE0 : E 0 = .inr (6, [.ref (b + 1), .ref (b + 2), .ref (b + 4), .int (nI ts), .ref (b + 5), .ref (b + 93), .ref (b + 100)])) (hlt1 : 100 < n) (hE1 : E 100 = .inr (5, [.ref (b + 101), .ref (b + 102), .int (nI gc), .int (nI w), .int (nI (wm_dp G w))])) (hlt2 : 101 < n) (hE2 : E 101 = wm_J C 49152 gr) (hsc : sc ≤ 2048) (hgg : wm_gg sc G) (hgr : ∀ i, i < G.length → gr i = wm_enc (G.getD i wm_g0)) (hw1 : w < G.length) (ht1 : t1 < wm_dp G w) : Met l yX6_letter (wm_ws yX6_letter cX6_letter 2 (some .int)) { frames := 2, cells := 0, slots := 0, locals := 44 } (va_Pc [.ref (b + 0), .int (nI t1)] (wm_G D C b n E)) (va_Qi (pX6_letter C b E ts gc w t1 sc G gr) (fun E' t => wm_P D b n E' t.heap) (wm_A b)) 0 0 (wm_A b) := by
  refine wm_ofW (by decide) (Nat.le_of_ble_eq_true rfl) (fun p e s m below meth c ls R args Q hRe hQ X hr hnm hP hS hl => ?_)
  have hl : lv_has ls 2 [(0, .ref (b + 0)), (1, .int (nI t1))] := hl
  have hlen := wm_gg_len hgg hsc
  have hdl := wm_dep_le hgg w hw1
  refine lv_iload_n X.1 X.2.1 dX6_letter_0 rfl (lv_at hl 1 rfl) ?_
  refine wm_if_lt (x := t1) (tgt := 15) X (by omega) dX6_letter_1 (by decide) ?_
  refine lv_iload_n X.1 X.2.1 dX6_letter_4 rfl (lv_at hl 1 rfl) ?_
  refine lv_aload_n X.1 X.2.1 dX6_letter_5 rfl (lv_at hl 0 rfl) ?_
  refine wm_get X hP hlt0 hE0 rfl wm_inX6 6 (by decide) wq1_213 rfl dX6_letter_6 ?_
  refine wm_get X hP hlt1 hE1 rfl wm_inX5 4 (by decide) wq1_195 rfl dX6_letter_9 ?_
  refine wm_icmp_lt (x := t1) (y := (wm_dp G w)) (tgt := 25) X (by omega) (by omega) dX6_letter_12 (by decide) (fun hc12 => ?_) (fun hc12 => ?_)
  · refine lv_aload_n X.1 X.2.1 dX6_letter_25 rfl (lv_at hl 0 rfl) ?_
    refine wm_get X hP hlt0 hE0 rfl wm_inX6 6 (by decide) wq1_213 rfl dX6_letter_26 ?_
    refine lv_iload_n X.1 X.2.1 dX6_letter_29 rfl (lv_at hl 1 rfl) ?_
    refine wm_callVi (k := 1) (As := [.int (nI t1)]) (rest := []) X hP hS hlt1 hE1 rfl (kX5_wordLetter l D C b n E gc w t1 sc G gr hlt1 hE1 hlt2 hE2 (by omega) hgg hgr (by omega) (by omega)) wq4_181 wq4_182 wq4_183 wq1_7 wq4_184 (by decide) (by rw [hRe]; exact ⟨Nat.le_of_ble_eq_true rfl, Nat.le_of_ble_eq_true rfl⟩) rfl hl.1 rfl (Nat.le_of_ble_eq_true rfl) (Nat.zero_le _) (Nat.zero_le _) dX6_letter_30 (fun r2 E2 H locs hw hP hS => ?_)
    obtain ⟨hrt, hEe⟩ := hw
    subst hrt
    subst hEe
    exact wm_iret (post := pX6_letter C b E ts gc w t1 sc G gr) X hr hP hS ⟨rfl, rfl⟩ hQ dX6_letter_33
  · exact absurd hc12 (by omega)
def pX6_words (C : Nat → ClassId) (b : Nat) (E : Nat → va_E) (ts k sc mc cn st en len : Nat) (sp : Nat → Nat) (mk : Nat → Bool) (mt g e1 e2 : Nat → Nat) : Int64 → (Nat → va_E) → Prop := fun r E' => ∃ (sp1 : Nat → Nat) (mk1 : Nat → Bool) (mt1 : Nat → Nat) (f1 : Nat → Nat) (f2 : Nat → Nat), r = lN (wm_cwr (fun S a => wm_st g cn a S) (wm_sets g cn st) st en len) ∧ E' 93 = .inr (4, [.ref (b + 94), .ref (b + 95), .ref (b + 96), .ref (b + 97), .ref (b + 98), .ref (b + 99), .int (nI (2 ^ cn)), .int (nI ((wm_sets g cn st).length))]) ∧ E' 94 = wm_I C 16384 sp1 ∧ E' 95 = wm_Z C 2048 mk1 ∧ E' 96 = wm_I C 2048 mt1 ∧ E' 98 = wm_J C 2048 f1 ∧ E' 99 = wm_J C 2048 f2 ∧ (∀ j, j ≠ 93 → j ≠ 94 → j ≠ 95 → j ≠ 96 → j ≠ 98 → j ≠ 99 → E' j = E j)
set_option maxHeartbeats 4000000 in
set_option maxRecDepth 100000 in
theorem kX6_words (l : Launch) (D : va_G) (C : Nat → ClassId) (b n : Nat) (E : Nat → va_E) (ts k sc mc cn st en len : Nat) (sp : Nat → Nat) (mk : Nat → Bool) (mt g e1 e2 : Nat → Nat) (hlt0 : 0 < n) (hE0 : E 0 = .inr (6, [.ref (b + 1), .ref (b + 2), .ref (b + 4), .int (nI ts), .ref (b + 5), .ref (b + 93), .ref (b + 100)])) (hlt1 : 1 < n) (hE1 : E 1 = wm_Q C 4 8 (fun x9 => some (b + (103 + 2 * x9)))) (hlt2 : 93 < n) (hE2 : E 93 = .inr (4, [.ref (b + 94), .ref (b + 95), .ref (b + 96), .ref (b + 97), .ref (b + 98), .ref (b + 99), .int (nI sc), .int (nI mc)])) (hlt3 : 94 < n) (hE3 : E 94 = wm_I C 16384 sp) (hlt4 : 95 < n) (hE4 : E 95 = wm_Z C 2048 mk) (hlt5 : 96 < n) (hE5 : E 96 = wm_I C 2048 mt) (hlt6 : 98 < n) (hE6 : E 98 = wm_J C 2048 e1) (hlt7 : 99 < n) (hE7 : E 99 = wm_J C 2048 e2) (hlt8 : 103 + 2 * k < n) (hE8 : E (103 + 2 * k) = .inr (2, [.ref (b + (104 + 2 * k)), .int (nI cn), .int (nI st), .int (nI en)])) (hlt9 : 104 + 2 * k < n) (hE9 : E (104 + 2 * k) = wm_I C 192 g) (hkk : k < 8) (hc : cn ≤ 11) (hst : st < 2 ^ cn) (hen : en < 2 ^ cn) (hg : ∀ a x, a < 8 → x < cn → g (a * 24 + x) < 2 ^ cn) (hlen : len ≤ 20) : Met l yX6_words (wm_ws yX6_words cX6_words 4 (some .long)) { frames := 4, cells := 0, slots := 0, locals := 98 } (va_Pc [.ref (b + 0), .int (nI k), .int (nI len)] (wm_G D C b n E)) (va_Ql (pX6_words C b E ts k sc mc cn st en len sp mk mt g e1 e2) (fun E' t => wm_P D b n E' t.heap) (wm_A b)) 0 0 (wm_A b) := by
  refine wm_ofW (by decide) (Nat.le_of_ble_eq_true rfl) (fun p e s m below meth c ls R args Q hRe hQ X hr hnm hP hS hl => ?_)
  have hl : lv_has ls 4 [(0, .ref (b + 0)), (1, .int (nI k)), (2, .int (nI len))] := hl
  have hfr : ∀ j, j ≠ 93 → j ≠ 94 → j ≠ 95 → j ≠ 96 → j ≠ 98 → j ≠ 99 → E j = E j := fun _ _ _ _ _ _ _ => rfl
  refine lv_aload_n X.1 X.2.1 dX6_words_0 rfl (lv_at hl 0 rfl) ?_
  refine lv_iload_n X.1 X.2.1 dX6_words_1 rfl (lv_at hl 1 rfl) ?_
  refine wm_callVr (k := 1) (As := [.int (nI k)]) (rest := []) X hP hS hlt0 hE0 rfl (kX6_machineAt l D C b n E ts k hlt0 hE0 hlt1 hE1 (by omega)) wq2_88 wq2_90 wqP1_1 wq1_1 wq2_91 (by decide) (by rw [hRe]; exact ⟨Nat.le_of_ble_eq_true rfl, Nat.le_of_ble_eq_true rfl⟩) rfl hl.1 rfl (Nat.le_of_ble_eq_true rfl) (Nat.zero_le _) (Nat.zero_le _) dX6_words_2 (fun E1 H locs hw hP hS => ?_)
  have hEe := hw
  subst hEe
  refine lv_astore_n (lv' := [(3, .ref (b + (103 + 2 * k))), (0, .ref (b + 0)), (1, .int (nI k)), (2, .int (nI len))]) X.1 X.2.1 dX6_words_5 rfl hl (by decide) rfl (fun ls hl => ?_)
  refine lv_aload_n X.1 X.2.1 dX6_words_6 rfl (lv_at hl 0 rfl) ?_
  refine wm_callSv (k := 1) (As := [.ref (b + (103 + 2 * k))]) (rest := []) X hP hS  (kX6_checkFewStates l D C b n E (103 + 2 * k) (104 + 2 * k) cn st en hlt8 hE8 (by omega)) wq3_108 wq3_109 wq1_1 wq3_110 (by decide) (by rw [hRe]; exact ⟨Nat.le_of_ble_eq_true rfl, Nat.le_of_ble_eq_true rfl⟩) rfl hl.1 rfl (Nat.le_of_ble_eq_true rfl) (Nat.zero_le _) (Nat.zero_le _) dX6_words_7 (fun E2 H locs hw hP hS => ?_)
  have hEe := hw
  subst hEe
  refine lv_iload_n X.1 X.2.1 dX6_words_10 rfl (lv_at hl 3 rfl) ?_
  refine wm_if_lt (x := len) (tgt := 20) X (by omega) dX6_words_11 (by decide) ?_
  refine lv_iload_n X.1 X.2.1 dX6_words_14 rfl (lv_at hl 3 rfl) ?_
  refine lv_bipush (v := nI 20) X.1 X.2.1 dX6_words_15 (by decide) ?_
  refine wm_icmp_le (x := len) (y := 20) (tgt := 30) X (by omega) (by decide) dX6_words_17 (by decide) (fun hc17 => ?_) (fun hc17 => ?_)
  · refine lv_aload_n X.1 X.2.1 dX6_words_30 rfl (lv_at hl 1 rfl) ?_
    refine wm_get X hP hlt0 hE0 rfl wm_inX6 5 (by decide) wq1_212 rfl dX6_words_31 ?_
    refine lv_aload_n X.1 X.2.1 dX6_words_34 rfl (lv_at hl 0 rfl) ?_
    refine lv_iload_n X.1 X.2.1 dX6_words_35 rfl (lv_at hl 3 rfl) ?_
    refine wm_callVl (k := 2) (As := [.ref (b + (103 + 2 * k)), .int (nI len)]) (rest := []) X hP hS hlt2 hE2 rfl (kX4_countWords l D C b n E sc mc (103 + 2 * k) (104 + 2 * k) cn st en len sp mk mt g e1 e2 hlt2 hE2 hlt3 hE3 hlt4 hE4 hlt5 hE5 hlt6 hE6 hlt7 hE7 hlt8 hE8 hlt9 hE9 (by omega) (by omega) (by omega) (by omega) hst hen (by omega) hg) wq4_193 wq4_194 wq4_195 wq1_6 wq4_196 (by decide) (by rw [hRe]; exact ⟨Nat.le_of_ble_eq_true rfl, Nat.le_of_ble_eq_true rfl⟩) rfl hl.1 rfl (Nat.le_of_ble_eq_true rfl) (Nat.zero_le _) (Nat.zero_le _) dX6_words_36 (fun r4 E4 H locs hw hP hS => ?_)
    obtain ⟨sp14, mk14, mt14, f14, f24, hrt, hE2, hE3, hE4, hE5, hE6, hE7, hq⟩ := hw
    subst hrt
    have hE0 := (hq 0 (by decide) (by decide) (by decide) (by decide) (by decide) (by decide)).trans hE0
    have hE1 := (hq 1 (by decide) (by decide) (by decide) (by decide) (by decide) (by decide)).trans hE1
    have hE8 := (hq (103 + 2 * k) (by omega) (by omega) (by omega) (by omega) (by omega) (by omega)).trans hE8
    have hE9 := (hq (104 + 2 * k) (by omega) (by omega) (by omega) (by omega) (by omega) (by omega)).trans hE9
    have hfr : ∀ j, j ≠ 93 → j ≠ 94 → j ≠ 95 → j ≠ 96 → j ≠ 98 → j ≠ 99 → E4 j = E j := fun j h0 h1 h2 h3 h4 h5 => (hq j h0 h1 h2 h3 h4 h5).trans (hfr j h0 h1 h2 h3 h4 h5)
    exact wm_lret (post := pX6_words C b E ts k sc mc cn st en len sp mk mt g e1 e2) X hr hP hS ⟨sp14, mk14, mt14, f14, f24, rfl, hE2, hE3, hE4, hE5, hE6, hE7, hfr⟩ hQ dX6_words_39
  · exact absurd hc17 (by omega)
def pX6_sets (C : Nat → ClassId) (b : Nat) (E : Nat → va_E) (ts k sc mc cn st en : Nat) (sp : Nat → Nat) (mk : Nat → Bool) (mt g : Nat → Nat) : Int32 → (Nat → va_E) → Prop := fun r E' => ∃ (sp1 : Nat → Nat) (mk1 : Nat → Bool) (mt1 : Nat → Nat), r = nI ((wm_sets g cn st).length) ∧ E' 93 = .inr (4, [.ref (b + 94), .ref (b + 95), .ref (b + 96), .ref (b + 97), .ref (b + 98), .ref (b + 99), .int (nI (2 ^ cn)), .int (nI ((wm_sets g cn st).length))]) ∧ E' 94 = wm_I C 16384 sp1 ∧ E' 95 = wm_Z C 2048 mk1 ∧ E' 96 = wm_I C 2048 mt1 ∧ (∀ j, j ≠ 93 → j ≠ 94 → j ≠ 95 → j ≠ 96 → E' j = E j)
set_option maxHeartbeats 4000000 in
set_option maxRecDepth 100000 in
theorem kX6_sets (l : Launch) (D : va_G) (C : Nat → ClassId) (b n : Nat) (E : Nat → va_E) (ts k sc mc cn st en : Nat) (sp : Nat → Nat) (mk : Nat → Bool) (mt g : Nat → Nat) (hlt0 : 0 < n) (hE0 : E 0 = .inr (6, [.ref (b + 1), .ref (b + 2), .ref (b + 4), .int (nI ts), .ref (b + 5), .ref (b + 93), .ref (b + 100)])) (hlt1 : 1 < n) (hE1 : E 1 = wm_Q C 4 8 (fun x9 => some (b + (103 + 2 * x9)))) (hlt2 : 93 < n) (hE2 : E 93 = .inr (4, [.ref (b + 94), .ref (b + 95), .ref (b + 96), .ref (b + 97), .ref (b + 98), .ref (b + 99), .int (nI sc), .int (nI mc)])) (hlt3 : 94 < n) (hE3 : E 94 = wm_I C 16384 sp) (hlt4 : 95 < n) (hE4 : E 95 = wm_Z C 2048 mk) (hlt5 : 96 < n) (hE5 : E 96 = wm_I C 2048 mt) (hlt6 : 103 + 2 * k < n) (hE6 : E (103 + 2 * k) = .inr (2, [.ref (b + (104 + 2 * k)), .int (nI cn), .int (nI st), .int (nI en)])) (hlt7 : 104 + 2 * k < n) (hE7 : E (104 + 2 * k) = wm_I C 192 g) (hkk : k < 8) (hc : cn ≤ 11) (hst : st < 2 ^ cn) (hen : en < 2 ^ cn) (hg : ∀ a x, a < 8 → x < cn → g (a * 24 + x) < 2 ^ cn) : Met l yX6_sets (wm_ws yX6_sets cX6_sets 3 (some .int)) { frames := 3, cells := 0, slots := 0, locals := 70 } (va_Pc [.ref (b + 0), .int (nI k)] (wm_G D C b n E)) (va_Qi (pX6_sets C b E ts k sc mc cn st en sp mk mt g) (fun E' t => wm_P D b n E' t.heap) (wm_A b)) 0 0 (wm_A b) := by
  refine wm_ofW (by decide) (Nat.le_of_ble_eq_true rfl) (fun p e s m below meth c ls R args Q hRe hQ X hr hnm hP hS hl => ?_)
  have hl : lv_has ls 3 [(0, .ref (b + 0)), (1, .int (nI k))] := hl
  have hfr : ∀ j, j ≠ 93 → j ≠ 94 → j ≠ 95 → j ≠ 96 → E j = E j := fun _ _ _ _ _ => rfl
  refine lv_aload_n X.1 X.2.1 dX6_sets_0 rfl (lv_at hl 0 rfl) ?_
  refine lv_iload_n X.1 X.2.1 dX6_sets_1 rfl (lv_at hl 1 rfl) ?_
  refine wm_callVr (k := 1) (As := [.int (nI k)]) (rest := []) X hP hS hlt0 hE0 rfl (kX6_machineAt l D C b n E ts k hlt0 hE0 hlt1 hE1 (by omega)) wq2_88 wq2_90 wqP1_1 wq1_1 wq2_91 (by decide) (by rw [hRe]; exact ⟨Nat.le_of_ble_eq_true rfl, Nat.le_of_ble_eq_true rfl⟩) rfl hl.1 rfl (Nat.le_of_ble_eq_true rfl) (Nat.zero_le _) (Nat.zero_le _) dX6_sets_2 (fun E1 H locs hw hP hS => ?_)
  have hEe := hw
  subst hEe
  refine lv_astore_n (lv' := [(2, .ref (b + (103 + 2 * k))), (0, .ref (b + 0)), (1, .int (nI k))]) X.1 X.2.1 dX6_sets_5 rfl hl (by decide) rfl (fun ls hl => ?_)
  refine lv_aload_n X.1 X.2.1 dX6_sets_6 rfl (lv_at hl 0 rfl) ?_
  refine wm_callSv (k := 1) (As := [.ref (b + (103 + 2 * k))]) (rest := []) X hP hS  (kX6_checkFewStates l D C b n E (103 + 2 * k) (104 + 2 * k) cn st en hlt6 hE6 (by omega)) wq3_108 wq3_109 wq1_1 wq3_110 (by decide) (by rw [hRe]; exact ⟨Nat.le_of_ble_eq_true rfl, Nat.le_of_ble_eq_true rfl⟩) rfl hl.1 rfl (Nat.le_of_ble_eq_true rfl) (Nat.zero_le _) (Nat.zero_le _) dX6_sets_7 (fun E2 H locs hw hP hS => ?_)
  have hEe := hw
  subst hEe
  refine lv_aload_n X.1 X.2.1 dX6_sets_10 rfl (lv_at hl 1 rfl) ?_
  refine wm_get X hP hlt0 hE0 rfl wm_inX6 5 (by decide) wq1_212 rfl dX6_sets_11 ?_
  refine lv_aload_n X.1 X.2.1 dX6_sets_14 rfl (lv_at hl 0 rfl) ?_
  refine wm_callVv (k := 1) (As := [.ref (b + (103 + 2 * k))]) (rest := []) X hP hS hlt2 hE2 rfl (kX4_meetAll l D C b n E sc mc (103 + 2 * k) (104 + 2 * k) cn st en sp mk mt g hlt2 hE2 hlt3 hE3 hlt4 hE4 hlt5 hE5 hlt6 hE6 hlt7 hE7 (by omega) (by omega) (by omega) (by omega) hst hg) wq4_233 wq4_198 wq4_199 wq1_6 wq4_200 (by decide) (by rw [hRe]; exact ⟨Nat.le_of_ble_eq_true rfl, Nat.le_of_ble_eq_true rfl⟩) rfl hl.1 rfl (Nat.le_of_ble_eq_true rfl) (Nat.zero_le _) (Nat.zero_le _) dX6_sets_15 (fun E3 H locs hw hP hS => ?_)
  obtain ⟨sp13, mk13, mt13, hE2, hE3, hE4, hE5, hq, hp3_0, hp3_1⟩ := hw
  have hE0 := (hq 0 (by decide) (by decide) (by decide) (by decide)).trans hE0
  have hE1 := (hq 1 (by decide) (by decide) (by decide) (by decide)).trans hE1
  have hE6 := (hq (103 + 2 * k) (by omega) (by omega) (by omega) (by omega)).trans hE6
  have hE7 := (hq (104 + 2 * k) (by omega) (by omega) (by omega) (by omega)).trans hE7
  have hfr : ∀ j, j ≠ 93 → j ≠ 94 → j ≠ 95 → j ≠ 96 → E3 j = E j := fun j h0 h1 h2 h3 => (hq j h0 h1 h2 h3).trans (hfr j h0 h1 h2 h3)
  refine lv_aload_n X.1 X.2.1 dX6_sets_18 rfl (lv_at hl 1 rfl) ?_
  refine wm_get X hP hlt0 hE0 rfl wm_inX6 5 (by decide) wq1_212 rfl dX6_sets_19 ?_
  refine wm_get X hP hlt2 hE2 rfl wm_inX4 7 (by decide) wq1_163 rfl dX6_sets_22 ?_
  exact wm_iret (post := pX6_sets C b E ts k sc mc cn st en sp mk mt g) X hr hP hS ⟨sp13, mk13, mt13, rfl, hE2, hE3, hE4, hE5, hfr⟩ hQ dX6_sets_25
def pX6_rests (C : Nat → ClassId) (b : Nat) (E : Nat → va_E) (ts k c0 s0 e0 sc mc cn st en : Nat) (sp : Nat → Nat) (mk : Nat → Bool) (mt un g0 g : Nat → Nat) : Int32 → (Nat → va_E) → Prop := fun r E' => ∃ (g3 : Nat → Nat) (sp1 : Nat → Nat) (mk1 : Nat → Bool) (mt1 : Nat → Nat) (un1 : Nat → Nat), r = nI ((wm_vf (fun j => un1 ((2 ^ cn - 1) &&& ((wm_sets g cn st).getD j 0 ^^^ 4294967295))) (wm_sets g cn st).length []).length) ∧ E' 2 = .inr (2, [.ref (b + 3), .int (nI cn), .int (nI en), .int (nI st)]) ∧ E' 3 = wm_I C 192 g3 ∧ E' 93 = .inr (4, [.ref (b + 94), .ref (b + 95), .ref (b + 96), .ref (b + 97), .ref (b + 98), .ref (b + 99), .int (nI (2 ^ cn)), .int (nI ((wm_sets g cn st).length))]) ∧ E' 94 = wm_I C 16384 sp1 ∧ E' 95 = wm_Z C 2048 mk1 ∧ E' 96 = wm_I C 2048 mt1 ∧ E' 97 = wm_I C 2048 un1 ∧ (∀ j, j ≠ 2 → j ≠ 3 → j ≠ 93 → j ≠ 94 → j ≠ 95 → j ≠ 96 → j ≠ 97 → E' j = E j) ∧ wm_bt cn 8 0 g g3 ∧ (∀ S, S < 2 ^ cn → wm_un (fun x => decide (x ∈ (wm_sets g3 cn en))) (2 ^ cn) S (un1 S))
set_option maxHeartbeats 4000000 in
set_option maxRecDepth 100000 in
theorem kX6_rests (l : Launch) (D : va_G) (C : Nat → ClassId) (b n : Nat) (E : Nat → va_E) (ts k c0 s0 e0 sc mc cn st en : Nat) (sp : Nat → Nat) (mk : Nat → Bool) (mt un g0 g : Nat → Nat) (hlt0 : 0 < n) (hE0 : E 0 = .inr (6, [.ref (b + 1), .ref (b + 2), .ref (b + 4), .int (nI ts), .ref (b + 5), .ref (b + 93), .ref (b + 100)])) (hlt1 : 1 < n) (hE1 : E 1 = wm_Q C 4 8 (fun x9 => some (b + (103 + 2 * x9)))) (hlt2 : 2 < n) (hE2 : E 2 = .inr (2, [.ref (b + 3), .int (nI c0), .int (nI s0), .int (nI e0)])) (hlt3 : 3 < n) (hE3 : E 3 = wm_I C 192 g0) (hlt4 : 93 < n) (hE4 : E 93 = .inr (4, [.ref (b + 94), .ref (b + 95), .ref (b + 96), .ref (b + 97), .ref (b + 98), .ref (b + 99), .int (nI sc), .int (nI mc)])) (hlt5 : 94 < n) (hE5 : E 94 = wm_I C 16384 sp) (hlt6 : 95 < n) (hE6 : E 95 = wm_Z C 2048 mk) (hlt7 : 96 < n) (hE7 : E 96 = wm_I C 2048 mt) (hlt8 : 97 < n) (hE8 : E 97 = wm_I C 2048 un) (hlt9 : 103 + 2 * k < n) (hE9 : E (103 + 2 * k) = .inr (2, [.ref (b + (104 + 2 * k)), .int (nI cn), .int (nI st), .int (nI en)])) (hlt10 : 104 + 2 * k < n) (hE10 : E (104 + 2 * k) = wm_I C 192 g) (hkk : k < 8) (hc : cn ≤ 11) (hst : st < 2 ^ cn) (hen : en < 2 ^ cn) (hg : ∀ a x, a < 8 → x < cn → g (a * 24 + x) < 2 ^ cn) : Met l yX6_rests (wm_ws yX6_rests cX6_rests 3 (some .int)) { frames := 4, cells := 0, slots := 0, locals := 95 } (va_Pc [.ref (b + 0), .int (nI k)] (wm_G D C b n E)) (va_Qi (pX6_rests C b E ts k c0 s0 e0 sc mc cn st en sp mk mt un g0 g) (fun E' t => wm_P D b n E' t.heap) (wm_A b)) 0 0 (wm_A b) := by
  refine wm_ofW (by decide) (Nat.le_of_ble_eq_true rfl) (fun p e s m below meth c ls R args Q hRe hQ X hr hnm hP hS hl => ?_)
  have hl : lv_has ls 3 [(0, .ref (b + 0)), (1, .int (nI k))] := hl
  have hfr : ∀ j, j ≠ 2 → j ≠ 3 → j ≠ 93 → j ≠ 94 → j ≠ 95 → j ≠ 96 → j ≠ 97 → E j = E j := fun _ _ _ _ _ _ _ _ => rfl
  refine lv_aload_n X.1 X.2.1 dX6_rests_0 rfl (lv_at hl 0 rfl) ?_
  refine lv_iload_n X.1 X.2.1 dX6_rests_1 rfl (lv_at hl 1 rfl) ?_
  refine wm_callVr (k := 1) (As := [.int (nI k)]) (rest := []) X hP hS hlt0 hE0 rfl (kX6_machineAt l D C b n E ts k hlt0 hE0 hlt1 hE1 (by omega)) wq2_88 wq2_90 wqP1_1 wq1_1 wq2_91 (by decide) (by rw [hRe]; exact ⟨Nat.le_of_ble_eq_true rfl, Nat.le_of_ble_eq_true rfl⟩) rfl hl.1 rfl (Nat.le_of_ble_eq_true rfl) (Nat.zero_le _) (Nat.zero_le _) dX6_rests_2 (fun E1 H locs hw hP hS => ?_)
  have hEe := hw
  subst hEe
  refine lv_astore_n (lv' := [(2, .ref (b + (103 + 2 * k))), (0, .ref (b + 0)), (1, .int (nI k))]) X.1 X.2.1 dX6_rests_5 rfl hl (by decide) rfl (fun ls hl => ?_)
  refine lv_aload_n X.1 X.2.1 dX6_rests_6 rfl (lv_at hl 0 rfl) ?_
  refine wm_callSv (k := 1) (As := [.ref (b + (103 + 2 * k))]) (rest := []) X hP hS  (kX6_checkFewStates l D C b n E (103 + 2 * k) (104 + 2 * k) cn st en hlt9 hE9 (by omega)) wq3_108 wq3_109 wq1_1 wq3_110 (by decide) (by rw [hRe]; exact ⟨Nat.le_of_ble_eq_true rfl, Nat.le_of_ble_eq_true rfl⟩) rfl hl.1 rfl (Nat.le_of_ble_eq_true rfl) (Nat.zero_le _) (Nat.zero_le _) dX6_rests_7 (fun E2 H locs hw hP hS => ?_)
  have hEe := hw
  subst hEe
  refine lv_aload_n X.1 X.2.1 dX6_rests_10 rfl (lv_at hl 1 rfl) ?_
  refine wm_get X hP hlt0 hE0 rfl wm_inX6 1 (by decide) wq1_208 rfl dX6_rests_11 ?_
  refine lv_aload_n X.1 X.2.1 dX6_rests_14 rfl (lv_at hl 0 rfl) ?_
  refine wm_callVv (k := 1) (As := [.ref (b + (103 + 2 * k))]) (rest := []) X hP hS hlt2 hE2 rfl (kX2_becomeTurned l D C b n E 2 3 c0 s0 e0 (103 + 2 * k) (104 + 2 * k) cn st en g0 g hlt2 hE2 hlt3 hE3 hlt9 hE9 hlt10 hE10 (by omega) (by omega) (by omega) (by omega) (by omega) (by omega) (fun a x h1 h2 => Nat.lt_of_lt_of_le (hg a x h1 h2) (Nat.pow_le_pow_right (by decide) (by omega)))) wq3_35 wq3_36 wq3_37 wq1_2 wq3_38 (by decide) (by rw [hRe]; exact ⟨Nat.le_of_ble_eq_true rfl, Nat.le_of_ble_eq_true rfl⟩) rfl hl.1 rfl (Nat.le_of_ble_eq_true rfl) (Nat.zero_le _) (Nat.zero_le _) dX6_rests_15 (fun E3 H locs hw hP hS => ?_)
  obtain ⟨g13, hE2, hE3, hq, hp3_0⟩ := hw
  have hE0 := (hq 0 (by decide) (by decide)).trans hE0
  have hE1 := (hq 1 (by decide) (by decide)).trans hE1
  have hE4 := (hq 93 (by decide) (by decide)).trans hE4
  have hE5 := (hq 94 (by decide) (by decide)).trans hE5
  have hE6 := (hq 95 (by decide) (by decide)).trans hE6
  have hE7 := (hq 96 (by decide) (by decide)).trans hE7
  have hE8 := (hq 97 (by decide) (by decide)).trans hE8
  have hE9 := (hq (103 + 2 * k) (by omega) (by omega)).trans hE9
  have hE10 := (hq (104 + 2 * k) (by omega) (by omega)).trans hE10
  have hfr : ∀ j, j ≠ 2 → j ≠ 3 → j ≠ 93 → j ≠ 94 → j ≠ 95 → j ≠ 96 → j ≠ 97 → E3 j = E j := fun j h0 h1 h2 h3 h4 h5 h6 => (hq j h0 h1).trans (hfr j h0 h1 h2 h3 h4 h5 h6)
  have hbt := hp3_0
  refine lv_aload_n X.1 X.2.1 dX6_rests_18 rfl (lv_at hl 1 rfl) ?_
  refine wm_get X hP hlt0 hE0 rfl wm_inX6 5 (by decide) wq1_212 rfl dX6_rests_19 ?_
  refine lv_aload_n X.1 X.2.1 dX6_rests_22 rfl (lv_at hl 0 rfl) ?_
  refine lv_aload_n X.1 X.2.1 dX6_rests_23 rfl (lv_at hl 1 rfl) ?_
  refine wm_get X hP hlt0 hE0 rfl wm_inX6 1 (by decide) wq1_208 rfl dX6_rests_24 ?_
  refine wm_callVi (k := 2) (As := [.ref (b + (103 + 2 * k)), .ref (b + 2)]) (rest := []) X hP hS hlt4 hE4 rfl (kX4_countRests l D C b n E3 sc mc (103 + 2 * k) (104 + 2 * k) cn st en 2 3 sp mk mt un g g13 hlt4 hE4 hlt5 hE5 hlt6 hE6 hlt7 hE7 hlt8 hE8 hlt9 hE9 hlt10 hE10 hlt2 hE2 hlt3 hE3 (by omega) (by omega) (by omega) (by omega) (by omega) (by omega) (by omega) hst hen hg (wm_bt_cn hbt (by omega))) wq5_1 wq5_2 wq5_3 wq1_6 wq5_4 (by decide) (by rw [hRe]; exact ⟨Nat.le_of_ble_eq_true rfl, Nat.le_of_ble_eq_true rfl⟩) rfl hl.1 rfl (Nat.le_of_ble_eq_true rfl) (Nat.zero_le _) (Nat.zero_le _) dX6_rests_27 (fun r4 E4 H locs hw hP hS => ?_)
  obtain ⟨sp14, mk14, mt14, un14, hrt, hE4, hE5, hE6, hE7, hE8, hq, hp4_0⟩ := hw
  subst hrt
  have hE0 := (hq 0 (by decide) (by decide) (by decide) (by decide) (by decide)).trans hE0
  have hE1 := (hq 1 (by decide) (by decide) (by decide) (by decide) (by decide)).trans hE1
  have hE2 := (hq 2 (by decide) (by decide) (by decide) (by decide) (by decide)).trans hE2
  have hE3 := (hq 3 (by decide) (by decide) (by decide) (by decide) (by decide)).trans hE3
  have hE9 := (hq (103 + 2 * k) (by omega) (by omega) (by omega) (by omega) (by omega)).trans hE9
  have hE10 := (hq (104 + 2 * k) (by omega) (by omega) (by omega) (by omega) (by omega)).trans hE10
  have hfr : ∀ j, j ≠ 2 → j ≠ 3 → j ≠ 93 → j ≠ 94 → j ≠ 95 → j ≠ 96 → j ≠ 97 → E4 j = E j := fun j h0 h1 h2 h3 h4 h5 h6 => (hq j h2 h3 h4 h5 h6).trans (hfr j h0 h1 h2 h3 h4 h5 h6)
  exact wm_iret (post := pX6_rests C b E ts k c0 s0 e0 sc mc cn st en sp mk mt un g0 g) X hr hP hS ⟨g13, sp14, mk14, mt14, un14, rfl, hE2, hE3, hE4, hE5, hE6, hE7, hE8, hfr, hbt, hp4_0⟩ hQ dX6_rests_30
