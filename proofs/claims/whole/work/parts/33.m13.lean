def pX6_machineAt (C : Nat → ClassId) (b : Nat) (E : Nat → va_E) (ts k : Nat) : (Nat → va_E) → Prop := fun E' => E = E'
set_option maxHeartbeats 4000000 in
set_option maxRecDepth 100000 in
theorem kX6_machineAt (l : Launch) (D : va_G) (C : Nat → ClassId) (b n : Nat) (E : Nat → va_E) (ts k : Nat) (hlt0 : 0 < n) (hE0 : E 0 = .inr (6, [.ref (b + 1), .ref (b + 2), .ref (b + 4), .int (nI ts), .ref (b + 5), .ref (b + 93), .ref (b + 100)])) (hlt1 : 1 < n) (hE1 : E 1 = wm_Q C 4 8 (fun x9 => some (b + (103 + 2 * x9)))) (hk : k < 8) : Met l yX6_machineAt (wm_ws yX6_machineAt cX6_machineAt 2 (some (.object "WordMachines$Machine"))) { frames := 0, cells := 0, slots := 0, locals := 0 } (va_Pc [.ref (b + 0), .int (nI k)] (wm_G D C b n E)) (va_Qr (pX6_machineAt C b E ts k) (fun E' a t => a = b + (103 + 2 * k) ∧ wm_P D b n E' t.heap) (wm_A b)) 0 0 (wm_A b) := by
  refine wm_ofW (by decide) (Nat.le_of_ble_eq_true rfl) (fun p e s m below meth c ls R args Q hRe hQ X hr hnm hP hS hl => ?_)
  have hl : lv_has ls 2 [(0, .ref (b + 0)), (1, .int (nI k))] := hl
  refine lv_iload_n X.1 X.2.1 dX6_machineAt_0 rfl (lv_at hl 1 rfl) ?_
  refine wm_if_lt (x := k) (tgt := 10) X (by omega) dX6_machineAt_1 (by decide) ?_
  refine lv_iload_n X.1 X.2.1 dX6_machineAt_4 rfl (lv_at hl 1 rfl) ?_
  refine lv_bipush (v := nI 8) X.1 X.2.1 dX6_machineAt_5 (by decide) ?_
  refine wm_icmp_lt (x := k) (y := 8) (tgt := 20) X (by omega) (by decide) dX6_machineAt_7 (by decide) (fun hc7 => ?_) (fun hc7 => ?_)
  · refine lv_aload_n X.1 X.2.1 dX6_machineAt_20 rfl (lv_at hl 0 rfl) ?_
    refine wm_get X hP hlt0 hE0 rfl wm_inX6 0 (by decide) wq1_207 rfl dX6_machineAt_21 ?_
    refine lv_iload_n X.1 X.2.1 dX6_machineAt_24 rfl (lv_at hl 1 rfl) ?_
    refine wm_aald (i := k) (q := b + (103 + 2 * k)) X hP hlt1 hE1 rfl (by omega) (by decide) rfl dX6_machineAt_25 ?_
    exact wm_aret (q := (103 + 2 * k)) (post := pX6_machineAt C b E ts k) X hr hP hS rfl hQ dX6_machineAt_26
  · exact absurd hc7 (by omega)
set_option maxHeartbeats 4000000 in
set_option maxRecDepth 100000 in
theorem kmachineAtX (l : Launch) (hst : l.stackTraces = false) (D : va_G) (C : Nat → ClassId) (b n : Nat) (E : Nat → va_E) (x : Int32) (hk : ¬ (0 ≤ x ∧ x < nI 8)) : vx_Met l yX6_machineAt (wm_ws yX6_machineAt cX6_machineAt 2 (some (.object "WordMachines$Machine"))) { frames := 6, cells := 1, slots := 6, locals := 82 } (va_Pc [.ref (b + 0), .int x] (wm_GX D C b n E)) wm_no (wm_XC D b n E wm_iob) 1 6 (wm_A b) := by
  refine wm_ofX (by decide) (Nat.le_of_ble_eq_true rfl) (fun p e s m below meth c ls R args Q hRe hQ X hxt hV hP hS hl => ?_)
  have hl : lv_has ls 2 [(0, .ref (b + 0)), (1, .int x)] := hl
  refine lv_iload_n X.1 X.2.1 dX6_machineAt_0 rfl (lv_at hl 1 rfl) ?_
  refine lv_if_lt (tgt := 10) X.1 X.2.1 dX6_machineAt_1 (by decide) (fun hc1 => ?_) (fun hc1 => ?_)
  · exact wm_thrO (i := 170) hst X hxt hV hP hS (by simp [wm_strs]; rfl) hl.1 (by rw [hRe]; exact ⟨Nat.le_of_ble_eq_true rfl, Nat.le_of_ble_eq_true rfl, Nat.le_of_ble_eq_true rfl, Nat.le_of_ble_eq_true rfl⟩) dX6_machineAt_10 dX6_machineAt_13 dX6_machineAt_14 dX6_machineAt_16 dX6_machineAt_19 hQ
  · refine lv_iload_n X.1 X.2.1 dX6_machineAt_4 rfl (lv_at hl 1 rfl) ?_
    refine lv_bipush (v := nI 8) X.1 X.2.1 dX6_machineAt_5 (by decide) ?_
    refine lv_icmp_lt (tgt := 20) X.1 X.2.1 dX6_machineAt_7 (by decide) (fun hc7 => ?_) (fun hc7 => ?_)
    · exact absurd hc7 (fun q => hk ⟨Int32.not_lt.mp hc1, q⟩)
    · exact wm_thrO (i := 170) hst X hxt hV hP hS (by simp [wm_strs]; rfl) hl.1 (by rw [hRe]; exact ⟨Nat.le_of_ble_eq_true rfl, Nat.le_of_ble_eq_true rfl, Nat.le_of_ble_eq_true rfl, Nat.le_of_ble_eq_true rfl⟩) dX6_machineAt_10 dX6_machineAt_13 dX6_machineAt_14 dX6_machineAt_16 dX6_machineAt_19 hQ
def pX6_checkState (C : Nat → ClassId) (b : Nat) (E : Nat → va_E) (t tg cn st en sv : Nat) : (Nat → va_E) → Prop := fun E' => E = E'
set_option maxHeartbeats 4000000 in
set_option maxRecDepth 100000 in
theorem kX6_checkState (l : Launch) (D : va_G) (C : Nat → ClassId) (b n : Nat) (E : Nat → va_E) (t tg cn st en sv : Nat) (hlt0 : t < n) (hE0 : E t = .inr (2, [.ref (b + tg), .int (nI cn), .int (nI st), .int (nI en)])) (hs : sv < cn) (hc : cn ≤ 24) : Met l yX6_checkState (wm_ws yX6_checkState cX6_checkState 2 none) { frames := 0, cells := 0, slots := 0, locals := 0 } (va_Pc [.ref (b + t), .int (nI sv)] (wm_G D C b n E)) (va_Qv (pX6_checkState C b E t tg cn st en sv) (fun E' t => wm_P D b n E' t.heap) (wm_A b)) 0 0 (wm_A b) := by
  refine wm_ofW (by decide) (Nat.le_of_ble_eq_true rfl) (fun p e s m below meth c ls R args Q hRe hQ X hr hnm hP hS hl => ?_)
  have hl : lv_has ls 2 [(0, .ref (b + t)), (1, .int (nI sv))] := hl
  refine lv_iload_n X.1 X.2.1 dX6_checkState_0 rfl (lv_at hl 1 rfl) ?_
  refine wm_if_lt (x := sv) (tgt := 12) X (by omega) dX6_checkState_1 (by decide) ?_
  refine lv_iload_n X.1 X.2.1 dX6_checkState_4 rfl (lv_at hl 1 rfl) ?_
  refine lv_aload_n X.1 X.2.1 dX6_checkState_5 rfl (lv_at hl 0 rfl) ?_
  refine wm_get X hP hlt0 hE0 rfl wm_inX2 1 (by decide) wq1_44 rfl dX6_checkState_6 ?_
  refine wm_icmp_lt (x := sv) (y := cn) (tgt := 22) X (by omega) (by omega) dX6_checkState_9 (by decide) (fun hc9 => ?_) (fun hc9 => ?_)
  · exact wm_vret (post := pX6_checkState C b E t tg cn st en sv) X hr hP hS rfl hQ dX6_checkState_22
  · exact absurd hc9 (by omega)
set_option maxHeartbeats 4000000 in
set_option maxRecDepth 100000 in
theorem kcheckStateX (l : Launch) (hst : l.stackTraces = false) (D : va_G) (C : Nat → ClassId) (b n : Nat) (E : Nat → va_E) (t tg cn st en : Nat) (x : Int32) (hlt0 : t < n) (hE0 : E t = .inr (2, [.ref (b + tg), .int (nI cn), .int (nI st), .int (nI en)])) (hk : ¬ (0 ≤ x ∧ x < nI cn)) : vx_Met l yX6_checkState (wm_ws yX6_checkState cX6_checkState 2 none) { frames := 6, cells := 1, slots := 6, locals := 82 } (va_Pc [.ref (b + t), .int x] (wm_GX D C b n E)) wm_no (wm_XC D b n E wm_iob) 1 6 (wm_A b) := by
  refine wm_ofX (by decide) (Nat.le_of_ble_eq_true rfl) (fun p e s m below meth c ls R args Q hRe hQ X hxt hV hP hS hl => ?_)
  have hl : lv_has ls 2 [(0, .ref (b + t)), (1, .int x)] := hl
  refine lv_iload_n X.1 X.2.1 dX6_checkState_0 rfl (lv_at hl 1 rfl) ?_
  refine lv_if_lt (tgt := 12) X.1 X.2.1 dX6_checkState_1 (by decide) (fun hc1 => ?_) (fun hc1 => ?_)
  · exact wm_thrO (i := 172) hst X hxt hV hP hS (by simp [wm_strs]; rfl) hl.1 (by rw [hRe]; exact ⟨Nat.le_of_ble_eq_true rfl, Nat.le_of_ble_eq_true rfl, Nat.le_of_ble_eq_true rfl, Nat.le_of_ble_eq_true rfl⟩) dX6_checkState_12 dX6_checkState_15 dX6_checkState_16 dX6_checkState_18 dX6_checkState_21 hQ
  · refine lv_iload_n X.1 X.2.1 dX6_checkState_4 rfl (lv_at hl 1 rfl) ?_
    refine lv_aload_n X.1 X.2.1 dX6_checkState_5 rfl (lv_at hl 0 rfl) ?_
    refine wm_get X hP hlt0 hE0 rfl wm_inX2 1 (by decide) wq1_44 rfl dX6_checkState_6 ?_
    refine lv_icmp_lt (tgt := 22) X.1 X.2.1 dX6_checkState_9 (by decide) (fun hc9 => ?_) (fun hc9 => ?_)
    · exact absurd hc9 (fun q => hk ⟨Int32.not_lt.mp hc1, q⟩)
    · exact wm_thrO (i := 172) hst X hxt hV hP hS (by simp [wm_strs]; rfl) hl.1 (by rw [hRe]; exact ⟨Nat.le_of_ble_eq_true rfl, Nat.le_of_ble_eq_true rfl, Nat.le_of_ble_eq_true rfl, Nat.le_of_ble_eq_true rfl⟩) dX6_checkState_12 dX6_checkState_15 dX6_checkState_16 dX6_checkState_18 dX6_checkState_21 hQ
def pX6_checkFewStates (C : Nat → ClassId) (b : Nat) (E : Nat → va_E) (t tg cn st en : Nat) : (Nat → va_E) → Prop := fun E' => E = E'
set_option maxHeartbeats 4000000 in
set_option maxRecDepth 100000 in
theorem kX6_checkFewStates (l : Launch) (D : va_G) (C : Nat → ClassId) (b n : Nat) (E : Nat → va_E) (t tg cn st en : Nat) (hlt0 : t < n) (hE0 : E t = .inr (2, [.ref (b + tg), .int (nI cn), .int (nI st), .int (nI en)])) (hc : cn ≤ 11) : Met l yX6_checkFewStates (wm_ws yX6_checkFewStates cX6_checkFewStates 1 none) { frames := 0, cells := 0, slots := 0, locals := 0 } (va_Pc [.ref (b + t)] (wm_G D C b n E)) (va_Qv (pX6_checkFewStates C b E t tg cn st en) (fun E' t => wm_P D b n E' t.heap) (wm_A b)) 0 0 (wm_A b) := by
  refine wm_ofW (by decide) (Nat.le_of_ble_eq_true rfl) (fun p e s m below meth c ls R args Q hRe hQ X hr hnm hP hS hl => ?_)
  have hl : lv_has ls 1 [(0, .ref (b + t))] := hl
  refine lv_aload_n X.1 X.2.1 dX6_checkFewStates_0 rfl (lv_at hl 0 rfl) ?_
  refine wm_get X hP hlt0 hE0 rfl wm_inX2 1 (by decide) wq1_44 rfl dX6_checkFewStates_1 ?_
  refine lv_bipush (v := nI 11) X.1 X.2.1 dX6_checkFewStates_4 (by decide) ?_
  refine wm_icmp_le (x := cn) (y := 11) (tgt := 19) X (by omega) (by decide) dX6_checkFewStates_6 (by decide) (fun hc6 => ?_) (fun hc6 => ?_)
  · exact wm_vret (post := pX6_checkFewStates C b E t tg cn st en) X hr hP hS rfl hQ dX6_checkFewStates_19
  · exact absurd hc6 (by omega)
set_option maxHeartbeats 4000000 in
set_option maxRecDepth 100000 in
theorem kcheckFewX (l : Launch) (hst : l.stackTraces = false) (D : va_G) (C : Nat → ClassId) (b n : Nat) (E : Nat → va_E) (t tg cn st en : Nat) (hlt0 : t < n) (hE0 : E t = .inr (2, [.ref (b + tg), .int (nI cn), .int (nI st), .int (nI en)])) (hc : 11 < cn) (hc2 : cn ≤ 24) : vx_Met l yX6_checkFewStates (wm_ws yX6_checkFewStates cX6_checkFewStates 1 none) { frames := 6, cells := 1, slots := 6, locals := 82 } (va_Pc [.ref (b + t)] (wm_GX D C b n E)) wm_no (wm_XC D b n E wm_iae) 1 6 (wm_A b) := by
  refine wm_ofX (by decide) (Nat.le_of_ble_eq_true rfl) (fun p e s m below meth c ls R args Q hRe hQ X hxt hV hP hS hl => ?_)
  have hl : lv_has ls 1 [(0, .ref (b + t))] := hl
  refine lv_aload_n X.1 X.2.1 dX6_checkFewStates_0 rfl (lv_at hl 0 rfl) ?_
  refine wm_get X hP hlt0 hE0 rfl wm_inX2 1 (by decide) wq1_44 rfl dX6_checkFewStates_1 ?_
  refine lv_bipush (v := nI 11) X.1 X.2.1 dX6_checkFewStates_4 (by decide) ?_
  refine wm_icmp_le (x := cn) (y := 11) (tgt := 19) X (by omega) (by decide) dX6_checkFewStates_6 (by decide) (fun hc6 => ?_) (fun hc6 => ?_)
  · exact absurd hc6 (by omega)
  · exact wm_thrA (i := 174) hst X hxt hV hP hS (by simp [wm_strs]; rfl) hl.1 (by rw [hRe]; exact ⟨Nat.le_of_ble_eq_true rfl, Nat.le_of_ble_eq_true rfl, Nat.le_of_ble_eq_true rfl, Nat.le_of_ble_eq_true rfl⟩) dX6_checkFewStates_9 dX6_checkFewStates_12 dX6_checkFewStates_13 dX6_checkFewStates_15 dX6_checkFewStates_18 hQ
set_option maxHeartbeats 4000000 in
set_option maxRecDepth 100000 in
theorem kfeedX (l : Launch) (hst : l.stackTraces = false) (D : va_G) (C : Nat → ClassId) (b n : Nat) (E : Nat → va_E) (ts : Nat) (x : Int32) (v : Nat) (hk : ¬ (nI 1 ≤ x ∧ x ≤ nI 8)) : vx_Met l yX6_feed (wm_ws yX6_feed cX6_feed 5 (some .int)) { frames := 6, cells := 1, slots := 6, locals := 82 } (va_Pc [.ref (b + 0), .int x, .long (lN v)] (wm_GX D C b n E)) wm_no (wm_XC D b n E wm_iae) 1 6 (wm_A b) := by
  refine wm_ofX (by decide) (Nat.le_of_ble_eq_true rfl) (fun p e s m below meth c ls R args Q hRe hQ X hxt hV hP hS hl => ?_)
  have hl : lv_has ls 5 [(0, .ref (b + 0)), (1, .int x), (2, .long (lN v))] := hl
  refine lv_iload_n X.1 X.2.1 dX6_feed_0 rfl (lv_at hl 1 rfl) ?_
  refine lv_iconst (v := nI 1) X.1 X.2.1 dX6_feed_1 (by decide) ?_
  refine lv_icmp_lt (tgt := 11) X.1 X.2.1 dX6_feed_2 (by decide) (fun hc2 => ?_) (fun hc2 => ?_)
  · exact wm_thrA (i := 51) hst X hxt hV hP hS (by simp [wm_strs]; rfl) hl.1 (by rw [hRe]; exact ⟨Nat.le_of_ble_eq_true rfl, Nat.le_of_ble_eq_true rfl, Nat.le_of_ble_eq_true rfl, Nat.le_of_ble_eq_true rfl⟩) dX6_feed_11 dX6_feed_14 dX6_feed_15 dX6_feed_17 dX6_feed_20 hQ
  · refine lv_iload_n X.1 X.2.1 dX6_feed_5 rfl (lv_at hl 1 rfl) ?_
    refine lv_bipush (v := nI 8) X.1 X.2.1 dX6_feed_6 (by decide) ?_
    refine lv_icmp_le (tgt := 21) X.1 X.2.1 dX6_feed_8 (by decide) (fun hc8 => ?_) (fun hc8 => ?_)
    · exact absurd hc8 (fun q => hk ⟨Int32.not_lt.mp hc2, q⟩)
    · exact wm_thrA (i := 51) hst X hxt hV hP hS (by simp [wm_strs]; rfl) hl.1 (by rw [hRe]; exact ⟨Nat.le_of_ble_eq_true rfl, Nat.le_of_ble_eq_true rfl, Nat.le_of_ble_eq_true rfl, Nat.le_of_ble_eq_true rfl⟩) dX6_feed_11 dX6_feed_14 dX6_feed_15 dX6_feed_17 dX6_feed_20 hQ
def pfeed0 (C : Nat → ClassId) (b : Nat) (E : Nat → va_E) (ts k v : Nat) : Int32 → (Nat → va_E) → Prop := fun r E' => r = nI 4294967295 ∧ E = E'
set_option maxHeartbeats 4000000 in
set_option maxRecDepth 100000 in
theorem kfeed0 (l : Launch) (D : va_G) (C : Nat → ClassId) (b n : Nat) (E : Nat → va_E) (ts k v : Nat) (hlt0 : 0 < n) (hE0 : E 0 = .inr (6, [.ref (b + 1), .ref (b + 2), .ref (b + 4), .int (nI ts), .ref (b + 5), .ref (b + 93), .ref (b + 100)])) (hk : 1 ≤ k ∧ k ≤ 8) (hts : ts ≤ 200) (ho : 200 < ts + k) : Met l yX6_feed (wm_ws yX6_feed cX6_feed 5 (some .int)) { frames := 0, cells := 0, slots := 0, locals := 0 } (va_Pc [.ref (b + 0), .int (nI k), .long (lN v)] (wm_G D C b n E)) (va_Qi (pfeed0 C b E ts k v) (fun E' t => wm_P D b n E' t.heap) (wm_A b)) 0 0 (wm_A b) := by
  refine wm_ofW (by decide) (Nat.le_of_ble_eq_true rfl) (fun p e s m below meth c ls R args Q hRe hQ X hr hnm hP hS hl => ?_)
  have hl : lv_has ls 5 [(0, .ref (b + 0)), (1, .int (nI k)), (2, .long (lN v))] := hl
  refine lv_iload_n X.1 X.2.1 dX6_feed_0 rfl (lv_at hl 1 rfl) ?_
  refine lv_iconst (v := nI 1) X.1 X.2.1 dX6_feed_1 (by decide) ?_
  refine wm_icmp_lt (x := k) (y := 1) (tgt := 11) X (by omega) (by decide) dX6_feed_2 (by decide) (fun hc2 => ?_) (fun hc2 => ?_)
  · exact absurd hc2 (by omega)
  · refine lv_iload_n X.1 X.2.1 dX6_feed_5 rfl (lv_at hl 1 rfl) ?_
    refine lv_bipush (v := nI 8) X.1 X.2.1 dX6_feed_6 (by decide) ?_
    refine wm_icmp_le (x := k) (y := 8) (tgt := 21) X (by omega) (by decide) dX6_feed_8 (by decide) (fun hc8 => ?_) (fun hc8 => ?_)
    · refine lv_aload_n X.1 X.2.1 dX6_feed_21 rfl (lv_at hl 0 rfl) ?_
      refine wm_get X hP hlt0 hE0 rfl wm_inX6 3 (by decide) wq1_210 rfl dX6_feed_22 ?_
      refine lv_iload_n X.1 X.2.1 dX6_feed_25 rfl (lv_at hl 1 rfl) ?_
      refine wm_iadd (x := ts) (y := k) X dX6_feed_26 ?_
      refine lv_sipush (v := nI 200) X.1 X.2.1 dX6_feed_27 (by decide) ?_
      refine wm_icmp_le (x := (ts + k)) (y := 200) (tgt := 35) X (by omega) (by decide) dX6_feed_30 (by decide) (fun hc30 => ?_) (fun hc30 => ?_)
      · exact absurd hc30 (by omega)
      · refine lv_iconst (v := nI 4294967295) X.1 X.2.1 dX6_feed_33 (by decide) ?_
        exact wm_iret (post := pfeed0 C b E ts k v) X hr hP hS ⟨rfl, rfl⟩ hQ dX6_feed_34
    · exact absurd hc8 (by omega)
def pfeed1 (C : Nat → ClassId) (b : Nat) (E : Nat → va_E) (ts k v : Nat) (tx : Nat → Nat) : Int32 → (Nat → va_E) → Prop := fun r E' => r = nI (ts + k) ∧ E' 0 = .inr (6, [.ref (b + 1), .ref (b + 2), .ref (b + 4), .int (nI (ts + k)), .ref (b + 5), .ref (b + 93), .ref (b + 100)]) ∧ E' 4 = wm_B C 200 (fun j => wm_sb ((fun j => if ts ≤ j ∧ j < ts + k then v >>> (8 * (j - ts)) % 256 else tx j) j)) ∧ (∀ j, j ≠ 0 → j ≠ 4 → E' j = E j)
set_option maxHeartbeats 4000000 in
set_option maxRecDepth 100000 in
theorem kfeed1 (l : Launch) (D : va_G) (C : Nat → ClassId) (b n : Nat) (E : Nat → va_E) (ts k v : Nat) (tx : Nat → Nat) (hlt0 : 0 < n) (hE0 : E 0 = .inr (6, [.ref (b + 1), .ref (b + 2), .ref (b + 4), .int (nI ts), .ref (b + 5), .ref (b + 93), .ref (b + 100)])) (hlt1 : 4 < n) (hE1 : E 4 = wm_B C 200 (fun j => wm_sb (tx j))) (hk : 1 ≤ k ∧ k ≤ 8) (ho : ts + k ≤ 200) (hv : v < 2 ^ 64) : Met l yX6_feed (wm_ws yX6_feed cX6_feed 5 (some .int)) { frames := 0, cells := 0, slots := 0, locals := 0 } (va_Pc [.ref (b + 0), .int (nI k), .long (lN v)] (wm_G D C b n E)) (va_Qi (pfeed1 C b E ts k v tx) (fun E' t => wm_P D b n E' t.heap) (wm_A b)) 0 0 (wm_A b) := by
  refine wm_ofW (by decide) (Nat.le_of_ble_eq_true rfl) (fun p e s m below meth c ls R args Q hRe hQ X hr hnm hP hS hl => ?_)
  have hl : lv_has ls 5 [(0, .ref (b + 0)), (1, .int (nI k)), (2, .long (lN v))] := hl
  have hfr : ∀ j, j ≠ 0 → j ≠ 4 → E j = E j := fun _ _ _ => rfl
  refine lv_iload_n X.1 X.2.1 dX6_feed_0 rfl (lv_at hl 1 rfl) ?_
  refine lv_iconst (v := nI 1) X.1 X.2.1 dX6_feed_1 (by decide) ?_
  refine wm_icmp_lt (x := k) (y := 1) (tgt := 11) X (by omega) (by decide) dX6_feed_2 (by decide) (fun hc2 => ?_) (fun hc2 => ?_)
  · exact absurd hc2 (by omega)
  · refine lv_iload_n X.1 X.2.1 dX6_feed_5 rfl (lv_at hl 1 rfl) ?_
    refine lv_bipush (v := nI 8) X.1 X.2.1 dX6_feed_6 (by decide) ?_
    refine wm_icmp_le (x := k) (y := 8) (tgt := 21) X (by omega) (by decide) dX6_feed_8 (by decide) (fun hc8 => ?_) (fun hc8 => ?_)
    · refine lv_aload_n X.1 X.2.1 dX6_feed_21 rfl (lv_at hl 0 rfl) ?_
      refine wm_get X hP hlt0 hE0 rfl wm_inX6 3 (by decide) wq1_210 rfl dX6_feed_22 ?_
      refine lv_iload_n X.1 X.2.1 dX6_feed_25 rfl (lv_at hl 1 rfl) ?_
      refine wm_iadd (x := ts) (y := k) X dX6_feed_26 ?_
      refine lv_sipush (v := nI 200) X.1 X.2.1 dX6_feed_27 (by decide) ?_
      refine wm_icmp_le (x := (ts + k)) (y := 200) (tgt := 35) X (by omega) (by decide) dX6_feed_30 (by decide) (fun hc30 => ?_) (fun hc30 => ?_)
      · refine lv_iconst (v := nI 0) X.1 X.2.1 dX6_feed_35 (by decide) ?_
        refine lv_istore (lv' := [(4, .int (nI 0)), (0, .ref (b + 0)), (1, .int (nI k)), (2, .long (lN v))]) X.1 X.2.1 dX6_feed_36 hl (by decide) rfl (fun ls hl => ?_)
        have L38 : ∀ (fu : Nat) (i : Nat) (tx1 : Nat → Nat), 8 - i < fu → (i ≤ k) → (tx1 = fun j => if ts ≤ j ∧ j < ts + i then v >>> (8 * (j - ts)) % 256 else tx j) → ∀ (E4 : Nat → va_E) (H : Heap) (locs : List Loc) (ls : Array Slot), wm_P D b n E4 H → wm_S b s.heap H locs → E4 0 = .inr (6, [.ref (b + 1), .ref (b + 2), .ref (b + 4), .int (nI ts), .ref (b + 5), .ref (b + 93), .ref (b + 100)]) → E4 4 = wm_B C 200 (fun j => wm_sb (tx1 j)) → (∀ j, j ≠ 0 → j ≠ 4 → E4 j = E j) → lv_has ls 5 [(0, .ref (b + 0)), (1, .int (nI k)), (2, .long (lN v)), (4, .int (nI i))] → W p l e R s m args below meth c H locs 0 0 Q (F0 m 38 ls []) := by
          intro fu
          induction fu with
          | zero => intro i tx1 hm; exact absurd hm (Nat.not_lt_zero _)
          | succ fu ih38 =>
            intro i tx1 hm hi h1 E4 H locs ls hP hS hE0 hE1 hfr hl
            refine lv_iload X.1 X.2.1 dX6_feed_38 (lv_at hl 3 rfl) ?_
            refine lv_iload_n X.1 X.2.1 dX6_feed_40 rfl (lv_at hl 1 rfl) ?_
            refine wm_icmp_ge (x := i) (y := k) (tgt := 71) X (by omega) (by omega) dX6_feed_41 (by decide) (fun hc41 => ?_) (fun hc41 => ?_)
            · refine lv_aload_n X.1 X.2.1 dX6_feed_71 rfl (lv_at hl 0 rfl) ?_
              refine lv_dup X.1 X.2.1 dX6_feed_72 rfl ?_
              refine wm_get X hP hlt0 hE0 rfl wm_inX6 3 (by decide) wq1_210 rfl dX6_feed_73 ?_
              refine lv_iload_n X.1 X.2.1 dX6_feed_76 rfl (lv_at hl 1 rfl) ?_
              refine wm_iadd (x := ts) (y := k) X dX6_feed_77 ?_
              refine wm_put (v := .int (nI (ts + k))) X hP hS hlt0 hE0 rfl wm_inX6 tyX6 tyX6_ok nmX6 3 (by decide) wq1_210 rfl rfl rfl (fs1 := [.ref (b + 1), .ref (b + 2), .ref (b + 4), .int (nI (ts + k)), .ref (b + 5), .ref (b + 93), .ref (b + 100)]) rfl (Nat.le_of_ble_eq_true rfl) dX6_feed_78 (fun H locs E6 hP hS hE0 hq => ?_)
              have hE1 := (hq 4 (by decide)).trans hE1
              have hfr : ∀ j, j ≠ 0 → j ≠ 4 → E6 j = E j := fun j h0 h1 => (hq j h0).trans (hfr j h0 h1)
              refine lv_aload_n X.1 X.2.1 dX6_feed_81 rfl (lv_at hl 0 rfl) ?_
              refine wm_get X hP hlt0 hE0 rfl wm_inX6 3 (by decide) wq1_210 rfl dX6_feed_82 ?_
              have hik : i = k := by omega
              exact wm_iret (post := pfeed1 C b E ts k v tx) X hr hP hS ⟨rfl, hE0, (by rw [h1, hik] at hE1; exact hE1), hfr⟩ hQ dX6_feed_85
            · refine lv_aload_n X.1 X.2.1 dX6_feed_44 rfl (lv_at hl 0 rfl) ?_
              refine wm_get X hP hlt0 hE0 rfl wm_inX6 2 (by decide) wq1_209 rfl dX6_feed_45 ?_
              refine lv_aload_n X.1 X.2.1 dX6_feed_48 rfl (lv_at hl 0 rfl) ?_
              refine wm_get X hP hlt0 hE0 rfl wm_inX6 3 (by decide) wq1_210 rfl dX6_feed_49 ?_
              refine lv_iload X.1 X.2.1 dX6_feed_52 (lv_at hl 3 rfl) ?_
              refine wm_iadd (x := ts) (y := i) X dX6_feed_54 ?_
              refine lv_lload_n X.1 X.2.1 dX6_feed_55 rfl (lv_at hl 2 rfl) ?_
              refine lv_bipush (v := nI 8) X.1 X.2.1 dX6_feed_56 (by decide) ?_
              refine lv_iload X.1 X.2.1 dX6_feed_58 (lv_at hl 3 rfl) ?_
              refine wm_imul (x := 8) (y := i) X dX6_feed_60 ?_
              refine wm_lushr (x := v) (y := (8 * i)) X hv (by omega) dX6_feed_61 ?_
              refine wm_l2i (x := (v >>> (8 * i))) X dX6_feed_62 ?_
              refine lv_i2b (v := wm_sb (v >>> (8 * i))) X.1 X.2.1 dX6_feed_63 rfl ?_
              refine wm_bast (i := ts + i) (x := wm_sb (v >>> (8 * i))) X hP hS hlt1 hE1 (by omega) (by decide) dX6_feed_64 (fun H locs E7 hP hS hE1 hq => ?_)
              rw [wm_bput] at hE1
              have hE0 := (hq 0 (by decide)).trans hE0
              have hfr : ∀ j, j ≠ 0 → j ≠ 4 → E7 j = E j := fun j h0 h1 => (hq j h1).trans (hfr j h0 h1)
              refine lv_iinc (v := nI (i + 1)) (lv' := [(4, .int (nI (i + 1))), (0, .ref (b + 0)), (1, .int (nI k)), (2, .long (lN v))]) X.1 X.2.1 dX6_feed_65 hl (k := 3) rfl (wm_inc i) (by decide) rfl (fun ls hl => ?_)
              refine lv_goto (tgt := 38) X.1 X.2.1 dX6_feed_68 (by decide) ?_
              exact ih38 (i + 1) (va_up tx1 (ts + i) (v >>> (8 * i) % 256)) (by omega) (by omega) (wm_ftx h1) E7 _ _ _ hP hS hE0 hE1 hfr (lv_sub hl [1, 2, 3, 0] rfl)
        exact L38 (8 - 0 + 1) 0 tx (Nat.lt_succ_self _) (by omega) (funext fun j => (if_neg (by omega)).symm) E _ _ _ hP hS hE0 hE1 hfr (lv_sub hl [1, 2, 3, 0] rfl)
      · exact absurd hc30 (by omega)
    · exact absurd hc8 (by omega)
def pX6_wipe (C : Nat → ClassId) (b : Nat) (E : Nat → va_E) (ts : Nat) : Int32 → (Nat → va_E) → Prop := fun r E' => r = nI ts ∧ E' 0 = .inr (6, [.ref (b + 1), .ref (b + 2), .ref (b + 4), .int (nI 0), .ref (b + 5), .ref (b + 93), .ref (b + 100)]) ∧ (∀ j, j ≠ 0 → E' j = E j)
set_option maxHeartbeats 4000000 in
set_option maxRecDepth 100000 in
theorem kX6_wipe (l : Launch) (D : va_G) (C : Nat → ClassId) (b n : Nat) (E : Nat → va_E) (ts : Nat) (hlt0 : 0 < n) (hE0 : E 0 = .inr (6, [.ref (b + 1), .ref (b + 2), .ref (b + 4), .int (nI ts), .ref (b + 5), .ref (b + 93), .ref (b + 100)])) : Met l yX6_wipe (wm_ws yX6_wipe cX6_wipe 2 (some .int)) { frames := 0, cells := 0, slots := 0, locals := 0 } (va_Pc [.ref (b + 0)] (wm_G D C b n E)) (va_Qi (pX6_wipe C b E ts) (fun E' t => wm_P D b n E' t.heap) (wm_A b)) 0 0 (wm_A b) := by
  refine wm_ofW (by decide) (Nat.le_of_ble_eq_true rfl) (fun p e s m below meth c ls R args Q hRe hQ X hr hnm hP hS hl => ?_)
  have hl : lv_has ls 2 [(0, .ref (b + 0))] := hl
  have hfr : ∀ j, j ≠ 0 → E j = E j := fun _ _ => rfl
  refine lv_aload_n X.1 X.2.1 dX6_wipe_0 rfl (lv_at hl 0 rfl) ?_
  refine wm_get X hP hlt0 hE0 rfl wm_inX6 3 (by decide) wq1_210 rfl dX6_wipe_1 ?_
  refine lv_istore_n (lv' := [(1, .int (nI ts)), (0, .ref (b + 0))]) X.1 X.2.1 dX6_wipe_4 rfl hl (by decide) rfl (fun ls hl => ?_)
  refine lv_aload_n X.1 X.2.1 dX6_wipe_5 rfl (lv_at hl 1 rfl) ?_
  refine lv_iconst (v := nI 0) X.1 X.2.1 dX6_wipe_6 (by decide) ?_
  refine wm_put (v := .int (nI 0)) X hP hS hlt0 hE0 rfl wm_inX6 tyX6 tyX6_ok nmX6 3 (by decide) wq1_210 rfl rfl rfl (fs1 := [.ref (b + 1), .ref (b + 2), .ref (b + 4), .int (nI 0), .ref (b + 5), .ref (b + 93), .ref (b + 100)]) rfl (Nat.le_of_ble_eq_true rfl) dX6_wipe_7 (fun H locs E1 hP hS hE0 hq => ?_)
  have hfr : ∀ j, j ≠ 0 → E1 j = E j := fun j h0 => (hq j h0).trans (hfr j h0)
  refine lv_iload_n X.1 X.2.1 dX6_wipe_10 rfl (lv_at hl 0 rfl) ?_
  exact wm_iret (post := pX6_wipe C b E ts) X hr hP hS ⟨rfl, hE0, hfr⟩ hQ dX6_wipe_11
def pX6_fault (C : Nat → ClassId) (b : Nat) (E : Nat → va_E) (ts fk fp op cn md rs : Nat) (nt : Bool) : Int32 → (Nat → va_E) → Prop := fun r E' => r = nI fk ∧ E = E'
set_option maxHeartbeats 4000000 in
set_option maxRecDepth 100000 in
theorem kX6_fault (l : Launch) (D : va_G) (C : Nat → ClassId) (b n : Nat) (E : Nat → va_E) (ts fk fp op cn md rs : Nat) (nt : Bool) (hlt0 : 0 < n) (hE0 : E 0 = .inr (6, [.ref (b + 1), .ref (b + 2), .ref (b + 4), .int (nI ts), .ref (b + 5), .ref (b + 93), .ref (b + 100)])) (hlt1 : 5 < n) (hE1 : E 5 = .inr (0, [.int (nI fk), .int (nI fp), .ref (b + 6), .ref (b + 7), .ref (b + 8), .int (nI op), .int (nI cn), .int (nI md), .int (nI nt.toNat), .int (nI rs)])) : Met l yX6_fault (wm_ws yX6_fault cX6_fault 1 (some .int)) { frames := 0, cells := 0, slots := 0, locals := 0 } (va_Pc [.ref (b + 0)] (wm_G D C b n E)) (va_Qi (pX6_fault C b E ts fk fp op cn md rs nt) (fun E' t => wm_P D b n E' t.heap) (wm_A b)) 0 0 (wm_A b) := by
  refine wm_ofW (by decide) (Nat.le_of_ble_eq_true rfl) (fun p e s m below meth c ls R args Q hRe hQ X hr hnm hP hS hl => ?_)
  have hl : lv_has ls 1 [(0, .ref (b + 0))] := hl
  refine lv_aload_n X.1 X.2.1 dX6_fault_0 rfl (lv_at hl 0 rfl) ?_
  refine wm_get X hP hlt0 hE0 rfl wm_inX6 4 (by decide) wq1_211 rfl dX6_fault_1 ?_
  refine wm_get X hP hlt1 hE1 rfl wm_inX0 0 (by decide) wq1_116 rfl dX6_fault_4 ?_
  exact wm_iret (post := pX6_fault C b E ts fk fp op cn md rs nt) X hr hP hS ⟨rfl, rfl⟩ hQ dX6_fault_7
def pX6_place (C : Nat → ClassId) (b : Nat) (E : Nat → va_E) (ts fk fp op cn md rs : Nat) (nt : Bool) : Int32 → (Nat → va_E) → Prop := fun r E' => r = nI fp ∧ E = E'
set_option maxHeartbeats 4000000 in
set_option maxRecDepth 100000 in
theorem kX6_place (l : Launch) (D : va_G) (C : Nat → ClassId) (b n : Nat) (E : Nat → va_E) (ts fk fp op cn md rs : Nat) (nt : Bool) (hlt0 : 0 < n) (hE0 : E 0 = .inr (6, [.ref (b + 1), .ref (b + 2), .ref (b + 4), .int (nI ts), .ref (b + 5), .ref (b + 93), .ref (b + 100)])) (hlt1 : 5 < n) (hE1 : E 5 = .inr (0, [.int (nI fk), .int (nI fp), .ref (b + 6), .ref (b + 7), .ref (b + 8), .int (nI op), .int (nI cn), .int (nI md), .int (nI nt.toNat), .int (nI rs)])) : Met l yX6_place (wm_ws yX6_place cX6_place 1 (some .int)) { frames := 0, cells := 0, slots := 0, locals := 0 } (va_Pc [.ref (b + 0)] (wm_G D C b n E)) (va_Qi (pX6_place C b E ts fk fp op cn md rs nt) (fun E' t => wm_P D b n E' t.heap) (wm_A b)) 0 0 (wm_A b) := by
  refine wm_ofW (by decide) (Nat.le_of_ble_eq_true rfl) (fun p e s m below meth c ls R args Q hRe hQ X hr hnm hP hS hl => ?_)
  have hl : lv_has ls 1 [(0, .ref (b + 0))] := hl
  refine lv_aload_n X.1 X.2.1 dX6_place_0 rfl (lv_at hl 0 rfl) ?_
  refine wm_get X hP hlt0 hE0 rfl wm_inX6 4 (by decide) wq1_211 rfl dX6_place_1 ?_
  refine wm_get X hP hlt1 hE1 rfl wm_inX0 1 (by decide) wq1_118 rfl dX6_place_4 ?_
  exact wm_iret (post := pX6_place C b E ts fk fp op cn md rs nt) X hr hP hS ⟨rfl, rfl⟩ hQ dX6_place_7
