set_option maxHeartbeats 4000000 in
set_option maxRecDepth 100000 in
theorem kreadX (l : Launch) (hst : l.stackTraces = false) (D : va_G) (C : Nat → ClassId) (b n : Nat) (E : Nat → va_E) (ts : Nat) (x : Int32) (hlt0 : 0 < n) (hE0 : E 0 = .inr (6, [.ref (b + 1), .ref (b + 2), .ref (b + 4), .int (nI ts), .ref (b + 5), .ref (b + 93), .ref (b + 100)])) (hk : ¬ (0 ≤ x ∧ x < nI 8)) : vx_Met l yX6_read (wm_ws yX6_read cX6_read 3 (some .int)) { frames := 7, cells := 1, slots := 6, locals := 103 } (va_Pc [.ref (b + 0), .int x] (wm_GX D C b n E)) wm_no (wm_XC D b n E wm_iob) 1 6 (wm_A b) := by
  refine wm_ofX (by decide) (Nat.le_of_ble_eq_true rfl) (fun p e s m below meth c ls R args Q hRe hQ X hxt hV hP hS hl => ?_)
  have hl : lv_has ls 3 [(0, .ref (b + 0)), (1, .int x)] := hl
  refine lv_aload_n X.1 X.2.1 dX6_read_0 rfl (lv_at hl 0 rfl) ?_
  refine lv_iload_n X.1 X.2.1 dX6_read_1 rfl (lv_at hl 1 rfl) ?_
  refine wm_xcallV (k := 1) (As := [.int x]) (rest := []) X hV hP hS hlt0 hE0 rfl (kmachineAtX l hst D C b n E x (by omega)) wq2_88 wq2_90 wqP1_1 wq1_1 wq2_91 (by decide) (by rw [hRe]; exact ⟨Nat.le_of_ble_eq_true rfl, Nat.le_of_ble_eq_true rfl⟩) rfl hl.1 rfl (Nat.le_of_ble_eq_true rfl) (by rw [hRe]; exact Nat.le_of_ble_eq_true rfl) (by rw [hRe]; exact Nat.le_of_ble_eq_true rfl) dX6_read_2 (fun ce q9 H1 locs1 hP hS h1 h2 h3 => ?_)
  exact wm_xout X hxt hP hS h1 h2 h3 (Nat.le_refl _) (Nat.le_refl _) hQ
set_option maxHeartbeats 4000000 in
set_option maxRecDepth 100000 in
theorem kstatesX (l : Launch) (hst : l.stackTraces = false) (D : va_G) (C : Nat → ClassId) (b n : Nat) (E : Nat → va_E) (ts : Nat) (x : Int32) (hlt0 : 0 < n) (hE0 : E 0 = .inr (6, [.ref (b + 1), .ref (b + 2), .ref (b + 4), .int (nI ts), .ref (b + 5), .ref (b + 93), .ref (b + 100)])) (hk : ¬ (0 ≤ x ∧ x < nI 8)) : vx_Met l yX6_states (wm_ws yX6_states cX6_states 2 (some .int)) { frames := 7, cells := 1, slots := 6, locals := 103 } (va_Pc [.ref (b + 0), .int x] (wm_GX D C b n E)) wm_no (wm_XC D b n E wm_iob) 1 6 (wm_A b) := by
  refine wm_ofX (by decide) (Nat.le_of_ble_eq_true rfl) (fun p e s m below meth c ls R args Q hRe hQ X hxt hV hP hS hl => ?_)
  have hl : lv_has ls 2 [(0, .ref (b + 0)), (1, .int x)] := hl
  refine lv_aload_n X.1 X.2.1 dX6_states_0 rfl (lv_at hl 0 rfl) ?_
  refine lv_iload_n X.1 X.2.1 dX6_states_1 rfl (lv_at hl 1 rfl) ?_
  refine wm_xcallV (k := 1) (As := [.int x]) (rest := []) X hV hP hS hlt0 hE0 rfl (kmachineAtX l hst D C b n E x (by omega)) wq2_88 wq2_90 wqP1_1 wq1_1 wq2_91 (by decide) (by rw [hRe]; exact ⟨Nat.le_of_ble_eq_true rfl, Nat.le_of_ble_eq_true rfl⟩) rfl hl.1 rfl (Nat.le_of_ble_eq_true rfl) (by rw [hRe]; exact Nat.le_of_ble_eq_true rfl) (by rw [hRe]; exact Nat.le_of_ble_eq_true rfl) dX6_states_2 (fun ce q9 H1 locs1 hP hS h1 h2 h3 => ?_)
  exact wm_xout X hxt hP hS h1 h2 h3 (Nat.le_refl _) (Nat.le_refl _) hQ
set_option maxHeartbeats 4000000 in
set_option maxRecDepth 100000 in
theorem ktakesX (l : Launch) (hst : l.stackTraces = false) (D : va_G) (C : Nat → ClassId) (b n : Nat) (E : Nat → va_E) (ts : Nat) (x : Int32) (hlt0 : 0 < n) (hE0 : E 0 = .inr (6, [.ref (b + 1), .ref (b + 2), .ref (b + 4), .int (nI ts), .ref (b + 5), .ref (b + 93), .ref (b + 100)])) (hk : ¬ (0 ≤ x ∧ x < nI 8)) : vx_Met l yX6_takes (wm_ws yX6_takes cX6_takes 6 (some .boolean)) { frames := 7, cells := 1, slots := 6, locals := 103 } (va_Pc [.ref (b + 0), .int x] (wm_GX D C b n E)) wm_no (wm_XC D b n E wm_iob) 1 6 (wm_A b) := by
  refine wm_ofX (by decide) (Nat.le_of_ble_eq_true rfl) (fun p e s m below meth c ls R args Q hRe hQ X hxt hV hP hS hl => ?_)
  have hl : lv_has ls 6 [(0, .ref (b + 0)), (1, .int x)] := hl
  refine lv_aload_n X.1 X.2.1 dX6_takes_0 rfl (lv_at hl 0 rfl) ?_
  refine lv_iload_n X.1 X.2.1 dX6_takes_1 rfl (lv_at hl 1 rfl) ?_
  refine wm_xcallV (k := 1) (As := [.int x]) (rest := []) X hV hP hS hlt0 hE0 rfl (kmachineAtX l hst D C b n E x (by omega)) wq2_88 wq2_90 wqP1_1 wq1_1 wq2_91 (by decide) (by rw [hRe]; exact ⟨Nat.le_of_ble_eq_true rfl, Nat.le_of_ble_eq_true rfl⟩) rfl hl.1 rfl (Nat.le_of_ble_eq_true rfl) (by rw [hRe]; exact Nat.le_of_ble_eq_true rfl) (by rw [hRe]; exact Nat.le_of_ble_eq_true rfl) dX6_takes_2 (fun ce q9 H1 locs1 hP hS h1 h2 h3 => ?_)
  exact wm_xout X hxt hP hS h1 h2 h3 (Nat.le_refl _) (Nat.le_refl _) hQ
set_option maxHeartbeats 4000000 in
set_option maxRecDepth 100000 in
theorem ksetsX (l : Launch) (hst : l.stackTraces = false) (D : va_G) (C : Nat → ClassId) (b n : Nat) (E : Nat → va_E) (ts : Nat) (x : Int32) (hlt0 : 0 < n) (hE0 : E 0 = .inr (6, [.ref (b + 1), .ref (b + 2), .ref (b + 4), .int (nI ts), .ref (b + 5), .ref (b + 93), .ref (b + 100)])) (hk : ¬ (0 ≤ x ∧ x < nI 8)) : vx_Met l yX6_sets (wm_ws yX6_sets cX6_sets 3 (some .int)) { frames := 7, cells := 1, slots := 6, locals := 103 } (va_Pc [.ref (b + 0), .int x] (wm_GX D C b n E)) wm_no (wm_XC D b n E wm_iob) 1 6 (wm_A b) := by
  refine wm_ofX (by decide) (Nat.le_of_ble_eq_true rfl) (fun p e s m below meth c ls R args Q hRe hQ X hxt hV hP hS hl => ?_)
  have hl : lv_has ls 3 [(0, .ref (b + 0)), (1, .int x)] := hl
  refine lv_aload_n X.1 X.2.1 dX6_sets_0 rfl (lv_at hl 0 rfl) ?_
  refine lv_iload_n X.1 X.2.1 dX6_sets_1 rfl (lv_at hl 1 rfl) ?_
  refine wm_xcallV (k := 1) (As := [.int x]) (rest := []) X hV hP hS hlt0 hE0 rfl (kmachineAtX l hst D C b n E x (by omega)) wq2_88 wq2_90 wqP1_1 wq1_1 wq2_91 (by decide) (by rw [hRe]; exact ⟨Nat.le_of_ble_eq_true rfl, Nat.le_of_ble_eq_true rfl⟩) rfl hl.1 rfl (Nat.le_of_ble_eq_true rfl) (by rw [hRe]; exact Nat.le_of_ble_eq_true rfl) (by rw [hRe]; exact Nat.le_of_ble_eq_true rfl) dX6_sets_2 (fun ce q9 H1 locs1 hP hS h1 h2 h3 => ?_)
  exact wm_xout X hxt hP hS h1 h2 h3 (Nat.le_refl _) (Nat.le_refl _) hQ
set_option maxHeartbeats 4000000 in
set_option maxRecDepth 100000 in
theorem krestsX (l : Launch) (hst : l.stackTraces = false) (D : va_G) (C : Nat → ClassId) (b n : Nat) (E : Nat → va_E) (ts : Nat) (x : Int32) (hlt0 : 0 < n) (hE0 : E 0 = .inr (6, [.ref (b + 1), .ref (b + 2), .ref (b + 4), .int (nI ts), .ref (b + 5), .ref (b + 93), .ref (b + 100)])) (hk : ¬ (0 ≤ x ∧ x < nI 8)) : vx_Met l yX6_rests (wm_ws yX6_rests cX6_rests 3 (some .int)) { frames := 7, cells := 1, slots := 6, locals := 103 } (va_Pc [.ref (b + 0), .int x] (wm_GX D C b n E)) wm_no (wm_XC D b n E wm_iob) 1 6 (wm_A b) := by
  refine wm_ofX (by decide) (Nat.le_of_ble_eq_true rfl) (fun p e s m below meth c ls R args Q hRe hQ X hxt hV hP hS hl => ?_)
  have hl : lv_has ls 3 [(0, .ref (b + 0)), (1, .int x)] := hl
  refine lv_aload_n X.1 X.2.1 dX6_rests_0 rfl (lv_at hl 0 rfl) ?_
  refine lv_iload_n X.1 X.2.1 dX6_rests_1 rfl (lv_at hl 1 rfl) ?_
  refine wm_xcallV (k := 1) (As := [.int x]) (rest := []) X hV hP hS hlt0 hE0 rfl (kmachineAtX l hst D C b n E x (by omega)) wq2_88 wq2_90 wqP1_1 wq1_1 wq2_91 (by decide) (by rw [hRe]; exact ⟨Nat.le_of_ble_eq_true rfl, Nat.le_of_ble_eq_true rfl⟩) rfl hl.1 rfl (Nat.le_of_ble_eq_true rfl) (by rw [hRe]; exact Nat.le_of_ble_eq_true rfl) (by rw [hRe]; exact Nat.le_of_ble_eq_true rfl) dX6_rests_2 (fun ce q9 H1 locs1 hP hS h1 h2 h3 => ?_)
  exact wm_xout X hxt hP hS h1 h2 h3 (Nat.le_refl _) (Nat.le_refl _) hQ
set_option maxHeartbeats 4000000 in
set_option maxRecDepth 100000 in
theorem kwordsX (l : Launch) (hst : l.stackTraces = false) (D : va_G) (C : Nat → ClassId) (b n : Nat) (E : Nat → va_E) (ts : Nat) (x y : Int32) (hlt0 : 0 < n) (hE0 : E 0 = .inr (6, [.ref (b + 1), .ref (b + 2), .ref (b + 4), .int (nI ts), .ref (b + 5), .ref (b + 93), .ref (b + 100)])) (hk : ¬ (0 ≤ x ∧ x < nI 8)) : vx_Met l yX6_words (wm_ws yX6_words cX6_words 4 (some .long)) { frames := 7, cells := 1, slots := 6, locals := 103 } (va_Pc [.ref (b + 0), .int x, .int y] (wm_GX D C b n E)) wm_no (wm_XC D b n E wm_iob) 1 6 (wm_A b) := by
  refine wm_ofX (by decide) (Nat.le_of_ble_eq_true rfl) (fun p e s m below meth c ls R args Q hRe hQ X hxt hV hP hS hl => ?_)
  have hl : lv_has ls 4 [(0, .ref (b + 0)), (1, .int x), (2, .int y)] := hl
  refine lv_aload_n X.1 X.2.1 dX6_words_0 rfl (lv_at hl 0 rfl) ?_
  refine lv_iload_n X.1 X.2.1 dX6_words_1 rfl (lv_at hl 1 rfl) ?_
  refine wm_xcallV (k := 1) (As := [.int x]) (rest := []) X hV hP hS hlt0 hE0 rfl (kmachineAtX l hst D C b n E x (by omega)) wq2_88 wq2_90 wqP1_1 wq1_1 wq2_91 (by decide) (by rw [hRe]; exact ⟨Nat.le_of_ble_eq_true rfl, Nat.le_of_ble_eq_true rfl⟩) rfl hl.1 rfl (Nat.le_of_ble_eq_true rfl) (by rw [hRe]; exact Nat.le_of_ble_eq_true rfl) (by rw [hRe]; exact Nat.le_of_ble_eq_true rfl) dX6_words_2 (fun ce q9 H1 locs1 hP hS h1 h2 h3 => ?_)
  exact wm_xout X hxt hP hS h1 h2 h3 (Nat.le_refl _) (Nat.le_refl _) hQ
set_option maxHeartbeats 4000000 in
set_option maxRecDepth 100000 in
theorem kblankX (l : Launch) (hst : l.stackTraces = false) (D : va_G) (C : Nat → ClassId) (b n : Nat) (E : Nat → va_E) (ts : Nat) (x y : Int32) (hlt0 : 0 < n) (hE0 : E 0 = .inr (6, [.ref (b + 1), .ref (b + 2), .ref (b + 4), .int (nI ts), .ref (b + 5), .ref (b + 93), .ref (b + 100)])) (hk : ¬ (0 ≤ x ∧ x < nI 8)) : vx_Met l yX6_blank (wm_ws yX6_blank cX6_blank 4 none) { frames := 7, cells := 1, slots := 6, locals := 103 } (va_Pc [.ref (b + 0), .int x, .int y] (wm_GX D C b n E)) wm_no (wm_XC D b n E wm_iob) 1 6 (wm_A b) := by
  refine wm_ofX (by decide) (Nat.le_of_ble_eq_true rfl) (fun p e s m below meth c ls R args Q hRe hQ X hxt hV hP hS hl => ?_)
  have hl : lv_has ls 4 [(0, .ref (b + 0)), (1, .int x), (2, .int y)] := hl
  refine lv_aload_n X.1 X.2.1 dX6_blank_0 rfl (lv_at hl 0 rfl) ?_
  refine lv_iload_n X.1 X.2.1 dX6_blank_1 rfl (lv_at hl 1 rfl) ?_
  refine wm_xcallV (k := 1) (As := [.int x]) (rest := []) X hV hP hS hlt0 hE0 rfl (kmachineAtX l hst D C b n E x (by omega)) wq2_88 wq2_90 wqP1_1 wq1_1 wq2_91 (by decide) (by rw [hRe]; exact ⟨Nat.le_of_ble_eq_true rfl, Nat.le_of_ble_eq_true rfl⟩) rfl hl.1 rfl (Nat.le_of_ble_eq_true rfl) (by rw [hRe]; exact Nat.le_of_ble_eq_true rfl) (by rw [hRe]; exact Nat.le_of_ble_eq_true rfl) dX6_blank_2 (fun ce q9 H1 locs1 hP hS h1 h2 h3 => ?_)
  exact wm_xout X hxt hP hS h1 h2 h3 (Nat.le_refl _) (Nat.le_refl _) hQ
set_option maxHeartbeats 4000000 in
set_option maxRecDepth 100000 in
theorem kmarkX (l : Launch) (hst : l.stackTraces = false) (D : va_G) (C : Nat → ClassId) (b n : Nat) (E : Nat → va_E) (ts : Nat) (x y z : Int32) (hlt0 : 0 < n) (hE0 : E 0 = .inr (6, [.ref (b + 1), .ref (b + 2), .ref (b + 4), .int (nI ts), .ref (b + 5), .ref (b + 93), .ref (b + 100)])) (hk : ¬ (0 ≤ x ∧ x < nI 8)) : vx_Met l yX6_mark (wm_ws yX6_mark cX6_mark 5 none) { frames := 7, cells := 1, slots := 6, locals := 103 } (va_Pc [.ref (b + 0), .int x, .int y, .int z] (wm_GX D C b n E)) wm_no (wm_XC D b n E wm_iob) 1 6 (wm_A b) := by
  refine wm_ofX (by decide) (Nat.le_of_ble_eq_true rfl) (fun p e s m below meth c ls R args Q hRe hQ X hxt hV hP hS hl => ?_)
  have hl : lv_has ls 5 [(0, .ref (b + 0)), (1, .int x), (2, .int y), (3, .int z)] := hl
  refine lv_aload_n X.1 X.2.1 dX6_mark_0 rfl (lv_at hl 0 rfl) ?_
  refine lv_iload_n X.1 X.2.1 dX6_mark_1 rfl (lv_at hl 1 rfl) ?_
  refine wm_xcallV (k := 1) (As := [.int x]) (rest := []) X hV hP hS hlt0 hE0 rfl (kmachineAtX l hst D C b n E x (by omega)) wq2_88 wq2_90 wqP1_1 wq1_1 wq2_91 (by decide) (by rw [hRe]; exact ⟨Nat.le_of_ble_eq_true rfl, Nat.le_of_ble_eq_true rfl⟩) rfl hl.1 rfl (Nat.le_of_ble_eq_true rfl) (by rw [hRe]; exact Nat.le_of_ble_eq_true rfl) (by rw [hRe]; exact Nat.le_of_ble_eq_true rfl) dX6_mark_2 (fun ce q9 H1 locs1 hP hS h1 h2 h3 => ?_)
  exact wm_xout X hxt hP hS h1 h2 h3 (Nat.le_refl _) (Nat.le_refl _) hQ
set_option maxHeartbeats 4000000 in
set_option maxRecDepth 100000 in
theorem karcsX (l : Launch) (hst : l.stackTraces = false) (D : va_G) (C : Nat → ClassId) (b n : Nat) (E : Nat → va_E) (ts : Nat) (x y z : Int32) (hlt0 : 0 < n) (hE0 : E 0 = .inr (6, [.ref (b + 1), .ref (b + 2), .ref (b + 4), .int (nI ts), .ref (b + 5), .ref (b + 93), .ref (b + 100)])) (hk : ¬ (0 ≤ x ∧ x < nI 8)) : vx_Met l yX6_arcs (wm_ws yX6_arcs cX6_arcs 5 (some .int)) { frames := 7, cells := 1, slots := 6, locals := 103 } (va_Pc [.ref (b + 0), .int x, .int y, .int z] (wm_GX D C b n E)) wm_no (wm_XC D b n E wm_iob) 1 6 (wm_A b) := by
  refine wm_ofX (by decide) (Nat.le_of_ble_eq_true rfl) (fun p e s m below meth c ls R args Q hRe hQ X hxt hV hP hS hl => ?_)
  have hl : lv_has ls 5 [(0, .ref (b + 0)), (1, .int x), (2, .int y), (3, .int z)] := hl
  refine lv_aload_n X.1 X.2.1 dX6_arcs_0 rfl (lv_at hl 0 rfl) ?_
  refine lv_iload_n X.1 X.2.1 dX6_arcs_1 rfl (lv_at hl 1 rfl) ?_
  refine wm_xcallV (k := 1) (As := [.int x]) (rest := []) X hV hP hS hlt0 hE0 rfl (kmachineAtX l hst D C b n E x (by omega)) wq2_88 wq2_90 wqP1_1 wq1_1 wq2_91 (by decide) (by rw [hRe]; exact ⟨Nat.le_of_ble_eq_true rfl, Nat.le_of_ble_eq_true rfl⟩) rfl hl.1 rfl (Nat.le_of_ble_eq_true rfl) (by rw [hRe]; exact Nat.le_of_ble_eq_true rfl) (by rw [hRe]; exact Nat.le_of_ble_eq_true rfl) dX6_arcs_2 (fun ce q9 H1 locs1 hP hS h1 h2 h3 => ?_)
  exact wm_xout X hxt hP hS h1 h2 h3 (Nat.le_refl _) (Nat.le_refl _) hQ
set_option maxHeartbeats 4000000 in
set_option maxRecDepth 100000 in
theorem karcX (l : Launch) (hst : l.stackTraces = false) (D : va_G) (C : Nat → ClassId) (b n : Nat) (E : Nat → va_E) (ts : Nat) (x y z w : Int32) (v : Bool) (hlt0 : 0 < n) (hE0 : E 0 = .inr (6, [.ref (b + 1), .ref (b + 2), .ref (b + 4), .int (nI ts), .ref (b + 5), .ref (b + 93), .ref (b + 100)])) (hk : ¬ (0 ≤ x ∧ x < nI 8)) : vx_Met l yX6_arc (wm_ws yX6_arc cX6_arc 8 (some .boolean)) { frames := 7, cells := 1, slots := 6, locals := 103 } (va_Pc [.ref (b + 0), .int x, .int y, .int z, .int w, .int (nI v.toNat)] (wm_GX D C b n E)) wm_no (wm_XC D b n E wm_iob) 1 6 (wm_A b) := by
  refine wm_ofX (by decide) (Nat.le_of_ble_eq_true rfl) (fun p e s m below meth c ls R args Q hRe hQ X hxt hV hP hS hl => ?_)
  have hl : lv_has ls 8 [(0, .ref (b + 0)), (1, .int x), (2, .int y), (3, .int z), (4, .int w), (5, .int (nI v.toNat))] := hl
  refine lv_aload_n X.1 X.2.1 dX6_arc_0 rfl (lv_at hl 0 rfl) ?_
  refine lv_iload_n X.1 X.2.1 dX6_arc_1 rfl (lv_at hl 1 rfl) ?_
  refine wm_xcallV (k := 1) (As := [.int x]) (rest := []) X hV hP hS hlt0 hE0 rfl (kmachineAtX l hst D C b n E x (by omega)) wq2_88 wq2_90 wqP1_1 wq1_1 wq2_91 (by decide) (by rw [hRe]; exact ⟨Nat.le_of_ble_eq_true rfl, Nat.le_of_ble_eq_true rfl⟩) rfl hl.1 rfl (Nat.le_of_ble_eq_true rfl) (by rw [hRe]; exact Nat.le_of_ble_eq_true rfl) (by rw [hRe]; exact Nat.le_of_ble_eq_true rfl) dX6_arc_2 (fun ce q9 H1 locs1 hP hS h1 h2 h3 => ?_)
  exact wm_xout X hxt hP hS h1 h2 h3 (Nat.le_refl _) (Nat.le_refl _) hQ
set_option maxHeartbeats 4000000 in
set_option maxRecDepth 100000 in
theorem kturnX (l : Launch) (hst : l.stackTraces = false) (D : va_G) (C : Nat → ClassId) (b n : Nat) (E : Nat → va_E) (ts : Nat) (x y : Int32) (hlt0 : 0 < n) (hE0 : E 0 = .inr (6, [.ref (b + 1), .ref (b + 2), .ref (b + 4), .int (nI ts), .ref (b + 5), .ref (b + 93), .ref (b + 100)])) (hk : ¬ (0 ≤ x ∧ x < nI 8)) : vx_Met l yX6_turn (wm_ws yX6_turn cX6_turn 5 none) { frames := 7, cells := 1, slots := 6, locals := 103 } (va_Pc [.ref (b + 0), .int x, .int y] (wm_GX D C b n E)) wm_no (wm_XC D b n E wm_iob) 1 6 (wm_A b) := by
  refine wm_ofX (by decide) (Nat.le_of_ble_eq_true rfl) (fun p e s m below meth c ls R args Q hRe hQ X hxt hV hP hS hl => ?_)
  have hl : lv_has ls 5 [(0, .ref (b + 0)), (1, .int x), (2, .int y)] := hl
  refine lv_aload_n X.1 X.2.1 dX6_turn_0 rfl (lv_at hl 0 rfl) ?_
  refine lv_iload_n X.1 X.2.1 dX6_turn_1 rfl (lv_at hl 1 rfl) ?_
  refine wm_xcallV (k := 1) (As := [.int x]) (rest := []) X hV hP hS hlt0 hE0 rfl (kmachineAtX l hst D C b n E x (by omega)) wq2_88 wq2_90 wqP1_1 wq1_1 wq2_91 (by decide) (by rw [hRe]; exact ⟨Nat.le_of_ble_eq_true rfl, Nat.le_of_ble_eq_true rfl⟩) rfl hl.1 rfl (Nat.le_of_ble_eq_true rfl) (by rw [hRe]; exact Nat.le_of_ble_eq_true rfl) (by rw [hRe]; exact Nat.le_of_ble_eq_true rfl) dX6_turn_2 (fun ce q9 H1 locs1 hP hS h1 h2 h3 => ?_)
  exact wm_xout X hxt hP hS h1 h2 h3 (Nat.le_refl _) (Nat.le_refl _) hQ
set_option maxHeartbeats 4000000 in
set_option maxRecDepth 100000 in
theorem kturnY (l : Launch) (hst : l.stackTraces = false) (D : va_G) (C : Nat → ClassId) (b n : Nat) (E : Nat → va_E) (ts : Nat) (k : Nat) (y : Int32) (hlt0 : 0 < n) (hE0 : E 0 = .inr (6, [.ref (b + 1), .ref (b + 2), .ref (b + 4), .int (nI ts), .ref (b + 5), .ref (b + 93), .ref (b + 100)])) (hlt1 : 1 < n) (hE1 : E 1 = wm_Q C 4 8 (fun x9 => some (b + (103 + 2 * x9)))) (hkk : k < 8) (hk : ¬ (0 ≤ y ∧ y < nI 8)) : vx_Met l yX6_turn (wm_ws yX6_turn cX6_turn 5 none) { frames := 7, cells := 1, slots := 6, locals := 103 } (va_Pc [.ref (b + 0), .int (nI k), .int y] (wm_GX D C b n E)) wm_no (wm_XC D b n E wm_iob) 1 6 (wm_A b) := by
  refine wm_ofX (by decide) (Nat.le_of_ble_eq_true rfl) (fun p e s m below meth c ls R args Q hRe hQ X hxt hV hP hS hl => ?_)
  have hl : lv_has ls 5 [(0, .ref (b + 0)), (1, .int (nI k)), (2, .int y)] := hl
  refine lv_aload_n X.1 X.2.1 dX6_turn_0 rfl (lv_at hl 0 rfl) ?_
  refine lv_iload_n X.1 X.2.1 dX6_turn_1 rfl (lv_at hl 1 rfl) ?_
  refine wm_callVr (k := 1) (As := [.int (nI k)]) (rest := []) X hP hS hlt0 hE0 rfl (kX6_machineAt l D C b n E ts k hlt0 hE0 hlt1 hE1 (by omega)) wq2_88 wq2_90 wqP1_1 wq1_1 wq2_91 (by decide) (by rw [hRe]; exact ⟨Nat.le_of_ble_eq_true rfl, Nat.le_of_ble_eq_true rfl⟩) rfl hl.1 rfl (Nat.le_of_ble_eq_true rfl) (Nat.zero_le _) (Nat.zero_le _) dX6_turn_2 (fun E1 H locs hw hP hS => ?_)
  have hEe := hw
  subst hEe
  refine lv_astore_n (lv' := [(3, .ref (b + (103 + 2 * k))), (0, .ref (b + 0)), (1, .int (nI k)), (2, .int y)]) X.1 X.2.1 dX6_turn_5 rfl hl (by decide) rfl (fun ls hl => ?_)
  refine lv_aload_n X.1 X.2.1 dX6_turn_6 rfl (lv_at hl 1 rfl) ?_
  refine lv_iload_n X.1 X.2.1 dX6_turn_7 rfl (lv_at hl 3 rfl) ?_
  refine wm_xcallV (k := 1) (As := [.int y]) (rest := []) X hV hP hS hlt0 hE0 rfl (kmachineAtX l hst D C b n E y (by omega)) wq2_88 wq2_90 wqP1_1 wq1_1 wq2_91 (by decide) (by rw [hRe]; exact ⟨Nat.le_of_ble_eq_true rfl, Nat.le_of_ble_eq_true rfl⟩) rfl hl.1 rfl (Nat.le_of_ble_eq_true rfl) (by rw [hRe]; exact Nat.le_of_ble_eq_true rfl) (by rw [hRe]; exact Nat.le_of_ble_eq_true rfl) dX6_turn_8 (fun ce q9 H1 locs1 hP hS h1 h2 h3 => ?_)
  exact wm_xout X hxt hP hS h1 h2 h3 (Nat.le_refl _) (Nat.le_refl _) hQ
set_option maxHeartbeats 4000000 in
set_option maxRecDepth 100000 in
theorem kwithinX (l : Launch) (hst : l.stackTraces = false) (D : va_G) (C : Nat → ClassId) (b n : Nat) (E : Nat → va_E) (ts : Nat) (x y : Int32) (hlt0 : 0 < n) (hE0 : E 0 = .inr (6, [.ref (b + 1), .ref (b + 2), .ref (b + 4), .int (nI ts), .ref (b + 5), .ref (b + 93), .ref (b + 100)])) (hk : ¬ (0 ≤ x ∧ x < nI 8)) : vx_Met l yX6_within (wm_ws yX6_within cX6_within 5 (some .boolean)) { frames := 7, cells := 1, slots := 6, locals := 103 } (va_Pc [.ref (b + 0), .int x, .int y] (wm_GX D C b n E)) wm_no (wm_XC D b n E wm_iob) 1 6 (wm_A b) := by
  refine wm_ofX (by decide) (Nat.le_of_ble_eq_true rfl) (fun p e s m below meth c ls R args Q hRe hQ X hxt hV hP hS hl => ?_)
  have hl : lv_has ls 5 [(0, .ref (b + 0)), (1, .int x), (2, .int y)] := hl
  refine lv_aload_n X.1 X.2.1 dX6_within_0 rfl (lv_at hl 0 rfl) ?_
  refine lv_iload_n X.1 X.2.1 dX6_within_1 rfl (lv_at hl 1 rfl) ?_
  refine wm_xcallV (k := 1) (As := [.int x]) (rest := []) X hV hP hS hlt0 hE0 rfl (kmachineAtX l hst D C b n E x (by omega)) wq2_88 wq2_90 wqP1_1 wq1_1 wq2_91 (by decide) (by rw [hRe]; exact ⟨Nat.le_of_ble_eq_true rfl, Nat.le_of_ble_eq_true rfl⟩) rfl hl.1 rfl (Nat.le_of_ble_eq_true rfl) (by rw [hRe]; exact Nat.le_of_ble_eq_true rfl) (by rw [hRe]; exact Nat.le_of_ble_eq_true rfl) dX6_within_2 (fun ce q9 H1 locs1 hP hS h1 h2 h3 => ?_)
  exact wm_xout X hxt hP hS h1 h2 h3 (Nat.le_refl _) (Nat.le_refl _) hQ
set_option maxHeartbeats 4000000 in
set_option maxRecDepth 100000 in
theorem kwithinY (l : Launch) (hst : l.stackTraces = false) (D : va_G) (C : Nat → ClassId) (b n : Nat) (E : Nat → va_E) (ts : Nat) (k : Nat) (y : Int32) (hlt0 : 0 < n) (hE0 : E 0 = .inr (6, [.ref (b + 1), .ref (b + 2), .ref (b + 4), .int (nI ts), .ref (b + 5), .ref (b + 93), .ref (b + 100)])) (hlt1 : 1 < n) (hE1 : E 1 = wm_Q C 4 8 (fun x9 => some (b + (103 + 2 * x9)))) (hkk : k < 8) (hk : ¬ (0 ≤ y ∧ y < nI 8)) : vx_Met l yX6_within (wm_ws yX6_within cX6_within 5 (some .boolean)) { frames := 7, cells := 1, slots := 6, locals := 103 } (va_Pc [.ref (b + 0), .int (nI k), .int y] (wm_GX D C b n E)) wm_no (wm_XC D b n E wm_iob) 1 6 (wm_A b) := by
  refine wm_ofX (by decide) (Nat.le_of_ble_eq_true rfl) (fun p e s m below meth c ls R args Q hRe hQ X hxt hV hP hS hl => ?_)
  have hl : lv_has ls 5 [(0, .ref (b + 0)), (1, .int (nI k)), (2, .int y)] := hl
  refine lv_aload_n X.1 X.2.1 dX6_within_0 rfl (lv_at hl 0 rfl) ?_
  refine lv_iload_n X.1 X.2.1 dX6_within_1 rfl (lv_at hl 1 rfl) ?_
  refine wm_callVr (k := 1) (As := [.int (nI k)]) (rest := []) X hP hS hlt0 hE0 rfl (kX6_machineAt l D C b n E ts k hlt0 hE0 hlt1 hE1 (by omega)) wq2_88 wq2_90 wqP1_1 wq1_1 wq2_91 (by decide) (by rw [hRe]; exact ⟨Nat.le_of_ble_eq_true rfl, Nat.le_of_ble_eq_true rfl⟩) rfl hl.1 rfl (Nat.le_of_ble_eq_true rfl) (Nat.zero_le _) (Nat.zero_le _) dX6_within_2 (fun E1 H locs hw hP hS => ?_)
  have hEe := hw
  subst hEe
  refine lv_astore_n (lv' := [(3, .ref (b + (103 + 2 * k))), (0, .ref (b + 0)), (1, .int (nI k)), (2, .int y)]) X.1 X.2.1 dX6_within_5 rfl hl (by decide) rfl (fun ls hl => ?_)
  refine lv_aload_n X.1 X.2.1 dX6_within_6 rfl (lv_at hl 1 rfl) ?_
  refine lv_iload_n X.1 X.2.1 dX6_within_7 rfl (lv_at hl 3 rfl) ?_
  refine wm_xcallV (k := 1) (As := [.int y]) (rest := []) X hV hP hS hlt0 hE0 rfl (kmachineAtX l hst D C b n E y (by omega)) wq2_88 wq2_90 wqP1_1 wq1_1 wq2_91 (by decide) (by rw [hRe]; exact ⟨Nat.le_of_ble_eq_true rfl, Nat.le_of_ble_eq_true rfl⟩) rfl hl.1 rfl (Nat.le_of_ble_eq_true rfl) (by rw [hRe]; exact Nat.le_of_ble_eq_true rfl) (by rw [hRe]; exact Nat.le_of_ble_eq_true rfl) dX6_within_8 (fun ce q9 H1 locs1 hP hS h1 h2 h3 => ?_)
  exact wm_xout X hxt hP hS h1 h2 h3 (Nat.le_refl _) (Nat.le_refl _) hQ
set_option maxHeartbeats 4000000 in
set_option maxRecDepth 100000 in
theorem keitherX (l : Launch) (hst : l.stackTraces = false) (D : va_G) (C : Nat → ClassId) (b n : Nat) (E : Nat → va_E) (ts : Nat) (x y z : Int32) (hlt0 : 0 < n) (hE0 : E 0 = .inr (6, [.ref (b + 1), .ref (b + 2), .ref (b + 4), .int (nI ts), .ref (b + 5), .ref (b + 93), .ref (b + 100)])) (hk : ¬ (0 ≤ x ∧ x < nI 8)) : vx_Met l yX6_either (wm_ws yX6_either cX6_either 7 (some .int)) { frames := 7, cells := 1, slots := 6, locals := 103 } (va_Pc [.ref (b + 0), .int x, .int y, .int z] (wm_GX D C b n E)) wm_no (wm_XC D b n E wm_iob) 1 6 (wm_A b) := by
  refine wm_ofX (by decide) (Nat.le_of_ble_eq_true rfl) (fun p e s m below meth c ls R args Q hRe hQ X hxt hV hP hS hl => ?_)
  have hl : lv_has ls 7 [(0, .ref (b + 0)), (1, .int x), (2, .int y), (3, .int z)] := hl
  refine lv_aload_n X.1 X.2.1 dX6_either_0 rfl (lv_at hl 0 rfl) ?_
  refine lv_iload_n X.1 X.2.1 dX6_either_1 rfl (lv_at hl 1 rfl) ?_
  refine wm_xcallV (k := 1) (As := [.int x]) (rest := []) X hV hP hS hlt0 hE0 rfl (kmachineAtX l hst D C b n E x (by omega)) wq2_88 wq2_90 wqP1_1 wq1_1 wq2_91 (by decide) (by rw [hRe]; exact ⟨Nat.le_of_ble_eq_true rfl, Nat.le_of_ble_eq_true rfl⟩) rfl hl.1 rfl (Nat.le_of_ble_eq_true rfl) (by rw [hRe]; exact Nat.le_of_ble_eq_true rfl) (by rw [hRe]; exact Nat.le_of_ble_eq_true rfl) dX6_either_2 (fun ce q9 H1 locs1 hP hS h1 h2 h3 => ?_)
  exact wm_xout X hxt hP hS h1 h2 h3 (Nat.le_refl _) (Nat.le_refl _) hQ
set_option maxHeartbeats 4000000 in
set_option maxRecDepth 100000 in
theorem keitherY (l : Launch) (hst : l.stackTraces = false) (D : va_G) (C : Nat → ClassId) (b n : Nat) (E : Nat → va_E) (ts : Nat) (k : Nat) (y z : Int32) (hlt0 : 0 < n) (hE0 : E 0 = .inr (6, [.ref (b + 1), .ref (b + 2), .ref (b + 4), .int (nI ts), .ref (b + 5), .ref (b + 93), .ref (b + 100)])) (hlt1 : 1 < n) (hE1 : E 1 = wm_Q C 4 8 (fun x9 => some (b + (103 + 2 * x9)))) (hkk : k < 8) (hk : ¬ (0 ≤ y ∧ y < nI 8)) : vx_Met l yX6_either (wm_ws yX6_either cX6_either 7 (some .int)) { frames := 7, cells := 1, slots := 6, locals := 103 } (va_Pc [.ref (b + 0), .int (nI k), .int y, .int z] (wm_GX D C b n E)) wm_no (wm_XC D b n E wm_iob) 1 6 (wm_A b) := by
  refine wm_ofX (by decide) (Nat.le_of_ble_eq_true rfl) (fun p e s m below meth c ls R args Q hRe hQ X hxt hV hP hS hl => ?_)
  have hl : lv_has ls 7 [(0, .ref (b + 0)), (1, .int (nI k)), (2, .int y), (3, .int z)] := hl
  refine lv_aload_n X.1 X.2.1 dX6_either_0 rfl (lv_at hl 0 rfl) ?_
  refine lv_iload_n X.1 X.2.1 dX6_either_1 rfl (lv_at hl 1 rfl) ?_
  refine wm_callVr (k := 1) (As := [.int (nI k)]) (rest := []) X hP hS hlt0 hE0 rfl (kX6_machineAt l D C b n E ts k hlt0 hE0 hlt1 hE1 (by omega)) wq2_88 wq2_90 wqP1_1 wq1_1 wq2_91 (by decide) (by rw [hRe]; exact ⟨Nat.le_of_ble_eq_true rfl, Nat.le_of_ble_eq_true rfl⟩) rfl hl.1 rfl (Nat.le_of_ble_eq_true rfl) (Nat.zero_le _) (Nat.zero_le _) dX6_either_2 (fun E1 H locs hw hP hS => ?_)
  have hEe := hw
  subst hEe
  refine lv_astore (lv' := [(4, .ref (b + (103 + 2 * k))), (0, .ref (b + 0)), (1, .int (nI k)), (2, .int y), (3, .int z)]) X.1 X.2.1 dX6_either_5 hl (by decide) rfl (fun ls hl => ?_)
  refine lv_aload_n X.1 X.2.1 dX6_either_7 rfl (lv_at hl 1 rfl) ?_
  refine lv_iload_n X.1 X.2.1 dX6_either_8 rfl (lv_at hl 3 rfl) ?_
  refine wm_xcallV (k := 1) (As := [.int y]) (rest := []) X hV hP hS hlt0 hE0 rfl (kmachineAtX l hst D C b n E y (by omega)) wq2_88 wq2_90 wqP1_1 wq1_1 wq2_91 (by decide) (by rw [hRe]; exact ⟨Nat.le_of_ble_eq_true rfl, Nat.le_of_ble_eq_true rfl⟩) rfl hl.1 rfl (Nat.le_of_ble_eq_true rfl) (by rw [hRe]; exact Nat.le_of_ble_eq_true rfl) (by rw [hRe]; exact Nat.le_of_ble_eq_true rfl) dX6_either_9 (fun ce q9 H1 locs1 hP hS h1 h2 h3 => ?_)
  exact wm_xout X hxt hP hS h1 h2 h3 (Nat.le_refl _) (Nat.le_refl _) hQ
set_option maxHeartbeats 4000000 in
set_option maxRecDepth 100000 in
theorem keitherZ (l : Launch) (hst : l.stackTraces = false) (D : va_G) (C : Nat → ClassId) (b n : Nat) (E : Nat → va_E) (ts : Nat) (k i : Nat) (z : Int32) (hlt0 : 0 < n) (hE0 : E 0 = .inr (6, [.ref (b + 1), .ref (b + 2), .ref (b + 4), .int (nI ts), .ref (b + 5), .ref (b + 93), .ref (b + 100)])) (hlt1 : 1 < n) (hE1 : E 1 = wm_Q C 4 8 (fun x9 => some (b + (103 + 2 * x9)))) (hkk : k < 8) (hii : i < 8) (hk : ¬ (0 ≤ z ∧ z < nI 8)) : vx_Met l yX6_either (wm_ws yX6_either cX6_either 7 (some .int)) { frames := 7, cells := 1, slots := 6, locals := 103 } (va_Pc [.ref (b + 0), .int (nI k), .int (nI i), .int z] (wm_GX D C b n E)) wm_no (wm_XC D b n E wm_iob) 1 6 (wm_A b) := by
  refine wm_ofX (by decide) (Nat.le_of_ble_eq_true rfl) (fun p e s m below meth c ls R args Q hRe hQ X hxt hV hP hS hl => ?_)
  have hl : lv_has ls 7 [(0, .ref (b + 0)), (1, .int (nI k)), (2, .int (nI i)), (3, .int z)] := hl
  refine lv_aload_n X.1 X.2.1 dX6_either_0 rfl (lv_at hl 0 rfl) ?_
  refine lv_iload_n X.1 X.2.1 dX6_either_1 rfl (lv_at hl 1 rfl) ?_
  refine wm_callVr (k := 1) (As := [.int (nI k)]) (rest := []) X hP hS hlt0 hE0 rfl (kX6_machineAt l D C b n E ts k hlt0 hE0 hlt1 hE1 (by omega)) wq2_88 wq2_90 wqP1_1 wq1_1 wq2_91 (by decide) (by rw [hRe]; exact ⟨Nat.le_of_ble_eq_true rfl, Nat.le_of_ble_eq_true rfl⟩) rfl hl.1 rfl (Nat.le_of_ble_eq_true rfl) (Nat.zero_le _) (Nat.zero_le _) dX6_either_2 (fun E1 H locs hw hP hS => ?_)
  have hEe := hw
  subst hEe
  refine lv_astore (lv' := [(4, .ref (b + (103 + 2 * k))), (0, .ref (b + 0)), (1, .int (nI k)), (2, .int (nI i)), (3, .int z)]) X.1 X.2.1 dX6_either_5 hl (by decide) rfl (fun ls hl => ?_)
  refine lv_aload_n X.1 X.2.1 dX6_either_7 rfl (lv_at hl 1 rfl) ?_
  refine lv_iload_n X.1 X.2.1 dX6_either_8 rfl (lv_at hl 3 rfl) ?_
  refine wm_callVr (k := 1) (As := [.int (nI i)]) (rest := []) X hP hS hlt0 hE0 rfl (kX6_machineAt l D C b n E ts i hlt0 hE0 hlt1 hE1 (by omega)) wq2_88 wq2_90 wqP1_1 wq1_1 wq2_91 (by decide) (by rw [hRe]; exact ⟨Nat.le_of_ble_eq_true rfl, Nat.le_of_ble_eq_true rfl⟩) rfl hl.1 rfl (Nat.le_of_ble_eq_true rfl) (Nat.zero_le _) (Nat.zero_le _) dX6_either_9 (fun E2 H locs hw hP hS => ?_)
  have hEe := hw
  subst hEe
  refine lv_astore (lv' := [(5, .ref (b + (103 + 2 * i))), (4, .ref (b + (103 + 2 * k))), (0, .ref (b + 0)), (1, .int (nI k)), (2, .int (nI i)), (3, .int z)]) X.1 X.2.1 dX6_either_12 hl (by decide) rfl (fun ls hl => ?_)
  refine lv_aload_n X.1 X.2.1 dX6_either_14 rfl (lv_at hl 2 rfl) ?_
  refine lv_iload_n X.1 X.2.1 dX6_either_15 rfl (lv_at hl 5 rfl) ?_
  refine wm_xcallV (k := 1) (As := [.int z]) (rest := []) X hV hP hS hlt0 hE0 rfl (kmachineAtX l hst D C b n E z (by omega)) wq2_88 wq2_90 wqP1_1 wq1_1 wq2_91 (by decide) (by rw [hRe]; exact ⟨Nat.le_of_ble_eq_true rfl, Nat.le_of_ble_eq_true rfl⟩) rfl hl.1 rfl (Nat.le_of_ble_eq_true rfl) (by rw [hRe]; exact Nat.le_of_ble_eq_true rfl) (by rw [hRe]; exact Nat.le_of_ble_eq_true rfl) dX6_either_16 (fun ce q9 H1 locs1 hP hS h1 h2 h3 => ?_)
  exact wm_xout X hxt hP hS h1 h2 h3 (Nat.le_refl _) (Nat.le_refl _) hQ
set_option maxHeartbeats 4000000 in
set_option maxRecDepth 100000 in
theorem kbothX (l : Launch) (hst : l.stackTraces = false) (D : va_G) (C : Nat → ClassId) (b n : Nat) (E : Nat → va_E) (ts : Nat) (x y z : Int32) (hlt0 : 0 < n) (hE0 : E 0 = .inr (6, [.ref (b + 1), .ref (b + 2), .ref (b + 4), .int (nI ts), .ref (b + 5), .ref (b + 93), .ref (b + 100)])) (hk : ¬ (0 ≤ x ∧ x < nI 8)) : vx_Met l yX6_both (wm_ws yX6_both cX6_both 7 (some .int)) { frames := 7, cells := 1, slots := 6, locals := 103 } (va_Pc [.ref (b + 0), .int x, .int y, .int z] (wm_GX D C b n E)) wm_no (wm_XC D b n E wm_iob) 1 6 (wm_A b) := by
  refine wm_ofX (by decide) (Nat.le_of_ble_eq_true rfl) (fun p e s m below meth c ls R args Q hRe hQ X hxt hV hP hS hl => ?_)
  have hl : lv_has ls 7 [(0, .ref (b + 0)), (1, .int x), (2, .int y), (3, .int z)] := hl
  refine lv_aload_n X.1 X.2.1 dX6_both_0 rfl (lv_at hl 0 rfl) ?_
  refine lv_iload_n X.1 X.2.1 dX6_both_1 rfl (lv_at hl 1 rfl) ?_
  refine wm_xcallV (k := 1) (As := [.int x]) (rest := []) X hV hP hS hlt0 hE0 rfl (kmachineAtX l hst D C b n E x (by omega)) wq2_88 wq2_90 wqP1_1 wq1_1 wq2_91 (by decide) (by rw [hRe]; exact ⟨Nat.le_of_ble_eq_true rfl, Nat.le_of_ble_eq_true rfl⟩) rfl hl.1 rfl (Nat.le_of_ble_eq_true rfl) (by rw [hRe]; exact Nat.le_of_ble_eq_true rfl) (by rw [hRe]; exact Nat.le_of_ble_eq_true rfl) dX6_both_2 (fun ce q9 H1 locs1 hP hS h1 h2 h3 => ?_)
  exact wm_xout X hxt hP hS h1 h2 h3 (Nat.le_refl _) (Nat.le_refl _) hQ
set_option maxHeartbeats 4000000 in
set_option maxRecDepth 100000 in
theorem kbothY (l : Launch) (hst : l.stackTraces = false) (D : va_G) (C : Nat → ClassId) (b n : Nat) (E : Nat → va_E) (ts : Nat) (k : Nat) (y z : Int32) (hlt0 : 0 < n) (hE0 : E 0 = .inr (6, [.ref (b + 1), .ref (b + 2), .ref (b + 4), .int (nI ts), .ref (b + 5), .ref (b + 93), .ref (b + 100)])) (hlt1 : 1 < n) (hE1 : E 1 = wm_Q C 4 8 (fun x9 => some (b + (103 + 2 * x9)))) (hkk : k < 8) (hk : ¬ (0 ≤ y ∧ y < nI 8)) : vx_Met l yX6_both (wm_ws yX6_both cX6_both 7 (some .int)) { frames := 7, cells := 1, slots := 6, locals := 103 } (va_Pc [.ref (b + 0), .int (nI k), .int y, .int z] (wm_GX D C b n E)) wm_no (wm_XC D b n E wm_iob) 1 6 (wm_A b) := by
  refine wm_ofX (by decide) (Nat.le_of_ble_eq_true rfl) (fun p e s m below meth c ls R args Q hRe hQ X hxt hV hP hS hl => ?_)
  have hl : lv_has ls 7 [(0, .ref (b + 0)), (1, .int (nI k)), (2, .int y), (3, .int z)] := hl
  refine lv_aload_n X.1 X.2.1 dX6_both_0 rfl (lv_at hl 0 rfl) ?_
  refine lv_iload_n X.1 X.2.1 dX6_both_1 rfl (lv_at hl 1 rfl) ?_
  refine wm_callVr (k := 1) (As := [.int (nI k)]) (rest := []) X hP hS hlt0 hE0 rfl (kX6_machineAt l D C b n E ts k hlt0 hE0 hlt1 hE1 (by omega)) wq2_88 wq2_90 wqP1_1 wq1_1 wq2_91 (by decide) (by rw [hRe]; exact ⟨Nat.le_of_ble_eq_true rfl, Nat.le_of_ble_eq_true rfl⟩) rfl hl.1 rfl (Nat.le_of_ble_eq_true rfl) (Nat.zero_le _) (Nat.zero_le _) dX6_both_2 (fun E1 H locs hw hP hS => ?_)
  have hEe := hw
  subst hEe
  refine lv_astore (lv' := [(4, .ref (b + (103 + 2 * k))), (0, .ref (b + 0)), (1, .int (nI k)), (2, .int y), (3, .int z)]) X.1 X.2.1 dX6_both_5 hl (by decide) rfl (fun ls hl => ?_)
  refine lv_aload_n X.1 X.2.1 dX6_both_7 rfl (lv_at hl 1 rfl) ?_
  refine lv_iload_n X.1 X.2.1 dX6_both_8 rfl (lv_at hl 3 rfl) ?_
  refine wm_xcallV (k := 1) (As := [.int y]) (rest := []) X hV hP hS hlt0 hE0 rfl (kmachineAtX l hst D C b n E y (by omega)) wq2_88 wq2_90 wqP1_1 wq1_1 wq2_91 (by decide) (by rw [hRe]; exact ⟨Nat.le_of_ble_eq_true rfl, Nat.le_of_ble_eq_true rfl⟩) rfl hl.1 rfl (Nat.le_of_ble_eq_true rfl) (by rw [hRe]; exact Nat.le_of_ble_eq_true rfl) (by rw [hRe]; exact Nat.le_of_ble_eq_true rfl) dX6_both_9 (fun ce q9 H1 locs1 hP hS h1 h2 h3 => ?_)
  exact wm_xout X hxt hP hS h1 h2 h3 (Nat.le_refl _) (Nat.le_refl _) hQ
set_option maxHeartbeats 4000000 in
set_option maxRecDepth 100000 in
theorem kbothZ (l : Launch) (hst : l.stackTraces = false) (D : va_G) (C : Nat → ClassId) (b n : Nat) (E : Nat → va_E) (ts : Nat) (k i : Nat) (z : Int32) (hlt0 : 0 < n) (hE0 : E 0 = .inr (6, [.ref (b + 1), .ref (b + 2), .ref (b + 4), .int (nI ts), .ref (b + 5), .ref (b + 93), .ref (b + 100)])) (hlt1 : 1 < n) (hE1 : E 1 = wm_Q C 4 8 (fun x9 => some (b + (103 + 2 * x9)))) (hkk : k < 8) (hii : i < 8) (hk : ¬ (0 ≤ z ∧ z < nI 8)) : vx_Met l yX6_both (wm_ws yX6_both cX6_both 7 (some .int)) { frames := 7, cells := 1, slots := 6, locals := 103 } (va_Pc [.ref (b + 0), .int (nI k), .int (nI i), .int z] (wm_GX D C b n E)) wm_no (wm_XC D b n E wm_iob) 1 6 (wm_A b) := by
  refine wm_ofX (by decide) (Nat.le_of_ble_eq_true rfl) (fun p e s m below meth c ls R args Q hRe hQ X hxt hV hP hS hl => ?_)
  have hl : lv_has ls 7 [(0, .ref (b + 0)), (1, .int (nI k)), (2, .int (nI i)), (3, .int z)] := hl
  refine lv_aload_n X.1 X.2.1 dX6_both_0 rfl (lv_at hl 0 rfl) ?_
  refine lv_iload_n X.1 X.2.1 dX6_both_1 rfl (lv_at hl 1 rfl) ?_
  refine wm_callVr (k := 1) (As := [.int (nI k)]) (rest := []) X hP hS hlt0 hE0 rfl (kX6_machineAt l D C b n E ts k hlt0 hE0 hlt1 hE1 (by omega)) wq2_88 wq2_90 wqP1_1 wq1_1 wq2_91 (by decide) (by rw [hRe]; exact ⟨Nat.le_of_ble_eq_true rfl, Nat.le_of_ble_eq_true rfl⟩) rfl hl.1 rfl (Nat.le_of_ble_eq_true rfl) (Nat.zero_le _) (Nat.zero_le _) dX6_both_2 (fun E1 H locs hw hP hS => ?_)
  have hEe := hw
  subst hEe
  refine lv_astore (lv' := [(4, .ref (b + (103 + 2 * k))), (0, .ref (b + 0)), (1, .int (nI k)), (2, .int (nI i)), (3, .int z)]) X.1 X.2.1 dX6_both_5 hl (by decide) rfl (fun ls hl => ?_)
  refine lv_aload_n X.1 X.2.1 dX6_both_7 rfl (lv_at hl 1 rfl) ?_
  refine lv_iload_n X.1 X.2.1 dX6_both_8 rfl (lv_at hl 3 rfl) ?_
  refine wm_callVr (k := 1) (As := [.int (nI i)]) (rest := []) X hP hS hlt0 hE0 rfl (kX6_machineAt l D C b n E ts i hlt0 hE0 hlt1 hE1 (by omega)) wq2_88 wq2_90 wqP1_1 wq1_1 wq2_91 (by decide) (by rw [hRe]; exact ⟨Nat.le_of_ble_eq_true rfl, Nat.le_of_ble_eq_true rfl⟩) rfl hl.1 rfl (Nat.le_of_ble_eq_true rfl) (Nat.zero_le _) (Nat.zero_le _) dX6_both_9 (fun E2 H locs hw hP hS => ?_)
  have hEe := hw
  subst hEe
  refine lv_astore (lv' := [(5, .ref (b + (103 + 2 * i))), (4, .ref (b + (103 + 2 * k))), (0, .ref (b + 0)), (1, .int (nI k)), (2, .int (nI i)), (3, .int z)]) X.1 X.2.1 dX6_both_12 hl (by decide) rfl (fun ls hl => ?_)
  refine lv_aload_n X.1 X.2.1 dX6_both_14 rfl (lv_at hl 2 rfl) ?_
  refine lv_iload_n X.1 X.2.1 dX6_both_15 rfl (lv_at hl 5 rfl) ?_
  refine wm_xcallV (k := 1) (As := [.int z]) (rest := []) X hV hP hS hlt0 hE0 rfl (kmachineAtX l hst D C b n E z (by omega)) wq2_88 wq2_90 wqP1_1 wq1_1 wq2_91 (by decide) (by rw [hRe]; exact ⟨Nat.le_of_ble_eq_true rfl, Nat.le_of_ble_eq_true rfl⟩) rfl hl.1 rfl (Nat.le_of_ble_eq_true rfl) (by rw [hRe]; exact Nat.le_of_ble_eq_true rfl) (by rw [hRe]; exact Nat.le_of_ble_eq_true rfl) dX6_both_16 (fun ce q9 H1 locs1 hP hS h1 h2 h3 => ?_)
  exact wm_xout X hxt hP hS h1 h2 h3 (Nat.le_refl _) (Nat.le_refl _) hQ
set_option maxHeartbeats 4000000 in
set_option maxRecDepth 100000 in
theorem kblankA (l : Launch) (hst : l.stackTraces = false) (D : va_G) (C : Nat → ClassId) (b n : Nat) (E : Nat → va_E) (ts : Nat) (k : Nat) (y : Int32) (hlt0 : 0 < n) (hE0 : E 0 = .inr (6, [.ref (b + 1), .ref (b + 2), .ref (b + 4), .int (nI ts), .ref (b + 5), .ref (b + 93), .ref (b + 100)])) (hlt1 : 1 < n) (hE1 : E 1 = wm_Q C 4 8 (fun x9 => some (b + (103 + 2 * x9)))) (hkk : k < 8) (hk : ¬ (nI 1 ≤ y ∧ y ≤ nI 24)) : vx_Met l yX6_blank (wm_ws yX6_blank cX6_blank 4 none) { frames := 6, cells := 1, slots := 6, locals := 82 } (va_Pc [.ref (b + 0), .int (nI k), .int y] (wm_GX D C b n E)) wm_no (wm_XC D b n E wm_iae) 1 6 (wm_A b) := by
  refine wm_ofX (by decide) (Nat.le_of_ble_eq_true rfl) (fun p e s m below meth c ls R args Q hRe hQ X hxt hV hP hS hl => ?_)
  have hl : lv_has ls 4 [(0, .ref (b + 0)), (1, .int (nI k)), (2, .int y)] := hl
  refine lv_aload_n X.1 X.2.1 dX6_blank_0 rfl (lv_at hl 0 rfl) ?_
  refine lv_iload_n X.1 X.2.1 dX6_blank_1 rfl (lv_at hl 1 rfl) ?_
  refine wm_callVr (k := 1) (As := [.int (nI k)]) (rest := []) X hP hS hlt0 hE0 rfl (kX6_machineAt l D C b n E ts k hlt0 hE0 hlt1 hE1 (by omega)) wq2_88 wq2_90 wqP1_1 wq1_1 wq2_91 (by decide) (by rw [hRe]; exact ⟨Nat.le_of_ble_eq_true rfl, Nat.le_of_ble_eq_true rfl⟩) rfl hl.1 rfl (Nat.le_of_ble_eq_true rfl) (Nat.zero_le _) (Nat.zero_le _) dX6_blank_2 (fun E1 H locs hw hP hS => ?_)
  have hEe := hw
  subst hEe
  refine lv_astore_n (lv' := [(3, .ref (b + (103 + 2 * k))), (0, .ref (b + 0)), (1, .int (nI k)), (2, .int y)]) X.1 X.2.1 dX6_blank_5 rfl hl (by decide) rfl (fun ls hl => ?_)
  refine lv_iload_n X.1 X.2.1 dX6_blank_6 rfl (lv_at hl 3 rfl) ?_
  refine lv_iconst (v := nI 1) X.1 X.2.1 dX6_blank_7 (by decide) ?_
  refine lv_icmp_lt (tgt := 17) X.1 X.2.1 dX6_blank_8 (by decide) (fun hc8 => ?_) (fun hc8 => ?_)
  · exact wm_thrA (i := 77) hst X hxt hV hP hS (by simp [wm_strs]; rfl) hl.1 (by rw [hRe]; exact ⟨Nat.le_of_ble_eq_true rfl, Nat.le_of_ble_eq_true rfl, Nat.le_of_ble_eq_true rfl, Nat.le_of_ble_eq_true rfl⟩) dX6_blank_17 dX6_blank_20 dX6_blank_21 dX6_blank_23 dX6_blank_26 hQ
  · refine lv_iload_n X.1 X.2.1 dX6_blank_11 rfl (lv_at hl 3 rfl) ?_
    refine lv_bipush (v := nI 24) X.1 X.2.1 dX6_blank_12 (by decide) ?_
    refine lv_icmp_le (tgt := 27) X.1 X.2.1 dX6_blank_14 (by decide) (fun hc14 => ?_) (fun hc14 => ?_)
    · exact absurd hc14 (fun q => hk ⟨Int32.not_lt.mp hc8, q⟩)
    · exact wm_thrA (i := 77) hst X hxt hV hP hS (by simp [wm_strs]; rfl) hl.1 (by rw [hRe]; exact ⟨Nat.le_of_ble_eq_true rfl, Nat.le_of_ble_eq_true rfl, Nat.le_of_ble_eq_true rfl, Nat.le_of_ble_eq_true rfl⟩) dX6_blank_17 dX6_blank_20 dX6_blank_21 dX6_blank_23 dX6_blank_26 hQ
set_option maxHeartbeats 4000000 in
set_option maxRecDepth 100000 in
theorem kmarkS (l : Launch) (hst : l.stackTraces = false) (D : va_G) (C : Nat → ClassId) (b n : Nat) (E : Nat → va_E) (ts : Nat) (k cn st en : Nat) (y z : Int32) (hlt0 : 0 < n) (hE0 : E 0 = .inr (6, [.ref (b + 1), .ref (b + 2), .ref (b + 4), .int (nI ts), .ref (b + 5), .ref (b + 93), .ref (b + 100)])) (hlt1 : 1 < n) (hE1 : E 1 = wm_Q C 4 8 (fun x9 => some (b + (103 + 2 * x9)))) (hlt2 : 103 + 2 * k < n) (hE2 : E (103 + 2 * k) = .inr (2, [.ref (b + (104 + 2 * k)), .int (nI cn), .int (nI st), .int (nI en)])) (hkk : k < 8) (hk : ¬ (0 ≤ y ∧ y < nI cn)) : vx_Met l yX6_mark (wm_ws yX6_mark cX6_mark 5 none) { frames := 7, cells := 1, slots := 6, locals := 103 } (va_Pc [.ref (b + 0), .int (nI k), .int y, .int z] (wm_GX D C b n E)) wm_no (wm_XC D b n E wm_iob) 1 6 (wm_A b) := by
  refine wm_ofX (by decide) (Nat.le_of_ble_eq_true rfl) (fun p e s m below meth c ls R args Q hRe hQ X hxt hV hP hS hl => ?_)
  have hl : lv_has ls 5 [(0, .ref (b + 0)), (1, .int (nI k)), (2, .int y), (3, .int z)] := hl
  refine lv_aload_n X.1 X.2.1 dX6_mark_0 rfl (lv_at hl 0 rfl) ?_
  refine lv_iload_n X.1 X.2.1 dX6_mark_1 rfl (lv_at hl 1 rfl) ?_
  refine wm_callVr (k := 1) (As := [.int (nI k)]) (rest := []) X hP hS hlt0 hE0 rfl (kX6_machineAt l D C b n E ts k hlt0 hE0 hlt1 hE1 (by omega)) wq2_88 wq2_90 wqP1_1 wq1_1 wq2_91 (by decide) (by rw [hRe]; exact ⟨Nat.le_of_ble_eq_true rfl, Nat.le_of_ble_eq_true rfl⟩) rfl hl.1 rfl (Nat.le_of_ble_eq_true rfl) (Nat.zero_le _) (Nat.zero_le _) dX6_mark_2 (fun E1 H locs hw hP hS => ?_)
  have hEe := hw
  subst hEe
  refine lv_astore (lv' := [(4, .ref (b + (103 + 2 * k))), (0, .ref (b + 0)), (1, .int (nI k)), (2, .int y), (3, .int z)]) X.1 X.2.1 dX6_mark_5 hl (by decide) rfl (fun ls hl => ?_)
  refine lv_aload X.1 X.2.1 dX6_mark_7 (lv_at hl 0 rfl) ?_
  refine lv_iload_n X.1 X.2.1 dX6_mark_9 rfl (lv_at hl 3 rfl) ?_
  refine wm_xcallS (k := 2) (As := [.ref (b + (103 + 2 * k)), .int y]) (rest := []) X hV hP hS  (kcheckStateX l hst D C b n E (103 + 2 * k) (104 + 2 * k) cn st en y hlt2 hE2 (by omega)) wq2_232 wq2_233 wq1_1 wq2_234 (by decide) (by rw [hRe]; exact ⟨Nat.le_of_ble_eq_true rfl, Nat.le_of_ble_eq_true rfl⟩) rfl hl.1 rfl (Nat.le_of_ble_eq_true rfl) (by rw [hRe]; exact Nat.le_of_ble_eq_true rfl) (by rw [hRe]; exact Nat.le_of_ble_eq_true rfl) dX6_mark_10 (fun ce q9 H1 locs1 hP hS h1 h2 h3 => ?_)
  exact wm_xout X hxt hP hS h1 h2 h3 (Nat.le_refl _) (Nat.le_refl _) hQ
set_option maxHeartbeats 4000000 in
set_option maxRecDepth 100000 in
theorem karcsS (l : Launch) (hst : l.stackTraces = false) (D : va_G) (C : Nat → ClassId) (b n : Nat) (E : Nat → va_E) (ts : Nat) (k cn st en : Nat) (y z : Int32) (hlt0 : 0 < n) (hE0 : E 0 = .inr (6, [.ref (b + 1), .ref (b + 2), .ref (b + 4), .int (nI ts), .ref (b + 5), .ref (b + 93), .ref (b + 100)])) (hlt1 : 1 < n) (hE1 : E 1 = wm_Q C 4 8 (fun x9 => some (b + (103 + 2 * x9)))) (hlt2 : 103 + 2 * k < n) (hE2 : E (103 + 2 * k) = .inr (2, [.ref (b + (104 + 2 * k)), .int (nI cn), .int (nI st), .int (nI en)])) (hkk : k < 8) (hk : ¬ (0 ≤ y ∧ y < nI cn)) : vx_Met l yX6_arcs (wm_ws yX6_arcs cX6_arcs 5 (some .int)) { frames := 7, cells := 1, slots := 6, locals := 103 } (va_Pc [.ref (b + 0), .int (nI k), .int y, .int z] (wm_GX D C b n E)) wm_no (wm_XC D b n E wm_iob) 1 6 (wm_A b) := by
  refine wm_ofX (by decide) (Nat.le_of_ble_eq_true rfl) (fun p e s m below meth c ls R args Q hRe hQ X hxt hV hP hS hl => ?_)
  have hl : lv_has ls 5 [(0, .ref (b + 0)), (1, .int (nI k)), (2, .int y), (3, .int z)] := hl
  refine lv_aload_n X.1 X.2.1 dX6_arcs_0 rfl (lv_at hl 0 rfl) ?_
  refine lv_iload_n X.1 X.2.1 dX6_arcs_1 rfl (lv_at hl 1 rfl) ?_
  refine wm_callVr (k := 1) (As := [.int (nI k)]) (rest := []) X hP hS hlt0 hE0 rfl (kX6_machineAt l D C b n E ts k hlt0 hE0 hlt1 hE1 (by omega)) wq2_88 wq2_90 wqP1_1 wq1_1 wq2_91 (by decide) (by rw [hRe]; exact ⟨Nat.le_of_ble_eq_true rfl, Nat.le_of_ble_eq_true rfl⟩) rfl hl.1 rfl (Nat.le_of_ble_eq_true rfl) (Nat.zero_le _) (Nat.zero_le _) dX6_arcs_2 (fun E1 H locs hw hP hS => ?_)
  have hEe := hw
  subst hEe
  refine lv_astore (lv' := [(4, .ref (b + (103 + 2 * k))), (0, .ref (b + 0)), (1, .int (nI k)), (2, .int y), (3, .int z)]) X.1 X.2.1 dX6_arcs_5 hl (by decide) rfl (fun ls hl => ?_)
  refine lv_aload X.1 X.2.1 dX6_arcs_7 (lv_at hl 0 rfl) ?_
  refine lv_iload_n X.1 X.2.1 dX6_arcs_9 rfl (lv_at hl 3 rfl) ?_
  refine wm_xcallS (k := 2) (As := [.ref (b + (103 + 2 * k)), .int y]) (rest := []) X hV hP hS  (kcheckStateX l hst D C b n E (103 + 2 * k) (104 + 2 * k) cn st en y hlt2 hE2 (by omega)) wq2_232 wq2_233 wq1_1 wq2_234 (by decide) (by rw [hRe]; exact ⟨Nat.le_of_ble_eq_true rfl, Nat.le_of_ble_eq_true rfl⟩) rfl hl.1 rfl (Nat.le_of_ble_eq_true rfl) (by rw [hRe]; exact Nat.le_of_ble_eq_true rfl) (by rw [hRe]; exact Nat.le_of_ble_eq_true rfl) dX6_arcs_10 (fun ce q9 H1 locs1 hP hS h1 h2 h3 => ?_)
  exact wm_xout X hxt hP hS h1 h2 h3 (Nat.le_refl _) (Nat.le_refl _) hQ
set_option maxHeartbeats 4000000 in
set_option maxRecDepth 100000 in
theorem karcS (l : Launch) (hst : l.stackTraces = false) (D : va_G) (C : Nat → ClassId) (b n : Nat) (E : Nat → va_E) (ts : Nat) (k cn st en : Nat) (y z w : Int32) (v : Bool) (hlt0 : 0 < n) (hE0 : E 0 = .inr (6, [.ref (b + 1), .ref (b + 2), .ref (b + 4), .int (nI ts), .ref (b + 5), .ref (b + 93), .ref (b + 100)])) (hlt1 : 1 < n) (hE1 : E 1 = wm_Q C 4 8 (fun x9 => some (b + (103 + 2 * x9)))) (hlt2 : 103 + 2 * k < n) (hE2 : E (103 + 2 * k) = .inr (2, [.ref (b + (104 + 2 * k)), .int (nI cn), .int (nI st), .int (nI en)])) (hkk : k < 8) (hk : ¬ (0 ≤ y ∧ y < nI cn)) : vx_Met l yX6_arc (wm_ws yX6_arc cX6_arc 8 (some .boolean)) { frames := 7, cells := 1, slots := 6, locals := 103 } (va_Pc [.ref (b + 0), .int (nI k), .int y, .int z, .int w, .int (nI v.toNat)] (wm_GX D C b n E)) wm_no (wm_XC D b n E wm_iob) 1 6 (wm_A b) := by
  refine wm_ofX (by decide) (Nat.le_of_ble_eq_true rfl) (fun p e s m below meth c ls R args Q hRe hQ X hxt hV hP hS hl => ?_)
  have hl : lv_has ls 8 [(0, .ref (b + 0)), (1, .int (nI k)), (2, .int y), (3, .int z), (4, .int w), (5, .int (nI v.toNat))] := hl
  refine lv_aload_n X.1 X.2.1 dX6_arc_0 rfl (lv_at hl 0 rfl) ?_
  refine lv_iload_n X.1 X.2.1 dX6_arc_1 rfl (lv_at hl 1 rfl) ?_
  refine wm_callVr (k := 1) (As := [.int (nI k)]) (rest := []) X hP hS hlt0 hE0 rfl (kX6_machineAt l D C b n E ts k hlt0 hE0 hlt1 hE1 (by omega)) wq2_88 wq2_90 wqP1_1 wq1_1 wq2_91 (by decide) (by rw [hRe]; exact ⟨Nat.le_of_ble_eq_true rfl, Nat.le_of_ble_eq_true rfl⟩) rfl hl.1 rfl (Nat.le_of_ble_eq_true rfl) (Nat.zero_le _) (Nat.zero_le _) dX6_arc_2 (fun E1 H locs hw hP hS => ?_)
  have hEe := hw
  subst hEe
  refine lv_astore (lv' := [(6, .ref (b + (103 + 2 * k))), (0, .ref (b + 0)), (1, .int (nI k)), (2, .int y), (3, .int z), (4, .int w), (5, .int (nI v.toNat))]) X.1 X.2.1 dX6_arc_5 hl (by decide) rfl (fun ls hl => ?_)
  refine lv_aload X.1 X.2.1 dX6_arc_7 (lv_at hl 0 rfl) ?_
  refine lv_iload_n X.1 X.2.1 dX6_arc_9 rfl (lv_at hl 3 rfl) ?_
  refine wm_xcallS (k := 2) (As := [.ref (b + (103 + 2 * k)), .int y]) (rest := []) X hV hP hS  (kcheckStateX l hst D C b n E (103 + 2 * k) (104 + 2 * k) cn st en y hlt2 hE2 (by omega)) wq2_232 wq2_233 wq1_1 wq2_234 (by decide) (by rw [hRe]; exact ⟨Nat.le_of_ble_eq_true rfl, Nat.le_of_ble_eq_true rfl⟩) rfl hl.1 rfl (Nat.le_of_ble_eq_true rfl) (by rw [hRe]; exact Nat.le_of_ble_eq_true rfl) (by rw [hRe]; exact Nat.le_of_ble_eq_true rfl) dX6_arc_10 (fun ce q9 H1 locs1 hP hS h1 h2 h3 => ?_)
  exact wm_xout X hxt hP hS h1 h2 h3 (Nat.le_refl _) (Nat.le_refl _) hQ
set_option maxHeartbeats 4000000 in
set_option maxRecDepth 100000 in
theorem karcT (l : Launch) (hst : l.stackTraces = false) (D : va_G) (C : Nat → ClassId) (b n : Nat) (E : Nat → va_E) (ts : Nat) (k cn st en : Nat) (sv : Nat) (z w : Int32) (v : Bool) (hlt0 : 0 < n) (hE0 : E 0 = .inr (6, [.ref (b + 1), .ref (b + 2), .ref (b + 4), .int (nI ts), .ref (b + 5), .ref (b + 93), .ref (b + 100)])) (hlt1 : 1 < n) (hE1 : E 1 = wm_Q C 4 8 (fun x9 => some (b + (103 + 2 * x9)))) (hlt2 : 103 + 2 * k < n) (hE2 : E (103 + 2 * k) = .inr (2, [.ref (b + (104 + 2 * k)), .int (nI cn), .int (nI st), .int (nI en)])) (hkk : k < 8) (hc : cn ≤ 24) (hsv : sv < cn) (hk : ¬ (0 ≤ w ∧ w < nI cn)) : vx_Met l yX6_arc (wm_ws yX6_arc cX6_arc 8 (some .boolean)) { frames := 7, cells := 1, slots := 6, locals := 103 } (va_Pc [.ref (b + 0), .int (nI k), .int (nI sv), .int z, .int w, .int (nI v.toNat)] (wm_GX D C b n E)) wm_no (wm_XC D b n E wm_iob) 1 6 (wm_A b) := by
  refine wm_ofX (by decide) (Nat.le_of_ble_eq_true rfl) (fun p e s m below meth c ls R args Q hRe hQ X hxt hV hP hS hl => ?_)
  have hl : lv_has ls 8 [(0, .ref (b + 0)), (1, .int (nI k)), (2, .int (nI sv)), (3, .int z), (4, .int w), (5, .int (nI v.toNat))] := hl
  refine lv_aload_n X.1 X.2.1 dX6_arc_0 rfl (lv_at hl 0 rfl) ?_
  refine lv_iload_n X.1 X.2.1 dX6_arc_1 rfl (lv_at hl 1 rfl) ?_
  refine wm_callVr (k := 1) (As := [.int (nI k)]) (rest := []) X hP hS hlt0 hE0 rfl (kX6_machineAt l D C b n E ts k hlt0 hE0 hlt1 hE1 (by omega)) wq2_88 wq2_90 wqP1_1 wq1_1 wq2_91 (by decide) (by rw [hRe]; exact ⟨Nat.le_of_ble_eq_true rfl, Nat.le_of_ble_eq_true rfl⟩) rfl hl.1 rfl (Nat.le_of_ble_eq_true rfl) (Nat.zero_le _) (Nat.zero_le _) dX6_arc_2 (fun E1 H locs hw hP hS => ?_)
  have hEe := hw
  subst hEe
  refine lv_astore (lv' := [(6, .ref (b + (103 + 2 * k))), (0, .ref (b + 0)), (1, .int (nI k)), (2, .int (nI sv)), (3, .int z), (4, .int w), (5, .int (nI v.toNat))]) X.1 X.2.1 dX6_arc_5 hl (by decide) rfl (fun ls hl => ?_)
  refine lv_aload X.1 X.2.1 dX6_arc_7 (lv_at hl 0 rfl) ?_
  refine lv_iload_n X.1 X.2.1 dX6_arc_9 rfl (lv_at hl 3 rfl) ?_
  refine wm_callSv (k := 2) (As := [.ref (b + (103 + 2 * k)), .int (nI sv)]) (rest := []) X hP hS  (kX6_checkState l D C b n E (103 + 2 * k) (104 + 2 * k) cn st en sv hlt2 hE2 (by omega) (by omega)) wq2_232 wq2_233 wq1_1 wq2_234 (by decide) (by rw [hRe]; exact ⟨Nat.le_of_ble_eq_true rfl, Nat.le_of_ble_eq_true rfl⟩) rfl hl.1 rfl (Nat.le_of_ble_eq_true rfl) (Nat.zero_le _) (Nat.zero_le _) dX6_arc_10 (fun E2 H locs hw hP hS => ?_)
  have hEe := hw
  subst hEe
  refine lv_aload X.1 X.2.1 dX6_arc_13 (lv_at hl 0 rfl) ?_
  refine lv_iload X.1 X.2.1 dX6_arc_15 (lv_at hl 5 rfl) ?_
  refine wm_xcallS (k := 2) (As := [.ref (b + (103 + 2 * k)), .int w]) (rest := []) X hV hP hS  (kcheckStateX l hst D C b n E (103 + 2 * k) (104 + 2 * k) cn st en w hlt2 hE2 (by omega)) wq2_232 wq2_233 wq1_1 wq2_234 (by decide) (by rw [hRe]; exact ⟨Nat.le_of_ble_eq_true rfl, Nat.le_of_ble_eq_true rfl⟩) rfl hl.1 rfl (Nat.le_of_ble_eq_true rfl) (by rw [hRe]; exact Nat.le_of_ble_eq_true rfl) (by rw [hRe]; exact Nat.le_of_ble_eq_true rfl) dX6_arc_17 (fun ce q9 H1 locs1 hP hS h1 h2 h3 => ?_)
  exact wm_xout X hxt hP hS h1 h2 h3 (Nat.le_refl _) (Nat.le_refl _) hQ
set_option maxHeartbeats 4000000 in
set_option maxRecDepth 100000 in
theorem kmarkA (l : Launch) (hst : l.stackTraces = false) (D : va_G) (C : Nat → ClassId) (b n : Nat) (E : Nat → va_E) (ts : Nat) (k cn st en : Nat) (sv : Nat) (z : Int32) (hlt0 : 0 < n) (hE0 : E 0 = .inr (6, [.ref (b + 1), .ref (b + 2), .ref (b + 4), .int (nI ts), .ref (b + 5), .ref (b + 93), .ref (b + 100)])) (hlt1 : 1 < n) (hE1 : E 1 = wm_Q C 4 8 (fun x9 => some (b + (103 + 2 * x9)))) (hlt2 : 103 + 2 * k < n) (hE2 : E (103 + 2 * k) = .inr (2, [.ref (b + (104 + 2 * k)), .int (nI cn), .int (nI st), .int (nI en)])) (hkk : k < 8) (hc : cn ≤ 24) (hsv : sv < cn) (hk : ¬ (0 ≤ z ∧ z ≤ nI 3)) : vx_Met l yX6_mark (wm_ws yX6_mark cX6_mark 5 none) { frames := 6, cells := 1, slots := 6, locals := 82 } (va_Pc [.ref (b + 0), .int (nI k), .int (nI sv), .int z] (wm_GX D C b n E)) wm_no (wm_XC D b n E wm_iae) 1 6 (wm_A b) := by
  refine wm_ofX (by decide) (Nat.le_of_ble_eq_true rfl) (fun p e s m below meth c ls R args Q hRe hQ X hxt hV hP hS hl => ?_)
  have hl : lv_has ls 5 [(0, .ref (b + 0)), (1, .int (nI k)), (2, .int (nI sv)), (3, .int z)] := hl
  refine lv_aload_n X.1 X.2.1 dX6_mark_0 rfl (lv_at hl 0 rfl) ?_
  refine lv_iload_n X.1 X.2.1 dX6_mark_1 rfl (lv_at hl 1 rfl) ?_
  refine wm_callVr (k := 1) (As := [.int (nI k)]) (rest := []) X hP hS hlt0 hE0 rfl (kX6_machineAt l D C b n E ts k hlt0 hE0 hlt1 hE1 (by omega)) wq2_88 wq2_90 wqP1_1 wq1_1 wq2_91 (by decide) (by rw [hRe]; exact ⟨Nat.le_of_ble_eq_true rfl, Nat.le_of_ble_eq_true rfl⟩) rfl hl.1 rfl (Nat.le_of_ble_eq_true rfl) (Nat.zero_le _) (Nat.zero_le _) dX6_mark_2 (fun E1 H locs hw hP hS => ?_)
  have hEe := hw
  subst hEe
  refine lv_astore (lv' := [(4, .ref (b + (103 + 2 * k))), (0, .ref (b + 0)), (1, .int (nI k)), (2, .int (nI sv)), (3, .int z)]) X.1 X.2.1 dX6_mark_5 hl (by decide) rfl (fun ls hl => ?_)
  refine lv_aload X.1 X.2.1 dX6_mark_7 (lv_at hl 0 rfl) ?_
  refine lv_iload_n X.1 X.2.1 dX6_mark_9 rfl (lv_at hl 3 rfl) ?_
  refine wm_callSv (k := 2) (As := [.ref (b + (103 + 2 * k)), .int (nI sv)]) (rest := []) X hP hS  (kX6_checkState l D C b n E (103 + 2 * k) (104 + 2 * k) cn st en sv hlt2 hE2 (by omega) (by omega)) wq2_232 wq2_233 wq1_1 wq2_234 (by decide) (by rw [hRe]; exact ⟨Nat.le_of_ble_eq_true rfl, Nat.le_of_ble_eq_true rfl⟩) rfl hl.1 rfl (Nat.le_of_ble_eq_true rfl) (Nat.zero_le _) (Nat.zero_le _) dX6_mark_10 (fun E2 H locs hw hP hS => ?_)
  have hEe := hw
  subst hEe
  refine lv_iload_n X.1 X.2.1 dX6_mark_13 rfl (lv_at hl 4 rfl) ?_
  refine lv_if_lt (tgt := 22) X.1 X.2.1 dX6_mark_14 (by decide) (fun hc14 => ?_) (fun hc14 => ?_)
  · exact wm_thrA (i := 87) hst X hxt hV hP hS (by simp [wm_strs]; rfl) hl.1 (by rw [hRe]; exact ⟨Nat.le_of_ble_eq_true rfl, Nat.le_of_ble_eq_true rfl, Nat.le_of_ble_eq_true rfl, Nat.le_of_ble_eq_true rfl⟩) dX6_mark_22 dX6_mark_25 dX6_mark_26 dX6_mark_28 dX6_mark_31 hQ
  · refine lv_iload_n X.1 X.2.1 dX6_mark_17 rfl (lv_at hl 4 rfl) ?_
    refine lv_iconst (v := nI 3) X.1 X.2.1 dX6_mark_18 (by decide) ?_
    refine lv_icmp_le (tgt := 32) X.1 X.2.1 dX6_mark_19 (by decide) (fun hc19 => ?_) (fun hc19 => ?_)
    · exact absurd hc19 (fun q => hk ⟨Int32.not_lt.mp hc14, q⟩)
    · exact wm_thrA (i := 87) hst X hxt hV hP hS (by simp [wm_strs]; rfl) hl.1 (by rw [hRe]; exact ⟨Nat.le_of_ble_eq_true rfl, Nat.le_of_ble_eq_true rfl, Nat.le_of_ble_eq_true rfl, Nat.le_of_ble_eq_true rfl⟩) dX6_mark_22 dX6_mark_25 dX6_mark_26 dX6_mark_28 dX6_mark_31 hQ
set_option maxHeartbeats 4000000 in
set_option maxRecDepth 100000 in
theorem karcsA (l : Launch) (hst : l.stackTraces = false) (D : va_G) (C : Nat → ClassId) (b n : Nat) (E : Nat → va_E) (ts : Nat) (k cn st en : Nat) (sv : Nat) (z : Int32) (hlt0 : 0 < n) (hE0 : E 0 = .inr (6, [.ref (b + 1), .ref (b + 2), .ref (b + 4), .int (nI ts), .ref (b + 5), .ref (b + 93), .ref (b + 100)])) (hlt1 : 1 < n) (hE1 : E 1 = wm_Q C 4 8 (fun x9 => some (b + (103 + 2 * x9)))) (hlt2 : 103 + 2 * k < n) (hE2 : E (103 + 2 * k) = .inr (2, [.ref (b + (104 + 2 * k)), .int (nI cn), .int (nI st), .int (nI en)])) (hkk : k < 8) (hc : cn ≤ 24) (hsv : sv < cn) (hk : ¬ (0 ≤ z ∧ z ≤ nI 8)) : vx_Met l yX6_arcs (wm_ws yX6_arcs cX6_arcs 5 (some .int)) { frames := 6, cells := 1, slots := 6, locals := 82 } (va_Pc [.ref (b + 0), .int (nI k), .int (nI sv), .int z] (wm_GX D C b n E)) wm_no (wm_XC D b n E wm_iae) 1 6 (wm_A b) := by
  refine wm_ofX (by decide) (Nat.le_of_ble_eq_true rfl) (fun p e s m below meth c ls R args Q hRe hQ X hxt hV hP hS hl => ?_)
  have hl : lv_has ls 5 [(0, .ref (b + 0)), (1, .int (nI k)), (2, .int (nI sv)), (3, .int z)] := hl
  refine lv_aload_n X.1 X.2.1 dX6_arcs_0 rfl (lv_at hl 0 rfl) ?_
  refine lv_iload_n X.1 X.2.1 dX6_arcs_1 rfl (lv_at hl 1 rfl) ?_
  refine wm_callVr (k := 1) (As := [.int (nI k)]) (rest := []) X hP hS hlt0 hE0 rfl (kX6_machineAt l D C b n E ts k hlt0 hE0 hlt1 hE1 (by omega)) wq2_88 wq2_90 wqP1_1 wq1_1 wq2_91 (by decide) (by rw [hRe]; exact ⟨Nat.le_of_ble_eq_true rfl, Nat.le_of_ble_eq_true rfl⟩) rfl hl.1 rfl (Nat.le_of_ble_eq_true rfl) (Nat.zero_le _) (Nat.zero_le _) dX6_arcs_2 (fun E1 H locs hw hP hS => ?_)
  have hEe := hw
  subst hEe
  refine lv_astore (lv' := [(4, .ref (b + (103 + 2 * k))), (0, .ref (b + 0)), (1, .int (nI k)), (2, .int (nI sv)), (3, .int z)]) X.1 X.2.1 dX6_arcs_5 hl (by decide) rfl (fun ls hl => ?_)
  refine lv_aload X.1 X.2.1 dX6_arcs_7 (lv_at hl 0 rfl) ?_
  refine lv_iload_n X.1 X.2.1 dX6_arcs_9 rfl (lv_at hl 3 rfl) ?_
  refine wm_callSv (k := 2) (As := [.ref (b + (103 + 2 * k)), .int (nI sv)]) (rest := []) X hP hS  (kX6_checkState l D C b n E (103 + 2 * k) (104 + 2 * k) cn st en sv hlt2 hE2 (by omega) (by omega)) wq2_232 wq2_233 wq1_1 wq2_234 (by decide) (by rw [hRe]; exact ⟨Nat.le_of_ble_eq_true rfl, Nat.le_of_ble_eq_true rfl⟩) rfl hl.1 rfl (Nat.le_of_ble_eq_true rfl) (Nat.zero_le _) (Nat.zero_le _) dX6_arcs_10 (fun E2 H locs hw hP hS => ?_)
  have hEe := hw
  subst hEe
  refine lv_iload_n X.1 X.2.1 dX6_arcs_13 rfl (lv_at hl 4 rfl) ?_
  refine lv_if_lt (tgt := 23) X.1 X.2.1 dX6_arcs_14 (by decide) (fun hc14 => ?_) (fun hc14 => ?_)
  · exact wm_thrA (i := 99) hst X hxt hV hP hS (by simp [wm_strs]; rfl) hl.1 (by rw [hRe]; exact ⟨Nat.le_of_ble_eq_true rfl, Nat.le_of_ble_eq_true rfl, Nat.le_of_ble_eq_true rfl, Nat.le_of_ble_eq_true rfl⟩) dX6_arcs_23 dX6_arcs_26 dX6_arcs_27 dX6_arcs_29 dX6_arcs_32 hQ
  · refine lv_iload_n X.1 X.2.1 dX6_arcs_17 rfl (lv_at hl 4 rfl) ?_
    refine lv_bipush (v := nI 8) X.1 X.2.1 dX6_arcs_18 (by decide) ?_
    refine lv_icmp_le (tgt := 33) X.1 X.2.1 dX6_arcs_20 (by decide) (fun hc20 => ?_) (fun hc20 => ?_)
    · exact absurd hc20 (fun q => hk ⟨Int32.not_lt.mp hc14, q⟩)
    · exact wm_thrA (i := 99) hst X hxt hV hP hS (by simp [wm_strs]; rfl) hl.1 (by rw [hRe]; exact ⟨Nat.le_of_ble_eq_true rfl, Nat.le_of_ble_eq_true rfl, Nat.le_of_ble_eq_true rfl, Nat.le_of_ble_eq_true rfl⟩) dX6_arcs_23 dX6_arcs_26 dX6_arcs_27 dX6_arcs_29 dX6_arcs_32 hQ
set_option maxHeartbeats 4000000 in
set_option maxRecDepth 100000 in
theorem karcA (l : Launch) (hst : l.stackTraces = false) (D : va_G) (C : Nat → ClassId) (b n : Nat) (E : Nat → va_E) (ts : Nat) (k cn st en : Nat) (sv sw : Nat) (z : Int32) (v : Bool) (hlt0 : 0 < n) (hE0 : E 0 = .inr (6, [.ref (b + 1), .ref (b + 2), .ref (b + 4), .int (nI ts), .ref (b + 5), .ref (b + 93), .ref (b + 100)])) (hlt1 : 1 < n) (hE1 : E 1 = wm_Q C 4 8 (fun x9 => some (b + (103 + 2 * x9)))) (hlt2 : 103 + 2 * k < n) (hE2 : E (103 + 2 * k) = .inr (2, [.ref (b + (104 + 2 * k)), .int (nI cn), .int (nI st), .int (nI en)])) (hkk : k < 8) (hc : cn ≤ 24) (hsv : sv < cn) (hsw : sw < cn) (hk : ¬ (0 ≤ z ∧ z < nI 8)) : vx_Met l yX6_arc (wm_ws yX6_arc cX6_arc 8 (some .boolean)) { frames := 6, cells := 1, slots := 6, locals := 82 } (va_Pc [.ref (b + 0), .int (nI k), .int (nI sv), .int z, .int (nI sw), .int (nI v.toNat)] (wm_GX D C b n E)) wm_no (wm_XC D b n E wm_iae) 1 6 (wm_A b) := by
  refine wm_ofX (by decide) (Nat.le_of_ble_eq_true rfl) (fun p e s m below meth c ls R args Q hRe hQ X hxt hV hP hS hl => ?_)
  have hl : lv_has ls 8 [(0, .ref (b + 0)), (1, .int (nI k)), (2, .int (nI sv)), (3, .int z), (4, .int (nI sw)), (5, .int (nI v.toNat))] := hl
  refine lv_aload_n X.1 X.2.1 dX6_arc_0 rfl (lv_at hl 0 rfl) ?_
  refine lv_iload_n X.1 X.2.1 dX6_arc_1 rfl (lv_at hl 1 rfl) ?_
  refine wm_callVr (k := 1) (As := [.int (nI k)]) (rest := []) X hP hS hlt0 hE0 rfl (kX6_machineAt l D C b n E ts k hlt0 hE0 hlt1 hE1 (by omega)) wq2_88 wq2_90 wqP1_1 wq1_1 wq2_91 (by decide) (by rw [hRe]; exact ⟨Nat.le_of_ble_eq_true rfl, Nat.le_of_ble_eq_true rfl⟩) rfl hl.1 rfl (Nat.le_of_ble_eq_true rfl) (Nat.zero_le _) (Nat.zero_le _) dX6_arc_2 (fun E1 H locs hw hP hS => ?_)
  have hEe := hw
  subst hEe
  refine lv_astore (lv' := [(6, .ref (b + (103 + 2 * k))), (0, .ref (b + 0)), (1, .int (nI k)), (2, .int (nI sv)), (3, .int z), (4, .int (nI sw)), (5, .int (nI v.toNat))]) X.1 X.2.1 dX6_arc_5 hl (by decide) rfl (fun ls hl => ?_)
  refine lv_aload X.1 X.2.1 dX6_arc_7 (lv_at hl 0 rfl) ?_
  refine lv_iload_n X.1 X.2.1 dX6_arc_9 rfl (lv_at hl 3 rfl) ?_
  refine wm_callSv (k := 2) (As := [.ref (b + (103 + 2 * k)), .int (nI sv)]) (rest := []) X hP hS  (kX6_checkState l D C b n E (103 + 2 * k) (104 + 2 * k) cn st en sv hlt2 hE2 (by omega) (by omega)) wq2_232 wq2_233 wq1_1 wq2_234 (by decide) (by rw [hRe]; exact ⟨Nat.le_of_ble_eq_true rfl, Nat.le_of_ble_eq_true rfl⟩) rfl hl.1 rfl (Nat.le_of_ble_eq_true rfl) (Nat.zero_le _) (Nat.zero_le _) dX6_arc_10 (fun E2 H locs hw hP hS => ?_)
  have hEe := hw
  subst hEe
  refine lv_aload X.1 X.2.1 dX6_arc_13 (lv_at hl 0 rfl) ?_
  refine lv_iload X.1 X.2.1 dX6_arc_15 (lv_at hl 5 rfl) ?_
  refine wm_callSv (k := 2) (As := [.ref (b + (103 + 2 * k)), .int (nI sw)]) (rest := []) X hP hS  (kX6_checkState l D C b n E (103 + 2 * k) (104 + 2 * k) cn st en sw hlt2 hE2 (by omega) (by omega)) wq2_232 wq2_233 wq1_1 wq2_234 (by decide) (by rw [hRe]; exact ⟨Nat.le_of_ble_eq_true rfl, Nat.le_of_ble_eq_true rfl⟩) rfl hl.1 rfl (Nat.le_of_ble_eq_true rfl) (Nat.zero_le _) (Nat.zero_le _) dX6_arc_17 (fun E3 H locs hw hP hS => ?_)
  have hEe := hw
  subst hEe
  refine lv_iload_n X.1 X.2.1 dX6_arc_20 rfl (lv_at hl 4 rfl) ?_
  refine lv_if_lt (tgt := 30) X.1 X.2.1 dX6_arc_21 (by decide) (fun hc21 => ?_) (fun hc21 => ?_)
  · exact wm_thrA (i := 99) hst X hxt hV hP hS (by simp [wm_strs]; rfl) hl.1 (by rw [hRe]; exact ⟨Nat.le_of_ble_eq_true rfl, Nat.le_of_ble_eq_true rfl, Nat.le_of_ble_eq_true rfl, Nat.le_of_ble_eq_true rfl⟩) dX6_arc_30 dX6_arc_33 dX6_arc_34 dX6_arc_36 dX6_arc_39 hQ
  · refine lv_iload_n X.1 X.2.1 dX6_arc_24 rfl (lv_at hl 4 rfl) ?_
    refine lv_bipush (v := nI 8) X.1 X.2.1 dX6_arc_25 (by decide) ?_
    refine lv_icmp_lt (tgt := 40) X.1 X.2.1 dX6_arc_27 (by decide) (fun hc27 => ?_) (fun hc27 => ?_)
    · exact absurd hc27 (fun q => hk ⟨Int32.not_lt.mp hc21, q⟩)
    · exact wm_thrA (i := 99) hst X hxt hV hP hS (by simp [wm_strs]; rfl) hl.1 (by rw [hRe]; exact ⟨Nat.le_of_ble_eq_true rfl, Nat.le_of_ble_eq_true rfl, Nat.le_of_ble_eq_true rfl, Nat.le_of_ble_eq_true rfl⟩) dX6_arc_30 dX6_arc_33 dX6_arc_34 dX6_arc_36 dX6_arc_39 hQ
set_option maxHeartbeats 4000000 in
set_option maxRecDepth 100000 in
theorem ksetsA (l : Launch) (hst : l.stackTraces = false) (D : va_G) (C : Nat → ClassId) (b n : Nat) (E : Nat → va_E) (ts : Nat) (k cn st en : Nat) (hlt0 : 0 < n) (hE0 : E 0 = .inr (6, [.ref (b + 1), .ref (b + 2), .ref (b + 4), .int (nI ts), .ref (b + 5), .ref (b + 93), .ref (b + 100)])) (hlt1 : 1 < n) (hE1 : E 1 = wm_Q C 4 8 (fun x9 => some (b + (103 + 2 * x9)))) (hlt2 : 103 + 2 * k < n) (hE2 : E (103 + 2 * k) = .inr (2, [.ref (b + (104 + 2 * k)), .int (nI cn), .int (nI st), .int (nI en)])) (hkk : k < 8) (hc : 11 < cn) (hc2 : cn ≤ 24) : vx_Met l yX6_sets (wm_ws yX6_sets cX6_sets 3 (some .int)) { frames := 7, cells := 1, slots := 6, locals := 102 } (va_Pc [.ref (b + 0), .int (nI k)] (wm_GX D C b n E)) wm_no (wm_XC D b n E wm_iae) 1 6 (wm_A b) := by
  refine wm_ofX (by decide) (Nat.le_of_ble_eq_true rfl) (fun p e s m below meth c ls R args Q hRe hQ X hxt hV hP hS hl => ?_)
  have hl : lv_has ls 3 [(0, .ref (b + 0)), (1, .int (nI k))] := hl
  refine lv_aload_n X.1 X.2.1 dX6_sets_0 rfl (lv_at hl 0 rfl) ?_
  refine lv_iload_n X.1 X.2.1 dX6_sets_1 rfl (lv_at hl 1 rfl) ?_
  refine wm_callVr (k := 1) (As := [.int (nI k)]) (rest := []) X hP hS hlt0 hE0 rfl (kX6_machineAt l D C b n E ts k hlt0 hE0 hlt1 hE1 (by omega)) wq2_88 wq2_90 wqP1_1 wq1_1 wq2_91 (by decide) (by rw [hRe]; exact ⟨Nat.le_of_ble_eq_true rfl, Nat.le_of_ble_eq_true rfl⟩) rfl hl.1 rfl (Nat.le_of_ble_eq_true rfl) (Nat.zero_le _) (Nat.zero_le _) dX6_sets_2 (fun E1 H locs hw hP hS => ?_)
  have hEe := hw
  subst hEe
  refine lv_astore_n (lv' := [(2, .ref (b + (103 + 2 * k))), (0, .ref (b + 0)), (1, .int (nI k))]) X.1 X.2.1 dX6_sets_5 rfl hl (by decide) rfl (fun ls hl => ?_)
  refine lv_aload_n X.1 X.2.1 dX6_sets_6 rfl (lv_at hl 0 rfl) ?_
  refine wm_xcallS (k := 1) (As := [.ref (b + (103 + 2 * k))]) (rest := []) X hV hP hS  (kcheckFewX l hst D C b n E (103 + 2 * k) (104 + 2 * k) cn st en hlt2 hE2 (by omega) (by omega)) wq3_108 wq3_109 wq1_1 wq3_110 (by decide) (by rw [hRe]; exact ⟨Nat.le_of_ble_eq_true rfl, Nat.le_of_ble_eq_true rfl⟩) rfl hl.1 rfl (Nat.le_of_ble_eq_true rfl) (by rw [hRe]; exact Nat.le_of_ble_eq_true rfl) (by rw [hRe]; exact Nat.le_of_ble_eq_true rfl) dX6_sets_7 (fun ce q9 H1 locs1 hP hS h1 h2 h3 => ?_)
  exact wm_xout X hxt hP hS h1 h2 h3 (Nat.le_refl _) (Nat.le_refl _) hQ
set_option maxHeartbeats 4000000 in
set_option maxRecDepth 100000 in
theorem krestsA (l : Launch) (hst : l.stackTraces = false) (D : va_G) (C : Nat → ClassId) (b n : Nat) (E : Nat → va_E) (ts : Nat) (k cn st en : Nat) (hlt0 : 0 < n) (hE0 : E 0 = .inr (6, [.ref (b + 1), .ref (b + 2), .ref (b + 4), .int (nI ts), .ref (b + 5), .ref (b + 93), .ref (b + 100)])) (hlt1 : 1 < n) (hE1 : E 1 = wm_Q C 4 8 (fun x9 => some (b + (103 + 2 * x9)))) (hlt2 : 103 + 2 * k < n) (hE2 : E (103 + 2 * k) = .inr (2, [.ref (b + (104 + 2 * k)), .int (nI cn), .int (nI st), .int (nI en)])) (hkk : k < 8) (hc : 11 < cn) (hc2 : cn ≤ 24) : vx_Met l yX6_rests (wm_ws yX6_rests cX6_rests 3 (some .int)) { frames := 7, cells := 1, slots := 6, locals := 102 } (va_Pc [.ref (b + 0), .int (nI k)] (wm_GX D C b n E)) wm_no (wm_XC D b n E wm_iae) 1 6 (wm_A b) := by
  refine wm_ofX (by decide) (Nat.le_of_ble_eq_true rfl) (fun p e s m below meth c ls R args Q hRe hQ X hxt hV hP hS hl => ?_)
  have hl : lv_has ls 3 [(0, .ref (b + 0)), (1, .int (nI k))] := hl
  refine lv_aload_n X.1 X.2.1 dX6_rests_0 rfl (lv_at hl 0 rfl) ?_
  refine lv_iload_n X.1 X.2.1 dX6_rests_1 rfl (lv_at hl 1 rfl) ?_
  refine wm_callVr (k := 1) (As := [.int (nI k)]) (rest := []) X hP hS hlt0 hE0 rfl (kX6_machineAt l D C b n E ts k hlt0 hE0 hlt1 hE1 (by omega)) wq2_88 wq2_90 wqP1_1 wq1_1 wq2_91 (by decide) (by rw [hRe]; exact ⟨Nat.le_of_ble_eq_true rfl, Nat.le_of_ble_eq_true rfl⟩) rfl hl.1 rfl (Nat.le_of_ble_eq_true rfl) (Nat.zero_le _) (Nat.zero_le _) dX6_rests_2 (fun E1 H locs hw hP hS => ?_)
  have hEe := hw
  subst hEe
  refine lv_astore_n (lv' := [(2, .ref (b + (103 + 2 * k))), (0, .ref (b + 0)), (1, .int (nI k))]) X.1 X.2.1 dX6_rests_5 rfl hl (by decide) rfl (fun ls hl => ?_)
  refine lv_aload_n X.1 X.2.1 dX6_rests_6 rfl (lv_at hl 0 rfl) ?_
  refine wm_xcallS (k := 1) (As := [.ref (b + (103 + 2 * k))]) (rest := []) X hV hP hS  (kcheckFewX l hst D C b n E (103 + 2 * k) (104 + 2 * k) cn st en hlt2 hE2 (by omega) (by omega)) wq3_108 wq3_109 wq1_1 wq3_110 (by decide) (by rw [hRe]; exact ⟨Nat.le_of_ble_eq_true rfl, Nat.le_of_ble_eq_true rfl⟩) rfl hl.1 rfl (Nat.le_of_ble_eq_true rfl) (by rw [hRe]; exact Nat.le_of_ble_eq_true rfl) (by rw [hRe]; exact Nat.le_of_ble_eq_true rfl) dX6_rests_7 (fun ce q9 H1 locs1 hP hS h1 h2 h3 => ?_)
  exact wm_xout X hxt hP hS h1 h2 h3 (Nat.le_refl _) (Nat.le_refl _) hQ
set_option maxHeartbeats 4000000 in
set_option maxRecDepth 100000 in
theorem kwordsA (l : Launch) (hst : l.stackTraces = false) (D : va_G) (C : Nat → ClassId) (b n : Nat) (E : Nat → va_E) (ts : Nat) (k cn st en : Nat) (y : Int32) (hlt0 : 0 < n) (hE0 : E 0 = .inr (6, [.ref (b + 1), .ref (b + 2), .ref (b + 4), .int (nI ts), .ref (b + 5), .ref (b + 93), .ref (b + 100)])) (hlt1 : 1 < n) (hE1 : E 1 = wm_Q C 4 8 (fun x9 => some (b + (103 + 2 * x9)))) (hlt2 : 103 + 2 * k < n) (hE2 : E (103 + 2 * k) = .inr (2, [.ref (b + (104 + 2 * k)), .int (nI cn), .int (nI st), .int (nI en)])) (hkk : k < 8) (hc : 11 < cn) (hc2 : cn ≤ 24) : vx_Met l yX6_words (wm_ws yX6_words cX6_words 4 (some .long)) { frames := 7, cells := 1, slots := 6, locals := 102 } (va_Pc [.ref (b + 0), .int (nI k), .int y] (wm_GX D C b n E)) wm_no (wm_XC D b n E wm_iae) 1 6 (wm_A b) := by
  refine wm_ofX (by decide) (Nat.le_of_ble_eq_true rfl) (fun p e s m below meth c ls R args Q hRe hQ X hxt hV hP hS hl => ?_)
  have hl : lv_has ls 4 [(0, .ref (b + 0)), (1, .int (nI k)), (2, .int y)] := hl
  refine lv_aload_n X.1 X.2.1 dX6_words_0 rfl (lv_at hl 0 rfl) ?_
  refine lv_iload_n X.1 X.2.1 dX6_words_1 rfl (lv_at hl 1 rfl) ?_
  refine wm_callVr (k := 1) (As := [.int (nI k)]) (rest := []) X hP hS hlt0 hE0 rfl (kX6_machineAt l D C b n E ts k hlt0 hE0 hlt1 hE1 (by omega)) wq2_88 wq2_90 wqP1_1 wq1_1 wq2_91 (by decide) (by rw [hRe]; exact ⟨Nat.le_of_ble_eq_true rfl, Nat.le_of_ble_eq_true rfl⟩) rfl hl.1 rfl (Nat.le_of_ble_eq_true rfl) (Nat.zero_le _) (Nat.zero_le _) dX6_words_2 (fun E1 H locs hw hP hS => ?_)
  have hEe := hw
  subst hEe
  refine lv_astore_n (lv' := [(3, .ref (b + (103 + 2 * k))), (0, .ref (b + 0)), (1, .int (nI k)), (2, .int y)]) X.1 X.2.1 dX6_words_5 rfl hl (by decide) rfl (fun ls hl => ?_)
  refine lv_aload_n X.1 X.2.1 dX6_words_6 rfl (lv_at hl 0 rfl) ?_
  refine wm_xcallS (k := 1) (As := [.ref (b + (103 + 2 * k))]) (rest := []) X hV hP hS  (kcheckFewX l hst D C b n E (103 + 2 * k) (104 + 2 * k) cn st en hlt2 hE2 (by omega) (by omega)) wq3_108 wq3_109 wq1_1 wq3_110 (by decide) (by rw [hRe]; exact ⟨Nat.le_of_ble_eq_true rfl, Nat.le_of_ble_eq_true rfl⟩) rfl hl.1 rfl (Nat.le_of_ble_eq_true rfl) (by rw [hRe]; exact Nat.le_of_ble_eq_true rfl) (by rw [hRe]; exact Nat.le_of_ble_eq_true rfl) dX6_words_7 (fun ce q9 H1 locs1 hP hS h1 h2 h3 => ?_)
  exact wm_xout X hxt hP hS h1 h2 h3 (Nat.le_refl _) (Nat.le_refl _) hQ
set_option maxHeartbeats 4000000 in
set_option maxRecDepth 100000 in
theorem kwordsB (l : Launch) (hst : l.stackTraces = false) (D : va_G) (C : Nat → ClassId) (b n : Nat) (E : Nat → va_E) (ts : Nat) (k cn st en : Nat) (y : Int32) (hlt0 : 0 < n) (hE0 : E 0 = .inr (6, [.ref (b + 1), .ref (b + 2), .ref (b + 4), .int (nI ts), .ref (b + 5), .ref (b + 93), .ref (b + 100)])) (hlt1 : 1 < n) (hE1 : E 1 = wm_Q C 4 8 (fun x9 => some (b + (103 + 2 * x9)))) (hlt2 : 103 + 2 * k < n) (hE2 : E (103 + 2 * k) = .inr (2, [.ref (b + (104 + 2 * k)), .int (nI cn), .int (nI st), .int (nI en)])) (hkk : k < 8) (hc : cn ≤ 11) (hk : ¬ (0 ≤ y ∧ y ≤ nI 20)) : vx_Met l yX6_words (wm_ws yX6_words cX6_words 4 (some .long)) { frames := 6, cells := 1, slots := 6, locals := 82 } (va_Pc [.ref (b + 0), .int (nI k), .int y] (wm_GX D C b n E)) wm_no (wm_XC D b n E wm_iae) 1 6 (wm_A b) := by
  refine wm_ofX (by decide) (Nat.le_of_ble_eq_true rfl) (fun p e s m below meth c ls R args Q hRe hQ X hxt hV hP hS hl => ?_)
  have hl : lv_has ls 4 [(0, .ref (b + 0)), (1, .int (nI k)), (2, .int y)] := hl
  refine lv_aload_n X.1 X.2.1 dX6_words_0 rfl (lv_at hl 0 rfl) ?_
  refine lv_iload_n X.1 X.2.1 dX6_words_1 rfl (lv_at hl 1 rfl) ?_
  refine wm_callVr (k := 1) (As := [.int (nI k)]) (rest := []) X hP hS hlt0 hE0 rfl (kX6_machineAt l D C b n E ts k hlt0 hE0 hlt1 hE1 (by omega)) wq2_88 wq2_90 wqP1_1 wq1_1 wq2_91 (by decide) (by rw [hRe]; exact ⟨Nat.le_of_ble_eq_true rfl, Nat.le_of_ble_eq_true rfl⟩) rfl hl.1 rfl (Nat.le_of_ble_eq_true rfl) (Nat.zero_le _) (Nat.zero_le _) dX6_words_2 (fun E1 H locs hw hP hS => ?_)
  have hEe := hw
  subst hEe
  refine lv_astore_n (lv' := [(3, .ref (b + (103 + 2 * k))), (0, .ref (b + 0)), (1, .int (nI k)), (2, .int y)]) X.1 X.2.1 dX6_words_5 rfl hl (by decide) rfl (fun ls hl => ?_)
  refine lv_aload_n X.1 X.2.1 dX6_words_6 rfl (lv_at hl 0 rfl) ?_
  refine wm_callSv (k := 1) (As := [.ref (b + (103 + 2 * k))]) (rest := []) X hP hS  (kX6_checkFewStates l D C b n E (103 + 2 * k) (104 + 2 * k) cn st en hlt2 hE2 (by omega)) wq3_108 wq3_109 wq1_1 wq3_110 (by decide) (by rw [hRe]; exact ⟨Nat.le_of_ble_eq_true rfl, Nat.le_of_ble_eq_true rfl⟩) rfl hl.1 rfl (Nat.le_of_ble_eq_true rfl) (Nat.zero_le _) (Nat.zero_le _) dX6_words_7 (fun E2 H locs hw hP hS => ?_)
  have hEe := hw
  subst hEe
  refine lv_iload_n X.1 X.2.1 dX6_words_10 rfl (lv_at hl 3 rfl) ?_
  refine lv_if_lt (tgt := 20) X.1 X.2.1 dX6_words_11 (by decide) (fun hc11 => ?_) (fun hc11 => ?_)
  · exact wm_thrA (i := 154) hst X hxt hV hP hS (by simp [wm_strs]; rfl) hl.1 (by rw [hRe]; exact ⟨Nat.le_of_ble_eq_true rfl, Nat.le_of_ble_eq_true rfl, Nat.le_of_ble_eq_true rfl, Nat.le_of_ble_eq_true rfl⟩) dX6_words_20 dX6_words_23 dX6_words_24 dX6_words_26 dX6_words_29 hQ
  · refine lv_iload_n X.1 X.2.1 dX6_words_14 rfl (lv_at hl 3 rfl) ?_
    refine lv_bipush (v := nI 20) X.1 X.2.1 dX6_words_15 (by decide) ?_
    refine lv_icmp_le (tgt := 30) X.1 X.2.1 dX6_words_17 (by decide) (fun hc17 => ?_) (fun hc17 => ?_)
    · exact absurd hc17 (fun q => hk ⟨Int32.not_lt.mp hc11, q⟩)
    · exact wm_thrA (i := 154) hst X hxt hV hP hS (by simp [wm_strs]; rfl) hl.1 (by rw [hRe]; exact ⟨Nat.le_of_ble_eq_true rfl, Nat.le_of_ble_eq_true rfl, Nat.le_of_ble_eq_true rfl, Nat.le_of_ble_eq_true rfl⟩) dX6_words_20 dX6_words_23 dX6_words_24 dX6_words_26 dX6_words_29 hQ
set_option maxHeartbeats 4000000 in
set_option maxRecDepth 100000 in
theorem kwithinA (l : Launch) (hst : l.stackTraces = false) (D : va_G) (C : Nat → ClassId) (b n : Nat) (E : Nat → va_E) (ts : Nat) (k i cn st en : Nat) (hlt0 : 0 < n) (hE0 : E 0 = .inr (6, [.ref (b + 1), .ref (b + 2), .ref (b + 4), .int (nI ts), .ref (b + 5), .ref (b + 93), .ref (b + 100)])) (hlt1 : 1 < n) (hE1 : E 1 = wm_Q C 4 8 (fun x9 => some (b + (103 + 2 * x9)))) (hlt2 : 103 + 2 * i < n) (hE2 : E (103 + 2 * i) = .inr (2, [.ref (b + (104 + 2 * i)), .int (nI cn), .int (nI st), .int (nI en)])) (hkk : k < 8) (hii : i < 8) (hc : 11 < cn) (hc2 : cn ≤ 24) : vx_Met l yX6_within (wm_ws yX6_within cX6_within 5 (some .boolean)) { frames := 7, cells := 1, slots := 6, locals := 102 } (va_Pc [.ref (b + 0), .int (nI k), .int (nI i)] (wm_GX D C b n E)) wm_no (wm_XC D b n E wm_iae) 1 6 (wm_A b) := by
  refine wm_ofX (by decide) (Nat.le_of_ble_eq_true rfl) (fun p e s m below meth c ls R args Q hRe hQ X hxt hV hP hS hl => ?_)
  have hl : lv_has ls 5 [(0, .ref (b + 0)), (1, .int (nI k)), (2, .int (nI i))] := hl
  refine lv_aload_n X.1 X.2.1 dX6_within_0 rfl (lv_at hl 0 rfl) ?_
  refine lv_iload_n X.1 X.2.1 dX6_within_1 rfl (lv_at hl 1 rfl) ?_
  refine wm_callVr (k := 1) (As := [.int (nI k)]) (rest := []) X hP hS hlt0 hE0 rfl (kX6_machineAt l D C b n E ts k hlt0 hE0 hlt1 hE1 (by omega)) wq2_88 wq2_90 wqP1_1 wq1_1 wq2_91 (by decide) (by rw [hRe]; exact ⟨Nat.le_of_ble_eq_true rfl, Nat.le_of_ble_eq_true rfl⟩) rfl hl.1 rfl (Nat.le_of_ble_eq_true rfl) (Nat.zero_le _) (Nat.zero_le _) dX6_within_2 (fun E1 H locs hw hP hS => ?_)
  have hEe := hw
  subst hEe
  refine lv_astore_n (lv' := [(3, .ref (b + (103 + 2 * k))), (0, .ref (b + 0)), (1, .int (nI k)), (2, .int (nI i))]) X.1 X.2.1 dX6_within_5 rfl hl (by decide) rfl (fun ls hl => ?_)
  refine lv_aload_n X.1 X.2.1 dX6_within_6 rfl (lv_at hl 1 rfl) ?_
  refine lv_iload_n X.1 X.2.1 dX6_within_7 rfl (lv_at hl 3 rfl) ?_
  refine wm_callVr (k := 1) (As := [.int (nI i)]) (rest := []) X hP hS hlt0 hE0 rfl (kX6_machineAt l D C b n E ts i hlt0 hE0 hlt1 hE1 (by omega)) wq2_88 wq2_90 wqP1_1 wq1_1 wq2_91 (by decide) (by rw [hRe]; exact ⟨Nat.le_of_ble_eq_true rfl, Nat.le_of_ble_eq_true rfl⟩) rfl hl.1 rfl (Nat.le_of_ble_eq_true rfl) (Nat.zero_le _) (Nat.zero_le _) dX6_within_8 (fun E2 H locs hw hP hS => ?_)
  have hEe := hw
  subst hEe
  refine lv_astore (lv' := [(4, .ref (b + (103 + 2 * i))), (3, .ref (b + (103 + 2 * k))), (0, .ref (b + 0)), (1, .int (nI k)), (2, .int (nI i))]) X.1 X.2.1 dX6_within_11 hl (by decide) rfl (fun ls hl => ?_)
  refine lv_aload X.1 X.2.1 dX6_within_13 (lv_at hl 0 rfl) ?_
  refine wm_xcallS (k := 1) (As := [.ref (b + (103 + 2 * i))]) (rest := []) X hV hP hS  (kcheckFewX l hst D C b n E (103 + 2 * i) (104 + 2 * i) cn st en hlt2 hE2 (by omega) (by omega)) wq3_108 wq3_109 wq1_1 wq3_110 (by decide) (by rw [hRe]; exact ⟨Nat.le_of_ble_eq_true rfl, Nat.le_of_ble_eq_true rfl⟩) rfl hl.1 rfl (Nat.le_of_ble_eq_true rfl) (by rw [hRe]; exact Nat.le_of_ble_eq_true rfl) (by rw [hRe]; exact Nat.le_of_ble_eq_true rfl) dX6_within_15 (fun ce q9 H1 locs1 hP hS h1 h2 h3 => ?_)
  exact wm_xout X hxt hP hS h1 h2 h3 (Nat.le_refl _) (Nat.le_refl _) hQ
set_option maxHeartbeats 4000000 in
set_option maxRecDepth 100000 in
theorem kletterX (l : Launch) (hst : l.stackTraces = false) (D : va_G) (C : Nat → ClassId) (b n : Nat) (E : Nat → va_E) (ts gc wg wl : Nat) (x : Int32) (hlt0 : 0 < n) (hE0 : E 0 = .inr (6, [.ref (b + 1), .ref (b + 2), .ref (b + 4), .int (nI ts), .ref (b + 5), .ref (b + 93), .ref (b + 100)])) (hlt1 : 100 < n) (hE1 : E 100 = .inr (5, [.ref (b + 101), .ref (b + 102), .int (nI gc), .int (nI wg), .int (nI wl)])) (hk : ¬ (0 ≤ x ∧ x < nI wl)) : vx_Met l yX6_letter (wm_ws yX6_letter cX6_letter 2 (some .int)) { frames := 6, cells := 1, slots := 6, locals := 82 } (va_Pc [.ref (b + 0), .int x] (wm_GX D C b n E)) wm_no (wm_XC D b n E wm_iob) 1 6 (wm_A b) := by
  refine wm_ofX (by decide) (Nat.le_of_ble_eq_true rfl) (fun p e s m below meth c ls R args Q hRe hQ X hxt hV hP hS hl => ?_)
  have hl : lv_has ls 2 [(0, .ref (b + 0)), (1, .int x)] := hl
  refine lv_iload_n X.1 X.2.1 dX6_letter_0 rfl (lv_at hl 1 rfl) ?_
  refine lv_if_lt (tgt := 15) X.1 X.2.1 dX6_letter_1 (by decide) (fun hc1 => ?_) (fun hc1 => ?_)
  · exact wm_thrO (i := 148) hst X hxt hV hP hS (by simp [wm_strs]; rfl) hl.1 (by rw [hRe]; exact ⟨Nat.le_of_ble_eq_true rfl, Nat.le_of_ble_eq_true rfl, Nat.le_of_ble_eq_true rfl, Nat.le_of_ble_eq_true rfl⟩) dX6_letter_15 dX6_letter_18 dX6_letter_19 dX6_letter_21 dX6_letter_24 hQ
  · refine lv_iload_n X.1 X.2.1 dX6_letter_4 rfl (lv_at hl 1 rfl) ?_
    refine lv_aload_n X.1 X.2.1 dX6_letter_5 rfl (lv_at hl 0 rfl) ?_
    refine wm_get X hP hlt0 hE0 rfl wm_inX6 6 (by decide) wq1_213 rfl dX6_letter_6 ?_
    refine wm_get X hP hlt1 hE1 rfl wm_inX5 4 (by decide) wq1_195 rfl dX6_letter_9 ?_
    refine lv_icmp_lt (tgt := 25) X.1 X.2.1 dX6_letter_12 (by decide) (fun hc12 => ?_) (fun hc12 => ?_)
    · exact absurd hc12 (fun q => hk ⟨Int32.not_lt.mp hc1, q⟩)
    · exact wm_thrO (i := 148) hst X hxt hV hP hS (by simp [wm_strs]; rfl) hl.1 (by rw [hRe]; exact ⟨Nat.le_of_ble_eq_true rfl, Nat.le_of_ble_eq_true rfl, Nat.le_of_ble_eq_true rfl, Nat.le_of_ble_eq_true rfl⟩) dX6_letter_15 dX6_letter_18 dX6_letter_19 dX6_letter_21 dX6_letter_24 hQ
