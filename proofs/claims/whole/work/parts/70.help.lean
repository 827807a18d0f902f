theorem jfeedX (l : Launch) (hst : l.stackTraces = false) (D : va_G) (C : Nat → ClassId) (b : Nat) (E : Nat → va_E) (S : wm_St) (f : Nat → Int64) (x : Int32) (v0 : Nat) (hC : wm_CI C b S E) (hB : wm_BD S) (hE0 : E 146 = wm_JR C 1 f) (hk : ¬ (nI 1 ≤ x ∧ x ≤ nI 8)) : Met l yL_feed (wm_wsW yL_feed cL_feed 6 (some .int) [(0, 11, 14, 13)]) { frames := 7, cells := 1, slots := 6, locals := 106 } (va_Pc [.ref (b + 0), .int x, .long (lN v0), .ref (b + 146)] (wm_GN D C b 147 E)) (va_Qi (q_feed C b E S x v0) (fun E' t => wm_P D b 147 E' t.heap) (wm_A b)) 1 6 (wm_A b) := by
  refine wm_ofWH (by decide) (Nat.le_of_ble_eq_true rfl) (fun p e s m below meth c ls R args Q hRe hQ X hr hxt hV hNc hP hS hl => ?_)
  have hl : lv_has ls 6 [(0, .ref (b + 0)), (1, .int x), (2, .long (lN v0)), (4, .ref (b + 146))] := hl
  refine lv_aload X.1 X.2.1 dL_feed_0 (lv_at hl 3 rfl) ?_
  refine lv_iconst (v := nI 0) X.1 X.2.1 dL_feed_2 (by decide) ?_
  refine lv_aload_n X.1 X.2.1 dL_feed_3 rfl (lv_at hl 0 rfl) ?_
  refine lv_iload_n X.1 X.2.1 dL_feed_4 rfl (lv_at hl 1 rfl) ?_
  refine lv_lload_n X.1 X.2.1 dL_feed_5 rfl (lv_at hl 2 rfl) ?_
  refine wm_xcallV (k := 2) (As := [.int x, .long (lN v0)]) (rest := [.int (nI 0), .ref (b + 146)]) X hV hP hS (by omega) (id hC).1.1 rfl (kfeedX l hst D C b 147 E 0 x v0 hk) wq2_9 wq2_10 wq2_11 wq1_1 wq2_12 (by decide) (by rw [hRe]; exact ⟨Nat.le_of_ble_eq_true rfl, Nat.le_of_ble_eq_true rfl⟩) rfl hl.1 rfl (Nat.le_of_ble_eq_true rfl) (by rw [hRe]; exact Nat.le_of_ble_eq_true rfl) (by rw [hRe]; exact Nat.le_of_ble_eq_true rfl) dL_feed_6 (fun ce q9 H1 locs1 hP hS h1 h2 h3 => ?_)
  refine wm_catch (pre := (tableOf [(0, 11, 14, 13)]).take 0) X (hxt.trans rfl) (fun y hy => absurd hy List.not_mem_nil) (by decide) (by decide) wq2_8 (wm_cast1 hV).2 h1 h2 h3 ?_
  refine lv_astore (lv' := [(5, .ref q9), (0, .ref (b + 0)), (1, .int x), (2, .long (lN v0)), (4, .ref (b + 146))]) X.1 X.2.1 dL_feed_14 hl (by decide) rfl (fun ls hl => ?_)
  refine lv_iconst (v := nI 1) X.1 X.2.1 dL_feed_16 (by decide) ?_
  refine wm_wide (k := 1) (n := 6) (Nat.le_of_ble_eq_true rfl) (Nat.le_of_ble_eq_true rfl) ?_
  exact wm_iret (post := q_feed C b E S x v0) X hr hP hS ⟨S, 1, 0, f, rfl, by decide, Or.inl ⟨rfl, rfl, hk⟩, hC, hB, hE0, (fun h => absurd h (by decide)), fun _ _ _ => rfl⟩ hQ dL_feed_17
theorem jfeedG (l : Launch) (hst : l.stackTraces = false) (D : va_G) (C : Nat → ClassId) (b : Nat) (E : Nat → va_E) (S : wm_St) (f : Nat → Int64) (k v0 : Nat) (hC : wm_CI C b S E) (hB : wm_BD S) (hE0 : E 146 = wm_JR C 1 f) (hk1 : 1 ≤ k ∧ k ≤ 8) (hv0 : v0 < 2 ^ 64) : Met l yL_feed (wm_wsW yL_feed cL_feed 6 (some .int) [(0, 11, 14, 13)]) { frames := 1, cells := 1, slots := 6, locals := 24 } (va_Pc [.ref (b + 0), .int (nI k), .long (lN v0), .ref (b + 146)] (wm_GN D C b 147 E)) (va_Qi (q_feed C b E S (nI k) v0) (fun E' t => wm_P D b 147 E' t.heap) (wm_A b)) 1 6 (wm_A b) := by
  refine wm_ofWH (by decide) (Nat.le_of_ble_eq_true rfl) (fun p e s m below meth c ls R args Q hRe hQ X hr hxt hV hNc hP hS hl => ?_)
  have hl : lv_has ls 6 [(0, .ref (b + 0)), (1, .int (nI k)), (2, .long (lN v0)), (4, .ref (b + 146))] := hl
  refine lv_aload X.1 X.2.1 dL_feed_0 (lv_at hl 3 rfl) ?_
  refine lv_iconst (v := nI 0) X.1 X.2.1 dL_feed_2 (by decide) ?_
  refine lv_aload_n X.1 X.2.1 dL_feed_3 rfl (lv_at hl 0 rfl) ?_
  refine lv_iload_n X.1 X.2.1 dL_feed_4 rfl (lv_at hl 1 rfl) ?_
  refine lv_lload_n X.1 X.2.1 dL_feed_5 rfl (lv_at hl 2 rfl) ?_
  refine wm_callVi (k := 2) (As := [.int (nI k), .long (lN v0)]) (rest := [.int (nI 0), .ref (b + 146)]) X hP hS (by omega) (id hC).1.1 rfl (c_feed l D C b E S k v0 hC hB hk1 hv0) wq2_9 wq2_10 wq2_11 wq1_1 wq2_12 (by decide) (by rw [hRe]; exact ⟨Nat.le_of_ble_eq_true rfl, Nat.le_of_ble_eq_true rfl⟩) rfl hl.1 rfl (Nat.le_of_ble_eq_true rfl) (Nat.zero_le _) (Nat.zero_le _) dL_feed_6 (fun r1 E1 H locs hw hP hS => ?_)
  obtain ⟨S2, v2, rfl, hg, hC2, hB2, hfr⟩ := hw
  have hE146 := (hfr 146 (by omega)).trans hE0
  refine lv_i2l (v := (nI v2).toInt64) X.1 X.2.1 dL_feed_9 rfl ?_
  refine wm_lastR (N := 1) (x := ((nI v2).toInt64)) (i := 0) X hP hS (by omega) hE146 (by decide) (by decide) dL_feed_10 (fun H locs E2 hP hS hE146 hq => ?_)
  refine lv_goto (tgt := 18) X.1 X.2.1 dL_feed_11 (by decide) ?_
  refine lv_iconst (v := nI 0) X.1 X.2.1 dL_feed_18 (by decide) ?_
  refine wm_wide (k := 1) (n := 6) (Nat.le_of_ble_eq_true rfl) (Nat.le_of_ble_eq_true rfl) ?_
  exact wm_iret (post := q_feed C b E S (nI k) v0) X hr hP hS ⟨S2, 0, v2, _, rfl, by decide, Or.inr ⟨rfl, k, hk1.1, hk1.2, rfl, hg⟩, hC2.cg (fun j hj => hq j (by omega)), hB2, hE146, (fun _ => rfl), fun j h1 h2 => (hq j h2).trans (hfr j h1)⟩ hQ dL_feed_19
theorem jreadX (l : Launch) (hst : l.stackTraces = false) (D : va_G) (C : Nat → ClassId) (b : Nat) (E : Nat → va_E) (S : wm_St) (f : Nat → Int64) (x : Int32) (hC : wm_CI C b S E) (hB : wm_BD S) (hE0 : E 146 = wm_JR C 1 f) (hk : wm_no8 x) : Met l yL_read (wm_wsW yL_read cL_read 4 (some .int) [(0, 9, 12, 19)]) { frames := 8, cells := 1, slots := 6, locals := 125 } (va_Pc [.ref (b + 0), .int x, .ref (b + 146)] (wm_GN D C b 147 E)) (va_Qi (q_read C b E S x) (fun E' t => wm_P D b 147 E' t.heap) (wm_A b)) 1 6 (wm_A b) := by
  refine wm_ofWH (by decide) (Nat.le_of_ble_eq_true rfl) (fun p e s m below meth c ls R args Q hRe hQ X hr hxt hV hNc hP hS hl => ?_)
  have hl : lv_has ls 4 [(0, .ref (b + 0)), (1, .int x), (2, .ref (b + 146))] := hl
  refine lv_aload_n X.1 X.2.1 dL_read_0 rfl (lv_at hl 2 rfl) ?_
  refine lv_iconst (v := nI 0) X.1 X.2.1 dL_read_1 (by decide) ?_
  refine lv_aload_n X.1 X.2.1 dL_read_2 rfl (lv_at hl 0 rfl) ?_
  refine lv_iload_n X.1 X.2.1 dL_read_3 rfl (lv_at hl 1 rfl) ?_
  refine wm_xcallV (k := 1) (As := [.int x]) (rest := [.int (nI 0), .ref (b + 146)]) X hV hP hS (by omega) (id hC).1.1 rfl (kreadX l hst D C b 147 E _ _ (by omega) hC.1.1 hk) wq2_84 wq2_85 wq2_86 wq1_1 wq2_87 (by decide) (by rw [hRe]; exact ⟨Nat.le_of_ble_eq_true rfl, Nat.le_of_ble_eq_true rfl⟩) rfl hl.1 rfl (Nat.le_of_ble_eq_true rfl) (by rw [hRe]; exact Nat.le_of_ble_eq_true rfl) (by rw [hRe]; exact Nat.le_of_ble_eq_true rfl) dL_read_4 (fun ce q9 H1 locs1 hP hS h1 h2 h3 => ?_)
  refine wm_catch (pre := (tableOf [(0, 9, 12, 19)]).take 0) X (hxt.trans rfl) (fun y hy => absurd hy List.not_mem_nil) (by decide) (by decide) wq2_83 (wm_cast1 hV).1 h1 h2 h3 ?_
  refine lv_astore_n (lv' := [(3, .ref q9), (0, .ref (b + 0)), (1, .int x), (2, .ref (b + 146))]) X.1 X.2.1 dL_read_12 rfl hl (by decide) rfl (fun ls hl => ?_)
  refine lv_iconst (v := nI 1) X.1 X.2.1 dL_read_13 (by decide) ?_
  refine wm_wide (k := 1) (n := 6) (Nat.le_of_ble_eq_true rfl) (Nat.le_of_ble_eq_true rfl) ?_
  exact wm_iret (post := q_read C b E S x) X hr hP hS ⟨S, 1, 0, f, rfl, by decide, Or.inl ⟨rfl, rfl, hk⟩, hC, hB, hE0, (fun h => absurd h (by decide)), fun _ _ _ => rfl⟩ hQ dL_read_14
theorem jreadG (l : Launch) (hst : l.stackTraces = false) (D : va_G) (C : Nat → ClassId) (b : Nat) (E : Nat → va_E) (S : wm_St) (f : Nat → Int64) (k : Nat) (hC : wm_CI C b S E) (hB : wm_BD S) (hE0 : E 146 = wm_JR C 1 f) (hkk : k < 8) : Met l yL_read (wm_wsW yL_read cL_read 4 (some .int) [(0, 9, 12, 19)]) { frames := 11, cells := 1, slots := 6, locals := 328 } (va_Pc [.ref (b + 0), .int (nI k), .ref (b + 146)] (wm_GN D C b 147 E)) (va_Qi (q_read C b E S (nI k)) (fun E' t => wm_P D b 147 E' t.heap) (wm_A b)) 1 6 (wm_A b) := by
  refine wm_ofWH (by decide) (Nat.le_of_ble_eq_true rfl) (fun p e s m below meth c ls R args Q hRe hQ X hr hxt hV hNc hP hS hl => ?_)
  have hl : lv_has ls 4 [(0, .ref (b + 0)), (1, .int (nI k)), (2, .ref (b + 146))] := hl
  refine lv_aload_n X.1 X.2.1 dL_read_0 rfl (lv_at hl 2 rfl) ?_
  refine lv_iconst (v := nI 0) X.1 X.2.1 dL_read_1 (by decide) ?_
  refine lv_aload_n X.1 X.2.1 dL_read_2 rfl (lv_at hl 0 rfl) ?_
  refine lv_iload_n X.1 X.2.1 dL_read_3 rfl (lv_at hl 1 rfl) ?_
  refine wm_callVi (k := 1) (As := [.int (nI k)]) (rest := [.int (nI 0), .ref (b + 146)]) X hP hS (by omega) (id hC).1.1 rfl (c_read l D C b E S k hC hB hkk) wq2_84 wq2_85 wq2_86 wq1_1 wq2_87 (by decide) (by rw [hRe]; exact ⟨Nat.le_of_ble_eq_true rfl, Nat.le_of_ble_eq_true rfl⟩) rfl hl.1 rfl (Nat.le_of_ble_eq_true rfl) (Nat.zero_le _) (Nat.zero_le _) dL_read_4 (fun r1 E1 H locs hw hP hS => ?_)
  obtain ⟨S2, v2, rfl, hg, hC2, hB2, hfr⟩ := hw
  have hE146 := (hfr 146 (by omega)).trans hE0
  refine lv_i2l (v := (nI v2).toInt64) X.1 X.2.1 dL_read_7 rfl ?_
  refine wm_lastR (N := 1) (x := ((nI v2).toInt64)) (i := 0) X hP hS (by omega) hE146 (by decide) (by decide) dL_read_8 (fun H locs E2 hP hS hE146 hq => ?_)
  refine lv_goto (tgt := 15) X.1 X.2.1 dL_read_9 (by decide) ?_
  refine lv_iconst (v := nI 0) X.1 X.2.1 dL_read_15 (by decide) ?_
  refine wm_wide (k := 1) (n := 6) (Nat.le_of_ble_eq_true rfl) (Nat.le_of_ble_eq_true rfl) ?_
  exact wm_iret (post := q_read C b E S (nI k)) X hr hP hS ⟨S2, 0, v2, _, rfl, by decide, Or.inr ⟨rfl, k, hkk, rfl, hg⟩, hC2.cg (fun j hj => hq j (by omega)), hB2, hE146, (fun _ => rfl), fun j h1 h2 => (hq j h2).trans (hfr j h1)⟩ hQ dL_read_16
theorem jstatesX (l : Launch) (hst : l.stackTraces = false) (D : va_G) (C : Nat → ClassId) (b : Nat) (E : Nat → va_E) (S : wm_St) (f : Nat → Int64) (x : Int32) (hC : wm_CI C b S E) (hB : wm_BD S) (hE0 : E 146 = wm_JR C 1 f) (hk : wm_no8 x) : Met l yL_states (wm_wsW yL_states cL_states 4 (some .int) [(0, 9, 12, 19)]) { frames := 8, cells := 1, slots := 6, locals := 124 } (va_Pc [.ref (b + 0), .int x, .ref (b + 146)] (wm_GN D C b 147 E)) (va_Qi (q_states C b E S x) (fun E' t => wm_P D b 147 E' t.heap) (wm_A b)) 1 6 (wm_A b) := by
  refine wm_ofWH (by decide) (Nat.le_of_ble_eq_true rfl) (fun p e s m below meth c ls R args Q hRe hQ X hr hxt hV hNc hP hS hl => ?_)
  have hl : lv_has ls 4 [(0, .ref (b + 0)), (1, .int x), (2, .ref (b + 146))] := hl
  refine lv_aload_n X.1 X.2.1 dL_states_0 rfl (lv_at hl 2 rfl) ?_
  refine lv_iconst (v := nI 0) X.1 X.2.1 dL_states_1 (by decide) ?_
  refine lv_aload_n X.1 X.2.1 dL_states_2 rfl (lv_at hl 0 rfl) ?_
  refine lv_iload_n X.1 X.2.1 dL_states_3 rfl (lv_at hl 1 rfl) ?_
  refine wm_xcallV (k := 1) (As := [.int x]) (rest := [.int (nI 0), .ref (b + 146)]) X hV hP hS (by omega) (id hC).1.1 rfl (kstatesX l hst D C b 147 E _ _ (by omega) hC.1.1 hk) wq3_24 wq3_25 wq3_26 wq1_1 wq3_27 (by decide) (by rw [hRe]; exact ⟨Nat.le_of_ble_eq_true rfl, Nat.le_of_ble_eq_true rfl⟩) rfl hl.1 rfl (Nat.le_of_ble_eq_true rfl) (by rw [hRe]; exact Nat.le_of_ble_eq_true rfl) (by rw [hRe]; exact Nat.le_of_ble_eq_true rfl) dL_states_4 (fun ce q9 H1 locs1 hP hS h1 h2 h3 => ?_)
  refine wm_catch (pre := (tableOf [(0, 9, 12, 19)]).take 0) X (hxt.trans rfl) (fun y hy => absurd hy List.not_mem_nil) (by decide) (by decide) wq2_83 (wm_cast1 hV).1 h1 h2 h3 ?_
  refine lv_astore_n (lv' := [(3, .ref q9), (0, .ref (b + 0)), (1, .int x), (2, .ref (b + 146))]) X.1 X.2.1 dL_states_12 rfl hl (by decide) rfl (fun ls hl => ?_)
  refine lv_iconst (v := nI 1) X.1 X.2.1 dL_states_13 (by decide) ?_
  refine wm_wide (k := 1) (n := 6) (Nat.le_of_ble_eq_true rfl) (Nat.le_of_ble_eq_true rfl) ?_
  exact wm_iret (post := q_states C b E S x) X hr hP hS ⟨S, 1, 0, f, rfl, by decide, Or.inl ⟨rfl, rfl, hk⟩, hC, hB, hE0, (fun h => absurd h (by decide)), fun _ _ _ => rfl⟩ hQ dL_states_14
theorem jstatesG (l : Launch) (hst : l.stackTraces = false) (D : va_G) (C : Nat → ClassId) (b : Nat) (E : Nat → va_E) (S : wm_St) (f : Nat → Int64) (k : Nat) (hC : wm_CI C b S E) (hB : wm_BD S) (hE0 : E 146 = wm_JR C 1 f) (hkk : k < 8) : Met l yL_states (wm_wsW yL_states cL_states 4 (some .int) [(0, 9, 12, 19)]) { frames := 2, cells := 1, slots := 6, locals := 42 } (va_Pc [.ref (b + 0), .int (nI k), .ref (b + 146)] (wm_GN D C b 147 E)) (va_Qi (q_states C b E S (nI k)) (fun E' t => wm_P D b 147 E' t.heap) (wm_A b)) 1 6 (wm_A b) := by
  refine wm_ofWH (by decide) (Nat.le_of_ble_eq_true rfl) (fun p e s m below meth c ls R args Q hRe hQ X hr hxt hV hNc hP hS hl => ?_)
  have hl : lv_has ls 4 [(0, .ref (b + 0)), (1, .int (nI k)), (2, .ref (b + 146))] := hl
  refine lv_aload_n X.1 X.2.1 dL_states_0 rfl (lv_at hl 2 rfl) ?_
  refine lv_iconst (v := nI 0) X.1 X.2.1 dL_states_1 (by decide) ?_
  refine lv_aload_n X.1 X.2.1 dL_states_2 rfl (lv_at hl 0 rfl) ?_
  refine lv_iload_n X.1 X.2.1 dL_states_3 rfl (lv_at hl 1 rfl) ?_
  refine wm_callVi (k := 1) (As := [.int (nI k)]) (rest := [.int (nI 0), .ref (b + 146)]) X hP hS (by omega) (id hC).1.1 rfl (c_states l D C b E S k hC hB hkk) wq3_24 wq3_25 wq3_26 wq1_1 wq3_27 (by decide) (by rw [hRe]; exact ⟨Nat.le_of_ble_eq_true rfl, Nat.le_of_ble_eq_true rfl⟩) rfl hl.1 rfl (Nat.le_of_ble_eq_true rfl) (Nat.zero_le _) (Nat.zero_le _) dL_states_4 (fun r1 E1 H locs hw hP hS => ?_)
  obtain ⟨S2, v2, rfl, hg, hC2, hB2, hfr⟩ := hw
  have hE146 := (hfr 146 (by omega)).trans hE0
  refine lv_i2l (v := (nI v2).toInt64) X.1 X.2.1 dL_states_7 rfl ?_
  refine wm_lastR (N := 1) (x := ((nI v2).toInt64)) (i := 0) X hP hS (by omega) hE146 (by decide) (by decide) dL_states_8 (fun H locs E2 hP hS hE146 hq => ?_)
  refine lv_goto (tgt := 15) X.1 X.2.1 dL_states_9 (by decide) ?_
  refine lv_iconst (v := nI 0) X.1 X.2.1 dL_states_15 (by decide) ?_
  refine wm_wide (k := 1) (n := 6) (Nat.le_of_ble_eq_true rfl) (Nat.le_of_ble_eq_true rfl) ?_
  exact wm_iret (post := q_states C b E S (nI k)) X hr hP hS ⟨S2, 0, v2, _, rfl, by decide, Or.inr ⟨rfl, k, hkk, rfl, hg⟩, hC2.cg (fun j hj => hq j (by omega)), hB2, hE146, (fun _ => rfl), fun j h1 h2 => (hq j h2).trans (hfr j h1)⟩ hQ dL_states_16
theorem jtakesX (l : Launch) (hst : l.stackTraces = false) (D : va_G) (C : Nat → ClassId) (b : Nat) (E : Nat → va_E) (S : wm_St) (f : Nat → Int64) (x : Int32) (hC : wm_CI C b S E) (hB : wm_BD S) (hE0 : E 146 = wm_JR C 1 f) (hk : wm_no8 x) : Met l yL_takes (wm_wsW yL_takes cL_takes 4 (some .int) [(0, 16, 19, 19)]) { frames := 8, cells := 1, slots := 6, locals := 128 } (va_Pc [.ref (b + 0), .int x, .ref (b + 146)] (wm_GN D C b 147 E)) (va_Qi (q_takes C b E S x) (fun E' t => wm_P D b 147 E' t.heap) (wm_A b)) 1 6 (wm_A b) := by
  refine wm_ofWH (by decide) (Nat.le_of_ble_eq_true rfl) (fun p e s m below meth c ls R args Q hRe hQ X hr hxt hV hNc hP hS hl => ?_)
  have hl : lv_has ls 4 [(0, .ref (b + 0)), (1, .int x), (2, .ref (b + 146))] := hl
  refine lv_aload_n X.1 X.2.1 dL_takes_0 rfl (lv_at hl 2 rfl) ?_
  refine lv_iconst (v := nI 0) X.1 X.2.1 dL_takes_1 (by decide) ?_
  refine lv_aload_n X.1 X.2.1 dL_takes_2 rfl (lv_at hl 0 rfl) ?_
  refine lv_iload_n X.1 X.2.1 dL_takes_3 rfl (lv_at hl 1 rfl) ?_
  refine wm_xcallV (k := 1) (As := [.int x]) (rest := [.int (nI 0), .ref (b + 146)]) X hV hP hS (by omega) (id hC).1.1 rfl (ktakesX l hst D C b 147 E _ _ (by omega) hC.1.1 hk) wq3_88 wq3_89 wq3_90 wq1_1 wq3_91 (by decide) (by rw [hRe]; exact ⟨Nat.le_of_ble_eq_true rfl, Nat.le_of_ble_eq_true rfl⟩) rfl hl.1 rfl (Nat.le_of_ble_eq_true rfl) (by rw [hRe]; exact Nat.le_of_ble_eq_true rfl) (by rw [hRe]; exact Nat.le_of_ble_eq_true rfl) dL_takes_4 (fun ce q9 H1 locs1 hP hS h1 h2 h3 => ?_)
  refine wm_catch (pre := (tableOf [(0, 16, 19, 19)]).take 0) X (hxt.trans rfl) (fun y hy => absurd hy List.not_mem_nil) (by decide) (by decide) wq2_83 (wm_cast1 hV).1 h1 h2 h3 ?_
  refine lv_astore_n (lv' := [(3, .ref q9), (0, .ref (b + 0)), (1, .int x), (2, .ref (b + 146))]) X.1 X.2.1 dL_takes_19 rfl hl (by decide) rfl (fun ls hl => ?_)
  refine lv_iconst (v := nI 1) X.1 X.2.1 dL_takes_20 (by decide) ?_
  refine wm_wide (k := 1) (n := 6) (Nat.le_of_ble_eq_true rfl) (Nat.le_of_ble_eq_true rfl) ?_
  exact wm_iret (post := q_takes C b E S x) X hr hP hS ⟨S, 1, false, f, rfl, by decide, Or.inl ⟨rfl, rfl, hk⟩, hC, hB, hE0, (fun h => absurd h (by decide)), fun _ _ _ => rfl⟩ hQ dL_takes_21
theorem jtakesG (l : Launch) (hst : l.stackTraces = false) (D : va_G) (C : Nat → ClassId) (b : Nat) (E : Nat → va_E) (S : wm_St) (f : Nat → Int64) (k : Nat) (hC : wm_CI C b S E) (hB : wm_BD S) (hE0 : E 146 = wm_JR C 1 f) (hkk : k < 8) : Met l yL_takes (wm_wsW yL_takes cL_takes 4 (some .int) [(0, 16, 19, 19)]) { frames := 3, cells := 1, slots := 6, locals := 71 } (va_Pc [.ref (b + 0), .int (nI k), .ref (b + 146)] (wm_GN D C b 147 E)) (va_Qi (q_takes C b E S (nI k)) (fun E' t => wm_P D b 147 E' t.heap) (wm_A b)) 1 6 (wm_A b) := by
  refine wm_ofWH (by decide) (Nat.le_of_ble_eq_true rfl) (fun p e s m below meth c ls R args Q hRe hQ X hr hxt hV hNc hP hS hl => ?_)
  have hl : lv_has ls 4 [(0, .ref (b + 0)), (1, .int (nI k)), (2, .ref (b + 146))] := hl
  refine lv_aload_n X.1 X.2.1 dL_takes_0 rfl (lv_at hl 2 rfl) ?_
  refine lv_iconst (v := nI 0) X.1 X.2.1 dL_takes_1 (by decide) ?_
  refine lv_aload_n X.1 X.2.1 dL_takes_2 rfl (lv_at hl 0 rfl) ?_
  refine lv_iload_n X.1 X.2.1 dL_takes_3 rfl (lv_at hl 1 rfl) ?_
  refine wm_callVi (k := 1) (As := [.int (nI k)]) (rest := [.int (nI 0), .ref (b + 146)]) X hP hS (by omega) (id hC).1.1 rfl (c_takes l D C b E S k hC hB hkk) wq3_88 wq3_89 wq3_90 wq1_1 wq3_91 (by decide) (by rw [hRe]; exact ⟨Nat.le_of_ble_eq_true rfl, Nat.le_of_ble_eq_true rfl⟩) rfl hl.1 rfl (Nat.le_of_ble_eq_true rfl) (Nat.zero_le _) (Nat.zero_le _) dL_takes_4 (fun r1 E1 H locs hw hP hS => ?_)
  obtain ⟨S2, v2, rfl, hg, hC2, hB2, hfr⟩ := hw
  have hE146 := (hfr 146 (by omega)).trans hE0
  have hb : v2 = true ∨ v2 = false := by cases v2 <;> simp
  rcases hb with rfl | rfl
  · refine wm_ifz_eq (x := true) (tgt := 14) X dL_takes_7 (by decide) (fun h => by exfalso; revert h; decide) (fun _ => ?_)
    refine lv_lconst (v := lN 1) X.1 X.2.1 dL_takes_10 (by decide) ?_
    refine lv_goto (tgt := 15) X.1 X.2.1 dL_takes_11 (by decide) ?_
    refine wm_lastR (N := 1) (x := lN 1) (i := 0) X hP hS (by omega) hE146 (by decide) (by decide) dL_takes_15 (fun H locs E2 hP hS hE146 hq => ?_)
    refine lv_goto (tgt := 22) X.1 X.2.1 dL_takes_16 (by decide) ?_
    refine lv_iconst (v := nI 0) X.1 X.2.1 dL_takes_22 (by decide) ?_
    refine wm_wide (k := 1) (n := 6) (Nat.le_of_ble_eq_true rfl) (Nat.le_of_ble_eq_true rfl) ?_
    exact wm_iret (post := q_takes C b E S (nI k)) X hr hP hS ⟨S2, 0, _, _, rfl, by decide, Or.inr ⟨rfl, k, hkk, rfl, hg⟩, hC2.cg (fun j hj => hq j (by omega)), hB2, hE146, (fun _ => rfl), fun j h1 h2 => (hq j h2).trans (hfr j h1)⟩ hQ dL_takes_23
  · refine wm_ifz_eq (x := false) (tgt := 14) X dL_takes_7 (by decide) (fun _ => ?_) (fun h => by exfalso; revert h; decide)
    refine lv_lconst (v := lN 0) X.1 X.2.1 dL_takes_14 (by decide) ?_
    refine wm_lastR (N := 1) (x := lN 0) (i := 0) X hP hS (by omega) hE146 (by decide) (by decide) dL_takes_15 (fun H locs E2 hP hS hE146 hq => ?_)
    refine lv_goto (tgt := 22) X.1 X.2.1 dL_takes_16 (by decide) ?_
    refine lv_iconst (v := nI 0) X.1 X.2.1 dL_takes_22 (by decide) ?_
    refine wm_wide (k := 1) (n := 6) (Nat.le_of_ble_eq_true rfl) (Nat.le_of_ble_eq_true rfl) ?_
    exact wm_iret (post := q_takes C b E S (nI k)) X hr hP hS ⟨S2, 0, _, _, rfl, by decide, Or.inr ⟨rfl, k, hkk, rfl, hg⟩, hC2.cg (fun j hj => hq j (by omega)), hB2, hE146, (fun _ => rfl), fun j h1 h2 => (hq j h2).trans (hfr j h1)⟩ hQ dL_takes_23
theorem jblankX (l : Launch) (hst : l.stackTraces = false) (D : va_G) (C : Nat → ClassId) (b : Nat) (E : Nat → va_E) (S : wm_St) (f : Nat → Int64) (x y : Int32) (hC : wm_CI C b S E) (hB : wm_BD S) (hE0 : E 146 = wm_JR C 1 f) (hk : wm_no8 x) : Met l yL_blank (wm_wsW yL_blank cL_blank 4 (some .int) [(0, 6, 9, 19), (0, 6, 12, 13)]) { frames := 8, cells := 1, slots := 6, locals := 126 } (va_Pc [.ref (b + 0), .int x, .int y] (wm_GN D C b 147 E)) (va_Qi (q_blank C b E S x y) (fun E' t => wm_P D b 147 E' t.heap) (wm_A b)) 1 6 (wm_A b) := by
  refine wm_ofWH (by decide) (Nat.le_of_ble_eq_true rfl) (fun p e s m below meth c ls R args Q hRe hQ X hr hxt hV hNc hP hS hl => ?_)
  have hl : lv_has ls 4 [(0, .ref (b + 0)), (1, .int x), (2, .int y)] := hl
  refine lv_aload_n X.1 X.2.1 dL_blank_0 rfl (lv_at hl 0 rfl) ?_
  refine lv_iload_n X.1 X.2.1 dL_blank_1 rfl (lv_at hl 1 rfl) ?_
  refine lv_iload_n X.1 X.2.1 dL_blank_2 rfl (lv_at hl 2 rfl) ?_
  refine wm_xcallV (k := 2) (As := [.int x, .int y]) (rest := []) X hV hP hS (by omega) (id hC).1.1 rfl (kblankX l hst D C b 147 E _ _ _ (by omega) hC.1.1 hk) wq2_219 wq2_220 wq2_221 wq1_1 wq2_222 (by decide) (by rw [hRe]; exact ⟨Nat.le_of_ble_eq_true rfl, Nat.le_of_ble_eq_true rfl⟩) rfl hl.1 rfl (Nat.le_of_ble_eq_true rfl) (by rw [hRe]; exact Nat.le_of_ble_eq_true rfl) (by rw [hRe]; exact Nat.le_of_ble_eq_true rfl) dL_blank_3 (fun ce q9 H1 locs1 hP hS h1 h2 h3 => ?_)
  refine wm_catch (pre := (tableOf [(0, 6, 9, 19), (0, 6, 12, 13)]).take 0) X (hxt.trans rfl) (fun y hy => absurd hy List.not_mem_nil) (by decide) (by decide) wq2_83 (wm_cast1 hV).1 h1 h2 h3 ?_
  refine lv_astore_n (lv' := [(3, .ref q9), (0, .ref (b + 0)), (1, .int x), (2, .int y)]) X.1 X.2.1 dL_blank_9 rfl hl (by decide) rfl (fun ls hl => ?_)
  refine lv_iconst (v := nI 1) X.1 X.2.1 dL_blank_10 (by decide) ?_
  refine wm_wide (k := 1) (n := 6) (Nat.le_of_ble_eq_true rfl) (Nat.le_of_ble_eq_true rfl) ?_
  exact wm_iret (post := q_blank C b E S x y) X hr hP hS ⟨S, 1, f, rfl, by decide, Or.inl ⟨rfl, rfl, hk⟩, hC, hB, hE0, fun _ _ _ => rfl⟩ hQ dL_blank_11
theorem jblankA (l : Launch) (hst : l.stackTraces = false) (D : va_G) (C : Nat → ClassId) (b : Nat) (E : Nat → va_E) (S : wm_St) (f : Nat → Int64) (k : Nat) (y : Int32) (hC : wm_CI C b S E) (hB : wm_BD S) (hE0 : E 146 = wm_JR C 1 f) (hkk : k < 8) (hk : ¬ (nI 1 ≤ y ∧ y ≤ nI 24)) : Met l yL_blank (wm_wsW yL_blank cL_blank 4 (some .int) [(0, 6, 9, 19), (0, 6, 12, 13)]) { frames := 7, cells := 1, slots := 6, locals := 105 } (va_Pc [.ref (b + 0), .int (nI k), .int y] (wm_GN D C b 147 E)) (va_Qi (q_blank C b E S (nI k) y) (fun E' t => wm_P D b 147 E' t.heap) (wm_A b)) 1 6 (wm_A b) := by
  refine wm_ofWH (by decide) (Nat.le_of_ble_eq_true rfl) (fun p e s m below meth c ls R args Q hRe hQ X hr hxt hV hNc hP hS hl => ?_)
  have hl : lv_has ls 4 [(0, .ref (b + 0)), (1, .int (nI k)), (2, .int y)] := hl
  refine lv_aload_n X.1 X.2.1 dL_blank_0 rfl (lv_at hl 0 rfl) ?_
  refine lv_iload_n X.1 X.2.1 dL_blank_1 rfl (lv_at hl 1 rfl) ?_
  refine lv_iload_n X.1 X.2.1 dL_blank_2 rfl (lv_at hl 2 rfl) ?_
  refine wm_xcallV (k := 2) (As := [.int (nI k), .int y]) (rest := []) X hV hP hS (by omega) (id hC).1.1 rfl (kblankA l hst D C b 147 E _ _ _ (by omega) hC.1.1 (by omega) hC.1.2 hkk hk) wq2_219 wq2_220 wq2_221 wq1_1 wq2_222 (by decide) (by rw [hRe]; exact ⟨Nat.le_of_ble_eq_true rfl, Nat.le_of_ble_eq_true rfl⟩) rfl hl.1 rfl (Nat.le_of_ble_eq_true rfl) (by rw [hRe]; exact Nat.le_of_ble_eq_true rfl) (by rw [hRe]; exact Nat.le_of_ble_eq_true rfl) dL_blank_3 (fun ce q9 H1 locs1 hP hS h1 h2 h3 => ?_)
  refine wm_catch (pre := (tableOf [(0, 6, 9, 19), (0, 6, 12, 13)]).take 1) X (hxt.trans rfl) (fun y hy => by rw [List.mem_singleton.mp hy]; exact ⟨by decide, by decide, _, wq2_83, hNc⟩) (by decide) (by decide) wq2_8 (wm_cast1 hV).2 h1 h2 h3 ?_
  refine lv_astore_n (lv' := [(3, .ref q9), (0, .ref (b + 0)), (1, .int (nI k)), (2, .int y)]) X.1 X.2.1 dL_blank_12 rfl hl (by decide) rfl (fun ls hl => ?_)
  refine lv_iconst (v := nI 2) X.1 X.2.1 dL_blank_13 (by decide) ?_
  refine wm_wide (k := 1) (n := 6) (Nat.le_of_ble_eq_true rfl) (Nat.le_of_ble_eq_true rfl) ?_
  exact wm_iret (post := q_blank C b E S (nI k) y) X hr hP hS ⟨S, 2, f, rfl, by decide, Or.inr (Or.inl ⟨rfl, rfl, k, hkk, rfl, hk⟩), hC, hB, hE0, fun _ _ _ => rfl⟩ hQ dL_blank_14
theorem jblankG (l : Launch) (hst : l.stackTraces = false) (D : va_G) (C : Nat → ClassId) (b : Nat) (E : Nat → va_E) (S : wm_St) (f : Nat → Int64) (k yy : Nat) (hC : wm_CI C b S E) (hB : wm_BD S) (hE0 : E 146 = wm_JR C 1 f) (hkk : k < 8) (hy : 1 ≤ yy ∧ yy ≤ 24) : Met l yL_blank (wm_wsW yL_blank cL_blank 4 (some .int) [(0, 6, 9, 19), (0, 6, 12, 13)]) { frames := 3, cells := 1, slots := 6, locals := 67 } (va_Pc [.ref (b + 0), .int (nI k), .int (nI yy)] (wm_GN D C b 147 E)) (va_Qi (q_blank C b E S (nI k) (nI yy)) (fun E' t => wm_P D b 147 E' t.heap) (wm_A b)) 1 6 (wm_A b) := by
  refine wm_ofWH (by decide) (Nat.le_of_ble_eq_true rfl) (fun p e s m below meth c ls R args Q hRe hQ X hr hxt hV hNc hP hS hl => ?_)
  have hl : lv_has ls 4 [(0, .ref (b + 0)), (1, .int (nI k)), (2, .int (nI yy))] := hl
  refine lv_aload_n X.1 X.2.1 dL_blank_0 rfl (lv_at hl 0 rfl) ?_
  refine lv_iload_n X.1 X.2.1 dL_blank_1 rfl (lv_at hl 1 rfl) ?_
  refine lv_iload_n X.1 X.2.1 dL_blank_2 rfl (lv_at hl 2 rfl) ?_
  refine wm_callVv (k := 2) (As := [.int (nI k), .int (nI yy)]) (rest := []) X hP hS (by omega) (id hC).1.1 rfl (c_blank l D C b E S k yy hC hB hkk hy) wq2_219 wq2_220 wq2_221 wq1_1 wq2_222 (by decide) (by rw [hRe]; exact ⟨Nat.le_of_ble_eq_true rfl, Nat.le_of_ble_eq_true rfl⟩) rfl hl.1 rfl (Nat.le_of_ble_eq_true rfl) (Nat.zero_le _) (Nat.zero_le _) dL_blank_3 (fun E1 H locs hw hP hS => ?_)
  obtain ⟨S2, hg, hC2, hB2, hfr⟩ := hw
  have hE146 := (hfr 146 (by omega)).trans hE0
  refine lv_goto (tgt := 15) X.1 X.2.1 dL_blank_6 (by decide) ?_
  refine lv_iconst (v := nI 0) X.1 X.2.1 dL_blank_15 (by decide) ?_
  refine wm_wide (k := 1) (n := 6) (Nat.le_of_ble_eq_true rfl) (Nat.le_of_ble_eq_true rfl) ?_
  exact wm_iret (post := q_blank C b E S (nI k) (nI yy)) X hr hP hS ⟨S2, 0, f, rfl, by decide, Or.inr (Or.inr ⟨rfl, k, yy, hkk, rfl, hy.1, hy.2, rfl, hg⟩), hC2, hB2, hE146, fun j h1 _ => hfr j h1⟩ hQ dL_blank_16
theorem jmarkX (l : Launch) (hst : l.stackTraces = false) (D : va_G) (C : Nat → ClassId) (b : Nat) (E : Nat → va_E) (S : wm_St) (f : Nat → Int64) (x y z : Int32) (hC : wm_CI C b S E) (hB : wm_BD S) (hE0 : E 146 = wm_JR C 1 f) (hk : wm_no8 x) : Met l yL_mark (wm_wsW yL_mark cL_mark 5 (some .int) [(0, 7, 10, 19), (0, 7, 14, 13)]) { frames := 8, cells := 1, slots := 6, locals := 127 } (va_Pc [.ref (b + 0), .int x, .int y, .int z] (wm_GN D C b 147 E)) (va_Qi (q_mark C b E S x y z) (fun E' t => wm_P D b 147 E' t.heap) (wm_A b)) 1 6 (wm_A b) := by
  refine wm_ofWH (by decide) (Nat.le_of_ble_eq_true rfl) (fun p e s m below meth c ls R args Q hRe hQ X hr hxt hV hNc hP hS hl => ?_)
  have hl : lv_has ls 5 [(0, .ref (b + 0)), (1, .int x), (2, .int y), (3, .int z)] := hl
  refine lv_aload_n X.1 X.2.1 dL_mark_0 rfl (lv_at hl 0 rfl) ?_
  refine lv_iload_n X.1 X.2.1 dL_mark_1 rfl (lv_at hl 1 rfl) ?_
  refine lv_iload_n X.1 X.2.1 dL_mark_2 rfl (lv_at hl 2 rfl) ?_
  refine lv_iload_n X.1 X.2.1 dL_mark_3 rfl (lv_at hl 3 rfl) ?_
  refine wm_xcallV (k := 3) (As := [.int x, .int y, .int z]) (rest := []) X hV hP hS (by omega) (id hC).1.1 rfl (kmarkX l hst D C b 147 E _ _ _ _ (by omega) hC.1.1 hk) wq2_228 wq2_229 wq2_230 wq1_1 wq2_231 (by decide) (by rw [hRe]; exact ⟨Nat.le_of_ble_eq_true rfl, Nat.le_of_ble_eq_true rfl⟩) rfl hl.1 rfl (Nat.le_of_ble_eq_true rfl) (by rw [hRe]; exact Nat.le_of_ble_eq_true rfl) (by rw [hRe]; exact Nat.le_of_ble_eq_true rfl) dL_mark_4 (fun ce q9 H1 locs1 hP hS h1 h2 h3 => ?_)
  refine wm_catch (pre := (tableOf [(0, 7, 10, 19), (0, 7, 14, 13)]).take 0) X (hxt.trans rfl) (fun y hy => absurd hy List.not_mem_nil) (by decide) (by decide) wq2_83 (wm_cast1 hV).1 h1 h2 h3 ?_
  refine lv_astore (lv' := [(4, .ref q9), (0, .ref (b + 0)), (1, .int x), (2, .int y), (3, .int z)]) X.1 X.2.1 dL_mark_10 hl (by decide) rfl (fun ls hl => ?_)
  refine lv_iconst (v := nI 1) X.1 X.2.1 dL_mark_12 (by decide) ?_
  refine wm_wide (k := 1) (n := 6) (Nat.le_of_ble_eq_true rfl) (Nat.le_of_ble_eq_true rfl) ?_
  exact wm_iret (post := q_mark C b E S x y z) X hr hP hS ⟨S, 1, f, rfl, by decide, Or.inl ⟨rfl, rfl, Or.inl hk⟩, hC, hB, hE0, fun _ _ _ => rfl⟩ hQ dL_mark_13
theorem jmarkS (l : Launch) (hst : l.stackTraces = false) (D : va_G) (C : Nat → ClassId) (b : Nat) (E : Nat → va_E) (S : wm_St) (f : Nat → Int64) (k : Nat) (y z : Int32) (hC : wm_CI C b S E) (hB : wm_BD S) (hE0 : E 146 = wm_JR C 1 f) (hkk : k < 8) (hk : ¬ (0 ≤ y ∧ y < nI (S.1 k).1)) : Met l yL_mark (wm_wsW yL_mark cL_mark 5 (some .int) [(0, 7, 10, 19), (0, 7, 14, 13)]) { frames := 8, cells := 1, slots := 6, locals := 127 } (va_Pc [.ref (b + 0), .int (nI k), .int y, .int z] (wm_GN D C b 147 E)) (va_Qi (q_mark C b E S (nI k) y z) (fun E' t => wm_P D b 147 E' t.heap) (wm_A b)) 1 6 (wm_A b) := by
  refine wm_ofWH (by decide) (Nat.le_of_ble_eq_true rfl) (fun p e s m below meth c ls R args Q hRe hQ X hr hxt hV hNc hP hS hl => ?_)
  have hl : lv_has ls 5 [(0, .ref (b + 0)), (1, .int (nI k)), (2, .int y), (3, .int z)] := hl
  refine lv_aload_n X.1 X.2.1 dL_mark_0 rfl (lv_at hl 0 rfl) ?_
  refine lv_iload_n X.1 X.2.1 dL_mark_1 rfl (lv_at hl 1 rfl) ?_
  refine lv_iload_n X.1 X.2.1 dL_mark_2 rfl (lv_at hl 2 rfl) ?_
  refine lv_iload_n X.1 X.2.1 dL_mark_3 rfl (lv_at hl 3 rfl) ?_
  refine wm_xcallV (k := 3) (As := [.int (nI k), .int y, .int z]) (rest := []) X hV hP hS (by omega) (id hC).1.1 rfl (kmarkS l hst D C b 147 E _ _ _ _ _ _ _ (by omega) hC.1.1 (by omega) hC.1.2 (by omega) (hC.2.2.2.2.2.2 _ hkk).1 hkk hk) wq2_228 wq2_229 wq2_230 wq1_1 wq2_231 (by decide) (by rw [hRe]; exact ⟨Nat.le_of_ble_eq_true rfl, Nat.le_of_ble_eq_true rfl⟩) rfl hl.1 rfl (Nat.le_of_ble_eq_true rfl) (by rw [hRe]; exact Nat.le_of_ble_eq_true rfl) (by rw [hRe]; exact Nat.le_of_ble_eq_true rfl) dL_mark_4 (fun ce q9 H1 locs1 hP hS h1 h2 h3 => ?_)
  refine wm_catch (pre := (tableOf [(0, 7, 10, 19), (0, 7, 14, 13)]).take 0) X (hxt.trans rfl) (fun y hy => absurd hy List.not_mem_nil) (by decide) (by decide) wq2_83 (wm_cast1 hV).1 h1 h2 h3 ?_
  refine lv_astore (lv' := [(4, .ref q9), (0, .ref (b + 0)), (1, .int (nI k)), (2, .int y), (3, .int z)]) X.1 X.2.1 dL_mark_10 hl (by decide) rfl (fun ls hl => ?_)
  refine lv_iconst (v := nI 1) X.1 X.2.1 dL_mark_12 (by decide) ?_
  refine wm_wide (k := 1) (n := 6) (Nat.le_of_ble_eq_true rfl) (Nat.le_of_ble_eq_true rfl) ?_
  exact wm_iret (post := q_mark C b E S (nI k) y z) X hr hP hS ⟨S, 1, f, rfl, by decide, Or.inl ⟨rfl, rfl, Or.inr ⟨k, hkk, rfl, hk⟩⟩, hC, hB, hE0, fun _ _ _ => rfl⟩ hQ dL_mark_13
theorem jmarkA (l : Launch) (hst : l.stackTraces = false) (D : va_G) (C : Nat → ClassId) (b : Nat) (E : Nat → va_E) (S : wm_St) (f : Nat → Int64) (k sv : Nat) (z : Int32) (hC : wm_CI C b S E) (hB : wm_BD S) (hE0 : E 146 = wm_JR C 1 f) (hkk : k < 8) (hsv : sv < (S.1 k).1) (hk : ¬ (0 ≤ z ∧ z ≤ nI 3)) : Met l yL_mark (wm_wsW yL_mark cL_mark 5 (some .int) [(0, 7, 10, 19), (0, 7, 14, 13)]) { frames := 7, cells := 1, slots := 6, locals := 106 } (va_Pc [.ref (b + 0), .int (nI k), .int (nI sv), .int z] (wm_GN D C b 147 E)) (va_Qi (q_mark C b E S (nI k) (nI sv) z) (fun E' t => wm_P D b 147 E' t.heap) (wm_A b)) 1 6 (wm_A b) := by
  refine wm_ofWH (by decide) (Nat.le_of_ble_eq_true rfl) (fun p e s m below meth c ls R args Q hRe hQ X hr hxt hV hNc hP hS hl => ?_)
  have hl : lv_has ls 5 [(0, .ref (b + 0)), (1, .int (nI k)), (2, .int (nI sv)), (3, .int z)] := hl
  refine lv_aload_n X.1 X.2.1 dL_mark_0 rfl (lv_at hl 0 rfl) ?_
  refine lv_iload_n X.1 X.2.1 dL_mark_1 rfl (lv_at hl 1 rfl) ?_
  refine lv_iload_n X.1 X.2.1 dL_mark_2 rfl (lv_at hl 2 rfl) ?_
  refine lv_iload_n X.1 X.2.1 dL_mark_3 rfl (lv_at hl 3 rfl) ?_
  refine wm_xcallV (k := 3) (As := [.int (nI k), .int (nI sv), .int z]) (rest := []) X hV hP hS (by omega) (id hC).1.1 rfl (kmarkA l hst D C b 147 E _ _ _ _ _ _ _ (by omega) hC.1.1 (by omega) hC.1.2 (by omega) (hC.2.2.2.2.2.2 _ hkk).1 hkk (hB.2.2.1 k hkk).2.1 hsv hk) wq2_228 wq2_229 wq2_230 wq1_1 wq2_231 (by decide) (by rw [hRe]; exact ⟨Nat.le_of_ble_eq_true rfl, Nat.le_of_ble_eq_true rfl⟩) rfl hl.1 rfl (Nat.le_of_ble_eq_true rfl) (by rw [hRe]; exact Nat.le_of_ble_eq_true rfl) (by rw [hRe]; exact Nat.le_of_ble_eq_true rfl) dL_mark_4 (fun ce q9 H1 locs1 hP hS h1 h2 h3 => ?_)
  refine wm_catch (pre := (tableOf [(0, 7, 10, 19), (0, 7, 14, 13)]).take 1) X (hxt.trans rfl) (fun y hy => by rw [List.mem_singleton.mp hy]; exact ⟨by decide, by decide, _, wq2_83, hNc⟩) (by decide) (by decide) wq2_8 (wm_cast1 hV).2 h1 h2 h3 ?_
  refine lv_astore (lv' := [(4, .ref q9), (0, .ref (b + 0)), (1, .int (nI k)), (2, .int (nI sv)), (3, .int z)]) X.1 X.2.1 dL_mark_14 hl (by decide) rfl (fun ls hl => ?_)
  refine lv_iconst (v := nI 2) X.1 X.2.1 dL_mark_16 (by decide) ?_
  refine wm_wide (k := 1) (n := 6) (Nat.le_of_ble_eq_true rfl) (Nat.le_of_ble_eq_true rfl) ?_
  exact wm_iret (post := q_mark C b E S (nI k) (nI sv) z) X hr hP hS ⟨S, 2, f, rfl, by decide, Or.inr (Or.inl ⟨rfl, rfl, k, sv, hkk, rfl, hsv, rfl, hk⟩), hC, hB, hE0, fun _ _ _ => rfl⟩ hQ dL_mark_17
theorem jmarkG (l : Launch) (hst : l.stackTraces = false) (D : va_G) (C : Nat → ClassId) (b : Nat) (E : Nat → va_E) (S : wm_St) (f : Nat → Int64) (k sv zz : Nat) (hC : wm_CI C b S E) (hB : wm_BD S) (hE0 : E 146 = wm_JR C 1 f) (hkk : k < 8) (hsv : sv < (S.1 k).1) (hz3 : zz ≤ 3) : Met l yL_mark (wm_wsW yL_mark cL_mark 5 (some .int) [(0, 7, 10, 19), (0, 7, 14, 13)]) { frames := 2, cells := 1, slots := 6, locals := 46 } (va_Pc [.ref (b + 0), .int (nI k), .int (nI sv), .int (nI zz)] (wm_GN D C b 147 E)) (va_Qi (q_mark C b E S (nI k) (nI sv) (nI zz)) (fun E' t => wm_P D b 147 E' t.heap) (wm_A b)) 1 6 (wm_A b) := by
  refine wm_ofWH (by decide) (Nat.le_of_ble_eq_true rfl) (fun p e s m below meth c ls R args Q hRe hQ X hr hxt hV hNc hP hS hl => ?_)
  have hl : lv_has ls 5 [(0, .ref (b + 0)), (1, .int (nI k)), (2, .int (nI sv)), (3, .int (nI zz))] := hl
  refine lv_aload_n X.1 X.2.1 dL_mark_0 rfl (lv_at hl 0 rfl) ?_
  refine lv_iload_n X.1 X.2.1 dL_mark_1 rfl (lv_at hl 1 rfl) ?_
  refine lv_iload_n X.1 X.2.1 dL_mark_2 rfl (lv_at hl 2 rfl) ?_
  refine lv_iload_n X.1 X.2.1 dL_mark_3 rfl (lv_at hl 3 rfl) ?_
  refine wm_callVv (k := 3) (As := [.int (nI k), .int (nI sv), .int (nI zz)]) (rest := []) X hP hS (by omega) (id hC).1.1 rfl (c_mark l D C b E S k sv zz hC hB hkk hsv hz3) wq2_228 wq2_229 wq2_230 wq1_1 wq2_231 (by decide) (by rw [hRe]; exact ⟨Nat.le_of_ble_eq_true rfl, Nat.le_of_ble_eq_true rfl⟩) rfl hl.1 rfl (Nat.le_of_ble_eq_true rfl) (Nat.zero_le _) (Nat.zero_le _) dL_mark_4 (fun E1 H locs hw hP hS => ?_)
  obtain ⟨S2, hg, hC2, hB2, hfr⟩ := hw
  have hE146 := (hfr 146 (by omega)).trans hE0
  refine lv_goto (tgt := 18) X.1 X.2.1 dL_mark_7 (by decide) ?_
  refine lv_iconst (v := nI 0) X.1 X.2.1 dL_mark_18 (by decide) ?_
  refine wm_wide (k := 1) (n := 6) (Nat.le_of_ble_eq_true rfl) (Nat.le_of_ble_eq_true rfl) ?_
  exact wm_iret (post := q_mark C b E S (nI k) (nI sv) (nI zz)) X hr hP hS ⟨S2, 0, f, rfl, by decide, Or.inr (Or.inr ⟨rfl, k, sv, zz, hkk, rfl, hsv, rfl, hz3, rfl, hg⟩), hC2, hB2, hE146, fun j h1 _ => hfr j h1⟩ hQ dL_mark_19
theorem jarcsX (l : Launch) (hst : l.stackTraces = false) (D : va_G) (C : Nat → ClassId) (b : Nat) (E : Nat → va_E) (S : wm_St) (f : Nat → Int64) (x y z : Int32) (hC : wm_CI C b S E) (hB : wm_BD S) (hE0 : E 146 = wm_JR C 1 f) (hk : wm_no8 x) : Met l yL_arcs (wm_wsW yL_arcs cL_arcs 6 (some .int) [(0, 12, 15, 19), (0, 12, 19, 13)]) { frames := 8, cells := 1, slots := 6, locals := 127 } (va_Pc [.ref (b + 0), .int x, .int y, .int z, .ref (b + 146)] (wm_GN D C b 147 E)) (va_Qi (q_arcs C b E S x y z) (fun E' t => wm_P D b 147 E' t.heap) (wm_A b)) 1 6 (wm_A b) := by
  refine wm_ofWH (by decide) (Nat.le_of_ble_eq_true rfl) (fun p e s m below meth c ls R args Q hRe hQ X hr hxt hV hNc hP hS hl => ?_)
  have hl : lv_has ls 6 [(0, .ref (b + 0)), (1, .int x), (2, .int y), (3, .int z), (4, .ref (b + 146))] := hl
  refine lv_aload X.1 X.2.1 dL_arcs_0 (lv_at hl 4 rfl) ?_
  refine lv_iconst (v := nI 0) X.1 X.2.1 dL_arcs_2 (by decide) ?_
  refine lv_aload_n X.1 X.2.1 dL_arcs_3 rfl (lv_at hl 0 rfl) ?_
  refine lv_iload_n X.1 X.2.1 dL_arcs_4 rfl (lv_at hl 1 rfl) ?_
  refine lv_iload_n X.1 X.2.1 dL_arcs_5 rfl (lv_at hl 2 rfl) ?_
  refine lv_iload_n X.1 X.2.1 dL_arcs_6 rfl (lv_at hl 3 rfl) ?_
  refine wm_xcallV (k := 3) (As := [.int x, .int y, .int z]) (rest := [.int (nI 0), .ref (b + 146)]) X hV hP hS (by omega) (id hC).1.1 rfl (karcsX l hst D C b 147 E _ _ _ _ (by omega) hC.1.1 hk) wq3_17 wq3_18 wq3_19 wq1_1 wq3_20 (by decide) (by rw [hRe]; exact ⟨Nat.le_of_ble_eq_true rfl, Nat.le_of_ble_eq_true rfl⟩) rfl hl.1 rfl (Nat.le_of_ble_eq_true rfl) (by rw [hRe]; exact Nat.le_of_ble_eq_true rfl) (by rw [hRe]; exact Nat.le_of_ble_eq_true rfl) dL_arcs_7 (fun ce q9 H1 locs1 hP hS h1 h2 h3 => ?_)
  refine wm_catch (pre := (tableOf [(0, 12, 15, 19), (0, 12, 19, 13)]).take 0) X (hxt.trans rfl) (fun y hy => absurd hy List.not_mem_nil) (by decide) (by decide) wq2_83 (wm_cast1 hV).1 h1 h2 h3 ?_
  refine lv_astore (lv' := [(5, .ref q9), (0, .ref (b + 0)), (1, .int x), (2, .int y), (3, .int z), (4, .ref (b + 146))]) X.1 X.2.1 dL_arcs_15 hl (by decide) rfl (fun ls hl => ?_)
  refine lv_iconst (v := nI 1) X.1 X.2.1 dL_arcs_17 (by decide) ?_
  refine wm_wide (k := 1) (n := 6) (Nat.le_of_ble_eq_true rfl) (Nat.le_of_ble_eq_true rfl) ?_
  exact wm_iret (post := q_arcs C b E S x y z) X hr hP hS ⟨S, 1, 0, f, rfl, by decide, Or.inl ⟨rfl, rfl, Or.inl hk⟩, hC, hB, hE0, (fun h => absurd h (by decide)), fun _ _ _ => rfl⟩ hQ dL_arcs_18
theorem jarcsS (l : Launch) (hst : l.stackTraces = false) (D : va_G) (C : Nat → ClassId) (b : Nat) (E : Nat → va_E) (S : wm_St) (f : Nat → Int64) (k : Nat) (y z : Int32) (hC : wm_CI C b S E) (hB : wm_BD S) (hE0 : E 146 = wm_JR C 1 f) (hkk : k < 8) (hk : ¬ (0 ≤ y ∧ y < nI (S.1 k).1)) : Met l yL_arcs (wm_wsW yL_arcs cL_arcs 6 (some .int) [(0, 12, 15, 19), (0, 12, 19, 13)]) { frames := 8, cells := 1, slots := 6, locals := 127 } (va_Pc [.ref (b + 0), .int (nI k), .int y, .int z, .ref (b + 146)] (wm_GN D C b 147 E)) (va_Qi (q_arcs C b E S (nI k) y z) (fun E' t => wm_P D b 147 E' t.heap) (wm_A b)) 1 6 (wm_A b) := by
  refine wm_ofWH (by decide) (Nat.le_of_ble_eq_true rfl) (fun p e s m below meth c ls R args Q hRe hQ X hr hxt hV hNc hP hS hl => ?_)
  have hl : lv_has ls 6 [(0, .ref (b + 0)), (1, .int (nI k)), (2, .int y), (3, .int z), (4, .ref (b + 146))] := hl
  refine lv_aload X.1 X.2.1 dL_arcs_0 (lv_at hl 4 rfl) ?_
  refine lv_iconst (v := nI 0) X.1 X.2.1 dL_arcs_2 (by decide) ?_
  refine lv_aload_n X.1 X.2.1 dL_arcs_3 rfl (lv_at hl 0 rfl) ?_
  refine lv_iload_n X.1 X.2.1 dL_arcs_4 rfl (lv_at hl 1 rfl) ?_
  refine lv_iload_n X.1 X.2.1 dL_arcs_5 rfl (lv_at hl 2 rfl) ?_
  refine lv_iload_n X.1 X.2.1 dL_arcs_6 rfl (lv_at hl 3 rfl) ?_
  refine wm_xcallV (k := 3) (As := [.int (nI k), .int y, .int z]) (rest := [.int (nI 0), .ref (b + 146)]) X hV hP hS (by omega) (id hC).1.1 rfl (karcsS l hst D C b 147 E _ _ _ _ _ _ _ (by omega) hC.1.1 (by omega) hC.1.2 (by omega) (hC.2.2.2.2.2.2 _ hkk).1 hkk hk) wq3_17 wq3_18 wq3_19 wq1_1 wq3_20 (by decide) (by rw [hRe]; exact ⟨Nat.le_of_ble_eq_true rfl, Nat.le_of_ble_eq_true rfl⟩) rfl hl.1 rfl (Nat.le_of_ble_eq_true rfl) (by rw [hRe]; exact Nat.le_of_ble_eq_true rfl) (by rw [hRe]; exact Nat.le_of_ble_eq_true rfl) dL_arcs_7 (fun ce q9 H1 locs1 hP hS h1 h2 h3 => ?_)
  refine wm_catch (pre := (tableOf [(0, 12, 15, 19), (0, 12, 19, 13)]).take 0) X (hxt.trans rfl) (fun y hy => absurd hy List.not_mem_nil) (by decide) (by decide) wq2_83 (wm_cast1 hV).1 h1 h2 h3 ?_
  refine lv_astore (lv' := [(5, .ref q9), (0, .ref (b + 0)), (1, .int (nI k)), (2, .int y), (3, .int z), (4, .ref (b + 146))]) X.1 X.2.1 dL_arcs_15 hl (by decide) rfl (fun ls hl => ?_)
  refine lv_iconst (v := nI 1) X.1 X.2.1 dL_arcs_17 (by decide) ?_
  refine wm_wide (k := 1) (n := 6) (Nat.le_of_ble_eq_true rfl) (Nat.le_of_ble_eq_true rfl) ?_
  exact wm_iret (post := q_arcs C b E S (nI k) y z) X hr hP hS ⟨S, 1, 0, f, rfl, by decide, Or.inl ⟨rfl, rfl, Or.inr ⟨k, hkk, rfl, hk⟩⟩, hC, hB, hE0, (fun h => absurd h (by decide)), fun _ _ _ => rfl⟩ hQ dL_arcs_18
theorem jarcsA (l : Launch) (hst : l.stackTraces = false) (D : va_G) (C : Nat → ClassId) (b : Nat) (E : Nat → va_E) (S : wm_St) (f : Nat → Int64) (k sv : Nat) (z : Int32) (hC : wm_CI C b S E) (hB : wm_BD S) (hE0 : E 146 = wm_JR C 1 f) (hkk : k < 8) (hsv : sv < (S.1 k).1) (hk : ¬ (0 ≤ z ∧ z ≤ nI 8)) : Met l yL_arcs (wm_wsW yL_arcs cL_arcs 6 (some .int) [(0, 12, 15, 19), (0, 12, 19, 13)]) { frames := 7, cells := 1, slots := 6, locals := 106 } (va_Pc [.ref (b + 0), .int (nI k), .int (nI sv), .int z, .ref (b + 146)] (wm_GN D C b 147 E)) (va_Qi (q_arcs C b E S (nI k) (nI sv) z) (fun E' t => wm_P D b 147 E' t.heap) (wm_A b)) 1 6 (wm_A b) := by
  refine wm_ofWH (by decide) (Nat.le_of_ble_eq_true rfl) (fun p e s m below meth c ls R args Q hRe hQ X hr hxt hV hNc hP hS hl => ?_)
  have hl : lv_has ls 6 [(0, .ref (b + 0)), (1, .int (nI k)), (2, .int (nI sv)), (3, .int z), (4, .ref (b + 146))] := hl
  refine lv_aload X.1 X.2.1 dL_arcs_0 (lv_at hl 4 rfl) ?_
  refine lv_iconst (v := nI 0) X.1 X.2.1 dL_arcs_2 (by decide) ?_
  refine lv_aload_n X.1 X.2.1 dL_arcs_3 rfl (lv_at hl 0 rfl) ?_
  refine lv_iload_n X.1 X.2.1 dL_arcs_4 rfl (lv_at hl 1 rfl) ?_
  refine lv_iload_n X.1 X.2.1 dL_arcs_5 rfl (lv_at hl 2 rfl) ?_
  refine lv_iload_n X.1 X.2.1 dL_arcs_6 rfl (lv_at hl 3 rfl) ?_
  refine wm_xcallV (k := 3) (As := [.int (nI k), .int (nI sv), .int z]) (rest := [.int (nI 0), .ref (b + 146)]) X hV hP hS (by omega) (id hC).1.1 rfl (karcsA l hst D C b 147 E _ _ _ _ _ _ _ (by omega) hC.1.1 (by omega) hC.1.2 (by omega) (hC.2.2.2.2.2.2 _ hkk).1 hkk (hB.2.2.1 k hkk).2.1 hsv hk) wq3_17 wq3_18 wq3_19 wq1_1 wq3_20 (by decide) (by rw [hRe]; exact ⟨Nat.le_of_ble_eq_true rfl, Nat.le_of_ble_eq_true rfl⟩) rfl hl.1 rfl (Nat.le_of_ble_eq_true rfl) (by rw [hRe]; exact Nat.le_of_ble_eq_true rfl) (by rw [hRe]; exact Nat.le_of_ble_eq_true rfl) dL_arcs_7 (fun ce q9 H1 locs1 hP hS h1 h2 h3 => ?_)
  refine wm_catch (pre := (tableOf [(0, 12, 15, 19), (0, 12, 19, 13)]).take 1) X (hxt.trans rfl) (fun y hy => by rw [List.mem_singleton.mp hy]; exact ⟨by decide, by decide, _, wq2_83, hNc⟩) (by decide) (by decide) wq2_8 (wm_cast1 hV).2 h1 h2 h3 ?_
  refine lv_astore (lv' := [(5, .ref q9), (0, .ref (b + 0)), (1, .int (nI k)), (2, .int (nI sv)), (3, .int z), (4, .ref (b + 146))]) X.1 X.2.1 dL_arcs_19 hl (by decide) rfl (fun ls hl => ?_)
  refine lv_iconst (v := nI 2) X.1 X.2.1 dL_arcs_21 (by decide) ?_
  refine wm_wide (k := 1) (n := 6) (Nat.le_of_ble_eq_true rfl) (Nat.le_of_ble_eq_true rfl) ?_
  exact wm_iret (post := q_arcs C b E S (nI k) (nI sv) z) X hr hP hS ⟨S, 2, 0, f, rfl, by decide, Or.inr (Or.inl ⟨rfl, rfl, k, sv, hkk, rfl, hsv, rfl, hk⟩), hC, hB, hE0, (fun h => absurd h (by decide)), fun _ _ _ => rfl⟩ hQ dL_arcs_22
theorem jarcsG (l : Launch) (hst : l.stackTraces = false) (D : va_G) (C : Nat → ClassId) (b : Nat) (E : Nat → va_E) (S : wm_St) (f : Nat → Int64) (k sv lr : Nat) (hC : wm_CI C b S E) (hB : wm_BD S) (hE0 : E 146 = wm_JR C 1 f) (hkk : k < 8) (hsv : sv < (S.1 k).1) (hlr : lr ≤ 8) : Met l yL_arcs (wm_wsW yL_arcs cL_arcs 6 (some .int) [(0, 12, 15, 19), (0, 12, 19, 13)]) { frames := 2, cells := 1, slots := 6, locals := 46 } (va_Pc [.ref (b + 0), .int (nI k), .int (nI sv), .int (nI lr), .ref (b + 146)] (wm_GN D C b 147 E)) (va_Qi (q_arcs C b E S (nI k) (nI sv) (nI lr)) (fun E' t => wm_P D b 147 E' t.heap) (wm_A b)) 1 6 (wm_A b) := by
  refine wm_ofWH (by decide) (Nat.le_of_ble_eq_true rfl) (fun p e s m below meth c ls R args Q hRe hQ X hr hxt hV hNc hP hS hl => ?_)
  have hl : lv_has ls 6 [(0, .ref (b + 0)), (1, .int (nI k)), (2, .int (nI sv)), (3, .int (nI lr)), (4, .ref (b + 146))] := hl
  refine lv_aload X.1 X.2.1 dL_arcs_0 (lv_at hl 4 rfl) ?_
  refine lv_iconst (v := nI 0) X.1 X.2.1 dL_arcs_2 (by decide) ?_
  refine lv_aload_n X.1 X.2.1 dL_arcs_3 rfl (lv_at hl 0 rfl) ?_
  refine lv_iload_n X.1 X.2.1 dL_arcs_4 rfl (lv_at hl 1 rfl) ?_
  refine lv_iload_n X.1 X.2.1 dL_arcs_5 rfl (lv_at hl 2 rfl) ?_
  refine lv_iload_n X.1 X.2.1 dL_arcs_6 rfl (lv_at hl 3 rfl) ?_
  refine wm_callVi (k := 3) (As := [.int (nI k), .int (nI sv), .int (nI lr)]) (rest := [.int (nI 0), .ref (b + 146)]) X hP hS (by omega) (id hC).1.1 rfl (c_arcs l D C b E S k sv lr hC hB hkk hsv hlr) wq3_17 wq3_18 wq3_19 wq1_1 wq3_20 (by decide) (by rw [hRe]; exact ⟨Nat.le_of_ble_eq_true rfl, Nat.le_of_ble_eq_true rfl⟩) rfl hl.1 rfl (Nat.le_of_ble_eq_true rfl) (Nat.zero_le _) (Nat.zero_le _) dL_arcs_7 (fun r1 E1 H locs hw hP hS => ?_)
  obtain ⟨S2, v2, rfl, hg, hC2, hB2, hfr⟩ := hw
  have hE146 := (hfr 146 (by omega)).trans hE0
  refine lv_i2l (v := (nI v2).toInt64) X.1 X.2.1 dL_arcs_10 rfl ?_
  refine wm_lastR (N := 1) (x := ((nI v2).toInt64)) (i := 0) X hP hS (by omega) hE146 (by decide) (by decide) dL_arcs_11 (fun H locs E2 hP hS hE146 hq => ?_)
  refine lv_goto (tgt := 23) X.1 X.2.1 dL_arcs_12 (by decide) ?_
  refine lv_iconst (v := nI 0) X.1 X.2.1 dL_arcs_23 (by decide) ?_
  refine wm_wide (k := 1) (n := 6) (Nat.le_of_ble_eq_true rfl) (Nat.le_of_ble_eq_true rfl) ?_
  exact wm_iret (post := q_arcs C b E S (nI k) (nI sv) (nI lr)) X hr hP hS ⟨S2, 0, v2, _, rfl, by decide, Or.inr (Or.inr ⟨rfl, k, sv, lr, hkk, rfl, hsv, rfl, hlr, rfl, hg⟩), hC2.cg (fun j hj => hq j (by omega)), hB2, hE146, (fun _ => rfl), fun j h1 h2 => (hq j h2).trans (hfr j h1)⟩ hQ dL_arcs_24
theorem jarcX (l : Launch) (hst : l.stackTraces = false) (D : va_G) (C : Nat → ClassId) (b : Nat) (E : Nat → va_E) (S : wm_St) (f : Nat → Int64) (x y z w : Int32) (v0 : Bool) (hC : wm_CI C b S E) (hB : wm_BD S) (hE0 : E 146 = wm_JR C 1 f) (hk : wm_no8 x) : Met l yL_arc (wm_wsW yL_arc cL_arc 8 (some .int) [(0, 23, 26, 19), (0, 23, 30, 13)]) { frames := 8, cells := 1, slots := 6, locals := 130 } (va_Pc [.ref (b + 0), .int x, .int y, .int z, .int w, .int (nI v0.toNat), .ref (b + 146)] (wm_GN D C b 147 E)) (va_Qi (q_arc C b E S x y z w v0) (fun E' t => wm_P D b 147 E' t.heap) (wm_A b)) 1 6 (wm_A b) := by
  refine wm_ofWH (by decide) (Nat.le_of_ble_eq_true rfl) (fun p e s m below meth c ls R args Q hRe hQ X hr hxt hV hNc hP hS hl => ?_)
  have hl : lv_has ls 8 [(0, .ref (b + 0)), (1, .int x), (2, .int y), (3, .int z), (4, .int w), (5, .int (nI v0.toNat)), (6, .ref (b + 146))] := hl
  refine lv_aload X.1 X.2.1 dL_arc_0 (lv_at hl 6 rfl) ?_
  refine lv_iconst (v := nI 0) X.1 X.2.1 dL_arc_2 (by decide) ?_
  refine lv_aload_n X.1 X.2.1 dL_arc_3 rfl (lv_at hl 0 rfl) ?_
  refine lv_iload_n X.1 X.2.1 dL_arc_4 rfl (lv_at hl 1 rfl) ?_
  refine lv_iload_n X.1 X.2.1 dL_arc_5 rfl (lv_at hl 2 rfl) ?_
  refine lv_iload_n X.1 X.2.1 dL_arc_6 rfl (lv_at hl 3 rfl) ?_
  refine lv_iload X.1 X.2.1 dL_arc_7 (lv_at hl 4 rfl) ?_
  refine lv_iload X.1 X.2.1 dL_arc_9 (lv_at hl 5 rfl) ?_
  refine wm_xcallV (k := 5) (As := [.int x, .int y, .int z, .int w, .int (nI v0.toNat)]) (rest := [.int (nI 0), .ref (b + 146)]) X hV hP hS (by omega) (id hC).1.1 rfl (karcX l hst D C b 147 E _ _ _ _ _ _ (by omega) hC.1.1 hk) wq3_3 wq3_4 wq3_5 wq1_1 wq3_6 (by decide) (by rw [hRe]; exact ⟨Nat.le_of_ble_eq_true rfl, Nat.le_of_ble_eq_true rfl⟩) rfl hl.1 rfl (Nat.le_of_ble_eq_true rfl) (by rw [hRe]; exact Nat.le_of_ble_eq_true rfl) (by rw [hRe]; exact Nat.le_of_ble_eq_true rfl) dL_arc_11 (fun ce q9 H1 locs1 hP hS h1 h2 h3 => ?_)
  refine wm_catch (pre := (tableOf [(0, 23, 26, 19), (0, 23, 30, 13)]).take 0) X (hxt.trans rfl) (fun y hy => absurd hy List.not_mem_nil) (by decide) (by decide) wq2_83 (wm_cast1 hV).1 h1 h2 h3 ?_
  refine lv_astore (lv' := [(7, .ref q9), (0, .ref (b + 0)), (1, .int x), (2, .int y), (3, .int z), (4, .int w), (5, .int (nI v0.toNat)), (6, .ref (b + 146))]) X.1 X.2.1 dL_arc_26 hl (by decide) rfl (fun ls hl => ?_)
  refine lv_iconst (v := nI 1) X.1 X.2.1 dL_arc_28 (by decide) ?_
  refine wm_wide (k := 1) (n := 6) (Nat.le_of_ble_eq_true rfl) (Nat.le_of_ble_eq_true rfl) ?_
  exact wm_iret (post := q_arc C b E S x y z w v0) X hr hP hS ⟨S, 1, false, f, rfl, by decide, Or.inl ⟨rfl, rfl, Or.inl hk⟩, hC, hB, hE0, (fun h => absurd h (by decide)), fun _ _ _ => rfl⟩ hQ dL_arc_29
theorem jarcS (l : Launch) (hst : l.stackTraces = false) (D : va_G) (C : Nat → ClassId) (b : Nat) (E : Nat → va_E) (S : wm_St) (f : Nat → Int64) (k : Nat) (y z w : Int32) (v0 : Bool) (hC : wm_CI C b S E) (hB : wm_BD S) (hE0 : E 146 = wm_JR C 1 f) (hkk : k < 8) (hk : ¬ (0 ≤ y ∧ y < nI (S.1 k).1)) : Met l yL_arc (wm_wsW yL_arc cL_arc 8 (some .int) [(0, 23, 26, 19), (0, 23, 30, 13)]) { frames := 8, cells := 1, slots := 6, locals := 130 } (va_Pc [.ref (b + 0), .int (nI k), .int y, .int z, .int w, .int (nI v0.toNat), .ref (b + 146)] (wm_GN D C b 147 E)) (va_Qi (q_arc C b E S (nI k) y z w v0) (fun E' t => wm_P D b 147 E' t.heap) (wm_A b)) 1 6 (wm_A b) := by
  refine wm_ofWH (by decide) (Nat.le_of_ble_eq_true rfl) (fun p e s m below meth c ls R args Q hRe hQ X hr hxt hV hNc hP hS hl => ?_)
  have hl : lv_has ls 8 [(0, .ref (b + 0)), (1, .int (nI k)), (2, .int y), (3, .int z), (4, .int w), (5, .int (nI v0.toNat)), (6, .ref (b + 146))] := hl
  refine lv_aload X.1 X.2.1 dL_arc_0 (lv_at hl 6 rfl) ?_
  refine lv_iconst (v := nI 0) X.1 X.2.1 dL_arc_2 (by decide) ?_
  refine lv_aload_n X.1 X.2.1 dL_arc_3 rfl (lv_at hl 0 rfl) ?_
  refine lv_iload_n X.1 X.2.1 dL_arc_4 rfl (lv_at hl 1 rfl) ?_
  refine lv_iload_n X.1 X.2.1 dL_arc_5 rfl (lv_at hl 2 rfl) ?_
  refine lv_iload_n X.1 X.2.1 dL_arc_6 rfl (lv_at hl 3 rfl) ?_
  refine lv_iload X.1 X.2.1 dL_arc_7 (lv_at hl 4 rfl) ?_
  refine lv_iload X.1 X.2.1 dL_arc_9 (lv_at hl 5 rfl) ?_
  refine wm_xcallV (k := 5) (As := [.int (nI k), .int y, .int z, .int w, .int (nI v0.toNat)]) (rest := [.int (nI 0), .ref (b + 146)]) X hV hP hS (by omega) (id hC).1.1 rfl (karcS l hst D C b 147 E _ _ _ _ _ _ _ _ _ (by omega) hC.1.1 (by omega) hC.1.2 (by omega) (hC.2.2.2.2.2.2 _ hkk).1 hkk hk) wq3_3 wq3_4 wq3_5 wq1_1 wq3_6 (by decide) (by rw [hRe]; exact ⟨Nat.le_of_ble_eq_true rfl, Nat.le_of_ble_eq_true rfl⟩) rfl hl.1 rfl (Nat.le_of_ble_eq_true rfl) (by rw [hRe]; exact Nat.le_of_ble_eq_true rfl) (by rw [hRe]; exact Nat.le_of_ble_eq_true rfl) dL_arc_11 (fun ce q9 H1 locs1 hP hS h1 h2 h3 => ?_)
  refine wm_catch (pre := (tableOf [(0, 23, 26, 19), (0, 23, 30, 13)]).take 0) X (hxt.trans rfl) (fun y hy => absurd hy List.not_mem_nil) (by decide) (by decide) wq2_83 (wm_cast1 hV).1 h1 h2 h3 ?_
  refine lv_astore (lv' := [(7, .ref q9), (0, .ref (b + 0)), (1, .int (nI k)), (2, .int y), (3, .int z), (4, .int w), (5, .int (nI v0.toNat)), (6, .ref (b + 146))]) X.1 X.2.1 dL_arc_26 hl (by decide) rfl (fun ls hl => ?_)
  refine lv_iconst (v := nI 1) X.1 X.2.1 dL_arc_28 (by decide) ?_
  refine wm_wide (k := 1) (n := 6) (Nat.le_of_ble_eq_true rfl) (Nat.le_of_ble_eq_true rfl) ?_
  exact wm_iret (post := q_arc C b E S (nI k) y z w v0) X hr hP hS ⟨S, 1, false, f, rfl, by decide, Or.inl ⟨rfl, rfl, Or.inr ⟨k, hkk, rfl, Or.inl hk⟩⟩, hC, hB, hE0, (fun h => absurd h (by decide)), fun _ _ _ => rfl⟩ hQ dL_arc_29
theorem jarcT (l : Launch) (hst : l.stackTraces = false) (D : va_G) (C : Nat → ClassId) (b : Nat) (E : Nat → va_E) (S : wm_St) (f : Nat → Int64) (k sv : Nat) (z w : Int32) (v0 : Bool) (hC : wm_CI C b S E) (hB : wm_BD S) (hE0 : E 146 = wm_JR C 1 f) (hkk : k < 8) (hsv : sv < (S.1 k).1) (hk : ¬ (0 ≤ w ∧ w < nI (S.1 k).1)) : Met l yL_arc (wm_wsW yL_arc cL_arc 8 (some .int) [(0, 23, 26, 19), (0, 23, 30, 13)]) { frames := 8, cells := 1, slots := 6, locals := 130 } (va_Pc [.ref (b + 0), .int (nI k), .int (nI sv), .int z, .int w, .int (nI v0.toNat), .ref (b + 146)] (wm_GN D C b 147 E)) (va_Qi (q_arc C b E S (nI k) (nI sv) z w v0) (fun E' t => wm_P D b 147 E' t.heap) (wm_A b)) 1 6 (wm_A b) := by
  refine wm_ofWH (by decide) (Nat.le_of_ble_eq_true rfl) (fun p e s m below meth c ls R args Q hRe hQ X hr hxt hV hNc hP hS hl => ?_)
  have hl : lv_has ls 8 [(0, .ref (b + 0)), (1, .int (nI k)), (2, .int (nI sv)), (3, .int z), (4, .int w), (5, .int (nI v0.toNat)), (6, .ref (b + 146))] := hl
  refine lv_aload X.1 X.2.1 dL_arc_0 (lv_at hl 6 rfl) ?_
  refine lv_iconst (v := nI 0) X.1 X.2.1 dL_arc_2 (by decide) ?_
  refine lv_aload_n X.1 X.2.1 dL_arc_3 rfl (lv_at hl 0 rfl) ?_
  refine lv_iload_n X.1 X.2.1 dL_arc_4 rfl (lv_at hl 1 rfl) ?_
  refine lv_iload_n X.1 X.2.1 dL_arc_5 rfl (lv_at hl 2 rfl) ?_
  refine lv_iload_n X.1 X.2.1 dL_arc_6 rfl (lv_at hl 3 rfl) ?_
  refine lv_iload X.1 X.2.1 dL_arc_7 (lv_at hl 4 rfl) ?_
  refine lv_iload X.1 X.2.1 dL_arc_9 (lv_at hl 5 rfl) ?_
  refine wm_xcallV (k := 5) (As := [.int (nI k), .int (nI sv), .int z, .int w, .int (nI v0.toNat)]) (rest := [.int (nI 0), .ref (b + 146)]) X hV hP hS (by omega) (id hC).1.1 rfl (karcT l hst D C b 147 E _ _ _ _ _ _ _ _ _ (by omega) hC.1.1 (by omega) hC.1.2 (by omega) (hC.2.2.2.2.2.2 _ hkk).1 hkk (hB.2.2.1 k hkk).2.1 hsv hk) wq3_3 wq3_4 wq3_5 wq1_1 wq3_6 (by decide) (by rw [hRe]; exact ⟨Nat.le_of_ble_eq_true rfl, Nat.le_of_ble_eq_true rfl⟩) rfl hl.1 rfl (Nat.le_of_ble_eq_true rfl) (by rw [hRe]; exact Nat.le_of_ble_eq_true rfl) (by rw [hRe]; exact Nat.le_of_ble_eq_true rfl) dL_arc_11 (fun ce q9 H1 locs1 hP hS h1 h2 h3 => ?_)
  refine wm_catch (pre := (tableOf [(0, 23, 26, 19), (0, 23, 30, 13)]).take 0) X (hxt.trans rfl) (fun y hy => absurd hy List.not_mem_nil) (by decide) (by decide) wq2_83 (wm_cast1 hV).1 h1 h2 h3 ?_
  refine lv_astore (lv' := [(7, .ref q9), (0, .ref (b + 0)), (1, .int (nI k)), (2, .int (nI sv)), (3, .int z), (4, .int w), (5, .int (nI v0.toNat)), (6, .ref (b + 146))]) X.1 X.2.1 dL_arc_26 hl (by decide) rfl (fun ls hl => ?_)
  refine lv_iconst (v := nI 1) X.1 X.2.1 dL_arc_28 (by decide) ?_
  refine wm_wide (k := 1) (n := 6) (Nat.le_of_ble_eq_true rfl) (Nat.le_of_ble_eq_true rfl) ?_
  exact wm_iret (post := q_arc C b E S (nI k) (nI sv) z w v0) X hr hP hS ⟨S, 1, false, f, rfl, by decide, Or.inl ⟨rfl, rfl, Or.inr ⟨k, hkk, rfl, Or.inr ⟨sv, hsv, rfl, hk⟩⟩⟩, hC, hB, hE0, (fun h => absurd h (by decide)), fun _ _ _ => rfl⟩ hQ dL_arc_29
theorem jarcA (l : Launch) (hst : l.stackTraces = false) (D : va_G) (C : Nat → ClassId) (b : Nat) (E : Nat → va_E) (S : wm_St) (f : Nat → Int64) (k sv sw : Nat) (z : Int32) (v0 : Bool) (hC : wm_CI C b S E) (hB : wm_BD S) (hE0 : E 146 = wm_JR C 1 f) (hkk : k < 8) (hsv : sv < (S.1 k).1) (hsw : sw < (S.1 k).1) (hk : ¬ (0 ≤ z ∧ z < nI 8)) : Met l yL_arc (wm_wsW yL_arc cL_arc 8 (some .int) [(0, 23, 26, 19), (0, 23, 30, 13)]) { frames := 7, cells := 1, slots := 6, locals := 109 } (va_Pc [.ref (b + 0), .int (nI k), .int (nI sv), .int z, .int (nI sw), .int (nI v0.toNat), .ref (b + 146)] (wm_GN D C b 147 E)) (va_Qi (q_arc C b E S (nI k) (nI sv) z (nI sw) v0) (fun E' t => wm_P D b 147 E' t.heap) (wm_A b)) 1 6 (wm_A b) := by
  refine wm_ofWH (by decide) (Nat.le_of_ble_eq_true rfl) (fun p e s m below meth c ls R args Q hRe hQ X hr hxt hV hNc hP hS hl => ?_)
  have hl : lv_has ls 8 [(0, .ref (b + 0)), (1, .int (nI k)), (2, .int (nI sv)), (3, .int z), (4, .int (nI sw)), (5, .int (nI v0.toNat)), (6, .ref (b + 146))] := hl
  refine lv_aload X.1 X.2.1 dL_arc_0 (lv_at hl 6 rfl) ?_
  refine lv_iconst (v := nI 0) X.1 X.2.1 dL_arc_2 (by decide) ?_
  refine lv_aload_n X.1 X.2.1 dL_arc_3 rfl (lv_at hl 0 rfl) ?_
  refine lv_iload_n X.1 X.2.1 dL_arc_4 rfl (lv_at hl 1 rfl) ?_
  refine lv_iload_n X.1 X.2.1 dL_arc_5 rfl (lv_at hl 2 rfl) ?_
  refine lv_iload_n X.1 X.2.1 dL_arc_6 rfl (lv_at hl 3 rfl) ?_
  refine lv_iload X.1 X.2.1 dL_arc_7 (lv_at hl 4 rfl) ?_
  refine lv_iload X.1 X.2.1 dL_arc_9 (lv_at hl 5 rfl) ?_
  refine wm_xcallV (k := 5) (As := [.int (nI k), .int (nI sv), .int z, .int (nI sw), .int (nI v0.toNat)]) (rest := [.int (nI 0), .ref (b + 146)]) X hV hP hS (by omega) (id hC).1.1 rfl (karcA l hst D C b 147 E _ _ _ _ _ _ _ _ _ (by omega) hC.1.1 (by omega) hC.1.2 (by omega) (hC.2.2.2.2.2.2 _ hkk).1 hkk (hB.2.2.1 k hkk).2.1 hsv hsw hk) wq3_3 wq3_4 wq3_5 wq1_1 wq3_6 (by decide) (by rw [hRe]; exact ⟨Nat.le_of_ble_eq_true rfl, Nat.le_of_ble_eq_true rfl⟩) rfl hl.1 rfl (Nat.le_of_ble_eq_true rfl) (by rw [hRe]; exact Nat.le_of_ble_eq_true rfl) (by rw [hRe]; exact Nat.le_of_ble_eq_true rfl) dL_arc_11 (fun ce q9 H1 locs1 hP hS h1 h2 h3 => ?_)
  refine wm_catch (pre := (tableOf [(0, 23, 26, 19), (0, 23, 30, 13)]).take 1) X (hxt.trans rfl) (fun y hy => by rw [List.mem_singleton.mp hy]; exact ⟨by decide, by decide, _, wq2_83, hNc⟩) (by decide) (by decide) wq2_8 (wm_cast1 hV).2 h1 h2 h3 ?_
  refine lv_astore (lv' := [(7, .ref q9), (0, .ref (b + 0)), (1, .int (nI k)), (2, .int (nI sv)), (3, .int z), (4, .int (nI sw)), (5, .int (nI v0.toNat)), (6, .ref (b + 146))]) X.1 X.2.1 dL_arc_30 hl (by decide) rfl (fun ls hl => ?_)
  refine lv_iconst (v := nI 2) X.1 X.2.1 dL_arc_32 (by decide) ?_
  refine wm_wide (k := 1) (n := 6) (Nat.le_of_ble_eq_true rfl) (Nat.le_of_ble_eq_true rfl) ?_
  exact wm_iret (post := q_arc C b E S (nI k) (nI sv) z (nI sw) v0) X hr hP hS ⟨S, 2, false, f, rfl, by decide, Or.inr (Or.inl ⟨rfl, rfl, k, sv, sw, hkk, rfl, hsv, rfl, hsw, rfl, hk⟩), hC, hB, hE0, (fun h => absurd h (by decide)), fun _ _ _ => rfl⟩ hQ dL_arc_33
theorem jarcG (l : Launch) (hst : l.stackTraces = false) (D : va_G) (C : Nat → ClassId) (b : Nat) (E : Nat → va_E) (S : wm_St) (f : Nat → Int64) (k sv lr sw : Nat) (v0 : Bool) (hC : wm_CI C b S E) (hB : wm_BD S) (hE0 : E 146 = wm_JR C 1 f) (hkk : k < 8) (hsv : sv < (S.1 k).1) (hsw : sw < (S.1 k).1) (hlr : lr < 8) : Met l yL_arc (wm_wsW yL_arc cL_arc 8 (some .int) [(0, 23, 26, 19), (0, 23, 30, 13)]) { frames := 2, cells := 1, slots := 6, locals := 50 } (va_Pc [.ref (b + 0), .int (nI k), .int (nI sv), .int (nI lr), .int (nI sw), .int (nI v0.toNat), .ref (b + 146)] (wm_GN D C b 147 E)) (va_Qi (q_arc C b E S (nI k) (nI sv) (nI lr) (nI sw) v0) (fun E' t => wm_P D b 147 E' t.heap) (wm_A b)) 1 6 (wm_A b) := by
  refine wm_ofWH (by decide) (Nat.le_of_ble_eq_true rfl) (fun p e s m below meth c ls R args Q hRe hQ X hr hxt hV hNc hP hS hl => ?_)
  have hl : lv_has ls 8 [(0, .ref (b + 0)), (1, .int (nI k)), (2, .int (nI sv)), (3, .int (nI lr)), (4, .int (nI sw)), (5, .int (nI v0.toNat)), (6, .ref (b + 146))] := hl
  refine lv_aload X.1 X.2.1 dL_arc_0 (lv_at hl 6 rfl) ?_
  refine lv_iconst (v := nI 0) X.1 X.2.1 dL_arc_2 (by decide) ?_
  refine lv_aload_n X.1 X.2.1 dL_arc_3 rfl (lv_at hl 0 rfl) ?_
  refine lv_iload_n X.1 X.2.1 dL_arc_4 rfl (lv_at hl 1 rfl) ?_
  refine lv_iload_n X.1 X.2.1 dL_arc_5 rfl (lv_at hl 2 rfl) ?_
  refine lv_iload_n X.1 X.2.1 dL_arc_6 rfl (lv_at hl 3 rfl) ?_
  refine lv_iload X.1 X.2.1 dL_arc_7 (lv_at hl 4 rfl) ?_
  refine lv_iload X.1 X.2.1 dL_arc_9 (lv_at hl 5 rfl) ?_
  refine wm_callVi (k := 5) (As := [.int (nI k), .int (nI sv), .int (nI lr), .int (nI sw), .int (nI v0.toNat)]) (rest := [.int (nI 0), .ref (b + 146)]) X hP hS (by omega) (id hC).1.1 rfl (c_arc l D C b E S k sv lr sw v0 hC hB hkk hsv hsw hlr) wq3_3 wq3_4 wq3_5 wq1_1 wq3_6 (by decide) (by rw [hRe]; exact ⟨Nat.le_of_ble_eq_true rfl, Nat.le_of_ble_eq_true rfl⟩) rfl hl.1 rfl (Nat.le_of_ble_eq_true rfl) (Nat.zero_le _) (Nat.zero_le _) dL_arc_11 (fun r1 E1 H locs hw hP hS => ?_)
  obtain ⟨S2, v2, rfl, hg, hC2, hB2, hfr⟩ := hw
  have hE146 := (hfr 146 (by omega)).trans hE0
  have hb : v2 = true ∨ v2 = false := by cases v2 <;> simp
  rcases hb with rfl | rfl
  · refine wm_ifz_eq (x := true) (tgt := 21) X dL_arc_14 (by decide) (fun h => by exfalso; revert h; decide) (fun _ => ?_)
    refine lv_lconst (v := lN 1) X.1 X.2.1 dL_arc_17 (by decide) ?_
    refine lv_goto (tgt := 22) X.1 X.2.1 dL_arc_18 (by decide) ?_
    refine wm_lastR (N := 1) (x := lN 1) (i := 0) X hP hS (by omega) hE146 (by decide) (by decide) dL_arc_22 (fun H locs E2 hP hS hE146 hq => ?_)
    refine lv_goto (tgt := 34) X.1 X.2.1 dL_arc_23 (by decide) ?_
    refine lv_iconst (v := nI 0) X.1 X.2.1 dL_arc_34 (by decide) ?_
    refine wm_wide (k := 1) (n := 6) (Nat.le_of_ble_eq_true rfl) (Nat.le_of_ble_eq_true rfl) ?_
    exact wm_iret (post := q_arc C b E S (nI k) (nI sv) (nI lr) (nI sw) v0) X hr hP hS ⟨S2, 0, _, _, rfl, by decide, Or.inr (Or.inr ⟨rfl, k, sv, lr, sw, hkk, rfl, hsv, rfl, hlr, rfl, hsw, rfl, hg⟩), hC2.cg (fun j hj => hq j (by omega)), hB2, hE146, (fun _ => rfl), fun j h1 h2 => (hq j h2).trans (hfr j h1)⟩ hQ dL_arc_35
  · refine wm_ifz_eq (x := false) (tgt := 21) X dL_arc_14 (by decide) (fun _ => ?_) (fun h => by exfalso; revert h; decide)
    refine lv_lconst (v := lN 0) X.1 X.2.1 dL_arc_21 (by decide) ?_
    refine wm_lastR (N := 1) (x := lN 0) (i := 0) X hP hS (by omega) hE146 (by decide) (by decide) dL_arc_22 (fun H locs E2 hP hS hE146 hq => ?_)
    refine lv_goto (tgt := 34) X.1 X.2.1 dL_arc_23 (by decide) ?_
    refine lv_iconst (v := nI 0) X.1 X.2.1 dL_arc_34 (by decide) ?_
    refine wm_wide (k := 1) (n := 6) (Nat.le_of_ble_eq_true rfl) (Nat.le_of_ble_eq_true rfl) ?_
    exact wm_iret (post := q_arc C b E S (nI k) (nI sv) (nI lr) (nI sw) v0) X hr hP hS ⟨S2, 0, _, _, rfl, by decide, Or.inr (Or.inr ⟨rfl, k, sv, lr, sw, hkk, rfl, hsv, rfl, hlr, rfl, hsw, rfl, hg⟩), hC2.cg (fun j hj => hq j (by omega)), hB2, hE146, (fun _ => rfl), fun j h1 h2 => (hq j h2).trans (hfr j h1)⟩ hQ dL_arc_35
theorem jturnX (l : Launch) (hst : l.stackTraces = false) (D : va_G) (C : Nat → ClassId) (b : Nat) (E : Nat → va_E) (S : wm_St) (f : Nat → Int64) (x y : Int32) (hC : wm_CI C b S E) (hB : wm_BD S) (hE0 : E 146 = wm_JR C 1 f) (hk : wm_no8 x) : Met l yL_turn (wm_wsW yL_turn cL_turn 4 (some .int) [(0, 6, 9, 19)]) { frames := 8, cells := 1, slots := 6, locals := 127 } (va_Pc [.ref (b + 0), .int x, .int y] (wm_GN D C b 147 E)) (va_Qi (q_turn C b E S x y) (fun E' t => wm_P D b 147 E' t.heap) (wm_A b)) 1 6 (wm_A b) := by
  refine wm_ofWH (by decide) (Nat.le_of_ble_eq_true rfl) (fun p e s m below meth c ls R args Q hRe hQ X hr hxt hV hNc hP hS hl => ?_)
  have hl : lv_has ls 4 [(0, .ref (b + 0)), (1, .int x), (2, .int y)] := hl
  refine lv_aload_n X.1 X.2.1 dL_turn_0 rfl (lv_at hl 0 rfl) ?_
  refine lv_iload_n X.1 X.2.1 dL_turn_1 rfl (lv_at hl 1 rfl) ?_
  refine lv_iload_n X.1 X.2.1 dL_turn_2 rfl (lv_at hl 2 rfl) ?_
  refine wm_xcallV (k := 2) (As := [.int x, .int y]) (rest := []) X hV hP hS (by omega) (id hC).1.1 rfl (kturnX l hst D C b 147 E _ _ _ (by omega) hC.1.1 hk) wq3_31 wq3_32 wq3_33 wq1_1 wq3_34 (by decide) (by rw [hRe]; exact ⟨Nat.le_of_ble_eq_true rfl, Nat.le_of_ble_eq_true rfl⟩) rfl hl.1 rfl (Nat.le_of_ble_eq_true rfl) (by rw [hRe]; exact Nat.le_of_ble_eq_true rfl) (by rw [hRe]; exact Nat.le_of_ble_eq_true rfl) dL_turn_3 (fun ce q9 H1 locs1 hP hS h1 h2 h3 => ?_)
  refine wm_catch (pre := (tableOf [(0, 6, 9, 19)]).take 0) X (hxt.trans rfl) (fun y hy => absurd hy List.not_mem_nil) (by decide) (by decide) wq2_83 (wm_cast1 hV).1 h1 h2 h3 ?_
  refine lv_astore_n (lv' := [(3, .ref q9), (0, .ref (b + 0)), (1, .int x), (2, .int y)]) X.1 X.2.1 dL_turn_9 rfl hl (by decide) rfl (fun ls hl => ?_)
  refine lv_iconst (v := nI 1) X.1 X.2.1 dL_turn_10 (by decide) ?_
  refine wm_wide (k := 1) (n := 6) (Nat.le_of_ble_eq_true rfl) (Nat.le_of_ble_eq_true rfl) ?_
  exact wm_iret (post := q_turn C b E S x y) X hr hP hS ⟨S, 1, f, rfl, by decide, Or.inl ⟨rfl, rfl, Or.inl hk⟩, hC, hB, hE0, fun _ _ _ => rfl⟩ hQ dL_turn_11
theorem jturnY (l : Launch) (hst : l.stackTraces = false) (D : va_G) (C : Nat → ClassId) (b : Nat) (E : Nat → va_E) (S : wm_St) (f : Nat → Int64) (k : Nat) (y : Int32) (hC : wm_CI C b S E) (hB : wm_BD S) (hE0 : E 146 = wm_JR C 1 f) (hkk : k < 8) (hk : wm_no8 y) : Met l yL_turn (wm_wsW yL_turn cL_turn 4 (some .int) [(0, 6, 9, 19)]) { frames := 8, cells := 1, slots := 6, locals := 127 } (va_Pc [.ref (b + 0), .int (nI k), .int y] (wm_GN D C b 147 E)) (va_Qi (q_turn C b E S (nI k) y) (fun E' t => wm_P D b 147 E' t.heap) (wm_A b)) 1 6 (wm_A b) := by
  refine wm_ofWH (by decide) (Nat.le_of_ble_eq_true rfl) (fun p e s m below meth c ls R args Q hRe hQ X hr hxt hV hNc hP hS hl => ?_)
  have hl : lv_has ls 4 [(0, .ref (b + 0)), (1, .int (nI k)), (2, .int y)] := hl
  refine lv_aload_n X.1 X.2.1 dL_turn_0 rfl (lv_at hl 0 rfl) ?_
  refine lv_iload_n X.1 X.2.1 dL_turn_1 rfl (lv_at hl 1 rfl) ?_
  refine lv_iload_n X.1 X.2.1 dL_turn_2 rfl (lv_at hl 2 rfl) ?_
  refine wm_xcallV (k := 2) (As := [.int (nI k), .int y]) (rest := []) X hV hP hS (by omega) (id hC).1.1 rfl (kturnY l hst D C b 147 E _ _ _ (by omega) hC.1.1 (by omega) hC.1.2 hkk hk) wq3_31 wq3_32 wq3_33 wq1_1 wq3_34 (by decide) (by rw [hRe]; exact ⟨Nat.le_of_ble_eq_true rfl, Nat.le_of_ble_eq_true rfl⟩) rfl hl.1 rfl (Nat.le_of_ble_eq_true rfl) (by rw [hRe]; exact Nat.le_of_ble_eq_true rfl) (by rw [hRe]; exact Nat.le_of_ble_eq_true rfl) dL_turn_3 (fun ce q9 H1 locs1 hP hS h1 h2 h3 => ?_)
  refine wm_catch (pre := (tableOf [(0, 6, 9, 19)]).take 0) X (hxt.trans rfl) (fun y hy => absurd hy List.not_mem_nil) (by decide) (by decide) wq2_83 (wm_cast1 hV).1 h1 h2 h3 ?_
  refine lv_astore_n (lv' := [(3, .ref q9), (0, .ref (b + 0)), (1, .int (nI k)), (2, .int y)]) X.1 X.2.1 dL_turn_9 rfl hl (by decide) rfl (fun ls hl => ?_)
  refine lv_iconst (v := nI 1) X.1 X.2.1 dL_turn_10 (by decide) ?_
  refine wm_wide (k := 1) (n := 6) (Nat.le_of_ble_eq_true rfl) (Nat.le_of_ble_eq_true rfl) ?_
  exact wm_iret (post := q_turn C b E S (nI k) y) X hr hP hS ⟨S, 1, f, rfl, by decide, Or.inl ⟨rfl, rfl, Or.inr hk⟩, hC, hB, hE0, fun _ _ _ => rfl⟩ hQ dL_turn_11
theorem jturnG (l : Launch) (hst : l.stackTraces = false) (D : va_G) (C : Nat → ClassId) (b : Nat) (E : Nat → va_E) (S : wm_St) (f : Nat → Int64) (k i : Nat) (hC : wm_CI C b S E) (hB : wm_BD S) (hE0 : E 146 = wm_JR C 1 f) (hkk : k < 8) (hii : i < 8) : Met l yL_turn (wm_wsW yL_turn cL_turn 4 (some .int) [(0, 6, 9, 19)]) { frames := 4, cells := 1, slots := 6, locals := 94 } (va_Pc [.ref (b + 0), .int (nI k), .int (nI i)] (wm_GN D C b 147 E)) (va_Qi (q_turn C b E S (nI k) (nI i)) (fun E' t => wm_P D b 147 E' t.heap) (wm_A b)) 1 6 (wm_A b) := by
  refine wm_ofWH (by decide) (Nat.le_of_ble_eq_true rfl) (fun p e s m below meth c ls R args Q hRe hQ X hr hxt hV hNc hP hS hl => ?_)
  have hl : lv_has ls 4 [(0, .ref (b + 0)), (1, .int (nI k)), (2, .int (nI i))] := hl
  refine lv_aload_n X.1 X.2.1 dL_turn_0 rfl (lv_at hl 0 rfl) ?_
  refine lv_iload_n X.1 X.2.1 dL_turn_1 rfl (lv_at hl 1 rfl) ?_
  refine lv_iload_n X.1 X.2.1 dL_turn_2 rfl (lv_at hl 2 rfl) ?_
  refine wm_callVv (k := 2) (As := [.int (nI k), .int (nI i)]) (rest := []) X hP hS (by omega) (id hC).1.1 rfl (c_turn l D C b E S k i hC hB hkk hii) wq3_31 wq3_32 wq3_33 wq1_1 wq3_34 (by decide) (by rw [hRe]; exact ⟨Nat.le_of_ble_eq_true rfl, Nat.le_of_ble_eq_true rfl⟩) rfl hl.1 rfl (Nat.le_of_ble_eq_true rfl) (Nat.zero_le _) (Nat.zero_le _) dL_turn_3 (fun E1 H locs hw hP hS => ?_)
  obtain ⟨S2, hg, hC2, hB2, hfr⟩ := hw
  have hE146 := (hfr 146 (by omega)).trans hE0
  refine lv_goto (tgt := 12) X.1 X.2.1 dL_turn_6 (by decide) ?_
  refine lv_iconst (v := nI 0) X.1 X.2.1 dL_turn_12 (by decide) ?_
  refine wm_wide (k := 1) (n := 6) (Nat.le_of_ble_eq_true rfl) (Nat.le_of_ble_eq_true rfl) ?_
  exact wm_iret (post := q_turn C b E S (nI k) (nI i)) X hr hP hS ⟨S2, 0, f, rfl, by decide, Or.inr ⟨rfl, k, i, hkk, rfl, hii, rfl, hg⟩, hC2, hB2, hE146, fun j h1 _ => hfr j h1⟩ hQ dL_turn_13
theorem jeitherX (l : Launch) (hst : l.stackTraces = false) (D : va_G) (C : Nat → ClassId) (b : Nat) (E : Nat → va_E) (S : wm_St) (f : Nat → Int64) (x y z : Int32) (hC : wm_CI C b S E) (hB : wm_BD S) (hE0 : E 146 = wm_JR C 1 f) (hk : wm_no8 x) : Met l yL_either (wm_wsW yL_either cL_either 6 (some .int) [(0, 12, 15, 19)]) { frames := 8, cells := 1, slots := 6, locals := 129 } (va_Pc [.ref (b + 0), .int x, .int y, .int z, .ref (b + 146)] (wm_GN D C b 147 E)) (va_Qi (q_either C b E S x y z) (fun E' t => wm_P D b 147 E' t.heap) (wm_A b)) 1 6 (wm_A b) := by
  refine wm_ofWH (by decide) (Nat.le_of_ble_eq_true rfl) (fun p e s m below meth c ls R args Q hRe hQ X hr hxt hV hNc hP hS hl => ?_)
  have hl : lv_has ls 6 [(0, .ref (b + 0)), (1, .int x), (2, .int y), (3, .int z), (4, .ref (b + 146))] := hl
  refine lv_aload X.1 X.2.1 dL_either_0 (lv_at hl 4 rfl) ?_
  refine lv_iconst (v := nI 0) X.1 X.2.1 dL_either_2 (by decide) ?_
  refine lv_aload_n X.1 X.2.1 dL_either_3 rfl (lv_at hl 0 rfl) ?_
  refine lv_iload_n X.1 X.2.1 dL_either_4 rfl (lv_at hl 1 rfl) ?_
  refine lv_iload_n X.1 X.2.1 dL_either_5 rfl (lv_at hl 2 rfl) ?_
  refine lv_iload_n X.1 X.2.1 dL_either_6 rfl (lv_at hl 3 rfl) ?_
  refine wm_xcallV (k := 3) (As := [.int x, .int y, .int z]) (rest := [.int (nI 0), .ref (b + 146)]) X hV hP hS (by omega) (id hC).1.1 rfl (keitherX l hst D C b 147 E _ _ _ _ (by omega) hC.1.1 hk) wq3_58 wq3_59 wq3_60 wq1_1 wq3_61 (by decide) (by rw [hRe]; exact ⟨Nat.le_of_ble_eq_true rfl, Nat.le_of_ble_eq_true rfl⟩) rfl hl.1 rfl (Nat.le_of_ble_eq_true rfl) (by rw [hRe]; exact Nat.le_of_ble_eq_true rfl) (by rw [hRe]; exact Nat.le_of_ble_eq_true rfl) dL_either_7 (fun ce q9 H1 locs1 hP hS h1 h2 h3 => ?_)
  refine wm_catch (pre := (tableOf [(0, 12, 15, 19)]).take 0) X (hxt.trans rfl) (fun y hy => absurd hy List.not_mem_nil) (by decide) (by decide) wq2_83 (wm_cast1 hV).1 h1 h2 h3 ?_
  refine lv_astore (lv' := [(5, .ref q9), (0, .ref (b + 0)), (1, .int x), (2, .int y), (3, .int z), (4, .ref (b + 146))]) X.1 X.2.1 dL_either_15 hl (by decide) rfl (fun ls hl => ?_)
  refine lv_iconst (v := nI 1) X.1 X.2.1 dL_either_17 (by decide) ?_
  refine wm_wide (k := 1) (n := 6) (Nat.le_of_ble_eq_true rfl) (Nat.le_of_ble_eq_true rfl) ?_
  exact wm_iret (post := q_either C b E S x y z) X hr hP hS ⟨S, 1, 0, f, rfl, by decide, Or.inl ⟨rfl, rfl, Or.inl hk⟩, hC, hB, hE0, (fun h => absurd h (by decide)), fun _ _ _ => rfl⟩ hQ dL_either_18
theorem jeitherY (l : Launch) (hst : l.stackTraces = false) (D : va_G) (C : Nat → ClassId) (b : Nat) (E : Nat → va_E) (S : wm_St) (f : Nat → Int64) (k : Nat) (y z : Int32) (hC : wm_CI C b S E) (hB : wm_BD S) (hE0 : E 146 = wm_JR C 1 f) (hkk : k < 8) (hk : wm_no8 y) : Met l yL_either (wm_wsW yL_either cL_either 6 (some .int) [(0, 12, 15, 19)]) { frames := 8, cells := 1, slots := 6, locals := 129 } (va_Pc [.ref (b + 0), .int (nI k), .int y, .int z, .ref (b + 146)] (wm_GN D C b 147 E)) (va_Qi (q_either C b E S (nI k) y z) (fun E' t => wm_P D b 147 E' t.heap) (wm_A b)) 1 6 (wm_A b) := by
  refine wm_ofWH (by decide) (Nat.le_of_ble_eq_true rfl) (fun p e s m below meth c ls R args Q hRe hQ X hr hxt hV hNc hP hS hl => ?_)
  have hl : lv_has ls 6 [(0, .ref (b + 0)), (1, .int (nI k)), (2, .int y), (3, .int z), (4, .ref (b + 146))] := hl
  refine lv_aload X.1 X.2.1 dL_either_0 (lv_at hl 4 rfl) ?_
  refine lv_iconst (v := nI 0) X.1 X.2.1 dL_either_2 (by decide) ?_
  refine lv_aload_n X.1 X.2.1 dL_either_3 rfl (lv_at hl 0 rfl) ?_
  refine lv_iload_n X.1 X.2.1 dL_either_4 rfl (lv_at hl 1 rfl) ?_
  refine lv_iload_n X.1 X.2.1 dL_either_5 rfl (lv_at hl 2 rfl) ?_
  refine lv_iload_n X.1 X.2.1 dL_either_6 rfl (lv_at hl 3 rfl) ?_
  refine wm_xcallV (k := 3) (As := [.int (nI k), .int y, .int z]) (rest := [.int (nI 0), .ref (b + 146)]) X hV hP hS (by omega) (id hC).1.1 rfl (keitherY l hst D C b 147 E _ _ _ _ (by omega) hC.1.1 (by omega) hC.1.2 hkk hk) wq3_58 wq3_59 wq3_60 wq1_1 wq3_61 (by decide) (by rw [hRe]; exact ⟨Nat.le_of_ble_eq_true rfl, Nat.le_of_ble_eq_true rfl⟩) rfl hl.1 rfl (Nat.le_of_ble_eq_true rfl) (by rw [hRe]; exact Nat.le_of_ble_eq_true rfl) (by rw [hRe]; exact Nat.le_of_ble_eq_true rfl) dL_either_7 (fun ce q9 H1 locs1 hP hS h1 h2 h3 => ?_)
  refine wm_catch (pre := (tableOf [(0, 12, 15, 19)]).take 0) X (hxt.trans rfl) (fun y hy => absurd hy List.not_mem_nil) (by decide) (by decide) wq2_83 (wm_cast1 hV).1 h1 h2 h3 ?_
  refine lv_astore (lv' := [(5, .ref q9), (0, .ref (b + 0)), (1, .int (nI k)), (2, .int y), (3, .int z), (4, .ref (b + 146))]) X.1 X.2.1 dL_either_15 hl (by decide) rfl (fun ls hl => ?_)
  refine lv_iconst (v := nI 1) X.1 X.2.1 dL_either_17 (by decide) ?_
  refine wm_wide (k := 1) (n := 6) (Nat.le_of_ble_eq_true rfl) (Nat.le_of_ble_eq_true rfl) ?_
  exact wm_iret (post := q_either C b E S (nI k) y z) X hr hP hS ⟨S, 1, 0, f, rfl, by decide, Or.inl ⟨rfl, rfl, Or.inr (Or.inl hk)⟩, hC, hB, hE0, (fun h => absurd h (by decide)), fun _ _ _ => rfl⟩ hQ dL_either_18
theorem jeitherZ (l : Launch) (hst : l.stackTraces = false) (D : va_G) (C : Nat → ClassId) (b : Nat) (E : Nat → va_E) (S : wm_St) (f : Nat → Int64) (k i : Nat) (z : Int32) (hC : wm_CI C b S E) (hB : wm_BD S) (hE0 : E 146 = wm_JR C 1 f) (hkk : k < 8) (hii : i < 8) (hk : wm_no8 z) : Met l yL_either (wm_wsW yL_either cL_either 6 (some .int) [(0, 12, 15, 19)]) { frames := 8, cells := 1, slots := 6, locals := 129 } (va_Pc [.ref (b + 0), .int (nI k), .int (nI i), .int z, .ref (b + 146)] (wm_GN D C b 147 E)) (va_Qi (q_either C b E S (nI k) (nI i) z) (fun E' t => wm_P D b 147 E' t.heap) (wm_A b)) 1 6 (wm_A b) := by
  refine wm_ofWH (by decide) (Nat.le_of_ble_eq_true rfl) (fun p e s m below meth c ls R args Q hRe hQ X hr hxt hV hNc hP hS hl => ?_)
  have hl : lv_has ls 6 [(0, .ref (b + 0)), (1, .int (nI k)), (2, .int (nI i)), (3, .int z), (4, .ref (b + 146))] := hl
  refine lv_aload X.1 X.2.1 dL_either_0 (lv_at hl 4 rfl) ?_
  refine lv_iconst (v := nI 0) X.1 X.2.1 dL_either_2 (by decide) ?_
  refine lv_aload_n X.1 X.2.1 dL_either_3 rfl (lv_at hl 0 rfl) ?_
  refine lv_iload_n X.1 X.2.1 dL_either_4 rfl (lv_at hl 1 rfl) ?_
  refine lv_iload_n X.1 X.2.1 dL_either_5 rfl (lv_at hl 2 rfl) ?_
  refine lv_iload_n X.1 X.2.1 dL_either_6 rfl (lv_at hl 3 rfl) ?_
  refine wm_xcallV (k := 3) (As := [.int (nI k), .int (nI i), .int z]) (rest := [.int (nI 0), .ref (b + 146)]) X hV hP hS (by omega) (id hC).1.1 rfl (keitherZ l hst D C b 147 E _ _ _ _ (by omega) hC.1.1 (by omega) hC.1.2 hkk hii hk) wq3_58 wq3_59 wq3_60 wq1_1 wq3_61 (by decide) (by rw [hRe]; exact ⟨Nat.le_of_ble_eq_true rfl, Nat.le_of_ble_eq_true rfl⟩) rfl hl.1 rfl (Nat.le_of_ble_eq_true rfl) (by rw [hRe]; exact Nat.le_of_ble_eq_true rfl) (by rw [hRe]; exact Nat.le_of_ble_eq_true rfl) dL_either_7 (fun ce q9 H1 locs1 hP hS h1 h2 h3 => ?_)
  refine wm_catch (pre := (tableOf [(0, 12, 15, 19)]).take 0) X (hxt.trans rfl) (fun y hy => absurd hy List.not_mem_nil) (by decide) (by decide) wq2_83 (wm_cast1 hV).1 h1 h2 h3 ?_
  refine lv_astore (lv' := [(5, .ref q9), (0, .ref (b + 0)), (1, .int (nI k)), (2, .int (nI i)), (3, .int z), (4, .ref (b + 146))]) X.1 X.2.1 dL_either_15 hl (by decide) rfl (fun ls hl => ?_)
  refine lv_iconst (v := nI 1) X.1 X.2.1 dL_either_17 (by decide) ?_
  refine wm_wide (k := 1) (n := 6) (Nat.le_of_ble_eq_true rfl) (Nat.le_of_ble_eq_true rfl) ?_
  exact wm_iret (post := q_either C b E S (nI k) (nI i) z) X hr hP hS ⟨S, 1, 0, f, rfl, by decide, Or.inl ⟨rfl, rfl, Or.inr (Or.inr hk)⟩, hC, hB, hE0, (fun h => absurd h (by decide)), fun _ _ _ => rfl⟩ hQ dL_either_18
theorem jeitherG (l : Launch) (hst : l.stackTraces = false) (D : va_G) (C : Nat → ClassId) (b : Nat) (E : Nat → va_E) (S : wm_St) (f : Nat → Int64) (k i jj : Nat) (hC : wm_CI C b S E) (hB : wm_BD S) (hE0 : E 146 = wm_JR C 1 f) (hkk : k < 8) (hii : i < 8) (hjj : jj < 8) : Met l yL_either (wm_wsW yL_either cL_either 6 (some .int) [(0, 12, 15, 19)]) { frames := 4, cells := 1, slots := 6, locals := 89 } (va_Pc [.ref (b + 0), .int (nI k), .int (nI i), .int (nI jj), .ref (b + 146)] (wm_GN D C b 147 E)) (va_Qi (q_either C b E S (nI k) (nI i) (nI jj)) (fun E' t => wm_P D b 147 E' t.heap) (wm_A b)) 1 6 (wm_A b) := by
  refine wm_ofWH (by decide) (Nat.le_of_ble_eq_true rfl) (fun p e s m below meth c ls R args Q hRe hQ X hr hxt hV hNc hP hS hl => ?_)
  have hl : lv_has ls 6 [(0, .ref (b + 0)), (1, .int (nI k)), (2, .int (nI i)), (3, .int (nI jj)), (4, .ref (b + 146))] := hl
  refine lv_aload X.1 X.2.1 dL_either_0 (lv_at hl 4 rfl) ?_
  refine lv_iconst (v := nI 0) X.1 X.2.1 dL_either_2 (by decide) ?_
  refine lv_aload_n X.1 X.2.1 dL_either_3 rfl (lv_at hl 0 rfl) ?_
  refine lv_iload_n X.1 X.2.1 dL_either_4 rfl (lv_at hl 1 rfl) ?_
  refine lv_iload_n X.1 X.2.1 dL_either_5 rfl (lv_at hl 2 rfl) ?_
  refine lv_iload_n X.1 X.2.1 dL_either_6 rfl (lv_at hl 3 rfl) ?_
  refine wm_callVi (k := 3) (As := [.int (nI k), .int (nI i), .int (nI jj)]) (rest := [.int (nI 0), .ref (b + 146)]) X hP hS (by omega) (id hC).1.1 rfl (c_either l D C b E S k i jj hC hB hkk hii hjj) wq3_58 wq3_59 wq3_60 wq1_1 wq3_61 (by decide) (by rw [hRe]; exact ⟨Nat.le_of_ble_eq_true rfl, Nat.le_of_ble_eq_true rfl⟩) rfl hl.1 rfl (Nat.le_of_ble_eq_true rfl) (Nat.zero_le _) (Nat.zero_le _) dL_either_7 (fun r1 E1 H locs hw hP hS => ?_)
  obtain ⟨S2, v2, rfl, hg, hC2, hB2, hfr⟩ := hw
  have hE146 := (hfr 146 (by omega)).trans hE0
  refine lv_i2l (v := (nI v2).toInt64) X.1 X.2.1 dL_either_10 rfl ?_
  refine wm_lastR (N := 1) (x := ((nI v2).toInt64)) (i := 0) X hP hS (by omega) hE146 (by decide) (by decide) dL_either_11 (fun H locs E2 hP hS hE146 hq => ?_)
  refine lv_goto (tgt := 19) X.1 X.2.1 dL_either_12 (by decide) ?_
  refine lv_iconst (v := nI 0) X.1 X.2.1 dL_either_19 (by decide) ?_
  refine wm_wide (k := 1) (n := 6) (Nat.le_of_ble_eq_true rfl) (Nat.le_of_ble_eq_true rfl) ?_
  exact wm_iret (post := q_either C b E S (nI k) (nI i) (nI jj)) X hr hP hS ⟨S2, 0, v2, _, rfl, by decide, Or.inr ⟨rfl, k, i, jj, hkk, rfl, hii, rfl, hjj, rfl, hg⟩, hC2.cg (fun j hj => hq j (by omega)), hB2, hE146, (fun _ => rfl), fun j h1 h2 => (hq j h2).trans (hfr j h1)⟩ hQ dL_either_20
theorem jbothX (l : Launch) (hst : l.stackTraces = false) (D : va_G) (C : Nat → ClassId) (b : Nat) (E : Nat → va_E) (S : wm_St) (f : Nat → Int64) (x y z : Int32) (hC : wm_CI C b S E) (hB : wm_BD S) (hE0 : E 146 = wm_JR C 1 f) (hk : wm_no8 x) : Met l yL_both (wm_wsW yL_both cL_both 6 (some .int) [(0, 12, 15, 19)]) { frames := 8, cells := 1, slots := 6, locals := 129 } (va_Pc [.ref (b + 0), .int x, .int y, .int z, .ref (b + 146)] (wm_GN D C b 147 E)) (va_Qi (q_both C b E S x y z) (fun E' t => wm_P D b 147 E' t.heap) (wm_A b)) 1 6 (wm_A b) := by
  refine wm_ofWH (by decide) (Nat.le_of_ble_eq_true rfl) (fun p e s m below meth c ls R args Q hRe hQ X hr hxt hV hNc hP hS hl => ?_)
  have hl : lv_has ls 6 [(0, .ref (b + 0)), (1, .int x), (2, .int y), (3, .int z), (4, .ref (b + 146))] := hl
  refine lv_aload X.1 X.2.1 dL_both_0 (lv_at hl 4 rfl) ?_
  refine lv_iconst (v := nI 0) X.1 X.2.1 dL_both_2 (by decide) ?_
  refine lv_aload_n X.1 X.2.1 dL_both_3 rfl (lv_at hl 0 rfl) ?_
  refine lv_iload_n X.1 X.2.1 dL_both_4 rfl (lv_at hl 1 rfl) ?_
  refine lv_iload_n X.1 X.2.1 dL_both_5 rfl (lv_at hl 2 rfl) ?_
  refine lv_iload_n X.1 X.2.1 dL_both_6 rfl (lv_at hl 3 rfl) ?_
  refine wm_xcallV (k := 3) (As := [.int x, .int y, .int z]) (rest := [.int (nI 0), .ref (b + 146)]) X hV hP hS (by omega) (id hC).1.1 rfl (kbothX l hst D C b 147 E _ _ _ _ (by omega) hC.1.1 hk) wq3_70 wq3_71 wq3_72 wq1_1 wq3_73 (by decide) (by rw [hRe]; exact ⟨Nat.le_of_ble_eq_true rfl, Nat.le_of_ble_eq_true rfl⟩) rfl hl.1 rfl (Nat.le_of_ble_eq_true rfl) (by rw [hRe]; exact Nat.le_of_ble_eq_true rfl) (by rw [hRe]; exact Nat.le_of_ble_eq_true rfl) dL_both_7 (fun ce q9 H1 locs1 hP hS h1 h2 h3 => ?_)
  refine wm_catch (pre := (tableOf [(0, 12, 15, 19)]).take 0) X (hxt.trans rfl) (fun y hy => absurd hy List.not_mem_nil) (by decide) (by decide) wq2_83 (wm_cast1 hV).1 h1 h2 h3 ?_
  refine lv_astore (lv' := [(5, .ref q9), (0, .ref (b + 0)), (1, .int x), (2, .int y), (3, .int z), (4, .ref (b + 146))]) X.1 X.2.1 dL_both_15 hl (by decide) rfl (fun ls hl => ?_)
  refine lv_iconst (v := nI 1) X.1 X.2.1 dL_both_17 (by decide) ?_
  refine wm_wide (k := 1) (n := 6) (Nat.le_of_ble_eq_true rfl) (Nat.le_of_ble_eq_true rfl) ?_
  exact wm_iret (post := q_both C b E S x y z) X hr hP hS ⟨S, 1, 0, f, rfl, by decide, Or.inl ⟨rfl, rfl, Or.inl hk⟩, hC, hB, hE0, (fun h => absurd h (by decide)), fun _ _ _ => rfl⟩ hQ dL_both_18
theorem jbothY (l : Launch) (hst : l.stackTraces = false) (D : va_G) (C : Nat → ClassId) (b : Nat) (E : Nat → va_E) (S : wm_St) (f : Nat → Int64) (k : Nat) (y z : Int32) (hC : wm_CI C b S E) (hB : wm_BD S) (hE0 : E 146 = wm_JR C 1 f) (hkk : k < 8) (hk : wm_no8 y) : Met l yL_both (wm_wsW yL_both cL_both 6 (some .int) [(0, 12, 15, 19)]) { frames := 8, cells := 1, slots := 6, locals := 129 } (va_Pc [.ref (b + 0), .int (nI k), .int y, .int z, .ref (b + 146)] (wm_GN D C b 147 E)) (va_Qi (q_both C b E S (nI k) y z) (fun E' t => wm_P D b 147 E' t.heap) (wm_A b)) 1 6 (wm_A b) := by
  refine wm_ofWH (by decide) (Nat.le_of_ble_eq_true rfl) (fun p e s m below meth c ls R args Q hRe hQ X hr hxt hV hNc hP hS hl => ?_)
  have hl : lv_has ls 6 [(0, .ref (b + 0)), (1, .int (nI k)), (2, .int y), (3, .int z), (4, .ref (b + 146))] := hl
  refine lv_aload X.1 X.2.1 dL_both_0 (lv_at hl 4 rfl) ?_
  refine lv_iconst (v := nI 0) X.1 X.2.1 dL_both_2 (by decide) ?_
  refine lv_aload_n X.1 X.2.1 dL_both_3 rfl (lv_at hl 0 rfl) ?_
  refine lv_iload_n X.1 X.2.1 dL_both_4 rfl (lv_at hl 1 rfl) ?_
  refine lv_iload_n X.1 X.2.1 dL_both_5 rfl (lv_at hl 2 rfl) ?_
  refine lv_iload_n X.1 X.2.1 dL_both_6 rfl (lv_at hl 3 rfl) ?_
  refine wm_xcallV (k := 3) (As := [.int (nI k), .int y, .int z]) (rest := [.int (nI 0), .ref (b + 146)]) X hV hP hS (by omega) (id hC).1.1 rfl (kbothY l hst D C b 147 E _ _ _ _ (by omega) hC.1.1 (by omega) hC.1.2 hkk hk) wq3_70 wq3_71 wq3_72 wq1_1 wq3_73 (by decide) (by rw [hRe]; exact ⟨Nat.le_of_ble_eq_true rfl, Nat.le_of_ble_eq_true rfl⟩) rfl hl.1 rfl (Nat.le_of_ble_eq_true rfl) (by rw [hRe]; exact Nat.le_of_ble_eq_true rfl) (by rw [hRe]; exact Nat.le_of_ble_eq_true rfl) dL_both_7 (fun ce q9 H1 locs1 hP hS h1 h2 h3 => ?_)
  refine wm_catch (pre := (tableOf [(0, 12, 15, 19)]).take 0) X (hxt.trans rfl) (fun y hy => absurd hy List.not_mem_nil) (by decide) (by decide) wq2_83 (wm_cast1 hV).1 h1 h2 h3 ?_
  refine lv_astore (lv' := [(5, .ref q9), (0, .ref (b + 0)), (1, .int (nI k)), (2, .int y), (3, .int z), (4, .ref (b + 146))]) X.1 X.2.1 dL_both_15 hl (by decide) rfl (fun ls hl => ?_)
  refine lv_iconst (v := nI 1) X.1 X.2.1 dL_both_17 (by decide) ?_
  refine wm_wide (k := 1) (n := 6) (Nat.le_of_ble_eq_true rfl) (Nat.le_of_ble_eq_true rfl) ?_
  exact wm_iret (post := q_both C b E S (nI k) y z) X hr hP hS ⟨S, 1, 0, f, rfl, by decide, Or.inl ⟨rfl, rfl, Or.inr (Or.inl hk)⟩, hC, hB, hE0, (fun h => absurd h (by decide)), fun _ _ _ => rfl⟩ hQ dL_both_18
theorem jbothZ (l : Launch) (hst : l.stackTraces = false) (D : va_G) (C : Nat → ClassId) (b : Nat) (E : Nat → va_E) (S : wm_St) (f : Nat → Int64) (k i : Nat) (z : Int32) (hC : wm_CI C b S E) (hB : wm_BD S) (hE0 : E 146 = wm_JR C 1 f) (hkk : k < 8) (hii : i < 8) (hk : wm_no8 z) : Met l yL_both (wm_wsW yL_both cL_both 6 (some .int) [(0, 12, 15, 19)]) { frames := 8, cells := 1, slots := 6, locals := 129 } (va_Pc [.ref (b + 0), .int (nI k), .int (nI i), .int z, .ref (b + 146)] (wm_GN D C b 147 E)) (va_Qi (q_both C b E S (nI k) (nI i) z) (fun E' t => wm_P D b 147 E' t.heap) (wm_A b)) 1 6 (wm_A b) := by
  refine wm_ofWH (by decide) (Nat.le_of_ble_eq_true rfl) (fun p e s m below meth c ls R args Q hRe hQ X hr hxt hV hNc hP hS hl => ?_)
  have hl : lv_has ls 6 [(0, .ref (b + 0)), (1, .int (nI k)), (2, .int (nI i)), (3, .int z), (4, .ref (b + 146))] := hl
  refine lv_aload X.1 X.2.1 dL_both_0 (lv_at hl 4 rfl) ?_
  refine lv_iconst (v := nI 0) X.1 X.2.1 dL_both_2 (by decide) ?_
  refine lv_aload_n X.1 X.2.1 dL_both_3 rfl (lv_at hl 0 rfl) ?_
  refine lv_iload_n X.1 X.2.1 dL_both_4 rfl (lv_at hl 1 rfl) ?_
  refine lv_iload_n X.1 X.2.1 dL_both_5 rfl (lv_at hl 2 rfl) ?_
  refine lv_iload_n X.1 X.2.1 dL_both_6 rfl (lv_at hl 3 rfl) ?_
  refine wm_xcallV (k := 3) (As := [.int (nI k), .int (nI i), .int z]) (rest := [.int (nI 0), .ref (b + 146)]) X hV hP hS (by omega) (id hC).1.1 rfl (kbothZ l hst D C b 147 E _ _ _ _ (by omega) hC.1.1 (by omega) hC.1.2 hkk hii hk) wq3_70 wq3_71 wq3_72 wq1_1 wq3_73 (by decide) (by rw [hRe]; exact ⟨Nat.le_of_ble_eq_true rfl, Nat.le_of_ble_eq_true rfl⟩) rfl hl.1 rfl (Nat.le_of_ble_eq_true rfl) (by rw [hRe]; exact Nat.le_of_ble_eq_true rfl) (by rw [hRe]; exact Nat.le_of_ble_eq_true rfl) dL_both_7 (fun ce q9 H1 locs1 hP hS h1 h2 h3 => ?_)
  refine wm_catch (pre := (tableOf [(0, 12, 15, 19)]).take 0) X (hxt.trans rfl) (fun y hy => absurd hy List.not_mem_nil) (by decide) (by decide) wq2_83 (wm_cast1 hV).1 h1 h2 h3 ?_
  refine lv_astore (lv' := [(5, .ref q9), (0, .ref (b + 0)), (1, .int (nI k)), (2, .int (nI i)), (3, .int z), (4, .ref (b + 146))]) X.1 X.2.1 dL_both_15 hl (by decide) rfl (fun ls hl => ?_)
  refine lv_iconst (v := nI 1) X.1 X.2.1 dL_both_17 (by decide) ?_
  refine wm_wide (k := 1) (n := 6) (Nat.le_of_ble_eq_true rfl) (Nat.le_of_ble_eq_true rfl) ?_
  exact wm_iret (post := q_both C b E S (nI k) (nI i) z) X hr hP hS ⟨S, 1, 0, f, rfl, by decide, Or.inl ⟨rfl, rfl, Or.inr (Or.inr hk)⟩, hC, hB, hE0, (fun h => absurd h (by decide)), fun _ _ _ => rfl⟩ hQ dL_both_18
theorem jbothG (l : Launch) (hst : l.stackTraces = false) (D : va_G) (C : Nat → ClassId) (b : Nat) (E : Nat → va_E) (S : wm_St) (f : Nat → Int64) (k i jj : Nat) (hC : wm_CI C b S E) (hB : wm_BD S) (hE0 : E 146 = wm_JR C 1 f) (hkk : k < 8) (hii : i < 8) (hjj : jj < 8) : Met l yL_both (wm_wsW yL_both cL_both 6 (some .int) [(0, 12, 15, 19)]) { frames := 5, cells := 1, slots := 6, locals := 122 } (va_Pc [.ref (b + 0), .int (nI k), .int (nI i), .int (nI jj), .ref (b + 146)] (wm_GN D C b 147 E)) (va_Qi (q_both C b E S (nI k) (nI i) (nI jj)) (fun E' t => wm_P D b 147 E' t.heap) (wm_A b)) 1 6 (wm_A b) := by
  refine wm_ofWH (by decide) (Nat.le_of_ble_eq_true rfl) (fun p e s m below meth c ls R args Q hRe hQ X hr hxt hV hNc hP hS hl => ?_)
  have hl : lv_has ls 6 [(0, .ref (b + 0)), (1, .int (nI k)), (2, .int (nI i)), (3, .int (nI jj)), (4, .ref (b + 146))] := hl
  refine lv_aload X.1 X.2.1 dL_both_0 (lv_at hl 4 rfl) ?_
  refine lv_iconst (v := nI 0) X.1 X.2.1 dL_both_2 (by decide) ?_
  refine lv_aload_n X.1 X.2.1 dL_both_3 rfl (lv_at hl 0 rfl) ?_
  refine lv_iload_n X.1 X.2.1 dL_both_4 rfl (lv_at hl 1 rfl) ?_
  refine lv_iload_n X.1 X.2.1 dL_both_5 rfl (lv_at hl 2 rfl) ?_
  refine lv_iload_n X.1 X.2.1 dL_both_6 rfl (lv_at hl 3 rfl) ?_
  refine wm_callVi (k := 3) (As := [.int (nI k), .int (nI i), .int (nI jj)]) (rest := [.int (nI 0), .ref (b + 146)]) X hP hS (by omega) (id hC).1.1 rfl (c_both l D C b E S k i jj hC hB hkk hii hjj) wq3_70 wq3_71 wq3_72 wq1_1 wq3_73 (by decide) (by rw [hRe]; exact ⟨Nat.le_of_ble_eq_true rfl, Nat.le_of_ble_eq_true rfl⟩) rfl hl.1 rfl (Nat.le_of_ble_eq_true rfl) (Nat.zero_le _) (Nat.zero_le _) dL_both_7 (fun r1 E1 H locs hw hP hS => ?_)
  obtain ⟨S2, v2, rfl, hg, hC2, hB2, hfr⟩ := hw
  have hE146 := (hfr 146 (by omega)).trans hE0
  refine lv_i2l (v := (nI v2).toInt64) X.1 X.2.1 dL_both_10 rfl ?_
  refine wm_lastR (N := 1) (x := ((nI v2).toInt64)) (i := 0) X hP hS (by omega) hE146 (by decide) (by decide) dL_both_11 (fun H locs E2 hP hS hE146 hq => ?_)
  refine lv_goto (tgt := 19) X.1 X.2.1 dL_both_12 (by decide) ?_
  refine lv_iconst (v := nI 0) X.1 X.2.1 dL_both_19 (by decide) ?_
  refine wm_wide (k := 1) (n := 6) (Nat.le_of_ble_eq_true rfl) (Nat.le_of_ble_eq_true rfl) ?_
  exact wm_iret (post := q_both C b E S (nI k) (nI i) (nI jj)) X hr hP hS ⟨S2, 0, v2, _, rfl, by decide, Or.inr ⟨rfl, k, i, jj, hkk, rfl, hii, rfl, hjj, rfl, hg⟩, hC2.cg (fun j hj => hq j (by omega)), hB2, hE146, (fun _ => rfl), fun j h1 h2 => (hq j h2).trans (hfr j h1)⟩ hQ dL_both_20
theorem jwithinX (l : Launch) (hst : l.stackTraces = false) (D : va_G) (C : Nat → ClassId) (b : Nat) (E : Nat → va_E) (S : wm_St) (f : Nat → Int64) (x y : Int32) (hC : wm_CI C b S E) (hB : wm_BD S) (hE0 : E 146 = wm_JR C 1 f) (hk : wm_no8 x) : Met l yL_within (wm_wsW yL_within cL_within 5 (some .int) [(0, 17, 20, 19), (0, 17, 24, 13)]) { frames := 8, cells := 1, slots := 6, locals := 127 } (va_Pc [.ref (b + 0), .int x, .int y, .ref (b + 146)] (wm_GN D C b 147 E)) (va_Qi (q_within C b E S x y) (fun E' t => wm_P D b 147 E' t.heap) (wm_A b)) 1 6 (wm_A b) := by
  refine wm_ofWH (by decide) (Nat.le_of_ble_eq_true rfl) (fun p e s m below meth c ls R args Q hRe hQ X hr hxt hV hNc hP hS hl => ?_)
  have hl : lv_has ls 5 [(0, .ref (b + 0)), (1, .int x), (2, .int y), (3, .ref (b + 146))] := hl
  refine lv_aload_n X.1 X.2.1 dL_within_0 rfl (lv_at hl 3 rfl) ?_
  refine lv_iconst (v := nI 0) X.1 X.2.1 dL_within_1 (by decide) ?_
  refine lv_aload_n X.1 X.2.1 dL_within_2 rfl (lv_at hl 0 rfl) ?_
  refine lv_iload_n X.1 X.2.1 dL_within_3 rfl (lv_at hl 1 rfl) ?_
  refine lv_iload_n X.1 X.2.1 dL_within_4 rfl (lv_at hl 2 rfl) ?_
  refine wm_xcallV (k := 2) (As := [.int x, .int y]) (rest := [.int (nI 0), .ref (b + 146)]) X hV hP hS (by omega) (id hC).1.1 rfl (kwithinX l hst D C b 147 E _ _ _ (by omega) hC.1.1 hk) wq3_104 wq3_105 wq3_106 wq1_1 wq3_107 (by decide) (by rw [hRe]; exact ⟨Nat.le_of_ble_eq_true rfl, Nat.le_of_ble_eq_true rfl⟩) rfl hl.1 rfl (Nat.le_of_ble_eq_true rfl) (by rw [hRe]; exact Nat.le_of_ble_eq_true rfl) (by rw [hRe]; exact Nat.le_of_ble_eq_true rfl) dL_within_5 (fun ce q9 H1 locs1 hP hS h1 h2 h3 => ?_)
  refine wm_catch (pre := (tableOf [(0, 17, 20, 19), (0, 17, 24, 13)]).take 0) X (hxt.trans rfl) (fun y hy => absurd hy List.not_mem_nil) (by decide) (by decide) wq2_83 (wm_cast1 hV).1 h1 h2 h3 ?_
  refine lv_astore (lv' := [(4, .ref q9), (0, .ref (b + 0)), (1, .int x), (2, .int y), (3, .ref (b + 146))]) X.1 X.2.1 dL_within_20 hl (by decide) rfl (fun ls hl => ?_)
  refine lv_iconst (v := nI 1) X.1 X.2.1 dL_within_22 (by decide) ?_
  refine wm_wide (k := 1) (n := 6) (Nat.le_of_ble_eq_true rfl) (Nat.le_of_ble_eq_true rfl) ?_
  exact wm_iret (post := q_within C b E S x y) X hr hP hS ⟨S, 1, false, f, rfl, by decide, Or.inl ⟨rfl, rfl, Or.inl hk⟩, hC, hB, hE0, (fun h => absurd h (by decide)), fun _ _ _ => rfl⟩ hQ dL_within_23
theorem jwithinY (l : Launch) (hst : l.stackTraces = false) (D : va_G) (C : Nat → ClassId) (b : Nat) (E : Nat → va_E) (S : wm_St) (f : Nat → Int64) (k : Nat) (y : Int32) (hC : wm_CI C b S E) (hB : wm_BD S) (hE0 : E 146 = wm_JR C 1 f) (hkk : k < 8) (hk : wm_no8 y) : Met l yL_within (wm_wsW yL_within cL_within 5 (some .int) [(0, 17, 20, 19), (0, 17, 24, 13)]) { frames := 8, cells := 1, slots := 6, locals := 127 } (va_Pc [.ref (b + 0), .int (nI k), .int y, .ref (b + 146)] (wm_GN D C b 147 E)) (va_Qi (q_within C b E S (nI k) y) (fun E' t => wm_P D b 147 E' t.heap) (wm_A b)) 1 6 (wm_A b) := by
  refine wm_ofWH (by decide) (Nat.le_of_ble_eq_true rfl) (fun p e s m below meth c ls R args Q hRe hQ X hr hxt hV hNc hP hS hl => ?_)
  have hl : lv_has ls 5 [(0, .ref (b + 0)), (1, .int (nI k)), (2, .int y), (3, .ref (b + 146))] := hl
  refine lv_aload_n X.1 X.2.1 dL_within_0 rfl (lv_at hl 3 rfl) ?_
  refine lv_iconst (v := nI 0) X.1 X.2.1 dL_within_1 (by decide) ?_
  refine lv_aload_n X.1 X.2.1 dL_within_2 rfl (lv_at hl 0 rfl) ?_
  refine lv_iload_n X.1 X.2.1 dL_within_3 rfl (lv_at hl 1 rfl) ?_
  refine lv_iload_n X.1 X.2.1 dL_within_4 rfl (lv_at hl 2 rfl) ?_
  refine wm_xcallV (k := 2) (As := [.int (nI k), .int y]) (rest := [.int (nI 0), .ref (b + 146)]) X hV hP hS (by omega) (id hC).1.1 rfl (kwithinY l hst D C b 147 E _ _ _ (by omega) hC.1.1 (by omega) hC.1.2 hkk hk) wq3_104 wq3_105 wq3_106 wq1_1 wq3_107 (by decide) (by rw [hRe]; exact ⟨Nat.le_of_ble_eq_true rfl, Nat.le_of_ble_eq_true rfl⟩) rfl hl.1 rfl (Nat.le_of_ble_eq_true rfl) (by rw [hRe]; exact Nat.le_of_ble_eq_true rfl) (by rw [hRe]; exact Nat.le_of_ble_eq_true rfl) dL_within_5 (fun ce q9 H1 locs1 hP hS h1 h2 h3 => ?_)
  refine wm_catch (pre := (tableOf [(0, 17, 20, 19), (0, 17, 24, 13)]).take 0) X (hxt.trans rfl) (fun y hy => absurd hy List.not_mem_nil) (by decide) (by decide) wq2_83 (wm_cast1 hV).1 h1 h2 h3 ?_
  refine lv_astore (lv' := [(4, .ref q9), (0, .ref (b + 0)), (1, .int (nI k)), (2, .int y), (3, .ref (b + 146))]) X.1 X.2.1 dL_within_20 hl (by decide) rfl (fun ls hl => ?_)
  refine lv_iconst (v := nI 1) X.1 X.2.1 dL_within_22 (by decide) ?_
  refine wm_wide (k := 1) (n := 6) (Nat.le_of_ble_eq_true rfl) (Nat.le_of_ble_eq_true rfl) ?_
  exact wm_iret (post := q_within C b E S (nI k) y) X hr hP hS ⟨S, 1, false, f, rfl, by decide, Or.inl ⟨rfl, rfl, Or.inr hk⟩, hC, hB, hE0, (fun h => absurd h (by decide)), fun _ _ _ => rfl⟩ hQ dL_within_23
theorem jwithinA (l : Launch) (hst : l.stackTraces = false) (D : va_G) (C : Nat → ClassId) (b : Nat) (E : Nat → va_E) (S : wm_St) (f : Nat → Int64) (k i : Nat) (hC : wm_CI C b S E) (hB : wm_BD S) (hE0 : E 146 = wm_JR C 1 f) (hkk : k < 8) (hii : i < 8) (hc : 11 < (S.1 i).1) : Met l yL_within (wm_wsW yL_within cL_within 5 (some .int) [(0, 17, 20, 19), (0, 17, 24, 13)]) { frames := 8, cells := 1, slots := 6, locals := 126 } (va_Pc [.ref (b + 0), .int (nI k), .int (nI i), .ref (b + 146)] (wm_GN D C b 147 E)) (va_Qi (q_within C b E S (nI k) (nI i)) (fun E' t => wm_P D b 147 E' t.heap) (wm_A b)) 1 6 (wm_A b) := by
  refine wm_ofWH (by decide) (Nat.le_of_ble_eq_true rfl) (fun p e s m below meth c ls R args Q hRe hQ X hr hxt hV hNc hP hS hl => ?_)
  have hl : lv_has ls 5 [(0, .ref (b + 0)), (1, .int (nI k)), (2, .int (nI i)), (3, .ref (b + 146))] := hl
  refine lv_aload_n X.1 X.2.1 dL_within_0 rfl (lv_at hl 3 rfl) ?_
  refine lv_iconst (v := nI 0) X.1 X.2.1 dL_within_1 (by decide) ?_
  refine lv_aload_n X.1 X.2.1 dL_within_2 rfl (lv_at hl 0 rfl) ?_
  refine lv_iload_n X.1 X.2.1 dL_within_3 rfl (lv_at hl 1 rfl) ?_
  refine lv_iload_n X.1 X.2.1 dL_within_4 rfl (lv_at hl 2 rfl) ?_
  refine wm_xcallV (k := 2) (As := [.int (nI k), .int (nI i)]) (rest := [.int (nI 0), .ref (b + 146)]) X hV hP hS (by omega) (id hC).1.1 rfl (kwithinA l hst D C b 147 E _ _ _ _ _ _ (by omega) hC.1.1 (by omega) hC.1.2 (by omega) (hC.2.2.2.2.2.2 _ hii).1 hkk hii hc (hB.2.2.1 i hii).2.1) wq3_104 wq3_105 wq3_106 wq1_1 wq3_107 (by decide) (by rw [hRe]; exact ⟨Nat.le_of_ble_eq_true rfl, Nat.le_of_ble_eq_true rfl⟩) rfl hl.1 rfl (Nat.le_of_ble_eq_true rfl) (by rw [hRe]; exact Nat.le_of_ble_eq_true rfl) (by rw [hRe]; exact Nat.le_of_ble_eq_true rfl) dL_within_5 (fun ce q9 H1 locs1 hP hS h1 h2 h3 => ?_)
  refine wm_catch (pre := (tableOf [(0, 17, 20, 19), (0, 17, 24, 13)]).take 1) X (hxt.trans rfl) (fun y hy => by rw [List.mem_singleton.mp hy]; exact ⟨by decide, by decide, _, wq2_83, hNc⟩) (by decide) (by decide) wq2_8 (wm_cast1 hV).2 h1 h2 h3 ?_
  refine lv_astore (lv' := [(4, .ref q9), (0, .ref (b + 0)), (1, .int (nI k)), (2, .int (nI i)), (3, .ref (b + 146))]) X.1 X.2.1 dL_within_24 hl (by decide) rfl (fun ls hl => ?_)
  refine lv_iconst (v := nI 2) X.1 X.2.1 dL_within_26 (by decide) ?_
  refine wm_wide (k := 1) (n := 6) (Nat.le_of_ble_eq_true rfl) (Nat.le_of_ble_eq_true rfl) ?_
  exact wm_iret (post := q_within C b E S (nI k) (nI i)) X hr hP hS ⟨S, 2, false, f, rfl, by decide, Or.inr (Or.inl ⟨rfl, rfl, k, i, hkk, rfl, hii, rfl, hc⟩), hC, hB, hE0, (fun h => absurd h (by decide)), fun _ _ _ => rfl⟩ hQ dL_within_27
theorem jwithinG (l : Launch) (hst : l.stackTraces = false) (D : va_G) (C : Nat → ClassId) (b : Nat) (E : Nat → va_E) (S : wm_St) (f : Nat → Int64) (k i : Nat) (hC : wm_CI C b S E) (hB : wm_BD S) (hE0 : E 146 = wm_JR C 1 f) (hkk : k < 8) (hii : i < 8) (hc : (S.1 i).1 ≤ 11) : Met l yL_within (wm_wsW yL_within cL_within 5 (some .int) [(0, 17, 20, 19), (0, 17, 24, 13)]) { frames := 4, cells := 1, slots := 6, locals := 97 } (va_Pc [.ref (b + 0), .int (nI k), .int (nI i), .ref (b + 146)] (wm_GN D C b 147 E)) (va_Qi (q_within C b E S (nI k) (nI i)) (fun E' t => wm_P D b 147 E' t.heap) (wm_A b)) 1 6 (wm_A b) := by
  refine wm_ofWH (by decide) (Nat.le_of_ble_eq_true rfl) (fun p e s m below meth c ls R args Q hRe hQ X hr hxt hV hNc hP hS hl => ?_)
  have hl : lv_has ls 5 [(0, .ref (b + 0)), (1, .int (nI k)), (2, .int (nI i)), (3, .ref (b + 146))] := hl
  refine lv_aload_n X.1 X.2.1 dL_within_0 rfl (lv_at hl 3 rfl) ?_
  refine lv_iconst (v := nI 0) X.1 X.2.1 dL_within_1 (by decide) ?_
  refine lv_aload_n X.1 X.2.1 dL_within_2 rfl (lv_at hl 0 rfl) ?_
  refine lv_iload_n X.1 X.2.1 dL_within_3 rfl (lv_at hl 1 rfl) ?_
  refine lv_iload_n X.1 X.2.1 dL_within_4 rfl (lv_at hl 2 rfl) ?_
  refine wm_callVi (k := 2) (As := [.int (nI k), .int (nI i)]) (rest := [.int (nI 0), .ref (b + 146)]) X hP hS (by omega) (id hC).1.1 rfl (c_within l D C b E S k i hC hB hkk hii hc) wq3_104 wq3_105 wq3_106 wq1_1 wq3_107 (by decide) (by rw [hRe]; exact ⟨Nat.le_of_ble_eq_true rfl, Nat.le_of_ble_eq_true rfl⟩) rfl hl.1 rfl (Nat.le_of_ble_eq_true rfl) (Nat.zero_le _) (Nat.zero_le _) dL_within_5 (fun r1 E1 H locs hw hP hS => ?_)
  obtain ⟨S2, v2, rfl, hg, hC2, hB2, hfr⟩ := hw
  have hE146 := (hfr 146 (by omega)).trans hE0
  have hb : v2 = true ∨ v2 = false := by cases v2 <;> simp
  rcases hb with rfl | rfl
  · refine wm_ifz_eq (x := true) (tgt := 15) X dL_within_8 (by decide) (fun h => by exfalso; revert h; decide) (fun _ => ?_)
    refine lv_lconst (v := lN 1) X.1 X.2.1 dL_within_11 (by decide) ?_
    refine lv_goto (tgt := 16) X.1 X.2.1 dL_within_12 (by decide) ?_
    refine wm_lastR (N := 1) (x := lN 1) (i := 0) X hP hS (by omega) hE146 (by decide) (by decide) dL_within_16 (fun H locs E2 hP hS hE146 hq => ?_)
    refine lv_goto (tgt := 28) X.1 X.2.1 dL_within_17 (by decide) ?_
    refine lv_iconst (v := nI 0) X.1 X.2.1 dL_within_28 (by decide) ?_
    refine wm_wide (k := 1) (n := 6) (Nat.le_of_ble_eq_true rfl) (Nat.le_of_ble_eq_true rfl) ?_
    exact wm_iret (post := q_within C b E S (nI k) (nI i)) X hr hP hS ⟨S2, 0, _, _, rfl, by decide, Or.inr (Or.inr ⟨rfl, k, i, hkk, rfl, hii, rfl, hc, hg⟩), hC2.cg (fun j hj => hq j (by omega)), hB2, hE146, (fun _ => rfl), fun j h1 h2 => (hq j h2).trans (hfr j h1)⟩ hQ dL_within_29
  · refine wm_ifz_eq (x := false) (tgt := 15) X dL_within_8 (by decide) (fun _ => ?_) (fun h => by exfalso; revert h; decide)
    refine lv_lconst (v := lN 0) X.1 X.2.1 dL_within_15 (by decide) ?_
    refine wm_lastR (N := 1) (x := lN 0) (i := 0) X hP hS (by omega) hE146 (by decide) (by decide) dL_within_16 (fun H locs E2 hP hS hE146 hq => ?_)
    refine lv_goto (tgt := 28) X.1 X.2.1 dL_within_17 (by decide) ?_
    refine lv_iconst (v := nI 0) X.1 X.2.1 dL_within_28 (by decide) ?_
    refine wm_wide (k := 1) (n := 6) (Nat.le_of_ble_eq_true rfl) (Nat.le_of_ble_eq_true rfl) ?_
    exact wm_iret (post := q_within C b E S (nI k) (nI i)) X hr hP hS ⟨S2, 0, _, _, rfl, by decide, Or.inr (Or.inr ⟨rfl, k, i, hkk, rfl, hii, rfl, hc, hg⟩), hC2.cg (fun j hj => hq j (by omega)), hB2, hE146, (fun _ => rfl), fun j h1 h2 => (hq j h2).trans (hfr j h1)⟩ hQ dL_within_29
theorem jletterX (l : Launch) (hst : l.stackTraces = false) (D : va_G) (C : Nat → ClassId) (b : Nat) (E : Nat → va_E) (S : wm_St) (f : Nat → Int64) (x : Int32) (hC : wm_CI C b S E) (hB : wm_BD S) (hE0 : E 146 = wm_JR C 1 f) (hk : ¬ (0 ≤ x ∧ x < nI S.2.2.2.1.1)) : Met l yL_letter (wm_wsW yL_letter cL_letter 4 (some .int) [(0, 9, 12, 19)]) { frames := 7, cells := 1, slots := 6, locals := 103 } (va_Pc [.ref (b + 0), .int x, .ref (b + 146)] (wm_GN D C b 147 E)) (va_Qi (q_letter C b E S x) (fun E' t => wm_P D b 147 E' t.heap) (wm_A b)) 1 6 (wm_A b) := by
  refine wm_ofWH (by decide) (Nat.le_of_ble_eq_true rfl) (fun p e s m below meth c ls R args Q hRe hQ X hr hxt hV hNc hP hS hl => ?_)
  have hl : lv_has ls 4 [(0, .ref (b + 0)), (1, .int x), (2, .ref (b + 146))] := hl
  refine lv_aload_n X.1 X.2.1 dL_letter_0 rfl (lv_at hl 2 rfl) ?_
  refine lv_iconst (v := nI 0) X.1 X.2.1 dL_letter_1 (by decide) ?_
  refine lv_aload_n X.1 X.2.1 dL_letter_2 rfl (lv_at hl 0 rfl) ?_
  refine lv_iload_n X.1 X.2.1 dL_letter_3 rfl (lv_at hl 1 rfl) ?_
  refine wm_xcallV (k := 1) (As := [.int x]) (rest := [.int (nI 0), .ref (b + 146)]) X hV hP hS (by omega) (id hC).1.1 rfl (by obtain ⟨gc, wg, gr, mw, h100, h101, h102, hwd⟩ := id hC.2.2.2.2.2.1; exact kletterX l hst D C b 147 E _ _ _ _ x (by omega) hC.1.1 (by omega) h100 hk) wq4_176 wq4_177 wq4_178 wq1_1 wq4_179 (by decide) (by rw [hRe]; exact ⟨Nat.le_of_ble_eq_true rfl, Nat.le_of_ble_eq_true rfl⟩) rfl hl.1 rfl (Nat.le_of_ble_eq_true rfl) (by rw [hRe]; exact Nat.le_of_ble_eq_true rfl) (by rw [hRe]; exact Nat.le_of_ble_eq_true rfl) dL_letter_4 (fun ce q9 H1 locs1 hP hS h1 h2 h3 => ?_)
  refine wm_catch (pre := (tableOf [(0, 9, 12, 19)]).take 0) X (hxt.trans rfl) (fun y hy => absurd hy List.not_mem_nil) (by decide) (by decide) wq2_83 (wm_cast1 hV).1 h1 h2 h3 ?_
  refine lv_astore_n (lv' := [(3, .ref q9), (0, .ref (b + 0)), (1, .int x), (2, .ref (b + 146))]) X.1 X.2.1 dL_letter_12 rfl hl (by decide) rfl (fun ls hl => ?_)
  refine lv_iconst (v := nI 1) X.1 X.2.1 dL_letter_13 (by decide) ?_
  refine wm_wide (k := 1) (n := 6) (Nat.le_of_ble_eq_true rfl) (Nat.le_of_ble_eq_true rfl) ?_
  exact wm_iret (post := q_letter C b E S x) X hr hP hS ⟨S, 1, 0, f, rfl, by decide, Or.inl ⟨rfl, rfl, hk⟩, hC, hB, hE0, (fun h => absurd h (by decide)), fun _ _ _ => rfl⟩ hQ dL_letter_14
theorem jletterG (l : Launch) (hst : l.stackTraces = false) (D : va_G) (C : Nat → ClassId) (b : Nat) (E : Nat → va_E) (S : wm_St) (f : Nat → Int64) (t1 : Nat) (hC : wm_CI C b S E) (hB : wm_BD S) (hE0 : E 146 = wm_JR C 1 f) (ht : t1 < S.2.2.2.1.1) (hs : S.2.2.2.1.1 ≠ 4294967295) : Met l yL_letter (wm_wsW yL_letter cL_letter 4 (some .int) [(0, 9, 12, 19)]) { frames := 3, cells := 1, slots := 6, locals := 65 } (va_Pc [.ref (b + 0), .int (nI t1), .ref (b + 146)] (wm_GN D C b 147 E)) (va_Qi (q_letter C b E S (nI t1)) (fun E' t => wm_P D b 147 E' t.heap) (wm_A b)) 1 6 (wm_A b) := by
  refine wm_ofWH (by decide) (Nat.le_of_ble_eq_true rfl) (fun p e s m below meth c ls R args Q hRe hQ X hr hxt hV hNc hP hS hl => ?_)
  have hl : lv_has ls 4 [(0, .ref (b + 0)), (1, .int (nI t1)), (2, .ref (b + 146))] := hl
  refine lv_aload_n X.1 X.2.1 dL_letter_0 rfl (lv_at hl 2 rfl) ?_
  refine lv_iconst (v := nI 0) X.1 X.2.1 dL_letter_1 (by decide) ?_
  refine lv_aload_n X.1 X.2.1 dL_letter_2 rfl (lv_at hl 0 rfl) ?_
  refine lv_iload_n X.1 X.2.1 dL_letter_3 rfl (lv_at hl 1 rfl) ?_
  refine wm_callVi (k := 1) (As := [.int (nI t1)]) (rest := [.int (nI 0), .ref (b + 146)]) X hP hS (by omega) (id hC).1.1 rfl (c_letter l D C b E S t1 hC hB ht hs) wq4_176 wq4_177 wq4_178 wq1_1 wq4_179 (by decide) (by rw [hRe]; exact ⟨Nat.le_of_ble_eq_true rfl, Nat.le_of_ble_eq_true rfl⟩) rfl hl.1 rfl (Nat.le_of_ble_eq_true rfl) (Nat.zero_le _) (Nat.zero_le _) dL_letter_4 (fun r1 E1 H locs hw hP hS => ?_)
  obtain ⟨S2, v2, rfl, hg, hC2, hB2, hfr⟩ := hw
  have hE146 := (hfr 146 (by omega)).trans hE0
  refine lv_i2l (v := (nI v2).toInt64) X.1 X.2.1 dL_letter_7 rfl ?_
  refine wm_lastR (N := 1) (x := ((nI v2).toInt64)) (i := 0) X hP hS (by omega) hE146 (by decide) (by decide) dL_letter_8 (fun H locs E2 hP hS hE146 hq => ?_)
  refine lv_goto (tgt := 15) X.1 X.2.1 dL_letter_9 (by decide) ?_
  refine lv_iconst (v := nI 0) X.1 X.2.1 dL_letter_15 (by decide) ?_
  refine wm_wide (k := 1) (n := 6) (Nat.le_of_ble_eq_true rfl) (Nat.le_of_ble_eq_true rfl) ?_
  exact wm_iret (post := q_letter C b E S (nI t1)) X hr hP hS ⟨S2, 0, v2, _, rfl, by decide, Or.inr ⟨rfl, t1, ht, hs, rfl, hg⟩, hC2.cg (fun j hj => hq j (by omega)), hB2, hE146, (fun _ => rfl), fun j h1 h2 => (hq j h2).trans (hfr j h1)⟩ hQ dL_letter_16
theorem jwordsX (l : Launch) (hst : l.stackTraces = false) (D : va_G) (C : Nat → ClassId) (b : Nat) (E : Nat → va_E) (S : wm_St) (f : Nat → Int64) (x y : Int32) (hC : wm_CI C b S E) (hB : wm_BD S) (hE0 : E 146 = wm_JR C 1 f) (hk : wm_no8 x) : Met l yL_words (wm_wsW yL_words cL_words 5 (some .int) [(0, 9, 12, 19), (0, 9, 16, 13)]) { frames := 8, cells := 1, slots := 6, locals := 126 } (va_Pc [.ref (b + 0), .int x, .int y, .ref (b + 146)] (wm_GN D C b 147 E)) (va_Qi (q_words C b E S x y) (fun E' t => wm_P D b 147 E' t.heap) (wm_A b)) 1 6 (wm_A b) := by
  refine wm_ofWH (by decide) (Nat.le_of_ble_eq_true rfl) (fun p e s m below meth c ls R args Q hRe hQ X hr hxt hV hNc hP hS hl => ?_)
  have hl : lv_has ls 5 [(0, .ref (b + 0)), (1, .int x), (2, .int y), (3, .ref (b + 146))] := hl
  refine lv_aload_n X.1 X.2.1 dL_words_0 rfl (lv_at hl 3 rfl) ?_
  refine lv_iconst (v := nI 0) X.1 X.2.1 dL_words_1 (by decide) ?_
  refine lv_aload_n X.1 X.2.1 dL_words_2 rfl (lv_at hl 0 rfl) ?_
  refine lv_iload_n X.1 X.2.1 dL_words_3 rfl (lv_at hl 1 rfl) ?_
  refine lv_iload_n X.1 X.2.1 dL_words_4 rfl (lv_at hl 2 rfl) ?_
  refine wm_xcallV (k := 2) (As := [.int x, .int y]) (rest := [.int (nI 0), .ref (b + 146)]) X hV hP hS (by omega) (id hC).1.1 rfl (kwordsX l hst D C b 147 E _ _ _ (by omega) hC.1.1 hk) wq4_188 wq4_189 wq4_190 wq1_1 wq4_191 (by decide) (by rw [hRe]; exact ⟨Nat.le_of_ble_eq_true rfl, Nat.le_of_ble_eq_true rfl⟩) rfl hl.1 rfl (Nat.le_of_ble_eq_true rfl) (by rw [hRe]; exact Nat.le_of_ble_eq_true rfl) (by rw [hRe]; exact Nat.le_of_ble_eq_true rfl) dL_words_5 (fun ce q9 H1 locs1 hP hS h1 h2 h3 => ?_)
  refine wm_catch (pre := (tableOf [(0, 9, 12, 19), (0, 9, 16, 13)]).take 0) X (hxt.trans rfl) (fun y hy => absurd hy List.not_mem_nil) (by decide) (by decide) wq2_83 (wm_cast1 hV).1 h1 h2 h3 ?_
  refine lv_astore (lv' := [(4, .ref q9), (0, .ref (b + 0)), (1, .int x), (2, .int y), (3, .ref (b + 146))]) X.1 X.2.1 dL_words_12 hl (by decide) rfl (fun ls hl => ?_)
  refine lv_iconst (v := nI 1) X.1 X.2.1 dL_words_14 (by decide) ?_
  refine wm_wide (k := 1) (n := 6) (Nat.le_of_ble_eq_true rfl) (Nat.le_of_ble_eq_true rfl) ?_
  exact wm_iret (post := q_words C b E S x y) X hr hP hS ⟨S, 1, 0, f, rfl, by decide, Or.inl ⟨rfl, rfl, hk⟩, hC, hB, hE0, (fun h => absurd h (by decide)), fun _ _ _ => rfl⟩ hQ dL_words_15
theorem jwordsA (l : Launch) (hst : l.stackTraces = false) (D : va_G) (C : Nat → ClassId) (b : Nat) (E : Nat → va_E) (S : wm_St) (f : Nat → Int64) (k : Nat) (y : Int32) (hC : wm_CI C b S E) (hB : wm_BD S) (hE0 : E 146 = wm_JR C 1 f) (hkk : k < 8) (hc : 11 < (S.1 k).1) : Met l yL_words (wm_wsW yL_words cL_words 5 (some .int) [(0, 9, 12, 19), (0, 9, 16, 13)]) { frames := 8, cells := 1, slots := 6, locals := 125 } (va_Pc [.ref (b + 0), .int (nI k), .int y, .ref (b + 146)] (wm_GN D C b 147 E)) (va_Qi (q_words C b E S (nI k) y) (fun E' t => wm_P D b 147 E' t.heap) (wm_A b)) 1 6 (wm_A b) := by
  refine wm_ofWH (by decide) (Nat.le_of_ble_eq_true rfl) (fun p e s m below meth c ls R args Q hRe hQ X hr hxt hV hNc hP hS hl => ?_)
  have hl : lv_has ls 5 [(0, .ref (b + 0)), (1, .int (nI k)), (2, .int y), (3, .ref (b + 146))] := hl
  refine lv_aload_n X.1 X.2.1 dL_words_0 rfl (lv_at hl 3 rfl) ?_
  refine lv_iconst (v := nI 0) X.1 X.2.1 dL_words_1 (by decide) ?_
  refine lv_aload_n X.1 X.2.1 dL_words_2 rfl (lv_at hl 0 rfl) ?_
  refine lv_iload_n X.1 X.2.1 dL_words_3 rfl (lv_at hl 1 rfl) ?_
  refine lv_iload_n X.1 X.2.1 dL_words_4 rfl (lv_at hl 2 rfl) ?_
  refine wm_xcallV (k := 2) (As := [.int (nI k), .int y]) (rest := [.int (nI 0), .ref (b + 146)]) X hV hP hS (by omega) (id hC).1.1 rfl (kwordsA l hst D C b 147 E _ _ _ _ _ _ (by omega) hC.1.1 (by omega) hC.1.2 (by omega) (hC.2.2.2.2.2.2 _ hkk).1 hkk hc (hB.2.2.1 k hkk).2.1) wq4_188 wq4_189 wq4_190 wq1_1 wq4_191 (by decide) (by rw [hRe]; exact ⟨Nat.le_of_ble_eq_true rfl, Nat.le_of_ble_eq_true rfl⟩) rfl hl.1 rfl (Nat.le_of_ble_eq_true rfl) (by rw [hRe]; exact Nat.le_of_ble_eq_true rfl) (by rw [hRe]; exact Nat.le_of_ble_eq_true rfl) dL_words_5 (fun ce q9 H1 locs1 hP hS h1 h2 h3 => ?_)
  refine wm_catch (pre := (tableOf [(0, 9, 12, 19), (0, 9, 16, 13)]).take 1) X (hxt.trans rfl) (fun y hy => by rw [List.mem_singleton.mp hy]; exact ⟨by decide, by decide, _, wq2_83, hNc⟩) (by decide) (by decide) wq2_8 (wm_cast1 hV).2 h1 h2 h3 ?_
  refine lv_astore (lv' := [(4, .ref q9), (0, .ref (b + 0)), (1, .int (nI k)), (2, .int y), (3, .ref (b + 146))]) X.1 X.2.1 dL_words_16 hl (by decide) rfl (fun ls hl => ?_)
  refine lv_iconst (v := nI 2) X.1 X.2.1 dL_words_18 (by decide) ?_
  refine wm_wide (k := 1) (n := 6) (Nat.le_of_ble_eq_true rfl) (Nat.le_of_ble_eq_true rfl) ?_
  exact wm_iret (post := q_words C b E S (nI k) y) X hr hP hS ⟨S, 2, 0, f, rfl, by decide, Or.inr (Or.inl ⟨rfl, rfl, k, hkk, rfl, Or.inl hc⟩), hC, hB, hE0, (fun h => absurd h (by decide)), fun _ _ _ => rfl⟩ hQ dL_words_19
theorem jwordsB (l : Launch) (hst : l.stackTraces = false) (D : va_G) (C : Nat → ClassId) (b : Nat) (E : Nat → va_E) (S : wm_St) (f : Nat → Int64) (k : Nat) (y : Int32) (hC : wm_CI C b S E) (hB : wm_BD S) (hE0 : E 146 = wm_JR C 1 f) (hkk : k < 8) (hc : (S.1 k).1 ≤ 11) (hk : ¬ (0 ≤ y ∧ y ≤ nI 20)) : Met l yL_words (wm_wsW yL_words cL_words 5 (some .int) [(0, 9, 12, 19), (0, 9, 16, 13)]) { frames := 7, cells := 1, slots := 6, locals := 105 } (va_Pc [.ref (b + 0), .int (nI k), .int y, .ref (b + 146)] (wm_GN D C b 147 E)) (va_Qi (q_words C b E S (nI k) y) (fun E' t => wm_P D b 147 E' t.heap) (wm_A b)) 1 6 (wm_A b) := by
  refine wm_ofWH (by decide) (Nat.le_of_ble_eq_true rfl) (fun p e s m below meth c ls R args Q hRe hQ X hr hxt hV hNc hP hS hl => ?_)
  have hl : lv_has ls 5 [(0, .ref (b + 0)), (1, .int (nI k)), (2, .int y), (3, .ref (b + 146))] := hl
  refine lv_aload_n X.1 X.2.1 dL_words_0 rfl (lv_at hl 3 rfl) ?_
  refine lv_iconst (v := nI 0) X.1 X.2.1 dL_words_1 (by decide) ?_
  refine lv_aload_n X.1 X.2.1 dL_words_2 rfl (lv_at hl 0 rfl) ?_
  refine lv_iload_n X.1 X.2.1 dL_words_3 rfl (lv_at hl 1 rfl) ?_
  refine lv_iload_n X.1 X.2.1 dL_words_4 rfl (lv_at hl 2 rfl) ?_
  refine wm_xcallV (k := 2) (As := [.int (nI k), .int y]) (rest := [.int (nI 0), .ref (b + 146)]) X hV hP hS (by omega) (id hC).1.1 rfl (kwordsB l hst D C b 147 E _ _ _ _ _ _ (by omega) hC.1.1 (by omega) hC.1.2 (by omega) (hC.2.2.2.2.2.2 _ hkk).1 hkk hc hk) wq4_188 wq4_189 wq4_190 wq1_1 wq4_191 (by decide) (by rw [hRe]; exact ⟨Nat.le_of_ble_eq_true rfl, Nat.le_of_ble_eq_true rfl⟩) rfl hl.1 rfl (Nat.le_of_ble_eq_true rfl) (by rw [hRe]; exact Nat.le_of_ble_eq_true rfl) (by rw [hRe]; exact Nat.le_of_ble_eq_true rfl) dL_words_5 (fun ce q9 H1 locs1 hP hS h1 h2 h3 => ?_)
  refine wm_catch (pre := (tableOf [(0, 9, 12, 19), (0, 9, 16, 13)]).take 1) X (hxt.trans rfl) (fun y hy => by rw [List.mem_singleton.mp hy]; exact ⟨by decide, by decide, _, wq2_83, hNc⟩) (by decide) (by decide) wq2_8 (wm_cast1 hV).2 h1 h2 h3 ?_
  refine lv_astore (lv' := [(4, .ref q9), (0, .ref (b + 0)), (1, .int (nI k)), (2, .int y), (3, .ref (b + 146))]) X.1 X.2.1 dL_words_16 hl (by decide) rfl (fun ls hl => ?_)
  refine lv_iconst (v := nI 2) X.1 X.2.1 dL_words_18 (by decide) ?_
  refine wm_wide (k := 1) (n := 6) (Nat.le_of_ble_eq_true rfl) (Nat.le_of_ble_eq_true rfl) ?_
  exact wm_iret (post := q_words C b E S (nI k) y) X hr hP hS ⟨S, 2, 0, f, rfl, by decide, Or.inr (Or.inl ⟨rfl, rfl, k, hkk, rfl, Or.inr ⟨hc, hk⟩⟩), hC, hB, hE0, (fun h => absurd h (by decide)), fun _ _ _ => rfl⟩ hQ dL_words_19
theorem jwordsG (l : Launch) (hst : l.stackTraces = false) (D : va_G) (C : Nat → ClassId) (b : Nat) (E : Nat → va_E) (S : wm_St) (f : Nat → Int64) (k len : Nat) (hC : wm_CI C b S E) (hB : wm_BD S) (hE0 : E 146 = wm_JR C 1 f) (hkk : k < 8) (hc : (S.1 k).1 ≤ 11) (hlen : len ≤ 20) : Met l yL_words (wm_wsW yL_words cL_words 5 (some .int) [(0, 9, 12, 19), (0, 9, 16, 13)]) { frames := 5, cells := 1, slots := 6, locals := 121 } (va_Pc [.ref (b + 0), .int (nI k), .int (nI len), .ref (b + 146)] (wm_GN D C b 147 E)) (va_Qi (q_words C b E S (nI k) (nI len)) (fun E' t => wm_P D b 147 E' t.heap) (wm_A b)) 1 6 (wm_A b) := by
  refine wm_ofWH (by decide) (Nat.le_of_ble_eq_true rfl) (fun p e s m below meth c ls R args Q hRe hQ X hr hxt hV hNc hP hS hl => ?_)
  have hl : lv_has ls 5 [(0, .ref (b + 0)), (1, .int (nI k)), (2, .int (nI len)), (3, .ref (b + 146))] := hl
  refine lv_aload_n X.1 X.2.1 dL_words_0 rfl (lv_at hl 3 rfl) ?_
  refine lv_iconst (v := nI 0) X.1 X.2.1 dL_words_1 (by decide) ?_
  refine lv_aload_n X.1 X.2.1 dL_words_2 rfl (lv_at hl 0 rfl) ?_
  refine lv_iload_n X.1 X.2.1 dL_words_3 rfl (lv_at hl 1 rfl) ?_
  refine lv_iload_n X.1 X.2.1 dL_words_4 rfl (lv_at hl 2 rfl) ?_
  refine wm_callVl (k := 2) (As := [.int (nI k), .int (nI len)]) (rest := [.int (nI 0), .ref (b + 146)]) X hP hS (by omega) (id hC).1.1 rfl (c_words l D C b E S k len hC hB hkk hc hlen) wq4_188 wq4_189 wq4_190 wq1_1 wq4_191 (by decide) (by rw [hRe]; exact ⟨Nat.le_of_ble_eq_true rfl, Nat.le_of_ble_eq_true rfl⟩) rfl hl.1 rfl (Nat.le_of_ble_eq_true rfl) (Nat.zero_le _) (Nat.zero_le _) dL_words_5 (fun r1 E1 H locs hw hP hS => ?_)
  obtain ⟨S2, v2, rfl, hg, hC2, hB2, hfr⟩ := hw
  have hE146 := (hfr 146 (by omega)).trans hE0
  refine wm_lastR (N := 1) (x := (lN v2)) (i := 0) X hP hS (by omega) hE146 (by decide) (by decide) dL_words_8 (fun H locs E2 hP hS hE146 hq => ?_)
  refine lv_goto (tgt := 20) X.1 X.2.1 dL_words_9 (by decide) ?_
  refine lv_iconst (v := nI 0) X.1 X.2.1 dL_words_20 (by decide) ?_
  refine wm_wide (k := 1) (n := 6) (Nat.le_of_ble_eq_true rfl) (Nat.le_of_ble_eq_true rfl) ?_
  exact wm_iret (post := q_words C b E S (nI k) (nI len)) X hr hP hS ⟨S2, 0, v2, _, rfl, by decide, Or.inr (Or.inr ⟨rfl, k, len, hkk, rfl, hc, hlen, rfl, hg⟩), hC2.cg (fun j hj => hq j (by omega)), hB2, hE146, (fun _ => rfl), fun j h1 h2 => (hq j h2).trans (hfr j h1)⟩ hQ dL_words_21
theorem jsetsX (l : Launch) (hst : l.stackTraces = false) (D : va_G) (C : Nat → ClassId) (b : Nat) (E : Nat → va_E) (S : wm_St) (f : Nat → Int64) (x : Int32) (hC : wm_CI C b S E) (hB : wm_BD S) (hE0 : E 146 = wm_JR C 1 f) (hk : wm_no8 x) : Met l yL_sets (wm_wsW yL_sets cL_sets 4 (some .int) [(0, 9, 12, 19), (0, 9, 15, 13)]) { frames := 8, cells := 1, slots := 6, locals := 125 } (va_Pc [.ref (b + 0), .int x, .ref (b + 146)] (wm_GN D C b 147 E)) (va_Qi (q_sets C b E S x) (fun E' t => wm_P D b 147 E' t.heap) (wm_A b)) 1 6 (wm_A b) := by
  refine wm_ofWH (by decide) (Nat.le_of_ble_eq_true rfl) (fun p e s m below meth c ls R args Q hRe hQ X hr hxt hV hNc hP hS hl => ?_)
  have hl : lv_has ls 4 [(0, .ref (b + 0)), (1, .int x), (2, .ref (b + 146))] := hl
  refine lv_aload_n X.1 X.2.1 dL_sets_0 rfl (lv_at hl 2 rfl) ?_
  refine lv_iconst (v := nI 0) X.1 X.2.1 dL_sets_1 (by decide) ?_
  refine lv_aload_n X.1 X.2.1 dL_sets_2 rfl (lv_at hl 0 rfl) ?_
  refine lv_iload_n X.1 X.2.1 dL_sets_3 rfl (lv_at hl 1 rfl) ?_
  refine wm_xcallV (k := 1) (As := [.int x]) (rest := [.int (nI 0), .ref (b + 146)]) X hV hP hS (by omega) (id hC).1.1 rfl (ksetsX l hst D C b 147 E _ _ (by omega) hC.1.1 hk) wq4_229 wq4_230 wq4_231 wq1_1 wq4_232 (by decide) (by rw [hRe]; exact ⟨Nat.le_of_ble_eq_true rfl, Nat.le_of_ble_eq_true rfl⟩) rfl hl.1 rfl (Nat.le_of_ble_eq_true rfl) (by rw [hRe]; exact Nat.le_of_ble_eq_true rfl) (by rw [hRe]; exact Nat.le_of_ble_eq_true rfl) dL_sets_4 (fun ce q9 H1 locs1 hP hS h1 h2 h3 => ?_)
  refine wm_catch (pre := (tableOf [(0, 9, 12, 19), (0, 9, 15, 13)]).take 0) X (hxt.trans rfl) (fun y hy => absurd hy List.not_mem_nil) (by decide) (by decide) wq2_83 (wm_cast1 hV).1 h1 h2 h3 ?_
  refine lv_astore_n (lv' := [(3, .ref q9), (0, .ref (b + 0)), (1, .int x), (2, .ref (b + 146))]) X.1 X.2.1 dL_sets_12 rfl hl (by decide) rfl (fun ls hl => ?_)
  refine lv_iconst (v := nI 1) X.1 X.2.1 dL_sets_13 (by decide) ?_
  refine wm_wide (k := 1) (n := 6) (Nat.le_of_ble_eq_true rfl) (Nat.le_of_ble_eq_true rfl) ?_
  exact wm_iret (post := q_sets C b E S x) X hr hP hS ⟨S, 1, 0, f, rfl, by decide, Or.inl ⟨rfl, rfl, hk⟩, hC, hB, hE0, (fun h => absurd h (by decide)), fun _ _ _ => rfl⟩ hQ dL_sets_14
theorem jsetsA (l : Launch) (hst : l.stackTraces = false) (D : va_G) (C : Nat → ClassId) (b : Nat) (E : Nat → va_E) (S : wm_St) (f : Nat → Int64) (k : Nat) (hC : wm_CI C b S E) (hB : wm_BD S) (hE0 : E 146 = wm_JR C 1 f) (hkk : k < 8) (hc : 11 < (S.1 k).1) : Met l yL_sets (wm_wsW yL_sets cL_sets 4 (some .int) [(0, 9, 12, 19), (0, 9, 15, 13)]) { frames := 8, cells := 1, slots := 6, locals := 124 } (va_Pc [.ref (b + 0), .int (nI k), .ref (b + 146)] (wm_GN D C b 147 E)) (va_Qi (q_sets C b E S (nI k)) (fun E' t => wm_P D b 147 E' t.heap) (wm_A b)) 1 6 (wm_A b) := by
  refine wm_ofWH (by decide) (Nat.le_of_ble_eq_true rfl) (fun p e s m below meth c ls R args Q hRe hQ X hr hxt hV hNc hP hS hl => ?_)
  have hl : lv_has ls 4 [(0, .ref (b + 0)), (1, .int (nI k)), (2, .ref (b + 146))] := hl
  refine lv_aload_n X.1 X.2.1 dL_sets_0 rfl (lv_at hl 2 rfl) ?_
  refine lv_iconst (v := nI 0) X.1 X.2.1 dL_sets_1 (by decide) ?_
  refine lv_aload_n X.1 X.2.1 dL_sets_2 rfl (lv_at hl 0 rfl) ?_
  refine lv_iload_n X.1 X.2.1 dL_sets_3 rfl (lv_at hl 1 rfl) ?_
  refine wm_xcallV (k := 1) (As := [.int (nI k)]) (rest := [.int (nI 0), .ref (b + 146)]) X hV hP hS (by omega) (id hC).1.1 rfl (ksetsA l hst D C b 147 E _ _ _ _ _ (by omega) hC.1.1 (by omega) hC.1.2 (by omega) (hC.2.2.2.2.2.2 _ hkk).1 hkk hc (hB.2.2.1 k hkk).2.1) wq4_229 wq4_230 wq4_231 wq1_1 wq4_232 (by decide) (by rw [hRe]; exact ⟨Nat.le_of_ble_eq_true rfl, Nat.le_of_ble_eq_true rfl⟩) rfl hl.1 rfl (Nat.le_of_ble_eq_true rfl) (by rw [hRe]; exact Nat.le_of_ble_eq_true rfl) (by rw [hRe]; exact Nat.le_of_ble_eq_true rfl) dL_sets_4 (fun ce q9 H1 locs1 hP hS h1 h2 h3 => ?_)
  refine wm_catch (pre := (tableOf [(0, 9, 12, 19), (0, 9, 15, 13)]).take 1) X (hxt.trans rfl) (fun y hy => by rw [List.mem_singleton.mp hy]; exact ⟨by decide, by decide, _, wq2_83, hNc⟩) (by decide) (by decide) wq2_8 (wm_cast1 hV).2 h1 h2 h3 ?_
  refine lv_astore_n (lv' := [(3, .ref q9), (0, .ref (b + 0)), (1, .int (nI k)), (2, .ref (b + 146))]) X.1 X.2.1 dL_sets_15 rfl hl (by decide) rfl (fun ls hl => ?_)
  refine lv_iconst (v := nI 2) X.1 X.2.1 dL_sets_16 (by decide) ?_
  refine wm_wide (k := 1) (n := 6) (Nat.le_of_ble_eq_true rfl) (Nat.le_of_ble_eq_true rfl) ?_
  exact wm_iret (post := q_sets C b E S (nI k)) X hr hP hS ⟨S, 2, 0, f, rfl, by decide, Or.inr (Or.inl ⟨rfl, rfl, k, hkk, rfl, hc⟩), hC, hB, hE0, (fun h => absurd h (by decide)), fun _ _ _ => rfl⟩ hQ dL_sets_17
theorem jsetsG (l : Launch) (hst : l.stackTraces = false) (D : va_G) (C : Nat → ClassId) (b : Nat) (E : Nat → va_E) (S : wm_St) (f : Nat → Int64) (k : Nat) (hC : wm_CI C b S E) (hB : wm_BD S) (hE0 : E 146 = wm_JR C 1 f) (hkk : k < 8) (hc : (S.1 k).1 ≤ 11) : Met l yL_sets (wm_wsW yL_sets cL_sets 4 (some .int) [(0, 9, 12, 19), (0, 9, 15, 13)]) { frames := 4, cells := 1, slots := 6, locals := 92 } (va_Pc [.ref (b + 0), .int (nI k), .ref (b + 146)] (wm_GN D C b 147 E)) (va_Qi (q_sets C b E S (nI k)) (fun E' t => wm_P D b 147 E' t.heap) (wm_A b)) 1 6 (wm_A b) := by
  refine wm_ofWH (by decide) (Nat.le_of_ble_eq_true rfl) (fun p e s m below meth c ls R args Q hRe hQ X hr hxt hV hNc hP hS hl => ?_)
  have hl : lv_has ls 4 [(0, .ref (b + 0)), (1, .int (nI k)), (2, .ref (b + 146))] := hl
  refine lv_aload_n X.1 X.2.1 dL_sets_0 rfl (lv_at hl 2 rfl) ?_
  refine lv_iconst (v := nI 0) X.1 X.2.1 dL_sets_1 (by decide) ?_
  refine lv_aload_n X.1 X.2.1 dL_sets_2 rfl (lv_at hl 0 rfl) ?_
  refine lv_iload_n X.1 X.2.1 dL_sets_3 rfl (lv_at hl 1 rfl) ?_
  refine wm_callVi (k := 1) (As := [.int (nI k)]) (rest := [.int (nI 0), .ref (b + 146)]) X hP hS (by omega) (id hC).1.1 rfl (c_sets l D C b E S k hC hB hkk hc) wq4_229 wq4_230 wq4_231 wq1_1 wq4_232 (by decide) (by rw [hRe]; exact ⟨Nat.le_of_ble_eq_true rfl, Nat.le_of_ble_eq_true rfl⟩) rfl hl.1 rfl (Nat.le_of_ble_eq_true rfl) (Nat.zero_le _) (Nat.zero_le _) dL_sets_4 (fun r1 E1 H locs hw hP hS => ?_)
  obtain ⟨S2, v2, rfl, hg, hC2, hB2, hfr⟩ := hw
  have hE146 := (hfr 146 (by omega)).trans hE0
  refine lv_i2l (v := (nI v2).toInt64) X.1 X.2.1 dL_sets_7 rfl ?_
  refine wm_lastR (N := 1) (x := ((nI v2).toInt64)) (i := 0) X hP hS (by omega) hE146 (by decide) (by decide) dL_sets_8 (fun H locs E2 hP hS hE146 hq => ?_)
  refine lv_goto (tgt := 18) X.1 X.2.1 dL_sets_9 (by decide) ?_
  refine lv_iconst (v := nI 0) X.1 X.2.1 dL_sets_18 (by decide) ?_
  refine wm_wide (k := 1) (n := 6) (Nat.le_of_ble_eq_true rfl) (Nat.le_of_ble_eq_true rfl) ?_
  exact wm_iret (post := q_sets C b E S (nI k)) X hr hP hS ⟨S2, 0, v2, _, rfl, by decide, Or.inr (Or.inr ⟨rfl, k, hkk, rfl, hc, hg⟩), hC2.cg (fun j hj => hq j (by omega)), hB2, hE146, (fun _ => rfl), fun j h1 h2 => (hq j h2).trans (hfr j h1)⟩ hQ dL_sets_19
theorem jrestsX (l : Launch) (hst : l.stackTraces = false) (D : va_G) (C : Nat → ClassId) (b : Nat) (E : Nat → va_E) (S : wm_St) (f : Nat → Int64) (x : Int32) (hC : wm_CI C b S E) (hB : wm_BD S) (hE0 : E 146 = wm_JR C 1 f) (hk : wm_no8 x) : Met l yL_rests (wm_wsW yL_rests cL_rests 4 (some .int) [(0, 9, 12, 19), (0, 9, 15, 13)]) { frames := 8, cells := 1, slots := 6, locals := 125 } (va_Pc [.ref (b + 0), .int x, .ref (b + 146)] (wm_GN D C b 147 E)) (va_Qi (q_rests C b E S x) (fun E' t => wm_P D b 147 E' t.heap) (wm_A b)) 1 6 (wm_A b) := by
  refine wm_ofWH (by decide) (Nat.le_of_ble_eq_true rfl) (fun p e s m below meth c ls R args Q hRe hQ X hr hxt hV hNc hP hS hl => ?_)
  have hl : lv_has ls 4 [(0, .ref (b + 0)), (1, .int x), (2, .ref (b + 146))] := hl
  refine lv_aload_n X.1 X.2.1 dL_rests_0 rfl (lv_at hl 2 rfl) ?_
  refine lv_iconst (v := nI 0) X.1 X.2.1 dL_rests_1 (by decide) ?_
  refine lv_aload_n X.1 X.2.1 dL_rests_2 rfl (lv_at hl 0 rfl) ?_
  refine lv_iload_n X.1 X.2.1 dL_rests_3 rfl (lv_at hl 1 rfl) ?_
  refine wm_xcallV (k := 1) (As := [.int x]) (rest := [.int (nI 0), .ref (b + 146)]) X hV hP hS (by omega) (id hC).1.1 rfl (krestsX l hst D C b 147 E _ _ (by omega) hC.1.1 hk) wq4_237 wq4_238 wq4_239 wq1_1 wq5_0 (by decide) (by rw [hRe]; exact ⟨Nat.le_of_ble_eq_true rfl, Nat.le_of_ble_eq_true rfl⟩) rfl hl.1 rfl (Nat.le_of_ble_eq_true rfl) (by rw [hRe]; exact Nat.le_of_ble_eq_true rfl) (by rw [hRe]; exact Nat.le_of_ble_eq_true rfl) dL_rests_4 (fun ce q9 H1 locs1 hP hS h1 h2 h3 => ?_)
  refine wm_catch (pre := (tableOf [(0, 9, 12, 19), (0, 9, 15, 13)]).take 0) X (hxt.trans rfl) (fun y hy => absurd hy List.not_mem_nil) (by decide) (by decide) wq2_83 (wm_cast1 hV).1 h1 h2 h3 ?_
  refine lv_astore_n (lv' := [(3, .ref q9), (0, .ref (b + 0)), (1, .int x), (2, .ref (b + 146))]) X.1 X.2.1 dL_rests_12 rfl hl (by decide) rfl (fun ls hl => ?_)
  refine lv_iconst (v := nI 1) X.1 X.2.1 dL_rests_13 (by decide) ?_
  refine wm_wide (k := 1) (n := 6) (Nat.le_of_ble_eq_true rfl) (Nat.le_of_ble_eq_true rfl) ?_
  exact wm_iret (post := q_rests C b E S x) X hr hP hS ⟨S, 1, 0, f, rfl, by decide, Or.inl ⟨rfl, rfl, hk⟩, hC, hB, hE0, (fun h => absurd h (by decide)), fun _ _ _ => rfl⟩ hQ dL_rests_14
theorem jrestsA (l : Launch) (hst : l.stackTraces = false) (D : va_G) (C : Nat → ClassId) (b : Nat) (E : Nat → va_E) (S : wm_St) (f : Nat → Int64) (k : Nat) (hC : wm_CI C b S E) (hB : wm_BD S) (hE0 : E 146 = wm_JR C 1 f) (hkk : k < 8) (hc : 11 < (S.1 k).1) : Met l yL_rests (wm_wsW yL_rests cL_rests 4 (some .int) [(0, 9, 12, 19), (0, 9, 15, 13)]) { frames := 8, cells := 1, slots := 6, locals := 124 } (va_Pc [.ref (b + 0), .int (nI k), .ref (b + 146)] (wm_GN D C b 147 E)) (va_Qi (q_rests C b E S (nI k)) (fun E' t => wm_P D b 147 E' t.heap) (wm_A b)) 1 6 (wm_A b) := by
  refine wm_ofWH (by decide) (Nat.le_of_ble_eq_true rfl) (fun p e s m below meth c ls R args Q hRe hQ X hr hxt hV hNc hP hS hl => ?_)
  have hl : lv_has ls 4 [(0, .ref (b + 0)), (1, .int (nI k)), (2, .ref (b + 146))] := hl
  refine lv_aload_n X.1 X.2.1 dL_rests_0 rfl (lv_at hl 2 rfl) ?_
  refine lv_iconst (v := nI 0) X.1 X.2.1 dL_rests_1 (by decide) ?_
  refine lv_aload_n X.1 X.2.1 dL_rests_2 rfl (lv_at hl 0 rfl) ?_
  refine lv_iload_n X.1 X.2.1 dL_rests_3 rfl (lv_at hl 1 rfl) ?_
  refine wm_xcallV (k := 1) (As := [.int (nI k)]) (rest := [.int (nI 0), .ref (b + 146)]) X hV hP hS (by omega) (id hC).1.1 rfl (krestsA l hst D C b 147 E _ _ _ _ _ (by omega) hC.1.1 (by omega) hC.1.2 (by omega) (hC.2.2.2.2.2.2 _ hkk).1 hkk hc (hB.2.2.1 k hkk).2.1) wq4_237 wq4_238 wq4_239 wq1_1 wq5_0 (by decide) (by rw [hRe]; exact ⟨Nat.le_of_ble_eq_true rfl, Nat.le_of_ble_eq_true rfl⟩) rfl hl.1 rfl (Nat.le_of_ble_eq_true rfl) (by rw [hRe]; exact Nat.le_of_ble_eq_true rfl) (by rw [hRe]; exact Nat.le_of_ble_eq_true rfl) dL_rests_4 (fun ce q9 H1 locs1 hP hS h1 h2 h3 => ?_)
  refine wm_catch (pre := (tableOf [(0, 9, 12, 19), (0, 9, 15, 13)]).take 1) X (hxt.trans rfl) (fun y hy => by rw [List.mem_singleton.mp hy]; exact ⟨by decide, by decide, _, wq2_83, hNc⟩) (by decide) (by decide) wq2_8 (wm_cast1 hV).2 h1 h2 h3 ?_
  refine lv_astore_n (lv' := [(3, .ref q9), (0, .ref (b + 0)), (1, .int (nI k)), (2, .ref (b + 146))]) X.1 X.2.1 dL_rests_15 rfl hl (by decide) rfl (fun ls hl => ?_)
  refine lv_iconst (v := nI 2) X.1 X.2.1 dL_rests_16 (by decide) ?_
  refine wm_wide (k := 1) (n := 6) (Nat.le_of_ble_eq_true rfl) (Nat.le_of_ble_eq_true rfl) ?_
  exact wm_iret (post := q_rests C b E S (nI k)) X hr hP hS ⟨S, 2, 0, f, rfl, by decide, Or.inr (Or.inl ⟨rfl, rfl, k, hkk, rfl, hc⟩), hC, hB, hE0, (fun h => absurd h (by decide)), fun _ _ _ => rfl⟩ hQ dL_rests_17
theorem jrestsG (l : Launch) (hst : l.stackTraces = false) (D : va_G) (C : Nat → ClassId) (b : Nat) (E : Nat → va_E) (S : wm_St) (f : Nat → Int64) (k : Nat) (hC : wm_CI C b S E) (hB : wm_BD S) (hE0 : E 146 = wm_JR C 1 f) (hkk : k < 8) (hc : (S.1 k).1 ≤ 11) : Met l yL_rests (wm_wsW yL_rests cL_rests 4 (some .int) [(0, 9, 12, 19), (0, 9, 15, 13)]) { frames := 5, cells := 1, slots := 6, locals := 117 } (va_Pc [.ref (b + 0), .int (nI k), .ref (b + 146)] (wm_GN D C b 147 E)) (va_Qi (q_rests C b E S (nI k)) (fun E' t => wm_P D b 147 E' t.heap) (wm_A b)) 1 6 (wm_A b) := by
  refine wm_ofWH (by decide) (Nat.le_of_ble_eq_true rfl) (fun p e s m below meth c ls R args Q hRe hQ X hr hxt hV hNc hP hS hl => ?_)
  have hl : lv_has ls 4 [(0, .ref (b + 0)), (1, .int (nI k)), (2, .ref (b + 146))] := hl
  refine lv_aload_n X.1 X.2.1 dL_rests_0 rfl (lv_at hl 2 rfl) ?_
  refine lv_iconst (v := nI 0) X.1 X.2.1 dL_rests_1 (by decide) ?_
  refine lv_aload_n X.1 X.2.1 dL_rests_2 rfl (lv_at hl 0 rfl) ?_
  refine lv_iload_n X.1 X.2.1 dL_rests_3 rfl (lv_at hl 1 rfl) ?_
  refine wm_callVi (k := 1) (As := [.int (nI k)]) (rest := [.int (nI 0), .ref (b + 146)]) X hP hS (by omega) (id hC).1.1 rfl (c_rests l D C b E S k hC hB hkk hc) wq4_237 wq4_238 wq4_239 wq1_1 wq5_0 (by decide) (by rw [hRe]; exact ⟨Nat.le_of_ble_eq_true rfl, Nat.le_of_ble_eq_true rfl⟩) rfl hl.1 rfl (Nat.le_of_ble_eq_true rfl) (Nat.zero_le _) (Nat.zero_le _) dL_rests_4 (fun r1 E1 H locs hw hP hS => ?_)
  obtain ⟨S2, v2, rfl, hg, hC2, hB2, hfr⟩ := hw
  have hE146 := (hfr 146 (by omega)).trans hE0
  refine lv_i2l (v := (nI v2).toInt64) X.1 X.2.1 dL_rests_7 rfl ?_
  refine wm_lastR (N := 1) (x := ((nI v2).toInt64)) (i := 0) X hP hS (by omega) hE146 (by decide) (by decide) dL_rests_8 (fun H locs E2 hP hS hE146 hq => ?_)
  refine lv_goto (tgt := 18) X.1 X.2.1 dL_rests_9 (by decide) ?_
  refine lv_iconst (v := nI 0) X.1 X.2.1 dL_rests_18 (by decide) ?_
  refine wm_wide (k := 1) (n := 6) (Nat.le_of_ble_eq_true rfl) (Nat.le_of_ble_eq_true rfl) ?_
  exact wm_iret (post := q_rests C b E S (nI k)) X hr hP hS ⟨S2, 0, v2, _, rfl, by decide, Or.inr (Or.inr ⟨rfl, k, hkk, rfl, hc, hg⟩), hC2.cg (fun j hj => hq j (by omega)), hB2, hE146, (fun _ => rfl), fun j h1 h2 => (hq j h2).trans (hfr j h1)⟩ hQ dL_rests_19
