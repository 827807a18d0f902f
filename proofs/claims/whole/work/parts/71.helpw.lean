theorem wm_hwd {l : Launch} {y : MethodName} {ws : List Cond} {fr lo : Nat} {Pc : Array Value → State → Prop} {Qc : Array Value → State → Outcome → State → Prop} {free : Addr → Prop} (h : Met l y ws { frames := fr, cells := 1, slots := 6, locals := lo } Pc Qc 1 6 free) (h1 : fr ≤ 16 ∧ lo ≤ 400) : Met l y ws { frames := 16, cells := 1, slots := 6, locals := 400 } Pc Qc 1 6 free := wm_metw h ⟨h1.1, Nat.le_refl _, Nat.le_refl _, h1.2⟩ ⟨Nat.le_refl _, Nat.le_refl _⟩ (fun _ _ q => q) (fun _ _ _ _ q => q)
theorem wm_1le {x : Int32} {k : Nat} (hk : k < 2 ^ 31) (h : nI 1 ≤ x ∧ x ≤ nI k) : ∃ j, (1 ≤ j ∧ j ≤ k) ∧ x = nI j := by
  obtain ⟨j, hj, rfl⟩ := wm_le_n hk ⟨Int32.le_trans (by decide) h.1, h.2⟩
  refine ⟨j, ⟨?_, hj⟩, rfl⟩
  rcases Nat.eq_zero_or_pos j with q | q
  · subst q; exact absurd h.1 (by decide)
  · exact q
theorem wm_neg1 {x : Int32} (h : 0 ≤ x ∧ x < nI 4294967295) : False := by
  have h1 : (0 : Int32) < nI 4294967295 := Int32.lt_of_le_of_lt h.1 h.2
  exact absurd h1 (by decide)
theorem h_feed (l : Launch) (hst : l.stackTraces = false) (D : va_G) (C : Nat → ClassId) (b : Nat) (E : Nat → va_E) (S : wm_St) (f : Nat → Int64) (x : Int32) (v0 : Nat) (hC : wm_CI C b S E) (hB : wm_BD S) (hE0 : E 146 = wm_JR C 1 f) (hv0 : v0 < 2 ^ 64) : Met l yL_feed (wm_wsW yL_feed cL_feed 6 (some .int) [(0, 11, 14, 13)]) { frames := 16, cells := 1, slots := 6, locals := 400 } (va_Pc [.ref (b + 0), .int x, .long (lN v0), .ref (b + 146)] (wm_GN D C b 147 E)) (va_Qi (q_feed C b E S x v0) (fun E' t => wm_P D b 147 E' t.heap) (wm_A b)) 1 6 (wm_A b) := by
  by_cases hcx : nI 1 ≤ x ∧ x ≤ nI 8
  · obtain ⟨k, hk1, rfl⟩ := wm_1le (by decide) hcx
    exact wm_hwd (jfeedG l hst D C b E S f k v0 hC hB hE0 hk1 hv0) ⟨Nat.le_of_ble_eq_true rfl, Nat.le_of_ble_eq_true rfl⟩
  · exact wm_hwd (jfeedX l hst D C b E S f x v0 hC hB hE0 hcx) ⟨Nat.le_of_ble_eq_true rfl, Nat.le_of_ble_eq_true rfl⟩
theorem h_read (l : Launch) (hst : l.stackTraces = false) (D : va_G) (C : Nat → ClassId) (b : Nat) (E : Nat → va_E) (S : wm_St) (f : Nat → Int64) (x : Int32) (hC : wm_CI C b S E) (hB : wm_BD S) (hE0 : E 146 = wm_JR C 1 f) : Met l yL_read (wm_wsW yL_read cL_read 4 (some .int) [(0, 9, 12, 19)]) { frames := 16, cells := 1, slots := 6, locals := 400 } (va_Pc [.ref (b + 0), .int x, .ref (b + 146)] (wm_GN D C b 147 E)) (va_Qi (q_read C b E S x) (fun E' t => wm_P D b 147 E' t.heap) (wm_A b)) 1 6 (wm_A b) := by
  by_cases hcx : 0 ≤ x ∧ x < nI 8
  · obtain ⟨k, hkk, rfl⟩ := wm_lt_n (by decide) hcx
    exact wm_hwd (jreadG l hst D C b E S f k hC hB hE0 hkk) ⟨Nat.le_of_ble_eq_true rfl, Nat.le_of_ble_eq_true rfl⟩
  · exact wm_hwd (jreadX l hst D C b E S f x hC hB hE0 hcx) ⟨Nat.le_of_ble_eq_true rfl, Nat.le_of_ble_eq_true rfl⟩
theorem h_states (l : Launch) (hst : l.stackTraces = false) (D : va_G) (C : Nat → ClassId) (b : Nat) (E : Nat → va_E) (S : wm_St) (f : Nat → Int64) (x : Int32) (hC : wm_CI C b S E) (hB : wm_BD S) (hE0 : E 146 = wm_JR C 1 f) : Met l yL_states (wm_wsW yL_states cL_states 4 (some .int) [(0, 9, 12, 19)]) { frames := 16, cells := 1, slots := 6, locals := 400 } (va_Pc [.ref (b + 0), .int x, .ref (b + 146)] (wm_GN D C b 147 E)) (va_Qi (q_states C b E S x) (fun E' t => wm_P D b 147 E' t.heap) (wm_A b)) 1 6 (wm_A b) := by
  by_cases hcx : 0 ≤ x ∧ x < nI 8
  · obtain ⟨k, hkk, rfl⟩ := wm_lt_n (by decide) hcx
    exact wm_hwd (jstatesG l hst D C b E S f k hC hB hE0 hkk) ⟨Nat.le_of_ble_eq_true rfl, Nat.le_of_ble_eq_true rfl⟩
  · exact wm_hwd (jstatesX l hst D C b E S f x hC hB hE0 hcx) ⟨Nat.le_of_ble_eq_true rfl, Nat.le_of_ble_eq_true rfl⟩
theorem h_takes (l : Launch) (hst : l.stackTraces = false) (D : va_G) (C : Nat → ClassId) (b : Nat) (E : Nat → va_E) (S : wm_St) (f : Nat → Int64) (x : Int32) (hC : wm_CI C b S E) (hB : wm_BD S) (hE0 : E 146 = wm_JR C 1 f) : Met l yL_takes (wm_wsW yL_takes cL_takes 4 (some .int) [(0, 16, 19, 19)]) { frames := 16, cells := 1, slots := 6, locals := 400 } (va_Pc [.ref (b + 0), .int x, .ref (b + 146)] (wm_GN D C b 147 E)) (va_Qi (q_takes C b E S x) (fun E' t => wm_P D b 147 E' t.heap) (wm_A b)) 1 6 (wm_A b) := by
  by_cases hcx : 0 ≤ x ∧ x < nI 8
  · obtain ⟨k, hkk, rfl⟩ := wm_lt_n (by decide) hcx
    exact wm_hwd (jtakesG l hst D C b E S f k hC hB hE0 hkk) ⟨Nat.le_of_ble_eq_true rfl, Nat.le_of_ble_eq_true rfl⟩
  · exact wm_hwd (jtakesX l hst D C b E S f x hC hB hE0 hcx) ⟨Nat.le_of_ble_eq_true rfl, Nat.le_of_ble_eq_true rfl⟩
theorem h_blank (l : Launch) (hst : l.stackTraces = false) (D : va_G) (C : Nat → ClassId) (b : Nat) (E : Nat → va_E) (S : wm_St) (f : Nat → Int64) (x : Int32) (y : Int32) (hC : wm_CI C b S E) (hB : wm_BD S) (hE0 : E 146 = wm_JR C 1 f) : Met l yL_blank (wm_wsW yL_blank cL_blank 4 (some .int) [(0, 6, 9, 19), (0, 6, 12, 13)]) { frames := 16, cells := 1, slots := 6, locals := 400 } (va_Pc [.ref (b + 0), .int x, .int y] (wm_GN D C b 147 E)) (va_Qi (q_blank C b E S x y) (fun E' t => wm_P D b 147 E' t.heap) (wm_A b)) 1 6 (wm_A b) := by
  by_cases hcx : 0 ≤ x ∧ x < nI 8
  · obtain ⟨k, hkk, rfl⟩ := wm_lt_n (by decide) hcx
    by_cases hcy : nI 1 ≤ y ∧ y ≤ nI 24
    · obtain ⟨yy, hy, rfl⟩ := wm_1le (by decide) hcy
      exact wm_hwd (jblankG l hst D C b E S f k yy hC hB hE0 hkk hy) ⟨Nat.le_of_ble_eq_true rfl, Nat.le_of_ble_eq_true rfl⟩
    · exact wm_hwd (jblankA l hst D C b E S f k y hC hB hE0 hkk hcy) ⟨Nat.le_of_ble_eq_true rfl, Nat.le_of_ble_eq_true rfl⟩
  · exact wm_hwd (jblankX l hst D C b E S f x y hC hB hE0 hcx) ⟨Nat.le_of_ble_eq_true rfl, Nat.le_of_ble_eq_true rfl⟩
theorem h_mark (l : Launch) (hst : l.stackTraces = false) (D : va_G) (C : Nat → ClassId) (b : Nat) (E : Nat → va_E) (S : wm_St) (f : Nat → Int64) (x : Int32) (y : Int32) (z : Int32) (hC : wm_CI C b S E) (hB : wm_BD S) (hE0 : E 146 = wm_JR C 1 f) : Met l yL_mark (wm_wsW yL_mark cL_mark 5 (some .int) [(0, 7, 10, 19), (0, 7, 14, 13)]) { frames := 16, cells := 1, slots := 6, locals := 400 } (va_Pc [.ref (b + 0), .int x, .int y, .int z] (wm_GN D C b 147 E)) (va_Qi (q_mark C b E S x y z) (fun E' t => wm_P D b 147 E' t.heap) (wm_A b)) 1 6 (wm_A b) := by
  by_cases hcx : 0 ≤ x ∧ x < nI 8
  · obtain ⟨k, hkk, rfl⟩ := wm_lt_n (by decide) hcx
    by_cases hcy : 0 ≤ y ∧ y < nI (S.1 k).1
    · obtain ⟨sv, hsv, rfl⟩ := wm_lt_n (by have := (hB.2.2.1 k hkk).2.1; omega) hcy
      by_cases hcz : 0 ≤ z ∧ z ≤ nI 3
      · obtain ⟨zz, hz3, rfl⟩ := wm_le_n (by decide) hcz
        exact wm_hwd (jmarkG l hst D C b E S f k sv zz hC hB hE0 hkk hsv hz3) ⟨Nat.le_of_ble_eq_true rfl, Nat.le_of_ble_eq_true rfl⟩
      · exact wm_hwd (jmarkA l hst D C b E S f k sv z hC hB hE0 hkk hsv hcz) ⟨Nat.le_of_ble_eq_true rfl, Nat.le_of_ble_eq_true rfl⟩
    · exact wm_hwd (jmarkS l hst D C b E S f k y z hC hB hE0 hkk hcy) ⟨Nat.le_of_ble_eq_true rfl, Nat.le_of_ble_eq_true rfl⟩
  · exact wm_hwd (jmarkX l hst D C b E S f x y z hC hB hE0 hcx) ⟨Nat.le_of_ble_eq_true rfl, Nat.le_of_ble_eq_true rfl⟩
theorem h_arcs (l : Launch) (hst : l.stackTraces = false) (D : va_G) (C : Nat → ClassId) (b : Nat) (E : Nat → va_E) (S : wm_St) (f : Nat → Int64) (x : Int32) (y : Int32) (z : Int32) (hC : wm_CI C b S E) (hB : wm_BD S) (hE0 : E 146 = wm_JR C 1 f) : Met l yL_arcs (wm_wsW yL_arcs cL_arcs 6 (some .int) [(0, 12, 15, 19), (0, 12, 19, 13)]) { frames := 16, cells := 1, slots := 6, locals := 400 } (va_Pc [.ref (b + 0), .int x, .int y, .int z, .ref (b + 146)] (wm_GN D C b 147 E)) (va_Qi (q_arcs C b E S x y z) (fun E' t => wm_P D b 147 E' t.heap) (wm_A b)) 1 6 (wm_A b) := by
  by_cases hcx : 0 ≤ x ∧ x < nI 8
  · obtain ⟨k, hkk, rfl⟩ := wm_lt_n (by decide) hcx
    by_cases hcy : 0 ≤ y ∧ y < nI (S.1 k).1
    · obtain ⟨sv, hsv, rfl⟩ := wm_lt_n (by have := (hB.2.2.1 k hkk).2.1; omega) hcy
      by_cases hcz : 0 ≤ z ∧ z ≤ nI 8
      · obtain ⟨lr, hlr, rfl⟩ := wm_le_n (by decide) hcz
        exact wm_hwd (jarcsG l hst D C b E S f k sv lr hC hB hE0 hkk hsv hlr) ⟨Nat.le_of_ble_eq_true rfl, Nat.le_of_ble_eq_true rfl⟩
      · exact wm_hwd (jarcsA l hst D C b E S f k sv z hC hB hE0 hkk hsv hcz) ⟨Nat.le_of_ble_eq_true rfl, Nat.le_of_ble_eq_true rfl⟩
    · exact wm_hwd (jarcsS l hst D C b E S f k y z hC hB hE0 hkk hcy) ⟨Nat.le_of_ble_eq_true rfl, Nat.le_of_ble_eq_true rfl⟩
  · exact wm_hwd (jarcsX l hst D C b E S f x y z hC hB hE0 hcx) ⟨Nat.le_of_ble_eq_true rfl, Nat.le_of_ble_eq_true rfl⟩
theorem h_arc (l : Launch) (hst : l.stackTraces = false) (D : va_G) (C : Nat → ClassId) (b : Nat) (E : Nat → va_E) (S : wm_St) (f : Nat → Int64) (x : Int32) (y : Int32) (z : Int32) (w : Int32) (v0 : Bool) (hC : wm_CI C b S E) (hB : wm_BD S) (hE0 : E 146 = wm_JR C 1 f) : Met l yL_arc (wm_wsW yL_arc cL_arc 8 (some .int) [(0, 23, 26, 19), (0, 23, 30, 13)]) { frames := 16, cells := 1, slots := 6, locals := 400 } (va_Pc [.ref (b + 0), .int x, .int y, .int z, .int w, .int (nI v0.toNat), .ref (b + 146)] (wm_GN D C b 147 E)) (va_Qi (q_arc C b E S x y z w v0) (fun E' t => wm_P D b 147 E' t.heap) (wm_A b)) 1 6 (wm_A b) := by
  by_cases hcx : 0 ≤ x ∧ x < nI 8
  · obtain ⟨k, hkk, rfl⟩ := wm_lt_n (by decide) hcx
    by_cases hcy : 0 ≤ y ∧ y < nI (S.1 k).1
    · obtain ⟨sv, hsv, rfl⟩ := wm_lt_n (by have := (hB.2.2.1 k hkk).2.1; omega) hcy
      by_cases hcw : 0 ≤ w ∧ w < nI (S.1 k).1
      · obtain ⟨sw, hsw, rfl⟩ := wm_lt_n (by have := (hB.2.2.1 k hkk).2.1; omega) hcw
        by_cases hcz : 0 ≤ z ∧ z < nI 8
        · obtain ⟨lr, hlr, rfl⟩ := wm_lt_n (by decide) hcz
          exact wm_hwd (jarcG l hst D C b E S f k sv lr sw v0 hC hB hE0 hkk hsv hsw hlr) ⟨Nat.le_of_ble_eq_true rfl, Nat.le_of_ble_eq_true rfl⟩
        · exact wm_hwd (jarcA l hst D C b E S f k sv sw z v0 hC hB hE0 hkk hsv hsw hcz) ⟨Nat.le_of_ble_eq_true rfl, Nat.le_of_ble_eq_true rfl⟩
      · exact wm_hwd (jarcT l hst D C b E S f k sv z w v0 hC hB hE0 hkk hsv hcw) ⟨Nat.le_of_ble_eq_true rfl, Nat.le_of_ble_eq_true rfl⟩
    · exact wm_hwd (jarcS l hst D C b E S f k y z w v0 hC hB hE0 hkk hcy) ⟨Nat.le_of_ble_eq_true rfl, Nat.le_of_ble_eq_true rfl⟩
  · exact wm_hwd (jarcX l hst D C b E S f x y z w v0 hC hB hE0 hcx) ⟨Nat.le_of_ble_eq_true rfl, Nat.le_of_ble_eq_true rfl⟩
theorem h_turn (l : Launch) (hst : l.stackTraces = false) (D : va_G) (C : Nat → ClassId) (b : Nat) (E : Nat → va_E) (S : wm_St) (f : Nat → Int64) (x : Int32) (y : Int32) (hC : wm_CI C b S E) (hB : wm_BD S) (hE0 : E 146 = wm_JR C 1 f) : Met l yL_turn (wm_wsW yL_turn cL_turn 4 (some .int) [(0, 6, 9, 19)]) { frames := 16, cells := 1, slots := 6, locals := 400 } (va_Pc [.ref (b + 0), .int x, .int y] (wm_GN D C b 147 E)) (va_Qi (q_turn C b E S x y) (fun E' t => wm_P D b 147 E' t.heap) (wm_A b)) 1 6 (wm_A b) := by
  by_cases hcx : 0 ≤ x ∧ x < nI 8
  · obtain ⟨k, hkk, rfl⟩ := wm_lt_n (by decide) hcx
    by_cases hcy : 0 ≤ y ∧ y < nI 8
    · obtain ⟨i, hii, rfl⟩ := wm_lt_n (by decide) hcy
      exact wm_hwd (jturnG l hst D C b E S f k i hC hB hE0 hkk hii) ⟨Nat.le_of_ble_eq_true rfl, Nat.le_of_ble_eq_true rfl⟩
    · exact wm_hwd (jturnY l hst D C b E S f k y hC hB hE0 hkk hcy) ⟨Nat.le_of_ble_eq_true rfl, Nat.le_of_ble_eq_true rfl⟩
  · exact wm_hwd (jturnX l hst D C b E S f x y hC hB hE0 hcx) ⟨Nat.le_of_ble_eq_true rfl, Nat.le_of_ble_eq_true rfl⟩
theorem h_either (l : Launch) (hst : l.stackTraces = false) (D : va_G) (C : Nat → ClassId) (b : Nat) (E : Nat → va_E) (S : wm_St) (f : Nat → Int64) (x : Int32) (y : Int32) (z : Int32) (hC : wm_CI C b S E) (hB : wm_BD S) (hE0 : E 146 = wm_JR C 1 f) : Met l yL_either (wm_wsW yL_either cL_either 6 (some .int) [(0, 12, 15, 19)]) { frames := 16, cells := 1, slots := 6, locals := 400 } (va_Pc [.ref (b + 0), .int x, .int y, .int z, .ref (b + 146)] (wm_GN D C b 147 E)) (va_Qi (q_either C b E S x y z) (fun E' t => wm_P D b 147 E' t.heap) (wm_A b)) 1 6 (wm_A b) := by
  by_cases hcx : 0 ≤ x ∧ x < nI 8
  · obtain ⟨k, hkk, rfl⟩ := wm_lt_n (by decide) hcx
    by_cases hcy : 0 ≤ y ∧ y < nI 8
    · obtain ⟨i, hii, rfl⟩ := wm_lt_n (by decide) hcy
      by_cases hcz : 0 ≤ z ∧ z < nI 8
      · obtain ⟨jj, hjj, rfl⟩ := wm_lt_n (by decide) hcz
        exact wm_hwd (jeitherG l hst D C b E S f k i jj hC hB hE0 hkk hii hjj) ⟨Nat.le_of_ble_eq_true rfl, Nat.le_of_ble_eq_true rfl⟩
      · exact wm_hwd (jeitherZ l hst D C b E S f k i z hC hB hE0 hkk hii hcz) ⟨Nat.le_of_ble_eq_true rfl, Nat.le_of_ble_eq_true rfl⟩
    · exact wm_hwd (jeitherY l hst D C b E S f k y z hC hB hE0 hkk hcy) ⟨Nat.le_of_ble_eq_true rfl, Nat.le_of_ble_eq_true rfl⟩
  · exact wm_hwd (jeitherX l hst D C b E S f x y z hC hB hE0 hcx) ⟨Nat.le_of_ble_eq_true rfl, Nat.le_of_ble_eq_true rfl⟩
theorem h_both (l : Launch) (hst : l.stackTraces = false) (D : va_G) (C : Nat → ClassId) (b : Nat) (E : Nat → va_E) (S : wm_St) (f : Nat → Int64) (x : Int32) (y : Int32) (z : Int32) (hC : wm_CI C b S E) (hB : wm_BD S) (hE0 : E 146 = wm_JR C 1 f) : Met l yL_both (wm_wsW yL_both cL_both 6 (some .int) [(0, 12, 15, 19)]) { frames := 16, cells := 1, slots := 6, locals := 400 } (va_Pc [.ref (b + 0), .int x, .int y, .int z, .ref (b + 146)] (wm_GN D C b 147 E)) (va_Qi (q_both C b E S x y z) (fun E' t => wm_P D b 147 E' t.heap) (wm_A b)) 1 6 (wm_A b) := by
  by_cases hcx : 0 ≤ x ∧ x < nI 8
  · obtain ⟨k, hkk, rfl⟩ := wm_lt_n (by decide) hcx
    by_cases hcy : 0 ≤ y ∧ y < nI 8
    · obtain ⟨i, hii, rfl⟩ := wm_lt_n (by decide) hcy
      by_cases hcz : 0 ≤ z ∧ z < nI 8
      · obtain ⟨jj, hjj, rfl⟩ := wm_lt_n (by decide) hcz
        exact wm_hwd (jbothG l hst D C b E S f k i jj hC hB hE0 hkk hii hjj) ⟨Nat.le_of_ble_eq_true rfl, Nat.le_of_ble_eq_true rfl⟩
      · exact wm_hwd (jbothZ l hst D C b E S f k i z hC hB hE0 hkk hii hcz) ⟨Nat.le_of_ble_eq_true rfl, Nat.le_of_ble_eq_true rfl⟩
    · exact wm_hwd (jbothY l hst D C b E S f k y z hC hB hE0 hkk hcy) ⟨Nat.le_of_ble_eq_true rfl, Nat.le_of_ble_eq_true rfl⟩
  · exact wm_hwd (jbothX l hst D C b E S f x y z hC hB hE0 hcx) ⟨Nat.le_of_ble_eq_true rfl, Nat.le_of_ble_eq_true rfl⟩
theorem h_within (l : Launch) (hst : l.stackTraces = false) (D : va_G) (C : Nat → ClassId) (b : Nat) (E : Nat → va_E) (S : wm_St) (f : Nat → Int64) (x : Int32) (y : Int32) (hC : wm_CI C b S E) (hB : wm_BD S) (hE0 : E 146 = wm_JR C 1 f) : Met l yL_within (wm_wsW yL_within cL_within 5 (some .int) [(0, 17, 20, 19), (0, 17, 24, 13)]) { frames := 16, cells := 1, slots := 6, locals := 400 } (va_Pc [.ref (b + 0), .int x, .int y, .ref (b + 146)] (wm_GN D C b 147 E)) (va_Qi (q_within C b E S x y) (fun E' t => wm_P D b 147 E' t.heap) (wm_A b)) 1 6 (wm_A b) := by
  by_cases hcx : 0 ≤ x ∧ x < nI 8
  · obtain ⟨k, hkk, rfl⟩ := wm_lt_n (by decide) hcx
    by_cases hcy : 0 ≤ y ∧ y < nI 8
    · obtain ⟨i, hii, rfl⟩ := wm_lt_n (by decide) hcy
      by_cases hc11 : (S.1 i).1 ≤ 11
      · skip
        exact wm_hwd (jwithinG l hst D C b E S f k i hC hB hE0 hkk hii hc11) ⟨Nat.le_of_ble_eq_true rfl, Nat.le_of_ble_eq_true rfl⟩
      · exact wm_hwd (jwithinA l hst D C b E S f k i hC hB hE0 hkk hii (by omega)) ⟨Nat.le_of_ble_eq_true rfl, Nat.le_of_ble_eq_true rfl⟩
    · exact wm_hwd (jwithinY l hst D C b E S f k y hC hB hE0 hkk hcy) ⟨Nat.le_of_ble_eq_true rfl, Nat.le_of_ble_eq_true rfl⟩
  · exact wm_hwd (jwithinX l hst D C b E S f x y hC hB hE0 hcx) ⟨Nat.le_of_ble_eq_true rfl, Nat.le_of_ble_eq_true rfl⟩
theorem h_letter (l : Launch) (hst : l.stackTraces = false) (D : va_G) (C : Nat → ClassId) (b : Nat) (E : Nat → va_E) (S : wm_St) (f : Nat → Int64) (x : Int32) (hC : wm_CI C b S E) (hB : wm_BD S) (hE0 : E 146 = wm_JR C 1 f) : Met l yL_letter (wm_wsW yL_letter cL_letter 4 (some .int) [(0, 9, 12, 19)]) { frames := 16, cells := 1, slots := 6, locals := 400 } (va_Pc [.ref (b + 0), .int x, .ref (b + 146)] (wm_GN D C b 147 E)) (va_Qi (q_letter C b E S x) (fun E' t => wm_P D b 147 E' t.heap) (wm_A b)) 1 6 (wm_A b) := by
  by_cases hcx : 0 ≤ x ∧ x < nI S.2.2.2.1.1
  · have hs : S.2.2.2.1.1 ≠ 4294967295 := fun q => by rw [q] at hcx; exact wm_neg1 hcx
    obtain ⟨t1, ht, rfl⟩ := wm_lt_n (by have := hB.2.2.2; omega) hcx
    exact wm_hwd (jletterG l hst D C b E S f t1 hC hB hE0 ht hs) ⟨Nat.le_of_ble_eq_true rfl, Nat.le_of_ble_eq_true rfl⟩
  · exact wm_hwd (jletterX l hst D C b E S f x hC hB hE0 hcx) ⟨Nat.le_of_ble_eq_true rfl, Nat.le_of_ble_eq_true rfl⟩
theorem h_words (l : Launch) (hst : l.stackTraces = false) (D : va_G) (C : Nat → ClassId) (b : Nat) (E : Nat → va_E) (S : wm_St) (f : Nat → Int64) (x : Int32) (y : Int32) (hC : wm_CI C b S E) (hB : wm_BD S) (hE0 : E 146 = wm_JR C 1 f) : Met l yL_words (wm_wsW yL_words cL_words 5 (some .int) [(0, 9, 12, 19), (0, 9, 16, 13)]) { frames := 16, cells := 1, slots := 6, locals := 400 } (va_Pc [.ref (b + 0), .int x, .int y, .ref (b + 146)] (wm_GN D C b 147 E)) (va_Qi (q_words C b E S x y) (fun E' t => wm_P D b 147 E' t.heap) (wm_A b)) 1 6 (wm_A b) := by
  by_cases hcx : 0 ≤ x ∧ x < nI 8
  · obtain ⟨k, hkk, rfl⟩ := wm_lt_n (by decide) hcx
    by_cases hc11 : (S.1 k).1 ≤ 11
    · skip
      by_cases hcy : 0 ≤ y ∧ y ≤ nI 20
      · obtain ⟨len, hlen, rfl⟩ := wm_le_n (by decide) hcy
        exact wm_hwd (jwordsG l hst D C b E S f k len hC hB hE0 hkk hc11 hlen) ⟨Nat.le_of_ble_eq_true rfl, Nat.le_of_ble_eq_true rfl⟩
      · exact wm_hwd (jwordsB l hst D C b E S f k y hC hB hE0 hkk hc11 hcy) ⟨Nat.le_of_ble_eq_true rfl, Nat.le_of_ble_eq_true rfl⟩
    · exact wm_hwd (jwordsA l hst D C b E S f k y hC hB hE0 hkk (by omega)) ⟨Nat.le_of_ble_eq_true rfl, Nat.le_of_ble_eq_true rfl⟩
  · exact wm_hwd (jwordsX l hst D C b E S f x y hC hB hE0 hcx) ⟨Nat.le_of_ble_eq_true rfl, Nat.le_of_ble_eq_true rfl⟩
theorem h_sets (l : Launch) (hst : l.stackTraces = false) (D : va_G) (C : Nat → ClassId) (b : Nat) (E : Nat → va_E) (S : wm_St) (f : Nat → Int64) (x : Int32) (hC : wm_CI C b S E) (hB : wm_BD S) (hE0 : E 146 = wm_JR C 1 f) : Met l yL_sets (wm_wsW yL_sets cL_sets 4 (some .int) [(0, 9, 12, 19), (0, 9, 15, 13)]) { frames := 16, cells := 1, slots := 6, locals := 400 } (va_Pc [.ref (b + 0), .int x, .ref (b + 146)] (wm_GN D C b 147 E)) (va_Qi (q_sets C b E S x) (fun E' t => wm_P D b 147 E' t.heap) (wm_A b)) 1 6 (wm_A b) := by
  by_cases hcx : 0 ≤ x ∧ x < nI 8
  · obtain ⟨k, hkk, rfl⟩ := wm_lt_n (by decide) hcx
    by_cases hc11 : (S.1 k).1 ≤ 11
    · skip
      exact wm_hwd (jsetsG l hst D C b E S f k hC hB hE0 hkk hc11) ⟨Nat.le_of_ble_eq_true rfl, Nat.le_of_ble_eq_true rfl⟩
    · exact wm_hwd (jsetsA l hst D C b E S f k hC hB hE0 hkk (by omega)) ⟨Nat.le_of_ble_eq_true rfl, Nat.le_of_ble_eq_true rfl⟩
  · exact wm_hwd (jsetsX l hst D C b E S f x hC hB hE0 hcx) ⟨Nat.le_of_ble_eq_true rfl, Nat.le_of_ble_eq_true rfl⟩
theorem h_rests (l : Launch) (hst : l.stackTraces = false) (D : va_G) (C : Nat → ClassId) (b : Nat) (E : Nat → va_E) (S : wm_St) (f : Nat → Int64) (x : Int32) (hC : wm_CI C b S E) (hB : wm_BD S) (hE0 : E 146 = wm_JR C 1 f) : Met l yL_rests (wm_wsW yL_rests cL_rests 4 (some .int) [(0, 9, 12, 19), (0, 9, 15, 13)]) { frames := 16, cells := 1, slots := 6, locals := 400 } (va_Pc [.ref (b + 0), .int x, .ref (b + 146)] (wm_GN D C b 147 E)) (va_Qi (q_rests C b E S x) (fun E' t => wm_P D b 147 E' t.heap) (wm_A b)) 1 6 (wm_A b) := by
  by_cases hcx : 0 ≤ x ∧ x < nI 8
  · obtain ⟨k, hkk, rfl⟩ := wm_lt_n (by decide) hcx
    by_cases hc11 : (S.1 k).1 ≤ 11
    · skip
      exact wm_hwd (jrestsG l hst D C b E S f k hC hB hE0 hkk hc11) ⟨Nat.le_of_ble_eq_true rfl, Nat.le_of_ble_eq_true rfl⟩
    · exact wm_hwd (jrestsA l hst D C b E S f k hC hB hE0 hkk (by omega)) ⟨Nat.le_of_ble_eq_true rfl, Nat.le_of_ble_eq_true rfl⟩
  · exact wm_hwd (jrestsX l hst D C b E S f x hC hB hE0 hcx) ⟨Nat.le_of_ble_eq_true rfl, Nat.le_of_ble_eq_true rfl⟩
