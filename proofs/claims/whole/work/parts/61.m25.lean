theorem wm_upl (v : Nat → Nat) (i : Nat) : va_up (fun j => if j < i then some (v j) else none) i (some (v i)) = fun j => if j < i + 1 then some (v j) else none := by
  funext j
  by_cases h : j = i
  · subst h; rw [va_up_self, if_pos (Nat.lt_succ_self _)]
  · rw [va_up_ne _ _ h]
    by_cases h2 : j < i
    · rw [if_pos h2, if_pos (by omega)]
    · rw [if_neg h2, if_neg (by omega)]
theorem wm_upl1 (i : Nat) : va_up (fun j => if j < i then 1 else 0) i 1 = fun j => if j < i + 1 then 1 else 0 := by
  funext j
  by_cases h : j = i
  · subst h; rw [va_up_self, if_pos (Nat.lt_succ_self _)]
  · rw [va_up_ne _ _ h]
    by_cases h2 : j < i
    · rw [if_pos h2, if_pos (by omega)]
    · rw [if_neg h2, if_neg (by omega)]
theorem wm_lvl {b i : Nat} {E : Nat → va_E} (h : ∀ k, k < i → E (9 + 4 * k) = wm_le b k false ∧ E (10 + 4 * k) = wm_pe (false, 0, 0) ∧ E (11 + 4 * k) = wm_pe (false, 0, 0) ∧ E (12 + 4 * k) = wm_pe (false, 0, 0)) (h0 : E (9 + 4 * i) = .inr (1, [.ref (b + (9 + 4 * i + 1)), .ref (b + (9 + 4 * i + 2)), .ref (b + (9 + 4 * i + 3)), .int (nI false.toNat)])) (h1 : E (9 + 4 * i + 1) = wm_pe (false, 0, 0)) (h2 : E (9 + 4 * i + 2) = wm_pe (false, 0, 0)) (h3 : E (9 + 4 * i + 3) = wm_pe (false, 0, 0)) : ∀ k, k < i + 1 → E (9 + 4 * k) = wm_le b k false ∧ E (10 + 4 * k) = wm_pe (false, 0, 0) ∧ E (11 + 4 * k) = wm_pe (false, 0, 0) ∧ E (12 + 4 * k) = wm_pe (false, 0, 0) := by
  intro k hk
  by_cases e : k = i
  · subst e
    rw [show 9 + 4 * k + 1 = 10 + 4 * k by omega, show 9 + 4 * k + 2 = 11 + 4 * k by omega, show 9 + 4 * k + 3 = 12 + 4 * k by omega] at h0
    rw [show 9 + 4 * k + 1 = 10 + 4 * k by omega] at h1
    rw [show 9 + 4 * k + 2 = 11 + 4 * k by omega] at h2
    rw [show 9 + 4 * k + 3 = 12 + 4 * k by omega] at h3
    exact ⟨h0, h1, h2, h3⟩
  · exact h k (by omega)
theorem wm_mcs {C : Nat → ClassId} {b i : Nat} {E : Nat → va_E} (h : ∀ k, k < i → E (103 + 2 * k) = .inr (2, [.ref (b + (104 + 2 * k)), .int (nI 1), .int (nI 0), .int (nI 0)]) ∧ E (104 + 2 * k) = wm_I C 192 (fun _ => 0)) (h0 : E (103 + 2 * i) = .inr (2, [.ref (b + (103 + 2 * i + 1)), .int (nI 1), .int (nI 0), .int (nI 0)])) (h1 : E (103 + 2 * i + 1) = wm_I C 192 (fun _ => 0)) : ∀ k, k < i + 1 → E (103 + 2 * k) = .inr (2, [.ref (b + (104 + 2 * k)), .int (nI 1), .int (nI 0), .int (nI 0)]) ∧ E (104 + 2 * k) = wm_I C 192 (fun _ => 0) := by
  intro k hk
  by_cases e : k = i
  · subst e
    rw [show 103 + 2 * k + 1 = 104 + 2 * k by omega] at h0 h1
    exact ⟨h0, h1⟩
  · exact h k (by omega)
def pX3_init (C : Nat → ClassId) (b : Nat) (E : Nat → va_E) (t : Nat) : (Nat → va_E) → Prop := fun E' => E' t = .inr (3, [.int (nI false.toNat), .int (nI 0), .int (nI 0)]) ∧ (∀ j, j < t → E' j = E j)
set_option maxHeartbeats 4000000 in
set_option maxRecDepth 100000 in
theorem kX3_init (l : Launch) (D : va_G) (C : Nat → ClassId) (b : Nat) (E : Nat → va_E) (t : Nat) (hE0 : E t = .inr (3, [.int (nI false.toNat), .int (nI 0), .int (nI 0)])) : Met l yX3_init (wm_ws yX3_init cX3_init 1 none) { frames := 1, cells := 0, slots := 0, locals := 12 } (va_Pc [.ref (b + t)] (wm_GC D C b (t + 1) E)) (va_Qv (pX3_init C b E t) (fun E' u9 => wm_P D b (t + 1) E' u9.heap) (wm_A b)) 0 0 (wm_A b) := by
  refine wm_ofWC (by decide) (Nat.le_of_ble_eq_true rfl) (fun p e s m below meth c ls R args Q hRe hQ X hr hnm hP hS hl hz0 hA => ?_)
  have hl : lv_has ls 1 [(0, .ref (b + t))] := hl
  have hfr : ∀ j, j < t → E j = E j := fun _ _ => rfl
  refine lv_aload_n X.1 X.2.1 dX3_init_0 rfl (lv_at hl 0 rfl) ?_
  refine wm_oinit X wq1_83 wq1_32 wq1_33 hl.1 dX3_init_1 (by rw [hRe]; exact Nat.le_of_ble_eq_true rfl) (by rw [hRe]; exact Nat.le_of_ble_eq_true rfl) ?_
  have hP := wm_Pcg (n' := t + 1) hP (by omega)
  refine wm_Wcg (a := 0) (d := 0) (by omega) (by omega) ?_
  exact wm_vret (post := pX3_init C b E t) X hr hP hS ⟨hE0, hfr⟩ hQ dX3_init_4
def pX1_init (C : Nat → ClassId) (b : Nat) (E : Nat → va_E) (t : Nat) : (Nat → va_E) → Prop := fun E' => E' t = .inr (1, [.ref (b + (t + 1)), .ref (b + (t + 2)), .ref (b + (t + 3)), .int (nI false.toNat)]) ∧ E' (t + 1) = .inr (3, [.int (nI false.toNat), .int (nI 0), .int (nI 0)]) ∧ E' (t + 2) = .inr (3, [.int (nI false.toNat), .int (nI 0), .int (nI 0)]) ∧ E' (t + 3) = .inr (3, [.int (nI false.toNat), .int (nI 0), .int (nI 0)]) ∧ (∀ j, j < t → E' j = E j)
set_option maxHeartbeats 4000000 in
set_option maxRecDepth 100000 in
theorem kX1_init (l : Launch) (D : va_G) (C : Nat → ClassId) (b : Nat) (E : Nat → va_E) (t : Nat) (hE0 : E t = .inr (1, [.null, .null, .null, .int (nI false.toNat)])) : Met l yX1_init (wm_ws yX1_init cX1_init 1 none) { frames := 2, cells := 3, slots := 9, locals := 32 } (va_Pc [.ref (b + t)] (wm_GC D C b (t + 1) E)) (va_Qv (pX1_init C b E t) (fun E' u9 => wm_P D b (t + 4) E' u9.heap) (wm_A b)) 3 9 (wm_A b) := by
  refine wm_ofWC (by decide) (Nat.le_of_ble_eq_true rfl) (fun p e s m below meth c ls R args Q hRe hQ X hr hnm hP hS hl hz0 hA => ?_)
  have hl : lv_has ls 1 [(0, .ref (b + t))] := hl
  have hfr : ∀ j, j < t → E j = E j := fun _ _ => rfl
  refine lv_aload_n X.1 X.2.1 dX1_init_0 rfl (lv_at hl 0 rfl) ?_
  refine wm_oinit X wq1_77 wq1_32 wq1_33 hl.1 dX1_init_1 (by rw [hRe]; exact Nat.le_of_ble_eq_true rfl) (by rw [hRe]; exact Nat.le_of_ble_eq_true rfl) ?_
  refine lv_aload_n X.1 X.2.1 dX1_init_4 rfl (lv_at hl 0 rfl) ?_
  refine wm_newo (n := t + 1) X hP hS (by omega) (ci := 3) rfl wm_inX3 tyX3 tyX3_ok wq1_78 wq1_79 wq1_5 (fs := [.int (nI false.toNat), .int (nI 0), .int (nI 0)]) (by decide) (by rw [hRe]; dsimp only; omega) (by rw [hRe]; dsimp only; omega) dX1_init_5 (fun H E1 hP hS hN1 hq => ?_)
  have hE0 := (hq t (by omega)).trans hE0
  have hfr : ∀ j, j < t → E1 j = E j := fun j h0 => (hq j (by omega)).trans (hfr j h0)
  have hP := wm_Pcg (n' := t + 2) hP (by omega)
  refine wm_Wcg (a := 1) (d := 3) (by omega) (by omega) ?_
  refine lv_dup X.1 X.2.1 dX1_init_8 rfl ?_
  refine wm_initN (n := (t + 1) + 1) (n1 := (t + 1) + 1) (t := (t + 1)) (rest := [.ref (b + (t + 1)), .ref (b + t)]) X hA hP hS (by omega) (kX3_init l D C b E1 (t + 1) hN1) (host := "WordMachines") (by decide) wq1_81 wq1_5 wq1_82 rfl (by decide) (by rw [hRe]; exact ⟨Nat.le_of_ble_eq_true rfl, Nat.le_of_ble_eq_true rfl⟩) hl.1 (Nat.le_of_ble_eq_true rfl) (by rw [hRe]; dsimp only; omega) (by rw [hRe]; dsimp only; omega) dX1_init_9 (fun E2 H locs hw hP hS => ?_)
  obtain ⟨hN1, hq⟩ := hw
  have hE0 := (hq t (by omega)).trans hE0
  have hN1 : E2 (t + 1) = .inr (3, [.int (nI false.toNat), .int (nI 0), .int (nI 0)]) := hN1
  have hfr : ∀ j, j < t → E2 j = E j := fun j h0 => (hq j (by omega)).trans (hfr j h0)
  have hP := wm_Pcg (n' := t + 2) hP (by omega)
  refine wm_Wcg (a := 1) (d := 3) (by omega) (by omega) ?_
  refine wm_putF (v := .ref (b + (t + 1))) X hnm hP hS (by omega) hE0 rfl wm_inX1 tyX1 tyX1_ok nmX1 0 (by decide) wq1_98 rfl rfl rfl rfl (fs1 := [.ref (b + (t + 1)), .null, .null, .int (nI false.toNat)]) rfl (Nat.le_of_ble_eq_true rfl) dX1_init_12 (fun H locs E3 hP hS hE0 hq => ?_)
  have hN1 := (hq (t + 1) (by omega)).trans hN1
  have hfr : ∀ j, j < t → E3 j = E j := fun j h0 => (hq j (by omega)).trans (hfr j h0)
  refine lv_aload_n X.1 X.2.1 dX1_init_15 rfl (lv_at hl 0 rfl) ?_
  refine wm_newo (n := t + 2) X hP hS (by omega) (ci := 3) rfl wm_inX3 tyX3 tyX3_ok wq1_78 wq1_79 wq1_5 (fs := [.int (nI false.toNat), .int (nI 0), .int (nI 0)]) (by decide) (by rw [hRe]; dsimp only; omega) (by rw [hRe]; dsimp only; omega) dX1_init_16 (fun H E4 hP hS hN4 hq => ?_)
  have hE0 := (hq t (by omega)).trans hE0
  have hN1 := (hq (t + 1) (by omega)).trans hN1
  have hfr : ∀ j, j < t → E4 j = E j := fun j h0 => (hq j (by omega)).trans (hfr j h0)
  have hP := wm_Pcg (n' := t + 3) hP (by omega)
  refine wm_Wcg (a := 2) (d := 6) (by omega) (by omega) ?_
  refine lv_dup X.1 X.2.1 dX1_init_19 rfl ?_
  refine wm_initN (n := (t + 2) + 1) (n1 := (t + 2) + 1) (t := (t + 2)) (rest := [.ref (b + (t + 2)), .ref (b + t)]) X hA hP hS (by omega) (kX3_init l D C b E4 (t + 2) hN4) (host := "WordMachines") (by decide) wq1_81 wq1_5 wq1_82 rfl (by decide) (by rw [hRe]; exact ⟨Nat.le_of_ble_eq_true rfl, Nat.le_of_ble_eq_true rfl⟩) hl.1 (Nat.le_of_ble_eq_true rfl) (by rw [hRe]; dsimp only; omega) (by rw [hRe]; dsimp only; omega) dX1_init_20 (fun E5 H locs hw hP hS => ?_)
  obtain ⟨hN4, hq⟩ := hw
  have hE0 := (hq t (by omega)).trans hE0
  have hN1 := (hq (t + 1) (by omega)).trans hN1
  have hN4 : E5 (t + 2) = .inr (3, [.int (nI false.toNat), .int (nI 0), .int (nI 0)]) := hN4
  have hfr : ∀ j, j < t → E5 j = E j := fun j h0 => (hq j (by omega)).trans (hfr j h0)
  have hP := wm_Pcg (n' := t + 3) hP (by omega)
  refine wm_Wcg (a := 2) (d := 6) (by omega) (by omega) ?_
  refine wm_putF (v := .ref (b + (t + 2))) X hnm hP hS (by omega) hE0 rfl wm_inX1 tyX1 tyX1_ok nmX1 1 (by decide) wq1_100 rfl rfl rfl rfl (fs1 := [.ref (b + (t + 1)), .ref (b + (t + 2)), .null, .int (nI false.toNat)]) rfl (Nat.le_of_ble_eq_true rfl) dX1_init_23 (fun H locs E6 hP hS hE0 hq => ?_)
  have hN1 := (hq (t + 1) (by omega)).trans hN1
  have hN4 := (hq (t + 2) (by omega)).trans hN4
  have hfr : ∀ j, j < t → E6 j = E j := fun j h0 => (hq j (by omega)).trans (hfr j h0)
  refine lv_aload_n X.1 X.2.1 dX1_init_26 rfl (lv_at hl 0 rfl) ?_
  refine wm_newo (n := t + 3) X hP hS (by omega) (ci := 3) rfl wm_inX3 tyX3 tyX3_ok wq1_78 wq1_79 wq1_5 (fs := [.int (nI false.toNat), .int (nI 0), .int (nI 0)]) (by decide) (by rw [hRe]; dsimp only; omega) (by rw [hRe]; dsimp only; omega) dX1_init_27 (fun H E7 hP hS hN7 hq => ?_)
  have hE0 := (hq t (by omega)).trans hE0
  have hN1 := (hq (t + 1) (by omega)).trans hN1
  have hN4 := (hq (t + 2) (by omega)).trans hN4
  have hfr : ∀ j, j < t → E7 j = E j := fun j h0 => (hq j (by omega)).trans (hfr j h0)
  have hP := wm_Pcg (n' := t + 4) hP (by omega)
  refine wm_Wcg (a := 3) (d := 9) (by omega) (by omega) ?_
  refine lv_dup X.1 X.2.1 dX1_init_30 rfl ?_
  refine wm_initN (n := (t + 3) + 1) (n1 := (t + 3) + 1) (t := (t + 3)) (rest := [.ref (b + (t + 3)), .ref (b + t)]) X hA hP hS (by omega) (kX3_init l D C b E7 (t + 3) hN7) (host := "WordMachines") (by decide) wq1_81 wq1_5 wq1_82 rfl (by decide) (by rw [hRe]; exact ⟨Nat.le_of_ble_eq_true rfl, Nat.le_of_ble_eq_true rfl⟩) hl.1 (Nat.le_of_ble_eq_true rfl) (by rw [hRe]; dsimp only; omega) (by rw [hRe]; dsimp only; omega) dX1_init_31 (fun E8 H locs hw hP hS => ?_)
  obtain ⟨hN7, hq⟩ := hw
  have hE0 := (hq t (by omega)).trans hE0
  have hN1 := (hq (t + 1) (by omega)).trans hN1
  have hN4 := (hq (t + 2) (by omega)).trans hN4
  have hN7 : E8 (t + 3) = .inr (3, [.int (nI false.toNat), .int (nI 0), .int (nI 0)]) := hN7
  have hfr : ∀ j, j < t → E8 j = E j := fun j h0 => (hq j (by omega)).trans (hfr j h0)
  have hP := wm_Pcg (n' := t + 4) hP (by omega)
  refine wm_Wcg (a := 3) (d := 9) (by omega) (by omega) ?_
  refine wm_putF (v := .ref (b + (t + 3))) X hnm hP hS (by omega) hE0 rfl wm_inX1 tyX1 tyX1_ok nmX1 2 (by decide) wq1_102 rfl rfl rfl rfl (fs1 := [.ref (b + (t + 1)), .ref (b + (t + 2)), .ref (b + (t + 3)), .int (nI false.toNat)]) rfl (Nat.le_of_ble_eq_true rfl) dX1_init_34 (fun H locs E9 hP hS hE0 hq => ?_)
  have hN1 := (hq (t + 1) (by omega)).trans hN1
  have hN4 := (hq (t + 2) (by omega)).trans hN4
  have hN7 := (hq (t + 3) (by omega)).trans hN7
  have hfr : ∀ j, j < t → E9 j = E j := fun j h0 => (hq j (by omega)).trans (hfr j h0)
  have hP := wm_Pcg (n' := t + 4) hP (by omega)
  refine wm_Wcg (a := 3) (d := 9) (by omega) (by omega) ?_
  exact wm_vret (post := pX1_init C b E t) X hr hP hS ⟨hE0, hN1, hN4, hN7, hfr⟩ hQ dX1_init_37
def pX2_init (C : Nat → ClassId) (b : Nat) (E : Nat → va_E) (t : Nat) : (Nat → va_E) → Prop := fun E' => E' t = .inr (2, [.ref (b + (t + 1)), .int (nI 1), .int (nI 0), .int (nI 0)]) ∧ E' (t + 1) = wm_I C 192 (fun _ => 0) ∧ (∀ j, j < t → E' j = E j)
set_option maxHeartbeats 4000000 in
set_option maxRecDepth 100000 in
theorem kX2_init (l : Launch) (D : va_G) (C : Nat → ClassId) (b : Nat) (E : Nat → va_E) (t : Nat) (hE0 : E t = .inr (2, [.null, .int (nI 0), .int (nI 0), .int (nI 0)])) : Met l yX2_init (wm_ws yX2_init cX2_init 1 none) { frames := 1, cells := 1, slots := 192, locals := 12 } (va_Pc [.ref (b + t)] (wm_GC D C b (t + 1) E)) (va_Qv (pX2_init C b E t) (fun E' u9 => wm_P D b (t + 2) E' u9.heap) (wm_A b)) 1 192 (wm_A b) := by
  refine wm_ofWC (by decide) (Nat.le_of_ble_eq_true rfl) (fun p e s m below meth c ls R args Q hRe hQ X hr hnm hP hS hl hz0 hA => ?_)
  have hl : lv_has ls 1 [(0, .ref (b + t))] := hl
  have hfr : ∀ j, j < t → E j = E j := fun _ _ => rfl
  refine lv_aload_n X.1 X.2.1 dX2_init_0 rfl (lv_at hl 0 rfl) ?_
  refine wm_oinit X wq1_40 wq1_32 wq1_33 hl.1 dX2_init_1 (by rw [hRe]; exact Nat.le_of_ble_eq_true rfl) (by rw [hRe]; exact Nat.le_of_ble_eq_true rfl) ?_
  refine lv_aload_n X.1 X.2.1 dX2_init_4 rfl (lv_at hl 0 rfl) ?_
  refine lv_sipush (v := nI 192) X.1 X.2.1 dX2_init_5 (by decide) ?_
  refine wm_newa (n := t + 1) (N := 192) (k := 0) (atype := .int) (ty := .int) (a0 := wm_aI 192) X hP hS (by omega) rfl rfl (fun h => h) wq1_64 (wm_dI 192) (by decide) (by decide) (by rw [hRe]; dsimp only; omega) (by rw [hRe]; dsimp only; omega) dX2_init_8 (fun H E1 hP hS hN1 hq => ?_)
  have hN1 : E1 (t + 1) = wm_I C 192 (fun _ => 0) := hN1
  have hE0 := (hq t (by omega)).trans hE0
  have hfr : ∀ j, j < t → E1 j = E j := fun j h0 => (hq j (by omega)).trans (hfr j h0)
  have hP := wm_Pcg (n' := t + 2) hP (by omega)
  refine wm_Wcg (a := 1) (d := 192) (by omega) (by omega) ?_
  refine wm_putF (v := .ref (b + (t + 1))) X hnm hP hS (by omega) hE0 rfl wm_inX2 tyX2 tyX2_ok nmX2 0 (by decide) wq1_41 rfl rfl rfl rfl (fs1 := [.ref (b + (t + 1)), .int (nI 0), .int (nI 0), .int (nI 0)]) rfl (Nat.le_of_ble_eq_true rfl) dX2_init_10 (fun H locs E2 hP hS hE0 hq => ?_)
  have hN1 := (hq (t + 1) (by omega)).trans hN1
  have hfr : ∀ j, j < t → E2 j = E j := fun j h0 => (hq j (by omega)).trans (hfr j h0)
  refine lv_aload_n X.1 X.2.1 dX2_init_13 rfl (lv_at hl 0 rfl) ?_
  refine lv_iconst (v := nI 1) X.1 X.2.1 dX2_init_14 (by decide) ?_
  refine wm_put (v := .int (nI 1)) X hP hS (by omega) hE0 rfl wm_inX2 tyX2 tyX2_ok nmX2 1 (by decide) wq1_42 rfl rfl rfl (fs1 := [.ref (b + (t + 1)), .int (nI 1), .int (nI 0), .int (nI 0)]) rfl (Nat.le_of_ble_eq_true rfl) dX2_init_15 (fun H locs E3 hP hS hE0 hq => ?_)
  have hN1 := (hq (t + 1) (by omega)).trans hN1
  have hfr : ∀ j, j < t → E3 j = E j := fun j h0 => (hq j (by omega)).trans (hfr j h0)
  refine lv_aload_n X.1 X.2.1 dX2_init_18 rfl (lv_at hl 0 rfl) ?_
  refine lv_iconst (v := nI 0) X.1 X.2.1 dX2_init_19 (by decide) ?_
  refine wm_put (v := .int (nI 0)) X hP hS (by omega) hE0 rfl wm_inX2 tyX2 tyX2_ok nmX2 2 (by decide) wq1_45 rfl rfl rfl (fs1 := [.ref (b + (t + 1)), .int (nI 1), .int (nI 0), .int (nI 0)]) rfl (Nat.le_of_ble_eq_true rfl) dX2_init_20 (fun H locs E4 hP hS hE0 hq => ?_)
  have hN1 := (hq (t + 1) (by omega)).trans hN1
  have hfr : ∀ j, j < t → E4 j = E j := fun j h0 => (hq j (by omega)).trans (hfr j h0)
  refine lv_aload_n X.1 X.2.1 dX2_init_23 rfl (lv_at hl 0 rfl) ?_
  refine lv_iconst (v := nI 0) X.1 X.2.1 dX2_init_24 (by decide) ?_
  refine wm_put (v := .int (nI 0)) X hP hS (by omega) hE0 rfl wm_inX2 tyX2 tyX2_ok nmX2 3 (by decide) wq1_50 rfl rfl rfl (fs1 := [.ref (b + (t + 1)), .int (nI 1), .int (nI 0), .int (nI 0)]) rfl (Nat.le_of_ble_eq_true rfl) dX2_init_25 (fun H locs E5 hP hS hE0 hq => ?_)
  have hN1 := (hq (t + 1) (by omega)).trans hN1
  have hfr : ∀ j, j < t → E5 j = E j := fun j h0 => (hq j (by omega)).trans (hfr j h0)
  have hP := wm_Pcg (n' := t + 2) hP (by omega)
  refine wm_Wcg (a := 1) (d := 192) (by omega) (by omega) ?_
  exact wm_vret (post := pX2_init C b E t) X hr hP hS ⟨hE0, hN1, hfr⟩ hQ dX2_init_28
def pX4_init (C : Nat → ClassId) (b : Nat) (E : Nat → va_E) (t : Nat) : (Nat → va_E) → Prop := fun E' => E' t = .inr (4, [.ref (b + (t + 1)), .ref (b + (t + 2)), .ref (b + (t + 3)), .ref (b + (t + 4)), .ref (b + (t + 5)), .ref (b + (t + 6)), .int (nI 0), .int (nI 0)]) ∧ E' (t + 1) = wm_I C 16384 (fun _ => 0) ∧ E' (t + 2) = wm_Z C 2048 (fun _ => false) ∧ E' (t + 3) = wm_I C 2048 (fun _ => 0) ∧ E' (t + 4) = wm_I C 2048 (fun _ => 0) ∧ E' (t + 5) = wm_J C 2048 (fun _ => 0) ∧ E' (t + 6) = wm_J C 2048 (fun _ => 0) ∧ (∀ j, j < t → E' j = E j)
set_option maxHeartbeats 4000000 in
set_option maxRecDepth 100000 in
theorem kX4_init (l : Launch) (D : va_G) (C : Nat → ClassId) (b : Nat) (E : Nat → va_E) (t : Nat) (hE0 : E t = .inr (4, [.null, .null, .null, .null, .null, .null, .int (nI 0), .int (nI 0)])) : Met l yX4_init (wm_ws yX4_init cX4_init 1 none) { frames := 1, cells := 6, slots := 26624, locals := 12 } (va_Pc [.ref (b + t)] (wm_GC D C b (t + 1) E)) (va_Qv (pX4_init C b E t) (fun E' u9 => wm_P D b (t + 7) E' u9.heap) (wm_A b)) 6 26624 (wm_A b) := by
  refine wm_ofWC (by decide) (Nat.le_of_ble_eq_true rfl) (fun p e s m below meth c ls R args Q hRe hQ X hr hnm hP hS hl hz0 hA => ?_)
  have hl : lv_has ls 1 [(0, .ref (b + t))] := hl
  have hfr : ∀ j, j < t → E j = E j := fun _ _ => rfl
  refine lv_aload_n X.1 X.2.1 dX4_init_0 rfl (lv_at hl 0 rfl) ?_
  refine wm_oinit X wq1_153 wq1_32 wq1_33 hl.1 dX4_init_1 (by rw [hRe]; exact Nat.le_of_ble_eq_true rfl) (by rw [hRe]; exact Nat.le_of_ble_eq_true rfl) ?_
  refine lv_aload_n X.1 X.2.1 dX4_init_4 rfl (lv_at hl 0 rfl) ?_
  refine lv_sipush (v := nI 16384) X.1 X.2.1 dX4_init_5 (by decide) ?_
  refine wm_newa (n := t + 1) (N := 16384) (k := 0) (atype := .int) (ty := .int) (a0 := wm_aI 16384) X hP hS (by omega) rfl rfl (fun h => h) wq1_64 (wm_dI 16384) (by decide) (by decide) (by rw [hRe]; dsimp only; omega) (by rw [hRe]; dsimp only; omega) dX4_init_8 (fun H E1 hP hS hN1 hq => ?_)
  have hN1 : E1 (t + 1) = wm_I C 16384 (fun _ => 0) := hN1
  have hE0 := (hq t (by omega)).trans hE0
  have hfr : ∀ j, j < t → E1 j = E j := fun j h0 => (hq j (by omega)).trans (hfr j h0)
  have hP := wm_Pcg (n' := t + 2) hP (by omega)
  refine wm_Wcg (a := 1) (d := 16384) (by omega) (by omega) ?_
  refine wm_putF (v := .ref (b + (t + 1))) X hnm hP hS (by omega) hE0 rfl wm_inX4 tyX4 tyX4_ok nmX4 0 (by decide) wq1_154 rfl rfl rfl rfl (fs1 := [.ref (b + (t + 1)), .null, .null, .null, .null, .null, .int (nI 0), .int (nI 0)]) rfl (Nat.le_of_ble_eq_true rfl) dX4_init_10 (fun H locs E2 hP hS hE0 hq => ?_)
  have hN1 := (hq (t + 1) (by omega)).trans hN1
  have hfr : ∀ j, j < t → E2 j = E j := fun j h0 => (hq j (by omega)).trans (hfr j h0)
  refine lv_aload_n X.1 X.2.1 dX4_init_13 rfl (lv_at hl 0 rfl) ?_
  refine lv_sipush (v := nI 2048) X.1 X.2.1 dX4_init_14 (by decide) ?_
  refine wm_newa (n := t + 2) (N := 2048) (k := 2) (atype := .boolean) (ty := .boolean) (a0 := wm_aZ 2048) X hP hS (by omega) rfl rfl (fun h => h) wq1_181 (wm_dZ 2048) (by decide) (by decide) (by rw [hRe]; dsimp only; omega) (by rw [hRe]; dsimp only; omega) dX4_init_17 (fun H E3 hP hS hN3 hq => ?_)
  have hN3 : E3 (t + 2) = wm_Z C 2048 (fun _ => false) := hN3
  have hE0 := (hq t (by omega)).trans hE0
  have hN1 := (hq (t + 1) (by omega)).trans hN1
  have hfr : ∀ j, j < t → E3 j = E j := fun j h0 => (hq j (by omega)).trans (hfr j h0)
  have hP := wm_Pcg (n' := t + 3) hP (by omega)
  refine wm_Wcg (a := 2) (d := 18432) (by omega) (by omega) ?_
  refine wm_putF (v := .ref (b + (t + 2))) X hnm hP hS (by omega) hE0 rfl wm_inX4 tyX4 tyX4_ok nmX4 1 (by decide) wq1_155 rfl rfl rfl rfl (fs1 := [.ref (b + (t + 1)), .ref (b + (t + 2)), .null, .null, .null, .null, .int (nI 0), .int (nI 0)]) rfl (Nat.le_of_ble_eq_true rfl) dX4_init_19 (fun H locs E4 hP hS hE0 hq => ?_)
  have hN1 := (hq (t + 1) (by omega)).trans hN1
  have hN3 := (hq (t + 2) (by omega)).trans hN3
  have hfr : ∀ j, j < t → E4 j = E j := fun j h0 => (hq j (by omega)).trans (hfr j h0)
  refine lv_aload_n X.1 X.2.1 dX4_init_22 rfl (lv_at hl 0 rfl) ?_
  refine lv_sipush (v := nI 2048) X.1 X.2.1 dX4_init_23 (by decide) ?_
  refine wm_newa (n := t + 3) (N := 2048) (k := 0) (atype := .int) (ty := .int) (a0 := wm_aI 2048) X hP hS (by omega) rfl rfl (fun h => h) wq1_64 (wm_dI 2048) (by decide) (by decide) (by rw [hRe]; dsimp only; omega) (by rw [hRe]; dsimp only; omega) dX4_init_26 (fun H E5 hP hS hN5 hq => ?_)
  have hN5 : E5 (t + 3) = wm_I C 2048 (fun _ => 0) := hN5
  have hE0 := (hq t (by omega)).trans hE0
  have hN1 := (hq (t + 1) (by omega)).trans hN1
  have hN3 := (hq (t + 2) (by omega)).trans hN3
  have hfr : ∀ j, j < t → E5 j = E j := fun j h0 => (hq j (by omega)).trans (hfr j h0)
  have hP := wm_Pcg (n' := t + 4) hP (by omega)
  refine wm_Wcg (a := 3) (d := 20480) (by omega) (by omega) ?_
  refine wm_putF (v := .ref (b + (t + 3))) X hnm hP hS (by omega) hE0 rfl wm_inX4 tyX4 tyX4_ok nmX4 2 (by decide) wq1_156 rfl rfl rfl rfl (fs1 := [.ref (b + (t + 1)), .ref (b + (t + 2)), .ref (b + (t + 3)), .null, .null, .null, .int (nI 0), .int (nI 0)]) rfl (Nat.le_of_ble_eq_true rfl) dX4_init_28 (fun H locs E6 hP hS hE0 hq => ?_)
  have hN1 := (hq (t + 1) (by omega)).trans hN1
  have hN3 := (hq (t + 2) (by omega)).trans hN3
  have hN5 := (hq (t + 3) (by omega)).trans hN5
  have hfr : ∀ j, j < t → E6 j = E j := fun j h0 => (hq j (by omega)).trans (hfr j h0)
  refine lv_aload_n X.1 X.2.1 dX4_init_31 rfl (lv_at hl 0 rfl) ?_
  refine lv_sipush (v := nI 2048) X.1 X.2.1 dX4_init_32 (by decide) ?_
  refine wm_newa (n := t + 4) (N := 2048) (k := 0) (atype := .int) (ty := .int) (a0 := wm_aI 2048) X hP hS (by omega) rfl rfl (fun h => h) wq1_64 (wm_dI 2048) (by decide) (by decide) (by rw [hRe]; dsimp only; omega) (by rw [hRe]; dsimp only; omega) dX4_init_35 (fun H E7 hP hS hN7 hq => ?_)
  have hN7 : E7 (t + 4) = wm_I C 2048 (fun _ => 0) := hN7
  have hE0 := (hq t (by omega)).trans hE0
  have hN1 := (hq (t + 1) (by omega)).trans hN1
  have hN3 := (hq (t + 2) (by omega)).trans hN3
  have hN5 := (hq (t + 3) (by omega)).trans hN5
  have hfr : ∀ j, j < t → E7 j = E j := fun j h0 => (hq j (by omega)).trans (hfr j h0)
  have hP := wm_Pcg (n' := t + 5) hP (by omega)
  refine wm_Wcg (a := 4) (d := 22528) (by omega) (by omega) ?_
  refine wm_putF (v := .ref (b + (t + 4))) X hnm hP hS (by omega) hE0 rfl wm_inX4 tyX4 tyX4_ok nmX4 3 (by decide) wq1_157 rfl rfl rfl rfl (fs1 := [.ref (b + (t + 1)), .ref (b + (t + 2)), .ref (b + (t + 3)), .ref (b + (t + 4)), .null, .null, .int (nI 0), .int (nI 0)]) rfl (Nat.le_of_ble_eq_true rfl) dX4_init_37 (fun H locs E8 hP hS hE0 hq => ?_)
  have hN1 := (hq (t + 1) (by omega)).trans hN1
  have hN3 := (hq (t + 2) (by omega)).trans hN3
  have hN5 := (hq (t + 3) (by omega)).trans hN5
  have hN7 := (hq (t + 4) (by omega)).trans hN7
  have hfr : ∀ j, j < t → E8 j = E j := fun j h0 => (hq j (by omega)).trans (hfr j h0)
  refine lv_aload_n X.1 X.2.1 dX4_init_40 rfl (lv_at hl 0 rfl) ?_
  refine lv_sipush (v := nI 2048) X.1 X.2.1 dX4_init_41 (by decide) ?_
  refine wm_newa (n := t + 5) (N := 2048) (k := 1) (atype := .long) (ty := .long) (a0 := wm_aJ 2048) X hP hS (by omega) rfl rfl (fun h => h) wq1_182 (wm_dJ 2048) (by decide) (by decide) (by rw [hRe]; dsimp only; omega) (by rw [hRe]; dsimp only; omega) dX4_init_44 (fun H E9 hP hS hN9 hq => ?_)
  have hN9 : E9 (t + 5) = wm_J C 2048 (fun _ => 0) := hN9
  have hE0 := (hq t (by omega)).trans hE0
  have hN1 := (hq (t + 1) (by omega)).trans hN1
  have hN3 := (hq (t + 2) (by omega)).trans hN3
  have hN5 := (hq (t + 3) (by omega)).trans hN5
  have hN7 := (hq (t + 4) (by omega)).trans hN7
  have hfr : ∀ j, j < t → E9 j = E j := fun j h0 => (hq j (by omega)).trans (hfr j h0)
  have hP := wm_Pcg (n' := t + 6) hP (by omega)
  refine wm_Wcg (a := 5) (d := 24576) (by omega) (by omega) ?_
  refine wm_putF (v := .ref (b + (t + 5))) X hnm hP hS (by omega) hE0 rfl wm_inX4 tyX4 tyX4_ok nmX4 4 (by decide) wq1_158 rfl rfl rfl rfl (fs1 := [.ref (b + (t + 1)), .ref (b + (t + 2)), .ref (b + (t + 3)), .ref (b + (t + 4)), .ref (b + (t + 5)), .null, .int (nI 0), .int (nI 0)]) rfl (Nat.le_of_ble_eq_true rfl) dX4_init_46 (fun H locs E10 hP hS hE0 hq => ?_)
  have hN1 := (hq (t + 1) (by omega)).trans hN1
  have hN3 := (hq (t + 2) (by omega)).trans hN3
  have hN5 := (hq (t + 3) (by omega)).trans hN5
  have hN7 := (hq (t + 4) (by omega)).trans hN7
  have hN9 := (hq (t + 5) (by omega)).trans hN9
  have hfr : ∀ j, j < t → E10 j = E j := fun j h0 => (hq j (by omega)).trans (hfr j h0)
  refine lv_aload_n X.1 X.2.1 dX4_init_49 rfl (lv_at hl 0 rfl) ?_
  refine lv_sipush (v := nI 2048) X.1 X.2.1 dX4_init_50 (by decide) ?_
  refine wm_newa (n := t + 6) (N := 2048) (k := 1) (atype := .long) (ty := .long) (a0 := wm_aJ 2048) X hP hS (by omega) rfl rfl (fun h => h) wq1_182 (wm_dJ 2048) (by decide) (by decide) (by rw [hRe]; dsimp only; omega) (by rw [hRe]; dsimp only; omega) dX4_init_53 (fun H E11 hP hS hN11 hq => ?_)
  have hN11 : E11 (t + 6) = wm_J C 2048 (fun _ => 0) := hN11
  have hE0 := (hq t (by omega)).trans hE0
  have hN1 := (hq (t + 1) (by omega)).trans hN1
  have hN3 := (hq (t + 2) (by omega)).trans hN3
  have hN5 := (hq (t + 3) (by omega)).trans hN5
  have hN7 := (hq (t + 4) (by omega)).trans hN7
  have hN9 := (hq (t + 5) (by omega)).trans hN9
  have hfr : ∀ j, j < t → E11 j = E j := fun j h0 => (hq j (by omega)).trans (hfr j h0)
  have hP := wm_Pcg (n' := t + 7) hP (by omega)
  refine wm_Wcg (a := 6) (d := 26624) (by omega) (by omega) ?_
  refine wm_putF (v := .ref (b + (t + 6))) X hnm hP hS (by omega) hE0 rfl wm_inX4 tyX4 tyX4_ok nmX4 5 (by decide) wq1_159 rfl rfl rfl rfl (fs1 := [.ref (b + (t + 1)), .ref (b + (t + 2)), .ref (b + (t + 3)), .ref (b + (t + 4)), .ref (b + (t + 5)), .ref (b + (t + 6)), .int (nI 0), .int (nI 0)]) rfl (Nat.le_of_ble_eq_true rfl) dX4_init_55 (fun H locs E12 hP hS hE0 hq => ?_)
  have hN1 := (hq (t + 1) (by omega)).trans hN1
  have hN3 := (hq (t + 2) (by omega)).trans hN3
  have hN5 := (hq (t + 3) (by omega)).trans hN5
  have hN7 := (hq (t + 4) (by omega)).trans hN7
  have hN9 := (hq (t + 5) (by omega)).trans hN9
  have hN11 := (hq (t + 6) (by omega)).trans hN11
  have hfr : ∀ j, j < t → E12 j = E j := fun j h0 => (hq j (by omega)).trans (hfr j h0)
  refine lv_aload_n X.1 X.2.1 dX4_init_58 rfl (lv_at hl 0 rfl) ?_
  refine lv_iconst (v := nI 0) X.1 X.2.1 dX4_init_59 (by decide) ?_
  refine wm_put (v := .int (nI 0)) X hP hS (by omega) hE0 rfl wm_inX4 tyX4 tyX4_ok nmX4 6 (by decide) wq1_160 rfl rfl rfl (fs1 := [.ref (b + (t + 1)), .ref (b + (t + 2)), .ref (b + (t + 3)), .ref (b + (t + 4)), .ref (b + (t + 5)), .ref (b + (t + 6)), .int (nI 0), .int (nI 0)]) rfl (Nat.le_of_ble_eq_true rfl) dX4_init_60 (fun H locs E13 hP hS hE0 hq => ?_)
  have hN1 := (hq (t + 1) (by omega)).trans hN1
  have hN3 := (hq (t + 2) (by omega)).trans hN3
  have hN5 := (hq (t + 3) (by omega)).trans hN5
  have hN7 := (hq (t + 4) (by omega)).trans hN7
  have hN9 := (hq (t + 5) (by omega)).trans hN9
  have hN11 := (hq (t + 6) (by omega)).trans hN11
  have hfr : ∀ j, j < t → E13 j = E j := fun j h0 => (hq j (by omega)).trans (hfr j h0)
  refine lv_aload_n X.1 X.2.1 dX4_init_63 rfl (lv_at hl 0 rfl) ?_
  refine lv_iconst (v := nI 0) X.1 X.2.1 dX4_init_64 (by decide) ?_
  refine wm_put (v := .int (nI 0)) X hP hS (by omega) hE0 rfl wm_inX4 tyX4 tyX4_ok nmX4 7 (by decide) wq1_162 rfl rfl rfl (fs1 := [.ref (b + (t + 1)), .ref (b + (t + 2)), .ref (b + (t + 3)), .ref (b + (t + 4)), .ref (b + (t + 5)), .ref (b + (t + 6)), .int (nI 0), .int (nI 0)]) rfl (Nat.le_of_ble_eq_true rfl) dX4_init_65 (fun H locs E14 hP hS hE0 hq => ?_)
  have hN1 := (hq (t + 1) (by omega)).trans hN1
  have hN3 := (hq (t + 2) (by omega)).trans hN3
  have hN5 := (hq (t + 3) (by omega)).trans hN5
  have hN7 := (hq (t + 4) (by omega)).trans hN7
  have hN9 := (hq (t + 5) (by omega)).trans hN9
  have hN11 := (hq (t + 6) (by omega)).trans hN11
  have hfr : ∀ j, j < t → E14 j = E j := fun j h0 => (hq j (by omega)).trans (hfr j h0)
  have hP := wm_Pcg (n' := t + 7) hP (by omega)
  refine wm_Wcg (a := 6) (d := 26624) (by omega) (by omega) ?_
  exact wm_vret (post := pX4_init C b E t) X hr hP hS ⟨hE0, hN1, hN3, hN5, hN7, hN9, hN11, hfr⟩ hQ dX4_init_68
def pX5_init (C : Nat → ClassId) (b : Nat) (E : Nat → va_E) (t : Nat) : (Nat → va_E) → Prop := fun E' => E' t = .inr (5, [.ref (b + (t + 1)), .ref (b + (t + 2)), .int (nI 0), .int (nI 0), .int (nI 4294967295)]) ∧ E' (t + 1) = wm_J C 49152 (fun _ => 0) ∧ E' (t + 2) = wm_I C 2048 (fun _ => 0) ∧ (∀ j, j < t → E' j = E j)
set_option maxHeartbeats 4000000 in
set_option maxRecDepth 100000 in
theorem kX5_init (l : Launch) (D : va_G) (C : Nat → ClassId) (b : Nat) (E : Nat → va_E) (t : Nat) (hE0 : E t = .inr (5, [.null, .null, .int (nI 0), .int (nI 0), .int (nI 0)])) : Met l yX5_init (wm_ws yX5_init cX5_init 1 none) { frames := 1, cells := 2, slots := 51200, locals := 12 } (va_Pc [.ref (b + t)] (wm_GC D C b (t + 1) E)) (va_Qv (pX5_init C b E t) (fun E' u9 => wm_P D b (t + 3) E' u9.heap) (wm_A b)) 2 51200 (wm_A b) := by
  refine wm_ofWC (by decide) (Nat.le_of_ble_eq_true rfl) (fun p e s m below meth c ls R args Q hRe hQ X hr hnm hP hS hl hz0 hA => ?_)
  have hl : lv_has ls 1 [(0, .ref (b + t))] := hl
  have hfr : ∀ j, j < t → E j = E j := fun _ _ => rfl
  refine lv_aload_n X.1 X.2.1 dX5_init_0 rfl (lv_at hl 0 rfl) ?_
  refine wm_oinit X wq1_188 wq1_32 wq1_33 hl.1 dX5_init_1 (by rw [hRe]; exact Nat.le_of_ble_eq_true rfl) (by rw [hRe]; exact Nat.le_of_ble_eq_true rfl) ?_
  refine lv_aload_n X.1 X.2.1 dX5_init_4 rfl (lv_at hl 0 rfl) ?_
  refine lv_ldc (v := nI 49152) X.1 X.2.1 X.2.2.2.1 (X.2.2.2.2.1 _ wq1_189) dX5_init_5 ?_
  refine wm_newa (n := t + 1) (N := 49152) (k := 1) (atype := .long) (ty := .long) (a0 := wm_aJ 49152) X hP hS (by omega) rfl rfl (fun h => h) wq1_182 (wm_dJ 49152) (by decide) (by decide) (by rw [hRe]; dsimp only; omega) (by rw [hRe]; dsimp only; omega) dX5_init_7 (fun H E1 hP hS hN1 hq => ?_)
  have hN1 : E1 (t + 1) = wm_J C 49152 (fun _ => 0) := hN1
  have hE0 := (hq t (by omega)).trans hE0
  have hfr : ∀ j, j < t → E1 j = E j := fun j h0 => (hq j (by omega)).trans (hfr j h0)
  have hP := wm_Pcg (n' := t + 2) hP (by omega)
  refine wm_Wcg (a := 1) (d := 49152) (by omega) (by omega) ?_
  refine wm_putF (v := .ref (b + (t + 1))) X hnm hP hS (by omega) hE0 rfl wm_inX5 tyX5 tyX5_ok nmX5 0 (by decide) wq1_190 rfl rfl rfl rfl (fs1 := [.ref (b + (t + 1)), .null, .int (nI 0), .int (nI 0), .int (nI 0)]) rfl (Nat.le_of_ble_eq_true rfl) dX5_init_9 (fun H locs E2 hP hS hE0 hq => ?_)
  have hN1 := (hq (t + 1) (by omega)).trans hN1
  have hfr : ∀ j, j < t → E2 j = E j := fun j h0 => (hq j (by omega)).trans (hfr j h0)
  refine lv_aload_n X.1 X.2.1 dX5_init_12 rfl (lv_at hl 0 rfl) ?_
  refine lv_sipush (v := nI 2048) X.1 X.2.1 dX5_init_13 (by decide) ?_
  refine wm_newa (n := t + 2) (N := 2048) (k := 0) (atype := .int) (ty := .int) (a0 := wm_aI 2048) X hP hS (by omega) rfl rfl (fun h => h) wq1_64 (wm_dI 2048) (by decide) (by decide) (by rw [hRe]; dsimp only; omega) (by rw [hRe]; dsimp only; omega) dX5_init_16 (fun H E3 hP hS hN3 hq => ?_)
  have hN3 : E3 (t + 2) = wm_I C 2048 (fun _ => 0) := hN3
  have hE0 := (hq t (by omega)).trans hE0
  have hN1 := (hq (t + 1) (by omega)).trans hN1
  have hfr : ∀ j, j < t → E3 j = E j := fun j h0 => (hq j (by omega)).trans (hfr j h0)
  have hP := wm_Pcg (n' := t + 3) hP (by omega)
  refine wm_Wcg (a := 2) (d := 51200) (by omega) (by omega) ?_
  refine wm_putF (v := .ref (b + (t + 2))) X hnm hP hS (by omega) hE0 rfl wm_inX5 tyX5 tyX5_ok nmX5 1 (by decide) wq1_191 rfl rfl rfl rfl (fs1 := [.ref (b + (t + 1)), .ref (b + (t + 2)), .int (nI 0), .int (nI 0), .int (nI 0)]) rfl (Nat.le_of_ble_eq_true rfl) dX5_init_18 (fun H locs E4 hP hS hE0 hq => ?_)
  have hN1 := (hq (t + 1) (by omega)).trans hN1
  have hN3 := (hq (t + 2) (by omega)).trans hN3
  have hfr : ∀ j, j < t → E4 j = E j := fun j h0 => (hq j (by omega)).trans (hfr j h0)
  refine lv_aload_n X.1 X.2.1 dX5_init_21 rfl (lv_at hl 0 rfl) ?_
  refine lv_iconst (v := nI 0) X.1 X.2.1 dX5_init_22 (by decide) ?_
  refine wm_put (v := .int (nI 0)) X hP hS (by omega) hE0 rfl wm_inX5 tyX5 tyX5_ok nmX5 2 (by decide) wq1_192 rfl rfl rfl (fs1 := [.ref (b + (t + 1)), .ref (b + (t + 2)), .int (nI 0), .int (nI 0), .int (nI 0)]) rfl (Nat.le_of_ble_eq_true rfl) dX5_init_23 (fun H locs E5 hP hS hE0 hq => ?_)
  have hN1 := (hq (t + 1) (by omega)).trans hN1
  have hN3 := (hq (t + 2) (by omega)).trans hN3
  have hfr : ∀ j, j < t → E5 j = E j := fun j h0 => (hq j (by omega)).trans (hfr j h0)
  refine lv_aload_n X.1 X.2.1 dX5_init_26 rfl (lv_at hl 0 rfl) ?_
  refine lv_iconst (v := nI 0) X.1 X.2.1 dX5_init_27 (by decide) ?_
  refine wm_put (v := .int (nI 0)) X hP hS (by omega) hE0 rfl wm_inX5 tyX5 tyX5_ok nmX5 3 (by decide) wq1_193 rfl rfl rfl (fs1 := [.ref (b + (t + 1)), .ref (b + (t + 2)), .int (nI 0), .int (nI 0), .int (nI 0)]) rfl (Nat.le_of_ble_eq_true rfl) dX5_init_28 (fun H locs E6 hP hS hE0 hq => ?_)
  have hN1 := (hq (t + 1) (by omega)).trans hN1
  have hN3 := (hq (t + 2) (by omega)).trans hN3
  have hfr : ∀ j, j < t → E6 j = E j := fun j h0 => (hq j (by omega)).trans (hfr j h0)
  refine lv_aload_n X.1 X.2.1 dX5_init_31 rfl (lv_at hl 0 rfl) ?_
  refine lv_iconst (v := nI 4294967295) X.1 X.2.1 dX5_init_32 (by decide) ?_
  refine wm_put (v := .int (nI 4294967295)) X hP hS (by omega) hE0 rfl wm_inX5 tyX5 tyX5_ok nmX5 4 (by decide) wq1_194 rfl rfl rfl (fs1 := [.ref (b + (t + 1)), .ref (b + (t + 2)), .int (nI 0), .int (nI 0), .int (nI 4294967295)]) rfl (Nat.le_of_ble_eq_true rfl) dX5_init_33 (fun H locs E7 hP hS hE0 hq => ?_)
  have hN1 := (hq (t + 1) (by omega)).trans hN1
  have hN3 := (hq (t + 2) (by omega)).trans hN3
  have hfr : ∀ j, j < t → E7 j = E j := fun j h0 => (hq j (by omega)).trans (hfr j h0)
  have hP := wm_Pcg (n' := t + 3) hP (by omega)
  refine wm_Wcg (a := 2) (d := 51200) (by omega) (by omega) ?_
  exact wm_vret (post := pX5_init C b E t) X hr hP hS ⟨hE0, hN1, hN3, hfr⟩ hQ dX5_init_36
def pX0_init (C : Nat → ClassId) (b : Nat) (E : Nat → va_E)  : (Nat → va_E) → Prop := fun E' => E' 5 = .inr (0, [.int (nI 0), .int (nI 4294967295), .ref (b + 6), .ref (b + 7), .ref (b + 8), .int (nI 0), .int (nI 0), .int (nI 0), .int (nI false.toNat), .int (nI 0)]) ∧ E' 6 = wm_Q C 5 21 (fun i => some (b + (9 + 4 * i))) ∧ E' 7 = wm_I C 24 (fun _ => 0) ∧ E' 8 = wm_I C 24 (fun _ => 0) ∧ (∀ j, j < 5 → E' j = E j) ∧ wm_lw b E' (fun _ => false) (fun _ _ => (false, 0, 0))
set_option maxHeartbeats 4000000 in
set_option maxRecDepth 100000 in
theorem kX0_init (l : Launch) (D : va_G) (C : Nat → ClassId) (b : Nat) (E : Nat → va_E)  (hE0 : E 5 = .inr (0, [.int (nI 0), .int (nI 0), .null, .null, .null, .int (nI 0), .int (nI 0), .int (nI 0), .int (nI false.toNat), .int (nI 0)])) : Met l yX0_init (wm_ws yX0_init cX0_init 2 none) { frames := 3, cells := 87, slots := 342, locals := 52 } (va_Pc [.ref (b + 5)] (wm_GC D C b 6 E)) (va_Qv (pX0_init C b E) (fun E' u9 => wm_P D b 93 E' u9.heap) (wm_A b)) 87 342 (wm_A b) := by
  refine wm_ofWC (by decide) (Nat.le_of_ble_eq_true rfl) (fun p e s m below meth c ls R args Q hRe hQ X hr hnm hP hS hl hz0 hA => ?_)
  have hl : lv_has ls 2 [(0, .ref (b + 5))] := hl
  have hfr : ∀ j, j < 5 → E j = E j := fun _ _ => rfl
  refine lv_aload_n X.1 X.2.1 dX0_init_0 rfl (lv_at hl 0 rfl) ?_
  refine wm_oinit X wq1_70 wq1_32 wq1_33 hl.1 dX0_init_1 (by rw [hRe]; exact Nat.le_of_ble_eq_true rfl) (by rw [hRe]; exact Nat.le_of_ble_eq_true rfl) ?_
  refine lv_aload_n X.1 X.2.1 dX0_init_4 rfl (lv_at hl 0 rfl) ?_
  refine lv_iconst (v := nI 0) X.1 X.2.1 dX0_init_5 (by decide) ?_
  refine wm_put (v := .int (nI 0)) X hP hS (by omega) hE0 rfl wm_inX0 tyX0 tyX0_ok nmX0 0 (by decide) wq1_115 rfl rfl rfl (fs1 := [.int (nI 0), .int (nI 0), .null, .null, .null, .int (nI 0), .int (nI 0), .int (nI 0), .int (nI false.toNat), .int (nI 0)]) rfl (Nat.le_of_ble_eq_true rfl) dX0_init_6 (fun H locs E1 hP hS hE0 hq => ?_)
  have hfr : ∀ j, j < 5 → E1 j = E j := fun j h0 => (hq j (by omega)).trans (hfr j h0)
  refine lv_aload_n X.1 X.2.1 dX0_init_9 rfl (lv_at hl 0 rfl) ?_
  refine lv_iconst (v := nI 4294967295) X.1 X.2.1 dX0_init_10 (by decide) ?_
  refine wm_put (v := .int (nI 4294967295)) X hP hS (by omega) hE0 rfl wm_inX0 tyX0 tyX0_ok nmX0 1 (by decide) wq1_117 rfl rfl rfl (fs1 := [.int (nI 0), .int (nI 4294967295), .null, .null, .null, .int (nI 0), .int (nI 0), .int (nI 0), .int (nI false.toNat), .int (nI 0)]) rfl (Nat.le_of_ble_eq_true rfl) dX0_init_11 (fun H locs E2 hP hS hE0 hq => ?_)
  have hfr : ∀ j, j < 5 → E2 j = E j := fun j h0 => (hq j (by omega)).trans (hfr j h0)
  refine lv_aload_n X.1 X.2.1 dX0_init_14 rfl (lv_at hl 0 rfl) ?_
  refine lv_bipush (v := nI 21) X.1 X.2.1 dX0_init_15 (by decide) ?_
  refine wm_newq (n := 6) (N := 21) (k := 5) X hP hS (by omega) hA.2 rfl wq1_71 (by decide) (by decide) (by rw [hRe]; dsimp only; omega) (by rw [hRe]; dsimp only; omega) dX0_init_17 (fun H E3 hP hS hN3 hq => ?_)
  have hE0 := (hq 5 (by decide)).trans hE0
  have hfr : ∀ j, j < 5 → E3 j = E j := fun j h0 => (hq j (by omega)).trans (hfr j h0)
  have hP := wm_Pcg (n' := 7) hP (by omega)
  refine wm_Wcg (a := 1) (d := 21) (by omega) (by omega) ?_
  refine wm_putF (v := .ref (b + 6)) X hnm hP hS (by omega) hE0 rfl wm_inX0 tyX0 tyX0_ok nmX0 2 (by decide) wq1_119 rfl rfl rfl rfl (fs1 := [.int (nI 0), .int (nI 4294967295), .ref (b + 6), .null, .null, .int (nI 0), .int (nI 0), .int (nI 0), .int (nI false.toNat), .int (nI 0)]) rfl (Nat.le_of_ble_eq_true rfl) dX0_init_20 (fun H locs E4 hP hS hE0 hq => ?_)
  have hN3 := (hq 6 (by decide)).trans hN3
  have hfr : ∀ j, j < 5 → E4 j = E j := fun j h0 => (hq j (by omega)).trans (hfr j h0)
  refine lv_aload_n X.1 X.2.1 dX0_init_23 rfl (lv_at hl 0 rfl) ?_
  refine lv_bipush (v := nI 24) X.1 X.2.1 dX0_init_24 (by decide) ?_
  refine wm_newa (n := 7) (N := 24) (k := 0) (atype := .int) (ty := .int) (a0 := wm_aI 24) X hP hS (by omega) rfl rfl (fun h => h) wq1_64 (wm_dI 24) (by decide) (by decide) (by rw [hRe]; dsimp only; omega) (by rw [hRe]; dsimp only; omega) dX0_init_26 (fun H E5 hP hS hN5 hq => ?_)
  have hN5 : E5 7 = wm_I C 24 (fun _ => 0) := hN5
  have hE0 := (hq 5 (by decide)).trans hE0
  have hN3 := (hq 6 (by decide)).trans hN3
  have hfr : ∀ j, j < 5 → E5 j = E j := fun j h0 => (hq j (by omega)).trans (hfr j h0)
  have hP := wm_Pcg (n' := 8) hP (by omega)
  refine wm_Wcg (a := 2) (d := 45) (by omega) (by omega) ?_
  refine wm_putF (v := .ref (b + 7)) X hnm hP hS (by omega) hE0 rfl wm_inX0 tyX0 tyX0_ok nmX0 3 (by decide) wq1_120 rfl rfl rfl rfl (fs1 := [.int (nI 0), .int (nI 4294967295), .ref (b + 6), .ref (b + 7), .null, .int (nI 0), .int (nI 0), .int (nI 0), .int (nI false.toNat), .int (nI 0)]) rfl (Nat.le_of_ble_eq_true rfl) dX0_init_28 (fun H locs E6 hP hS hE0 hq => ?_)
  have hN3 := (hq 6 (by decide)).trans hN3
  have hN5 := (hq 7 (by decide)).trans hN5
  have hfr : ∀ j, j < 5 → E6 j = E j := fun j h0 => (hq j (by omega)).trans (hfr j h0)
  refine lv_aload_n X.1 X.2.1 dX0_init_31 rfl (lv_at hl 0 rfl) ?_
  refine lv_bipush (v := nI 24) X.1 X.2.1 dX0_init_32 (by decide) ?_
  refine wm_newa (n := 8) (N := 24) (k := 0) (atype := .int) (ty := .int) (a0 := wm_aI 24) X hP hS (by omega) rfl rfl (fun h => h) wq1_64 (wm_dI 24) (by decide) (by decide) (by rw [hRe]; dsimp only; omega) (by rw [hRe]; dsimp only; omega) dX0_init_34 (fun H E7 hP hS hN7 hq => ?_)
  have hN7 : E7 8 = wm_I C 24 (fun _ => 0) := hN7
  have hE0 := (hq 5 (by decide)).trans hE0
  have hN3 := (hq 6 (by decide)).trans hN3
  have hN5 := (hq 7 (by decide)).trans hN5
  have hfr : ∀ j, j < 5 → E7 j = E j := fun j h0 => (hq j (by omega)).trans (hfr j h0)
  have hP := wm_Pcg (n' := 9) hP (by omega)
  refine wm_Wcg (a := 3) (d := 69) (by omega) (by omega) ?_
  refine wm_putF (v := .ref (b + 8)) X hnm hP hS (by omega) hE0 rfl wm_inX0 tyX0 tyX0_ok nmX0 4 (by decide) wq1_121 rfl rfl rfl rfl (fs1 := [.int (nI 0), .int (nI 4294967295), .ref (b + 6), .ref (b + 7), .ref (b + 8), .int (nI 0), .int (nI 0), .int (nI 0), .int (nI false.toNat), .int (nI 0)]) rfl (Nat.le_of_ble_eq_true rfl) dX0_init_36 (fun H locs E8 hP hS hE0 hq => ?_)
  have hN3 := (hq 6 (by decide)).trans hN3
  have hN5 := (hq 7 (by decide)).trans hN5
  have hN7 := (hq 8 (by decide)).trans hN7
  have hfr : ∀ j, j < 5 → E8 j = E j := fun j h0 => (hq j (by omega)).trans (hfr j h0)
  refine lv_iconst (v := nI 0) X.1 X.2.1 dX0_init_39 (by decide) ?_
  refine lv_istore_n (lv' := [(1, .int (nI 0)), (0, .ref (b + 5))]) X.1 X.2.1 dX0_init_40 rfl hl (by decide) rfl (fun ls hl => ?_)
  have L41 : ∀ (fu : Nat) (i : Nat), 21 - i < fu → i ≤ 21 → ∀ (E9 : Nat → va_E) (H : Heap) (locs : List Loc) (ls : Array Slot), wm_P D b (9 + 4 * i) E9 H → wm_S b s.heap H locs → E9 5 = .inr (0, [.int (nI 0), .int (nI 4294967295), .ref (b + 6), .ref (b + 7), .ref (b + 8), .int (nI 0), .int (nI 0), .int (nI 0), .int (nI false.toNat), .int (nI 0)]) → E9 6 = wm_Q C 5 21 (fun j => if j < i then some (b + (9 + 4 * j)) else none) → E9 7 = wm_I C 24 (fun _ => 0) → E9 8 = wm_I C 24 (fun _ => 0) → (∀ k, k < i → E9 (9 + 4 * k) = wm_le b k false ∧ E9 (10 + 4 * k) = wm_pe (false, 0, 0) ∧ E9 (11 + 4 * k) = wm_pe (false, 0, 0) ∧ E9 (12 + 4 * k) = wm_pe (false, 0, 0)) → (∀ j, j < 5 → E9 j = E j) → lv_has ls 2 [(0, .ref (b + 5)), (1, .int (nI i))] → W p l e R s m args below meth c H locs (3 + 4 * i) (69 + 13 * i) Q (F0 m 41 ls []) := by
    intro fu
    induction fu with
    | zero => intro i hm; exact absurd hm (Nat.not_lt_zero _)
    | succ fu ih41 =>
      intro i hm hi E9 H locs ls hP hS hE0 hN3 hN5 hN7 hlw hfr hl
      refine lv_iload_n X.1 X.2.1 dX0_init_41 rfl (lv_at hl 1 rfl) ?_
      refine lv_aload_n X.1 X.2.1 dX0_init_42 rfl (lv_at hl 0 rfl) ?_
      refine wm_get X hP (by omega) hE0 rfl wm_inX0 2 (by decide) wq1_119 rfl dX0_init_43 ?_
      refine wm_alen (N := 21) (k := 5) X hP (by omega) hN3 rfl rfl dX0_init_46 ?_
      refine wm_icmp_ge (x := i) (y := 21) (tgt := 69) X (by omega) (by decide) dX0_init_47 (by decide) (fun hc47 => ?_) (fun hc47 => ?_)
      · have hi9 : i = 21 := by omega
        subst hi9
        obtain ⟨E99, hP, hQ6, hq⟩ := wm_Qeq (g := fun i => some (b + (9 + 4 * i))) hP (by omega) hN3 (fun j hj => if_pos hj)
        have hE0 := (hq 5 (by omega)).trans hE0
        have hN5 := (hq 7 (by omega)).trans hN5
        have hN7 := (hq 8 (by omega)).trans hN7
        have hlw : ∀ k, k < 21 → E99 (9 + 4 * k) = wm_le b k false ∧ E99 (10 + 4 * k) = wm_pe (false, 0, 0) ∧ E99 (11 + 4 * k) = wm_pe (false, 0, 0) ∧ E99 (12 + 4 * k) = wm_pe (false, 0, 0) := fun k hk => ⟨(hq _ (by omega)).trans (hlw k hk).1, (hq _ (by omega)).trans (hlw k hk).2.1, (hq _ (by omega)).trans (hlw k hk).2.2.1, (hq _ (by omega)).trans (hlw k hk).2.2.2⟩
        have hfr : ∀ j, j < 5 → E99 j = E j := fun j h0 => (hq j (by omega)).trans (hfr j h0)
        have hP := wm_Pcg (n' := 93) hP (by omega)
        refine wm_Wcg (a := 87) (d := 342) (by omega) (by omega) ?_
        exact wm_vret (post := pX0_init C b E) X hr hP hS ⟨hE0, hQ6, hN5, hN7, hfr, hlw⟩ hQ dX0_init_69
      · refine lv_aload_n X.1 X.2.1 dX0_init_50 rfl (lv_at hl 0 rfl) ?_
        refine wm_get X hP (by omega) hE0 rfl wm_inX0 2 (by decide) wq1_119 rfl dX0_init_51 ?_
        refine lv_iload_n X.1 X.2.1 dX0_init_54 rfl (lv_at hl 1 rfl) ?_
        refine wm_newo (n := 9 + 4 * i) X hP hS (by omega) (ci := 1) rfl wm_inX1 tyX1 tyX1_ok wq1_71 wq1_73 wq1_4 (fs := [.null, .null, .null, .int (nI false.toNat)]) (by decide) (by rw [hRe]; dsimp only; omega) (by rw [hRe]; dsimp only; omega) dX0_init_55 (fun H E11 hP hS hN11 hq => ?_)
        have hE0 := (hq 5 (by omega)).trans hE0
        have hN3 := (hq 6 (by omega)).trans hN3
        have hN5 := (hq 7 (by omega)).trans hN5
        have hN7 := (hq 8 (by omega)).trans hN7
        have hfr : ∀ j, j < 5 → E11 j = E j := fun j h0 => (hq j (by omega)).trans (hfr j h0)
        have hlw : ∀ k, k < i → E11 (9 + 4 * k) = wm_le b k false ∧ E11 (10 + 4 * k) = wm_pe (false, 0, 0) ∧ E11 (11 + 4 * k) = wm_pe (false, 0, 0) ∧ E11 (12 + 4 * k) = wm_pe (false, 0, 0) := fun k hk => ⟨(hq _ (by omega)).trans (hlw k hk).1, (hq _ (by omega)).trans (hlw k hk).2.1, (hq _ (by omega)).trans (hlw k hk).2.2.1, (hq _ (by omega)).trans (hlw k hk).2.2.2⟩
        have hP := wm_Pcg (n' := 9 + 4 * i + 1) hP (by omega)
        refine wm_Wcg (a := 3 + 4 * i + 1) (d := 69 + 13 * i + 4) (by omega) (by omega) ?_
        refine lv_dup X.1 X.2.1 dX0_init_58 rfl ?_
        refine wm_initN (n := (9 + 4 * i) + 1) (n1 := (9 + 4 * i) + 4) (t := (9 + 4 * i)) (rest := [.ref (b + (9 + 4 * i)), .int (nI i), .ref (b + 6)]) X hA hP hS (by omega) (kX1_init l D C b E11 (9 + 4 * i) hN11) (host := "WordMachines") (by decide) wq1_75 wq1_4 wq1_76 rfl (by decide) (by rw [hRe]; exact ⟨Nat.le_of_ble_eq_true rfl, Nat.le_of_ble_eq_true rfl⟩) hl.1 (Nat.le_of_ble_eq_true rfl) (by rw [hRe]; dsimp only; omega) (by rw [hRe]; dsimp only; omega) dX0_init_59 (fun E12 H locs hw hP hS => ?_)
        obtain ⟨hN11, hI12_1, hI12_2, hI12_3, hq⟩ := hw
        have hE0 := (hq 5 (by omega)).trans hE0
        have hN3 := (hq 6 (by omega)).trans hN3
        have hN5 := (hq 7 (by omega)).trans hN5
        have hN7 := (hq 8 (by omega)).trans hN7
        have hN11 : E12 (9 + 4 * i) = .inr (1, [.ref (b + (9 + 4 * i + 1)), .ref (b + (9 + 4 * i + 2)), .ref (b + (9 + 4 * i + 3)), .int (nI false.toNat)]) := hN11
        have hI12_1 : E12 (9 + 4 * i + 1) = .inr (3, [.int (nI false.toNat), .int (nI 0), .int (nI 0)]) := hI12_1
        have hI12_2 : E12 (9 + 4 * i + 2) = .inr (3, [.int (nI false.toNat), .int (nI 0), .int (nI 0)]) := hI12_2
        have hI12_3 : E12 (9 + 4 * i + 3) = .inr (3, [.int (nI false.toNat), .int (nI 0), .int (nI 0)]) := hI12_3
        have hfr : ∀ j, j < 5 → E12 j = E j := fun j h0 => (hq j (by omega)).trans (hfr j h0)
        have hlw : ∀ k, k < i → E12 (9 + 4 * k) = wm_le b k false ∧ E12 (10 + 4 * k) = wm_pe (false, 0, 0) ∧ E12 (11 + 4 * k) = wm_pe (false, 0, 0) ∧ E12 (12 + 4 * k) = wm_pe (false, 0, 0) := fun k hk => ⟨(hq _ (by omega)).trans (hlw k hk).1, (hq _ (by omega)).trans (hlw k hk).2.1, (hq _ (by omega)).trans (hlw k hk).2.2.1, (hq _ (by omega)).trans (hlw k hk).2.2.2⟩
        have hP := wm_Pcg (n' := 9 + 4 * i + 4) hP (by omega)
        refine wm_Wcg (a := 3 + 4 * i + 4) (d := 69 + 13 * i + 13) (by omega) (by omega) ?_
        refine wm_aast (i := i) (v := (9 + 4 * i)) X hP hS (by omega) hN3 rfl (by omega) hN11 rfl (by omega) (by decide) dX0_init_62 (fun H locs E13 hP hS hN3 hq => ?_)
        have hE0 := (hq 5 (by decide)).trans hE0
        have hN5 := (hq 7 (by decide)).trans hN5
        have hN7 := (hq 8 (by decide)).trans hN7
        have hN11 := (hq (9 + 4 * i) (by omega)).trans hN11
        have hI12_1 := (hq (9 + 4 * i + 1) (by omega)).trans hI12_1
        have hI12_2 := (hq (9 + 4 * i + 2) (by omega)).trans hI12_2
        have hI12_3 := (hq (9 + 4 * i + 3) (by omega)).trans hI12_3
        have hfr : ∀ j, j < 5 → E13 j = E j := fun j h0 => (hq j (by omega)).trans (hfr j h0)
        have hlw : ∀ k, k < i → E13 (9 + 4 * k) = wm_le b k false ∧ E13 (10 + 4 * k) = wm_pe (false, 0, 0) ∧ E13 (11 + 4 * k) = wm_pe (false, 0, 0) ∧ E13 (12 + 4 * k) = wm_pe (false, 0, 0) := fun k hk => ⟨(hq _ (by omega)).trans (hlw k hk).1, (hq _ (by omega)).trans (hlw k hk).2.1, (hq _ (by omega)).trans (hlw k hk).2.2.1, (hq _ (by omega)).trans (hlw k hk).2.2.2⟩
        refine lv_iinc (v := nI (i + 1)) (lv' := [(1, .int (nI (i + 1))), (0, .ref (b + 5))]) X.1 X.2.1 dX0_init_63 hl (k := 1) rfl (wm_inc i) (by decide) rfl (fun ls hl => ?_)
        refine lv_goto (tgt := 41) X.1 X.2.1 dX0_init_66 (by decide) ?_
        have hP := wm_Pcg (n' := 9 + 4 * (i + 1)) hP (by omega)
        refine wm_Wcg (a := 3 + 4 * (i + 1)) (d := 69 + 13 * (i + 1)) (by omega) (by omega) ?_
        have hlw : ∀ k, k < i + 1 → E13 (9 + 4 * k) = wm_le b k false ∧ E13 (10 + 4 * k) = wm_pe (false, 0, 0) ∧ E13 (11 + 4 * k) = wm_pe (false, 0, 0) ∧ E13 (12 + 4 * k) = wm_pe (false, 0, 0) := wm_lvl hlw hN11 hI12_1 hI12_2 hI12_3
        exact ih41 (i + 1) (by omega) (by omega) E13 _ _ _ hP hS hE0 (hN3.trans (congrArg (wm_Q C 5 21) (wm_upl (fun j => b + (9 + 4 * j)) i))) hN5 hN7 hlw hfr (lv_sub hl [1, 0] rfl)
  have hP := wm_Pcg (n' := 9 + 4 * 0) hP (by omega)
  refine wm_Wcg (a := 3 + 4 * 0) (d := 69 + 13 * 0) (by omega) (by omega) ?_
  exact L41 (21 + 1) 0 (by omega) (by omega) E8 _ _ _ hP hS hE0 (hN3.trans (congrArg (wm_Q C 5 21) (funext fun j => (if_neg (Nat.not_lt_zero j)).symm))) hN5 hN7 (fun k hk => absurd hk (Nat.not_lt_zero _)) hfr (lv_sub hl [1, 0] rfl)
def pX6_init (C : Nat → ClassId) (b : Nat) (E : Nat → va_E)  : (Nat → va_E) → Prop := fun E' => E' 0 = .inr (6, [.ref (b + 1), .ref (b + 2), .ref (b + 4), .int (nI 0), .ref (b + 5), .ref (b + 93), .ref (b + 100)]) ∧ E' 1 = wm_Q C 4 8 (fun x9 => some (b + (103 + 2 * x9))) ∧ E' 2 = .inr (2, [.ref (b + 3), .int (nI 1), .int (nI 0), .int (nI 0)]) ∧ E' 3 = wm_I C 192 (fun _ => 0) ∧ E' 4 = wm_B C 200 (fun j => wm_sb ((fun _ => 0) j)) ∧ E' 5 = .inr (0, [.int (nI 0), .int (nI 4294967295), .ref (b + 6), .ref (b + 7), .ref (b + 8), .int (nI 0), .int (nI 0), .int (nI 0), .int (nI false.toNat), .int (nI 0)]) ∧ E' 6 = wm_Q C 5 21 (fun i => some (b + (9 + 4 * i))) ∧ E' 7 = wm_I C 24 (fun _ => 0) ∧ E' 8 = wm_I C 24 (fun _ => 0) ∧ E' 93 = .inr (4, [.ref (b + 94), .ref (b + 95), .ref (b + 96), .ref (b + 97), .ref (b + 98), .ref (b + 99), .int (nI 0), .int (nI 0)]) ∧ E' 94 = wm_I C 16384 (fun _ => 0) ∧ E' 95 = wm_Z C 2048 (fun _ => false) ∧ E' 96 = wm_I C 2048 (fun _ => 0) ∧ E' 97 = wm_I C 2048 (fun _ => 0) ∧ E' 98 = wm_J C 2048 (fun _ => 0) ∧ E' 99 = wm_J C 2048 (fun _ => 0) ∧ E' 100 = .inr (5, [.ref (b + 101), .ref (b + 102), .int (nI 0), .int (nI 0), .int (nI 4294967295)]) ∧ E' 101 = wm_J C 49152 (fun _ => 0) ∧ E' 102 = wm_I C 2048 (fun _ => 0) ∧ (∀ j, j < 0 → E' j = E j) ∧ wm_lw b E' (fun _ => false) (fun _ _ => (false, 0, 0)) ∧ (∀ k, k < 8 → E' (103 + 2 * k) = .inr (2, [.ref (b + (104 + 2 * k)), .int (nI 1), .int (nI 0), .int (nI 0)]) ∧ E' (104 + 2 * k) = wm_I C 192 (fun _ => 0))
set_option maxHeartbeats 4000000 in
set_option maxRecDepth 100000 in
theorem kX6_init (l : Launch) (D : va_G) (C : Nat → ClassId) (b : Nat) (E : Nat → va_E)  (hE0 : E 0 = .inr (6, [.null, .null, .null, .int (nI 0), .null, .null, .null])) : Met l yX6_init (wm_ws yX6_init cX6_init 2 none) { frames := 4, cells := 118, slots := 80161, locals := 73 } (va_Pc [.ref (b + 0)] (wm_GC D C b 1 E)) (va_Qv (pX6_init C b E) (fun E' u9 => wm_P D b 119 E' u9.heap) (wm_A b)) 118 80161 (wm_A b) := by
  refine wm_ofWC (by decide) (Nat.le_of_ble_eq_true rfl) (fun p e s m below meth c ls R args Q hRe hQ X hr hnm hP hS hl hz0 hA => ?_)
  have hl : lv_has ls 2 [(0, .ref (b + 0))] := hl
  have hfr : ∀ j, j < 0 → E j = E j := fun _ _ => rfl
  refine lv_aload_n X.1 X.2.1 dX6_init_0 rfl (lv_at hl 0 rfl) ?_
  refine wm_oinit X wq1_31 wq1_32 wq1_33 hl.1 dX6_init_1 (by rw [hRe]; exact Nat.le_of_ble_eq_true rfl) (by rw [hRe]; exact Nat.le_of_ble_eq_true rfl) ?_
  refine lv_aload_n X.1 X.2.1 dX6_init_4 rfl (lv_at hl 0 rfl) ?_
  refine lv_bipush (v := nI 8) X.1 X.2.1 dX6_init_5 (by decide) ?_
  refine wm_newq (n := 1) (N := 8) (k := 4) X hP hS (by omega) hA.1 rfl wq1_34 (by decide) (by decide) (by rw [hRe]; dsimp only; omega) (by rw [hRe]; dsimp only; omega) dX6_init_7 (fun H E1 hP hS hN1 hq => ?_)
  have hE0 := (hq 0 (by decide)).trans hE0
  have hfr : ∀ j, j < 0 → E1 j = E j := fun j h0 => (hq j (by omega)).trans (hfr j h0)
  have hP := wm_Pcg (n' := 2) hP (by omega)
  refine wm_Wcg (a := 1) (d := 8) (by omega) (by omega) ?_
  refine wm_putF (v := .ref (b + 1)) X hnm hP hS (by omega) hE0 rfl wm_inX6 tyX6 tyX6_ok nmX6 0 (by decide) wq1_207 rfl rfl rfl rfl (fs1 := [.ref (b + 1), .null, .null, .int (nI 0), .null, .null, .null]) rfl (Nat.le_of_ble_eq_true rfl) dX6_init_10 (fun H locs E2 hP hS hE0 hq => ?_)
  have hN1 := (hq 1 (by decide)).trans hN1
  have hfr : ∀ j, j < 0 → E2 j = E j := fun j h0 => (hq j (by omega)).trans (hfr j h0)
  refine lv_aload_n X.1 X.2.1 dX6_init_13 rfl (lv_at hl 0 rfl) ?_
  refine wm_newo (n := 2) X hP hS (by omega) (ci := 2) rfl wm_inX2 tyX2 tyX2_ok wq1_34 wq1_36 wq1_2 (fs := [.null, .int (nI 0), .int (nI 0), .int (nI 0)]) (by decide) (by rw [hRe]; dsimp only; omega) (by rw [hRe]; dsimp only; omega) dX6_init_14 (fun H E3 hP hS hN3 hq => ?_)
  have hE0 := (hq 0 (by decide)).trans hE0
  have hN1 := (hq 1 (by decide)).trans hN1
  have hfr : ∀ j, j < 0 → E3 j = E j := fun j h0 => (hq j (by omega)).trans (hfr j h0)
  have hP := wm_Pcg (n' := 3) hP (by omega)
  refine wm_Wcg (a := 2) (d := 12) (by omega) (by omega) ?_
  refine lv_dup X.1 X.2.1 dX6_init_17 rfl ?_
  refine wm_initN (n := 2 + 1) (n1 := 2 + 2) (t := 2) (rest := [.ref (b + 2), .ref (b + 0)]) X hA hP hS (by omega) (kX2_init l D C b E3 2 hN3) (host := "WordMachines") (by decide) wq1_38 wq1_2 wq1_39 rfl (by decide) (by rw [hRe]; exact ⟨Nat.le_of_ble_eq_true rfl, Nat.le_of_ble_eq_true rfl⟩) hl.1 (Nat.le_of_ble_eq_true rfl) (by rw [hRe]; dsimp only; omega) (by rw [hRe]; dsimp only; omega) dX6_init_18 (fun E4 H locs hw hP hS => ?_)
  obtain ⟨hN3, hI4_1, hq⟩ := hw
  have hE0 := (hq 0 (by omega)).trans hE0
  have hN1 := (hq 1 (by omega)).trans hN1
  have hN3 : E4 2 = .inr (2, [.ref (b + 3), .int (nI 1), .int (nI 0), .int (nI 0)]) := hN3
  have hI4_1 : E4 3 = wm_I C 192 (fun _ => 0) := hI4_1
  have hfr : ∀ j, j < 0 → E4 j = E j := fun j h0 => (hq j (by omega)).trans (hfr j h0)
  have hP := wm_Pcg (n' := 4) hP (by omega)
  refine wm_Wcg (a := 3) (d := 204) (by omega) (by omega) ?_
  refine wm_putF (v := .ref (b + 2)) X hnm hP hS (by omega) hE0 rfl wm_inX6 tyX6 tyX6_ok nmX6 1 (by decide) wq1_208 rfl rfl rfl rfl (fs1 := [.ref (b + 1), .ref (b + 2), .null, .int (nI 0), .null, .null, .null]) rfl (Nat.le_of_ble_eq_true rfl) dX6_init_21 (fun H locs E5 hP hS hE0 hq => ?_)
  have hN1 := (hq 1 (by decide)).trans hN1
  have hN3 := (hq 2 (by decide)).trans hN3
  have hI4_1 := (hq 3 (by decide)).trans hI4_1
  have hfr : ∀ j, j < 0 → E5 j = E j := fun j h0 => (hq j (by omega)).trans (hfr j h0)
  refine lv_aload_n X.1 X.2.1 dX6_init_24 rfl (lv_at hl 0 rfl) ?_
  refine lv_sipush (v := nI 200) X.1 X.2.1 dX6_init_25 (by decide) ?_
  refine wm_newa (n := 4) (N := 200) (k := 3) (atype := .byte) (ty := .byte) (a0 := wm_aB 200) X hP hS (by omega) rfl rfl (fun h => h) wq1_97 (wm_dB 200) (by decide) (by decide) (by rw [hRe]; dsimp only; omega) (by rw [hRe]; dsimp only; omega) dX6_init_28 (fun H E6 hP hS hN6 hq => ?_)
  have hN6 : E6 4 = wm_B C 200 (fun j => wm_sb ((fun _ => 0) j)) := hN6
  have hE0 := (hq 0 (by decide)).trans hE0
  have hN1 := (hq 1 (by decide)).trans hN1
  have hN3 := (hq 2 (by decide)).trans hN3
  have hI4_1 := (hq 3 (by decide)).trans hI4_1
  have hfr : ∀ j, j < 0 → E6 j = E j := fun j h0 => (hq j (by omega)).trans (hfr j h0)
  have hP := wm_Pcg (n' := 5) hP (by omega)
  refine wm_Wcg (a := 4) (d := 404) (by omega) (by omega) ?_
  refine wm_putF (v := .ref (b + 4)) X hnm hP hS (by omega) hE0 rfl wm_inX6 tyX6 tyX6_ok nmX6 2 (by decide) wq1_209 rfl rfl rfl rfl (fs1 := [.ref (b + 1), .ref (b + 2), .ref (b + 4), .int (nI 0), .null, .null, .null]) rfl (Nat.le_of_ble_eq_true rfl) dX6_init_30 (fun H locs E7 hP hS hE0 hq => ?_)
  have hN1 := (hq 1 (by decide)).trans hN1
  have hN3 := (hq 2 (by decide)).trans hN3
  have hI4_1 := (hq 3 (by decide)).trans hI4_1
  have hN6 := (hq 4 (by decide)).trans hN6
  have hfr : ∀ j, j < 0 → E7 j = E j := fun j h0 => (hq j (by omega)).trans (hfr j h0)
  refine lv_aload_n X.1 X.2.1 dX6_init_33 rfl (lv_at hl 0 rfl) ?_
  refine lv_iconst (v := nI 0) X.1 X.2.1 dX6_init_34 (by decide) ?_
  refine wm_put (v := .int (nI 0)) X hP hS (by omega) hE0 rfl wm_inX6 tyX6 tyX6_ok nmX6 3 (by decide) wq1_210 rfl rfl rfl (fs1 := [.ref (b + 1), .ref (b + 2), .ref (b + 4), .int (nI 0), .null, .null, .null]) rfl (Nat.le_of_ble_eq_true rfl) dX6_init_35 (fun H locs E8 hP hS hE0 hq => ?_)
  have hN1 := (hq 1 (by decide)).trans hN1
  have hN3 := (hq 2 (by decide)).trans hN3
  have hI4_1 := (hq 3 (by decide)).trans hI4_1
  have hN6 := (hq 4 (by decide)).trans hN6
  have hfr : ∀ j, j < 0 → E8 j = E j := fun j h0 => (hq j (by omega)).trans (hfr j h0)
  refine lv_aload_n X.1 X.2.1 dX6_init_38 rfl (lv_at hl 0 rfl) ?_
  refine wm_newo (n := 5) X hP hS (by omega) (ci := 0) rfl wm_inX0 tyX0 tyX0_ok wq1_65 wq1_66 wq1_3 (fs := [.int (nI 0), .int (nI 0), .null, .null, .null, .int (nI 0), .int (nI 0), .int (nI 0), .int (nI false.toNat), .int (nI 0)]) (by decide) (by rw [hRe]; dsimp only; omega) (by rw [hRe]; dsimp only; omega) dX6_init_39 (fun H E9 hP hS hN9 hq => ?_)
  have hE0 := (hq 0 (by decide)).trans hE0
  have hN1 := (hq 1 (by decide)).trans hN1
  have hN3 := (hq 2 (by decide)).trans hN3
  have hI4_1 := (hq 3 (by decide)).trans hI4_1
  have hN6 := (hq 4 (by decide)).trans hN6
  have hfr : ∀ j, j < 0 → E9 j = E j := fun j h0 => (hq j (by omega)).trans (hfr j h0)
  have hP := wm_Pcg (n' := 6) hP (by omega)
  refine wm_Wcg (a := 5) (d := 414) (by omega) (by omega) ?_
  refine lv_dup X.1 X.2.1 dX6_init_42 rfl ?_
  refine wm_init (n := 6) (n1 := 93) (t := 5) (rest := [.ref (b + 5), .ref (b + 0)]) X hA hP hS (by omega) (kX0_init l D C b E9  hN9) wq1_67 wq1_68 wq1_3 wq1_69 rfl (by decide) (by rw [hRe]; exact ⟨Nat.le_of_ble_eq_true rfl, Nat.le_of_ble_eq_true rfl⟩) hl.1 (Nat.le_of_ble_eq_true rfl) (by rw [hRe]; dsimp only; omega) (by rw [hRe]; dsimp only; omega) dX6_init_43 (fun E10 H locs hw hP hS => ?_)
  obtain ⟨hN9, hI10_1, hI10_2, hI10_3, hq, hp10_0⟩ := hw
  have hE0 := (hq 0 (by omega)).trans hE0
  have hN1 := (hq 1 (by omega)).trans hN1
  have hN3 := (hq 2 (by omega)).trans hN3
  have hI4_1 := (hq 3 (by omega)).trans hI4_1
  have hN6 := (hq 4 (by omega)).trans hN6
  have hN9 : E10 5 = .inr (0, [.int (nI 0), .int (nI 4294967295), .ref (b + 6), .ref (b + 7), .ref (b + 8), .int (nI 0), .int (nI 0), .int (nI 0), .int (nI false.toNat), .int (nI 0)]) := hN9
  have hI10_1 : E10 6 = wm_Q C 5 21 (fun i => some (b + (9 + 4 * i))) := hI10_1
  have hI10_2 : E10 7 = wm_I C 24 (fun _ => 0) := hI10_2
  have hI10_3 : E10 8 = wm_I C 24 (fun _ => 0) := hI10_3
  have hfr : ∀ j, j < 0 → E10 j = E j := fun j h0 => (hq j (by omega)).trans (hfr j h0)
  have hlw := hp10_0
  have hP := wm_Pcg (n' := 93) hP (by omega)
  refine wm_Wcg (a := 92) (d := 756) (by omega) (by omega) ?_
  refine wm_putF (v := .ref (b + 5)) X hnm hP hS (by omega) hE0 rfl wm_inX6 tyX6 tyX6_ok nmX6 4 (by decide) wq1_211 rfl rfl rfl rfl (fs1 := [.ref (b + 1), .ref (b + 2), .ref (b + 4), .int (nI 0), .ref (b + 5), .null, .null]) rfl (Nat.le_of_ble_eq_true rfl) dX6_init_46 (fun H locs E11 hP hS hE0 hq => ?_)
  have hN1 := (hq 1 (by decide)).trans hN1
  have hN3 := (hq 2 (by decide)).trans hN3
  have hI4_1 := (hq 3 (by decide)).trans hI4_1
  have hN6 := (hq 4 (by decide)).trans hN6
  have hN9 := (hq 5 (by decide)).trans hN9
  have hI10_1 := (hq 6 (by decide)).trans hI10_1
  have hI10_2 := (hq 7 (by decide)).trans hI10_2
  have hI10_3 := (hq 8 (by decide)).trans hI10_3
  have hfr : ∀ j, j < 0 → E11 j = E j := fun j h0 => (hq j (by omega)).trans (hfr j h0)
  have hlw : wm_lw b E11 (fun _ => false) (fun _ _ => (false, 0, 0)) := fun k hk => ⟨(hq _ (by omega)).trans (hlw k hk).1, (hq _ (by omega)).trans (hlw k hk).2.1, (hq _ (by omega)).trans (hlw k hk).2.2.1, (hq _ (by omega)).trans (hlw k hk).2.2.2⟩
  refine lv_aload_n X.1 X.2.1 dX6_init_49 rfl (lv_at hl 0 rfl) ?_
  refine wm_newo (n := 93) X hP hS (by omega) (ci := 4) rfl wm_inX4 tyX4 tyX4_ok wq1_148 wq1_149 wq1_6 (fs := [.null, .null, .null, .null, .null, .null, .int (nI 0), .int (nI 0)]) (by decide) (by rw [hRe]; dsimp only; omega) (by rw [hRe]; dsimp only; omega) dX6_init_50 (fun H E12 hP hS hN12 hq => ?_)
  have hE0 := (hq 0 (by decide)).trans hE0
  have hN1 := (hq 1 (by decide)).trans hN1
  have hN3 := (hq 2 (by decide)).trans hN3
  have hI4_1 := (hq 3 (by decide)).trans hI4_1
  have hN6 := (hq 4 (by decide)).trans hN6
  have hN9 := (hq 5 (by decide)).trans hN9
  have hI10_1 := (hq 6 (by decide)).trans hI10_1
  have hI10_2 := (hq 7 (by decide)).trans hI10_2
  have hI10_3 := (hq 8 (by decide)).trans hI10_3
  have hfr : ∀ j, j < 0 → E12 j = E j := fun j h0 => (hq j (by omega)).trans (hfr j h0)
  have hlw : wm_lw b E12 (fun _ => false) (fun _ _ => (false, 0, 0)) := fun k hk => ⟨(hq _ (by omega)).trans (hlw k hk).1, (hq _ (by omega)).trans (hlw k hk).2.1, (hq _ (by omega)).trans (hlw k hk).2.2.1, (hq _ (by omega)).trans (hlw k hk).2.2.2⟩
  have hP := wm_Pcg (n' := 94) hP (by omega)
  refine wm_Wcg (a := 93) (d := 764) (by omega) (by omega) ?_
  refine lv_dup X.1 X.2.1 dX6_init_53 rfl ?_
  refine wm_initN (n := 93 + 1) (n1 := 93 + 7) (t := 93) (rest := [.ref (b + 93), .ref (b + 0)]) X hA hP hS (by omega) (kX4_init l D C b E12 93 hN12) (host := "WordMachines") (by decide) wq1_151 wq1_6 wq1_152 rfl (by decide) (by rw [hRe]; exact ⟨Nat.le_of_ble_eq_true rfl, Nat.le_of_ble_eq_true rfl⟩) hl.1 (Nat.le_of_ble_eq_true rfl) (by rw [hRe]; dsimp only; omega) (by rw [hRe]; dsimp only; omega) dX6_init_54 (fun E13 H locs hw hP hS => ?_)
  obtain ⟨hN12, hI13_1, hI13_2, hI13_3, hI13_4, hI13_5, hI13_6, hq⟩ := hw
  have hE0 := (hq 0 (by omega)).trans hE0
  have hN1 := (hq 1 (by omega)).trans hN1
  have hN3 := (hq 2 (by omega)).trans hN3
  have hI4_1 := (hq 3 (by omega)).trans hI4_1
  have hN6 := (hq 4 (by omega)).trans hN6
  have hN9 := (hq 5 (by omega)).trans hN9
  have hI10_1 := (hq 6 (by omega)).trans hI10_1
  have hI10_2 := (hq 7 (by omega)).trans hI10_2
  have hI10_3 := (hq 8 (by omega)).trans hI10_3
  have hN12 : E13 93 = .inr (4, [.ref (b + 94), .ref (b + 95), .ref (b + 96), .ref (b + 97), .ref (b + 98), .ref (b + 99), .int (nI 0), .int (nI 0)]) := hN12
  have hI13_1 : E13 94 = wm_I C 16384 (fun _ => 0) := hI13_1
  have hI13_2 : E13 95 = wm_Z C 2048 (fun _ => false) := hI13_2
  have hI13_3 : E13 96 = wm_I C 2048 (fun _ => 0) := hI13_3
  have hI13_4 : E13 97 = wm_I C 2048 (fun _ => 0) := hI13_4
  have hI13_5 : E13 98 = wm_J C 2048 (fun _ => 0) := hI13_5
  have hI13_6 : E13 99 = wm_J C 2048 (fun _ => 0) := hI13_6
  have hfr : ∀ j, j < 0 → E13 j = E j := fun j h0 => (hq j (by omega)).trans (hfr j h0)
  have hlw : wm_lw b E13 (fun _ => false) (fun _ _ => (false, 0, 0)) := fun k hk => ⟨(hq _ (by omega)).trans (hlw k hk).1, (hq _ (by omega)).trans (hlw k hk).2.1, (hq _ (by omega)).trans (hlw k hk).2.2.1, (hq _ (by omega)).trans (hlw k hk).2.2.2⟩
  have hP := wm_Pcg (n' := 100) hP (by omega)
  refine wm_Wcg (a := 99) (d := 27388) (by omega) (by omega) ?_
  refine wm_putF (v := .ref (b + 93)) X hnm hP hS (by omega) hE0 rfl wm_inX6 tyX6 tyX6_ok nmX6 5 (by decide) wq1_212 rfl rfl rfl rfl (fs1 := [.ref (b + 1), .ref (b + 2), .ref (b + 4), .int (nI 0), .ref (b + 5), .ref (b + 93), .null]) rfl (Nat.le_of_ble_eq_true rfl) dX6_init_57 (fun H locs E14 hP hS hE0 hq => ?_)
  have hN1 := (hq 1 (by decide)).trans hN1
  have hN3 := (hq 2 (by decide)).trans hN3
  have hI4_1 := (hq 3 (by decide)).trans hI4_1
  have hN6 := (hq 4 (by decide)).trans hN6
  have hN9 := (hq 5 (by decide)).trans hN9
  have hI10_1 := (hq 6 (by decide)).trans hI10_1
  have hI10_2 := (hq 7 (by decide)).trans hI10_2
  have hI10_3 := (hq 8 (by decide)).trans hI10_3
  have hN12 := (hq 93 (by decide)).trans hN12
  have hI13_1 := (hq 94 (by decide)).trans hI13_1
  have hI13_2 := (hq 95 (by decide)).trans hI13_2
  have hI13_3 := (hq 96 (by decide)).trans hI13_3
  have hI13_4 := (hq 97 (by decide)).trans hI13_4
  have hI13_5 := (hq 98 (by decide)).trans hI13_5
  have hI13_6 := (hq 99 (by decide)).trans hI13_6
  have hfr : ∀ j, j < 0 → E14 j = E j := fun j h0 => (hq j (by omega)).trans (hfr j h0)
  have hlw : wm_lw b E14 (fun _ => false) (fun _ _ => (false, 0, 0)) := fun k hk => ⟨(hq _ (by omega)).trans (hlw k hk).1, (hq _ (by omega)).trans (hlw k hk).2.1, (hq _ (by omega)).trans (hlw k hk).2.2.1, (hq _ (by omega)).trans (hlw k hk).2.2.2⟩
  refine lv_aload_n X.1 X.2.1 dX6_init_60 rfl (lv_at hl 0 rfl) ?_
  refine wm_newo (n := 100) X hP hS (by omega) (ci := 5) rfl wm_inX5 tyX5 tyX5_ok wq1_183 wq1_184 wq1_7 (fs := [.null, .null, .int (nI 0), .int (nI 0), .int (nI 0)]) (by decide) (by rw [hRe]; dsimp only; omega) (by rw [hRe]; dsimp only; omega) dX6_init_61 (fun H E15 hP hS hN15 hq => ?_)
  have hE0 := (hq 0 (by decide)).trans hE0
  have hN1 := (hq 1 (by decide)).trans hN1
  have hN3 := (hq 2 (by decide)).trans hN3
  have hI4_1 := (hq 3 (by decide)).trans hI4_1
  have hN6 := (hq 4 (by decide)).trans hN6
  have hN9 := (hq 5 (by decide)).trans hN9
  have hI10_1 := (hq 6 (by decide)).trans hI10_1
  have hI10_2 := (hq 7 (by decide)).trans hI10_2
  have hI10_3 := (hq 8 (by decide)).trans hI10_3
  have hN12 := (hq 93 (by decide)).trans hN12
  have hI13_1 := (hq 94 (by decide)).trans hI13_1
  have hI13_2 := (hq 95 (by decide)).trans hI13_2
  have hI13_3 := (hq 96 (by decide)).trans hI13_3
  have hI13_4 := (hq 97 (by decide)).trans hI13_4
  have hI13_5 := (hq 98 (by decide)).trans hI13_5
  have hI13_6 := (hq 99 (by decide)).trans hI13_6
  have hfr : ∀ j, j < 0 → E15 j = E j := fun j h0 => (hq j (by omega)).trans (hfr j h0)
  have hlw : wm_lw b E15 (fun _ => false) (fun _ _ => (false, 0, 0)) := fun k hk => ⟨(hq _ (by omega)).trans (hlw k hk).1, (hq _ (by omega)).trans (hlw k hk).2.1, (hq _ (by omega)).trans (hlw k hk).2.2.1, (hq _ (by omega)).trans (hlw k hk).2.2.2⟩
  have hP := wm_Pcg (n' := 101) hP (by omega)
  refine wm_Wcg (a := 100) (d := 27393) (by omega) (by omega) ?_
  refine lv_dup X.1 X.2.1 dX6_init_64 rfl ?_
  refine wm_initN (n := 100 + 1) (n1 := 100 + 3) (t := 100) (rest := [.ref (b + 100), .ref (b + 0)]) X hA hP hS (by omega) (kX5_init l D C b E15 100 hN15) (host := "WordMachines") (by decide) wq1_186 wq1_7 wq1_187 rfl (by decide) (by rw [hRe]; exact ⟨Nat.le_of_ble_eq_true rfl, Nat.le_of_ble_eq_true rfl⟩) hl.1 (Nat.le_of_ble_eq_true rfl) (by rw [hRe]; dsimp only; omega) (by rw [hRe]; dsimp only; omega) dX6_init_65 (fun E16 H locs hw hP hS => ?_)
  obtain ⟨hN15, hI16_1, hI16_2, hq⟩ := hw
  have hE0 := (hq 0 (by omega)).trans hE0
  have hN1 := (hq 1 (by omega)).trans hN1
  have hN3 := (hq 2 (by omega)).trans hN3
  have hI4_1 := (hq 3 (by omega)).trans hI4_1
  have hN6 := (hq 4 (by omega)).trans hN6
  have hN9 := (hq 5 (by omega)).trans hN9
  have hI10_1 := (hq 6 (by omega)).trans hI10_1
  have hI10_2 := (hq 7 (by omega)).trans hI10_2
  have hI10_3 := (hq 8 (by omega)).trans hI10_3
  have hN12 := (hq 93 (by omega)).trans hN12
  have hI13_1 := (hq 94 (by omega)).trans hI13_1
  have hI13_2 := (hq 95 (by omega)).trans hI13_2
  have hI13_3 := (hq 96 (by omega)).trans hI13_3
  have hI13_4 := (hq 97 (by omega)).trans hI13_4
  have hI13_5 := (hq 98 (by omega)).trans hI13_5
  have hI13_6 := (hq 99 (by omega)).trans hI13_6
  have hN15 : E16 100 = .inr (5, [.ref (b + 101), .ref (b + 102), .int (nI 0), .int (nI 0), .int (nI 4294967295)]) := hN15
  have hI16_1 : E16 101 = wm_J C 49152 (fun _ => 0) := hI16_1
  have hI16_2 : E16 102 = wm_I C 2048 (fun _ => 0) := hI16_2
  have hfr : ∀ j, j < 0 → E16 j = E j := fun j h0 => (hq j (by omega)).trans (hfr j h0)
  have hlw : wm_lw b E16 (fun _ => false) (fun _ _ => (false, 0, 0)) := fun k hk => ⟨(hq _ (by omega)).trans (hlw k hk).1, (hq _ (by omega)).trans (hlw k hk).2.1, (hq _ (by omega)).trans (hlw k hk).2.2.1, (hq _ (by omega)).trans (hlw k hk).2.2.2⟩
  have hP := wm_Pcg (n' := 103) hP (by omega)
  refine wm_Wcg (a := 102) (d := 78593) (by omega) (by omega) ?_
  refine wm_putF (v := .ref (b + 100)) X hnm hP hS (by omega) hE0 rfl wm_inX6 tyX6 tyX6_ok nmX6 6 (by decide) wq1_213 rfl rfl rfl rfl (fs1 := [.ref (b + 1), .ref (b + 2), .ref (b + 4), .int (nI 0), .ref (b + 5), .ref (b + 93), .ref (b + 100)]) rfl (Nat.le_of_ble_eq_true rfl) dX6_init_68 (fun H locs E17 hP hS hE0 hq => ?_)
  have hN1 := (hq 1 (by decide)).trans hN1
  have hN3 := (hq 2 (by decide)).trans hN3
  have hI4_1 := (hq 3 (by decide)).trans hI4_1
  have hN6 := (hq 4 (by decide)).trans hN6
  have hN9 := (hq 5 (by decide)).trans hN9
  have hI10_1 := (hq 6 (by decide)).trans hI10_1
  have hI10_2 := (hq 7 (by decide)).trans hI10_2
  have hI10_3 := (hq 8 (by decide)).trans hI10_3
  have hN12 := (hq 93 (by decide)).trans hN12
  have hI13_1 := (hq 94 (by decide)).trans hI13_1
  have hI13_2 := (hq 95 (by decide)).trans hI13_2
  have hI13_3 := (hq 96 (by decide)).trans hI13_3
  have hI13_4 := (hq 97 (by decide)).trans hI13_4
  have hI13_5 := (hq 98 (by decide)).trans hI13_5
  have hI13_6 := (hq 99 (by decide)).trans hI13_6
  have hN15 := (hq 100 (by decide)).trans hN15
  have hI16_1 := (hq 101 (by decide)).trans hI16_1
  have hI16_2 := (hq 102 (by decide)).trans hI16_2
  have hfr : ∀ j, j < 0 → E17 j = E j := fun j h0 => (hq j (by omega)).trans (hfr j h0)
  have hlw : wm_lw b E17 (fun _ => false) (fun _ _ => (false, 0, 0)) := fun k hk => ⟨(hq _ (by omega)).trans (hlw k hk).1, (hq _ (by omega)).trans (hlw k hk).2.1, (hq _ (by omega)).trans (hlw k hk).2.2.1, (hq _ (by omega)).trans (hlw k hk).2.2.2⟩
  refine lv_iconst (v := nI 0) X.1 X.2.1 dX6_init_71 (by decide) ?_
  refine lv_istore_n (lv' := [(1, .int (nI 0)), (0, .ref (b + 0))]) X.1 X.2.1 dX6_init_72 rfl hl (by decide) rfl (fun ls hl => ?_)
  have L73 : ∀ (fu : Nat) (i : Nat), 8 - i < fu → i ≤ 8 → ∀ (E18 : Nat → va_E) (H : Heap) (locs : List Loc) (ls : Array Slot), wm_P D b (103 + 2 * i) E18 H → wm_S b s.heap H locs → E18 0 = .inr (6, [.ref (b + 1), .ref (b + 2), .ref (b + 4), .int (nI 0), .ref (b + 5), .ref (b + 93), .ref (b + 100)]) → E18 1 = wm_Q C 4 8 (fun j => if j < i then some (b + (103 + 2 * j)) else none) → E18 2 = .inr (2, [.ref (b + 3), .int (nI 1), .int (nI 0), .int (nI 0)]) → E18 3 = wm_I C 192 (fun _ => 0) → E18 4 = wm_B C 200 (fun j => wm_sb ((fun _ => 0) j)) → E18 5 = .inr (0, [.int (nI 0), .int (nI 4294967295), .ref (b + 6), .ref (b + 7), .ref (b + 8), .int (nI 0), .int (nI 0), .int (nI 0), .int (nI false.toNat), .int (nI 0)]) → E18 6 = wm_Q C 5 21 (fun i => some (b + (9 + 4 * i))) → E18 7 = wm_I C 24 (fun _ => 0) → E18 8 = wm_I C 24 (fun _ => 0) → E18 93 = .inr (4, [.ref (b + 94), .ref (b + 95), .ref (b + 96), .ref (b + 97), .ref (b + 98), .ref (b + 99), .int (nI 0), .int (nI 0)]) → E18 94 = wm_I C 16384 (fun _ => 0) → E18 95 = wm_Z C 2048 (fun _ => false) → E18 96 = wm_I C 2048 (fun _ => 0) → E18 97 = wm_I C 2048 (fun _ => 0) → E18 98 = wm_J C 2048 (fun _ => 0) → E18 99 = wm_J C 2048 (fun _ => 0) → E18 100 = .inr (5, [.ref (b + 101), .ref (b + 102), .int (nI 0), .int (nI 0), .int (nI 4294967295)]) → E18 101 = wm_J C 49152 (fun _ => 0) → E18 102 = wm_I C 2048 (fun _ => 0) → (wm_lw b E18 (fun _ => false) (fun _ _ => (false, 0, 0))) → (∀ k, k < i → E18 (103 + 2 * k) = .inr (2, [.ref (b + (104 + 2 * k)), .int (nI 1), .int (nI 0), .int (nI 0)]) ∧ E18 (104 + 2 * k) = wm_I C 192 (fun _ => 0)) → (∀ j, j < 0 → E18 j = E j) → lv_has ls 2 [(0, .ref (b + 0)), (1, .int (nI i))] → W p l e R s m args below meth c H locs (102 + 2 * i) (78593 + 196 * i) Q (F0 m 73 ls []) := by
    intro fu
    induction fu with
    | zero => intro i hm; exact absurd hm (Nat.not_lt_zero _)
    | succ fu ih73 =>
      intro i hm hi E18 H locs ls hP hS hE0 hN1 hN3 hI4_1 hN6 hN9 hI10_1 hI10_2 hI10_3 hN12 hI13_1 hI13_2 hI13_3 hI13_4 hI13_5 hI13_6 hN15 hI16_1 hI16_2 hlw hmc hfr hl
      refine lv_iload_n X.1 X.2.1 dX6_init_73 rfl (lv_at hl 1 rfl) ?_
      refine lv_bipush (v := nI 8) X.1 X.2.1 dX6_init_74 (by decide) ?_
      refine wm_icmp_ge (x := i) (y := 8) (tgt := 98) X (by omega) (by decide) dX6_init_76 (by decide) (fun hc76 => ?_) (fun hc76 => ?_)
      · have hi9 : i = 8 := by omega
        subst hi9
        obtain ⟨E99, hP, hQ6, hq⟩ := wm_Qeq (g := fun x9 => some (b + (103 + 2 * x9))) hP (by omega) hN1 (fun j hj => if_pos hj)
        have hE0 := (hq 0 (by omega)).trans hE0
        have hN3 := (hq 2 (by omega)).trans hN3
        have hI4_1 := (hq 3 (by omega)).trans hI4_1
        have hN6 := (hq 4 (by omega)).trans hN6
        have hN9 := (hq 5 (by omega)).trans hN9
        have hI10_1 := (hq 6 (by omega)).trans hI10_1
        have hI10_2 := (hq 7 (by omega)).trans hI10_2
        have hI10_3 := (hq 8 (by omega)).trans hI10_3
        have hN12 := (hq 93 (by omega)).trans hN12
        have hI13_1 := (hq 94 (by omega)).trans hI13_1
        have hI13_2 := (hq 95 (by omega)).trans hI13_2
        have hI13_3 := (hq 96 (by omega)).trans hI13_3
        have hI13_4 := (hq 97 (by omega)).trans hI13_4
        have hI13_5 := (hq 98 (by omega)).trans hI13_5
        have hI13_6 := (hq 99 (by omega)).trans hI13_6
        have hN15 := (hq 100 (by omega)).trans hN15
        have hI16_1 := (hq 101 (by omega)).trans hI16_1
        have hI16_2 := (hq 102 (by omega)).trans hI16_2
        have hlw : wm_lw b E99 (fun _ => false) (fun _ _ => (false, 0, 0)) := fun k hk => ⟨(hq _ (by omega)).trans (hlw k hk).1, (hq _ (by omega)).trans (hlw k hk).2.1, (hq _ (by omega)).trans (hlw k hk).2.2.1, (hq _ (by omega)).trans (hlw k hk).2.2.2⟩
        have hmc : ∀ k, k < 8 → E99 (103 + 2 * k) = .inr (2, [.ref (b + (104 + 2 * k)), .int (nI 1), .int (nI 0), .int (nI 0)]) ∧ E99 (104 + 2 * k) = wm_I C 192 (fun _ => 0) := fun k hk => ⟨(hq _ (by omega)).trans (hmc k hk).1, (hq _ (by omega)).trans (hmc k hk).2⟩
        have hfr : ∀ j, j < 0 → E99 j = E j := fun j h0 => absurd h0 (Nat.not_lt_zero _)
        have hP := wm_Pcg (n' := 119) hP (by omega)
        refine wm_Wcg (a := 118) (d := 80161) (by omega) (by omega) ?_
        exact wm_vret (post := pX6_init C b E) X hr hP hS ⟨hE0, hQ6, hN3, hI4_1, hN6, hN9, hI10_1, hI10_2, hI10_3, hN12, hI13_1, hI13_2, hI13_3, hI13_4, hI13_5, hI13_6, hN15, hI16_1, hI16_2, hfr, hlw, hmc⟩ hQ dX6_init_98
      · refine lv_aload_n X.1 X.2.1 dX6_init_79 rfl (lv_at hl 0 rfl) ?_
        refine wm_get X hP (by omega) hE0 rfl wm_inX6 0 (by decide) wq1_207 rfl dX6_init_80 ?_
        refine lv_iload_n X.1 X.2.1 dX6_init_83 rfl (lv_at hl 1 rfl) ?_
        refine wm_newo (n := 103 + 2 * i) X hP hS (by omega) (ci := 2) rfl wm_inX2 tyX2 tyX2_ok wq1_34 wq1_36 wq1_2 (fs := [.null, .int (nI 0), .int (nI 0), .int (nI 0)]) (by decide) (by rw [hRe]; dsimp only; omega) (by rw [hRe]; dsimp only; omega) dX6_init_84 (fun H E20 hP hS hN20 hq => ?_)
        have hE0 := (hq 0 (by omega)).trans hE0
        have hN1 := (hq 1 (by omega)).trans hN1
        have hN3 := (hq 2 (by omega)).trans hN3
        have hI4_1 := (hq 3 (by omega)).trans hI4_1
        have hN6 := (hq 4 (by omega)).trans hN6
        have hN9 := (hq 5 (by omega)).trans hN9
        have hI10_1 := (hq 6 (by omega)).trans hI10_1
        have hI10_2 := (hq 7 (by omega)).trans hI10_2
        have hI10_3 := (hq 8 (by omega)).trans hI10_3
        have hN12 := (hq 93 (by omega)).trans hN12
        have hI13_1 := (hq 94 (by omega)).trans hI13_1
        have hI13_2 := (hq 95 (by omega)).trans hI13_2
        have hI13_3 := (hq 96 (by omega)).trans hI13_3
        have hI13_4 := (hq 97 (by omega)).trans hI13_4
        have hI13_5 := (hq 98 (by omega)).trans hI13_5
        have hI13_6 := (hq 99 (by omega)).trans hI13_6
        have hN15 := (hq 100 (by omega)).trans hN15
        have hI16_1 := (hq 101 (by omega)).trans hI16_1
        have hI16_2 := (hq 102 (by omega)).trans hI16_2
        have hfr : ∀ j, j < 0 → E20 j = E j := fun j h0 => (hq j (by omega)).trans (hfr j h0)
        have hlw : wm_lw b E20 (fun _ => false) (fun _ _ => (false, 0, 0)) := fun k hk => ⟨(hq _ (by omega)).trans (hlw k hk).1, (hq _ (by omega)).trans (hlw k hk).2.1, (hq _ (by omega)).trans (hlw k hk).2.2.1, (hq _ (by omega)).trans (hlw k hk).2.2.2⟩
        have hmc : ∀ k, k < i → E20 (103 + 2 * k) = .inr (2, [.ref (b + (104 + 2 * k)), .int (nI 1), .int (nI 0), .int (nI 0)]) ∧ E20 (104 + 2 * k) = wm_I C 192 (fun _ => 0) := fun k hk => ⟨(hq _ (by omega)).trans (hmc k hk).1, (hq _ (by omega)).trans (hmc k hk).2⟩
        have hP := wm_Pcg (n' := 103 + 2 * i + 1) hP (by omega)
        refine wm_Wcg (a := 102 + 2 * i + 1) (d := 78593 + 196 * i + 4) (by omega) (by omega) ?_
        refine lv_dup X.1 X.2.1 dX6_init_87 rfl ?_
        refine wm_initN (n := (103 + 2 * i) + 1) (n1 := (103 + 2 * i) + 2) (t := (103 + 2 * i)) (rest := [.ref (b + (103 + 2 * i)), .int (nI i), .ref (b + 1)]) X hA hP hS (by omega) (kX2_init l D C b E20 (103 + 2 * i) hN20) (host := "WordMachines") (by decide) wq1_38 wq1_2 wq1_39 rfl (by decide) (by rw [hRe]; exact ⟨Nat.le_of_ble_eq_true rfl, Nat.le_of_ble_eq_true rfl⟩) hl.1 (Nat.le_of_ble_eq_true rfl) (by rw [hRe]; dsimp only; omega) (by rw [hRe]; dsimp only; omega) dX6_init_88 (fun E21 H locs hw hP hS => ?_)
        obtain ⟨hN20, hI21_1, hq⟩ := hw
        have hE0 := (hq 0 (by omega)).trans hE0
        have hN1 := (hq 1 (by omega)).trans hN1
        have hN3 := (hq 2 (by omega)).trans hN3
        have hI4_1 := (hq 3 (by omega)).trans hI4_1
        have hN6 := (hq 4 (by omega)).trans hN6
        have hN9 := (hq 5 (by omega)).trans hN9
        have hI10_1 := (hq 6 (by omega)).trans hI10_1
        have hI10_2 := (hq 7 (by omega)).trans hI10_2
        have hI10_3 := (hq 8 (by omega)).trans hI10_3
        have hN12 := (hq 93 (by omega)).trans hN12
        have hI13_1 := (hq 94 (by omega)).trans hI13_1
        have hI13_2 := (hq 95 (by omega)).trans hI13_2
        have hI13_3 := (hq 96 (by omega)).trans hI13_3
        have hI13_4 := (hq 97 (by omega)).trans hI13_4
        have hI13_5 := (hq 98 (by omega)).trans hI13_5
        have hI13_6 := (hq 99 (by omega)).trans hI13_6
        have hN15 := (hq 100 (by omega)).trans hN15
        have hI16_1 := (hq 101 (by omega)).trans hI16_1
        have hI16_2 := (hq 102 (by omega)).trans hI16_2
        have hN20 : E21 (103 + 2 * i) = .inr (2, [.ref (b + (103 + 2 * i + 1)), .int (nI 1), .int (nI 0), .int (nI 0)]) := hN20
        have hI21_1 : E21 (103 + 2 * i + 1) = wm_I C 192 (fun _ => 0) := hI21_1
        have hfr : ∀ j, j < 0 → E21 j = E j := fun j h0 => (hq j (by omega)).trans (hfr j h0)
        have hlw : wm_lw b E21 (fun _ => false) (fun _ _ => (false, 0, 0)) := fun k hk => ⟨(hq _ (by omega)).trans (hlw k hk).1, (hq _ (by omega)).trans (hlw k hk).2.1, (hq _ (by omega)).trans (hlw k hk).2.2.1, (hq _ (by omega)).trans (hlw k hk).2.2.2⟩
        have hmc : ∀ k, k < i → E21 (103 + 2 * k) = .inr (2, [.ref (b + (104 + 2 * k)), .int (nI 1), .int (nI 0), .int (nI 0)]) ∧ E21 (104 + 2 * k) = wm_I C 192 (fun _ => 0) := fun k hk => ⟨(hq _ (by omega)).trans (hmc k hk).1, (hq _ (by omega)).trans (hmc k hk).2⟩
        have hP := wm_Pcg (n' := 103 + 2 * i + 2) hP (by omega)
        refine wm_Wcg (a := 102 + 2 * i + 2) (d := 78593 + 196 * i + 196) (by omega) (by omega) ?_
        refine wm_aast (i := i) (v := (103 + 2 * i)) X hP hS (by omega) hN1 rfl (by omega) hN20 rfl (by omega) (by decide) dX6_init_91 (fun H locs E22 hP hS hN1 hq => ?_)
        have hE0 := (hq 0 (by decide)).trans hE0
        have hN3 := (hq 2 (by decide)).trans hN3
        have hI4_1 := (hq 3 (by decide)).trans hI4_1
        have hN6 := (hq 4 (by decide)).trans hN6
        have hN9 := (hq 5 (by decide)).trans hN9
        have hI10_1 := (hq 6 (by decide)).trans hI10_1
        have hI10_2 := (hq 7 (by decide)).trans hI10_2
        have hI10_3 := (hq 8 (by decide)).trans hI10_3
        have hN12 := (hq 93 (by decide)).trans hN12
        have hI13_1 := (hq 94 (by decide)).trans hI13_1
        have hI13_2 := (hq 95 (by decide)).trans hI13_2
        have hI13_3 := (hq 96 (by decide)).trans hI13_3
        have hI13_4 := (hq 97 (by decide)).trans hI13_4
        have hI13_5 := (hq 98 (by decide)).trans hI13_5
        have hI13_6 := (hq 99 (by decide)).trans hI13_6
        have hN15 := (hq 100 (by decide)).trans hN15
        have hI16_1 := (hq 101 (by decide)).trans hI16_1
        have hI16_2 := (hq 102 (by decide)).trans hI16_2
        have hN20 := (hq (103 + 2 * i) (by omega)).trans hN20
        have hI21_1 := (hq (103 + 2 * i + 1) (by omega)).trans hI21_1
        have hfr : ∀ j, j < 0 → E22 j = E j := fun j h0 => (hq j (by omega)).trans (hfr j h0)
        have hlw : wm_lw b E22 (fun _ => false) (fun _ _ => (false, 0, 0)) := fun k hk => ⟨(hq _ (by omega)).trans (hlw k hk).1, (hq _ (by omega)).trans (hlw k hk).2.1, (hq _ (by omega)).trans (hlw k hk).2.2.1, (hq _ (by omega)).trans (hlw k hk).2.2.2⟩
        have hmc : ∀ k, k < i → E22 (103 + 2 * k) = .inr (2, [.ref (b + (104 + 2 * k)), .int (nI 1), .int (nI 0), .int (nI 0)]) ∧ E22 (104 + 2 * k) = wm_I C 192 (fun _ => 0) := fun k hk => ⟨(hq _ (by omega)).trans (hmc k hk).1, (hq _ (by omega)).trans (hmc k hk).2⟩
        refine lv_iinc (v := nI (i + 1)) (lv' := [(1, .int (nI (i + 1))), (0, .ref (b + 0))]) X.1 X.2.1 dX6_init_92 hl (k := 1) rfl (wm_inc i) (by decide) rfl (fun ls hl => ?_)
        refine lv_goto (tgt := 73) X.1 X.2.1 dX6_init_95 (by decide) ?_
        have hP := wm_Pcg (n' := 103 + 2 * (i + 1)) hP (by omega)
        refine wm_Wcg (a := 102 + 2 * (i + 1)) (d := 78593 + 196 * (i + 1)) (by omega) (by omega) ?_
        have hmc : ∀ k, k < i + 1 → E22 (103 + 2 * k) = .inr (2, [.ref (b + (104 + 2 * k)), .int (nI 1), .int (nI 0), .int (nI 0)]) ∧ E22 (104 + 2 * k) = wm_I C 192 (fun _ => 0) := wm_mcs hmc hN20 hI21_1
        exact ih73 (i + 1) (by omega) (by omega) E22 _ _ _ hP hS hE0 (hN1.trans (congrArg (wm_Q C 4 8) (wm_upl (fun j => b + (103 + 2 * j)) i))) hN3 hI4_1 hN6 hN9 hI10_1 hI10_2 hI10_3 hN12 hI13_1 hI13_2 hI13_3 hI13_4 hI13_5 hI13_6 hN15 hI16_1 hI16_2 hlw hmc hfr (lv_sub hl [1, 0] rfl)
  have hP := wm_Pcg (n' := 103 + 2 * 0) hP (by omega)
  refine wm_Wcg (a := 102 + 2 * 0) (d := 78593 + 196 * 0) (by omega) (by omega) ?_
  exact L73 (8 + 1) 0 (by omega) (by omega) E17 _ _ _ hP hS hE0 (hN1.trans (congrArg (wm_Q C 4 8) (funext fun j => (if_neg (Nat.not_lt_zero j)).symm))) hN3 hI4_1 hN6 hN9 hI10_1 hI10_2 hI10_3 hN12 hI13_1 hI13_2 hI13_3 hI13_4 hI13_5 hI13_6 hN15 hI16_1 hI16_2 hlw (fun k hk => absurd hk (Nat.not_lt_zero _)) hfr (lv_sub hl [1, 0] rfl)
def pX7_init (C : Nat → ClassId) (b : Nat) (E : Nat → va_E)  : (Nat → va_E) → Prop := fun E' => E' 119 = .inr (7, [.int (nI 0), .ref (b + 120), .int (nI 0), .int (nI 0), .int (nI 4294967295), .ref (b + 121), .ref (b + 122), .ref (b + 123), .ref (b + 124), .ref (b + 125), .ref (b + 126), .ref (b + 127), .int (nI 0), .int (nI 0), .ref (b + 128), .ref (b + 129), .ref (b + 130), .ref (b + 131), .ref (b + 132), .ref (b + 133), .int (nI 0), .int (nI false.toNat), .int (nI 0), .int (nI 0), .ref (b + 134), .ref (b + 135), .ref (b + 136), .int (nI 0), .ref (b + 137), .ref (b + 138), .ref (b + 139), .int (nI 0), .ref (b + 140), .int (nI 4294967295), .ref (b + 141), .ref (b + 142), .ref (b + 143), .ref (b + 144), .ref (b + 145)]) ∧ E' 120 = wm_I C 200 (fun _ => 0) ∧ E' 121 = wm_I C 1536 (fun _ => 0) ∧ E' 122 = wm_I C 8 (fun j => if j < 8 then 1 else 0) ∧ E' 123 = wm_I C 8 (fun _ => 0) ∧ E' 124 = wm_I C 8 (fun _ => 0) ∧ E' 125 = wm_I C 192 (fun _ => 0) ∧ E' 126 = wm_I C 24 (fun _ => 0) ∧ E' 127 = wm_I C 24 (fun _ => 0) ∧ E' 128 = wm_Z C 22 (fun _ => false) ∧ E' 129 = wm_I C 22 (fun _ => 0) ∧ E' 130 = wm_I C 22 (fun _ => 0) ∧ E' 131 = wm_Z C 22 (fun _ => false) ∧ E' 132 = wm_I C 22 (fun _ => 0) ∧ E' 133 = wm_I C 22 (fun _ => 0) ∧ E' 134 = wm_I C 49152 (fun _ => 0) ∧ E' 135 = wm_I C 49152 (fun _ => 0) ∧ E' 136 = wm_Z C 49152 (fun _ => false) ∧ E' 137 = wm_I C 49153 (fun _ => 0) ∧ E' 138 = wm_I C 49153 (fun _ => 0) ∧ E' 139 = wm_I C 49153 (fun _ => 0) ∧ E' 140 = wm_I C 49153 (fun _ => 0) ∧ E' 141 = wm_J C 2048 (fun _ => 0) ∧ E' 142 = wm_J C 2048 (fun _ => 0) ∧ E' 143 = wm_I C 2048 (fun _ => 0) ∧ E' 144 = wm_I C 2048 (fun _ => 0) ∧ E' 145 = wm_Z C 2048 (fun _ => false) ∧ (∀ j, j < 119 → E' j = E j)
set_option maxHeartbeats 4000000 in
set_option maxRecDepth 100000 in
theorem kX7_init (l : Launch) (D : va_G) (C : Nat → ClassId) (b : Nat) (E : Nat → va_E)  (hE0 : E 119 = .inr (7, [.int (nI 0), .null, .int (nI 0), .int (nI 0), .int (nI 0), .null, .null, .null, .null, .null, .null, .null, .int (nI 0), .int (nI 0), .null, .null, .null, .null, .null, .null, .int (nI 0), .int (nI false.toNat), .int (nI 0), .int (nI 0), .null, .null, .null, .int (nI 0), .null, .null, .null, .int (nI 0), .null, .int (nI 0), .null, .null, .null, .null, .null])) : Met l yX7_init (wm_ws yX7_init cX7_init 2 none) { frames := 1, cells := 26, slots := 356440, locals := 12 } (va_Pc [.ref (b + 119)] (wm_GC D C b 120 E)) (va_Qv (pX7_init C b E) (fun E' u9 => wm_P D b 146 E' u9.heap) (wm_A b)) 26 356440 (wm_A b) := by
  refine wm_ofWC (by decide) (Nat.le_of_ble_eq_true rfl) (fun p e s m below meth c ls R args Q hRe hQ X hr hnm hP hS hl hz0 hA => ?_)
  have hl : lv_has ls 2 [(0, .ref (b + 119))] := hl
  have hfr : ∀ j, j < 119 → E j = E j := fun _ _ => rfl
  refine lv_aload_n X.1 X.2.1 dX7_init_0 rfl (lv_at hl 0 rfl) ?_
  refine wm_oinit X wq5_19 wq1_32 wq1_33 hl.1 dX7_init_1 (by rw [hRe]; exact Nat.le_of_ble_eq_true rfl) (by rw [hRe]; exact Nat.le_of_ble_eq_true rfl) ?_
  refine lv_aload_n X.1 X.2.1 dX7_init_4 rfl (lv_at hl 0 rfl) ?_
  refine lv_sipush (v := nI 200) X.1 X.2.1 dX7_init_5 (by decide) ?_
  refine wm_newa (n := 120) (N := 200) (k := 0) (atype := .int) (ty := .int) (a0 := wm_aI 200) X hP hS (by omega) rfl rfl (fun h => h) wq1_64 (wm_dI 200) (by decide) (by decide) (by rw [hRe]; dsimp only; omega) (by rw [hRe]; dsimp only; omega) dX7_init_8 (fun H E1 hP hS hN1 hq => ?_)
  have hN1 : E1 120 = wm_I C 200 (fun _ => 0) := hN1
  have hE0 := (hq 119 (by decide)).trans hE0
  have hfr : ∀ j, j < 119 → E1 j = E j := fun j h0 => (hq j (by omega)).trans (hfr j h0)
  have hP := wm_Pcg (n' := 121) hP (by omega)
  refine wm_Wcg (a := 1) (d := 200) (by omega) (by omega) ?_
  refine wm_putF (v := .ref (b + 120)) X hnm hP hS (by omega) hE0 rfl wm_inX7 tyX7 tyX7_ok nmX7 1 (by decide) wq5_23 rfl rfl rfl rfl (fs1 := [.int (nI 0), .ref (b + 120), .int (nI 0), .int (nI 0), .int (nI 0), .null, .null, .null, .null, .null, .null, .null, .int (nI 0), .int (nI 0), .null, .null, .null, .null, .null, .null, .int (nI 0), .int (nI false.toNat), .int (nI 0), .int (nI 0), .null, .null, .null, .int (nI 0), .null, .null, .null, .int (nI 0), .null, .int (nI 0), .null, .null, .null, .null, .null]) rfl (Nat.le_of_ble_eq_true rfl) dX7_init_10 (fun H locs E2 hP hS hE0 hq => ?_)
  have hN1 := (hq 120 (by decide)).trans hN1
  have hfr : ∀ j, j < 119 → E2 j = E j := fun j h0 => (hq j (by omega)).trans (hfr j h0)
  refine lv_aload_n X.1 X.2.1 dX7_init_13 rfl (lv_at hl 0 rfl) ?_
  refine lv_iconst (v := nI 4294967295) X.1 X.2.1 dX7_init_14 (by decide) ?_
  refine wm_put (v := .int (nI 4294967295)) X hP hS (by omega) hE0 rfl wm_inX7 tyX7 tyX7_ok nmX7 4 (by decide) wq5_26 rfl rfl rfl (fs1 := [.int (nI 0), .ref (b + 120), .int (nI 0), .int (nI 0), .int (nI 4294967295), .null, .null, .null, .null, .null, .null, .null, .int (nI 0), .int (nI 0), .null, .null, .null, .null, .null, .null, .int (nI 0), .int (nI false.toNat), .int (nI 0), .int (nI 0), .null, .null, .null, .int (nI 0), .null, .null, .null, .int (nI 0), .null, .int (nI 0), .null, .null, .null, .null, .null]) rfl (Nat.le_of_ble_eq_true rfl) dX7_init_15 (fun H locs E3 hP hS hE0 hq => ?_)
  have hN1 := (hq 120 (by decide)).trans hN1
  have hfr : ∀ j, j < 119 → E3 j = E j := fun j h0 => (hq j (by omega)).trans (hfr j h0)
  refine lv_aload_n X.1 X.2.1 dX7_init_18 rfl (lv_at hl 0 rfl) ?_
  refine lv_sipush (v := nI 1536) X.1 X.2.1 dX7_init_19 (by decide) ?_
  refine wm_newa (n := 121) (N := 1536) (k := 0) (atype := .int) (ty := .int) (a0 := wm_aI 1536) X hP hS (by omega) rfl rfl (fun h => h) wq1_64 (wm_dI 1536) (by decide) (by decide) (by rw [hRe]; dsimp only; omega) (by rw [hRe]; dsimp only; omega) dX7_init_22 (fun H E4 hP hS hN4 hq => ?_)
  have hN4 : E4 121 = wm_I C 1536 (fun _ => 0) := hN4
  have hE0 := (hq 119 (by decide)).trans hE0
  have hN1 := (hq 120 (by decide)).trans hN1
  have hfr : ∀ j, j < 119 → E4 j = E j := fun j h0 => (hq j (by omega)).trans (hfr j h0)
  have hP := wm_Pcg (n' := 122) hP (by omega)
  refine wm_Wcg (a := 2) (d := 1736) (by omega) (by omega) ?_
  refine wm_putF (v := .ref (b + 121)) X hnm hP hS (by omega) hE0 rfl wm_inX7 tyX7 tyX7_ok nmX7 5 (by decide) wq5_27 rfl rfl rfl rfl (fs1 := [.int (nI 0), .ref (b + 120), .int (nI 0), .int (nI 0), .int (nI 4294967295), .ref (b + 121), .null, .null, .null, .null, .null, .null, .int (nI 0), .int (nI 0), .null, .null, .null, .null, .null, .null, .int (nI 0), .int (nI false.toNat), .int (nI 0), .int (nI 0), .null, .null, .null, .int (nI 0), .null, .null, .null, .int (nI 0), .null, .int (nI 0), .null, .null, .null, .null, .null]) rfl (Nat.le_of_ble_eq_true rfl) dX7_init_24 (fun H locs E5 hP hS hE0 hq => ?_)
  have hN1 := (hq 120 (by decide)).trans hN1
  have hN4 := (hq 121 (by decide)).trans hN4
  have hfr : ∀ j, j < 119 → E5 j = E j := fun j h0 => (hq j (by omega)).trans (hfr j h0)
  refine lv_aload_n X.1 X.2.1 dX7_init_27 rfl (lv_at hl 0 rfl) ?_
  refine lv_bipush (v := nI 8) X.1 X.2.1 dX7_init_28 (by decide) ?_
  refine wm_newa (n := 122) (N := 8) (k := 0) (atype := .int) (ty := .int) (a0 := wm_aI 8) X hP hS (by omega) rfl rfl (fun h => h) wq1_64 (wm_dI 8) (by decide) (by decide) (by rw [hRe]; dsimp only; omega) (by rw [hRe]; dsimp only; omega) dX7_init_30 (fun H E6 hP hS hN6 hq => ?_)
  have hN6 : E6 122 = wm_I C 8 (fun _ => 0) := hN6
  have hE0 := (hq 119 (by decide)).trans hE0
  have hN1 := (hq 120 (by decide)).trans hN1
  have hN4 := (hq 121 (by decide)).trans hN4
  have hfr : ∀ j, j < 119 → E6 j = E j := fun j h0 => (hq j (by omega)).trans (hfr j h0)
  have hP := wm_Pcg (n' := 123) hP (by omega)
  refine wm_Wcg (a := 3) (d := 1744) (by omega) (by omega) ?_
  refine wm_putF (v := .ref (b + 122)) X hnm hP hS (by omega) hE0 rfl wm_inX7 tyX7 tyX7_ok nmX7 6 (by decide) wq5_28 rfl rfl rfl rfl (fs1 := [.int (nI 0), .ref (b + 120), .int (nI 0), .int (nI 0), .int (nI 4294967295), .ref (b + 121), .ref (b + 122), .null, .null, .null, .null, .null, .int (nI 0), .int (nI 0), .null, .null, .null, .null, .null, .null, .int (nI 0), .int (nI false.toNat), .int (nI 0), .int (nI 0), .null, .null, .null, .int (nI 0), .null, .null, .null, .int (nI 0), .null, .int (nI 0), .null, .null, .null, .null, .null]) rfl (Nat.le_of_ble_eq_true rfl) dX7_init_32 (fun H locs E7 hP hS hE0 hq => ?_)
  have hN1 := (hq 120 (by decide)).trans hN1
  have hN4 := (hq 121 (by decide)).trans hN4
  have hN6 := (hq 122 (by decide)).trans hN6
  have hfr : ∀ j, j < 119 → E7 j = E j := fun j h0 => (hq j (by omega)).trans (hfr j h0)
  refine lv_aload_n X.1 X.2.1 dX7_init_35 rfl (lv_at hl 0 rfl) ?_
  refine lv_bipush (v := nI 8) X.1 X.2.1 dX7_init_36 (by decide) ?_
  refine wm_newa (n := 123) (N := 8) (k := 0) (atype := .int) (ty := .int) (a0 := wm_aI 8) X hP hS (by omega) rfl rfl (fun h => h) wq1_64 (wm_dI 8) (by decide) (by decide) (by rw [hRe]; dsimp only; omega) (by rw [hRe]; dsimp only; omega) dX7_init_38 (fun H E8 hP hS hN8 hq => ?_)
  have hN8 : E8 123 = wm_I C 8 (fun _ => 0) := hN8
  have hE0 := (hq 119 (by decide)).trans hE0
  have hN1 := (hq 120 (by decide)).trans hN1
  have hN4 := (hq 121 (by decide)).trans hN4
  have hN6 := (hq 122 (by decide)).trans hN6
  have hfr : ∀ j, j < 119 → E8 j = E j := fun j h0 => (hq j (by omega)).trans (hfr j h0)
  have hP := wm_Pcg (n' := 124) hP (by omega)
  refine wm_Wcg (a := 4) (d := 1752) (by omega) (by omega) ?_
  refine wm_putF (v := .ref (b + 123)) X hnm hP hS (by omega) hE0 rfl wm_inX7 tyX7 tyX7_ok nmX7 7 (by decide) wq5_29 rfl rfl rfl rfl (fs1 := [.int (nI 0), .ref (b + 120), .int (nI 0), .int (nI 0), .int (nI 4294967295), .ref (b + 121), .ref (b + 122), .ref (b + 123), .null, .null, .null, .null, .int (nI 0), .int (nI 0), .null, .null, .null, .null, .null, .null, .int (nI 0), .int (nI false.toNat), .int (nI 0), .int (nI 0), .null, .null, .null, .int (nI 0), .null, .null, .null, .int (nI 0), .null, .int (nI 0), .null, .null, .null, .null, .null]) rfl (Nat.le_of_ble_eq_true rfl) dX7_init_40 (fun H locs E9 hP hS hE0 hq => ?_)
  have hN1 := (hq 120 (by decide)).trans hN1
  have hN4 := (hq 121 (by decide)).trans hN4
  have hN6 := (hq 122 (by decide)).trans hN6
  have hN8 := (hq 123 (by decide)).trans hN8
  have hfr : ∀ j, j < 119 → E9 j = E j := fun j h0 => (hq j (by omega)).trans (hfr j h0)
  refine lv_aload_n X.1 X.2.1 dX7_init_43 rfl (lv_at hl 0 rfl) ?_
  refine lv_bipush (v := nI 8) X.1 X.2.1 dX7_init_44 (by decide) ?_
  refine wm_newa (n := 124) (N := 8) (k := 0) (atype := .int) (ty := .int) (a0 := wm_aI 8) X hP hS (by omega) rfl rfl (fun h => h) wq1_64 (wm_dI 8) (by decide) (by decide) (by rw [hRe]; dsimp only; omega) (by rw [hRe]; dsimp only; omega) dX7_init_46 (fun H E10 hP hS hN10 hq => ?_)
  have hN10 : E10 124 = wm_I C 8 (fun _ => 0) := hN10
  have hE0 := (hq 119 (by decide)).trans hE0
  have hN1 := (hq 120 (by decide)).trans hN1
  have hN4 := (hq 121 (by decide)).trans hN4
  have hN6 := (hq 122 (by decide)).trans hN6
  have hN8 := (hq 123 (by decide)).trans hN8
  have hfr : ∀ j, j < 119 → E10 j = E j := fun j h0 => (hq j (by omega)).trans (hfr j h0)
  have hP := wm_Pcg (n' := 125) hP (by omega)
  refine wm_Wcg (a := 5) (d := 1760) (by omega) (by omega) ?_
  refine wm_putF (v := .ref (b + 124)) X hnm hP hS (by omega) hE0 rfl wm_inX7 tyX7 tyX7_ok nmX7 8 (by decide) wq5_30 rfl rfl rfl rfl (fs1 := [.int (nI 0), .ref (b + 120), .int (nI 0), .int (nI 0), .int (nI 4294967295), .ref (b + 121), .ref (b + 122), .ref (b + 123), .ref (b + 124), .null, .null, .null, .int (nI 0), .int (nI 0), .null, .null, .null, .null, .null, .null, .int (nI 0), .int (nI false.toNat), .int (nI 0), .int (nI 0), .null, .null, .null, .int (nI 0), .null, .null, .null, .int (nI 0), .null, .int (nI 0), .null, .null, .null, .null, .null]) rfl (Nat.le_of_ble_eq_true rfl) dX7_init_48 (fun H locs E11 hP hS hE0 hq => ?_)
  have hN1 := (hq 120 (by decide)).trans hN1
  have hN4 := (hq 121 (by decide)).trans hN4
  have hN6 := (hq 122 (by decide)).trans hN6
  have hN8 := (hq 123 (by decide)).trans hN8
  have hN10 := (hq 124 (by decide)).trans hN10
  have hfr : ∀ j, j < 119 → E11 j = E j := fun j h0 => (hq j (by omega)).trans (hfr j h0)
  refine lv_aload_n X.1 X.2.1 dX7_init_51 rfl (lv_at hl 0 rfl) ?_
  refine lv_sipush (v := nI 192) X.1 X.2.1 dX7_init_52 (by decide) ?_
  refine wm_newa (n := 125) (N := 192) (k := 0) (atype := .int) (ty := .int) (a0 := wm_aI 192) X hP hS (by omega) rfl rfl (fun h => h) wq1_64 (wm_dI 192) (by decide) (by decide) (by rw [hRe]; dsimp only; omega) (by rw [hRe]; dsimp only; omega) dX7_init_55 (fun H E12 hP hS hN12 hq => ?_)
  have hN12 : E12 125 = wm_I C 192 (fun _ => 0) := hN12
  have hE0 := (hq 119 (by decide)).trans hE0
  have hN1 := (hq 120 (by decide)).trans hN1
  have hN4 := (hq 121 (by decide)).trans hN4
  have hN6 := (hq 122 (by decide)).trans hN6
  have hN8 := (hq 123 (by decide)).trans hN8
  have hN10 := (hq 124 (by decide)).trans hN10
  have hfr : ∀ j, j < 119 → E12 j = E j := fun j h0 => (hq j (by omega)).trans (hfr j h0)
  have hP := wm_Pcg (n' := 126) hP (by omega)
  refine wm_Wcg (a := 6) (d := 1952) (by omega) (by omega) ?_
  refine wm_putF (v := .ref (b + 125)) X hnm hP hS (by omega) hE0 rfl wm_inX7 tyX7 tyX7_ok nmX7 9 (by decide) wq5_31 rfl rfl rfl rfl (fs1 := [.int (nI 0), .ref (b + 120), .int (nI 0), .int (nI 0), .int (nI 4294967295), .ref (b + 121), .ref (b + 122), .ref (b + 123), .ref (b + 124), .ref (b + 125), .null, .null, .int (nI 0), .int (nI 0), .null, .null, .null, .null, .null, .null, .int (nI 0), .int (nI false.toNat), .int (nI 0), .int (nI 0), .null, .null, .null, .int (nI 0), .null, .null, .null, .int (nI 0), .null, .int (nI 0), .null, .null, .null, .null, .null]) rfl (Nat.le_of_ble_eq_true rfl) dX7_init_57 (fun H locs E13 hP hS hE0 hq => ?_)
  have hN1 := (hq 120 (by decide)).trans hN1
  have hN4 := (hq 121 (by decide)).trans hN4
  have hN6 := (hq 122 (by decide)).trans hN6
  have hN8 := (hq 123 (by decide)).trans hN8
  have hN10 := (hq 124 (by decide)).trans hN10
  have hN12 := (hq 125 (by decide)).trans hN12
  have hfr : ∀ j, j < 119 → E13 j = E j := fun j h0 => (hq j (by omega)).trans (hfr j h0)
  refine lv_aload_n X.1 X.2.1 dX7_init_60 rfl (lv_at hl 0 rfl) ?_
  refine lv_bipush (v := nI 24) X.1 X.2.1 dX7_init_61 (by decide) ?_
  refine wm_newa (n := 126) (N := 24) (k := 0) (atype := .int) (ty := .int) (a0 := wm_aI 24) X hP hS (by omega) rfl rfl (fun h => h) wq1_64 (wm_dI 24) (by decide) (by decide) (by rw [hRe]; dsimp only; omega) (by rw [hRe]; dsimp only; omega) dX7_init_63 (fun H E14 hP hS hN14 hq => ?_)
  have hN14 : E14 126 = wm_I C 24 (fun _ => 0) := hN14
  have hE0 := (hq 119 (by decide)).trans hE0
  have hN1 := (hq 120 (by decide)).trans hN1
  have hN4 := (hq 121 (by decide)).trans hN4
  have hN6 := (hq 122 (by decide)).trans hN6
  have hN8 := (hq 123 (by decide)).trans hN8
  have hN10 := (hq 124 (by decide)).trans hN10
  have hN12 := (hq 125 (by decide)).trans hN12
  have hfr : ∀ j, j < 119 → E14 j = E j := fun j h0 => (hq j (by omega)).trans (hfr j h0)
  have hP := wm_Pcg (n' := 127) hP (by omega)
  refine wm_Wcg (a := 7) (d := 1976) (by omega) (by omega) ?_
  refine wm_putF (v := .ref (b + 126)) X hnm hP hS (by omega) hE0 rfl wm_inX7 tyX7 tyX7_ok nmX7 10 (by decide) wq5_32 rfl rfl rfl rfl (fs1 := [.int (nI 0), .ref (b + 120), .int (nI 0), .int (nI 0), .int (nI 4294967295), .ref (b + 121), .ref (b + 122), .ref (b + 123), .ref (b + 124), .ref (b + 125), .ref (b + 126), .null, .int (nI 0), .int (nI 0), .null, .null, .null, .null, .null, .null, .int (nI 0), .int (nI false.toNat), .int (nI 0), .int (nI 0), .null, .null, .null, .int (nI 0), .null, .null, .null, .int (nI 0), .null, .int (nI 0), .null, .null, .null, .null, .null]) rfl (Nat.le_of_ble_eq_true rfl) dX7_init_65 (fun H locs E15 hP hS hE0 hq => ?_)
  have hN1 := (hq 120 (by decide)).trans hN1
  have hN4 := (hq 121 (by decide)).trans hN4
  have hN6 := (hq 122 (by decide)).trans hN6
  have hN8 := (hq 123 (by decide)).trans hN8
  have hN10 := (hq 124 (by decide)).trans hN10
  have hN12 := (hq 125 (by decide)).trans hN12
  have hN14 := (hq 126 (by decide)).trans hN14
  have hfr : ∀ j, j < 119 → E15 j = E j := fun j h0 => (hq j (by omega)).trans (hfr j h0)
  refine lv_aload_n X.1 X.2.1 dX7_init_68 rfl (lv_at hl 0 rfl) ?_
  refine lv_bipush (v := nI 24) X.1 X.2.1 dX7_init_69 (by decide) ?_
  refine wm_newa (n := 127) (N := 24) (k := 0) (atype := .int) (ty := .int) (a0 := wm_aI 24) X hP hS (by omega) rfl rfl (fun h => h) wq1_64 (wm_dI 24) (by decide) (by decide) (by rw [hRe]; dsimp only; omega) (by rw [hRe]; dsimp only; omega) dX7_init_71 (fun H E16 hP hS hN16 hq => ?_)
  have hN16 : E16 127 = wm_I C 24 (fun _ => 0) := hN16
  have hE0 := (hq 119 (by decide)).trans hE0
  have hN1 := (hq 120 (by decide)).trans hN1
  have hN4 := (hq 121 (by decide)).trans hN4
  have hN6 := (hq 122 (by decide)).trans hN6
  have hN8 := (hq 123 (by decide)).trans hN8
  have hN10 := (hq 124 (by decide)).trans hN10
  have hN12 := (hq 125 (by decide)).trans hN12
  have hN14 := (hq 126 (by decide)).trans hN14
  have hfr : ∀ j, j < 119 → E16 j = E j := fun j h0 => (hq j (by omega)).trans (hfr j h0)
  have hP := wm_Pcg (n' := 128) hP (by omega)
  refine wm_Wcg (a := 8) (d := 2000) (by omega) (by omega) ?_
  refine wm_putF (v := .ref (b + 127)) X hnm hP hS (by omega) hE0 rfl wm_inX7 tyX7 tyX7_ok nmX7 11 (by decide) wq5_33 rfl rfl rfl rfl (fs1 := [.int (nI 0), .ref (b + 120), .int (nI 0), .int (nI 0), .int (nI 4294967295), .ref (b + 121), .ref (b + 122), .ref (b + 123), .ref (b + 124), .ref (b + 125), .ref (b + 126), .ref (b + 127), .int (nI 0), .int (nI 0), .null, .null, .null, .null, .null, .null, .int (nI 0), .int (nI false.toNat), .int (nI 0), .int (nI 0), .null, .null, .null, .int (nI 0), .null, .null, .null, .int (nI 0), .null, .int (nI 0), .null, .null, .null, .null, .null]) rfl (Nat.le_of_ble_eq_true rfl) dX7_init_73 (fun H locs E17 hP hS hE0 hq => ?_)
  have hN1 := (hq 120 (by decide)).trans hN1
  have hN4 := (hq 121 (by decide)).trans hN4
  have hN6 := (hq 122 (by decide)).trans hN6
  have hN8 := (hq 123 (by decide)).trans hN8
  have hN10 := (hq 124 (by decide)).trans hN10
  have hN12 := (hq 125 (by decide)).trans hN12
  have hN14 := (hq 126 (by decide)).trans hN14
  have hN16 := (hq 127 (by decide)).trans hN16
  have hfr : ∀ j, j < 119 → E17 j = E j := fun j h0 => (hq j (by omega)).trans (hfr j h0)
  refine lv_aload_n X.1 X.2.1 dX7_init_76 rfl (lv_at hl 0 rfl) ?_
  refine lv_bipush (v := nI 22) X.1 X.2.1 dX7_init_77 (by decide) ?_
  refine wm_newa (n := 128) (N := 22) (k := 2) (atype := .boolean) (ty := .boolean) (a0 := wm_aZ 22) X hP hS (by omega) rfl rfl (fun h => h) wq1_181 (wm_dZ 22) (by decide) (by decide) (by rw [hRe]; dsimp only; omega) (by rw [hRe]; dsimp only; omega) dX7_init_79 (fun H E18 hP hS hN18 hq => ?_)
  have hN18 : E18 128 = wm_Z C 22 (fun _ => false) := hN18
  have hE0 := (hq 119 (by decide)).trans hE0
  have hN1 := (hq 120 (by decide)).trans hN1
  have hN4 := (hq 121 (by decide)).trans hN4
  have hN6 := (hq 122 (by decide)).trans hN6
  have hN8 := (hq 123 (by decide)).trans hN8
  have hN10 := (hq 124 (by decide)).trans hN10
  have hN12 := (hq 125 (by decide)).trans hN12
  have hN14 := (hq 126 (by decide)).trans hN14
  have hN16 := (hq 127 (by decide)).trans hN16
  have hfr : ∀ j, j < 119 → E18 j = E j := fun j h0 => (hq j (by omega)).trans (hfr j h0)
  have hP := wm_Pcg (n' := 129) hP (by omega)
  refine wm_Wcg (a := 9) (d := 2022) (by omega) (by omega) ?_
  refine wm_putF (v := .ref (b + 128)) X hnm hP hS (by omega) hE0 rfl wm_inX7 tyX7 tyX7_ok nmX7 14 (by decide) wq5_36 rfl rfl rfl rfl (fs1 := [.int (nI 0), .ref (b + 120), .int (nI 0), .int (nI 0), .int (nI 4294967295), .ref (b + 121), .ref (b + 122), .ref (b + 123), .ref (b + 124), .ref (b + 125), .ref (b + 126), .ref (b + 127), .int (nI 0), .int (nI 0), .ref (b + 128), .null, .null, .null, .null, .null, .int (nI 0), .int (nI false.toNat), .int (nI 0), .int (nI 0), .null, .null, .null, .int (nI 0), .null, .null, .null, .int (nI 0), .null, .int (nI 0), .null, .null, .null, .null, .null]) rfl (Nat.le_of_ble_eq_true rfl) dX7_init_81 (fun H locs E19 hP hS hE0 hq => ?_)
  have hN1 := (hq 120 (by decide)).trans hN1
  have hN4 := (hq 121 (by decide)).trans hN4
  have hN6 := (hq 122 (by decide)).trans hN6
  have hN8 := (hq 123 (by decide)).trans hN8
  have hN10 := (hq 124 (by decide)).trans hN10
  have hN12 := (hq 125 (by decide)).trans hN12
  have hN14 := (hq 126 (by decide)).trans hN14
  have hN16 := (hq 127 (by decide)).trans hN16
  have hN18 := (hq 128 (by decide)).trans hN18
  have hfr : ∀ j, j < 119 → E19 j = E j := fun j h0 => (hq j (by omega)).trans (hfr j h0)
  refine lv_aload_n X.1 X.2.1 dX7_init_84 rfl (lv_at hl 0 rfl) ?_
  refine lv_bipush (v := nI 22) X.1 X.2.1 dX7_init_85 (by decide) ?_
  refine wm_newa (n := 129) (N := 22) (k := 0) (atype := .int) (ty := .int) (a0 := wm_aI 22) X hP hS (by omega) rfl rfl (fun h => h) wq1_64 (wm_dI 22) (by decide) (by decide) (by rw [hRe]; dsimp only; omega) (by rw [hRe]; dsimp only; omega) dX7_init_87 (fun H E20 hP hS hN20 hq => ?_)
  have hN20 : E20 129 = wm_I C 22 (fun _ => 0) := hN20
  have hE0 := (hq 119 (by decide)).trans hE0
  have hN1 := (hq 120 (by decide)).trans hN1
  have hN4 := (hq 121 (by decide)).trans hN4
  have hN6 := (hq 122 (by decide)).trans hN6
  have hN8 := (hq 123 (by decide)).trans hN8
  have hN10 := (hq 124 (by decide)).trans hN10
  have hN12 := (hq 125 (by decide)).trans hN12
  have hN14 := (hq 126 (by decide)).trans hN14
  have hN16 := (hq 127 (by decide)).trans hN16
  have hN18 := (hq 128 (by decide)).trans hN18
  have hfr : ∀ j, j < 119 → E20 j = E j := fun j h0 => (hq j (by omega)).trans (hfr j h0)
  have hP := wm_Pcg (n' := 130) hP (by omega)
  refine wm_Wcg (a := 10) (d := 2044) (by omega) (by omega) ?_
  refine wm_putF (v := .ref (b + 129)) X hnm hP hS (by omega) hE0 rfl wm_inX7 tyX7 tyX7_ok nmX7 15 (by decide) wq5_37 rfl rfl rfl rfl (fs1 := [.int (nI 0), .ref (b + 120), .int (nI 0), .int (nI 0), .int (nI 4294967295), .ref (b + 121), .ref (b + 122), .ref (b + 123), .ref (b + 124), .ref (b + 125), .ref (b + 126), .ref (b + 127), .int (nI 0), .int (nI 0), .ref (b + 128), .ref (b + 129), .null, .null, .null, .null, .int (nI 0), .int (nI false.toNat), .int (nI 0), .int (nI 0), .null, .null, .null, .int (nI 0), .null, .null, .null, .int (nI 0), .null, .int (nI 0), .null, .null, .null, .null, .null]) rfl (Nat.le_of_ble_eq_true rfl) dX7_init_89 (fun H locs E21 hP hS hE0 hq => ?_)
  have hN1 := (hq 120 (by decide)).trans hN1
  have hN4 := (hq 121 (by decide)).trans hN4
  have hN6 := (hq 122 (by decide)).trans hN6
  have hN8 := (hq 123 (by decide)).trans hN8
  have hN10 := (hq 124 (by decide)).trans hN10
  have hN12 := (hq 125 (by decide)).trans hN12
  have hN14 := (hq 126 (by decide)).trans hN14
  have hN16 := (hq 127 (by decide)).trans hN16
  have hN18 := (hq 128 (by decide)).trans hN18
  have hN20 := (hq 129 (by decide)).trans hN20
  have hfr : ∀ j, j < 119 → E21 j = E j := fun j h0 => (hq j (by omega)).trans (hfr j h0)
  refine lv_aload_n X.1 X.2.1 dX7_init_92 rfl (lv_at hl 0 rfl) ?_
  refine lv_bipush (v := nI 22) X.1 X.2.1 dX7_init_93 (by decide) ?_
  refine wm_newa (n := 130) (N := 22) (k := 0) (atype := .int) (ty := .int) (a0 := wm_aI 22) X hP hS (by omega) rfl rfl (fun h => h) wq1_64 (wm_dI 22) (by decide) (by decide) (by rw [hRe]; dsimp only; omega) (by rw [hRe]; dsimp only; omega) dX7_init_95 (fun H E22 hP hS hN22 hq => ?_)
  have hN22 : E22 130 = wm_I C 22 (fun _ => 0) := hN22
  have hE0 := (hq 119 (by decide)).trans hE0
  have hN1 := (hq 120 (by decide)).trans hN1
  have hN4 := (hq 121 (by decide)).trans hN4
  have hN6 := (hq 122 (by decide)).trans hN6
  have hN8 := (hq 123 (by decide)).trans hN8
  have hN10 := (hq 124 (by decide)).trans hN10
  have hN12 := (hq 125 (by decide)).trans hN12
  have hN14 := (hq 126 (by decide)).trans hN14
  have hN16 := (hq 127 (by decide)).trans hN16
  have hN18 := (hq 128 (by decide)).trans hN18
  have hN20 := (hq 129 (by decide)).trans hN20
  have hfr : ∀ j, j < 119 → E22 j = E j := fun j h0 => (hq j (by omega)).trans (hfr j h0)
  have hP := wm_Pcg (n' := 131) hP (by omega)
  refine wm_Wcg (a := 11) (d := 2066) (by omega) (by omega) ?_
  refine wm_putF (v := .ref (b + 130)) X hnm hP hS (by omega) hE0 rfl wm_inX7 tyX7 tyX7_ok nmX7 16 (by decide) wq5_38 rfl rfl rfl rfl (fs1 := [.int (nI 0), .ref (b + 120), .int (nI 0), .int (nI 0), .int (nI 4294967295), .ref (b + 121), .ref (b + 122), .ref (b + 123), .ref (b + 124), .ref (b + 125), .ref (b + 126), .ref (b + 127), .int (nI 0), .int (nI 0), .ref (b + 128), .ref (b + 129), .ref (b + 130), .null, .null, .null, .int (nI 0), .int (nI false.toNat), .int (nI 0), .int (nI 0), .null, .null, .null, .int (nI 0), .null, .null, .null, .int (nI 0), .null, .int (nI 0), .null, .null, .null, .null, .null]) rfl (Nat.le_of_ble_eq_true rfl) dX7_init_97 (fun H locs E23 hP hS hE0 hq => ?_)
  have hN1 := (hq 120 (by decide)).trans hN1
  have hN4 := (hq 121 (by decide)).trans hN4
  have hN6 := (hq 122 (by decide)).trans hN6
  have hN8 := (hq 123 (by decide)).trans hN8
  have hN10 := (hq 124 (by decide)).trans hN10
  have hN12 := (hq 125 (by decide)).trans hN12
  have hN14 := (hq 126 (by decide)).trans hN14
  have hN16 := (hq 127 (by decide)).trans hN16
  have hN18 := (hq 128 (by decide)).trans hN18
  have hN20 := (hq 129 (by decide)).trans hN20
  have hN22 := (hq 130 (by decide)).trans hN22
  have hfr : ∀ j, j < 119 → E23 j = E j := fun j h0 => (hq j (by omega)).trans (hfr j h0)
  refine lv_aload_n X.1 X.2.1 dX7_init_100 rfl (lv_at hl 0 rfl) ?_
  refine lv_bipush (v := nI 22) X.1 X.2.1 dX7_init_101 (by decide) ?_
  refine wm_newa (n := 131) (N := 22) (k := 2) (atype := .boolean) (ty := .boolean) (a0 := wm_aZ 22) X hP hS (by omega) rfl rfl (fun h => h) wq1_181 (wm_dZ 22) (by decide) (by decide) (by rw [hRe]; dsimp only; omega) (by rw [hRe]; dsimp only; omega) dX7_init_103 (fun H E24 hP hS hN24 hq => ?_)
  have hN24 : E24 131 = wm_Z C 22 (fun _ => false) := hN24
  have hE0 := (hq 119 (by decide)).trans hE0
  have hN1 := (hq 120 (by decide)).trans hN1
  have hN4 := (hq 121 (by decide)).trans hN4
  have hN6 := (hq 122 (by decide)).trans hN6
  have hN8 := (hq 123 (by decide)).trans hN8
  have hN10 := (hq 124 (by decide)).trans hN10
  have hN12 := (hq 125 (by decide)).trans hN12
  have hN14 := (hq 126 (by decide)).trans hN14
  have hN16 := (hq 127 (by decide)).trans hN16
  have hN18 := (hq 128 (by decide)).trans hN18
  have hN20 := (hq 129 (by decide)).trans hN20
  have hN22 := (hq 130 (by decide)).trans hN22
  have hfr : ∀ j, j < 119 → E24 j = E j := fun j h0 => (hq j (by omega)).trans (hfr j h0)
  have hP := wm_Pcg (n' := 132) hP (by omega)
  refine wm_Wcg (a := 12) (d := 2088) (by omega) (by omega) ?_
  refine wm_putF (v := .ref (b + 131)) X hnm hP hS (by omega) hE0 rfl wm_inX7 tyX7 tyX7_ok nmX7 17 (by decide) wq5_39 rfl rfl rfl rfl (fs1 := [.int (nI 0), .ref (b + 120), .int (nI 0), .int (nI 0), .int (nI 4294967295), .ref (b + 121), .ref (b + 122), .ref (b + 123), .ref (b + 124), .ref (b + 125), .ref (b + 126), .ref (b + 127), .int (nI 0), .int (nI 0), .ref (b + 128), .ref (b + 129), .ref (b + 130), .ref (b + 131), .null, .null, .int (nI 0), .int (nI false.toNat), .int (nI 0), .int (nI 0), .null, .null, .null, .int (nI 0), .null, .null, .null, .int (nI 0), .null, .int (nI 0), .null, .null, .null, .null, .null]) rfl (Nat.le_of_ble_eq_true rfl) dX7_init_105 (fun H locs E25 hP hS hE0 hq => ?_)
  have hN1 := (hq 120 (by decide)).trans hN1
  have hN4 := (hq 121 (by decide)).trans hN4
  have hN6 := (hq 122 (by decide)).trans hN6
  have hN8 := (hq 123 (by decide)).trans hN8
  have hN10 := (hq 124 (by decide)).trans hN10
  have hN12 := (hq 125 (by decide)).trans hN12
  have hN14 := (hq 126 (by decide)).trans hN14
  have hN16 := (hq 127 (by decide)).trans hN16
  have hN18 := (hq 128 (by decide)).trans hN18
  have hN20 := (hq 129 (by decide)).trans hN20
  have hN22 := (hq 130 (by decide)).trans hN22
  have hN24 := (hq 131 (by decide)).trans hN24
  have hfr : ∀ j, j < 119 → E25 j = E j := fun j h0 => (hq j (by omega)).trans (hfr j h0)
  refine lv_aload_n X.1 X.2.1 dX7_init_108 rfl (lv_at hl 0 rfl) ?_
  refine lv_bipush (v := nI 22) X.1 X.2.1 dX7_init_109 (by decide) ?_
  refine wm_newa (n := 132) (N := 22) (k := 0) (atype := .int) (ty := .int) (a0 := wm_aI 22) X hP hS (by omega) rfl rfl (fun h => h) wq1_64 (wm_dI 22) (by decide) (by decide) (by rw [hRe]; dsimp only; omega) (by rw [hRe]; dsimp only; omega) dX7_init_111 (fun H E26 hP hS hN26 hq => ?_)
  have hN26 : E26 132 = wm_I C 22 (fun _ => 0) := hN26
  have hE0 := (hq 119 (by decide)).trans hE0
  have hN1 := (hq 120 (by decide)).trans hN1
  have hN4 := (hq 121 (by decide)).trans hN4
  have hN6 := (hq 122 (by decide)).trans hN6
  have hN8 := (hq 123 (by decide)).trans hN8
  have hN10 := (hq 124 (by decide)).trans hN10
  have hN12 := (hq 125 (by decide)).trans hN12
  have hN14 := (hq 126 (by decide)).trans hN14
  have hN16 := (hq 127 (by decide)).trans hN16
  have hN18 := (hq 128 (by decide)).trans hN18
  have hN20 := (hq 129 (by decide)).trans hN20
  have hN22 := (hq 130 (by decide)).trans hN22
  have hN24 := (hq 131 (by decide)).trans hN24
  have hfr : ∀ j, j < 119 → E26 j = E j := fun j h0 => (hq j (by omega)).trans (hfr j h0)
  have hP := wm_Pcg (n' := 133) hP (by omega)
  refine wm_Wcg (a := 13) (d := 2110) (by omega) (by omega) ?_
  refine wm_putF (v := .ref (b + 132)) X hnm hP hS (by omega) hE0 rfl wm_inX7 tyX7 tyX7_ok nmX7 18 (by decide) wq5_40 rfl rfl rfl rfl (fs1 := [.int (nI 0), .ref (b + 120), .int (nI 0), .int (nI 0), .int (nI 4294967295), .ref (b + 121), .ref (b + 122), .ref (b + 123), .ref (b + 124), .ref (b + 125), .ref (b + 126), .ref (b + 127), .int (nI 0), .int (nI 0), .ref (b + 128), .ref (b + 129), .ref (b + 130), .ref (b + 131), .ref (b + 132), .null, .int (nI 0), .int (nI false.toNat), .int (nI 0), .int (nI 0), .null, .null, .null, .int (nI 0), .null, .null, .null, .int (nI 0), .null, .int (nI 0), .null, .null, .null, .null, .null]) rfl (Nat.le_of_ble_eq_true rfl) dX7_init_113 (fun H locs E27 hP hS hE0 hq => ?_)
  have hN1 := (hq 120 (by decide)).trans hN1
  have hN4 := (hq 121 (by decide)).trans hN4
  have hN6 := (hq 122 (by decide)).trans hN6
  have hN8 := (hq 123 (by decide)).trans hN8
  have hN10 := (hq 124 (by decide)).trans hN10
  have hN12 := (hq 125 (by decide)).trans hN12
  have hN14 := (hq 126 (by decide)).trans hN14
  have hN16 := (hq 127 (by decide)).trans hN16
  have hN18 := (hq 128 (by decide)).trans hN18
  have hN20 := (hq 129 (by decide)).trans hN20
  have hN22 := (hq 130 (by decide)).trans hN22
  have hN24 := (hq 131 (by decide)).trans hN24
  have hN26 := (hq 132 (by decide)).trans hN26
  have hfr : ∀ j, j < 119 → E27 j = E j := fun j h0 => (hq j (by omega)).trans (hfr j h0)
  refine lv_aload_n X.1 X.2.1 dX7_init_116 rfl (lv_at hl 0 rfl) ?_
  refine lv_bipush (v := nI 22) X.1 X.2.1 dX7_init_117 (by decide) ?_
  refine wm_newa (n := 133) (N := 22) (k := 0) (atype := .int) (ty := .int) (a0 := wm_aI 22) X hP hS (by omega) rfl rfl (fun h => h) wq1_64 (wm_dI 22) (by decide) (by decide) (by rw [hRe]; dsimp only; omega) (by rw [hRe]; dsimp only; omega) dX7_init_119 (fun H E28 hP hS hN28 hq => ?_)
  have hN28 : E28 133 = wm_I C 22 (fun _ => 0) := hN28
  have hE0 := (hq 119 (by decide)).trans hE0
  have hN1 := (hq 120 (by decide)).trans hN1
  have hN4 := (hq 121 (by decide)).trans hN4
  have hN6 := (hq 122 (by decide)).trans hN6
  have hN8 := (hq 123 (by decide)).trans hN8
  have hN10 := (hq 124 (by decide)).trans hN10
  have hN12 := (hq 125 (by decide)).trans hN12
  have hN14 := (hq 126 (by decide)).trans hN14
  have hN16 := (hq 127 (by decide)).trans hN16
  have hN18 := (hq 128 (by decide)).trans hN18
  have hN20 := (hq 129 (by decide)).trans hN20
  have hN22 := (hq 130 (by decide)).trans hN22
  have hN24 := (hq 131 (by decide)).trans hN24
  have hN26 := (hq 132 (by decide)).trans hN26
  have hfr : ∀ j, j < 119 → E28 j = E j := fun j h0 => (hq j (by omega)).trans (hfr j h0)
  have hP := wm_Pcg (n' := 134) hP (by omega)
  refine wm_Wcg (a := 14) (d := 2132) (by omega) (by omega) ?_
  refine wm_putF (v := .ref (b + 133)) X hnm hP hS (by omega) hE0 rfl wm_inX7 tyX7 tyX7_ok nmX7 19 (by decide) wq5_41 rfl rfl rfl rfl (fs1 := [.int (nI 0), .ref (b + 120), .int (nI 0), .int (nI 0), .int (nI 4294967295), .ref (b + 121), .ref (b + 122), .ref (b + 123), .ref (b + 124), .ref (b + 125), .ref (b + 126), .ref (b + 127), .int (nI 0), .int (nI 0), .ref (b + 128), .ref (b + 129), .ref (b + 130), .ref (b + 131), .ref (b + 132), .ref (b + 133), .int (nI 0), .int (nI false.toNat), .int (nI 0), .int (nI 0), .null, .null, .null, .int (nI 0), .null, .null, .null, .int (nI 0), .null, .int (nI 0), .null, .null, .null, .null, .null]) rfl (Nat.le_of_ble_eq_true rfl) dX7_init_121 (fun H locs E29 hP hS hE0 hq => ?_)
  have hN1 := (hq 120 (by decide)).trans hN1
  have hN4 := (hq 121 (by decide)).trans hN4
  have hN6 := (hq 122 (by decide)).trans hN6
  have hN8 := (hq 123 (by decide)).trans hN8
  have hN10 := (hq 124 (by decide)).trans hN10
  have hN12 := (hq 125 (by decide)).trans hN12
  have hN14 := (hq 126 (by decide)).trans hN14
  have hN16 := (hq 127 (by decide)).trans hN16
  have hN18 := (hq 128 (by decide)).trans hN18
  have hN20 := (hq 129 (by decide)).trans hN20
  have hN22 := (hq 130 (by decide)).trans hN22
  have hN24 := (hq 131 (by decide)).trans hN24
  have hN26 := (hq 132 (by decide)).trans hN26
  have hN28 := (hq 133 (by decide)).trans hN28
  have hfr : ∀ j, j < 119 → E29 j = E j := fun j h0 => (hq j (by omega)).trans (hfr j h0)
  refine lv_aload_n X.1 X.2.1 dX7_init_124 rfl (lv_at hl 0 rfl) ?_
  refine lv_ldc (v := nI 49152) X.1 X.2.1 X.2.2.2.1 (X.2.2.2.2.1 _ wq5_20) dX7_init_125 ?_
  refine wm_newa (n := 134) (N := 49152) (k := 0) (atype := .int) (ty := .int) (a0 := wm_aI 49152) X hP hS (by omega) rfl rfl (fun h => h) wq1_64 (wm_dI 49152) (by decide) (by decide) (by rw [hRe]; dsimp only; omega) (by rw [hRe]; dsimp only; omega) dX7_init_127 (fun H E30 hP hS hN30 hq => ?_)
  have hN30 : E30 134 = wm_I C 49152 (fun _ => 0) := hN30
  have hE0 := (hq 119 (by decide)).trans hE0
  have hN1 := (hq 120 (by decide)).trans hN1
  have hN4 := (hq 121 (by decide)).trans hN4
  have hN6 := (hq 122 (by decide)).trans hN6
  have hN8 := (hq 123 (by decide)).trans hN8
  have hN10 := (hq 124 (by decide)).trans hN10
  have hN12 := (hq 125 (by decide)).trans hN12
  have hN14 := (hq 126 (by decide)).trans hN14
  have hN16 := (hq 127 (by decide)).trans hN16
  have hN18 := (hq 128 (by decide)).trans hN18
  have hN20 := (hq 129 (by decide)).trans hN20
  have hN22 := (hq 130 (by decide)).trans hN22
  have hN24 := (hq 131 (by decide)).trans hN24
  have hN26 := (hq 132 (by decide)).trans hN26
  have hN28 := (hq 133 (by decide)).trans hN28
  have hfr : ∀ j, j < 119 → E30 j = E j := fun j h0 => (hq j (by omega)).trans (hfr j h0)
  have hP := wm_Pcg (n' := 135) hP (by omega)
  refine wm_Wcg (a := 15) (d := 51284) (by omega) (by omega) ?_
  refine wm_putF (v := .ref (b + 134)) X hnm hP hS (by omega) hE0 rfl wm_inX7 tyX7 tyX7_ok nmX7 24 (by decide) wq5_46 rfl rfl rfl rfl (fs1 := [.int (nI 0), .ref (b + 120), .int (nI 0), .int (nI 0), .int (nI 4294967295), .ref (b + 121), .ref (b + 122), .ref (b + 123), .ref (b + 124), .ref (b + 125), .ref (b + 126), .ref (b + 127), .int (nI 0), .int (nI 0), .ref (b + 128), .ref (b + 129), .ref (b + 130), .ref (b + 131), .ref (b + 132), .ref (b + 133), .int (nI 0), .int (nI false.toNat), .int (nI 0), .int (nI 0), .ref (b + 134), .null, .null, .int (nI 0), .null, .null, .null, .int (nI 0), .null, .int (nI 0), .null, .null, .null, .null, .null]) rfl (Nat.le_of_ble_eq_true rfl) dX7_init_129 (fun H locs E31 hP hS hE0 hq => ?_)
  have hN1 := (hq 120 (by decide)).trans hN1
  have hN4 := (hq 121 (by decide)).trans hN4
  have hN6 := (hq 122 (by decide)).trans hN6
  have hN8 := (hq 123 (by decide)).trans hN8
  have hN10 := (hq 124 (by decide)).trans hN10
  have hN12 := (hq 125 (by decide)).trans hN12
  have hN14 := (hq 126 (by decide)).trans hN14
  have hN16 := (hq 127 (by decide)).trans hN16
  have hN18 := (hq 128 (by decide)).trans hN18
  have hN20 := (hq 129 (by decide)).trans hN20
  have hN22 := (hq 130 (by decide)).trans hN22
  have hN24 := (hq 131 (by decide)).trans hN24
  have hN26 := (hq 132 (by decide)).trans hN26
  have hN28 := (hq 133 (by decide)).trans hN28
  have hN30 := (hq 134 (by decide)).trans hN30
  have hfr : ∀ j, j < 119 → E31 j = E j := fun j h0 => (hq j (by omega)).trans (hfr j h0)
  refine lv_aload_n X.1 X.2.1 dX7_init_132 rfl (lv_at hl 0 rfl) ?_
  refine lv_ldc (v := nI 49152) X.1 X.2.1 X.2.2.2.1 (X.2.2.2.2.1 _ wq5_20) dX7_init_133 ?_
  refine wm_newa (n := 135) (N := 49152) (k := 0) (atype := .int) (ty := .int) (a0 := wm_aI 49152) X hP hS (by omega) rfl rfl (fun h => h) wq1_64 (wm_dI 49152) (by decide) (by decide) (by rw [hRe]; dsimp only; omega) (by rw [hRe]; dsimp only; omega) dX7_init_135 (fun H E32 hP hS hN32 hq => ?_)
  have hN32 : E32 135 = wm_I C 49152 (fun _ => 0) := hN32
  have hE0 := (hq 119 (by decide)).trans hE0
  have hN1 := (hq 120 (by decide)).trans hN1
  have hN4 := (hq 121 (by decide)).trans hN4
  have hN6 := (hq 122 (by decide)).trans hN6
  have hN8 := (hq 123 (by decide)).trans hN8
  have hN10 := (hq 124 (by decide)).trans hN10
  have hN12 := (hq 125 (by decide)).trans hN12
  have hN14 := (hq 126 (by decide)).trans hN14
  have hN16 := (hq 127 (by decide)).trans hN16
  have hN18 := (hq 128 (by decide)).trans hN18
  have hN20 := (hq 129 (by decide)).trans hN20
  have hN22 := (hq 130 (by decide)).trans hN22
  have hN24 := (hq 131 (by decide)).trans hN24
  have hN26 := (hq 132 (by decide)).trans hN26
  have hN28 := (hq 133 (by decide)).trans hN28
  have hN30 := (hq 134 (by decide)).trans hN30
  have hfr : ∀ j, j < 119 → E32 j = E j := fun j h0 => (hq j (by omega)).trans (hfr j h0)
  have hP := wm_Pcg (n' := 136) hP (by omega)
  refine wm_Wcg (a := 16) (d := 100436) (by omega) (by omega) ?_
  refine wm_putF (v := .ref (b + 135)) X hnm hP hS (by omega) hE0 rfl wm_inX7 tyX7 tyX7_ok nmX7 25 (by decide) wq5_47 rfl rfl rfl rfl (fs1 := [.int (nI 0), .ref (b + 120), .int (nI 0), .int (nI 0), .int (nI 4294967295), .ref (b + 121), .ref (b + 122), .ref (b + 123), .ref (b + 124), .ref (b + 125), .ref (b + 126), .ref (b + 127), .int (nI 0), .int (nI 0), .ref (b + 128), .ref (b + 129), .ref (b + 130), .ref (b + 131), .ref (b + 132), .ref (b + 133), .int (nI 0), .int (nI false.toNat), .int (nI 0), .int (nI 0), .ref (b + 134), .ref (b + 135), .null, .int (nI 0), .null, .null, .null, .int (nI 0), .null, .int (nI 0), .null, .null, .null, .null, .null]) rfl (Nat.le_of_ble_eq_true rfl) dX7_init_137 (fun H locs E33 hP hS hE0 hq => ?_)
  have hN1 := (hq 120 (by decide)).trans hN1
  have hN4 := (hq 121 (by decide)).trans hN4
  have hN6 := (hq 122 (by decide)).trans hN6
  have hN8 := (hq 123 (by decide)).trans hN8
  have hN10 := (hq 124 (by decide)).trans hN10
  have hN12 := (hq 125 (by decide)).trans hN12
  have hN14 := (hq 126 (by decide)).trans hN14
  have hN16 := (hq 127 (by decide)).trans hN16
  have hN18 := (hq 128 (by decide)).trans hN18
  have hN20 := (hq 129 (by decide)).trans hN20
  have hN22 := (hq 130 (by decide)).trans hN22
  have hN24 := (hq 131 (by decide)).trans hN24
  have hN26 := (hq 132 (by decide)).trans hN26
  have hN28 := (hq 133 (by decide)).trans hN28
  have hN30 := (hq 134 (by decide)).trans hN30
  have hN32 := (hq 135 (by decide)).trans hN32
  have hfr : ∀ j, j < 119 → E33 j = E j := fun j h0 => (hq j (by omega)).trans (hfr j h0)
  refine lv_aload_n X.1 X.2.1 dX7_init_140 rfl (lv_at hl 0 rfl) ?_
  refine lv_ldc (v := nI 49152) X.1 X.2.1 X.2.2.2.1 (X.2.2.2.2.1 _ wq5_20) dX7_init_141 ?_
  refine wm_newa (n := 136) (N := 49152) (k := 2) (atype := .boolean) (ty := .boolean) (a0 := wm_aZ 49152) X hP hS (by omega) rfl rfl (fun h => h) wq1_181 (wm_dZ 49152) (by decide) (by decide) (by rw [hRe]; dsimp only; omega) (by rw [hRe]; dsimp only; omega) dX7_init_143 (fun H E34 hP hS hN34 hq => ?_)
  have hN34 : E34 136 = wm_Z C 49152 (fun _ => false) := hN34
  have hE0 := (hq 119 (by decide)).trans hE0
  have hN1 := (hq 120 (by decide)).trans hN1
  have hN4 := (hq 121 (by decide)).trans hN4
  have hN6 := (hq 122 (by decide)).trans hN6
  have hN8 := (hq 123 (by decide)).trans hN8
  have hN10 := (hq 124 (by decide)).trans hN10
  have hN12 := (hq 125 (by decide)).trans hN12
  have hN14 := (hq 126 (by decide)).trans hN14
  have hN16 := (hq 127 (by decide)).trans hN16
  have hN18 := (hq 128 (by decide)).trans hN18
  have hN20 := (hq 129 (by decide)).trans hN20
  have hN22 := (hq 130 (by decide)).trans hN22
  have hN24 := (hq 131 (by decide)).trans hN24
  have hN26 := (hq 132 (by decide)).trans hN26
  have hN28 := (hq 133 (by decide)).trans hN28
  have hN30 := (hq 134 (by decide)).trans hN30
  have hN32 := (hq 135 (by decide)).trans hN32
  have hfr : ∀ j, j < 119 → E34 j = E j := fun j h0 => (hq j (by omega)).trans (hfr j h0)
  have hP := wm_Pcg (n' := 137) hP (by omega)
  refine wm_Wcg (a := 17) (d := 149588) (by omega) (by omega) ?_
  refine wm_putF (v := .ref (b + 136)) X hnm hP hS (by omega) hE0 rfl wm_inX7 tyX7 tyX7_ok nmX7 26 (by decide) wq5_48 rfl rfl rfl rfl (fs1 := [.int (nI 0), .ref (b + 120), .int (nI 0), .int (nI 0), .int (nI 4294967295), .ref (b + 121), .ref (b + 122), .ref (b + 123), .ref (b + 124), .ref (b + 125), .ref (b + 126), .ref (b + 127), .int (nI 0), .int (nI 0), .ref (b + 128), .ref (b + 129), .ref (b + 130), .ref (b + 131), .ref (b + 132), .ref (b + 133), .int (nI 0), .int (nI false.toNat), .int (nI 0), .int (nI 0), .ref (b + 134), .ref (b + 135), .ref (b + 136), .int (nI 0), .null, .null, .null, .int (nI 0), .null, .int (nI 0), .null, .null, .null, .null, .null]) rfl (Nat.le_of_ble_eq_true rfl) dX7_init_145 (fun H locs E35 hP hS hE0 hq => ?_)
  have hN1 := (hq 120 (by decide)).trans hN1
  have hN4 := (hq 121 (by decide)).trans hN4
  have hN6 := (hq 122 (by decide)).trans hN6
  have hN8 := (hq 123 (by decide)).trans hN8
  have hN10 := (hq 124 (by decide)).trans hN10
  have hN12 := (hq 125 (by decide)).trans hN12
  have hN14 := (hq 126 (by decide)).trans hN14
  have hN16 := (hq 127 (by decide)).trans hN16
  have hN18 := (hq 128 (by decide)).trans hN18
  have hN20 := (hq 129 (by decide)).trans hN20
  have hN22 := (hq 130 (by decide)).trans hN22
  have hN24 := (hq 131 (by decide)).trans hN24
  have hN26 := (hq 132 (by decide)).trans hN26
  have hN28 := (hq 133 (by decide)).trans hN28
  have hN30 := (hq 134 (by decide)).trans hN30
  have hN32 := (hq 135 (by decide)).trans hN32
  have hN34 := (hq 136 (by decide)).trans hN34
  have hfr : ∀ j, j < 119 → E35 j = E j := fun j h0 => (hq j (by omega)).trans (hfr j h0)
  refine lv_aload_n X.1 X.2.1 dX7_init_148 rfl (lv_at hl 0 rfl) ?_
  refine lv_ldc (v := nI 49153) X.1 X.2.1 X.2.2.2.1 (X.2.2.2.2.1 _ wq5_21) dX7_init_149 ?_
  refine wm_newa (n := 137) (N := 49153) (k := 0) (atype := .int) (ty := .int) (a0 := wm_aI 49153) X hP hS (by omega) rfl rfl (fun h => h) wq1_64 (wm_dI 49153) (by decide) (by decide) (by rw [hRe]; dsimp only; omega) (by rw [hRe]; dsimp only; omega) dX7_init_151 (fun H E36 hP hS hN36 hq => ?_)
  have hN36 : E36 137 = wm_I C 49153 (fun _ => 0) := hN36
  have hE0 := (hq 119 (by decide)).trans hE0
  have hN1 := (hq 120 (by decide)).trans hN1
  have hN4 := (hq 121 (by decide)).trans hN4
  have hN6 := (hq 122 (by decide)).trans hN6
  have hN8 := (hq 123 (by decide)).trans hN8
  have hN10 := (hq 124 (by decide)).trans hN10
  have hN12 := (hq 125 (by decide)).trans hN12
  have hN14 := (hq 126 (by decide)).trans hN14
  have hN16 := (hq 127 (by decide)).trans hN16
  have hN18 := (hq 128 (by decide)).trans hN18
  have hN20 := (hq 129 (by decide)).trans hN20
  have hN22 := (hq 130 (by decide)).trans hN22
  have hN24 := (hq 131 (by decide)).trans hN24
  have hN26 := (hq 132 (by decide)).trans hN26
  have hN28 := (hq 133 (by decide)).trans hN28
  have hN30 := (hq 134 (by decide)).trans hN30
  have hN32 := (hq 135 (by decide)).trans hN32
  have hN34 := (hq 136 (by decide)).trans hN34
  have hfr : ∀ j, j < 119 → E36 j = E j := fun j h0 => (hq j (by omega)).trans (hfr j h0)
  have hP := wm_Pcg (n' := 138) hP (by omega)
  refine wm_Wcg (a := 18) (d := 198741) (by omega) (by omega) ?_
  refine wm_putF (v := .ref (b + 137)) X hnm hP hS (by omega) hE0 rfl wm_inX7 tyX7 tyX7_ok nmX7 28 (by decide) wq5_50 rfl rfl rfl rfl (fs1 := [.int (nI 0), .ref (b + 120), .int (nI 0), .int (nI 0), .int (nI 4294967295), .ref (b + 121), .ref (b + 122), .ref (b + 123), .ref (b + 124), .ref (b + 125), .ref (b + 126), .ref (b + 127), .int (nI 0), .int (nI 0), .ref (b + 128), .ref (b + 129), .ref (b + 130), .ref (b + 131), .ref (b + 132), .ref (b + 133), .int (nI 0), .int (nI false.toNat), .int (nI 0), .int (nI 0), .ref (b + 134), .ref (b + 135), .ref (b + 136), .int (nI 0), .ref (b + 137), .null, .null, .int (nI 0), .null, .int (nI 0), .null, .null, .null, .null, .null]) rfl (Nat.le_of_ble_eq_true rfl) dX7_init_153 (fun H locs E37 hP hS hE0 hq => ?_)
  have hN1 := (hq 120 (by decide)).trans hN1
  have hN4 := (hq 121 (by decide)).trans hN4
  have hN6 := (hq 122 (by decide)).trans hN6
  have hN8 := (hq 123 (by decide)).trans hN8
  have hN10 := (hq 124 (by decide)).trans hN10
  have hN12 := (hq 125 (by decide)).trans hN12
  have hN14 := (hq 126 (by decide)).trans hN14
  have hN16 := (hq 127 (by decide)).trans hN16
  have hN18 := (hq 128 (by decide)).trans hN18
  have hN20 := (hq 129 (by decide)).trans hN20
  have hN22 := (hq 130 (by decide)).trans hN22
  have hN24 := (hq 131 (by decide)).trans hN24
  have hN26 := (hq 132 (by decide)).trans hN26
  have hN28 := (hq 133 (by decide)).trans hN28
  have hN30 := (hq 134 (by decide)).trans hN30
  have hN32 := (hq 135 (by decide)).trans hN32
  have hN34 := (hq 136 (by decide)).trans hN34
  have hN36 := (hq 137 (by decide)).trans hN36
  have hfr : ∀ j, j < 119 → E37 j = E j := fun j h0 => (hq j (by omega)).trans (hfr j h0)
  refine lv_aload_n X.1 X.2.1 dX7_init_156 rfl (lv_at hl 0 rfl) ?_
  refine lv_ldc (v := nI 49153) X.1 X.2.1 X.2.2.2.1 (X.2.2.2.2.1 _ wq5_21) dX7_init_157 ?_
  refine wm_newa (n := 138) (N := 49153) (k := 0) (atype := .int) (ty := .int) (a0 := wm_aI 49153) X hP hS (by omega) rfl rfl (fun h => h) wq1_64 (wm_dI 49153) (by decide) (by decide) (by rw [hRe]; dsimp only; omega) (by rw [hRe]; dsimp only; omega) dX7_init_159 (fun H E38 hP hS hN38 hq => ?_)
  have hN38 : E38 138 = wm_I C 49153 (fun _ => 0) := hN38
  have hE0 := (hq 119 (by decide)).trans hE0
  have hN1 := (hq 120 (by decide)).trans hN1
  have hN4 := (hq 121 (by decide)).trans hN4
  have hN6 := (hq 122 (by decide)).trans hN6
  have hN8 := (hq 123 (by decide)).trans hN8
  have hN10 := (hq 124 (by decide)).trans hN10
  have hN12 := (hq 125 (by decide)).trans hN12
  have hN14 := (hq 126 (by decide)).trans hN14
  have hN16 := (hq 127 (by decide)).trans hN16
  have hN18 := (hq 128 (by decide)).trans hN18
  have hN20 := (hq 129 (by decide)).trans hN20
  have hN22 := (hq 130 (by decide)).trans hN22
  have hN24 := (hq 131 (by decide)).trans hN24
  have hN26 := (hq 132 (by decide)).trans hN26
  have hN28 := (hq 133 (by decide)).trans hN28
  have hN30 := (hq 134 (by decide)).trans hN30
  have hN32 := (hq 135 (by decide)).trans hN32
  have hN34 := (hq 136 (by decide)).trans hN34
  have hN36 := (hq 137 (by decide)).trans hN36
  have hfr : ∀ j, j < 119 → E38 j = E j := fun j h0 => (hq j (by omega)).trans (hfr j h0)
  have hP := wm_Pcg (n' := 139) hP (by omega)
  refine wm_Wcg (a := 19) (d := 247894) (by omega) (by omega) ?_
  refine wm_putF (v := .ref (b + 138)) X hnm hP hS (by omega) hE0 rfl wm_inX7 tyX7 tyX7_ok nmX7 29 (by decide) wq5_51 rfl rfl rfl rfl (fs1 := [.int (nI 0), .ref (b + 120), .int (nI 0), .int (nI 0), .int (nI 4294967295), .ref (b + 121), .ref (b + 122), .ref (b + 123), .ref (b + 124), .ref (b + 125), .ref (b + 126), .ref (b + 127), .int (nI 0), .int (nI 0), .ref (b + 128), .ref (b + 129), .ref (b + 130), .ref (b + 131), .ref (b + 132), .ref (b + 133), .int (nI 0), .int (nI false.toNat), .int (nI 0), .int (nI 0), .ref (b + 134), .ref (b + 135), .ref (b + 136), .int (nI 0), .ref (b + 137), .ref (b + 138), .null, .int (nI 0), .null, .int (nI 0), .null, .null, .null, .null, .null]) rfl (Nat.le_of_ble_eq_true rfl) dX7_init_161 (fun H locs E39 hP hS hE0 hq => ?_)
  have hN1 := (hq 120 (by decide)).trans hN1
  have hN4 := (hq 121 (by decide)).trans hN4
  have hN6 := (hq 122 (by decide)).trans hN6
  have hN8 := (hq 123 (by decide)).trans hN8
  have hN10 := (hq 124 (by decide)).trans hN10
  have hN12 := (hq 125 (by decide)).trans hN12
  have hN14 := (hq 126 (by decide)).trans hN14
  have hN16 := (hq 127 (by decide)).trans hN16
  have hN18 := (hq 128 (by decide)).trans hN18
  have hN20 := (hq 129 (by decide)).trans hN20
  have hN22 := (hq 130 (by decide)).trans hN22
  have hN24 := (hq 131 (by decide)).trans hN24
  have hN26 := (hq 132 (by decide)).trans hN26
  have hN28 := (hq 133 (by decide)).trans hN28
  have hN30 := (hq 134 (by decide)).trans hN30
  have hN32 := (hq 135 (by decide)).trans hN32
  have hN34 := (hq 136 (by decide)).trans hN34
  have hN36 := (hq 137 (by decide)).trans hN36
  have hN38 := (hq 138 (by decide)).trans hN38
  have hfr : ∀ j, j < 119 → E39 j = E j := fun j h0 => (hq j (by omega)).trans (hfr j h0)
  refine lv_aload_n X.1 X.2.1 dX7_init_164 rfl (lv_at hl 0 rfl) ?_
  refine lv_ldc (v := nI 49153) X.1 X.2.1 X.2.2.2.1 (X.2.2.2.2.1 _ wq5_21) dX7_init_165 ?_
  refine wm_newa (n := 139) (N := 49153) (k := 0) (atype := .int) (ty := .int) (a0 := wm_aI 49153) X hP hS (by omega) rfl rfl (fun h => h) wq1_64 (wm_dI 49153) (by decide) (by decide) (by rw [hRe]; dsimp only; omega) (by rw [hRe]; dsimp only; omega) dX7_init_167 (fun H E40 hP hS hN40 hq => ?_)
  have hN40 : E40 139 = wm_I C 49153 (fun _ => 0) := hN40
  have hE0 := (hq 119 (by decide)).trans hE0
  have hN1 := (hq 120 (by decide)).trans hN1
  have hN4 := (hq 121 (by decide)).trans hN4
  have hN6 := (hq 122 (by decide)).trans hN6
  have hN8 := (hq 123 (by decide)).trans hN8
  have hN10 := (hq 124 (by decide)).trans hN10
  have hN12 := (hq 125 (by decide)).trans hN12
  have hN14 := (hq 126 (by decide)).trans hN14
  have hN16 := (hq 127 (by decide)).trans hN16
  have hN18 := (hq 128 (by decide)).trans hN18
  have hN20 := (hq 129 (by decide)).trans hN20
  have hN22 := (hq 130 (by decide)).trans hN22
  have hN24 := (hq 131 (by decide)).trans hN24
  have hN26 := (hq 132 (by decide)).trans hN26
  have hN28 := (hq 133 (by decide)).trans hN28
  have hN30 := (hq 134 (by decide)).trans hN30
  have hN32 := (hq 135 (by decide)).trans hN32
  have hN34 := (hq 136 (by decide)).trans hN34
  have hN36 := (hq 137 (by decide)).trans hN36
  have hN38 := (hq 138 (by decide)).trans hN38
  have hfr : ∀ j, j < 119 → E40 j = E j := fun j h0 => (hq j (by omega)).trans (hfr j h0)
  have hP := wm_Pcg (n' := 140) hP (by omega)
  refine wm_Wcg (a := 20) (d := 297047) (by omega) (by omega) ?_
  refine wm_putF (v := .ref (b + 139)) X hnm hP hS (by omega) hE0 rfl wm_inX7 tyX7 tyX7_ok nmX7 30 (by decide) wq5_52 rfl rfl rfl rfl (fs1 := [.int (nI 0), .ref (b + 120), .int (nI 0), .int (nI 0), .int (nI 4294967295), .ref (b + 121), .ref (b + 122), .ref (b + 123), .ref (b + 124), .ref (b + 125), .ref (b + 126), .ref (b + 127), .int (nI 0), .int (nI 0), .ref (b + 128), .ref (b + 129), .ref (b + 130), .ref (b + 131), .ref (b + 132), .ref (b + 133), .int (nI 0), .int (nI false.toNat), .int (nI 0), .int (nI 0), .ref (b + 134), .ref (b + 135), .ref (b + 136), .int (nI 0), .ref (b + 137), .ref (b + 138), .ref (b + 139), .int (nI 0), .null, .int (nI 0), .null, .null, .null, .null, .null]) rfl (Nat.le_of_ble_eq_true rfl) dX7_init_169 (fun H locs E41 hP hS hE0 hq => ?_)
  have hN1 := (hq 120 (by decide)).trans hN1
  have hN4 := (hq 121 (by decide)).trans hN4
  have hN6 := (hq 122 (by decide)).trans hN6
  have hN8 := (hq 123 (by decide)).trans hN8
  have hN10 := (hq 124 (by decide)).trans hN10
  have hN12 := (hq 125 (by decide)).trans hN12
  have hN14 := (hq 126 (by decide)).trans hN14
  have hN16 := (hq 127 (by decide)).trans hN16
  have hN18 := (hq 128 (by decide)).trans hN18
  have hN20 := (hq 129 (by decide)).trans hN20
  have hN22 := (hq 130 (by decide)).trans hN22
  have hN24 := (hq 131 (by decide)).trans hN24
  have hN26 := (hq 132 (by decide)).trans hN26
  have hN28 := (hq 133 (by decide)).trans hN28
  have hN30 := (hq 134 (by decide)).trans hN30
  have hN32 := (hq 135 (by decide)).trans hN32
  have hN34 := (hq 136 (by decide)).trans hN34
  have hN36 := (hq 137 (by decide)).trans hN36
  have hN38 := (hq 138 (by decide)).trans hN38
  have hN40 := (hq 139 (by decide)).trans hN40
  have hfr : ∀ j, j < 119 → E41 j = E j := fun j h0 => (hq j (by omega)).trans (hfr j h0)
  refine lv_aload_n X.1 X.2.1 dX7_init_172 rfl (lv_at hl 0 rfl) ?_
  refine lv_ldc (v := nI 49153) X.1 X.2.1 X.2.2.2.1 (X.2.2.2.2.1 _ wq5_21) dX7_init_173 ?_
  refine wm_newa (n := 140) (N := 49153) (k := 0) (atype := .int) (ty := .int) (a0 := wm_aI 49153) X hP hS (by omega) rfl rfl (fun h => h) wq1_64 (wm_dI 49153) (by decide) (by decide) (by rw [hRe]; dsimp only; omega) (by rw [hRe]; dsimp only; omega) dX7_init_175 (fun H E42 hP hS hN42 hq => ?_)
  have hN42 : E42 140 = wm_I C 49153 (fun _ => 0) := hN42
  have hE0 := (hq 119 (by decide)).trans hE0
  have hN1 := (hq 120 (by decide)).trans hN1
  have hN4 := (hq 121 (by decide)).trans hN4
  have hN6 := (hq 122 (by decide)).trans hN6
  have hN8 := (hq 123 (by decide)).trans hN8
  have hN10 := (hq 124 (by decide)).trans hN10
  have hN12 := (hq 125 (by decide)).trans hN12
  have hN14 := (hq 126 (by decide)).trans hN14
  have hN16 := (hq 127 (by decide)).trans hN16
  have hN18 := (hq 128 (by decide)).trans hN18
  have hN20 := (hq 129 (by decide)).trans hN20
  have hN22 := (hq 130 (by decide)).trans hN22
  have hN24 := (hq 131 (by decide)).trans hN24
  have hN26 := (hq 132 (by decide)).trans hN26
  have hN28 := (hq 133 (by decide)).trans hN28
  have hN30 := (hq 134 (by decide)).trans hN30
  have hN32 := (hq 135 (by decide)).trans hN32
  have hN34 := (hq 136 (by decide)).trans hN34
  have hN36 := (hq 137 (by decide)).trans hN36
  have hN38 := (hq 138 (by decide)).trans hN38
  have hN40 := (hq 139 (by decide)).trans hN40
  have hfr : ∀ j, j < 119 → E42 j = E j := fun j h0 => (hq j (by omega)).trans (hfr j h0)
  have hP := wm_Pcg (n' := 141) hP (by omega)
  refine wm_Wcg (a := 21) (d := 346200) (by omega) (by omega) ?_
  refine wm_putF (v := .ref (b + 140)) X hnm hP hS (by omega) hE0 rfl wm_inX7 tyX7 tyX7_ok nmX7 32 (by decide) wq5_54 rfl rfl rfl rfl (fs1 := [.int (nI 0), .ref (b + 120), .int (nI 0), .int (nI 0), .int (nI 4294967295), .ref (b + 121), .ref (b + 122), .ref (b + 123), .ref (b + 124), .ref (b + 125), .ref (b + 126), .ref (b + 127), .int (nI 0), .int (nI 0), .ref (b + 128), .ref (b + 129), .ref (b + 130), .ref (b + 131), .ref (b + 132), .ref (b + 133), .int (nI 0), .int (nI false.toNat), .int (nI 0), .int (nI 0), .ref (b + 134), .ref (b + 135), .ref (b + 136), .int (nI 0), .ref (b + 137), .ref (b + 138), .ref (b + 139), .int (nI 0), .ref (b + 140), .int (nI 0), .null, .null, .null, .null, .null]) rfl (Nat.le_of_ble_eq_true rfl) dX7_init_177 (fun H locs E43 hP hS hE0 hq => ?_)
  have hN1 := (hq 120 (by decide)).trans hN1
  have hN4 := (hq 121 (by decide)).trans hN4
  have hN6 := (hq 122 (by decide)).trans hN6
  have hN8 := (hq 123 (by decide)).trans hN8
  have hN10 := (hq 124 (by decide)).trans hN10
  have hN12 := (hq 125 (by decide)).trans hN12
  have hN14 := (hq 126 (by decide)).trans hN14
  have hN16 := (hq 127 (by decide)).trans hN16
  have hN18 := (hq 128 (by decide)).trans hN18
  have hN20 := (hq 129 (by decide)).trans hN20
  have hN22 := (hq 130 (by decide)).trans hN22
  have hN24 := (hq 131 (by decide)).trans hN24
  have hN26 := (hq 132 (by decide)).trans hN26
  have hN28 := (hq 133 (by decide)).trans hN28
  have hN30 := (hq 134 (by decide)).trans hN30
  have hN32 := (hq 135 (by decide)).trans hN32
  have hN34 := (hq 136 (by decide)).trans hN34
  have hN36 := (hq 137 (by decide)).trans hN36
  have hN38 := (hq 138 (by decide)).trans hN38
  have hN40 := (hq 139 (by decide)).trans hN40
  have hN42 := (hq 140 (by decide)).trans hN42
  have hfr : ∀ j, j < 119 → E43 j = E j := fun j h0 => (hq j (by omega)).trans (hfr j h0)
  refine lv_aload_n X.1 X.2.1 dX7_init_180 rfl (lv_at hl 0 rfl) ?_
  refine lv_iconst (v := nI 4294967295) X.1 X.2.1 dX7_init_181 (by decide) ?_
  refine wm_put (v := .int (nI 4294967295)) X hP hS (by omega) hE0 rfl wm_inX7 tyX7 tyX7_ok nmX7 33 (by decide) wq5_55 rfl rfl rfl (fs1 := [.int (nI 0), .ref (b + 120), .int (nI 0), .int (nI 0), .int (nI 4294967295), .ref (b + 121), .ref (b + 122), .ref (b + 123), .ref (b + 124), .ref (b + 125), .ref (b + 126), .ref (b + 127), .int (nI 0), .int (nI 0), .ref (b + 128), .ref (b + 129), .ref (b + 130), .ref (b + 131), .ref (b + 132), .ref (b + 133), .int (nI 0), .int (nI false.toNat), .int (nI 0), .int (nI 0), .ref (b + 134), .ref (b + 135), .ref (b + 136), .int (nI 0), .ref (b + 137), .ref (b + 138), .ref (b + 139), .int (nI 0), .ref (b + 140), .int (nI 4294967295), .null, .null, .null, .null, .null]) rfl (Nat.le_of_ble_eq_true rfl) dX7_init_182 (fun H locs E44 hP hS hE0 hq => ?_)
  have hN1 := (hq 120 (by decide)).trans hN1
  have hN4 := (hq 121 (by decide)).trans hN4
  have hN6 := (hq 122 (by decide)).trans hN6
  have hN8 := (hq 123 (by decide)).trans hN8
  have hN10 := (hq 124 (by decide)).trans hN10
  have hN12 := (hq 125 (by decide)).trans hN12
  have hN14 := (hq 126 (by decide)).trans hN14
  have hN16 := (hq 127 (by decide)).trans hN16
  have hN18 := (hq 128 (by decide)).trans hN18
  have hN20 := (hq 129 (by decide)).trans hN20
  have hN22 := (hq 130 (by decide)).trans hN22
  have hN24 := (hq 131 (by decide)).trans hN24
  have hN26 := (hq 132 (by decide)).trans hN26
  have hN28 := (hq 133 (by decide)).trans hN28
  have hN30 := (hq 134 (by decide)).trans hN30
  have hN32 := (hq 135 (by decide)).trans hN32
  have hN34 := (hq 136 (by decide)).trans hN34
  have hN36 := (hq 137 (by decide)).trans hN36
  have hN38 := (hq 138 (by decide)).trans hN38
  have hN40 := (hq 139 (by decide)).trans hN40
  have hN42 := (hq 140 (by decide)).trans hN42
  have hfr : ∀ j, j < 119 → E44 j = E j := fun j h0 => (hq j (by omega)).trans (hfr j h0)
  refine lv_aload_n X.1 X.2.1 dX7_init_185 rfl (lv_at hl 0 rfl) ?_
  refine lv_sipush (v := nI 2048) X.1 X.2.1 dX7_init_186 (by decide) ?_
  refine wm_newa (n := 141) (N := 2048) (k := 1) (atype := .long) (ty := .long) (a0 := wm_aJ 2048) X hP hS (by omega) rfl rfl (fun h => h) wq1_182 (wm_dJ 2048) (by decide) (by decide) (by rw [hRe]; dsimp only; omega) (by rw [hRe]; dsimp only; omega) dX7_init_189 (fun H E45 hP hS hN45 hq => ?_)
  have hN45 : E45 141 = wm_J C 2048 (fun _ => 0) := hN45
  have hE0 := (hq 119 (by decide)).trans hE0
  have hN1 := (hq 120 (by decide)).trans hN1
  have hN4 := (hq 121 (by decide)).trans hN4
  have hN6 := (hq 122 (by decide)).trans hN6
  have hN8 := (hq 123 (by decide)).trans hN8
  have hN10 := (hq 124 (by decide)).trans hN10
  have hN12 := (hq 125 (by decide)).trans hN12
  have hN14 := (hq 126 (by decide)).trans hN14
  have hN16 := (hq 127 (by decide)).trans hN16
  have hN18 := (hq 128 (by decide)).trans hN18
  have hN20 := (hq 129 (by decide)).trans hN20
  have hN22 := (hq 130 (by decide)).trans hN22
  have hN24 := (hq 131 (by decide)).trans hN24
  have hN26 := (hq 132 (by decide)).trans hN26
  have hN28 := (hq 133 (by decide)).trans hN28
  have hN30 := (hq 134 (by decide)).trans hN30
  have hN32 := (hq 135 (by decide)).trans hN32
  have hN34 := (hq 136 (by decide)).trans hN34
  have hN36 := (hq 137 (by decide)).trans hN36
  have hN38 := (hq 138 (by decide)).trans hN38
  have hN40 := (hq 139 (by decide)).trans hN40
  have hN42 := (hq 140 (by decide)).trans hN42
  have hfr : ∀ j, j < 119 → E45 j = E j := fun j h0 => (hq j (by omega)).trans (hfr j h0)
  have hP := wm_Pcg (n' := 142) hP (by omega)
  refine wm_Wcg (a := 22) (d := 348248) (by omega) (by omega) ?_
  refine wm_putF (v := .ref (b + 141)) X hnm hP hS (by omega) hE0 rfl wm_inX7 tyX7 tyX7_ok nmX7 34 (by decide) wq5_56 rfl rfl rfl rfl (fs1 := [.int (nI 0), .ref (b + 120), .int (nI 0), .int (nI 0), .int (nI 4294967295), .ref (b + 121), .ref (b + 122), .ref (b + 123), .ref (b + 124), .ref (b + 125), .ref (b + 126), .ref (b + 127), .int (nI 0), .int (nI 0), .ref (b + 128), .ref (b + 129), .ref (b + 130), .ref (b + 131), .ref (b + 132), .ref (b + 133), .int (nI 0), .int (nI false.toNat), .int (nI 0), .int (nI 0), .ref (b + 134), .ref (b + 135), .ref (b + 136), .int (nI 0), .ref (b + 137), .ref (b + 138), .ref (b + 139), .int (nI 0), .ref (b + 140), .int (nI 4294967295), .ref (b + 141), .null, .null, .null, .null]) rfl (Nat.le_of_ble_eq_true rfl) dX7_init_191 (fun H locs E46 hP hS hE0 hq => ?_)
  have hN1 := (hq 120 (by decide)).trans hN1
  have hN4 := (hq 121 (by decide)).trans hN4
  have hN6 := (hq 122 (by decide)).trans hN6
  have hN8 := (hq 123 (by decide)).trans hN8
  have hN10 := (hq 124 (by decide)).trans hN10
  have hN12 := (hq 125 (by decide)).trans hN12
  have hN14 := (hq 126 (by decide)).trans hN14
  have hN16 := (hq 127 (by decide)).trans hN16
  have hN18 := (hq 128 (by decide)).trans hN18
  have hN20 := (hq 129 (by decide)).trans hN20
  have hN22 := (hq 130 (by decide)).trans hN22
  have hN24 := (hq 131 (by decide)).trans hN24
  have hN26 := (hq 132 (by decide)).trans hN26
  have hN28 := (hq 133 (by decide)).trans hN28
  have hN30 := (hq 134 (by decide)).trans hN30
  have hN32 := (hq 135 (by decide)).trans hN32
  have hN34 := (hq 136 (by decide)).trans hN34
  have hN36 := (hq 137 (by decide)).trans hN36
  have hN38 := (hq 138 (by decide)).trans hN38
  have hN40 := (hq 139 (by decide)).trans hN40
  have hN42 := (hq 140 (by decide)).trans hN42
  have hN45 := (hq 141 (by decide)).trans hN45
  have hfr : ∀ j, j < 119 → E46 j = E j := fun j h0 => (hq j (by omega)).trans (hfr j h0)
  refine lv_aload_n X.1 X.2.1 dX7_init_194 rfl (lv_at hl 0 rfl) ?_
  refine lv_sipush (v := nI 2048) X.1 X.2.1 dX7_init_195 (by decide) ?_
  refine wm_newa (n := 142) (N := 2048) (k := 1) (atype := .long) (ty := .long) (a0 := wm_aJ 2048) X hP hS (by omega) rfl rfl (fun h => h) wq1_182 (wm_dJ 2048) (by decide) (by decide) (by rw [hRe]; dsimp only; omega) (by rw [hRe]; dsimp only; omega) dX7_init_198 (fun H E47 hP hS hN47 hq => ?_)
  have hN47 : E47 142 = wm_J C 2048 (fun _ => 0) := hN47
  have hE0 := (hq 119 (by decide)).trans hE0
  have hN1 := (hq 120 (by decide)).trans hN1
  have hN4 := (hq 121 (by decide)).trans hN4
  have hN6 := (hq 122 (by decide)).trans hN6
  have hN8 := (hq 123 (by decide)).trans hN8
  have hN10 := (hq 124 (by decide)).trans hN10
  have hN12 := (hq 125 (by decide)).trans hN12
  have hN14 := (hq 126 (by decide)).trans hN14
  have hN16 := (hq 127 (by decide)).trans hN16
  have hN18 := (hq 128 (by decide)).trans hN18
  have hN20 := (hq 129 (by decide)).trans hN20
  have hN22 := (hq 130 (by decide)).trans hN22
  have hN24 := (hq 131 (by decide)).trans hN24
  have hN26 := (hq 132 (by decide)).trans hN26
  have hN28 := (hq 133 (by decide)).trans hN28
  have hN30 := (hq 134 (by decide)).trans hN30
  have hN32 := (hq 135 (by decide)).trans hN32
  have hN34 := (hq 136 (by decide)).trans hN34
  have hN36 := (hq 137 (by decide)).trans hN36
  have hN38 := (hq 138 (by decide)).trans hN38
  have hN40 := (hq 139 (by decide)).trans hN40
  have hN42 := (hq 140 (by decide)).trans hN42
  have hN45 := (hq 141 (by decide)).trans hN45
  have hfr : ∀ j, j < 119 → E47 j = E j := fun j h0 => (hq j (by omega)).trans (hfr j h0)
  have hP := wm_Pcg (n' := 143) hP (by omega)
  refine wm_Wcg (a := 23) (d := 350296) (by omega) (by omega) ?_
  refine wm_putF (v := .ref (b + 142)) X hnm hP hS (by omega) hE0 rfl wm_inX7 tyX7 tyX7_ok nmX7 35 (by decide) wq5_57 rfl rfl rfl rfl (fs1 := [.int (nI 0), .ref (b + 120), .int (nI 0), .int (nI 0), .int (nI 4294967295), .ref (b + 121), .ref (b + 122), .ref (b + 123), .ref (b + 124), .ref (b + 125), .ref (b + 126), .ref (b + 127), .int (nI 0), .int (nI 0), .ref (b + 128), .ref (b + 129), .ref (b + 130), .ref (b + 131), .ref (b + 132), .ref (b + 133), .int (nI 0), .int (nI false.toNat), .int (nI 0), .int (nI 0), .ref (b + 134), .ref (b + 135), .ref (b + 136), .int (nI 0), .ref (b + 137), .ref (b + 138), .ref (b + 139), .int (nI 0), .ref (b + 140), .int (nI 4294967295), .ref (b + 141), .ref (b + 142), .null, .null, .null]) rfl (Nat.le_of_ble_eq_true rfl) dX7_init_200 (fun H locs E48 hP hS hE0 hq => ?_)
  have hN1 := (hq 120 (by decide)).trans hN1
  have hN4 := (hq 121 (by decide)).trans hN4
  have hN6 := (hq 122 (by decide)).trans hN6
  have hN8 := (hq 123 (by decide)).trans hN8
  have hN10 := (hq 124 (by decide)).trans hN10
  have hN12 := (hq 125 (by decide)).trans hN12
  have hN14 := (hq 126 (by decide)).trans hN14
  have hN16 := (hq 127 (by decide)).trans hN16
  have hN18 := (hq 128 (by decide)).trans hN18
  have hN20 := (hq 129 (by decide)).trans hN20
  have hN22 := (hq 130 (by decide)).trans hN22
  have hN24 := (hq 131 (by decide)).trans hN24
  have hN26 := (hq 132 (by decide)).trans hN26
  have hN28 := (hq 133 (by decide)).trans hN28
  have hN30 := (hq 134 (by decide)).trans hN30
  have hN32 := (hq 135 (by decide)).trans hN32
  have hN34 := (hq 136 (by decide)).trans hN34
  have hN36 := (hq 137 (by decide)).trans hN36
  have hN38 := (hq 138 (by decide)).trans hN38
  have hN40 := (hq 139 (by decide)).trans hN40
  have hN42 := (hq 140 (by decide)).trans hN42
  have hN45 := (hq 141 (by decide)).trans hN45
  have hN47 := (hq 142 (by decide)).trans hN47
  have hfr : ∀ j, j < 119 → E48 j = E j := fun j h0 => (hq j (by omega)).trans (hfr j h0)
  refine lv_aload_n X.1 X.2.1 dX7_init_203 rfl (lv_at hl 0 rfl) ?_
  refine lv_sipush (v := nI 2048) X.1 X.2.1 dX7_init_204 (by decide) ?_
  refine wm_newa (n := 143) (N := 2048) (k := 0) (atype := .int) (ty := .int) (a0 := wm_aI 2048) X hP hS (by omega) rfl rfl (fun h => h) wq1_64 (wm_dI 2048) (by decide) (by decide) (by rw [hRe]; dsimp only; omega) (by rw [hRe]; dsimp only; omega) dX7_init_207 (fun H E49 hP hS hN49 hq => ?_)
  have hN49 : E49 143 = wm_I C 2048 (fun _ => 0) := hN49
  have hE0 := (hq 119 (by decide)).trans hE0
  have hN1 := (hq 120 (by decide)).trans hN1
  have hN4 := (hq 121 (by decide)).trans hN4
  have hN6 := (hq 122 (by decide)).trans hN6
  have hN8 := (hq 123 (by decide)).trans hN8
  have hN10 := (hq 124 (by decide)).trans hN10
  have hN12 := (hq 125 (by decide)).trans hN12
  have hN14 := (hq 126 (by decide)).trans hN14
  have hN16 := (hq 127 (by decide)).trans hN16
  have hN18 := (hq 128 (by decide)).trans hN18
  have hN20 := (hq 129 (by decide)).trans hN20
  have hN22 := (hq 130 (by decide)).trans hN22
  have hN24 := (hq 131 (by decide)).trans hN24
  have hN26 := (hq 132 (by decide)).trans hN26
  have hN28 := (hq 133 (by decide)).trans hN28
  have hN30 := (hq 134 (by decide)).trans hN30
  have hN32 := (hq 135 (by decide)).trans hN32
  have hN34 := (hq 136 (by decide)).trans hN34
  have hN36 := (hq 137 (by decide)).trans hN36
  have hN38 := (hq 138 (by decide)).trans hN38
  have hN40 := (hq 139 (by decide)).trans hN40
  have hN42 := (hq 140 (by decide)).trans hN42
  have hN45 := (hq 141 (by decide)).trans hN45
  have hN47 := (hq 142 (by decide)).trans hN47
  have hfr : ∀ j, j < 119 → E49 j = E j := fun j h0 => (hq j (by omega)).trans (hfr j h0)
  have hP := wm_Pcg (n' := 144) hP (by omega)
  refine wm_Wcg (a := 24) (d := 352344) (by omega) (by omega) ?_
  refine wm_putF (v := .ref (b + 143)) X hnm hP hS (by omega) hE0 rfl wm_inX7 tyX7 tyX7_ok nmX7 36 (by decide) wq5_58 rfl rfl rfl rfl (fs1 := [.int (nI 0), .ref (b + 120), .int (nI 0), .int (nI 0), .int (nI 4294967295), .ref (b + 121), .ref (b + 122), .ref (b + 123), .ref (b + 124), .ref (b + 125), .ref (b + 126), .ref (b + 127), .int (nI 0), .int (nI 0), .ref (b + 128), .ref (b + 129), .ref (b + 130), .ref (b + 131), .ref (b + 132), .ref (b + 133), .int (nI 0), .int (nI false.toNat), .int (nI 0), .int (nI 0), .ref (b + 134), .ref (b + 135), .ref (b + 136), .int (nI 0), .ref (b + 137), .ref (b + 138), .ref (b + 139), .int (nI 0), .ref (b + 140), .int (nI 4294967295), .ref (b + 141), .ref (b + 142), .ref (b + 143), .null, .null]) rfl (Nat.le_of_ble_eq_true rfl) dX7_init_209 (fun H locs E50 hP hS hE0 hq => ?_)
  have hN1 := (hq 120 (by decide)).trans hN1
  have hN4 := (hq 121 (by decide)).trans hN4
  have hN6 := (hq 122 (by decide)).trans hN6
  have hN8 := (hq 123 (by decide)).trans hN8
  have hN10 := (hq 124 (by decide)).trans hN10
  have hN12 := (hq 125 (by decide)).trans hN12
  have hN14 := (hq 126 (by decide)).trans hN14
  have hN16 := (hq 127 (by decide)).trans hN16
  have hN18 := (hq 128 (by decide)).trans hN18
  have hN20 := (hq 129 (by decide)).trans hN20
  have hN22 := (hq 130 (by decide)).trans hN22
  have hN24 := (hq 131 (by decide)).trans hN24
  have hN26 := (hq 132 (by decide)).trans hN26
  have hN28 := (hq 133 (by decide)).trans hN28
  have hN30 := (hq 134 (by decide)).trans hN30
  have hN32 := (hq 135 (by decide)).trans hN32
  have hN34 := (hq 136 (by decide)).trans hN34
  have hN36 := (hq 137 (by decide)).trans hN36
  have hN38 := (hq 138 (by decide)).trans hN38
  have hN40 := (hq 139 (by decide)).trans hN40
  have hN42 := (hq 140 (by decide)).trans hN42
  have hN45 := (hq 141 (by decide)).trans hN45
  have hN47 := (hq 142 (by decide)).trans hN47
  have hN49 := (hq 143 (by decide)).trans hN49
  have hfr : ∀ j, j < 119 → E50 j = E j := fun j h0 => (hq j (by omega)).trans (hfr j h0)
  refine lv_aload_n X.1 X.2.1 dX7_init_212 rfl (lv_at hl 0 rfl) ?_
  refine lv_sipush (v := nI 2048) X.1 X.2.1 dX7_init_213 (by decide) ?_
  refine wm_newa (n := 144) (N := 2048) (k := 0) (atype := .int) (ty := .int) (a0 := wm_aI 2048) X hP hS (by omega) rfl rfl (fun h => h) wq1_64 (wm_dI 2048) (by decide) (by decide) (by rw [hRe]; dsimp only; omega) (by rw [hRe]; dsimp only; omega) dX7_init_216 (fun H E51 hP hS hN51 hq => ?_)
  have hN51 : E51 144 = wm_I C 2048 (fun _ => 0) := hN51
  have hE0 := (hq 119 (by decide)).trans hE0
  have hN1 := (hq 120 (by decide)).trans hN1
  have hN4 := (hq 121 (by decide)).trans hN4
  have hN6 := (hq 122 (by decide)).trans hN6
  have hN8 := (hq 123 (by decide)).trans hN8
  have hN10 := (hq 124 (by decide)).trans hN10
  have hN12 := (hq 125 (by decide)).trans hN12
  have hN14 := (hq 126 (by decide)).trans hN14
  have hN16 := (hq 127 (by decide)).trans hN16
  have hN18 := (hq 128 (by decide)).trans hN18
  have hN20 := (hq 129 (by decide)).trans hN20
  have hN22 := (hq 130 (by decide)).trans hN22
  have hN24 := (hq 131 (by decide)).trans hN24
  have hN26 := (hq 132 (by decide)).trans hN26
  have hN28 := (hq 133 (by decide)).trans hN28
  have hN30 := (hq 134 (by decide)).trans hN30
  have hN32 := (hq 135 (by decide)).trans hN32
  have hN34 := (hq 136 (by decide)).trans hN34
  have hN36 := (hq 137 (by decide)).trans hN36
  have hN38 := (hq 138 (by decide)).trans hN38
  have hN40 := (hq 139 (by decide)).trans hN40
  have hN42 := (hq 140 (by decide)).trans hN42
  have hN45 := (hq 141 (by decide)).trans hN45
  have hN47 := (hq 142 (by decide)).trans hN47
  have hN49 := (hq 143 (by decide)).trans hN49
  have hfr : ∀ j, j < 119 → E51 j = E j := fun j h0 => (hq j (by omega)).trans (hfr j h0)
  have hP := wm_Pcg (n' := 145) hP (by omega)
  refine wm_Wcg (a := 25) (d := 354392) (by omega) (by omega) ?_
  refine wm_putF (v := .ref (b + 144)) X hnm hP hS (by omega) hE0 rfl wm_inX7 tyX7 tyX7_ok nmX7 37 (by decide) wq5_59 rfl rfl rfl rfl (fs1 := [.int (nI 0), .ref (b + 120), .int (nI 0), .int (nI 0), .int (nI 4294967295), .ref (b + 121), .ref (b + 122), .ref (b + 123), .ref (b + 124), .ref (b + 125), .ref (b + 126), .ref (b + 127), .int (nI 0), .int (nI 0), .ref (b + 128), .ref (b + 129), .ref (b + 130), .ref (b + 131), .ref (b + 132), .ref (b + 133), .int (nI 0), .int (nI false.toNat), .int (nI 0), .int (nI 0), .ref (b + 134), .ref (b + 135), .ref (b + 136), .int (nI 0), .ref (b + 137), .ref (b + 138), .ref (b + 139), .int (nI 0), .ref (b + 140), .int (nI 4294967295), .ref (b + 141), .ref (b + 142), .ref (b + 143), .ref (b + 144), .null]) rfl (Nat.le_of_ble_eq_true rfl) dX7_init_218 (fun H locs E52 hP hS hE0 hq => ?_)
  have hN1 := (hq 120 (by decide)).trans hN1
  have hN4 := (hq 121 (by decide)).trans hN4
  have hN6 := (hq 122 (by decide)).trans hN6
  have hN8 := (hq 123 (by decide)).trans hN8
  have hN10 := (hq 124 (by decide)).trans hN10
  have hN12 := (hq 125 (by decide)).trans hN12
  have hN14 := (hq 126 (by decide)).trans hN14
  have hN16 := (hq 127 (by decide)).trans hN16
  have hN18 := (hq 128 (by decide)).trans hN18
  have hN20 := (hq 129 (by decide)).trans hN20
  have hN22 := (hq 130 (by decide)).trans hN22
  have hN24 := (hq 131 (by decide)).trans hN24
  have hN26 := (hq 132 (by decide)).trans hN26
  have hN28 := (hq 133 (by decide)).trans hN28
  have hN30 := (hq 134 (by decide)).trans hN30
  have hN32 := (hq 135 (by decide)).trans hN32
  have hN34 := (hq 136 (by decide)).trans hN34
  have hN36 := (hq 137 (by decide)).trans hN36
  have hN38 := (hq 138 (by decide)).trans hN38
  have hN40 := (hq 139 (by decide)).trans hN40
  have hN42 := (hq 140 (by decide)).trans hN42
  have hN45 := (hq 141 (by decide)).trans hN45
  have hN47 := (hq 142 (by decide)).trans hN47
  have hN49 := (hq 143 (by decide)).trans hN49
  have hN51 := (hq 144 (by decide)).trans hN51
  have hfr : ∀ j, j < 119 → E52 j = E j := fun j h0 => (hq j (by omega)).trans (hfr j h0)
  refine lv_aload_n X.1 X.2.1 dX7_init_221 rfl (lv_at hl 0 rfl) ?_
  refine lv_sipush (v := nI 2048) X.1 X.2.1 dX7_init_222 (by decide) ?_
  refine wm_newa (n := 145) (N := 2048) (k := 2) (atype := .boolean) (ty := .boolean) (a0 := wm_aZ 2048) X hP hS (by omega) rfl rfl (fun h => h) wq1_181 (wm_dZ 2048) (by decide) (by decide) (by rw [hRe]; dsimp only; omega) (by rw [hRe]; dsimp only; omega) dX7_init_225 (fun H E53 hP hS hN53 hq => ?_)
  have hN53 : E53 145 = wm_Z C 2048 (fun _ => false) := hN53
  have hE0 := (hq 119 (by decide)).trans hE0
  have hN1 := (hq 120 (by decide)).trans hN1
  have hN4 := (hq 121 (by decide)).trans hN4
  have hN6 := (hq 122 (by decide)).trans hN6
  have hN8 := (hq 123 (by decide)).trans hN8
  have hN10 := (hq 124 (by decide)).trans hN10
  have hN12 := (hq 125 (by decide)).trans hN12
  have hN14 := (hq 126 (by decide)).trans hN14
  have hN16 := (hq 127 (by decide)).trans hN16
  have hN18 := (hq 128 (by decide)).trans hN18
  have hN20 := (hq 129 (by decide)).trans hN20
  have hN22 := (hq 130 (by decide)).trans hN22
  have hN24 := (hq 131 (by decide)).trans hN24
  have hN26 := (hq 132 (by decide)).trans hN26
  have hN28 := (hq 133 (by decide)).trans hN28
  have hN30 := (hq 134 (by decide)).trans hN30
  have hN32 := (hq 135 (by decide)).trans hN32
  have hN34 := (hq 136 (by decide)).trans hN34
  have hN36 := (hq 137 (by decide)).trans hN36
  have hN38 := (hq 138 (by decide)).trans hN38
  have hN40 := (hq 139 (by decide)).trans hN40
  have hN42 := (hq 140 (by decide)).trans hN42
  have hN45 := (hq 141 (by decide)).trans hN45
  have hN47 := (hq 142 (by decide)).trans hN47
  have hN49 := (hq 143 (by decide)).trans hN49
  have hN51 := (hq 144 (by decide)).trans hN51
  have hfr : ∀ j, j < 119 → E53 j = E j := fun j h0 => (hq j (by omega)).trans (hfr j h0)
  have hP := wm_Pcg (n' := 146) hP (by omega)
  refine wm_Wcg (a := 26) (d := 356440) (by omega) (by omega) ?_
  refine wm_putF (v := .ref (b + 145)) X hnm hP hS (by omega) hE0 rfl wm_inX7 tyX7 tyX7_ok nmX7 38 (by decide) wq5_60 rfl rfl rfl rfl (fs1 := [.int (nI 0), .ref (b + 120), .int (nI 0), .int (nI 0), .int (nI 4294967295), .ref (b + 121), .ref (b + 122), .ref (b + 123), .ref (b + 124), .ref (b + 125), .ref (b + 126), .ref (b + 127), .int (nI 0), .int (nI 0), .ref (b + 128), .ref (b + 129), .ref (b + 130), .ref (b + 131), .ref (b + 132), .ref (b + 133), .int (nI 0), .int (nI false.toNat), .int (nI 0), .int (nI 0), .ref (b + 134), .ref (b + 135), .ref (b + 136), .int (nI 0), .ref (b + 137), .ref (b + 138), .ref (b + 139), .int (nI 0), .ref (b + 140), .int (nI 4294967295), .ref (b + 141), .ref (b + 142), .ref (b + 143), .ref (b + 144), .ref (b + 145)]) rfl (Nat.le_of_ble_eq_true rfl) dX7_init_227 (fun H locs E54 hP hS hE0 hq => ?_)
  have hN1 := (hq 120 (by decide)).trans hN1
  have hN4 := (hq 121 (by decide)).trans hN4
  have hN6 := (hq 122 (by decide)).trans hN6
  have hN8 := (hq 123 (by decide)).trans hN8
  have hN10 := (hq 124 (by decide)).trans hN10
  have hN12 := (hq 125 (by decide)).trans hN12
  have hN14 := (hq 126 (by decide)).trans hN14
  have hN16 := (hq 127 (by decide)).trans hN16
  have hN18 := (hq 128 (by decide)).trans hN18
  have hN20 := (hq 129 (by decide)).trans hN20
  have hN22 := (hq 130 (by decide)).trans hN22
  have hN24 := (hq 131 (by decide)).trans hN24
  have hN26 := (hq 132 (by decide)).trans hN26
  have hN28 := (hq 133 (by decide)).trans hN28
  have hN30 := (hq 134 (by decide)).trans hN30
  have hN32 := (hq 135 (by decide)).trans hN32
  have hN34 := (hq 136 (by decide)).trans hN34
  have hN36 := (hq 137 (by decide)).trans hN36
  have hN38 := (hq 138 (by decide)).trans hN38
  have hN40 := (hq 139 (by decide)).trans hN40
  have hN42 := (hq 140 (by decide)).trans hN42
  have hN45 := (hq 141 (by decide)).trans hN45
  have hN47 := (hq 142 (by decide)).trans hN47
  have hN49 := (hq 143 (by decide)).trans hN49
  have hN51 := (hq 144 (by decide)).trans hN51
  have hN53 := (hq 145 (by decide)).trans hN53
  have hfr : ∀ j, j < 119 → E54 j = E j := fun j h0 => (hq j (by omega)).trans (hfr j h0)
  refine lv_iconst (v := nI 0) X.1 X.2.1 dX7_init_230 (by decide) ?_
  refine lv_istore_n (lv' := [(1, .int (nI 0)), (0, .ref (b + 119))]) X.1 X.2.1 dX7_init_231 rfl hl (by decide) rfl (fun ls hl => ?_)
  have L232 : ∀ (fu : Nat) (i : Nat), 8 - i < fu → i ≤ 8 → ∀ (E55 : Nat → va_E) (H : Heap) (locs : List Loc) (ls : Array Slot), wm_P D b (146 + 0 * i) E55 H → wm_S b s.heap H locs → E55 119 = .inr (7, [.int (nI 0), .ref (b + 120), .int (nI 0), .int (nI 0), .int (nI 4294967295), .ref (b + 121), .ref (b + 122), .ref (b + 123), .ref (b + 124), .ref (b + 125), .ref (b + 126), .ref (b + 127), .int (nI 0), .int (nI 0), .ref (b + 128), .ref (b + 129), .ref (b + 130), .ref (b + 131), .ref (b + 132), .ref (b + 133), .int (nI 0), .int (nI false.toNat), .int (nI 0), .int (nI 0), .ref (b + 134), .ref (b + 135), .ref (b + 136), .int (nI 0), .ref (b + 137), .ref (b + 138), .ref (b + 139), .int (nI 0), .ref (b + 140), .int (nI 4294967295), .ref (b + 141), .ref (b + 142), .ref (b + 143), .ref (b + 144), .ref (b + 145)]) → E55 120 = wm_I C 200 (fun _ => 0) → E55 121 = wm_I C 1536 (fun _ => 0) → E55 122 = wm_I C 8 (fun j => if j < i then 1 else 0) → E55 123 = wm_I C 8 (fun _ => 0) → E55 124 = wm_I C 8 (fun _ => 0) → E55 125 = wm_I C 192 (fun _ => 0) → E55 126 = wm_I C 24 (fun _ => 0) → E55 127 = wm_I C 24 (fun _ => 0) → E55 128 = wm_Z C 22 (fun _ => false) → E55 129 = wm_I C 22 (fun _ => 0) → E55 130 = wm_I C 22 (fun _ => 0) → E55 131 = wm_Z C 22 (fun _ => false) → E55 132 = wm_I C 22 (fun _ => 0) → E55 133 = wm_I C 22 (fun _ => 0) → E55 134 = wm_I C 49152 (fun _ => 0) → E55 135 = wm_I C 49152 (fun _ => 0) → E55 136 = wm_Z C 49152 (fun _ => false) → E55 137 = wm_I C 49153 (fun _ => 0) → E55 138 = wm_I C 49153 (fun _ => 0) → E55 139 = wm_I C 49153 (fun _ => 0) → E55 140 = wm_I C 49153 (fun _ => 0) → E55 141 = wm_J C 2048 (fun _ => 0) → E55 142 = wm_J C 2048 (fun _ => 0) → E55 143 = wm_I C 2048 (fun _ => 0) → E55 144 = wm_I C 2048 (fun _ => 0) → E55 145 = wm_Z C 2048 (fun _ => false) → (∀ j, j < 119 → E55 j = E j) → lv_has ls 2 [(0, .ref (b + 119)), (1, .int (nI i))] → W p l e R s m args below meth c H locs (26 + 0 * i) (356440 + 0 * i) Q (F0 m 232 ls []) := by
    intro fu
    induction fu with
    | zero => intro i hm; exact absurd hm (Nat.not_lt_zero _)
    | succ fu ih232 =>
      intro i hm hi E55 H locs ls hP hS hE0 hN1 hN4 hN6 hN8 hN10 hN12 hN14 hN16 hN18 hN20 hN22 hN24 hN26 hN28 hN30 hN32 hN34 hN36 hN38 hN40 hN42 hN45 hN47 hN49 hN51 hN53 hfr hl
      refine lv_iload_n X.1 X.2.1 dX7_init_232 rfl (lv_at hl 1 rfl) ?_
      refine lv_bipush (v := nI 8) X.1 X.2.1 dX7_init_233 (by decide) ?_
      refine wm_icmp_ge (x := i) (y := 8) (tgt := 251) X (by omega) (by decide) dX7_init_235 (by decide) (fun hc235 => ?_) (fun hc235 => ?_)
      · have hi9 : i = 8 := by omega
        subst hi9
        have hP := wm_Pcg (n' := 146) hP (by omega)
        refine wm_Wcg (a := 26) (d := 356440) (by omega) (by omega) ?_
        exact wm_vret (post := pX7_init C b E) X hr hP hS ⟨hE0, hN1, hN4, hN6, hN8, hN10, hN12, hN14, hN16, hN18, hN20, hN22, hN24, hN26, hN28, hN30, hN32, hN34, hN36, hN38, hN40, hN42, hN45, hN47, hN49, hN51, hN53, hfr⟩ hQ dX7_init_251
      · refine lv_aload_n X.1 X.2.1 dX7_init_238 rfl (lv_at hl 0 rfl) ?_
        refine wm_get X hP (by omega) hE0 rfl wm_inX7 6 (by decide) wq5_28 rfl dX7_init_239 ?_
        refine lv_iload_n X.1 X.2.1 dX7_init_242 rfl (lv_at hl 1 rfl) ?_
        refine lv_iconst (v := nI 1) X.1 X.2.1 dX7_init_243 (by decide) ?_
        refine wm_iast (i := i) (x := 1) X hP hS (by omega) hN6 (by omega) (by decide) dX7_init_244 (fun H locs E57 hP hS hN6 hq => ?_)
        have hE0 := (hq 119 (by decide)).trans hE0
        have hN1 := (hq 120 (by decide)).trans hN1
        have hN4 := (hq 121 (by decide)).trans hN4
        have hN8 := (hq 123 (by decide)).trans hN8
        have hN10 := (hq 124 (by decide)).trans hN10
        have hN12 := (hq 125 (by decide)).trans hN12
        have hN14 := (hq 126 (by decide)).trans hN14
        have hN16 := (hq 127 (by decide)).trans hN16
        have hN18 := (hq 128 (by decide)).trans hN18
        have hN20 := (hq 129 (by decide)).trans hN20
        have hN22 := (hq 130 (by decide)).trans hN22
        have hN24 := (hq 131 (by decide)).trans hN24
        have hN26 := (hq 132 (by decide)).trans hN26
        have hN28 := (hq 133 (by decide)).trans hN28
        have hN30 := (hq 134 (by decide)).trans hN30
        have hN32 := (hq 135 (by decide)).trans hN32
        have hN34 := (hq 136 (by decide)).trans hN34
        have hN36 := (hq 137 (by decide)).trans hN36
        have hN38 := (hq 138 (by decide)).trans hN38
        have hN40 := (hq 139 (by decide)).trans hN40
        have hN42 := (hq 140 (by decide)).trans hN42
        have hN45 := (hq 141 (by decide)).trans hN45
        have hN47 := (hq 142 (by decide)).trans hN47
        have hN49 := (hq 143 (by decide)).trans hN49
        have hN51 := (hq 144 (by decide)).trans hN51
        have hN53 := (hq 145 (by decide)).trans hN53
        have hfr : ∀ j, j < 119 → E57 j = E j := fun j h0 => (hq j (by omega)).trans (hfr j h0)
        refine lv_iinc (v := nI (i + 1)) (lv' := [(1, .int (nI (i + 1))), (0, .ref (b + 119))]) X.1 X.2.1 dX7_init_245 hl (k := 1) rfl (wm_inc i) (by decide) rfl (fun ls hl => ?_)
        refine lv_goto (tgt := 232) X.1 X.2.1 dX7_init_248 (by decide) ?_
        have hP := wm_Pcg (n' := 146 + 0 * (i + 1)) hP (by omega)
        refine wm_Wcg (a := 26 + 0 * (i + 1)) (d := 356440 + 0 * (i + 1)) (by omega) (by omega) ?_
        exact ih232 (i + 1) (by omega) (by omega) E57 _ _ _ hP hS hE0 hN1 hN4 (hN6.trans (congrArg (wm_I C 8) (wm_upl1 i))) hN8 hN10 hN12 hN14 hN16 hN18 hN20 hN22 hN24 hN26 hN28 hN30 hN32 hN34 hN36 hN38 hN40 hN42 hN45 hN47 hN49 hN51 hN53  hfr (lv_sub hl [1, 0] rfl)
  have hP := wm_Pcg (n' := 146 + 0 * 0) hP (by omega)
  refine wm_Wcg (a := 26 + 0 * 0) (d := 356440 + 0 * 0) (by omega) (by omega) ?_
  exact L232 (8 + 1) 0 (by omega) (by omega) E54 _ _ _ hP hS hE0 hN1 hN4 (hN6.trans (congrArg (wm_I C 8) (funext fun j => (if_neg (Nat.not_lt_zero j)).symm))) hN8 hN10 hN12 hN14 hN16 hN18 hN20 hN22 hN24 hN26 hN28 hN30 hN32 hN34 hN36 hN38 hN40 hN42 hN45 hN47 hN49 hN51 hN53  hfr (lv_sub hl [1, 0] rfl)
