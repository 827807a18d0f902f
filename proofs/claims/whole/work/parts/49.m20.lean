def pmwithinX (C : Nat → ClassId) (b : Nat) (E : Nat → va_E) (th sz fa pl ats aa op fi la wa wc kl : Nat) (be : Bool) (x y : Int32) : Int32 → (Nat → va_E) → Prop := fun r E' => r = nI false.toNat ∧ E' 119 = .inr (7, [.int (nI 1), .ref (b + 120), .int (nI sz), .int (nI fa), .int (nI pl), .ref (b + 121), .ref (b + 122), .ref (b + 123), .ref (b + 124), .ref (b + 125), .ref (b + 126), .ref (b + 127), .int (nI ats), .int (nI aa), .ref (b + 128), .ref (b + 129), .ref (b + 130), .ref (b + 131), .ref (b + 132), .ref (b + 133), .int (nI op), .int (nI be.toNat), .int (nI fi), .int (nI la), .ref (b + 134), .ref (b + 135), .ref (b + 136), .int (nI wa), .ref (b + 137), .ref (b + 138), .ref (b + 139), .int (nI wc), .ref (b + 140), .int (nI kl), .ref (b + 141), .ref (b + 142), .ref (b + 143), .ref (b + 144), .ref (b + 145)]) ∧ (∀ j, j ≠ 119 → E' j = E j)
set_option maxHeartbeats 4000000 in
set_option maxRecDepth 100000 in
theorem kmwithinX (l : Launch) (D : va_G) (C : Nat → ClassId) (b n : Nat) (E : Nat → va_E) (th sz fa pl ats aa op fi la wa wc kl : Nat) (be : Bool) (x y : Int32) (hlt0 : 119 < n) (hE0 : E 119 = .inr (7, [.int (nI th), .ref (b + 120), .int (nI sz), .int (nI fa), .int (nI pl), .ref (b + 121), .ref (b + 122), .ref (b + 123), .ref (b + 124), .ref (b + 125), .ref (b + 126), .ref (b + 127), .int (nI ats), .int (nI aa), .ref (b + 128), .ref (b + 129), .ref (b + 130), .ref (b + 131), .ref (b + 132), .ref (b + 133), .int (nI op), .int (nI be.toNat), .int (nI fi), .int (nI la), .ref (b + 134), .ref (b + 135), .ref (b + 136), .int (nI wa), .ref (b + 137), .ref (b + 138), .ref (b + 139), .int (nI wc), .ref (b + 140), .int (nI kl), .ref (b + 141), .ref (b + 142), .ref (b + 143), .ref (b + 144), .ref (b + 145)])) (hk : ¬ (0 ≤ x ∧ x < nI 8)) : Met l yX7_within (wm_ws yX7_within cX7_within 14 (some .boolean)) { frames := 1, cells := 0, slots := 0, locals := 21 } (va_Pc [.ref (b + 119), .int x, .int y] (wm_G D C b n E)) (va_Qi (pmwithinX C b E th sz fa pl ats aa op fi la wa wc kl be x y) (fun E' t => wm_P D b n E' t.heap) (wm_A b)) 0 0 (wm_A b) := by
  refine wm_ofW (by decide) (Nat.le_of_ble_eq_true rfl) (fun p e s m below meth c ls R args Q hRe hQ X hr hnm hP hS hl => ?_)
  have hl : lv_has ls 14 [(0, .ref (b + 119)), (1, .int x), (2, .int y)] := hl
  have hfr : ∀ j, j ≠ 119 → E j = E j := fun _ _ => rfl
  refine lv_aload_n X.1 X.2.1 dX7_within_0 rfl (lv_at hl 0 rfl) ?_
  refine lv_aload_n X.1 X.2.1 dX7_within_1 rfl (lv_at hl 0 rfl) ?_
  refine lv_iload_n X.1 X.2.1 dX7_within_2 rfl (lv_at hl 1 rfl) ?_
  refine wm_callVi (k := 1) (As := [.int x]) (rest := [.ref (b + 119)]) X hP hS hlt0 hE0 rfl (knoMachX l D C b n E x (by omega)) wq5_157 wq5_159 wqP2_15 wq1_8 wq5_160 (by decide) (by rw [hRe]; exact ⟨Nat.le_of_ble_eq_true rfl, Nat.le_of_ble_eq_true rfl⟩) rfl hl.1 rfl (Nat.le_of_ble_eq_true rfl) (Nat.zero_le _) (Nat.zero_le _) dX7_within_3 (fun r1 E1 H locs hw hP hS => ?_)
  obtain ⟨hrt, hEe⟩ := hw
  subst hrt
  subst hEe
  refine wm_ifz_ne (x := true) (tgt := 17) X dX7_within_6 (by decide) (fun _ => ?_) (fun h => by exfalso; revert h; decide)
  refine lv_iconst (v := nI 1) X.1 X.2.1 dX7_within_17 (by decide) ?_
  refine lv_goto (tgt := 37) X.1 X.2.1 dX7_within_18 (by decide) ?_
  refine wm_put (v := .int (nI 1)) X hP hS hlt0 hE0 rfl wm_inX7 tyX7 tyX7_ok nmX7 0 (by decide) wq5_22 rfl rfl rfl (fs1 := [.int (nI 1), .ref (b + 120), .int (nI sz), .int (nI fa), .int (nI pl), .ref (b + 121), .ref (b + 122), .ref (b + 123), .ref (b + 124), .ref (b + 125), .ref (b + 126), .ref (b + 127), .int (nI ats), .int (nI aa), .ref (b + 128), .ref (b + 129), .ref (b + 130), .ref (b + 131), .ref (b + 132), .ref (b + 133), .int (nI op), .int (nI be.toNat), .int (nI fi), .int (nI la), .ref (b + 134), .ref (b + 135), .ref (b + 136), .int (nI wa), .ref (b + 137), .ref (b + 138), .ref (b + 139), .int (nI wc), .ref (b + 140), .int (nI kl), .ref (b + 141), .ref (b + 142), .ref (b + 143), .ref (b + 144), .ref (b + 145)]) rfl (Nat.le_of_ble_eq_true rfl) dX7_within_37 (fun H locs E2 hP hS hE0 hq => ?_)
  have hfr : ∀ j, j ≠ 119 → E2 j = E j := fun j h0 => (hq j h0).trans (hfr j h0)
  refine lv_aload_n X.1 X.2.1 dX7_within_40 rfl (lv_at hl 0 rfl) ?_
  refine wm_get X hP hlt0 hE0 rfl wm_inX7 0 (by decide) wq5_22 rfl dX7_within_41 ?_
  refine lv_if_le (tgt := 49) X.1 X.2.1 dX7_within_44 (by decide) (fun h => by exfalso; revert h; decide) (fun _ => ?_)
  refine lv_iconst (v := nI 0) X.1 X.2.1 dX7_within_47 (by decide) ?_
  exact wm_zret (v := false) (post := pmwithinX C b E th sz fa pl ats aa op fi la wa wc kl be x y) X hr hP hS ⟨rfl, hE0, hfr⟩ hQ dX7_within_48
def pmwithinY (C : Nat → ClassId) (b : Nat) (E : Nat → va_E) (th sz fa pl ats aa op fi la wa wc kl : Nat) (be : Bool) (k : Nat) (y : Int32) : Int32 → (Nat → va_E) → Prop := fun r E' => r = nI false.toNat ∧ E' 119 = .inr (7, [.int (nI 1), .ref (b + 120), .int (nI sz), .int (nI fa), .int (nI pl), .ref (b + 121), .ref (b + 122), .ref (b + 123), .ref (b + 124), .ref (b + 125), .ref (b + 126), .ref (b + 127), .int (nI ats), .int (nI aa), .ref (b + 128), .ref (b + 129), .ref (b + 130), .ref (b + 131), .ref (b + 132), .ref (b + 133), .int (nI op), .int (nI be.toNat), .int (nI fi), .int (nI la), .ref (b + 134), .ref (b + 135), .ref (b + 136), .int (nI wa), .ref (b + 137), .ref (b + 138), .ref (b + 139), .int (nI wc), .ref (b + 140), .int (nI kl), .ref (b + 141), .ref (b + 142), .ref (b + 143), .ref (b + 144), .ref (b + 145)]) ∧ (∀ j, j ≠ 119 → E' j = E j)
set_option maxHeartbeats 4000000 in
set_option maxRecDepth 100000 in
theorem kmwithinY (l : Launch) (D : va_G) (C : Nat → ClassId) (b n : Nat) (E : Nat → va_E) (th sz fa pl ats aa op fi la wa wc kl : Nat) (be : Bool) (k : Nat) (y : Int32) (hlt0 : 119 < n) (hE0 : E 119 = .inr (7, [.int (nI th), .ref (b + 120), .int (nI sz), .int (nI fa), .int (nI pl), .ref (b + 121), .ref (b + 122), .ref (b + 123), .ref (b + 124), .ref (b + 125), .ref (b + 126), .ref (b + 127), .int (nI ats), .int (nI aa), .ref (b + 128), .ref (b + 129), .ref (b + 130), .ref (b + 131), .ref (b + 132), .ref (b + 133), .int (nI op), .int (nI be.toNat), .int (nI fi), .int (nI la), .ref (b + 134), .ref (b + 135), .ref (b + 136), .int (nI wa), .ref (b + 137), .ref (b + 138), .ref (b + 139), .int (nI wc), .ref (b + 140), .int (nI kl), .ref (b + 141), .ref (b + 142), .ref (b + 143), .ref (b + 144), .ref (b + 145)])) (hkk : k < 8) (hk : ¬ (0 ≤ y ∧ y < nI 8)) : Met l yX7_within (wm_ws yX7_within cX7_within 14 (some .boolean)) { frames := 1, cells := 0, slots := 0, locals := 21 } (va_Pc [.ref (b + 119), .int (nI k), .int y] (wm_G D C b n E)) (va_Qi (pmwithinY C b E th sz fa pl ats aa op fi la wa wc kl be k y) (fun E' t => wm_P D b n E' t.heap) (wm_A b)) 0 0 (wm_A b) := by
  refine wm_ofW (by decide) (Nat.le_of_ble_eq_true rfl) (fun p e s m below meth c ls R args Q hRe hQ X hr hnm hP hS hl => ?_)
  have hl : lv_has ls 14 [(0, .ref (b + 119)), (1, .int (nI k)), (2, .int y)] := hl
  have hfr : ∀ j, j ≠ 119 → E j = E j := fun _ _ => rfl
  refine lv_aload_n X.1 X.2.1 dX7_within_0 rfl (lv_at hl 0 rfl) ?_
  refine lv_aload_n X.1 X.2.1 dX7_within_1 rfl (lv_at hl 0 rfl) ?_
  refine lv_iload_n X.1 X.2.1 dX7_within_2 rfl (lv_at hl 1 rfl) ?_
  refine wm_callVi (k := 1) (As := [.int (nI k)]) (rest := [.ref (b + 119)]) X hP hS hlt0 hE0 rfl (knoMach l D C b n E k (by omega)) wq5_157 wq5_159 wqP2_15 wq1_8 wq5_160 (by decide) (by rw [hRe]; exact ⟨Nat.le_of_ble_eq_true rfl, Nat.le_of_ble_eq_true rfl⟩) rfl hl.1 rfl (Nat.le_of_ble_eq_true rfl) (Nat.zero_le _) (Nat.zero_le _) dX7_within_3 (fun r1 E1 H locs hw hP hS => ?_)
  obtain ⟨hrt, hEe⟩ := hw
  subst hrt
  subst hEe
  refine wm_ifz_ne (x := false) (tgt := 17) X dX7_within_6 (by decide) (fun h => by exfalso; revert h; decide) (fun _ => ?_)
  refine lv_aload_n X.1 X.2.1 dX7_within_9 rfl (lv_at hl 0 rfl) ?_
  refine lv_iload_n X.1 X.2.1 dX7_within_10 rfl (lv_at hl 2 rfl) ?_
  refine wm_callVi (k := 1) (As := [.int y]) (rest := [.ref (b + 119)]) X hP hS hlt0 hE0 rfl (knoMachX l D C b n E y (by omega)) wq5_157 wq5_159 wqP2_15 wq1_8 wq5_160 (by decide) (by rw [hRe]; exact ⟨Nat.le_of_ble_eq_true rfl, Nat.le_of_ble_eq_true rfl⟩) rfl hl.1 rfl (Nat.le_of_ble_eq_true rfl) (Nat.zero_le _) (Nat.zero_le _) dX7_within_11 (fun r2 E2 H locs hw hP hS => ?_)
  obtain ⟨hrt, hEe⟩ := hw
  subst hrt
  subst hEe
  refine wm_ifz_eq (x := true) (tgt := 21) X dX7_within_14 (by decide) (fun h => by exfalso; revert h; decide) (fun _ => ?_)
  refine lv_iconst (v := nI 1) X.1 X.2.1 dX7_within_17 (by decide) ?_
  refine lv_goto (tgt := 37) X.1 X.2.1 dX7_within_18 (by decide) ?_
  refine wm_put (v := .int (nI 1)) X hP hS hlt0 hE0 rfl wm_inX7 tyX7 tyX7_ok nmX7 0 (by decide) wq5_22 rfl rfl rfl (fs1 := [.int (nI 1), .ref (b + 120), .int (nI sz), .int (nI fa), .int (nI pl), .ref (b + 121), .ref (b + 122), .ref (b + 123), .ref (b + 124), .ref (b + 125), .ref (b + 126), .ref (b + 127), .int (nI ats), .int (nI aa), .ref (b + 128), .ref (b + 129), .ref (b + 130), .ref (b + 131), .ref (b + 132), .ref (b + 133), .int (nI op), .int (nI be.toNat), .int (nI fi), .int (nI la), .ref (b + 134), .ref (b + 135), .ref (b + 136), .int (nI wa), .ref (b + 137), .ref (b + 138), .ref (b + 139), .int (nI wc), .ref (b + 140), .int (nI kl), .ref (b + 141), .ref (b + 142), .ref (b + 143), .ref (b + 144), .ref (b + 145)]) rfl (Nat.le_of_ble_eq_true rfl) dX7_within_37 (fun H locs E3 hP hS hE0 hq => ?_)
  have hfr : ∀ j, j ≠ 119 → E3 j = E j := fun j h0 => (hq j h0).trans (hfr j h0)
  refine lv_aload_n X.1 X.2.1 dX7_within_40 rfl (lv_at hl 0 rfl) ?_
  refine wm_get X hP hlt0 hE0 rfl wm_inX7 0 (by decide) wq5_22 rfl dX7_within_41 ?_
  refine lv_if_le (tgt := 49) X.1 X.2.1 dX7_within_44 (by decide) (fun h => by exfalso; revert h; decide) (fun _ => ?_)
  refine lv_iconst (v := nI 0) X.1 X.2.1 dX7_within_47 (by decide) ?_
  exact wm_zret (v := false) (post := pmwithinY C b E th sz fa pl ats aa op fi la wa wc kl be k y) X hr hP hS ⟨rfl, hE0, hfr⟩ hQ dX7_within_48
def pmwithinA (C : Nat → ClassId) (b : Nat) (E : Nat → va_E) (th sz fa pl ats aa op fi la wa wc kl : Nat) (be : Bool) (k i : Nat) (ss : Nat → Nat) : Int32 → (Nat → va_E) → Prop := fun r E' => r = nI false.toNat ∧ E' 119 = .inr (7, [.int (nI 2), .ref (b + 120), .int (nI sz), .int (nI fa), .int (nI pl), .ref (b + 121), .ref (b + 122), .ref (b + 123), .ref (b + 124), .ref (b + 125), .ref (b + 126), .ref (b + 127), .int (nI ats), .int (nI aa), .ref (b + 128), .ref (b + 129), .ref (b + 130), .ref (b + 131), .ref (b + 132), .ref (b + 133), .int (nI op), .int (nI be.toNat), .int (nI fi), .int (nI la), .ref (b + 134), .ref (b + 135), .ref (b + 136), .int (nI wa), .ref (b + 137), .ref (b + 138), .ref (b + 139), .int (nI wc), .ref (b + 140), .int (nI kl), .ref (b + 141), .ref (b + 142), .ref (b + 143), .ref (b + 144), .ref (b + 145)]) ∧ (∀ j, j ≠ 119 → E' j = E j)
set_option maxHeartbeats 4000000 in
set_option maxRecDepth 100000 in
theorem kmwithinA (l : Launch) (D : va_G) (C : Nat → ClassId) (b n : Nat) (E : Nat → va_E) (th sz fa pl ats aa op fi la wa wc kl : Nat) (be : Bool) (k i : Nat) (ss : Nat → Nat) (hlt0 : 119 < n) (hE0 : E 119 = .inr (7, [.int (nI th), .ref (b + 120), .int (nI sz), .int (nI fa), .int (nI pl), .ref (b + 121), .ref (b + 122), .ref (b + 123), .ref (b + 124), .ref (b + 125), .ref (b + 126), .ref (b + 127), .int (nI ats), .int (nI aa), .ref (b + 128), .ref (b + 129), .ref (b + 130), .ref (b + 131), .ref (b + 132), .ref (b + 133), .int (nI op), .int (nI be.toNat), .int (nI fi), .int (nI la), .ref (b + 134), .ref (b + 135), .ref (b + 136), .int (nI wa), .ref (b + 137), .ref (b + 138), .ref (b + 139), .int (nI wc), .ref (b + 140), .int (nI kl), .ref (b + 141), .ref (b + 142), .ref (b + 143), .ref (b + 144), .ref (b + 145)])) (hlt1 : 122 < n) (hE1 : E 122 = wm_I C 8 ss) (hkk : k < 8) (hii : i < 8) (hsk : 11 < ss i) (hs2 : ss i ≤ 24) : Met l yX7_within (wm_ws yX7_within cX7_within 14 (some .boolean)) { frames := 1, cells := 0, slots := 0, locals := 21 } (va_Pc [.ref (b + 119), .int (nI k), .int (nI i)] (wm_G D C b n E)) (va_Qi (pmwithinA C b E th sz fa pl ats aa op fi la wa wc kl be k i ss) (fun E' t => wm_P D b n E' t.heap) (wm_A b)) 0 0 (wm_A b) := by
  refine wm_ofW (by decide) (Nat.le_of_ble_eq_true rfl) (fun p e s m below meth c ls R args Q hRe hQ X hr hnm hP hS hl => ?_)
  have hl : lv_has ls 14 [(0, .ref (b + 119)), (1, .int (nI k)), (2, .int (nI i))] := hl
  have hfr : ∀ j, j ≠ 119 → E j = E j := fun _ _ => rfl
  refine lv_aload_n X.1 X.2.1 dX7_within_0 rfl (lv_at hl 0 rfl) ?_
  refine lv_aload_n X.1 X.2.1 dX7_within_1 rfl (lv_at hl 0 rfl) ?_
  refine lv_iload_n X.1 X.2.1 dX7_within_2 rfl (lv_at hl 1 rfl) ?_
  refine wm_callVi (k := 1) (As := [.int (nI k)]) (rest := [.ref (b + 119)]) X hP hS hlt0 hE0 rfl (knoMach l D C b n E k (by omega)) wq5_157 wq5_159 wqP2_15 wq1_8 wq5_160 (by decide) (by rw [hRe]; exact ⟨Nat.le_of_ble_eq_true rfl, Nat.le_of_ble_eq_true rfl⟩) rfl hl.1 rfl (Nat.le_of_ble_eq_true rfl) (Nat.zero_le _) (Nat.zero_le _) dX7_within_3 (fun r1 E1 H locs hw hP hS => ?_)
  obtain ⟨hrt, hEe⟩ := hw
  subst hrt
  subst hEe
  refine wm_ifz_ne (x := false) (tgt := 17) X dX7_within_6 (by decide) (fun h => by exfalso; revert h; decide) (fun _ => ?_)
  refine lv_aload_n X.1 X.2.1 dX7_within_9 rfl (lv_at hl 0 rfl) ?_
  refine lv_iload_n X.1 X.2.1 dX7_within_10 rfl (lv_at hl 2 rfl) ?_
  refine wm_callVi (k := 1) (As := [.int (nI i)]) (rest := [.ref (b + 119)]) X hP hS hlt0 hE0 rfl (knoMach l D C b n E i (by omega)) wq5_157 wq5_159 wqP2_15 wq1_8 wq5_160 (by decide) (by rw [hRe]; exact ⟨Nat.le_of_ble_eq_true rfl, Nat.le_of_ble_eq_true rfl⟩) rfl hl.1 rfl (Nat.le_of_ble_eq_true rfl) (Nat.zero_le _) (Nat.zero_le _) dX7_within_11 (fun r2 E2 H locs hw hP hS => ?_)
  obtain ⟨hrt, hEe⟩ := hw
  subst hrt
  subst hEe
  refine wm_ifz_eq (x := false) (tgt := 21) X dX7_within_14 (by decide) (fun _ => ?_) (fun h => by exfalso; revert h; decide)
  refine lv_aload_n X.1 X.2.1 dX7_within_21 rfl (lv_at hl 0 rfl) ?_
  refine wm_get X hP hlt0 hE0 rfl wm_inX7 6 (by decide) wq5_28 rfl dX7_within_22 ?_
  refine lv_iload_n X.1 X.2.1 dX7_within_25 rfl (lv_at hl 2 rfl) ?_
  refine wm_iald (i := i) X hP hlt1 hE1 (by omega) (by decide) dX7_within_26 ?_
  refine lv_bipush (v := nI 11) X.1 X.2.1 dX7_within_27 (by decide) ?_
  refine wm_icmp_le (x := (ss i)) (y := 11) (tgt := 36) X (by omega) (by decide) dX7_within_29 (by decide) (fun hc29 => ?_) (fun hc29 => ?_)
  · exact absurd hc29 (by omega)
  · refine lv_iconst (v := nI 2) X.1 X.2.1 dX7_within_32 (by decide) ?_
    refine lv_goto (tgt := 37) X.1 X.2.1 dX7_within_33 (by decide) ?_
    refine wm_put (v := .int (nI 2)) X hP hS hlt0 hE0 rfl wm_inX7 tyX7 tyX7_ok nmX7 0 (by decide) wq5_22 rfl rfl rfl (fs1 := [.int (nI 2), .ref (b + 120), .int (nI sz), .int (nI fa), .int (nI pl), .ref (b + 121), .ref (b + 122), .ref (b + 123), .ref (b + 124), .ref (b + 125), .ref (b + 126), .ref (b + 127), .int (nI ats), .int (nI aa), .ref (b + 128), .ref (b + 129), .ref (b + 130), .ref (b + 131), .ref (b + 132), .ref (b + 133), .int (nI op), .int (nI be.toNat), .int (nI fi), .int (nI la), .ref (b + 134), .ref (b + 135), .ref (b + 136), .int (nI wa), .ref (b + 137), .ref (b + 138), .ref (b + 139), .int (nI wc), .ref (b + 140), .int (nI kl), .ref (b + 141), .ref (b + 142), .ref (b + 143), .ref (b + 144), .ref (b + 145)]) rfl (Nat.le_of_ble_eq_true rfl) dX7_within_37 (fun H locs E4 hP hS hE0 hq => ?_)
    have hE1 := (hq 122 (by decide)).trans hE1
    have hfr : ∀ j, j ≠ 119 → E4 j = E j := fun j h0 => (hq j h0).trans (hfr j h0)
    refine lv_aload_n X.1 X.2.1 dX7_within_40 rfl (lv_at hl 0 rfl) ?_
    refine wm_get X hP hlt0 hE0 rfl wm_inX7 0 (by decide) wq5_22 rfl dX7_within_41 ?_
    refine lv_if_le (tgt := 49) X.1 X.2.1 dX7_within_44 (by decide) (fun h => by exfalso; revert h; decide) (fun _ => ?_)
    refine lv_iconst (v := nI 0) X.1 X.2.1 dX7_within_47 (by decide) ?_
    exact wm_zret (v := false) (post := pmwithinA C b E th sz fa pl ats aa op fi la wa wc kl be k i ss) X hr hP hS ⟨rfl, hE0, hfr⟩ hQ dX7_within_48
def pmwithin1 (C : Nat → ClassId) (b : Nat) (E : Nat → va_E) (th sz fa pl ats aa op fi la wa wc kl : Nat) (be : Bool) (i jj : Nat) (ar ss sa se qs qw wb wl ws kp : Nat → Nat) (sn : Nat → Bool) : Int32 → (Nat → va_E) → Prop := fun r E' => ∃ (qs1 : Nat → Nat) (qw1 : Nat → Nat) (sn1 : Nat → Bool) (wb1 : Nat → Nat) (wl1 : Nat → Nat) (ws1 : Nat → Nat) (wa1 : Nat) (wc1 : Nat) (kl1 : Nat) (kp1 : Nat → Nat), r = nI (decide ((wm_hunt (fun S a => wm_af ar i (ss i) a S) (fun S a => wm_af ar jj (ss jj) a S) (se i) (se jj) 49153 0 (wm_ag [] (sa i) (sa jj) 0 0)).2 = none)).toNat ∧ E' 119 = .inr (7, [.int (nI 0), .ref (b + 120), .int (nI sz), .int (nI fa), .int (nI pl), .ref (b + 121), .ref (b + 122), .ref (b + 123), .ref (b + 124), .ref (b + 125), .ref (b + 126), .ref (b + 127), .int (nI ats), .int (nI aa), .ref (b + 128), .ref (b + 129), .ref (b + 130), .ref (b + 131), .ref (b + 132), .ref (b + 133), .int (nI op), .int (nI be.toNat), .int (nI fi), .int (nI la), .ref (b + 134), .ref (b + 135), .ref (b + 136), .int (nI wa1), .ref (b + 137), .ref (b + 138), .ref (b + 139), .int (nI wc1), .ref (b + 140), .int (nI kl1), .ref (b + 141), .ref (b + 142), .ref (b + 143), .ref (b + 144), .ref (b + 145)]) ∧ E' 134 = wm_I C 49152 qs1 ∧ E' 135 = wm_I C 49152 qw1 ∧ E' 136 = wm_Z C 49152 sn1 ∧ E' 137 = wm_I C 49153 wb1 ∧ E' 138 = wm_I C 49153 wl1 ∧ E' 139 = wm_I C 49153 ws1 ∧ E' 140 = wm_I C 49153 kp1 ∧ (∀ j, j ≠ 119 → j ≠ 134 → j ≠ 135 → j ≠ 136 → j ≠ 137 → j ≠ 138 → j ≠ 139 → j ≠ 140 → E' j = E j) ∧ (((wm_hunt (fun S a => wm_af ar i (ss i) a S) (fun S a => wm_af ar jj (ss jj) a S) (se i) (se jj) 49153 0 (wm_ag [] (sa i) (sa jj) 0 0)).2 = none ∧ kl1 = 4294967295) ∨ ∃ w, (wm_hunt (fun S a => wm_af ar i (ss i) a S) (fun S a => wm_af ar jj (ss jj) a S) (se i) (se jj) 49153 0 (wm_ag [] (sa i) (sa jj) 0 0)).2 = some w ∧ w < (wm_hunt (fun S a => wm_af ar i (ss i) a S) (fun S a => wm_af ar jj (ss jj) a S) (se i) (se jj) 49153 0 (wm_ag [] (sa i) (sa jj) 0 0)).1.length ∧ kl1 = wm_dp (wm_hunt (fun S a => wm_af ar i (ss i) a S) (fun S a => wm_af ar jj (ss jj) a S) (se i) (se jj) 49153 0 (wm_ag [] (sa i) (sa jj) 0 0)).1 w ∧ (∀ t9, t9 < wm_dp ((wm_hunt (fun S a => wm_af ar i (ss i) a S) (fun S a => wm_af ar jj (ss jj) a S) (se i) (se jj) 49153 0 (wm_ag [] (sa i) (sa jj) 0 0)).1) w → kp1 t9 = ((wm_hunt (fun S a => wm_af ar i (ss i) a S) (fun S a => wm_af ar jj (ss jj) a S) (se i) (se jj) 49153 0 (wm_ag [] (sa i) (sa jj) 0 0)).1.getD (wm_upg ((wm_hunt (fun S a => wm_af ar i (ss i) a S) (fun S a => wm_af ar jj (ss jj) a S) (se i) (se jj) 49153 0 (wm_ag [] (sa i) (sa jj) 0 0)).1) (wm_dp ((wm_hunt (fun S a => wm_af ar i (ss i) a S) (fun S a => wm_af ar jj (ss jj) a S) (se i) (se jj) 49153 0 (wm_ag [] (sa i) (sa jj) 0 0)).1) w - 1 - t9) w) wm_g0).2.2.1))
set_option maxHeartbeats 4000000 in
set_option maxRecDepth 100000 in
theorem kmwithin1 (l : Launch) (D : va_G) (C : Nat → ClassId) (b n : Nat) (E : Nat → va_E) (th sz fa pl ats aa op fi la wa wc kl : Nat) (be : Bool) (i jj : Nat) (ar ss sa se qs qw wb wl ws kp : Nat → Nat) (sn : Nat → Bool) (hlt0 : 119 < n) (hE0 : E 119 = .inr (7, [.int (nI th), .ref (b + 120), .int (nI sz), .int (nI fa), .int (nI pl), .ref (b + 121), .ref (b + 122), .ref (b + 123), .ref (b + 124), .ref (b + 125), .ref (b + 126), .ref (b + 127), .int (nI ats), .int (nI aa), .ref (b + 128), .ref (b + 129), .ref (b + 130), .ref (b + 131), .ref (b + 132), .ref (b + 133), .int (nI op), .int (nI be.toNat), .int (nI fi), .int (nI la), .ref (b + 134), .ref (b + 135), .ref (b + 136), .int (nI wa), .ref (b + 137), .ref (b + 138), .ref (b + 139), .int (nI wc), .ref (b + 140), .int (nI kl), .ref (b + 141), .ref (b + 142), .ref (b + 143), .ref (b + 144), .ref (b + 145)])) (hlt1 : 121 < n) (hE1 : E 121 = wm_I C 1536 ar) (hlt2 : 122 < n) (hE2 : E 122 = wm_I C 8 ss) (hlt3 : 123 < n) (hE3 : E 123 = wm_I C 8 sa) (hlt4 : 124 < n) (hE4 : E 124 = wm_I C 8 se) (hlt5 : 134 < n) (hE5 : E 134 = wm_I C 49152 qs) (hlt6 : 135 < n) (hE6 : E 135 = wm_I C 49152 qw) (hlt7 : 136 < n) (hE7 : E 136 = wm_Z C 49152 sn) (hlt8 : 137 < n) (hE8 : E 137 = wm_I C 49153 wb) (hlt9 : 138 < n) (hE9 : E 138 = wm_I C 49153 wl) (hlt10 : 139 < n) (hE10 : E 139 = wm_I C 49153 ws) (hlt11 : 140 < n) (hE11 : E 140 = wm_I C 49153 kp) (hii : i < 8) (hjj : jj < 8) (hsi : ss i ≤ 24) (hsj : ss jj ≤ 11) (hsi0 : sa i < 2 ^ ss i) (hei : se i < 2 ^ ss i) (hsj0 : sa jj < 2 ^ ss jj) (hej : se jj < 2 ^ ss jj) (hgi : ∀ a x, a < 8 → x < ss i → ar (192 * i + 8 * x + a) < 2 ^ ss i) (hgj : ∀ a x, a < 8 → x < ss jj → ar (192 * jj + 8 * x + a) < 2 ^ ss jj) : Met l yX7_within (wm_ws yX7_within cX7_within 14 (some .boolean)) { frames := 2, cells := 0, slots := 0, locals := 48 } (va_Pc [.ref (b + 119), .int (nI i), .int (nI jj)] (wm_G D C b n E)) (va_Qi (pmwithin1 C b E th sz fa pl ats aa op fi la wa wc kl be i jj ar ss sa se qs qw wb wl ws kp sn) (fun E' t => wm_P D b n E' t.heap) (wm_A b)) 0 0 (wm_A b) := by
  refine wm_ofW (by decide) (Nat.le_of_ble_eq_true rfl) (fun p e s m below meth c ls R args Q hRe hQ X hr hnm hP hS hl => ?_)
  have hl : lv_has ls 14 [(0, .ref (b + 119)), (1, .int (nI i)), (2, .int (nI jj))] := hl
  have hfr : ∀ j, j ≠ 119 → j ≠ 134 → j ≠ 135 → j ≠ 136 → j ≠ 137 → j ≠ 138 → j ≠ 139 → j ≠ 140 → E j = E j := fun _ _ _ _ _ _ _ _ _ => rfl
  have h2c : 2 ^ ss jj ≤ 2048 := Nat.pow_le_pow_right (show 0 < 2 by decide) hsj
  have h2i : 2 ^ ss i ≤ 2 ^ 24 := Nat.pow_le_pow_right (show 0 < 2 by decide) hsi
  refine lv_aload_n X.1 X.2.1 dX7_within_0 rfl (lv_at hl 0 rfl) ?_
  refine lv_aload_n X.1 X.2.1 dX7_within_1 rfl (lv_at hl 0 rfl) ?_
  refine lv_iload_n X.1 X.2.1 dX7_within_2 rfl (lv_at hl 1 rfl) ?_
  refine wm_callVi (k := 1) (As := [.int (nI i)]) (rest := [.ref (b + 119)]) X hP hS hlt0 hE0 rfl (knoMach l D C b n E i (by omega)) wq5_157 wq5_159 wqP2_15 wq1_8 wq5_160 (by decide) (by rw [hRe]; exact ⟨Nat.le_of_ble_eq_true rfl, Nat.le_of_ble_eq_true rfl⟩) rfl hl.1 rfl (Nat.le_of_ble_eq_true rfl) (Nat.zero_le _) (Nat.zero_le _) dX7_within_3 (fun r1 E1 H locs hw hP hS => ?_)
  obtain ⟨hrt, hEe⟩ := hw
  subst hrt
  subst hEe
  refine wm_ifz_ne (x := false) (tgt := 17) X dX7_within_6 (by decide) (fun h => by exfalso; revert h; decide) (fun _ => ?_)
  refine lv_aload_n X.1 X.2.1 dX7_within_9 rfl (lv_at hl 0 rfl) ?_
  refine lv_iload_n X.1 X.2.1 dX7_within_10 rfl (lv_at hl 2 rfl) ?_
  refine wm_callVi (k := 1) (As := [.int (nI jj)]) (rest := [.ref (b + 119)]) X hP hS hlt0 hE0 rfl (knoMach l D C b n E jj (by omega)) wq5_157 wq5_159 wqP2_15 wq1_8 wq5_160 (by decide) (by rw [hRe]; exact ⟨Nat.le_of_ble_eq_true rfl, Nat.le_of_ble_eq_true rfl⟩) rfl hl.1 rfl (Nat.le_of_ble_eq_true rfl) (Nat.zero_le _) (Nat.zero_le _) dX7_within_11 (fun r2 E2 H locs hw hP hS => ?_)
  obtain ⟨hrt, hEe⟩ := hw
  subst hrt
  subst hEe
  refine wm_ifz_eq (x := false) (tgt := 21) X dX7_within_14 (by decide) (fun _ => ?_) (fun h => by exfalso; revert h; decide)
  refine lv_aload_n X.1 X.2.1 dX7_within_21 rfl (lv_at hl 0 rfl) ?_
  refine wm_get X hP hlt0 hE0 rfl wm_inX7 6 (by decide) wq5_28 rfl dX7_within_22 ?_
  refine lv_iload_n X.1 X.2.1 dX7_within_25 rfl (lv_at hl 2 rfl) ?_
  refine wm_iald (i := jj) X hP hlt2 hE2 (by omega) (by decide) dX7_within_26 ?_
  refine lv_bipush (v := nI 11) X.1 X.2.1 dX7_within_27 (by decide) ?_
  refine wm_icmp_le (x := (ss jj)) (y := 11) (tgt := 36) X (by omega) (by decide) dX7_within_29 (by decide) (fun hc29 => ?_) (fun hc29 => ?_)
  · refine lv_iconst (v := nI 0) X.1 X.2.1 dX7_within_36 (by decide) ?_
    refine wm_put (v := .int (nI 0)) X hP hS hlt0 hE0 rfl wm_inX7 tyX7 tyX7_ok nmX7 0 (by decide) wq5_22 rfl rfl rfl (fs1 := [.int (nI 0), .ref (b + 120), .int (nI sz), .int (nI fa), .int (nI pl), .ref (b + 121), .ref (b + 122), .ref (b + 123), .ref (b + 124), .ref (b + 125), .ref (b + 126), .ref (b + 127), .int (nI ats), .int (nI aa), .ref (b + 128), .ref (b + 129), .ref (b + 130), .ref (b + 131), .ref (b + 132), .ref (b + 133), .int (nI op), .int (nI be.toNat), .int (nI fi), .int (nI la), .ref (b + 134), .ref (b + 135), .ref (b + 136), .int (nI wa), .ref (b + 137), .ref (b + 138), .ref (b + 139), .int (nI wc), .ref (b + 140), .int (nI kl), .ref (b + 141), .ref (b + 142), .ref (b + 143), .ref (b + 144), .ref (b + 145)]) rfl (Nat.le_of_ble_eq_true rfl) dX7_within_37 (fun H locs E4 hP hS hE0 hq => ?_)
    have hE1 := (hq 121 (by decide)).trans hE1
    have hE2 := (hq 122 (by decide)).trans hE2
    have hE3 := (hq 123 (by decide)).trans hE3
    have hE4 := (hq 124 (by decide)).trans hE4
    have hE5 := (hq 134 (by decide)).trans hE5
    have hE6 := (hq 135 (by decide)).trans hE6
    have hE7 := (hq 136 (by decide)).trans hE7
    have hE8 := (hq 137 (by decide)).trans hE8
    have hE9 := (hq 138 (by decide)).trans hE9
    have hE10 := (hq 139 (by decide)).trans hE10
    have hE11 := (hq 140 (by decide)).trans hE11
    have hfr : ∀ j, j ≠ 119 → j ≠ 134 → j ≠ 135 → j ≠ 136 → j ≠ 137 → j ≠ 138 → j ≠ 139 → j ≠ 140 → E4 j = E j := fun j h0 h1 h2 h3 h4 h5 h6 h7 => (hq j h0).trans (hfr j h0 h1 h2 h3 h4 h5 h6 h7)
    refine lv_aload_n X.1 X.2.1 dX7_within_40 rfl (lv_at hl 0 rfl) ?_
    refine wm_get X hP hlt0 hE0 rfl wm_inX7 0 (by decide) wq5_22 rfl dX7_within_41 ?_
    refine lv_if_le (tgt := 49) X.1 X.2.1 dX7_within_44 (by decide) (fun _ => ?_) (fun h => by exfalso; revert h; decide)
    refine lv_iconst (v := nI 0) X.1 X.2.1 dX7_within_49 (by decide) ?_
    refine lv_istore_n (lv' := [(3, .int (nI 0)), (0, .ref (b + 119)), (1, .int (nI i)), (2, .int (nI jj))]) X.1 X.2.1 dX7_within_50 rfl hl (by decide) rfl (fun ls hl => ?_)
    have L51 : ∀ (fu : Nat) (i0 : Nat) (sn0 : Nat → Bool), 49152 - i0 < fu → (i0 ≤ 49152) → (∀ S, S < i0 → sn0 S = false) → ∀ (E5 : Nat → va_E) (H : Heap) (locs : List Loc) (ls : Array Slot), wm_P D b n E5 H → wm_S b s.heap H locs → E5 119 = .inr (7, [.int (nI 0), .ref (b + 120), .int (nI sz), .int (nI fa), .int (nI pl), .ref (b + 121), .ref (b + 122), .ref (b + 123), .ref (b + 124), .ref (b + 125), .ref (b + 126), .ref (b + 127), .int (nI ats), .int (nI aa), .ref (b + 128), .ref (b + 129), .ref (b + 130), .ref (b + 131), .ref (b + 132), .ref (b + 133), .int (nI op), .int (nI be.toNat), .int (nI fi), .int (nI la), .ref (b + 134), .ref (b + 135), .ref (b + 136), .int (nI wa), .ref (b + 137), .ref (b + 138), .ref (b + 139), .int (nI wc), .ref (b + 140), .int (nI kl), .ref (b + 141), .ref (b + 142), .ref (b + 143), .ref (b + 144), .ref (b + 145)]) → E5 121 = wm_I C 1536 ar → E5 122 = wm_I C 8 ss → E5 123 = wm_I C 8 sa → E5 124 = wm_I C 8 se → E5 134 = wm_I C 49152 qs → E5 135 = wm_I C 49152 qw → E5 136 = wm_Z C 49152 sn0 → E5 137 = wm_I C 49153 wb → E5 138 = wm_I C 49153 wl → E5 139 = wm_I C 49153 ws → E5 140 = wm_I C 49153 kp → (∀ j, j ≠ 119 → j ≠ 134 → j ≠ 135 → j ≠ 136 → j ≠ 137 → j ≠ 138 → j ≠ 139 → j ≠ 140 → E5 j = E j) → lv_has ls 14 [(0, .ref (b + 119)), (1, .int (nI i)), (2, .int (nI jj)), (3, .int (nI i0))] → W p l e R s m args below meth c H locs 0 0 Q (F0 m 51 ls []) := by
      intro fu
      induction fu with
      | zero => intro i0 sn0 hm; exact absurd hm (Nat.not_lt_zero _)
      | succ fu ih51 =>
        intro i0 sn0 hm hi0 h0 E5 H locs ls hP hS hE0 hE1 hE2 hE3 hE4 hE5 hE6 hE7 hE8 hE9 hE10 hE11 hfr hl
        refine lv_iload_n X.1 X.2.1 dX7_within_51 rfl (lv_at hl 3 rfl) ?_
        refine lv_ldc (v := nI 49152) X.1 X.2.1 X.2.2.2.1 (X.2.2.2.2.1 _ wq5_20) dX7_within_52 ?_
        refine wm_icmp_ge (x := i0) (y := 49152) (tgt := 70) X (by omega) (by decide) dX7_within_54 (by decide) (fun hc54 => ?_) (fun hc54 => ?_)
        · refine lv_aload_n X.1 X.2.1 dX7_within_70 rfl (lv_at hl 0 rfl) ?_
          refine lv_iconst (v := nI 0) X.1 X.2.1 dX7_within_71 (by decide) ?_
          refine wm_put (v := .int (nI 0)) X hP hS hlt0 hE0 rfl wm_inX7 tyX7 tyX7_ok nmX7 27 (by decide) wq5_49 rfl rfl rfl (fs1 := [.int (nI 0), .ref (b + 120), .int (nI sz), .int (nI fa), .int (nI pl), .ref (b + 121), .ref (b + 122), .ref (b + 123), .ref (b + 124), .ref (b + 125), .ref (b + 126), .ref (b + 127), .int (nI ats), .int (nI aa), .ref (b + 128), .ref (b + 129), .ref (b + 130), .ref (b + 131), .ref (b + 132), .ref (b + 133), .int (nI op), .int (nI be.toNat), .int (nI fi), .int (nI la), .ref (b + 134), .ref (b + 135), .ref (b + 136), .int (nI 0), .ref (b + 137), .ref (b + 138), .ref (b + 139), .int (nI wc), .ref (b + 140), .int (nI kl), .ref (b + 141), .ref (b + 142), .ref (b + 143), .ref (b + 144), .ref (b + 145)]) rfl (Nat.le_of_ble_eq_true rfl) dX7_within_72 (fun H locs E7 hP hS hE0 hq => ?_)
          have hE1 := (hq 121 (by decide)).trans hE1
          have hE2 := (hq 122 (by decide)).trans hE2
          have hE3 := (hq 123 (by decide)).trans hE3
          have hE4 := (hq 124 (by decide)).trans hE4
          have hE5 := (hq 134 (by decide)).trans hE5
          have hE6 := (hq 135 (by decide)).trans hE6
          have hE7 := (hq 136 (by decide)).trans hE7
          have hE8 := (hq 137 (by decide)).trans hE8
          have hE9 := (hq 138 (by decide)).trans hE9
          have hE10 := (hq 139 (by decide)).trans hE10
          have hE11 := (hq 140 (by decide)).trans hE11
          have hfr : ∀ j, j ≠ 119 → j ≠ 134 → j ≠ 135 → j ≠ 136 → j ≠ 137 → j ≠ 138 → j ≠ 139 → j ≠ 140 → E7 j = E j := fun j h0 h1 h2 h3 h4 h5 h6 h7 => (hq j h0).trans (hfr j h0 h1 h2 h3 h4 h5 h6 h7)
          refine lv_aload_n X.1 X.2.1 dX7_within_75 rfl (lv_at hl 0 rfl) ?_
          refine lv_iconst (v := nI 0) X.1 X.2.1 dX7_within_76 (by decide) ?_
          refine wm_put (v := .int (nI 0)) X hP hS hlt0 hE0 rfl wm_inX7 tyX7 tyX7_ok nmX7 31 (by decide) wq5_53 rfl rfl rfl (fs1 := [.int (nI 0), .ref (b + 120), .int (nI sz), .int (nI fa), .int (nI pl), .ref (b + 121), .ref (b + 122), .ref (b + 123), .ref (b + 124), .ref (b + 125), .ref (b + 126), .ref (b + 127), .int (nI ats), .int (nI aa), .ref (b + 128), .ref (b + 129), .ref (b + 130), .ref (b + 131), .ref (b + 132), .ref (b + 133), .int (nI op), .int (nI be.toNat), .int (nI fi), .int (nI la), .ref (b + 134), .ref (b + 135), .ref (b + 136), .int (nI 0), .ref (b + 137), .ref (b + 138), .ref (b + 139), .int (nI 0), .ref (b + 140), .int (nI kl), .ref (b + 141), .ref (b + 142), .ref (b + 143), .ref (b + 144), .ref (b + 145)]) rfl (Nat.le_of_ble_eq_true rfl) dX7_within_77 (fun H locs E8 hP hS hE0 hq => ?_)
          have hE1 := (hq 121 (by decide)).trans hE1
          have hE2 := (hq 122 (by decide)).trans hE2
          have hE3 := (hq 123 (by decide)).trans hE3
          have hE4 := (hq 124 (by decide)).trans hE4
          have hE5 := (hq 134 (by decide)).trans hE5
          have hE6 := (hq 135 (by decide)).trans hE6
          have hE7 := (hq 136 (by decide)).trans hE7
          have hE8 := (hq 137 (by decide)).trans hE8
          have hE9 := (hq 138 (by decide)).trans hE9
          have hE10 := (hq 139 (by decide)).trans hE10
          have hE11 := (hq 140 (by decide)).trans hE11
          have hfr : ∀ j, j ≠ 119 → j ≠ 134 → j ≠ 135 → j ≠ 136 → j ≠ 137 → j ≠ 138 → j ≠ 139 → j ≠ 140 → E8 j = E j := fun j h0 h1 h2 h3 h4 h5 h6 h7 => (hq j h0).trans (hfr j h0 h1 h2 h3 h4 h5 h6 h7)
          refine lv_aload_n X.1 X.2.1 dX7_within_80 rfl (lv_at hl 0 rfl) ?_
          refine lv_iconst (v := nI 4294967295) X.1 X.2.1 dX7_within_81 (by decide) ?_
          refine wm_put (v := .int (nI 4294967295)) X hP hS hlt0 hE0 rfl wm_inX7 tyX7 tyX7_ok nmX7 33 (by decide) wq5_55 rfl rfl rfl (fs1 := [.int (nI 0), .ref (b + 120), .int (nI sz), .int (nI fa), .int (nI pl), .ref (b + 121), .ref (b + 122), .ref (b + 123), .ref (b + 124), .ref (b + 125), .ref (b + 126), .ref (b + 127), .int (nI ats), .int (nI aa), .ref (b + 128), .ref (b + 129), .ref (b + 130), .ref (b + 131), .ref (b + 132), .ref (b + 133), .int (nI op), .int (nI be.toNat), .int (nI fi), .int (nI la), .ref (b + 134), .ref (b + 135), .ref (b + 136), .int (nI 0), .ref (b + 137), .ref (b + 138), .ref (b + 139), .int (nI 0), .ref (b + 140), .int (nI 4294967295), .ref (b + 141), .ref (b + 142), .ref (b + 143), .ref (b + 144), .ref (b + 145)]) rfl (Nat.le_of_ble_eq_true rfl) dX7_within_82 (fun H locs E9 hP hS hE0 hq => ?_)
          have hE1 := (hq 121 (by decide)).trans hE1
          have hE2 := (hq 122 (by decide)).trans hE2
          have hE3 := (hq 123 (by decide)).trans hE3
          have hE4 := (hq 124 (by decide)).trans hE4
          have hE5 := (hq 134 (by decide)).trans hE5
          have hE6 := (hq 135 (by decide)).trans hE6
          have hE7 := (hq 136 (by decide)).trans hE7
          have hE8 := (hq 137 (by decide)).trans hE8
          have hE9 := (hq 138 (by decide)).trans hE9
          have hE10 := (hq 139 (by decide)).trans hE10
          have hE11 := (hq 140 (by decide)).trans hE11
          have hfr : ∀ j, j ≠ 119 → j ≠ 134 → j ≠ 135 → j ≠ 136 → j ≠ 137 → j ≠ 138 → j ≠ 139 → j ≠ 140 → E9 j = E j := fun j h0 h1 h2 h3 h4 h5 h6 h7 => (hq j h0).trans (hfr j h0 h1 h2 h3 h4 h5 h6 h7)
          refine lv_aload_n X.1 X.2.1 dX7_within_85 rfl (lv_at hl 0 rfl) ?_
          refine lv_iconst (v := nI 4294967295) X.1 X.2.1 dX7_within_86 (by decide) ?_
          refine lv_iconst (v := nI 0) X.1 X.2.1 dX7_within_87 (by decide) ?_
          refine lv_aload_n X.1 X.2.1 dX7_within_88 rfl (lv_at hl 0 rfl) ?_
          refine wm_get X hP hlt0 hE0 rfl wm_inX7 7 (by decide) wq5_29 rfl dX7_within_89 ?_
          refine lv_iload_n X.1 X.2.1 dX7_within_92 rfl (lv_at hl 2 rfl) ?_
          refine wm_iald (i := jj) X hP hlt3 hE3 (by omega) (by decide) dX7_within_93 ?_
          refine wm_callVi (k := 3) (As := [.int (nI 4294967295), .int (nI 0), .int (nI (sa jj))]) (rest := []) X hP hS hlt0 hE0 rfl (kX7_word l D C b n E9 0 sz fa pl ats aa op fi la 0 0 4294967295 be 4294967295 0 (sa jj) wb wl ws hlt0 hE0 hlt8 hE8 hlt9 hE9 hlt10 hE10 (by omega)) wq6_35 wq6_37 wqP3_15 wq1_8 wq6_38 (by decide) (by rw [hRe]; exact ⟨Nat.le_of_ble_eq_true rfl, Nat.le_of_ble_eq_true rfl⟩) rfl hl.1 rfl (Nat.le_of_ble_eq_true rfl) (Nat.zero_le _) (Nat.zero_le _) dX7_within_94 (fun r10 E10 H locs hw hP hS => ?_)
          obtain ⟨hrt, hE0, hE8, hE9, hE10, hq⟩ := hw
          subst hrt
          have hE1 := (hq 121 (by decide) (by decide) (by decide) (by decide)).trans hE1
          have hE2 := (hq 122 (by decide) (by decide) (by decide) (by decide)).trans hE2
          have hE3 := (hq 123 (by decide) (by decide) (by decide) (by decide)).trans hE3
          have hE4 := (hq 124 (by decide) (by decide) (by decide) (by decide)).trans hE4
          have hE5 := (hq 134 (by decide) (by decide) (by decide) (by decide)).trans hE5
          have hE6 := (hq 135 (by decide) (by decide) (by decide) (by decide)).trans hE6
          have hE7 := (hq 136 (by decide) (by decide) (by decide) (by decide)).trans hE7
          have hE11 := (hq 140 (by decide) (by decide) (by decide) (by decide)).trans hE11
          have hfr : ∀ j, j ≠ 119 → j ≠ 134 → j ≠ 135 → j ≠ 136 → j ≠ 137 → j ≠ 138 → j ≠ 139 → j ≠ 140 → E10 j = E j := fun j h0 h1 h2 h3 h4 h5 h6 h7 => (hq j h0 h4 h5 h6).trans (hfr j h0 h1 h2 h3 h4 h5 h6 h7)
          refine lv_istore_n (lv' := [(3, .int (nI 0)), (0, .ref (b + 119)), (1, .int (nI i)), (2, .int (nI jj))]) X.1 X.2.1 dX7_within_97 rfl hl (by decide) rfl (fun ls hl => ?_)
          refine lv_aload_n X.1 X.2.1 dX7_within_98 rfl (lv_at hl 1 rfl) ?_
          refine lv_iload_n X.1 X.2.1 dX7_within_99 rfl (lv_at hl 2 rfl) ?_
          refine lv_iload_n X.1 X.2.1 dX7_within_100 rfl (lv_at hl 3 rfl) ?_
          refine lv_aload_n X.1 X.2.1 dX7_within_101 rfl (lv_at hl 1 rfl) ?_
          refine wm_get X hP hlt0 hE0 rfl wm_inX7 7 (by decide) wq5_29 rfl dX7_within_102 ?_
          refine lv_iload_n X.1 X.2.1 dX7_within_105 rfl (lv_at hl 2 rfl) ?_
          refine wm_iald (i := i) X hP hlt3 hE3 (by omega) (by decide) dX7_within_106 ?_
          refine lv_iload_n X.1 X.2.1 dX7_within_107 rfl (lv_at hl 0 rfl) ?_
          refine wm_callVi (k := 4) (As := [.int (nI i), .int (nI jj), .int (nI (sa i)), .int (nI 0)]) (rest := []) X hP hS hlt0 hE0 rfl (kX7_comes l D C b n E10 0 sz fa pl ats aa op fi la 0 (0 + 1) 4294967295 be i jj (sa i) 0 (sa jj) ([] : List wm_gp) ([] : List (Nat × Nat)) qs qw (va_up ws 0 (sa jj)) ss se sn0 hlt0 hE0 hlt2 hE2 hlt4 hE4 hlt5 hE5 hlt6 hE6 hlt7 hE7 hlt10 hE10 (by omega) (by omega) (by omega) (by omega) (by omega) (va_up_self _ _ _) (by decide) (fun x hx => absurd hx (Nat.not_lt_zero _)) (wm_sn_nil (fun x hx => h0 x (by omega))) (by omega) (by omega) (wm_capq (a := 0) (bf := 0) wm_gg_nil h2c hsi hsi0 hsj0 (by decide) (Or.inr ⟨rfl, rfl⟩)) rfl) wq6_39 wq6_41 wqP4_0 wq1_8 wq6_42 (by decide) (by rw [hRe]; exact ⟨Nat.le_of_ble_eq_true rfl, Nat.le_of_ble_eq_true rfl⟩) rfl hl.1 rfl (Nat.le_of_ble_eq_true rfl) (Nat.zero_le _) (Nat.zero_le _) dX7_within_108 (fun r11 E11 H locs hw hP hS => ?_)
          obtain ⟨qs111, qw111, sn111, hrt, hE0, hE5, hE6, hE7, hq, hp11_0, hp11_1⟩ := hw
          subst hrt
          have hE1 := (hq 121 (by decide) (by decide) (by decide) (by decide)).trans hE1
          have hE2 := (hq 122 (by decide) (by decide) (by decide) (by decide)).trans hE2
          have hE3 := (hq 123 (by decide) (by decide) (by decide) (by decide)).trans hE3
          have hE4 := (hq 124 (by decide) (by decide) (by decide) (by decide)).trans hE4
          have hE8 := (hq 137 (by decide) (by decide) (by decide) (by decide)).trans hE8
          have hE9 := (hq 138 (by decide) (by decide) (by decide) (by decide)).trans hE9
          have hE10 := (hq 139 (by decide) (by decide) (by decide) (by decide)).trans hE10
          have hE11 := (hq 140 (by decide) (by decide) (by decide) (by decide)).trans hE11
          have hfr : ∀ j, j ≠ 119 → j ≠ 134 → j ≠ 135 → j ≠ 136 → j ≠ 137 → j ≠ 138 → j ≠ 139 → j ≠ 140 → E11 j = E j := fun j h0 h1 h2 h3 h4 h5 h6 h7 => (hq j h0 h1 h2 h3).trans (hfr j h0 h1 h2 h3 h4 h5 h6 h7)
          have hadv := wm_adv (a := 0) (bf := 0) (b9 := 4294967295) (G := []) (wb := wb) (wl := wl) (ws := ws) wm_gg_nil h2c hsi hsi0 hsj0 (by decide) (Or.inr ⟨rfl, rfl⟩) hp11_0 hp11_1 wm_wr_nil (fun h => absurd h (Nat.lt_irrefl _))
          refine lv_istore (lv' := [(4, .int (nI (decide ((sa i) &&& se i ≠ 0 ∧ (sa jj) &&& se jj = 0)).toNat)), (3, .int (nI 0)), (0, .ref (b + 119)), (1, .int (nI i)), (2, .int (nI jj))]) X.1 X.2.1 dX7_within_111 hl (by decide) rfl (fun ls hl => ?_)
          refine lv_iconst (v := nI 0) X.1 X.2.1 dX7_within_113 (by decide) ?_
          refine lv_istore (lv' := [(5, .int (nI 0)), (4, .int (nI (decide ((sa i) &&& se i ≠ 0 ∧ (sa jj) &&& se jj = 0)).toNat)), (3, .int (nI 0)), (0, .ref (b + 119)), (1, .int (nI i)), (2, .int (nI jj))]) X.1 X.2.1 dX7_within_114 hl (by decide) rfl (fun ls hl => ?_)
          refine lv_iload X.1 X.2.1 dX7_within_116 (lv_at hl 1 rfl) ?_
          refine wm_ifz_eq (x := (decide ((sa i) &&& se i ≠ 0 ∧ (sa jj) &&& se jj = 0))) (tgt := 125) X dX7_within_118 (by decide) (fun hc118 => ?_) (fun hc118 => ?_)
          · have hlq : (([] : List (Nat × Nat)) ++ (wm_bk (ss i) (wm_new ([] : List wm_gp) (sa i) (sa jj))).map (fun x9 => (x9, 0))).length = (wm_ql (wm_ag [] (sa i) (sa jj) 0 0) (wm_ag [] (sa i) (sa jj) 0 0).length).length := hadv.2.2.2.2
            rw [hlq] at hE0
            have hnb0 : wm_nb (se i) (se jj) (wm_ag [] (sa i) (sa jj) 0 0) (wm_ag [] (sa i) (sa jj) 0 0).length := wm_nb_ag (G := []) (fun g hg => absurd hg (Nat.not_lt_zero _)) (of_decide_eq_false hc118)
            refine lv_iconst (v := nI 4294967295) X.1 X.2.1 dX7_within_125 (by decide) ?_
            refine lv_istore (lv' := [(6, .int (nI 4294967295)), (5, .int (nI 0)), (4, .int (nI (decide ((sa i) &&& se i ≠ 0 ∧ (sa jj) &&& se jj = 0)).toNat)), (3, .int (nI 0)), (0, .ref (b + 119)), (1, .int (nI i)), (2, .int (nI jj))]) X.1 X.2.1 dX7_within_126 hl (by decide) rfl (fun ls hl => ?_)
            have L128 : ∀ (fu : Nat) (gi : Nat) (wcv : Nat) (G : List wm_gp) (qs2 : Nat → Nat) (qw2 : Nat → Nat) (sn2 : Nat → Bool) (wb2 : Nat → Nat) (wl2 : Nat → Nat) (ws2 : Nat → Nat), 49153 - gi < fu → (0 < G.length → wcv = G.length) → (gi ≤ G.length) → (wm_gg (2 ^ ss jj) G) → (wm_nb (se i) (se jj) G G.length) → (wm_qr (wm_ql G G.length) qs2 qw2) → (wm_sn G sn2) → (wm_wr G wb2 wl2 ws2) → (wm_hunt (fun S a => wm_af ar i (ss i) a S) (fun S a => wm_af ar jj (ss jj) a S) (se i) (se jj) (49153 - gi) gi G = (wm_hunt (fun S a => wm_af ar i (ss i) a S) (fun S a => wm_af ar jj (ss jj) a S) (se i) (se jj) 49153 0 (wm_ag [] (sa i) (sa jj) 0 0))) → ∀ (E13 : Nat → va_E) (H : Heap) (locs : List Loc) (ls : Array Slot), wm_P D b n E13 H → wm_S b s.heap H locs → E13 119 = .inr (7, [.int (nI 0), .ref (b + 120), .int (nI sz), .int (nI fa), .int (nI pl), .ref (b + 121), .ref (b + 122), .ref (b + 123), .ref (b + 124), .ref (b + 125), .ref (b + 126), .ref (b + 127), .int (nI ats), .int (nI aa), .ref (b + 128), .ref (b + 129), .ref (b + 130), .ref (b + 131), .ref (b + 132), .ref (b + 133), .int (nI op), .int (nI be.toNat), .int (nI fi), .int (nI la), .ref (b + 134), .ref (b + 135), .ref (b + 136), .int (nI ((wm_ql G G.length).length)), .ref (b + 137), .ref (b + 138), .ref (b + 139), .int (nI wcv), .ref (b + 140), .int (nI 4294967295), .ref (b + 141), .ref (b + 142), .ref (b + 143), .ref (b + 144), .ref (b + 145)]) → E13 121 = wm_I C 1536 ar → E13 122 = wm_I C 8 ss → E13 123 = wm_I C 8 sa → E13 124 = wm_I C 8 se → E13 134 = wm_I C 49152 qs2 → E13 135 = wm_I C 49152 qw2 → E13 136 = wm_Z C 49152 sn2 → E13 137 = wm_I C 49153 wb2 → E13 138 = wm_I C 49153 wl2 → E13 139 = wm_I C 49153 ws2 → E13 140 = wm_I C 49153 kp → (∀ j, j ≠ 119 → j ≠ 134 → j ≠ 135 → j ≠ 136 → j ≠ 137 → j ≠ 138 → j ≠ 139 → j ≠ 140 → E13 j = E j) → lv_has ls 14 [(0, .ref (b + 119)), (1, .int (nI i)), (2, .int (nI jj)), (5, .int (nI ((wm_ql G gi).length))), (6, .int (nI 4294967295))] → W p l e R s m args below meth c H locs 0 0 Q (F0 m 128 ls []) := by
              intro fu
              induction fu with
              | zero => intro gi wcv G qs2 qw2 sn2 wb2 wl2 ws2 hm; exact absurd hm (Nat.not_lt_zero _)
              | succ fu ih128 =>
                intro gi wcv G qs2 qw2 sn2 wb2 wl2 ws2 hm hwc hgi9 hgg hnb hqr hsn hwr hrun E13 H locs ls hP hS hE0 hE1 hE2 hE3 hE4 hE5 hE6 hE7 hE8 hE9 hE10 hE11 hfr hl
                have hlen := wm_gg_len hgg h2c
                have hcapq := wm_ql_cap hgg h2c
                refine lv_iload X.1 X.2.1 dX7_within_128 (lv_at hl 4 rfl) ?_
                refine lv_if_ge (tgt := 303) X.1 X.2.1 dX7_within_130 (by decide) (fun h => by exfalso; revert h; decide) (fun _ => ?_)
                refine lv_iload X.1 X.2.1 dX7_within_133 (lv_at hl 3 rfl) ?_
                refine lv_aload_n X.1 X.2.1 dX7_within_135 rfl (lv_at hl 0 rfl) ?_
                refine wm_get X hP hlt0 hE0 rfl wm_inX7 27 (by decide) wq5_49 rfl dX7_within_136 ?_
                refine wm_icmp_ge (x := ((wm_ql G gi).length)) (y := ((wm_ql G G.length).length)) (tgt := 303) X (by have := wm_ql_mono (G := G) G.length hgi9; obtain ⟨R9, q1, -⟩ := this; have := congrArg List.length q1; rw [List.length_append] at this; omega) (by omega) dX7_within_139 (by decide) (fun hc139 => ?_) (fun hc139 => ?_)
                · refine lv_iload X.1 X.2.1 dX7_within_303 (lv_at hl 4 rfl) ?_
                  refine lv_if_lt (tgt := 314) X.1 X.2.1 dX7_within_305 (by decide) (fun _ => ?_) (fun h => by exfalso; revert h; decide)
                  refine lv_iload X.1 X.2.1 dX7_within_314 (lv_at hl 4 rfl) ?_
                  refine lv_if_ge (tgt := 323) X.1 X.2.1 dX7_within_316 (by decide) (fun h => by exfalso; revert h; decide) (fun _ => ?_)
                  refine lv_iconst (v := nI 1) X.1 X.2.1 dX7_within_319 (by decide) ?_
                  refine lv_goto (tgt := 324) X.1 X.2.1 dX7_within_320 (by decide) ?_
                  have hrn : (wm_hunt (fun S a => wm_af ar i (ss i) a S) (fun S a => wm_af ar jj (ss jj) a S) (se i) (se jj) 49153 0 (wm_ag [] (sa i) (sa jj) 0 0)) = (G, none) := by rw [← hrun]; exact wm_hunt_e (Nat.le_of_not_lt (fun q => Nat.not_lt.mpr hc139 (wm_ql_gt hgg q)))
                  exact wm_zret (v := true) (post := pmwithin1 C b E th sz fa pl ats aa op fi la wa wc kl be i jj ar ss sa se qs qw wb wl ws kp sn) X hr hP hS ⟨qs2, qw2, sn2, wb2, wl2, ws2, ((wm_ql G G.length).length), wcv, 4294967295, kp, (by rw [hrn]; rfl), hE0, hE5, hE6, hE7, hE8, hE9, hE10, hE11, hfr, (Or.inl ⟨by rw [hrn], rfl⟩)⟩ hQ dX7_within_324
                · have hgl := wm_ql_lt hgg hc139
                  refine lv_aload_n X.1 X.2.1 dX7_within_142 rfl (lv_at hl 0 rfl) ?_
                  refine wm_get X hP hlt0 hE0 rfl wm_inX7 25 (by decide) wq5_47 rfl dX7_within_143 ?_
                  refine lv_iload X.1 X.2.1 dX7_within_146 (lv_at hl 3 rfl) ?_
                  refine wm_iald (i := ((wm_ql G gi).length)) X hP hlt6 hE6 (by omega) (by decide) dX7_within_148 ?_
                  rw [show qw2 ((wm_ql G gi).length) = gi from ((hqr _ hc139).2).trans (by have h9 := (wm_ql_at (r := 0) hgl (wm_bk_ne (hgg.1 gi hgl).1.1 (hgg.1 gi hgl).2.1)).2; rw [Nat.add_zero] at h9; rw [h9])]
                  refine lv_istore (lv' := [(7, .int (nI gi)), (0, .ref (b + 119)), (1, .int (nI i)), (2, .int (nI jj)), (5, .int (nI ((wm_ql G gi).length))), (6, .int (nI 4294967295))]) X.1 X.2.1 dX7_within_149 hl (by decide) rfl (fun ls hl => ?_)
                  refine lv_iconst (v := nI 0) X.1 X.2.1 dX7_within_151 (by decide) ?_
                  refine lv_istore (lv' := [(8, .int (nI 0)), (7, .int (nI gi)), (0, .ref (b + 119)), (1, .int (nI i)), (2, .int (nI jj)), (5, .int (nI ((wm_ql G gi).length))), (6, .int (nI 4294967295))]) X.1 X.2.1 dX7_within_152 hl (by decide) rfl (fun ls hl => ?_)
                  have L154 : ∀ (fu : Nat) (r9 : Nat), (wm_bk 24 (G.getD gi wm_g0).1).length - r9 < fu → (r9 ≤ (wm_bk 24 (G.getD gi wm_g0).1).length) → ∀ (E15 : Nat → va_E) (H : Heap) (locs : List Loc) (ls : Array Slot), wm_P D b n E15 H → wm_S b s.heap H locs → E15 119 = .inr (7, [.int (nI 0), .ref (b + 120), .int (nI sz), .int (nI fa), .int (nI pl), .ref (b + 121), .ref (b + 122), .ref (b + 123), .ref (b + 124), .ref (b + 125), .ref (b + 126), .ref (b + 127), .int (nI ats), .int (nI aa), .ref (b + 128), .ref (b + 129), .ref (b + 130), .ref (b + 131), .ref (b + 132), .ref (b + 133), .int (nI op), .int (nI be.toNat), .int (nI fi), .int (nI la), .ref (b + 134), .ref (b + 135), .ref (b + 136), .int (nI ((wm_ql G G.length).length)), .ref (b + 137), .ref (b + 138), .ref (b + 139), .int (nI wcv), .ref (b + 140), .int (nI 4294967295), .ref (b + 141), .ref (b + 142), .ref (b + 143), .ref (b + 144), .ref (b + 145)]) → E15 121 = wm_I C 1536 ar → E15 122 = wm_I C 8 ss → E15 123 = wm_I C 8 sa → E15 124 = wm_I C 8 se → E15 134 = wm_I C 49152 qs2 → E15 135 = wm_I C 49152 qw2 → E15 136 = wm_Z C 49152 sn2 → E15 137 = wm_I C 49153 wb2 → E15 138 = wm_I C 49153 wl2 → E15 139 = wm_I C 49153 ws2 → E15 140 = wm_I C 49153 kp → (∀ j, j ≠ 119 → j ≠ 134 → j ≠ 135 → j ≠ 136 → j ≠ 137 → j ≠ 138 → j ≠ 139 → j ≠ 140 → E15 j = E j) → lv_has ls 14 [(0, .ref (b + 119)), (1, .int (nI i)), (2, .int (nI jj)), (5, .int (nI ((wm_ql G gi).length + r9))), (6, .int (nI 4294967295)), (7, .int (nI gi)), (8, .int (nI (wm_ob ((wm_bk 24 (G.getD gi wm_g0).1).take r9))))] → W p l e R s m args below meth c H locs 0 0 Q (F0 m 154 ls []) := by
                    intro fu
                    induction fu with
                    | zero => intro r9 hm; exact absurd hm (Nat.not_lt_zero _)
                    | succ fu ih154 =>
                      intro r9 hm hr9 E15 H locs ls hP hS hE0 hE1 hE2 hE3 hE4 hE5 hE6 hE7 hE8 hE9 hE10 hE11 hfr hl
                      have hat : r9 < (wm_bk 24 (G.getD gi wm_g0).1).length → _ := fun q => wm_ql_at (r := r9) hgl q
                      have hB24 : (wm_bk 24 (G.getD gi wm_g0).1).length ≤ 24 := wm_bk_24 _
                      refine lv_iload X.1 X.2.1 dX7_within_154 (lv_at hl 3 rfl) ?_
                      refine lv_aload_n X.1 X.2.1 dX7_within_156 rfl (lv_at hl 0 rfl) ?_
                      refine wm_get X hP hlt0 hE0 rfl wm_inX7 27 (by decide) wq5_49 rfl dX7_within_157 ?_
                      refine wm_icmp_ge (x := ((wm_ql G gi).length + r9)) (y := ((wm_ql G G.length).length)) (tgt := 195) X (by have h9 := wm_ql_len (G := G) (k := gi); obtain ⟨R9, q1, -⟩ := wm_ql_mono (G := G) G.length (show gi + 1 ≤ G.length by omega); have := congrArg List.length q1; rw [List.length_append] at this; omega) (by omega) dX7_within_160 (by decide) (fun hc160 => ?_) (fun hc160 => ?_)
                      · have hrB : r9 = (wm_bk 24 (G.getD gi wm_g0).1).length := by
                          rcases Nat.lt_or_ge r9 (wm_bk 24 (G.getD gi wm_g0).1).length with q | q
                          · exact absurd (hat q).1 (by omega)
                          · omega
                        have hall : wm_ob ((wm_bk 24 (G.getD gi wm_g0).1).take r9) = (G.getD gi wm_g0).1 := by rw [hrB, List.take_length, wm_ob_all (hgg.1 gi hgl).1.1]
                        have hql1 : (wm_ql G gi).length + r9 = (wm_ql G (gi + 1)).length := by rw [hrB, wm_ql_len]
                        rw [hall, hql1] at hl
                        rw [hwc (by omega)] at hE0
                        refine lv_iconst (v := nI 0) X.1 X.2.1 dX7_within_195 (by decide) ?_
                        refine lv_istore (lv' := [(9, .int (nI 0)), (0, .ref (b + 119)), (1, .int (nI i)), (2, .int (nI jj)), (5, .int (nI ((wm_ql G (gi + 1)).length))), (6, .int (nI 4294967295)), (7, .int (nI gi)), (8, .int (nI ((G.getD gi wm_g0).1)))]) X.1 X.2.1 dX7_within_196 hl (by decide) rfl (fun ls hl => ?_)
                        have L198 : ∀ (fu : Nat) (a : Nat) (qs3 : Nat → Nat) (qw3 : Nat → Nat) (sn3 : Nat → Bool) (wb3 : Nat → Nat) (wl3 : Nat → Nat) (ws3 : Nat → Nat), 8 - a < fu → (a ≤ 8) → (wm_gg (2 ^ ss jj) (wm_ag8 (fun S a => wm_af ar i (ss i) a S) (fun S a => wm_af ar jj (ss jj) a S) G gi a)) → (wm_nb (se i) (se jj) (wm_ag8 (fun S a => wm_af ar i (ss i) a S) (fun S a => wm_af ar jj (ss jj) a S) G gi a) (wm_ag8 (fun S a => wm_af ar i (ss i) a S) (fun S a => wm_af ar jj (ss jj) a S) G gi a).length) → (wm_qr (wm_ql (wm_ag8 (fun S a => wm_af ar i (ss i) a S) (fun S a => wm_af ar jj (ss jj) a S) G gi a) (wm_ag8 (fun S a => wm_af ar i (ss i) a S) (fun S a => wm_af ar jj (ss jj) a S) G gi a).length) qs3 qw3) → (wm_sn (wm_ag8 (fun S a => wm_af ar i (ss i) a S) (fun S a => wm_af ar jj (ss jj) a S) G gi a) sn3) → (wm_wr (wm_ag8 (fun S a => wm_af ar i (ss i) a S) (fun S a => wm_af ar jj (ss jj) a S) G gi a) wb3 wl3 ws3) → ∀ (E17 : Nat → va_E) (H : Heap) (locs : List Loc) (ls : Array Slot), wm_P D b n E17 H → wm_S b s.heap H locs → E17 119 = .inr (7, [.int (nI 0), .ref (b + 120), .int (nI sz), .int (nI fa), .int (nI pl), .ref (b + 121), .ref (b + 122), .ref (b + 123), .ref (b + 124), .ref (b + 125), .ref (b + 126), .ref (b + 127), .int (nI ats), .int (nI aa), .ref (b + 128), .ref (b + 129), .ref (b + 130), .ref (b + 131), .ref (b + 132), .ref (b + 133), .int (nI op), .int (nI be.toNat), .int (nI fi), .int (nI la), .ref (b + 134), .ref (b + 135), .ref (b + 136), .int (nI ((wm_ql (wm_ag8 (fun S a => wm_af ar i (ss i) a S) (fun S a => wm_af ar jj (ss jj) a S) G gi a) (wm_ag8 (fun S a => wm_af ar i (ss i) a S) (fun S a => wm_af ar jj (ss jj) a S) G gi a).length).length)), .ref (b + 137), .ref (b + 138), .ref (b + 139), .int (nI ((wm_ag8 (fun S a => wm_af ar i (ss i) a S) (fun S a => wm_af ar jj (ss jj) a S) G gi a).length)), .ref (b + 140), .int (nI 4294967295), .ref (b + 141), .ref (b + 142), .ref (b + 143), .ref (b + 144), .ref (b + 145)]) → E17 121 = wm_I C 1536 ar → E17 122 = wm_I C 8 ss → E17 123 = wm_I C 8 sa → E17 124 = wm_I C 8 se → E17 134 = wm_I C 49152 qs3 → E17 135 = wm_I C 49152 qw3 → E17 136 = wm_Z C 49152 sn3 → E17 137 = wm_I C 49153 wb3 → E17 138 = wm_I C 49153 wl3 → E17 139 = wm_I C 49153 ws3 → E17 140 = wm_I C 49153 kp → (∀ j, j ≠ 119 → j ≠ 134 → j ≠ 135 → j ≠ 136 → j ≠ 137 → j ≠ 138 → j ≠ 139 → j ≠ 140 → E17 j = E j) → lv_has ls 14 [(0, .ref (b + 119)), (1, .int (nI i)), (2, .int (nI jj)), (5, .int (nI ((wm_ql G (gi + 1)).length))), (6, .int (nI 4294967295)), (7, .int (nI gi)), (8, .int (nI ((G.getD gi wm_g0).1))), (9, .int (nI a))] → W p l e R s m args below meth c H locs 0 0 Q (F0 m 198 ls []) := by
                          intro fu
                          induction fu with
                          | zero => intro a qs3 qw3 sn3 wb3 wl3 ws3 hm; exact absurd hm (Nat.not_lt_zero _)
                          | succ fu ih198 =>
                            intro a qs3 qw3 sn3 wb3 wl3 ws3 hm ha hgg3 hnb3 hqr3 hsn3 hwr3 E17 H locs ls hP hS hE0 hE1 hE2 hE3 hE4 hE5 hE6 hE7 hE8 hE9 hE10 hE11 hfr hl
                            have hlen3 := wm_gg_len hgg3 h2c
                            have hcap3 := wm_ql_cap hgg3 h2c
                            have hpre := wm_ag8_pre (fun S a => wm_af ar i (ss i) a S) (fun S a => wm_af ar jj (ss jj) a S) G gi a
                            have hgi3 := hpre.2 gi hgl
                            have hgok := hgg.1 gi hgl
                            refine lv_iload X.1 X.2.1 dX7_within_198 (lv_at hl 7 rfl) ?_
                            refine lv_bipush (v := nI 8) X.1 X.2.1 dX7_within_200 (by decide) ?_
                            refine wm_icmp_ge (x := a) (y := 8) (tgt := 300) X (by omega) (by decide) dX7_within_202 (by decide) (fun hc202 => ?_) (fun hc202 => ?_)
                            · refine lv_goto (tgt := 128) X.1 X.2.1 dX7_within_300 (by decide) ?_
                              have ha8 : a = 8 := by omega
                              have hq5 : (wm_ql G (gi + 1)).length = (wm_ql (wm_ag8 (fun S a => wm_af ar i (ss i) a S) (fun S a => wm_af ar jj (ss jj) a S) G gi a) (gi + 1)).length := by rw [wm_ql_cg (gi + 1) (fun j hj => hpre.2 j (by omega))]
                              rw [hq5] at hl
                              exact ih128 (gi + 1) ((wm_ag8 (fun S a => wm_af ar i (ss i) a S) (fun S a => wm_af ar jj (ss jj) a S) G gi a).length) (wm_ag8 (fun S a => wm_af ar i (ss i) a S) (fun S a => wm_af ar jj (ss jj) a S) G gi a) qs3 qw3 sn3 wb3 wl3 ws3 (by omega) (fun _ => rfl) (by have := hpre.1; omega) hgg3 hnb3 hqr3 hsn3 hwr3 (by rw [ha8, ← hrun, show 49153 - gi = 49153 - (gi + 1) + 1 by omega]; exact (wm_hunt_s hgl (hnb gi hgl)).symm) E17 _ _ _ hP hS hE0 hE1 hE2 hE3 hE4 hE5 hE6 hE7 hE8 hE9 hE10 hE11 hfr (lv_sub hl [0, 1, 2, 3, 4] rfl)
                            · refine lv_iload X.1 X.2.1 dX7_within_205 (lv_at hl 4 rfl) ?_
                              refine lv_if_ge (tgt := 300) X.1 X.2.1 dX7_within_207 (by decide) (fun h => by exfalso; revert h; decide) (fun _ => ?_)
                              refine lv_aload_n X.1 X.2.1 dX7_within_210 rfl (lv_at hl 0 rfl) ?_
                              refine lv_iload_n X.1 X.2.1 dX7_within_211 rfl (lv_at hl 1 rfl) ?_
                              refine lv_iload X.1 X.2.1 dX7_within_212 (lv_at hl 6 rfl) ?_
                              refine lv_iload X.1 X.2.1 dX7_within_214 (lv_at hl 7 rfl) ?_
                              refine wm_callVi (k := 3) (As := [.int (nI i), .int (nI ((G.getD gi wm_g0).1)), .int (nI a)]) (rest := []) X hP hS hlt0 hE0 rfl (kX7_after l D C b n E17 0 sz fa pl ats aa op fi la ((wm_ql (wm_ag8 (fun S a => wm_af ar i (ss i) a S) (fun S a => wm_af ar jj (ss jj) a S) G gi a) (wm_ag8 (fun S a => wm_af ar i (ss i) a S) (fun S a => wm_af ar jj (ss jj) a S) G gi a).length).length) ((wm_ag8 (fun S a => wm_af ar i (ss i) a S) (fun S a => wm_af ar jj (ss jj) a S) G gi a).length) 4294967295 be i ((G.getD gi wm_g0).1) a ar ss hlt0 hE0 hlt1 hE1 hlt2 hE2 (by omega) hsi (by have := hgok.1.1; omega) hc202) wq6_27 wq6_29 wqP3_14 wq1_8 wq6_30 (by decide) (by rw [hRe]; exact ⟨Nat.le_of_ble_eq_true rfl, Nat.le_of_ble_eq_true rfl⟩) rfl hl.1 rfl (Nat.le_of_ble_eq_true rfl) (Nat.zero_le _) (Nat.zero_le _) dX7_within_216 (fun r19 E19 H locs hw hP hS => ?_)
                              obtain ⟨hrt, hEe⟩ := hw
                              subst hrt
                              subst hEe
                              have hto : (wm_af ar i (ss i) a (G.getD gi wm_g0).1) < 2 ^ ss i := wm_af_lt (fun x hx => hgi a x hc202 hx)
                              refine lv_istore (lv' := [(10, .int (nI (wm_af ar i (ss i) a ((G.getD gi wm_g0).1)))), (0, .ref (b + 119)), (1, .int (nI i)), (2, .int (nI jj)), (5, .int (nI ((wm_ql G (gi + 1)).length))), (6, .int (nI 4294967295)), (7, .int (nI gi)), (8, .int (nI ((G.getD gi wm_g0).1))), (9, .int (nI a))]) X.1 X.2.1 dX7_within_219 hl (by decide) rfl (fun ls hl => ?_)
                              refine lv_aload_n X.1 X.2.1 dX7_within_221 rfl (lv_at hl 1 rfl) ?_
                              refine lv_iload_n X.1 X.2.1 dX7_within_222 rfl (lv_at hl 3 rfl) ?_
                              refine lv_aload_n X.1 X.2.1 dX7_within_223 rfl (lv_at hl 1 rfl) ?_
                              refine wm_get X hP hlt0 hE0 rfl wm_inX7 30 (by decide) wq5_52 rfl dX7_within_224 ?_
                              refine lv_iload X.1 X.2.1 dX7_within_227 (lv_at hl 6 rfl) ?_
                              refine wm_iald (i := gi) X hP hlt10 hE10 (by omega) (by decide) dX7_within_229 ?_
                              rw [show ws3 gi = (G.getD gi wm_g0).2.1 from ((hwr3 gi (by have := hpre.1; omega)).2.2).trans (by rw [hgi3])]
                              refine lv_iload X.1 X.2.1 dX7_within_230 (lv_at hl 8 rfl) ?_
                              refine wm_callVi (k := 3) (As := [.int (nI jj), .int (nI ((G.getD gi wm_g0).2.1)), .int (nI a)]) (rest := []) X hP hS hlt0 hE0 rfl (kX7_after l D C b n E17 0 sz fa pl ats aa op fi la ((wm_ql (wm_ag8 (fun S a => wm_af ar i (ss i) a S) (fun S a => wm_af ar jj (ss jj) a S) G gi a) (wm_ag8 (fun S a => wm_af ar i (ss i) a S) (fun S a => wm_af ar jj (ss jj) a S) G gi a).length).length) ((wm_ag8 (fun S a => wm_af ar i (ss i) a S) (fun S a => wm_af ar jj (ss jj) a S) G gi a).length) 4294967295 be jj ((G.getD gi wm_g0).2.1) a ar ss hlt0 hE0 hlt1 hE1 hlt2 hE2 (by omega) (by omega) (by have := hgok.2.2.1; omega) hc202) wq6_27 wq6_29 wqP3_14 wq1_8 wq6_30 (by decide) (by rw [hRe]; exact ⟨Nat.le_of_ble_eq_true rfl, Nat.le_of_ble_eq_true rfl⟩) rfl hl.1 rfl (Nat.le_of_ble_eq_true rfl) (Nat.zero_le _) (Nat.zero_le _) dX7_within_232 (fun r20 E20 H locs hw hP hS => ?_)
                              obtain ⟨hrt, hEe⟩ := hw
                              subst hrt
                              subst hEe
                              have hst9 : (wm_af ar jj (ss jj) a (G.getD gi wm_g0).2.1) < 2 ^ ss jj := wm_af_lt (fun x hx => hgj a x hc202 hx)
                              refine lv_istore (lv' := [(11, .int (nI (wm_af ar jj (ss jj) a ((G.getD gi wm_g0).2.1)))), (10, .int (nI (wm_af ar i (ss i) a ((G.getD gi wm_g0).1)))), (0, .ref (b + 119)), (1, .int (nI i)), (2, .int (nI jj)), (5, .int (nI ((wm_ql G (gi + 1)).length))), (6, .int (nI 4294967295)), (7, .int (nI gi)), (8, .int (nI ((G.getD gi wm_g0).1))), (9, .int (nI a))]) X.1 X.2.1 dX7_within_235 hl (by decide) rfl (fun ls hl => ?_)
                              refine lv_aload_n X.1 X.2.1 dX7_within_237 rfl (lv_at hl 2 rfl) ?_
                              refine wm_get X hP hlt0 hE0 rfl wm_inX7 27 (by decide) wq5_49 rfl dX7_within_238 ?_
                              refine lv_istore (lv' := [(12, .int (nI ((wm_ql (wm_ag8 (fun S a => wm_af ar i (ss i) a S) (fun S a => wm_af ar jj (ss jj) a S) G gi a) (wm_ag8 (fun S a => wm_af ar i (ss i) a S) (fun S a => wm_af ar jj (ss jj) a S) G gi a).length).length))), (11, .int (nI (wm_af ar jj (ss jj) a ((G.getD gi wm_g0).2.1)))), (10, .int (nI (wm_af ar i (ss i) a ((G.getD gi wm_g0).1)))), (0, .ref (b + 119)), (1, .int (nI i)), (2, .int (nI jj)), (5, .int (nI ((wm_ql G (gi + 1)).length))), (6, .int (nI 4294967295)), (7, .int (nI gi)), (8, .int (nI ((G.getD gi wm_g0).1))), (9, .int (nI a))]) X.1 X.2.1 dX7_within_241 hl (by decide) rfl (fun ls hl => ?_)
                              refine lv_aload_n X.1 X.2.1 dX7_within_243 rfl (lv_at hl 3 rfl) ?_
                              refine lv_iload X.1 X.2.1 dX7_within_244 (lv_at hl 8 rfl) ?_
                              refine lv_iload X.1 X.2.1 dX7_within_246 (lv_at hl 10 rfl) ?_
                              refine lv_iload X.1 X.2.1 dX7_within_248 (lv_at hl 1 rfl) ?_
                              refine wm_callVi (k := 3) (As := [.int (nI gi), .int (nI a), .int (nI (wm_af ar jj (ss jj) a ((G.getD gi wm_g0).2.1)))]) (rest := []) X hP hS hlt0 hE0 rfl (kX7_word l D C b n E17 0 sz fa pl ats aa op fi la ((wm_ql (wm_ag8 (fun S a => wm_af ar i (ss i) a S) (fun S a => wm_af ar jj (ss jj) a S) G gi a) (wm_ag8 (fun S a => wm_af ar i (ss i) a S) (fun S a => wm_af ar jj (ss jj) a S) G gi a).length).length) ((wm_ag8 (fun S a => wm_af ar i (ss i) a S) (fun S a => wm_af ar jj (ss jj) a S) G gi a).length) 4294967295 be gi a (wm_af ar jj (ss jj) a ((G.getD gi wm_g0).2.1)) wb3 wl3 ws3 hlt0 hE0 hlt8 hE8 hlt9 hE9 hlt10 hE10 (by omega)) wq6_35 wq6_37 wqP3_15 wq1_8 wq6_38 (by decide) (by rw [hRe]; exact ⟨Nat.le_of_ble_eq_true rfl, Nat.le_of_ble_eq_true rfl⟩) rfl hl.1 rfl (Nat.le_of_ble_eq_true rfl) (Nat.zero_le _) (Nat.zero_le _) dX7_within_250 (fun r21 E21 H locs hw hP hS => ?_)
                              obtain ⟨hrt, hE0, hE8, hE9, hE10, hq⟩ := hw
                              subst hrt
                              have hE1 := (hq 121 (by decide) (by decide) (by decide) (by decide)).trans hE1
                              have hE2 := (hq 122 (by decide) (by decide) (by decide) (by decide)).trans hE2
                              have hE3 := (hq 123 (by decide) (by decide) (by decide) (by decide)).trans hE3
                              have hE4 := (hq 124 (by decide) (by decide) (by decide) (by decide)).trans hE4
                              have hE5 := (hq 134 (by decide) (by decide) (by decide) (by decide)).trans hE5
                              have hE6 := (hq 135 (by decide) (by decide) (by decide) (by decide)).trans hE6
                              have hE7 := (hq 136 (by decide) (by decide) (by decide) (by decide)).trans hE7
                              have hE11 := (hq 140 (by decide) (by decide) (by decide) (by decide)).trans hE11
                              have hfr : ∀ j, j ≠ 119 → j ≠ 134 → j ≠ 135 → j ≠ 136 → j ≠ 137 → j ≠ 138 → j ≠ 139 → j ≠ 140 → E21 j = E j := fun j h0 h1 h2 h3 h4 h5 h6 h7 => (hq j h0 h4 h5 h6).trans (hfr j h0 h1 h2 h3 h4 h5 h6 h7)
                              refine lv_istore (lv' := [(13, .int (nI ((wm_ag8 (fun S a => wm_af ar i (ss i) a S) (fun S a => wm_af ar jj (ss jj) a S) G gi a).length))), (12, .int (nI ((wm_ql (wm_ag8 (fun S a => wm_af ar i (ss i) a S) (fun S a => wm_af ar jj (ss jj) a S) G gi a) (wm_ag8 (fun S a => wm_af ar i (ss i) a S) (fun S a => wm_af ar jj (ss jj) a S) G gi a).length).length))), (11, .int (nI (wm_af ar jj (ss jj) a ((G.getD gi wm_g0).2.1)))), (10, .int (nI (wm_af ar i (ss i) a ((G.getD gi wm_g0).1)))), (0, .ref (b + 119)), (1, .int (nI i)), (2, .int (nI jj)), (5, .int (nI ((wm_ql G (gi + 1)).length))), (6, .int (nI 4294967295)), (7, .int (nI gi)), (8, .int (nI ((G.getD gi wm_g0).1))), (9, .int (nI a))]) X.1 X.2.1 dX7_within_253 hl (by decide) rfl (fun ls hl => ?_)
                              refine lv_aload_n X.1 X.2.1 dX7_within_255 rfl (lv_at hl 4 rfl) ?_
                              refine lv_iload_n X.1 X.2.1 dX7_within_256 rfl (lv_at hl 5 rfl) ?_
                              refine lv_iload_n X.1 X.2.1 dX7_within_257 rfl (lv_at hl 6 rfl) ?_
                              refine lv_iload X.1 X.2.1 dX7_within_258 (lv_at hl 3 rfl) ?_
                              refine lv_iload X.1 X.2.1 dX7_within_260 (lv_at hl 0 rfl) ?_
                              refine wm_callVi (k := 4) (As := [.int (nI i), .int (nI jj), .int (nI (wm_af ar i (ss i) a ((G.getD gi wm_g0).1))), .int (nI ((wm_ag8 (fun S a => wm_af ar i (ss i) a S) (fun S a => wm_af ar jj (ss jj) a S) G gi a).length))]) (rest := []) X hP hS hlt0 hE0 rfl (kX7_comes l D C b n E21 0 sz fa pl ats aa op fi la ((wm_ql (wm_ag8 (fun S a => wm_af ar i (ss i) a S) (fun S a => wm_af ar jj (ss jj) a S) G gi a) (wm_ag8 (fun S a => wm_af ar i (ss i) a S) (fun S a => wm_af ar jj (ss jj) a S) G gi a).length).length) (((wm_ag8 (fun S a => wm_af ar i (ss i) a S) (fun S a => wm_af ar jj (ss jj) a S) G gi a).length) + 1) 4294967295 be i jj (wm_af ar i (ss i) a ((G.getD gi wm_g0).1)) ((wm_ag8 (fun S a => wm_af ar i (ss i) a S) (fun S a => wm_af ar jj (ss jj) a S) G gi a).length) (wm_af ar jj (ss jj) a (G.getD gi wm_g0).2.1) (wm_ag8 (fun S a => wm_af ar i (ss i) a S) (fun S a => wm_af ar jj (ss jj) a S) G gi a) (wm_ql (wm_ag8 (fun S a => wm_af ar i (ss i) a S) (fun S a => wm_af ar jj (ss jj) a S) G gi a) (wm_ag8 (fun S a => wm_af ar i (ss i) a S) (fun S a => wm_af ar jj (ss jj) a S) G gi a).length) qs3 qw3 (va_up ws3 ((wm_ag8 (fun S a => wm_af ar i (ss i) a S) (fun S a => wm_af ar jj (ss jj) a S) G gi a).length) (wm_af ar jj (ss jj) a ((G.getD gi wm_g0).2.1))) ss se sn3 hlt0 hE0 hlt2 hE2 hlt4 hE4 hlt5 hE5 hlt6 hE6 hlt7 hE7 hlt10 hE10 (by omega) (by omega) (by omega) (by omega) (by omega) (va_up_self _ _ _) (by omega) hqr3 hsn3 (by omega) (by omega) (wm_capq (a := a) (bf := gi) hgg3 h2c hsi hto hst9 hc202 (Or.inl (by have := hpre.1; omega))) rfl) wq6_39 wq6_41 wqP4_0 wq1_8 wq6_42 (by decide) (by rw [hRe]; exact ⟨Nat.le_of_ble_eq_true rfl, Nat.le_of_ble_eq_true rfl⟩) rfl hl.1 rfl (Nat.le_of_ble_eq_true rfl) (Nat.zero_le _) (Nat.zero_le _) dX7_within_262 (fun r22 E22 H locs hw hP hS => ?_)
                              obtain ⟨qs122, qw122, sn122, hrt, hE0, hE5, hE6, hE7, hq, hp22_0, hp22_1⟩ := hw
                              subst hrt
                              have hE1 := (hq 121 (by decide) (by decide) (by decide) (by decide)).trans hE1
                              have hE2 := (hq 122 (by decide) (by decide) (by decide) (by decide)).trans hE2
                              have hE3 := (hq 123 (by decide) (by decide) (by decide) (by decide)).trans hE3
                              have hE4 := (hq 124 (by decide) (by decide) (by decide) (by decide)).trans hE4
                              have hE8 := (hq 137 (by decide) (by decide) (by decide) (by decide)).trans hE8
                              have hE9 := (hq 138 (by decide) (by decide) (by decide) (by decide)).trans hE9
                              have hE10 := (hq 139 (by decide) (by decide) (by decide) (by decide)).trans hE10
                              have hE11 := (hq 140 (by decide) (by decide) (by decide) (by decide)).trans hE11
                              have hfr : ∀ j, j ≠ 119 → j ≠ 134 → j ≠ 135 → j ≠ 136 → j ≠ 137 → j ≠ 138 → j ≠ 139 → j ≠ 140 → E22 j = E j := fun j h0 h1 h2 h3 h4 h5 h6 h7 => (hq j h0 h1 h2 h3).trans (hfr j h0 h1 h2 h3 h4 h5 h6 h7)
                              have hcpx := wm_capq (a := a) (bf := gi) (G := (wm_ag8 (fun S a => wm_af ar i (ss i) a S) (fun S a => wm_af ar jj (ss jj) a S) G gi a)) hgg3 h2c hsi hto hst9 hc202 (Or.inl (by have := hpre.1; omega))
                              have hadv := wm_adv (a := a) (bf := gi) (b9 := gi) (G := (wm_ag8 (fun S a => wm_af ar i (ss i) a S) (fun S a => wm_af ar jj (ss jj) a S) G gi a)) (wb := wb3) (wl := wl3) (ws := ws3) hgg3 h2c hsi hto hst9 hc202 (Or.inl (by have := hpre.1; omega)) hp22_0 hp22_1 hwr3 (fun _ => rfl)
                              refine wm_ifz_eq (x := (decide ((wm_af ar i (ss i) a ((G.getD gi wm_g0).1)) &&& se i ≠ 0 ∧ (wm_af ar jj (ss jj) a (G.getD gi wm_g0).2.1) &&& se jj = 0))) (tgt := 275) X dX7_within_265 (by decide) (fun hc265 => ?_) (fun hc265 => ?_)
                              · refine lv_aload_n X.1 X.2.1 dX7_within_275 rfl (lv_at hl 4 rfl) ?_
                                refine wm_get X hP hlt0 hE0 rfl wm_inX7 27 (by decide) wq5_49 rfl dX7_within_276 ?_
                                refine lv_iload X.1 X.2.1 dX7_within_279 (lv_at hl 1 rfl) ?_
                                refine wm_icmp_ne (x := (((wm_ql (wm_ag8 (fun S a => wm_af ar i (ss i) a S) (fun S a => wm_af ar jj (ss jj) a S) G gi a) (wm_ag8 (fun S a => wm_af ar i (ss i) a S) (fun S a => wm_af ar jj (ss jj) a S) G gi a).length) ++ (wm_bk (ss i) (wm_new (wm_ag8 (fun S a => wm_af ar i (ss i) a S) (fun S a => wm_af ar jj (ss jj) a S) G gi a) (wm_af ar i (ss i) a ((G.getD gi wm_g0).1)) (wm_af ar jj (ss jj) a (G.getD gi wm_g0).2.1))).map (fun x9 => (x9, ((wm_ag8 (fun S a => wm_af ar i (ss i) a S) (fun S a => wm_af ar jj (ss jj) a S) G gi a).length)))).length)) (y := ((wm_ql (wm_ag8 (fun S a => wm_af ar i (ss i) a S) (fun S a => wm_af ar jj (ss jj) a S) G gi a) (wm_ag8 (fun S a => wm_af ar i (ss i) a S) (fun S a => wm_af ar jj (ss jj) a S) G gi a).length).length)) (tgt := 294) X (by omega) (by omega) dX7_within_281 (by decide) (fun hc281 => ?_) (fun hc281 => ?_)
                                · refine lv_iinc (v := nI (a + 1)) (lv' := [(9, .int (nI (a + 1))), (13, .int (nI ((wm_ag8 (fun S a => wm_af ar i (ss i) a S) (fun S a => wm_af ar jj (ss jj) a S) G gi a).length))), (12, .int (nI ((wm_ql (wm_ag8 (fun S a => wm_af ar i (ss i) a S) (fun S a => wm_af ar jj (ss jj) a S) G gi a) (wm_ag8 (fun S a => wm_af ar i (ss i) a S) (fun S a => wm_af ar jj (ss jj) a S) G gi a).length).length))), (11, .int (nI (wm_af ar jj (ss jj) a ((G.getD gi wm_g0).2.1)))), (10, .int (nI (wm_af ar i (ss i) a ((G.getD gi wm_g0).1)))), (0, .ref (b + 119)), (1, .int (nI i)), (2, .int (nI jj)), (5, .int (nI ((wm_ql G (gi + 1)).length))), (6, .int (nI 4294967295)), (7, .int (nI gi)), (8, .int (nI ((G.getD gi wm_g0).1)))]) X.1 X.2.1 dX7_within_294 hl (k := 11) rfl (wm_inc a) (by decide) rfl (fun ls hl => ?_)
                                  refine lv_goto (tgt := 198) X.1 X.2.1 dX7_within_297 (by decide) ?_
                                  rw [hadv.2.2.2.2] at hE0
                                  rw [wm_agn (a := a) (bf := gi) hsi hto hc281] at hE0
                                  have hnb4 : wm_nb (se i) (se jj) (wm_ag8 (fun S a => wm_af ar i (ss i) a S) (fun S a => wm_af ar jj (ss jj) a S) G gi (a + 1)) (wm_ag8 (fun S a => wm_af ar i (ss i) a S) (fun S a => wm_af ar jj (ss jj) a S) G gi (a + 1)).length := wm_nb_ag hnb3 (of_decide_eq_false hc265)
                                  exact ih198 (a + 1) qs122 qw122 sn122 (va_up wb3 ((wm_ag8 (fun S a => wm_af ar i (ss i) a S) (fun S a => wm_af ar jj (ss jj) a S) G gi a).length) gi) (va_up wl3 ((wm_ag8 (fun S a => wm_af ar i (ss i) a S) (fun S a => wm_af ar jj (ss jj) a S) G gi a).length) a) (va_up ws3 ((wm_ag8 (fun S a => wm_af ar i (ss i) a S) (fun S a => wm_af ar jj (ss jj) a S) G gi a).length) (wm_af ar jj (ss jj) a ((G.getD gi wm_g0).2.1))) (by omega) (by omega) hadv.1 hnb4 hadv.2.1 hadv.2.2.1 hadv.2.2.2.1 E22 _ _ _ hP hS hE0 hE1 hE2 hE3 hE4 hE5 hE6 hE7 hE8 hE9 hE10 hE11 hfr (lv_sub hl [5, 6, 7, 8, 9, 10, 11, 0] rfl)
                                · refine lv_aload_n X.1 X.2.1 dX7_within_284 rfl (lv_at hl 4 rfl) ?_
                                  refine lv_dup X.1 X.2.1 dX7_within_285 rfl ?_
                                  refine wm_get X hP hlt0 hE0 rfl wm_inX7 31 (by decide) wq5_53 rfl dX7_within_286 ?_
                                  refine lv_iconst (v := nI 1) X.1 X.2.1 dX7_within_289 (by decide) ?_
                                  refine wm_isub (x := (((wm_ag8 (fun S a => wm_af ar i (ss i) a S) (fun S a => wm_af ar jj (ss jj) a S) G gi a).length) + 1)) (y := 1) X (by omega) dX7_within_290 ?_
                                  refine wm_put (v := .int (nI ((((wm_ag8 (fun S a => wm_af ar i (ss i) a S) (fun S a => wm_af ar jj (ss jj) a S) G gi a).length) + 1) - 1))) X hP hS hlt0 hE0 rfl wm_inX7 tyX7 tyX7_ok nmX7 31 (by decide) wq5_53 rfl rfl rfl (fs1 := [.int (nI 0), .ref (b + 120), .int (nI sz), .int (nI fa), .int (nI pl), .ref (b + 121), .ref (b + 122), .ref (b + 123), .ref (b + 124), .ref (b + 125), .ref (b + 126), .ref (b + 127), .int (nI ats), .int (nI aa), .ref (b + 128), .ref (b + 129), .ref (b + 130), .ref (b + 131), .ref (b + 132), .ref (b + 133), .int (nI op), .int (nI be.toNat), .int (nI fi), .int (nI la), .ref (b + 134), .ref (b + 135), .ref (b + 136), .int (nI (((wm_ql (wm_ag8 (fun S a => wm_af ar i (ss i) a S) (fun S a => wm_af ar jj (ss jj) a S) G gi a) (wm_ag8 (fun S a => wm_af ar i (ss i) a S) (fun S a => wm_af ar jj (ss jj) a S) G gi a).length) ++ (wm_bk (ss i) (wm_new (wm_ag8 (fun S a => wm_af ar i (ss i) a S) (fun S a => wm_af ar jj (ss jj) a S) G gi a) (wm_af ar i (ss i) a ((G.getD gi wm_g0).1)) (wm_af ar jj (ss jj) a (G.getD gi wm_g0).2.1))).map (fun x9 => (x9, ((wm_ag8 (fun S a => wm_af ar i (ss i) a S) (fun S a => wm_af ar jj (ss jj) a S) G gi a).length)))).length)), .ref (b + 137), .ref (b + 138), .ref (b + 139), .int (nI ((((wm_ag8 (fun S a => wm_af ar i (ss i) a S) (fun S a => wm_af ar jj (ss jj) a S) G gi a).length) + 1) - 1)), .ref (b + 140), .int (nI 4294967295), .ref (b + 141), .ref (b + 142), .ref (b + 143), .ref (b + 144), .ref (b + 145)]) rfl (Nat.le_of_ble_eq_true rfl) dX7_within_291 (fun H locs E25 hP hS hE0 hq => ?_)
                                  have hE1 := (hq 121 (by decide)).trans hE1
                                  have hE2 := (hq 122 (by decide)).trans hE2
                                  have hE3 := (hq 123 (by decide)).trans hE3
                                  have hE4 := (hq 124 (by decide)).trans hE4
                                  have hE5 := (hq 134 (by decide)).trans hE5
                                  have hE6 := (hq 135 (by decide)).trans hE6
                                  have hE7 := (hq 136 (by decide)).trans hE7
                                  have hE8 := (hq 137 (by decide)).trans hE8
                                  have hE9 := (hq 138 (by decide)).trans hE9
                                  have hE10 := (hq 139 (by decide)).trans hE10
                                  have hE11 := (hq 140 (by decide)).trans hE11
                                  have hfr : ∀ j, j ≠ 119 → j ≠ 134 → j ≠ 135 → j ≠ 136 → j ≠ 137 → j ≠ 138 → j ≠ 139 → j ≠ 140 → E25 j = E j := fun j h0 h1 h2 h3 h4 h5 h6 h7 => (hq j h0).trans (hfr j h0 h1 h2 h3 h4 h5 h6 h7)
                                  refine lv_iinc (v := nI (a + 1)) (lv' := [(9, .int (nI (a + 1))), (13, .int (nI ((wm_ag8 (fun S a => wm_af ar i (ss i) a S) (fun S a => wm_af ar jj (ss jj) a S) G gi a).length))), (12, .int (nI ((wm_ql (wm_ag8 (fun S a => wm_af ar i (ss i) a S) (fun S a => wm_af ar jj (ss jj) a S) G gi a) (wm_ag8 (fun S a => wm_af ar i (ss i) a S) (fun S a => wm_af ar jj (ss jj) a S) G gi a).length).length))), (11, .int (nI (wm_af ar jj (ss jj) a ((G.getD gi wm_g0).2.1)))), (10, .int (nI (wm_af ar i (ss i) a ((G.getD gi wm_g0).1)))), (0, .ref (b + 119)), (1, .int (nI i)), (2, .int (nI jj)), (5, .int (nI ((wm_ql G (gi + 1)).length))), (6, .int (nI 4294967295)), (7, .int (nI gi)), (8, .int (nI ((G.getD gi wm_g0).1)))]) X.1 X.2.1 dX7_within_294 hl (k := 11) rfl (wm_inc a) (by decide) rfl (fun ls hl => ?_)
                                  refine lv_goto (tgt := 198) X.1 X.2.1 dX7_within_297 (by decide) ?_
                                  rw [hadv.2.2.2.2] at hE0
                                  rw [wm_agz (a := a) (bf := gi) hsi hto hc281] at hE0
                                  have hnb4 : wm_nb (se i) (se jj) (wm_ag8 (fun S a => wm_af ar i (ss i) a S) (fun S a => wm_af ar jj (ss jj) a S) G gi (a + 1)) (wm_ag8 (fun S a => wm_af ar i (ss i) a S) (fun S a => wm_af ar jj (ss jj) a S) G gi (a + 1)).length := wm_nb_ag hnb3 (of_decide_eq_false hc265)
                                  exact ih198 (a + 1) qs122 qw122 sn122 (va_up wb3 ((wm_ag8 (fun S a => wm_af ar i (ss i) a S) (fun S a => wm_af ar jj (ss jj) a S) G gi a).length) gi) (va_up wl3 ((wm_ag8 (fun S a => wm_af ar i (ss i) a S) (fun S a => wm_af ar jj (ss jj) a S) G gi a).length) a) (va_up ws3 ((wm_ag8 (fun S a => wm_af ar i (ss i) a S) (fun S a => wm_af ar jj (ss jj) a S) G gi a).length) (wm_af ar jj (ss jj) a ((G.getD gi wm_g0).2.1))) (by omega) (by omega) hadv.1 hnb4 hadv.2.1 hadv.2.2.1 hadv.2.2.2.1 E25 _ _ _ hP hS hE0 hE1 hE2 hE3 hE4 hE5 hE6 hE7 hE8 hE9 hE10 hE11 hfr (lv_sub hl [5, 6, 7, 8, 9, 10, 11, 0] rfl)
                              · have hbd := of_decide_eq_true hc265
                                have hfd9 := wm_fd8 (F1 := (fun S a => wm_af ar i (ss i) a S)) (F2 := (fun S a => wm_af ar jj (ss jj) a S)) hrun hgl (hnb gi hgl) hc202 hnb3 hgg3 hadv.1 hlen3 (Nat.lt_of_lt_of_le hto h2i) hbd.1 hbd.2
                                have hfd := hfd9.2
                                refine lv_iload X.1 X.2.1 dX7_within_268 (lv_at hl 0 rfl) ?_
                                refine lv_istore (lv' := [(6, .int (nI ((wm_ag8 (fun S a => wm_af ar i (ss i) a S) (fun S a => wm_af ar jj (ss jj) a S) G gi a).length))), (13, .int (nI ((wm_ag8 (fun S a => wm_af ar i (ss i) a S) (fun S a => wm_af ar jj (ss jj) a S) G gi a).length))), (12, .int (nI ((wm_ql (wm_ag8 (fun S a => wm_af ar i (ss i) a S) (fun S a => wm_af ar jj (ss jj) a S) G gi a) (wm_ag8 (fun S a => wm_af ar i (ss i) a S) (fun S a => wm_af ar jj (ss jj) a S) G gi a).length).length))), (11, .int (nI (wm_af ar jj (ss jj) a ((G.getD gi wm_g0).2.1)))), (10, .int (nI (wm_af ar i (ss i) a ((G.getD gi wm_g0).1)))), (0, .ref (b + 119)), (1, .int (nI i)), (2, .int (nI jj)), (5, .int (nI ((wm_ql G (gi + 1)).length))), (7, .int (nI gi)), (8, .int (nI ((G.getD gi wm_g0).1))), (9, .int (nI a))]) X.1 X.2.1 dX7_within_270 hl (by decide) rfl (fun ls hl => ?_)
                                refine lv_goto (tgt := 294) X.1 X.2.1 dX7_within_272 (by decide) ?_
                                refine lv_iinc (v := nI (a + 1)) (lv' := [(9, .int (nI (a + 1))), (6, .int (nI ((wm_ag8 (fun S a => wm_af ar i (ss i) a S) (fun S a => wm_af ar jj (ss jj) a S) G gi a).length))), (13, .int (nI ((wm_ag8 (fun S a => wm_af ar i (ss i) a S) (fun S a => wm_af ar jj (ss jj) a S) G gi a).length))), (12, .int (nI ((wm_ql (wm_ag8 (fun S a => wm_af ar i (ss i) a S) (fun S a => wm_af ar jj (ss jj) a S) G gi a) (wm_ag8 (fun S a => wm_af ar i (ss i) a S) (fun S a => wm_af ar jj (ss jj) a S) G gi a).length).length))), (11, .int (nI (wm_af ar jj (ss jj) a ((G.getD gi wm_g0).2.1)))), (10, .int (nI (wm_af ar i (ss i) a ((G.getD gi wm_g0).1)))), (0, .ref (b + 119)), (1, .int (nI i)), (2, .int (nI jj)), (5, .int (nI ((wm_ql G (gi + 1)).length))), (7, .int (nI gi)), (8, .int (nI ((G.getD gi wm_g0).1)))]) X.1 X.2.1 dX7_within_294 hl (k := 11) rfl (wm_inc a) (by decide) rfl (fun ls hl => ?_)
                                refine lv_goto (tgt := 198) X.1 X.2.1 dX7_within_297 (by decide) ?_
                                refine lv_iload X.1 X.2.1 dX7_within_198 (lv_at hl 0 rfl) ?_
                                refine lv_bipush (v := nI 8) X.1 X.2.1 dX7_within_200 (by decide) ?_
                                refine wm_icmp_ge (x := (a + 1)) (y := 8) (tgt := 300) X (by omega) (by decide) dX7_within_202 (by decide) (fun hc202 => ?_) (fun hc202 => ?_)
                                · refine lv_goto (tgt := 128) X.1 X.2.1 dX7_within_300 (by decide) ?_
                                  refine lv_iload X.1 X.2.1 dX7_within_128 (lv_at hl 1 rfl) ?_
                                  refine wm_if_ge (x := ((wm_ag8 (fun S a => wm_af ar i (ss i) a S) (fun S a => wm_af ar jj (ss jj) a S) G gi a).length)) (tgt := 303) X (by omega) dX7_within_130 (by decide) ?_
                                  refine lv_iload X.1 X.2.1 dX7_within_303 (lv_at hl 1 rfl) ?_
                                  refine wm_if_lt (x := ((wm_ag8 (fun S a => wm_af ar i (ss i) a S) (fun S a => wm_af ar jj (ss jj) a S) G gi a).length)) (tgt := 314) X (by omega) dX7_within_305 (by decide) ?_
                                  refine lv_aload_n X.1 X.2.1 dX7_within_308 rfl (lv_at hl 6 rfl) ?_
                                  refine lv_iload X.1 X.2.1 dX7_within_309 (lv_at hl 1 rfl) ?_
                                  refine wm_callVv (k := 1) (As := [.int (nI ((wm_ag8 (fun S a => wm_af ar i (ss i) a S) (fun S a => wm_af ar jj (ss jj) a S) G gi a).length))]) (rest := []) X hP hS hlt0 hE0 rfl (kX7_keep l D C b n E22 0 sz fa pl ats aa op fi la (((wm_ql (wm_ag8 (fun S a => wm_af ar i (ss i) a S) (fun S a => wm_af ar jj (ss jj) a S) G gi a) (wm_ag8 (fun S a => wm_af ar i (ss i) a S) (fun S a => wm_af ar jj (ss jj) a S) G gi a).length) ++ (wm_bk (ss i) (wm_new (wm_ag8 (fun S a => wm_af ar i (ss i) a S) (fun S a => wm_af ar jj (ss jj) a S) G gi a) (wm_af ar i (ss i) a ((G.getD gi wm_g0).1)) (wm_af ar jj (ss jj) a (G.getD gi wm_g0).2.1))).map (fun x9 => (x9, ((wm_ag8 (fun S a => wm_af ar i (ss i) a S) (fun S a => wm_af ar jj (ss jj) a S) G gi a).length)))).length) (((wm_ag8 (fun S a => wm_af ar i (ss i) a S) (fun S a => wm_af ar jj (ss jj) a S) G gi a).length) + 1) 4294967295 be ((wm_ag8 (fun S a => wm_af ar i (ss i) a S) (fun S a => wm_af ar jj (ss jj) a S) G gi a).length) (2 ^ ss jj) (wm_ag8 (fun S a => wm_af ar i (ss i) a S) (fun S a => wm_af ar jj (ss jj) a S) G gi (a + 1)) (va_up wb3 ((wm_ag8 (fun S a => wm_af ar i (ss i) a S) (fun S a => wm_af ar jj (ss jj) a S) G gi a).length) gi) (va_up wl3 ((wm_ag8 (fun S a => wm_af ar i (ss i) a S) (fun S a => wm_af ar jj (ss jj) a S) G gi a).length) a) (va_up ws3 ((wm_ag8 (fun S a => wm_af ar i (ss i) a S) (fun S a => wm_af ar jj (ss jj) a S) G gi a).length) (wm_af ar jj (ss jj) a ((G.getD gi wm_g0).2.1))) kp hlt0 hE0 hlt8 hE8 hlt9 hE9 hlt11 hE11 h2c hadv.1 hadv.2.2.2.1 hfd9.1) wq6_43 wq6_45 wqP4_1 wq1_8 wq6_46 (by decide) (by rw [hRe]; exact ⟨Nat.le_of_ble_eq_true rfl, Nat.le_of_ble_eq_true rfl⟩) rfl hl.1 rfl (Nat.le_of_ble_eq_true rfl) (Nat.zero_le _) (Nat.zero_le _) dX7_within_311 (fun E27 H locs hw hP hS => ?_)
                                  obtain ⟨kp127, hE0, hE11, hq, hp27_0⟩ := hw
                                  have hE1 := (hq 121 (by decide) (by decide)).trans hE1
                                  have hE2 := (hq 122 (by decide) (by decide)).trans hE2
                                  have hE3 := (hq 123 (by decide) (by decide)).trans hE3
                                  have hE4 := (hq 124 (by decide) (by decide)).trans hE4
                                  have hE5 := (hq 134 (by decide) (by decide)).trans hE5
                                  have hE6 := (hq 135 (by decide) (by decide)).trans hE6
                                  have hE7 := (hq 136 (by decide) (by decide)).trans hE7
                                  have hE8 := (hq 137 (by decide) (by decide)).trans hE8
                                  have hE9 := (hq 138 (by decide) (by decide)).trans hE9
                                  have hE10 := (hq 139 (by decide) (by decide)).trans hE10
                                  have hfr : ∀ j, j ≠ 119 → j ≠ 134 → j ≠ 135 → j ≠ 136 → j ≠ 137 → j ≠ 138 → j ≠ 139 → j ≠ 140 → E27 j = E j := fun j h0 h1 h2 h3 h4 h5 h6 h7 => (hq j h0 h7).trans (hfr j h0 h1 h2 h3 h4 h5 h6 h7)
                                  refine lv_iload X.1 X.2.1 dX7_within_314 (lv_at hl 1 rfl) ?_
                                  refine wm_if_ge (x := ((wm_ag8 (fun S a => wm_af ar i (ss i) a S) (fun S a => wm_af ar jj (ss jj) a S) G gi a).length)) (tgt := 323) X (by omega) dX7_within_316 (by decide) ?_
                                  refine lv_iconst (v := nI 0) X.1 X.2.1 dX7_within_323 (by decide) ?_
                                  exact wm_zret (v := false) (post := pmwithin1 C b E th sz fa pl ats aa op fi la wa wc kl be i jj ar ss sa se qs qw wb wl ws kp sn) X hr hP hS ⟨qs122, qw122, sn122, (va_up wb3 ((wm_ag8 (fun S a => wm_af ar i (ss i) a S) (fun S a => wm_af ar jj (ss jj) a S) G gi a).length) gi), (va_up wl3 ((wm_ag8 (fun S a => wm_af ar i (ss i) a S) (fun S a => wm_af ar jj (ss jj) a S) G gi a).length) a), (va_up ws3 ((wm_ag8 (fun S a => wm_af ar i (ss i) a S) (fun S a => wm_af ar jj (ss jj) a S) G gi a).length) (wm_af ar jj (ss jj) a ((G.getD gi wm_g0).2.1))), (((wm_ql (wm_ag8 (fun S a => wm_af ar i (ss i) a S) (fun S a => wm_af ar jj (ss jj) a S) G gi a) (wm_ag8 (fun S a => wm_af ar i (ss i) a S) (fun S a => wm_af ar jj (ss jj) a S) G gi a).length) ++ (wm_bk (ss i) (wm_new (wm_ag8 (fun S a => wm_af ar i (ss i) a S) (fun S a => wm_af ar jj (ss jj) a S) G gi a) (wm_af ar i (ss i) a ((G.getD gi wm_g0).1)) (wm_af ar jj (ss jj) a (G.getD gi wm_g0).2.1))).map (fun x9 => (x9, ((wm_ag8 (fun S a => wm_af ar i (ss i) a S) (fun S a => wm_af ar jj (ss jj) a S) G gi a).length)))).length), (((wm_ag8 (fun S a => wm_af ar i (ss i) a S) (fun S a => wm_af ar jj (ss jj) a S) G gi a).length) + 1), (wm_dp (wm_ag8 (fun S a => wm_af ar i (ss i) a S) (fun S a => wm_af ar jj (ss jj) a S) G gi (a + 1)) ((wm_ag8 (fun S a => wm_af ar i (ss i) a S) (fun S a => wm_af ar jj (ss jj) a S) G gi a).length)), kp127, (by rw [hfd.1]; rfl), hE0, hE5, hE6, hE7, hE8, hE9, hE10, hE11, hfr, (Or.inr ⟨_, hfd.1, hfd.2.1, hfd.2.2.1.symm, fun t9 h9 => by rw [hfd.2.2.1] at h9 ⊢; rw [hfd.2.2.2]; exact hp27_0 t9 h9⟩)⟩ hQ dX7_within_324
                                · refine lv_iload X.1 X.2.1 dX7_within_205 (lv_at hl 1 rfl) ?_
                                  refine wm_if_ge (x := ((wm_ag8 (fun S a => wm_af ar i (ss i) a S) (fun S a => wm_af ar jj (ss jj) a S) G gi a).length)) (tgt := 300) X (by omega) dX7_within_207 (by decide) ?_
                                  refine lv_goto (tgt := 128) X.1 X.2.1 dX7_within_300 (by decide) ?_
                                  refine lv_iload X.1 X.2.1 dX7_within_128 (lv_at hl 1 rfl) ?_
                                  refine wm_if_ge (x := ((wm_ag8 (fun S a => wm_af ar i (ss i) a S) (fun S a => wm_af ar jj (ss jj) a S) G gi a).length)) (tgt := 303) X (by omega) dX7_within_130 (by decide) ?_
                                  refine lv_iload X.1 X.2.1 dX7_within_303 (lv_at hl 1 rfl) ?_
                                  refine wm_if_lt (x := ((wm_ag8 (fun S a => wm_af ar i (ss i) a S) (fun S a => wm_af ar jj (ss jj) a S) G gi a).length)) (tgt := 314) X (by omega) dX7_within_305 (by decide) ?_
                                  refine lv_aload_n X.1 X.2.1 dX7_within_308 rfl (lv_at hl 6 rfl) ?_
                                  refine lv_iload X.1 X.2.1 dX7_within_309 (lv_at hl 1 rfl) ?_
                                  refine wm_callVv (k := 1) (As := [.int (nI ((wm_ag8 (fun S a => wm_af ar i (ss i) a S) (fun S a => wm_af ar jj (ss jj) a S) G gi a).length))]) (rest := []) X hP hS hlt0 hE0 rfl (kX7_keep l D C b n E22 0 sz fa pl ats aa op fi la (((wm_ql (wm_ag8 (fun S a => wm_af ar i (ss i) a S) (fun S a => wm_af ar jj (ss jj) a S) G gi a) (wm_ag8 (fun S a => wm_af ar i (ss i) a S) (fun S a => wm_af ar jj (ss jj) a S) G gi a).length) ++ (wm_bk (ss i) (wm_new (wm_ag8 (fun S a => wm_af ar i (ss i) a S) (fun S a => wm_af ar jj (ss jj) a S) G gi a) (wm_af ar i (ss i) a ((G.getD gi wm_g0).1)) (wm_af ar jj (ss jj) a (G.getD gi wm_g0).2.1))).map (fun x9 => (x9, ((wm_ag8 (fun S a => wm_af ar i (ss i) a S) (fun S a => wm_af ar jj (ss jj) a S) G gi a).length)))).length) (((wm_ag8 (fun S a => wm_af ar i (ss i) a S) (fun S a => wm_af ar jj (ss jj) a S) G gi a).length) + 1) 4294967295 be ((wm_ag8 (fun S a => wm_af ar i (ss i) a S) (fun S a => wm_af ar jj (ss jj) a S) G gi a).length) (2 ^ ss jj) (wm_ag8 (fun S a => wm_af ar i (ss i) a S) (fun S a => wm_af ar jj (ss jj) a S) G gi (a + 1)) (va_up wb3 ((wm_ag8 (fun S a => wm_af ar i (ss i) a S) (fun S a => wm_af ar jj (ss jj) a S) G gi a).length) gi) (va_up wl3 ((wm_ag8 (fun S a => wm_af ar i (ss i) a S) (fun S a => wm_af ar jj (ss jj) a S) G gi a).length) a) (va_up ws3 ((wm_ag8 (fun S a => wm_af ar i (ss i) a S) (fun S a => wm_af ar jj (ss jj) a S) G gi a).length) (wm_af ar jj (ss jj) a ((G.getD gi wm_g0).2.1))) kp hlt0 hE0 hlt8 hE8 hlt9 hE9 hlt11 hE11 h2c hadv.1 hadv.2.2.2.1 hfd9.1) wq6_43 wq6_45 wqP4_1 wq1_8 wq6_46 (by decide) (by rw [hRe]; exact ⟨Nat.le_of_ble_eq_true rfl, Nat.le_of_ble_eq_true rfl⟩) rfl hl.1 rfl (Nat.le_of_ble_eq_true rfl) (Nat.zero_le _) (Nat.zero_le _) dX7_within_311 (fun E28 H locs hw hP hS => ?_)
                                  obtain ⟨kp128, hE0, hE11, hq, hp28_0⟩ := hw
                                  have hE1 := (hq 121 (by decide) (by decide)).trans hE1
                                  have hE2 := (hq 122 (by decide) (by decide)).trans hE2
                                  have hE3 := (hq 123 (by decide) (by decide)).trans hE3
                                  have hE4 := (hq 124 (by decide) (by decide)).trans hE4
                                  have hE5 := (hq 134 (by decide) (by decide)).trans hE5
                                  have hE6 := (hq 135 (by decide) (by decide)).trans hE6
                                  have hE7 := (hq 136 (by decide) (by decide)).trans hE7
                                  have hE8 := (hq 137 (by decide) (by decide)).trans hE8
                                  have hE9 := (hq 138 (by decide) (by decide)).trans hE9
                                  have hE10 := (hq 139 (by decide) (by decide)).trans hE10
                                  have hfr : ∀ j, j ≠ 119 → j ≠ 134 → j ≠ 135 → j ≠ 136 → j ≠ 137 → j ≠ 138 → j ≠ 139 → j ≠ 140 → E28 j = E j := fun j h0 h1 h2 h3 h4 h5 h6 h7 => (hq j h0 h7).trans (hfr j h0 h1 h2 h3 h4 h5 h6 h7)
                                  refine lv_iload X.1 X.2.1 dX7_within_314 (lv_at hl 1 rfl) ?_
                                  refine wm_if_ge (x := ((wm_ag8 (fun S a => wm_af ar i (ss i) a S) (fun S a => wm_af ar jj (ss jj) a S) G gi a).length)) (tgt := 323) X (by omega) dX7_within_316 (by decide) ?_
                                  refine lv_iconst (v := nI 0) X.1 X.2.1 dX7_within_323 (by decide) ?_
                                  exact wm_zret (v := false) (post := pmwithin1 C b E th sz fa pl ats aa op fi la wa wc kl be i jj ar ss sa se qs qw wb wl ws kp sn) X hr hP hS ⟨qs122, qw122, sn122, (va_up wb3 ((wm_ag8 (fun S a => wm_af ar i (ss i) a S) (fun S a => wm_af ar jj (ss jj) a S) G gi a).length) gi), (va_up wl3 ((wm_ag8 (fun S a => wm_af ar i (ss i) a S) (fun S a => wm_af ar jj (ss jj) a S) G gi a).length) a), (va_up ws3 ((wm_ag8 (fun S a => wm_af ar i (ss i) a S) (fun S a => wm_af ar jj (ss jj) a S) G gi a).length) (wm_af ar jj (ss jj) a ((G.getD gi wm_g0).2.1))), (((wm_ql (wm_ag8 (fun S a => wm_af ar i (ss i) a S) (fun S a => wm_af ar jj (ss jj) a S) G gi a) (wm_ag8 (fun S a => wm_af ar i (ss i) a S) (fun S a => wm_af ar jj (ss jj) a S) G gi a).length) ++ (wm_bk (ss i) (wm_new (wm_ag8 (fun S a => wm_af ar i (ss i) a S) (fun S a => wm_af ar jj (ss jj) a S) G gi a) (wm_af ar i (ss i) a ((G.getD gi wm_g0).1)) (wm_af ar jj (ss jj) a (G.getD gi wm_g0).2.1))).map (fun x9 => (x9, ((wm_ag8 (fun S a => wm_af ar i (ss i) a S) (fun S a => wm_af ar jj (ss jj) a S) G gi a).length)))).length), (((wm_ag8 (fun S a => wm_af ar i (ss i) a S) (fun S a => wm_af ar jj (ss jj) a S) G gi a).length) + 1), (wm_dp (wm_ag8 (fun S a => wm_af ar i (ss i) a S) (fun S a => wm_af ar jj (ss jj) a S) G gi (a + 1)) ((wm_ag8 (fun S a => wm_af ar i (ss i) a S) (fun S a => wm_af ar jj (ss jj) a S) G gi a).length)), kp128, (by rw [hfd.1]; rfl), hE0, hE5, hE6, hE7, hE8, hE9, hE10, hE11, hfr, (Or.inr ⟨_, hfd.1, hfd.2.1, hfd.2.2.1.symm, fun t9 h9 => by rw [hfd.2.2.1] at h9 ⊢; rw [hfd.2.2.2]; exact hp28_0 t9 h9⟩)⟩ hQ dX7_within_324
                        exact L198 (8 - 0 + 1) 0 qs2 qw2 sn2 wb2 wl2 ws2 (Nat.lt_succ_self _) (by omega) hgg hnb hqr hsn hwr E15 _ _ _ hP hS hE0 hE1 hE2 hE3 hE4 hE5 hE6 hE7 hE8 hE9 hE10 hE11 hfr (lv_sub hl [1, 2, 3, 4, 5, 6, 7, 0] rfl)
                      · refine lv_aload_n X.1 X.2.1 dX7_within_163 rfl (lv_at hl 0 rfl) ?_
                        refine wm_get X hP hlt0 hE0 rfl wm_inX7 25 (by decide) wq5_47 rfl dX7_within_164 ?_
                        refine lv_iload X.1 X.2.1 dX7_within_167 (lv_at hl 3 rfl) ?_
                        refine wm_iald (i := ((wm_ql G gi).length + r9)) X hP hlt6 hE6 (by omega) (by decide) dX7_within_169 ?_
                        refine lv_iload X.1 X.2.1 dX7_within_170 (lv_at hl 5 rfl) ?_
                        refine wm_icmp_ne (x := (qw2 ((wm_ql G gi).length + r9))) (y := gi) (tgt := 195) X (by rw [(hqr _ hc160).2]; have h9 := (wm_ql_mem (wm_gdm (d := (0, 0)) hc160)).1; omega) (by omega) dX7_within_172 (by decide) (fun hc172 => ?_) (fun hc172 => ?_)
                        · have hrB : r9 = (wm_bk 24 (G.getD gi wm_g0).1).length := by
                            rcases Nat.lt_or_ge r9 (wm_bk 24 (G.getD gi wm_g0).1).length with q | q
                            · exact absurd (((hqr _ hc160).2).trans (by rw [(hat q).2])) hc172
                            · omega
                          have hall : wm_ob ((wm_bk 24 (G.getD gi wm_g0).1).take r9) = (G.getD gi wm_g0).1 := by rw [hrB, List.take_length, wm_ob_all (hgg.1 gi hgl).1.1]
                          have hql1 : (wm_ql G gi).length + r9 = (wm_ql G (gi + 1)).length := by rw [hrB, wm_ql_len]
                          rw [hall, hql1] at hl
                          rw [hwc (by omega)] at hE0
                          refine lv_iconst (v := nI 0) X.1 X.2.1 dX7_within_195 (by decide) ?_
                          refine lv_istore (lv' := [(9, .int (nI 0)), (0, .ref (b + 119)), (1, .int (nI i)), (2, .int (nI jj)), (5, .int (nI ((wm_ql G (gi + 1)).length))), (6, .int (nI 4294967295)), (7, .int (nI gi)), (8, .int (nI ((G.getD gi wm_g0).1)))]) X.1 X.2.1 dX7_within_196 hl (by decide) rfl (fun ls hl => ?_)
                          have L198 : ∀ (fu : Nat) (a : Nat) (qs3 : Nat → Nat) (qw3 : Nat → Nat) (sn3 : Nat → Bool) (wb3 : Nat → Nat) (wl3 : Nat → Nat) (ws3 : Nat → Nat), 8 - a < fu → (a ≤ 8) → (wm_gg (2 ^ ss jj) (wm_ag8 (fun S a => wm_af ar i (ss i) a S) (fun S a => wm_af ar jj (ss jj) a S) G gi a)) → (wm_nb (se i) (se jj) (wm_ag8 (fun S a => wm_af ar i (ss i) a S) (fun S a => wm_af ar jj (ss jj) a S) G gi a) (wm_ag8 (fun S a => wm_af ar i (ss i) a S) (fun S a => wm_af ar jj (ss jj) a S) G gi a).length) → (wm_qr (wm_ql (wm_ag8 (fun S a => wm_af ar i (ss i) a S) (fun S a => wm_af ar jj (ss jj) a S) G gi a) (wm_ag8 (fun S a => wm_af ar i (ss i) a S) (fun S a => wm_af ar jj (ss jj) a S) G gi a).length) qs3 qw3) → (wm_sn (wm_ag8 (fun S a => wm_af ar i (ss i) a S) (fun S a => wm_af ar jj (ss jj) a S) G gi a) sn3) → (wm_wr (wm_ag8 (fun S a => wm_af ar i (ss i) a S) (fun S a => wm_af ar jj (ss jj) a S) G gi a) wb3 wl3 ws3) → ∀ (E30 : Nat → va_E) (H : Heap) (locs : List Loc) (ls : Array Slot), wm_P D b n E30 H → wm_S b s.heap H locs → E30 119 = .inr (7, [.int (nI 0), .ref (b + 120), .int (nI sz), .int (nI fa), .int (nI pl), .ref (b + 121), .ref (b + 122), .ref (b + 123), .ref (b + 124), .ref (b + 125), .ref (b + 126), .ref (b + 127), .int (nI ats), .int (nI aa), .ref (b + 128), .ref (b + 129), .ref (b + 130), .ref (b + 131), .ref (b + 132), .ref (b + 133), .int (nI op), .int (nI be.toNat), .int (nI fi), .int (nI la), .ref (b + 134), .ref (b + 135), .ref (b + 136), .int (nI ((wm_ql (wm_ag8 (fun S a => wm_af ar i (ss i) a S) (fun S a => wm_af ar jj (ss jj) a S) G gi a) (wm_ag8 (fun S a => wm_af ar i (ss i) a S) (fun S a => wm_af ar jj (ss jj) a S) G gi a).length).length)), .ref (b + 137), .ref (b + 138), .ref (b + 139), .int (nI ((wm_ag8 (fun S a => wm_af ar i (ss i) a S) (fun S a => wm_af ar jj (ss jj) a S) G gi a).length)), .ref (b + 140), .int (nI 4294967295), .ref (b + 141), .ref (b + 142), .ref (b + 143), .ref (b + 144), .ref (b + 145)]) → E30 121 = wm_I C 1536 ar → E30 122 = wm_I C 8 ss → E30 123 = wm_I C 8 sa → E30 124 = wm_I C 8 se → E30 134 = wm_I C 49152 qs3 → E30 135 = wm_I C 49152 qw3 → E30 136 = wm_Z C 49152 sn3 → E30 137 = wm_I C 49153 wb3 → E30 138 = wm_I C 49153 wl3 → E30 139 = wm_I C 49153 ws3 → E30 140 = wm_I C 49153 kp → (∀ j, j ≠ 119 → j ≠ 134 → j ≠ 135 → j ≠ 136 → j ≠ 137 → j ≠ 138 → j ≠ 139 → j ≠ 140 → E30 j = E j) → lv_has ls 14 [(0, .ref (b + 119)), (1, .int (nI i)), (2, .int (nI jj)), (5, .int (nI ((wm_ql G (gi + 1)).length))), (6, .int (nI 4294967295)), (7, .int (nI gi)), (8, .int (nI ((G.getD gi wm_g0).1))), (9, .int (nI a))] → W p l e R s m args below meth c H locs 0 0 Q (F0 m 198 ls []) := by
                            intro fu
                            induction fu with
                            | zero => intro a qs3 qw3 sn3 wb3 wl3 ws3 hm; exact absurd hm (Nat.not_lt_zero _)
                            | succ fu ih198 =>
                              intro a qs3 qw3 sn3 wb3 wl3 ws3 hm ha hgg3 hnb3 hqr3 hsn3 hwr3 E30 H locs ls hP hS hE0 hE1 hE2 hE3 hE4 hE5 hE6 hE7 hE8 hE9 hE10 hE11 hfr hl
                              have hlen3 := wm_gg_len hgg3 h2c
                              have hcap3 := wm_ql_cap hgg3 h2c
                              have hpre := wm_ag8_pre (fun S a => wm_af ar i (ss i) a S) (fun S a => wm_af ar jj (ss jj) a S) G gi a
                              have hgi3 := hpre.2 gi hgl
                              have hgok := hgg.1 gi hgl
                              refine lv_iload X.1 X.2.1 dX7_within_198 (lv_at hl 7 rfl) ?_
                              refine lv_bipush (v := nI 8) X.1 X.2.1 dX7_within_200 (by decide) ?_
                              refine wm_icmp_ge (x := a) (y := 8) (tgt := 300) X (by omega) (by decide) dX7_within_202 (by decide) (fun hc202 => ?_) (fun hc202 => ?_)
                              · refine lv_goto (tgt := 128) X.1 X.2.1 dX7_within_300 (by decide) ?_
                                have ha8 : a = 8 := by omega
                                have hq5 : (wm_ql G (gi + 1)).length = (wm_ql (wm_ag8 (fun S a => wm_af ar i (ss i) a S) (fun S a => wm_af ar jj (ss jj) a S) G gi a) (gi + 1)).length := by rw [wm_ql_cg (gi + 1) (fun j hj => hpre.2 j (by omega))]
                                rw [hq5] at hl
                                exact ih128 (gi + 1) ((wm_ag8 (fun S a => wm_af ar i (ss i) a S) (fun S a => wm_af ar jj (ss jj) a S) G gi a).length) (wm_ag8 (fun S a => wm_af ar i (ss i) a S) (fun S a => wm_af ar jj (ss jj) a S) G gi a) qs3 qw3 sn3 wb3 wl3 ws3 (by omega) (fun _ => rfl) (by have := hpre.1; omega) hgg3 hnb3 hqr3 hsn3 hwr3 (by rw [ha8, ← hrun, show 49153 - gi = 49153 - (gi + 1) + 1 by omega]; exact (wm_hunt_s hgl (hnb gi hgl)).symm) E30 _ _ _ hP hS hE0 hE1 hE2 hE3 hE4 hE5 hE6 hE7 hE8 hE9 hE10 hE11 hfr (lv_sub hl [0, 1, 2, 3, 4] rfl)
                              · refine lv_iload X.1 X.2.1 dX7_within_205 (lv_at hl 4 rfl) ?_
                                refine lv_if_ge (tgt := 300) X.1 X.2.1 dX7_within_207 (by decide) (fun h => by exfalso; revert h; decide) (fun _ => ?_)
                                refine lv_aload_n X.1 X.2.1 dX7_within_210 rfl (lv_at hl 0 rfl) ?_
                                refine lv_iload_n X.1 X.2.1 dX7_within_211 rfl (lv_at hl 1 rfl) ?_
                                refine lv_iload X.1 X.2.1 dX7_within_212 (lv_at hl 6 rfl) ?_
                                refine lv_iload X.1 X.2.1 dX7_within_214 (lv_at hl 7 rfl) ?_
                                refine wm_callVi (k := 3) (As := [.int (nI i), .int (nI ((G.getD gi wm_g0).1)), .int (nI a)]) (rest := []) X hP hS hlt0 hE0 rfl (kX7_after l D C b n E30 0 sz fa pl ats aa op fi la ((wm_ql (wm_ag8 (fun S a => wm_af ar i (ss i) a S) (fun S a => wm_af ar jj (ss jj) a S) G gi a) (wm_ag8 (fun S a => wm_af ar i (ss i) a S) (fun S a => wm_af ar jj (ss jj) a S) G gi a).length).length) ((wm_ag8 (fun S a => wm_af ar i (ss i) a S) (fun S a => wm_af ar jj (ss jj) a S) G gi a).length) 4294967295 be i ((G.getD gi wm_g0).1) a ar ss hlt0 hE0 hlt1 hE1 hlt2 hE2 (by omega) hsi (by have := hgok.1.1; omega) hc202) wq6_27 wq6_29 wqP3_14 wq1_8 wq6_30 (by decide) (by rw [hRe]; exact ⟨Nat.le_of_ble_eq_true rfl, Nat.le_of_ble_eq_true rfl⟩) rfl hl.1 rfl (Nat.le_of_ble_eq_true rfl) (Nat.zero_le _) (Nat.zero_le _) dX7_within_216 (fun r32 E32 H locs hw hP hS => ?_)
                                obtain ⟨hrt, hEe⟩ := hw
                                subst hrt
                                subst hEe
                                have hto : (wm_af ar i (ss i) a (G.getD gi wm_g0).1) < 2 ^ ss i := wm_af_lt (fun x hx => hgi a x hc202 hx)
                                refine lv_istore (lv' := [(10, .int (nI (wm_af ar i (ss i) a ((G.getD gi wm_g0).1)))), (0, .ref (b + 119)), (1, .int (nI i)), (2, .int (nI jj)), (5, .int (nI ((wm_ql G (gi + 1)).length))), (6, .int (nI 4294967295)), (7, .int (nI gi)), (8, .int (nI ((G.getD gi wm_g0).1))), (9, .int (nI a))]) X.1 X.2.1 dX7_within_219 hl (by decide) rfl (fun ls hl => ?_)
                                refine lv_aload_n X.1 X.2.1 dX7_within_221 rfl (lv_at hl 1 rfl) ?_
                                refine lv_iload_n X.1 X.2.1 dX7_within_222 rfl (lv_at hl 3 rfl) ?_
                                refine lv_aload_n X.1 X.2.1 dX7_within_223 rfl (lv_at hl 1 rfl) ?_
                                refine wm_get X hP hlt0 hE0 rfl wm_inX7 30 (by decide) wq5_52 rfl dX7_within_224 ?_
                                refine lv_iload X.1 X.2.1 dX7_within_227 (lv_at hl 6 rfl) ?_
                                refine wm_iald (i := gi) X hP hlt10 hE10 (by omega) (by decide) dX7_within_229 ?_
                                rw [show ws3 gi = (G.getD gi wm_g0).2.1 from ((hwr3 gi (by have := hpre.1; omega)).2.2).trans (by rw [hgi3])]
                                refine lv_iload X.1 X.2.1 dX7_within_230 (lv_at hl 8 rfl) ?_
                                refine wm_callVi (k := 3) (As := [.int (nI jj), .int (nI ((G.getD gi wm_g0).2.1)), .int (nI a)]) (rest := []) X hP hS hlt0 hE0 rfl (kX7_after l D C b n E30 0 sz fa pl ats aa op fi la ((wm_ql (wm_ag8 (fun S a => wm_af ar i (ss i) a S) (fun S a => wm_af ar jj (ss jj) a S) G gi a) (wm_ag8 (fun S a => wm_af ar i (ss i) a S) (fun S a => wm_af ar jj (ss jj) a S) G gi a).length).length) ((wm_ag8 (fun S a => wm_af ar i (ss i) a S) (fun S a => wm_af ar jj (ss jj) a S) G gi a).length) 4294967295 be jj ((G.getD gi wm_g0).2.1) a ar ss hlt0 hE0 hlt1 hE1 hlt2 hE2 (by omega) (by omega) (by have := hgok.2.2.1; omega) hc202) wq6_27 wq6_29 wqP3_14 wq1_8 wq6_30 (by decide) (by rw [hRe]; exact ⟨Nat.le_of_ble_eq_true rfl, Nat.le_of_ble_eq_true rfl⟩) rfl hl.1 rfl (Nat.le_of_ble_eq_true rfl) (Nat.zero_le _) (Nat.zero_le _) dX7_within_232 (fun r33 E33 H locs hw hP hS => ?_)
                                obtain ⟨hrt, hEe⟩ := hw
                                subst hrt
                                subst hEe
                                have hst9 : (wm_af ar jj (ss jj) a (G.getD gi wm_g0).2.1) < 2 ^ ss jj := wm_af_lt (fun x hx => hgj a x hc202 hx)
                                refine lv_istore (lv' := [(11, .int (nI (wm_af ar jj (ss jj) a ((G.getD gi wm_g0).2.1)))), (10, .int (nI (wm_af ar i (ss i) a ((G.getD gi wm_g0).1)))), (0, .ref (b + 119)), (1, .int (nI i)), (2, .int (nI jj)), (5, .int (nI ((wm_ql G (gi + 1)).length))), (6, .int (nI 4294967295)), (7, .int (nI gi)), (8, .int (nI ((G.getD gi wm_g0).1))), (9, .int (nI a))]) X.1 X.2.1 dX7_within_235 hl (by decide) rfl (fun ls hl => ?_)
                                refine lv_aload_n X.1 X.2.1 dX7_within_237 rfl (lv_at hl 2 rfl) ?_
                                refine wm_get X hP hlt0 hE0 rfl wm_inX7 27 (by decide) wq5_49 rfl dX7_within_238 ?_
                                refine lv_istore (lv' := [(12, .int (nI ((wm_ql (wm_ag8 (fun S a => wm_af ar i (ss i) a S) (fun S a => wm_af ar jj (ss jj) a S) G gi a) (wm_ag8 (fun S a => wm_af ar i (ss i) a S) (fun S a => wm_af ar jj (ss jj) a S) G gi a).length).length))), (11, .int (nI (wm_af ar jj (ss jj) a ((G.getD gi wm_g0).2.1)))), (10, .int (nI (wm_af ar i (ss i) a ((G.getD gi wm_g0).1)))), (0, .ref (b + 119)), (1, .int (nI i)), (2, .int (nI jj)), (5, .int (nI ((wm_ql G (gi + 1)).length))), (6, .int (nI 4294967295)), (7, .int (nI gi)), (8, .int (nI ((G.getD gi wm_g0).1))), (9, .int (nI a))]) X.1 X.2.1 dX7_within_241 hl (by decide) rfl (fun ls hl => ?_)
                                refine lv_aload_n X.1 X.2.1 dX7_within_243 rfl (lv_at hl 3 rfl) ?_
                                refine lv_iload X.1 X.2.1 dX7_within_244 (lv_at hl 8 rfl) ?_
                                refine lv_iload X.1 X.2.1 dX7_within_246 (lv_at hl 10 rfl) ?_
                                refine lv_iload X.1 X.2.1 dX7_within_248 (lv_at hl 1 rfl) ?_
                                refine wm_callVi (k := 3) (As := [.int (nI gi), .int (nI a), .int (nI (wm_af ar jj (ss jj) a ((G.getD gi wm_g0).2.1)))]) (rest := []) X hP hS hlt0 hE0 rfl (kX7_word l D C b n E30 0 sz fa pl ats aa op fi la ((wm_ql (wm_ag8 (fun S a => wm_af ar i (ss i) a S) (fun S a => wm_af ar jj (ss jj) a S) G gi a) (wm_ag8 (fun S a => wm_af ar i (ss i) a S) (fun S a => wm_af ar jj (ss jj) a S) G gi a).length).length) ((wm_ag8 (fun S a => wm_af ar i (ss i) a S) (fun S a => wm_af ar jj (ss jj) a S) G gi a).length) 4294967295 be gi a (wm_af ar jj (ss jj) a ((G.getD gi wm_g0).2.1)) wb3 wl3 ws3 hlt0 hE0 hlt8 hE8 hlt9 hE9 hlt10 hE10 (by omega)) wq6_35 wq6_37 wqP3_15 wq1_8 wq6_38 (by decide) (by rw [hRe]; exact ⟨Nat.le_of_ble_eq_true rfl, Nat.le_of_ble_eq_true rfl⟩) rfl hl.1 rfl (Nat.le_of_ble_eq_true rfl) (Nat.zero_le _) (Nat.zero_le _) dX7_within_250 (fun r34 E34 H locs hw hP hS => ?_)
                                obtain ⟨hrt, hE0, hE8, hE9, hE10, hq⟩ := hw
                                subst hrt
                                have hE1 := (hq 121 (by decide) (by decide) (by decide) (by decide)).trans hE1
                                have hE2 := (hq 122 (by decide) (by decide) (by decide) (by decide)).trans hE2
                                have hE3 := (hq 123 (by decide) (by decide) (by decide) (by decide)).trans hE3
                                have hE4 := (hq 124 (by decide) (by decide) (by decide) (by decide)).trans hE4
                                have hE5 := (hq 134 (by decide) (by decide) (by decide) (by decide)).trans hE5
                                have hE6 := (hq 135 (by decide) (by decide) (by decide) (by decide)).trans hE6
                                have hE7 := (hq 136 (by decide) (by decide) (by decide) (by decide)).trans hE7
                                have hE11 := (hq 140 (by decide) (by decide) (by decide) (by decide)).trans hE11
                                have hfr : ∀ j, j ≠ 119 → j ≠ 134 → j ≠ 135 → j ≠ 136 → j ≠ 137 → j ≠ 138 → j ≠ 139 → j ≠ 140 → E34 j = E j := fun j h0 h1 h2 h3 h4 h5 h6 h7 => (hq j h0 h4 h5 h6).trans (hfr j h0 h1 h2 h3 h4 h5 h6 h7)
                                refine lv_istore (lv' := [(13, .int (nI ((wm_ag8 (fun S a => wm_af ar i (ss i) a S) (fun S a => wm_af ar jj (ss jj) a S) G gi a).length))), (12, .int (nI ((wm_ql (wm_ag8 (fun S a => wm_af ar i (ss i) a S) (fun S a => wm_af ar jj (ss jj) a S) G gi a) (wm_ag8 (fun S a => wm_af ar i (ss i) a S) (fun S a => wm_af ar jj (ss jj) a S) G gi a).length).length))), (11, .int (nI (wm_af ar jj (ss jj) a ((G.getD gi wm_g0).2.1)))), (10, .int (nI (wm_af ar i (ss i) a ((G.getD gi wm_g0).1)))), (0, .ref (b + 119)), (1, .int (nI i)), (2, .int (nI jj)), (5, .int (nI ((wm_ql G (gi + 1)).length))), (6, .int (nI 4294967295)), (7, .int (nI gi)), (8, .int (nI ((G.getD gi wm_g0).1))), (9, .int (nI a))]) X.1 X.2.1 dX7_within_253 hl (by decide) rfl (fun ls hl => ?_)
                                refine lv_aload_n X.1 X.2.1 dX7_within_255 rfl (lv_at hl 4 rfl) ?_
                                refine lv_iload_n X.1 X.2.1 dX7_within_256 rfl (lv_at hl 5 rfl) ?_
                                refine lv_iload_n X.1 X.2.1 dX7_within_257 rfl (lv_at hl 6 rfl) ?_
                                refine lv_iload X.1 X.2.1 dX7_within_258 (lv_at hl 3 rfl) ?_
                                refine lv_iload X.1 X.2.1 dX7_within_260 (lv_at hl 0 rfl) ?_
                                refine wm_callVi (k := 4) (As := [.int (nI i), .int (nI jj), .int (nI (wm_af ar i (ss i) a ((G.getD gi wm_g0).1))), .int (nI ((wm_ag8 (fun S a => wm_af ar i (ss i) a S) (fun S a => wm_af ar jj (ss jj) a S) G gi a).length))]) (rest := []) X hP hS hlt0 hE0 rfl (kX7_comes l D C b n E34 0 sz fa pl ats aa op fi la ((wm_ql (wm_ag8 (fun S a => wm_af ar i (ss i) a S) (fun S a => wm_af ar jj (ss jj) a S) G gi a) (wm_ag8 (fun S a => wm_af ar i (ss i) a S) (fun S a => wm_af ar jj (ss jj) a S) G gi a).length).length) (((wm_ag8 (fun S a => wm_af ar i (ss i) a S) (fun S a => wm_af ar jj (ss jj) a S) G gi a).length) + 1) 4294967295 be i jj (wm_af ar i (ss i) a ((G.getD gi wm_g0).1)) ((wm_ag8 (fun S a => wm_af ar i (ss i) a S) (fun S a => wm_af ar jj (ss jj) a S) G gi a).length) (wm_af ar jj (ss jj) a (G.getD gi wm_g0).2.1) (wm_ag8 (fun S a => wm_af ar i (ss i) a S) (fun S a => wm_af ar jj (ss jj) a S) G gi a) (wm_ql (wm_ag8 (fun S a => wm_af ar i (ss i) a S) (fun S a => wm_af ar jj (ss jj) a S) G gi a) (wm_ag8 (fun S a => wm_af ar i (ss i) a S) (fun S a => wm_af ar jj (ss jj) a S) G gi a).length) qs3 qw3 (va_up ws3 ((wm_ag8 (fun S a => wm_af ar i (ss i) a S) (fun S a => wm_af ar jj (ss jj) a S) G gi a).length) (wm_af ar jj (ss jj) a ((G.getD gi wm_g0).2.1))) ss se sn3 hlt0 hE0 hlt2 hE2 hlt4 hE4 hlt5 hE5 hlt6 hE6 hlt7 hE7 hlt10 hE10 (by omega) (by omega) (by omega) (by omega) (by omega) (va_up_self _ _ _) (by omega) hqr3 hsn3 (by omega) (by omega) (wm_capq (a := a) (bf := gi) hgg3 h2c hsi hto hst9 hc202 (Or.inl (by have := hpre.1; omega))) rfl) wq6_39 wq6_41 wqP4_0 wq1_8 wq6_42 (by decide) (by rw [hRe]; exact ⟨Nat.le_of_ble_eq_true rfl, Nat.le_of_ble_eq_true rfl⟩) rfl hl.1 rfl (Nat.le_of_ble_eq_true rfl) (Nat.zero_le _) (Nat.zero_le _) dX7_within_262 (fun r35 E35 H locs hw hP hS => ?_)
                                obtain ⟨qs135, qw135, sn135, hrt, hE0, hE5, hE6, hE7, hq, hp35_0, hp35_1⟩ := hw
                                subst hrt
                                have hE1 := (hq 121 (by decide) (by decide) (by decide) (by decide)).trans hE1
                                have hE2 := (hq 122 (by decide) (by decide) (by decide) (by decide)).trans hE2
                                have hE3 := (hq 123 (by decide) (by decide) (by decide) (by decide)).trans hE3
                                have hE4 := (hq 124 (by decide) (by decide) (by decide) (by decide)).trans hE4
                                have hE8 := (hq 137 (by decide) (by decide) (by decide) (by decide)).trans hE8
                                have hE9 := (hq 138 (by decide) (by decide) (by decide) (by decide)).trans hE9
                                have hE10 := (hq 139 (by decide) (by decide) (by decide) (by decide)).trans hE10
                                have hE11 := (hq 140 (by decide) (by decide) (by decide) (by decide)).trans hE11
                                have hfr : ∀ j, j ≠ 119 → j ≠ 134 → j ≠ 135 → j ≠ 136 → j ≠ 137 → j ≠ 138 → j ≠ 139 → j ≠ 140 → E35 j = E j := fun j h0 h1 h2 h3 h4 h5 h6 h7 => (hq j h0 h1 h2 h3).trans (hfr j h0 h1 h2 h3 h4 h5 h6 h7)
                                have hcpx := wm_capq (a := a) (bf := gi) (G := (wm_ag8 (fun S a => wm_af ar i (ss i) a S) (fun S a => wm_af ar jj (ss jj) a S) G gi a)) hgg3 h2c hsi hto hst9 hc202 (Or.inl (by have := hpre.1; omega))
                                have hadv := wm_adv (a := a) (bf := gi) (b9 := gi) (G := (wm_ag8 (fun S a => wm_af ar i (ss i) a S) (fun S a => wm_af ar jj (ss jj) a S) G gi a)) (wb := wb3) (wl := wl3) (ws := ws3) hgg3 h2c hsi hto hst9 hc202 (Or.inl (by have := hpre.1; omega)) hp35_0 hp35_1 hwr3 (fun _ => rfl)
                                refine wm_ifz_eq (x := (decide ((wm_af ar i (ss i) a ((G.getD gi wm_g0).1)) &&& se i ≠ 0 ∧ (wm_af ar jj (ss jj) a (G.getD gi wm_g0).2.1) &&& se jj = 0))) (tgt := 275) X dX7_within_265 (by decide) (fun hc265 => ?_) (fun hc265 => ?_)
                                · refine lv_aload_n X.1 X.2.1 dX7_within_275 rfl (lv_at hl 4 rfl) ?_
                                  refine wm_get X hP hlt0 hE0 rfl wm_inX7 27 (by decide) wq5_49 rfl dX7_within_276 ?_
                                  refine lv_iload X.1 X.2.1 dX7_within_279 (lv_at hl 1 rfl) ?_
                                  refine wm_icmp_ne (x := (((wm_ql (wm_ag8 (fun S a => wm_af ar i (ss i) a S) (fun S a => wm_af ar jj (ss jj) a S) G gi a) (wm_ag8 (fun S a => wm_af ar i (ss i) a S) (fun S a => wm_af ar jj (ss jj) a S) G gi a).length) ++ (wm_bk (ss i) (wm_new (wm_ag8 (fun S a => wm_af ar i (ss i) a S) (fun S a => wm_af ar jj (ss jj) a S) G gi a) (wm_af ar i (ss i) a ((G.getD gi wm_g0).1)) (wm_af ar jj (ss jj) a (G.getD gi wm_g0).2.1))).map (fun x9 => (x9, ((wm_ag8 (fun S a => wm_af ar i (ss i) a S) (fun S a => wm_af ar jj (ss jj) a S) G gi a).length)))).length)) (y := ((wm_ql (wm_ag8 (fun S a => wm_af ar i (ss i) a S) (fun S a => wm_af ar jj (ss jj) a S) G gi a) (wm_ag8 (fun S a => wm_af ar i (ss i) a S) (fun S a => wm_af ar jj (ss jj) a S) G gi a).length).length)) (tgt := 294) X (by omega) (by omega) dX7_within_281 (by decide) (fun hc281 => ?_) (fun hc281 => ?_)
                                  · refine lv_iinc (v := nI (a + 1)) (lv' := [(9, .int (nI (a + 1))), (13, .int (nI ((wm_ag8 (fun S a => wm_af ar i (ss i) a S) (fun S a => wm_af ar jj (ss jj) a S) G gi a).length))), (12, .int (nI ((wm_ql (wm_ag8 (fun S a => wm_af ar i (ss i) a S) (fun S a => wm_af ar jj (ss jj) a S) G gi a) (wm_ag8 (fun S a => wm_af ar i (ss i) a S) (fun S a => wm_af ar jj (ss jj) a S) G gi a).length).length))), (11, .int (nI (wm_af ar jj (ss jj) a ((G.getD gi wm_g0).2.1)))), (10, .int (nI (wm_af ar i (ss i) a ((G.getD gi wm_g0).1)))), (0, .ref (b + 119)), (1, .int (nI i)), (2, .int (nI jj)), (5, .int (nI ((wm_ql G (gi + 1)).length))), (6, .int (nI 4294967295)), (7, .int (nI gi)), (8, .int (nI ((G.getD gi wm_g0).1)))]) X.1 X.2.1 dX7_within_294 hl (k := 11) rfl (wm_inc a) (by decide) rfl (fun ls hl => ?_)
                                    refine lv_goto (tgt := 198) X.1 X.2.1 dX7_within_297 (by decide) ?_
                                    rw [hadv.2.2.2.2] at hE0
                                    rw [wm_agn (a := a) (bf := gi) hsi hto hc281] at hE0
                                    have hnb4 : wm_nb (se i) (se jj) (wm_ag8 (fun S a => wm_af ar i (ss i) a S) (fun S a => wm_af ar jj (ss jj) a S) G gi (a + 1)) (wm_ag8 (fun S a => wm_af ar i (ss i) a S) (fun S a => wm_af ar jj (ss jj) a S) G gi (a + 1)).length := wm_nb_ag hnb3 (of_decide_eq_false hc265)
                                    exact ih198 (a + 1) qs135 qw135 sn135 (va_up wb3 ((wm_ag8 (fun S a => wm_af ar i (ss i) a S) (fun S a => wm_af ar jj (ss jj) a S) G gi a).length) gi) (va_up wl3 ((wm_ag8 (fun S a => wm_af ar i (ss i) a S) (fun S a => wm_af ar jj (ss jj) a S) G gi a).length) a) (va_up ws3 ((wm_ag8 (fun S a => wm_af ar i (ss i) a S) (fun S a => wm_af ar jj (ss jj) a S) G gi a).length) (wm_af ar jj (ss jj) a ((G.getD gi wm_g0).2.1))) (by omega) (by omega) hadv.1 hnb4 hadv.2.1 hadv.2.2.1 hadv.2.2.2.1 E35 _ _ _ hP hS hE0 hE1 hE2 hE3 hE4 hE5 hE6 hE7 hE8 hE9 hE10 hE11 hfr (lv_sub hl [5, 6, 7, 8, 9, 10, 11, 0] rfl)
                                  · refine lv_aload_n X.1 X.2.1 dX7_within_284 rfl (lv_at hl 4 rfl) ?_
                                    refine lv_dup X.1 X.2.1 dX7_within_285 rfl ?_
                                    refine wm_get X hP hlt0 hE0 rfl wm_inX7 31 (by decide) wq5_53 rfl dX7_within_286 ?_
                                    refine lv_iconst (v := nI 1) X.1 X.2.1 dX7_within_289 (by decide) ?_
                                    refine wm_isub (x := (((wm_ag8 (fun S a => wm_af ar i (ss i) a S) (fun S a => wm_af ar jj (ss jj) a S) G gi a).length) + 1)) (y := 1) X (by omega) dX7_within_290 ?_
                                    refine wm_put (v := .int (nI ((((wm_ag8 (fun S a => wm_af ar i (ss i) a S) (fun S a => wm_af ar jj (ss jj) a S) G gi a).length) + 1) - 1))) X hP hS hlt0 hE0 rfl wm_inX7 tyX7 tyX7_ok nmX7 31 (by decide) wq5_53 rfl rfl rfl (fs1 := [.int (nI 0), .ref (b + 120), .int (nI sz), .int (nI fa), .int (nI pl), .ref (b + 121), .ref (b + 122), .ref (b + 123), .ref (b + 124), .ref (b + 125), .ref (b + 126), .ref (b + 127), .int (nI ats), .int (nI aa), .ref (b + 128), .ref (b + 129), .ref (b + 130), .ref (b + 131), .ref (b + 132), .ref (b + 133), .int (nI op), .int (nI be.toNat), .int (nI fi), .int (nI la), .ref (b + 134), .ref (b + 135), .ref (b + 136), .int (nI (((wm_ql (wm_ag8 (fun S a => wm_af ar i (ss i) a S) (fun S a => wm_af ar jj (ss jj) a S) G gi a) (wm_ag8 (fun S a => wm_af ar i (ss i) a S) (fun S a => wm_af ar jj (ss jj) a S) G gi a).length) ++ (wm_bk (ss i) (wm_new (wm_ag8 (fun S a => wm_af ar i (ss i) a S) (fun S a => wm_af ar jj (ss jj) a S) G gi a) (wm_af ar i (ss i) a ((G.getD gi wm_g0).1)) (wm_af ar jj (ss jj) a (G.getD gi wm_g0).2.1))).map (fun x9 => (x9, ((wm_ag8 (fun S a => wm_af ar i (ss i) a S) (fun S a => wm_af ar jj (ss jj) a S) G gi a).length)))).length)), .ref (b + 137), .ref (b + 138), .ref (b + 139), .int (nI ((((wm_ag8 (fun S a => wm_af ar i (ss i) a S) (fun S a => wm_af ar jj (ss jj) a S) G gi a).length) + 1) - 1)), .ref (b + 140), .int (nI 4294967295), .ref (b + 141), .ref (b + 142), .ref (b + 143), .ref (b + 144), .ref (b + 145)]) rfl (Nat.le_of_ble_eq_true rfl) dX7_within_291 (fun H locs E38 hP hS hE0 hq => ?_)
                                    have hE1 := (hq 121 (by decide)).trans hE1
                                    have hE2 := (hq 122 (by decide)).trans hE2
                                    have hE3 := (hq 123 (by decide)).trans hE3
                                    have hE4 := (hq 124 (by decide)).trans hE4
                                    have hE5 := (hq 134 (by decide)).trans hE5
                                    have hE6 := (hq 135 (by decide)).trans hE6
                                    have hE7 := (hq 136 (by decide)).trans hE7
                                    have hE8 := (hq 137 (by decide)).trans hE8
                                    have hE9 := (hq 138 (by decide)).trans hE9
                                    have hE10 := (hq 139 (by decide)).trans hE10
                                    have hE11 := (hq 140 (by decide)).trans hE11
                                    have hfr : ∀ j, j ≠ 119 → j ≠ 134 → j ≠ 135 → j ≠ 136 → j ≠ 137 → j ≠ 138 → j ≠ 139 → j ≠ 140 → E38 j = E j := fun j h0 h1 h2 h3 h4 h5 h6 h7 => (hq j h0).trans (hfr j h0 h1 h2 h3 h4 h5 h6 h7)
                                    refine lv_iinc (v := nI (a + 1)) (lv' := [(9, .int (nI (a + 1))), (13, .int (nI ((wm_ag8 (fun S a => wm_af ar i (ss i) a S) (fun S a => wm_af ar jj (ss jj) a S) G gi a).length))), (12, .int (nI ((wm_ql (wm_ag8 (fun S a => wm_af ar i (ss i) a S) (fun S a => wm_af ar jj (ss jj) a S) G gi a) (wm_ag8 (fun S a => wm_af ar i (ss i) a S) (fun S a => wm_af ar jj (ss jj) a S) G gi a).length).length))), (11, .int (nI (wm_af ar jj (ss jj) a ((G.getD gi wm_g0).2.1)))), (10, .int (nI (wm_af ar i (ss i) a ((G.getD gi wm_g0).1)))), (0, .ref (b + 119)), (1, .int (nI i)), (2, .int (nI jj)), (5, .int (nI ((wm_ql G (gi + 1)).length))), (6, .int (nI 4294967295)), (7, .int (nI gi)), (8, .int (nI ((G.getD gi wm_g0).1)))]) X.1 X.2.1 dX7_within_294 hl (k := 11) rfl (wm_inc a) (by decide) rfl (fun ls hl => ?_)
                                    refine lv_goto (tgt := 198) X.1 X.2.1 dX7_within_297 (by decide) ?_
                                    rw [hadv.2.2.2.2] at hE0
                                    rw [wm_agz (a := a) (bf := gi) hsi hto hc281] at hE0
                                    have hnb4 : wm_nb (se i) (se jj) (wm_ag8 (fun S a => wm_af ar i (ss i) a S) (fun S a => wm_af ar jj (ss jj) a S) G gi (a + 1)) (wm_ag8 (fun S a => wm_af ar i (ss i) a S) (fun S a => wm_af ar jj (ss jj) a S) G gi (a + 1)).length := wm_nb_ag hnb3 (of_decide_eq_false hc265)
                                    exact ih198 (a + 1) qs135 qw135 sn135 (va_up wb3 ((wm_ag8 (fun S a => wm_af ar i (ss i) a S) (fun S a => wm_af ar jj (ss jj) a S) G gi a).length) gi) (va_up wl3 ((wm_ag8 (fun S a => wm_af ar i (ss i) a S) (fun S a => wm_af ar jj (ss jj) a S) G gi a).length) a) (va_up ws3 ((wm_ag8 (fun S a => wm_af ar i (ss i) a S) (fun S a => wm_af ar jj (ss jj) a S) G gi a).length) (wm_af ar jj (ss jj) a ((G.getD gi wm_g0).2.1))) (by omega) (by omega) hadv.1 hnb4 hadv.2.1 hadv.2.2.1 hadv.2.2.2.1 E38 _ _ _ hP hS hE0 hE1 hE2 hE3 hE4 hE5 hE6 hE7 hE8 hE9 hE10 hE11 hfr (lv_sub hl [5, 6, 7, 8, 9, 10, 11, 0] rfl)
                                · have hbd := of_decide_eq_true hc265
                                  have hfd9 := wm_fd8 (F1 := (fun S a => wm_af ar i (ss i) a S)) (F2 := (fun S a => wm_af ar jj (ss jj) a S)) hrun hgl (hnb gi hgl) hc202 hnb3 hgg3 hadv.1 hlen3 (Nat.lt_of_lt_of_le hto h2i) hbd.1 hbd.2
                                  have hfd := hfd9.2
                                  refine lv_iload X.1 X.2.1 dX7_within_268 (lv_at hl 0 rfl) ?_
                                  refine lv_istore (lv' := [(6, .int (nI ((wm_ag8 (fun S a => wm_af ar i (ss i) a S) (fun S a => wm_af ar jj (ss jj) a S) G gi a).length))), (13, .int (nI ((wm_ag8 (fun S a => wm_af ar i (ss i) a S) (fun S a => wm_af ar jj (ss jj) a S) G gi a).length))), (12, .int (nI ((wm_ql (wm_ag8 (fun S a => wm_af ar i (ss i) a S) (fun S a => wm_af ar jj (ss jj) a S) G gi a) (wm_ag8 (fun S a => wm_af ar i (ss i) a S) (fun S a => wm_af ar jj (ss jj) a S) G gi a).length).length))), (11, .int (nI (wm_af ar jj (ss jj) a ((G.getD gi wm_g0).2.1)))), (10, .int (nI (wm_af ar i (ss i) a ((G.getD gi wm_g0).1)))), (0, .ref (b + 119)), (1, .int (nI i)), (2, .int (nI jj)), (5, .int (nI ((wm_ql G (gi + 1)).length))), (7, .int (nI gi)), (8, .int (nI ((G.getD gi wm_g0).1))), (9, .int (nI a))]) X.1 X.2.1 dX7_within_270 hl (by decide) rfl (fun ls hl => ?_)
                                  refine lv_goto (tgt := 294) X.1 X.2.1 dX7_within_272 (by decide) ?_
                                  refine lv_iinc (v := nI (a + 1)) (lv' := [(9, .int (nI (a + 1))), (6, .int (nI ((wm_ag8 (fun S a => wm_af ar i (ss i) a S) (fun S a => wm_af ar jj (ss jj) a S) G gi a).length))), (13, .int (nI ((wm_ag8 (fun S a => wm_af ar i (ss i) a S) (fun S a => wm_af ar jj (ss jj) a S) G gi a).length))), (12, .int (nI ((wm_ql (wm_ag8 (fun S a => wm_af ar i (ss i) a S) (fun S a => wm_af ar jj (ss jj) a S) G gi a) (wm_ag8 (fun S a => wm_af ar i (ss i) a S) (fun S a => wm_af ar jj (ss jj) a S) G gi a).length).length))), (11, .int (nI (wm_af ar jj (ss jj) a ((G.getD gi wm_g0).2.1)))), (10, .int (nI (wm_af ar i (ss i) a ((G.getD gi wm_g0).1)))), (0, .ref (b + 119)), (1, .int (nI i)), (2, .int (nI jj)), (5, .int (nI ((wm_ql G (gi + 1)).length))), (7, .int (nI gi)), (8, .int (nI ((G.getD gi wm_g0).1)))]) X.1 X.2.1 dX7_within_294 hl (k := 11) rfl (wm_inc a) (by decide) rfl (fun ls hl => ?_)
                                  refine lv_goto (tgt := 198) X.1 X.2.1 dX7_within_297 (by decide) ?_
                                  refine lv_iload X.1 X.2.1 dX7_within_198 (lv_at hl 0 rfl) ?_
                                  refine lv_bipush (v := nI 8) X.1 X.2.1 dX7_within_200 (by decide) ?_
                                  refine wm_icmp_ge (x := (a + 1)) (y := 8) (tgt := 300) X (by omega) (by decide) dX7_within_202 (by decide) (fun hc202 => ?_) (fun hc202 => ?_)
                                  · refine lv_goto (tgt := 128) X.1 X.2.1 dX7_within_300 (by decide) ?_
                                    refine lv_iload X.1 X.2.1 dX7_within_128 (lv_at hl 1 rfl) ?_
                                    refine wm_if_ge (x := ((wm_ag8 (fun S a => wm_af ar i (ss i) a S) (fun S a => wm_af ar jj (ss jj) a S) G gi a).length)) (tgt := 303) X (by omega) dX7_within_130 (by decide) ?_
                                    refine lv_iload X.1 X.2.1 dX7_within_303 (lv_at hl 1 rfl) ?_
                                    refine wm_if_lt (x := ((wm_ag8 (fun S a => wm_af ar i (ss i) a S) (fun S a => wm_af ar jj (ss jj) a S) G gi a).length)) (tgt := 314) X (by omega) dX7_within_305 (by decide) ?_
                                    refine lv_aload_n X.1 X.2.1 dX7_within_308 rfl (lv_at hl 6 rfl) ?_
                                    refine lv_iload X.1 X.2.1 dX7_within_309 (lv_at hl 1 rfl) ?_
                                    refine wm_callVv (k := 1) (As := [.int (nI ((wm_ag8 (fun S a => wm_af ar i (ss i) a S) (fun S a => wm_af ar jj (ss jj) a S) G gi a).length))]) (rest := []) X hP hS hlt0 hE0 rfl (kX7_keep l D C b n E35 0 sz fa pl ats aa op fi la (((wm_ql (wm_ag8 (fun S a => wm_af ar i (ss i) a S) (fun S a => wm_af ar jj (ss jj) a S) G gi a) (wm_ag8 (fun S a => wm_af ar i (ss i) a S) (fun S a => wm_af ar jj (ss jj) a S) G gi a).length) ++ (wm_bk (ss i) (wm_new (wm_ag8 (fun S a => wm_af ar i (ss i) a S) (fun S a => wm_af ar jj (ss jj) a S) G gi a) (wm_af ar i (ss i) a ((G.getD gi wm_g0).1)) (wm_af ar jj (ss jj) a (G.getD gi wm_g0).2.1))).map (fun x9 => (x9, ((wm_ag8 (fun S a => wm_af ar i (ss i) a S) (fun S a => wm_af ar jj (ss jj) a S) G gi a).length)))).length) (((wm_ag8 (fun S a => wm_af ar i (ss i) a S) (fun S a => wm_af ar jj (ss jj) a S) G gi a).length) + 1) 4294967295 be ((wm_ag8 (fun S a => wm_af ar i (ss i) a S) (fun S a => wm_af ar jj (ss jj) a S) G gi a).length) (2 ^ ss jj) (wm_ag8 (fun S a => wm_af ar i (ss i) a S) (fun S a => wm_af ar jj (ss jj) a S) G gi (a + 1)) (va_up wb3 ((wm_ag8 (fun S a => wm_af ar i (ss i) a S) (fun S a => wm_af ar jj (ss jj) a S) G gi a).length) gi) (va_up wl3 ((wm_ag8 (fun S a => wm_af ar i (ss i) a S) (fun S a => wm_af ar jj (ss jj) a S) G gi a).length) a) (va_up ws3 ((wm_ag8 (fun S a => wm_af ar i (ss i) a S) (fun S a => wm_af ar jj (ss jj) a S) G gi a).length) (wm_af ar jj (ss jj) a ((G.getD gi wm_g0).2.1))) kp hlt0 hE0 hlt8 hE8 hlt9 hE9 hlt11 hE11 h2c hadv.1 hadv.2.2.2.1 hfd9.1) wq6_43 wq6_45 wqP4_1 wq1_8 wq6_46 (by decide) (by rw [hRe]; exact ⟨Nat.le_of_ble_eq_true rfl, Nat.le_of_ble_eq_true rfl⟩) rfl hl.1 rfl (Nat.le_of_ble_eq_true rfl) (Nat.zero_le _) (Nat.zero_le _) dX7_within_311 (fun E40 H locs hw hP hS => ?_)
                                    obtain ⟨kp140, hE0, hE11, hq, hp40_0⟩ := hw
                                    have hE1 := (hq 121 (by decide) (by decide)).trans hE1
                                    have hE2 := (hq 122 (by decide) (by decide)).trans hE2
                                    have hE3 := (hq 123 (by decide) (by decide)).trans hE3
                                    have hE4 := (hq 124 (by decide) (by decide)).trans hE4
                                    have hE5 := (hq 134 (by decide) (by decide)).trans hE5
                                    have hE6 := (hq 135 (by decide) (by decide)).trans hE6
                                    have hE7 := (hq 136 (by decide) (by decide)).trans hE7
                                    have hE8 := (hq 137 (by decide) (by decide)).trans hE8
                                    have hE9 := (hq 138 (by decide) (by decide)).trans hE9
                                    have hE10 := (hq 139 (by decide) (by decide)).trans hE10
                                    have hfr : ∀ j, j ≠ 119 → j ≠ 134 → j ≠ 135 → j ≠ 136 → j ≠ 137 → j ≠ 138 → j ≠ 139 → j ≠ 140 → E40 j = E j := fun j h0 h1 h2 h3 h4 h5 h6 h7 => (hq j h0 h7).trans (hfr j h0 h1 h2 h3 h4 h5 h6 h7)
                                    refine lv_iload X.1 X.2.1 dX7_within_314 (lv_at hl 1 rfl) ?_
                                    refine wm_if_ge (x := ((wm_ag8 (fun S a => wm_af ar i (ss i) a S) (fun S a => wm_af ar jj (ss jj) a S) G gi a).length)) (tgt := 323) X (by omega) dX7_within_316 (by decide) ?_
                                    refine lv_iconst (v := nI 0) X.1 X.2.1 dX7_within_323 (by decide) ?_
                                    exact wm_zret (v := false) (post := pmwithin1 C b E th sz fa pl ats aa op fi la wa wc kl be i jj ar ss sa se qs qw wb wl ws kp sn) X hr hP hS ⟨qs135, qw135, sn135, (va_up wb3 ((wm_ag8 (fun S a => wm_af ar i (ss i) a S) (fun S a => wm_af ar jj (ss jj) a S) G gi a).length) gi), (va_up wl3 ((wm_ag8 (fun S a => wm_af ar i (ss i) a S) (fun S a => wm_af ar jj (ss jj) a S) G gi a).length) a), (va_up ws3 ((wm_ag8 (fun S a => wm_af ar i (ss i) a S) (fun S a => wm_af ar jj (ss jj) a S) G gi a).length) (wm_af ar jj (ss jj) a ((G.getD gi wm_g0).2.1))), (((wm_ql (wm_ag8 (fun S a => wm_af ar i (ss i) a S) (fun S a => wm_af ar jj (ss jj) a S) G gi a) (wm_ag8 (fun S a => wm_af ar i (ss i) a S) (fun S a => wm_af ar jj (ss jj) a S) G gi a).length) ++ (wm_bk (ss i) (wm_new (wm_ag8 (fun S a => wm_af ar i (ss i) a S) (fun S a => wm_af ar jj (ss jj) a S) G gi a) (wm_af ar i (ss i) a ((G.getD gi wm_g0).1)) (wm_af ar jj (ss jj) a (G.getD gi wm_g0).2.1))).map (fun x9 => (x9, ((wm_ag8 (fun S a => wm_af ar i (ss i) a S) (fun S a => wm_af ar jj (ss jj) a S) G gi a).length)))).length), (((wm_ag8 (fun S a => wm_af ar i (ss i) a S) (fun S a => wm_af ar jj (ss jj) a S) G gi a).length) + 1), (wm_dp (wm_ag8 (fun S a => wm_af ar i (ss i) a S) (fun S a => wm_af ar jj (ss jj) a S) G gi (a + 1)) ((wm_ag8 (fun S a => wm_af ar i (ss i) a S) (fun S a => wm_af ar jj (ss jj) a S) G gi a).length)), kp140, (by rw [hfd.1]; rfl), hE0, hE5, hE6, hE7, hE8, hE9, hE10, hE11, hfr, (Or.inr ⟨_, hfd.1, hfd.2.1, hfd.2.2.1.symm, fun t9 h9 => by rw [hfd.2.2.1] at h9 ⊢; rw [hfd.2.2.2]; exact hp40_0 t9 h9⟩)⟩ hQ dX7_within_324
                                  · refine lv_iload X.1 X.2.1 dX7_within_205 (lv_at hl 1 rfl) ?_
                                    refine wm_if_ge (x := ((wm_ag8 (fun S a => wm_af ar i (ss i) a S) (fun S a => wm_af ar jj (ss jj) a S) G gi a).length)) (tgt := 300) X (by omega) dX7_within_207 (by decide) ?_
                                    refine lv_goto (tgt := 128) X.1 X.2.1 dX7_within_300 (by decide) ?_
                                    refine lv_iload X.1 X.2.1 dX7_within_128 (lv_at hl 1 rfl) ?_
                                    refine wm_if_ge (x := ((wm_ag8 (fun S a => wm_af ar i (ss i) a S) (fun S a => wm_af ar jj (ss jj) a S) G gi a).length)) (tgt := 303) X (by omega) dX7_within_130 (by decide) ?_
                                    refine lv_iload X.1 X.2.1 dX7_within_303 (lv_at hl 1 rfl) ?_
                                    refine wm_if_lt (x := ((wm_ag8 (fun S a => wm_af ar i (ss i) a S) (fun S a => wm_af ar jj (ss jj) a S) G gi a).length)) (tgt := 314) X (by omega) dX7_within_305 (by decide) ?_
                                    refine lv_aload_n X.1 X.2.1 dX7_within_308 rfl (lv_at hl 6 rfl) ?_
                                    refine lv_iload X.1 X.2.1 dX7_within_309 (lv_at hl 1 rfl) ?_
                                    refine wm_callVv (k := 1) (As := [.int (nI ((wm_ag8 (fun S a => wm_af ar i (ss i) a S) (fun S a => wm_af ar jj (ss jj) a S) G gi a).length))]) (rest := []) X hP hS hlt0 hE0 rfl (kX7_keep l D C b n E35 0 sz fa pl ats aa op fi la (((wm_ql (wm_ag8 (fun S a => wm_af ar i (ss i) a S) (fun S a => wm_af ar jj (ss jj) a S) G gi a) (wm_ag8 (fun S a => wm_af ar i (ss i) a S) (fun S a => wm_af ar jj (ss jj) a S) G gi a).length) ++ (wm_bk (ss i) (wm_new (wm_ag8 (fun S a => wm_af ar i (ss i) a S) (fun S a => wm_af ar jj (ss jj) a S) G gi a) (wm_af ar i (ss i) a ((G.getD gi wm_g0).1)) (wm_af ar jj (ss jj) a (G.getD gi wm_g0).2.1))).map (fun x9 => (x9, ((wm_ag8 (fun S a => wm_af ar i (ss i) a S) (fun S a => wm_af ar jj (ss jj) a S) G gi a).length)))).length) (((wm_ag8 (fun S a => wm_af ar i (ss i) a S) (fun S a => wm_af ar jj (ss jj) a S) G gi a).length) + 1) 4294967295 be ((wm_ag8 (fun S a => wm_af ar i (ss i) a S) (fun S a => wm_af ar jj (ss jj) a S) G gi a).length) (2 ^ ss jj) (wm_ag8 (fun S a => wm_af ar i (ss i) a S) (fun S a => wm_af ar jj (ss jj) a S) G gi (a + 1)) (va_up wb3 ((wm_ag8 (fun S a => wm_af ar i (ss i) a S) (fun S a => wm_af ar jj (ss jj) a S) G gi a).length) gi) (va_up wl3 ((wm_ag8 (fun S a => wm_af ar i (ss i) a S) (fun S a => wm_af ar jj (ss jj) a S) G gi a).length) a) (va_up ws3 ((wm_ag8 (fun S a => wm_af ar i (ss i) a S) (fun S a => wm_af ar jj (ss jj) a S) G gi a).length) (wm_af ar jj (ss jj) a ((G.getD gi wm_g0).2.1))) kp hlt0 hE0 hlt8 hE8 hlt9 hE9 hlt11 hE11 h2c hadv.1 hadv.2.2.2.1 hfd9.1) wq6_43 wq6_45 wqP4_1 wq1_8 wq6_46 (by decide) (by rw [hRe]; exact ⟨Nat.le_of_ble_eq_true rfl, Nat.le_of_ble_eq_true rfl⟩) rfl hl.1 rfl (Nat.le_of_ble_eq_true rfl) (Nat.zero_le _) (Nat.zero_le _) dX7_within_311 (fun E41 H locs hw hP hS => ?_)
                                    obtain ⟨kp141, hE0, hE11, hq, hp41_0⟩ := hw
                                    have hE1 := (hq 121 (by decide) (by decide)).trans hE1
                                    have hE2 := (hq 122 (by decide) (by decide)).trans hE2
                                    have hE3 := (hq 123 (by decide) (by decide)).trans hE3
                                    have hE4 := (hq 124 (by decide) (by decide)).trans hE4
                                    have hE5 := (hq 134 (by decide) (by decide)).trans hE5
                                    have hE6 := (hq 135 (by decide) (by decide)).trans hE6
                                    have hE7 := (hq 136 (by decide) (by decide)).trans hE7
                                    have hE8 := (hq 137 (by decide) (by decide)).trans hE8
                                    have hE9 := (hq 138 (by decide) (by decide)).trans hE9
                                    have hE10 := (hq 139 (by decide) (by decide)).trans hE10
                                    have hfr : ∀ j, j ≠ 119 → j ≠ 134 → j ≠ 135 → j ≠ 136 → j ≠ 137 → j ≠ 138 → j ≠ 139 → j ≠ 140 → E41 j = E j := fun j h0 h1 h2 h3 h4 h5 h6 h7 => (hq j h0 h7).trans (hfr j h0 h1 h2 h3 h4 h5 h6 h7)
                                    refine lv_iload X.1 X.2.1 dX7_within_314 (lv_at hl 1 rfl) ?_
                                    refine wm_if_ge (x := ((wm_ag8 (fun S a => wm_af ar i (ss i) a S) (fun S a => wm_af ar jj (ss jj) a S) G gi a).length)) (tgt := 323) X (by omega) dX7_within_316 (by decide) ?_
                                    refine lv_iconst (v := nI 0) X.1 X.2.1 dX7_within_323 (by decide) ?_
                                    exact wm_zret (v := false) (post := pmwithin1 C b E th sz fa pl ats aa op fi la wa wc kl be i jj ar ss sa se qs qw wb wl ws kp sn) X hr hP hS ⟨qs135, qw135, sn135, (va_up wb3 ((wm_ag8 (fun S a => wm_af ar i (ss i) a S) (fun S a => wm_af ar jj (ss jj) a S) G gi a).length) gi), (va_up wl3 ((wm_ag8 (fun S a => wm_af ar i (ss i) a S) (fun S a => wm_af ar jj (ss jj) a S) G gi a).length) a), (va_up ws3 ((wm_ag8 (fun S a => wm_af ar i (ss i) a S) (fun S a => wm_af ar jj (ss jj) a S) G gi a).length) (wm_af ar jj (ss jj) a ((G.getD gi wm_g0).2.1))), (((wm_ql (wm_ag8 (fun S a => wm_af ar i (ss i) a S) (fun S a => wm_af ar jj (ss jj) a S) G gi a) (wm_ag8 (fun S a => wm_af ar i (ss i) a S) (fun S a => wm_af ar jj (ss jj) a S) G gi a).length) ++ (wm_bk (ss i) (wm_new (wm_ag8 (fun S a => wm_af ar i (ss i) a S) (fun S a => wm_af ar jj (ss jj) a S) G gi a) (wm_af ar i (ss i) a ((G.getD gi wm_g0).1)) (wm_af ar jj (ss jj) a (G.getD gi wm_g0).2.1))).map (fun x9 => (x9, ((wm_ag8 (fun S a => wm_af ar i (ss i) a S) (fun S a => wm_af ar jj (ss jj) a S) G gi a).length)))).length), (((wm_ag8 (fun S a => wm_af ar i (ss i) a S) (fun S a => wm_af ar jj (ss jj) a S) G gi a).length) + 1), (wm_dp (wm_ag8 (fun S a => wm_af ar i (ss i) a S) (fun S a => wm_af ar jj (ss jj) a S) G gi (a + 1)) ((wm_ag8 (fun S a => wm_af ar i (ss i) a S) (fun S a => wm_af ar jj (ss jj) a S) G gi a).length)), kp141, (by rw [hfd.1]; rfl), hE0, hE5, hE6, hE7, hE8, hE9, hE10, hE11, hfr, (Or.inr ⟨_, hfd.1, hfd.2.1, hfd.2.2.1.symm, fun t9 h9 => by rw [hfd.2.2.1] at h9 ⊢; rw [hfd.2.2.2]; exact hp41_0 t9 h9⟩)⟩ hQ dX7_within_324
                          exact L198 (8 - 0 + 1) 0 qs2 qw2 sn2 wb2 wl2 ws2 (Nat.lt_succ_self _) (by omega) hgg hnb hqr hsn hwr E15 _ _ _ hP hS hE0 hE1 hE2 hE3 hE4 hE5 hE6 hE7 hE8 hE9 hE10 hE11 hfr (lv_sub hl [1, 2, 3, 4, 5, 6, 7, 0] rfl)
                        · have hrl : r9 < (wm_bk 24 (G.getD gi wm_g0).1).length := by
                            rcases Nat.lt_or_ge r9 (wm_bk 24 (G.getD gi wm_g0).1).length with q | q
                            · exact q
                            · exfalso
                              have e9 : (wm_ql G gi).length + r9 = (wm_ql G (gi + 1)).length := by rw [wm_ql_len]; omega
                              rw [(hqr _ hc160).2] at hc172
                              rw [e9] at hc172 hc160
                              exact wm_ql_nx hgl hc160 hc172
                          have hq9 : qs2 ((wm_ql G gi).length + r9) = (wm_bk 24 (G.getD gi wm_g0).1).getD r9 0 := by rw [(hqr _ hc160).1, (hat hrl).2]
                          have hs24 : (wm_bk 24 (G.getD gi wm_g0).1).getD r9 0 < 24 := (wm_bk_mem.mp (wm_gdn hrl)).1
                          refine lv_iload X.1 X.2.1 dX7_within_175 (lv_at hl 6 rfl) ?_
                          refine lv_iconst (v := nI 1) X.1 X.2.1 dX7_within_177 (by decide) ?_
                          refine lv_aload_n X.1 X.2.1 dX7_within_178 rfl (lv_at hl 0 rfl) ?_
                          refine wm_get X hP hlt0 hE0 rfl wm_inX7 24 (by decide) wq5_46 rfl dX7_within_179 ?_
                          refine lv_iload X.1 X.2.1 dX7_within_182 (lv_at hl 3 rfl) ?_
                          refine wm_iald (i := ((wm_ql G gi).length + r9)) X hP hlt5 hE5 (by omega) (by decide) dX7_within_184 ?_
                          rw [show qs2 ((wm_ql G gi).length + r9) = (wm_bk 24 (G.getD gi wm_g0).1).getD r9 0 from hq9]
                          refine wm_ishl (x := 1) (y := ((wm_bk 24 (G.getD gi wm_g0).1).getD r9 0)) X (by omega) dX7_within_185 ?_
                          refine wm_ior (x := (wm_ob ((wm_bk 24 (G.getD gi wm_g0).1).take r9))) (y := (1 <<< ((wm_bk 24 (G.getD gi wm_g0).1).getD r9 0))) X dX7_within_186 ?_
                          rw [show (wm_ob ((wm_bk 24 (G.getD gi wm_g0).1).take r9)) ||| (1 <<< ((wm_bk 24 (G.getD gi wm_g0).1).getD r9 0)) = wm_ob ((wm_bk 24 (G.getD gi wm_g0).1).take (r9 + 1)) from (wm_ob_take hrl).symm]
                          refine lv_istore (lv' := [(8, .int (nI (wm_ob ((wm_bk 24 (G.getD gi wm_g0).1).take (r9 + 1))))), (0, .ref (b + 119)), (1, .int (nI i)), (2, .int (nI jj)), (5, .int (nI ((wm_ql G gi).length + r9))), (6, .int (nI 4294967295)), (7, .int (nI gi))]) X.1 X.2.1 dX7_within_187 hl (by decide) rfl (fun ls hl => ?_)
                          refine lv_iinc (v := nI ((wm_ql G gi).length + r9 + 1)) (lv' := [(5, .int (nI ((wm_ql G gi).length + r9 + 1))), (8, .int (nI (wm_ob ((wm_bk 24 (G.getD gi wm_g0).1).take (r9 + 1))))), (0, .ref (b + 119)), (1, .int (nI i)), (2, .int (nI jj)), (6, .int (nI 4294967295)), (7, .int (nI gi))]) X.1 X.2.1 dX7_within_189 hl (k := 4) rfl (wm_inc ((wm_ql G gi).length + r9)) (by decide) rfl (fun ls hl => ?_)
                          refine lv_goto (tgt := 154) X.1 X.2.1 dX7_within_192 (by decide) ?_
                          exact ih154 (r9 + 1) (by omega) (by omega) E15 _ _ _ hP hS hE0 hE1 hE2 hE3 hE4 hE5 hE6 hE7 hE8 hE9 hE10 hE11 hfr (lv_sub hl [2, 3, 4, 0, 5, 6, 1] rfl)
                  exact L154 ((wm_bk 24 (G.getD gi wm_g0).1).length - 0 + 1) 0 (Nat.lt_succ_self _) (by omega) E13 _ _ _ hP hS hE0 hE1 hE2 hE3 hE4 hE5 hE6 hE7 hE8 hE9 hE10 hE11 hfr (lv_sub hl [2, 3, 4, 5, 6, 1, 0] rfl)
            exact L128 (49153 - 0 + 1) 0 (0 + 1) (wm_ag [] (sa i) (sa jj) 0 0) qs111 qw111 sn111 (va_up wb 0 4294967295) (va_up wl 0 0) (va_up ws 0 (sa jj)) (Nat.lt_succ_self _) wm_ag_1 (Nat.zero_le _) hadv.1 hnb0 hadv.2.1 hadv.2.2.1 hadv.2.2.2.1 rfl E11 _ _ _ hP hS hE0 hE1 hE2 hE3 hE4 hE5 hE6 hE7 hE8 hE9 hE10 hE11 hfr (lv_sub hl [4, 5, 6, 1, 0] rfl)
          · have hbd0 := of_decide_eq_true hc118
            have hfd0 := wm_fd0 (F1 := (fun S a => wm_af ar i (ss i) a S)) (F2 := (fun S a => wm_af ar jj (ss jj) a S)) (Nat.lt_of_lt_of_le hsi0 h2i) hbd0.1 hbd0.2
            have hfd : (wm_hunt (fun S a => wm_af ar i (ss i) a S) (fun S a => wm_af ar jj (ss jj) a S) (se i) (se jj) 49153 0 (wm_ag [] (sa i) (sa jj) 0 0)).2 = some 0 ∧ 0 < (wm_hunt (fun S a => wm_af ar i (ss i) a S) (fun S a => wm_af ar jj (ss jj) a S) (se i) (se jj) 49153 0 (wm_ag [] (sa i) (sa jj) 0 0)).1.length ∧ wm_dp (wm_hunt (fun S a => wm_af ar i (ss i) a S) (fun S a => wm_af ar jj (ss jj) a S) (se i) (se jj) 49153 0 (wm_ag [] (sa i) (sa jj) 0 0)).1 0 = wm_dp (wm_ag [] (sa i) (sa jj) 0 0) 0 ∧ ∀ k, (wm_hunt (fun S a => wm_af ar i (ss i) a S) (fun S a => wm_af ar jj (ss jj) a S) (se i) (se jj) 49153 0 (wm_ag [] (sa i) (sa jj) 0 0)).1.getD (wm_upg (wm_hunt (fun S a => wm_af ar i (ss i) a S) (fun S a => wm_af ar jj (ss jj) a S) (se i) (se jj) 49153 0 (wm_ag [] (sa i) (sa jj) 0 0)).1 k 0) wm_g0 = (wm_ag [] (sa i) (sa jj) 0 0).getD (wm_upg (wm_ag [] (sa i) (sa jj) 0 0) k 0) wm_g0 := by rw [hfd0.2]; exact ⟨rfl, by rw [hfd0.1]; exact Nat.lt_succ_self 0, rfl, fun _ => rfl⟩
            refine lv_iload_n X.1 X.2.1 dX7_within_121 rfl (lv_at hl 2 rfl) ?_
            refine lv_goto (tgt := 126) X.1 X.2.1 dX7_within_122 (by decide) ?_
            refine lv_istore (lv' := [(6, .int (nI 0)), (5, .int (nI 0)), (4, .int (nI (decide ((sa i) &&& se i ≠ 0 ∧ (sa jj) &&& se jj = 0)).toNat)), (3, .int (nI 0)), (0, .ref (b + 119)), (1, .int (nI i)), (2, .int (nI jj))]) X.1 X.2.1 dX7_within_126 hl (by decide) rfl (fun ls hl => ?_)
            refine lv_iload X.1 X.2.1 dX7_within_128 (lv_at hl 0 rfl) ?_
            refine lv_if_ge (tgt := 303) X.1 X.2.1 dX7_within_130 (by decide) (fun _ => ?_) (fun h => by exfalso; revert h; decide)
            refine lv_iload X.1 X.2.1 dX7_within_303 (lv_at hl 0 rfl) ?_
            refine lv_if_lt (tgt := 314) X.1 X.2.1 dX7_within_305 (by decide) (fun h => by exfalso; revert h; decide) (fun _ => ?_)
            refine lv_aload_n X.1 X.2.1 dX7_within_308 rfl (lv_at hl 4 rfl) ?_
            refine lv_iload X.1 X.2.1 dX7_within_309 (lv_at hl 0 rfl) ?_
            refine wm_callVv (k := 1) (As := [.int (nI 0)]) (rest := []) X hP hS hlt0 hE0 rfl (kX7_keep l D C b n E11 0 sz fa pl ats aa op fi la ((([] : List (Nat × Nat)) ++ (wm_bk (ss i) (wm_new ([] : List wm_gp) (sa i) (sa jj))).map (fun x9 => (x9, 0))).length) (0 + 1) 4294967295 be 0 (2 ^ ss jj) (wm_ag [] (sa i) (sa jj) 0 0) (va_up wb 0 4294967295) (va_up wl 0 0) (va_up ws 0 (sa jj)) kp hlt0 hE0 hlt8 hE8 hlt9 hE9 hlt11 hE11 h2c hadv.1 hadv.2.2.2.1 (by rw [hfd0.1]; exact Nat.lt_succ_self 0)) wq6_43 wq6_45 wqP4_1 wq1_8 wq6_46 (by decide) (by rw [hRe]; exact ⟨Nat.le_of_ble_eq_true rfl, Nat.le_of_ble_eq_true rfl⟩) rfl hl.1 rfl (Nat.le_of_ble_eq_true rfl) (Nat.zero_le _) (Nat.zero_le _) dX7_within_311 (fun E42 H locs hw hP hS => ?_)
            obtain ⟨kp142, hE0, hE11, hq, hp42_0⟩ := hw
            have hE1 := (hq 121 (by decide) (by decide)).trans hE1
            have hE2 := (hq 122 (by decide) (by decide)).trans hE2
            have hE3 := (hq 123 (by decide) (by decide)).trans hE3
            have hE4 := (hq 124 (by decide) (by decide)).trans hE4
            have hE5 := (hq 134 (by decide) (by decide)).trans hE5
            have hE6 := (hq 135 (by decide) (by decide)).trans hE6
            have hE7 := (hq 136 (by decide) (by decide)).trans hE7
            have hE8 := (hq 137 (by decide) (by decide)).trans hE8
            have hE9 := (hq 138 (by decide) (by decide)).trans hE9
            have hE10 := (hq 139 (by decide) (by decide)).trans hE10
            have hfr : ∀ j, j ≠ 119 → j ≠ 134 → j ≠ 135 → j ≠ 136 → j ≠ 137 → j ≠ 138 → j ≠ 139 → j ≠ 140 → E42 j = E j := fun j h0 h1 h2 h3 h4 h5 h6 h7 => (hq j h0 h7).trans (hfr j h0 h1 h2 h3 h4 h5 h6 h7)
            refine lv_iload X.1 X.2.1 dX7_within_314 (lv_at hl 0 rfl) ?_
            refine lv_if_ge (tgt := 323) X.1 X.2.1 dX7_within_316 (by decide) (fun _ => ?_) (fun h => by exfalso; revert h; decide)
            refine lv_iconst (v := nI 0) X.1 X.2.1 dX7_within_323 (by decide) ?_
            exact wm_zret (v := false) (post := pmwithin1 C b E th sz fa pl ats aa op fi la wa wc kl be i jj ar ss sa se qs qw wb wl ws kp sn) X hr hP hS ⟨qs111, qw111, sn111, (va_up wb 0 4294967295), (va_up wl 0 0), (va_up ws 0 (sa jj)), ((([] : List (Nat × Nat)) ++ (wm_bk (ss i) (wm_new ([] : List wm_gp) (sa i) (sa jj))).map (fun x9 => (x9, 0))).length), (0 + 1), (wm_dp (wm_ag [] (sa i) (sa jj) 0 0) 0), kp142, (by rw [hfd.1]; rfl), hE0, hE5, hE6, hE7, hE8, hE9, hE10, hE11, hfr, (Or.inr ⟨_, hfd.1, hfd.2.1, hfd.2.2.1.symm, fun t9 h9 => by rw [hfd.2.2.1] at h9 ⊢; rw [hfd.2.2.2]; exact hp42_0 t9 h9⟩)⟩ hQ dX7_within_324
        · refine lv_aload_n X.1 X.2.1 dX7_within_57 rfl (lv_at hl 0 rfl) ?_
          refine wm_get X hP hlt0 hE0 rfl wm_inX7 26 (by decide) wq5_48 rfl dX7_within_58 ?_
          refine lv_iload_n X.1 X.2.1 dX7_within_61 rfl (lv_at hl 3 rfl) ?_
          refine lv_iconst (v := nI 0) X.1 X.2.1 dX7_within_62 (by decide) ?_
          refine wm_zast (i := i0) (x := false) X hP hS hlt7 hE7 (by omega) (by decide) dX7_within_63 (fun H locs E43 hP hS hE7 hq => ?_)
          have hE0 := (hq 119 (by decide)).trans hE0
          have hE1 := (hq 121 (by decide)).trans hE1
          have hE2 := (hq 122 (by decide)).trans hE2
          have hE3 := (hq 123 (by decide)).trans hE3
          have hE4 := (hq 124 (by decide)).trans hE4
          have hE5 := (hq 134 (by decide)).trans hE5
          have hE6 := (hq 135 (by decide)).trans hE6
          have hE8 := (hq 137 (by decide)).trans hE8
          have hE9 := (hq 138 (by decide)).trans hE9
          have hE10 := (hq 139 (by decide)).trans hE10
          have hE11 := (hq 140 (by decide)).trans hE11
          have hfr : ∀ j, j ≠ 119 → j ≠ 134 → j ≠ 135 → j ≠ 136 → j ≠ 137 → j ≠ 138 → j ≠ 139 → j ≠ 140 → E43 j = E j := fun j h0 h1 h2 h3 h4 h5 h6 h7 => (hq j h3).trans (hfr j h0 h1 h2 h3 h4 h5 h6 h7)
          refine lv_iinc (v := nI (i0 + 1)) (lv' := [(3, .int (nI (i0 + 1))), (0, .ref (b + 119)), (1, .int (nI i)), (2, .int (nI jj))]) X.1 X.2.1 dX7_within_64 hl (k := 3) rfl (wm_inc i0) (by decide) rfl (fun ls hl => ?_)
          refine lv_goto (tgt := 51) X.1 X.2.1 dX7_within_67 (by decide) ?_
          exact ih51 (i0 + 1) (va_up sn0 i0 false) (by omega) (by omega) (wm_fillb h0) E43 _ _ _ hP hS hE0 hE1 hE2 hE3 hE4 hE5 hE6 hE7 hE8 hE9 hE10 hE11 hfr (lv_sub hl [1, 2, 3, 0] rfl)
    exact L51 (49152 - 0 + 1) 0 sn (Nat.lt_succ_self _) (by omega) (fun S h => absurd h (Nat.not_lt_zero _)) E4 _ _ _ hP hS hE0 hE1 hE2 hE3 hE4 hE5 hE6 hE7 hE8 hE9 hE10 hE11 hfr (lv_sub hl [1, 2, 3, 0] rfl)
  · exact absurd hc29 (by omega)
