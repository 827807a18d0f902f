def pX7_thrown (C : Nat → ClassId) (b : Nat) (E : Nat → va_E) (th sz fa pl ats aa op fi la wa wc kl : Nat) (be : Bool) : Int32 → (Nat → va_E) → Prop := fun r E' => r = nI th ∧ E = E'
set_option maxHeartbeats 4000000 in
set_option maxRecDepth 100000 in
theorem kX7_thrown (l : Launch) (D : va_G) (C : Nat → ClassId) (b n : Nat) (E : Nat → va_E) (th sz fa pl ats aa op fi la wa wc kl : Nat) (be : Bool) (hlt0 : 119 < n) (hE0 : E 119 = .inr (7, [.int (nI th), .ref (b + 120), .int (nI sz), .int (nI fa), .int (nI pl), .ref (b + 121), .ref (b + 122), .ref (b + 123), .ref (b + 124), .ref (b + 125), .ref (b + 126), .ref (b + 127), .int (nI ats), .int (nI aa), .ref (b + 128), .ref (b + 129), .ref (b + 130), .ref (b + 131), .ref (b + 132), .ref (b + 133), .int (nI op), .int (nI be.toNat), .int (nI fi), .int (nI la), .ref (b + 134), .ref (b + 135), .ref (b + 136), .int (nI wa), .ref (b + 137), .ref (b + 138), .ref (b + 139), .int (nI wc), .ref (b + 140), .int (nI kl), .ref (b + 141), .ref (b + 142), .ref (b + 143), .ref (b + 144), .ref (b + 145)])) : Met l yX7_thrown (wm_ws yX7_thrown cX7_thrown 1 (some .int)) { frames := 0, cells := 0, slots := 0, locals := 0 } (va_Pc [.ref (b + 119)] (wm_G D C b n E)) (va_Qi (pX7_thrown C b E th sz fa pl ats aa op fi la wa wc kl be) (fun E' t => wm_P D b n E' t.heap) (wm_A b)) 0 0 (wm_A b) := by
  refine wm_ofW (by decide) (Nat.le_of_ble_eq_true rfl) (fun p e s m below meth c ls R args Q hRe hQ X hr hnm hP hS hl => ?_)
  have hl : lv_has ls 1 [(0, .ref (b + 119))] := hl
  refine lv_aload_n X.1 X.2.1 dX7_thrown_0 rfl (lv_at hl 0 rfl) ?_
  refine wm_get X hP hlt0 hE0 rfl wm_inX7 0 (by decide) wq5_22 rfl dX7_thrown_1 ?_
  exact wm_iret (post := pX7_thrown C b E th sz fa pl ats aa op fi la wa wc kl be) X hr hP hS ⟨rfl, rfl⟩ hQ dX7_thrown_4
def pmfeedX (C : Nat → ClassId) (b : Nat) (E : Nat → va_E) (th sz fa pl ats aa op fi la wa wc kl : Nat) (be : Bool) (x : Int32) (v : Nat) : Int32 → (Nat → va_E) → Prop := fun r E' => r = nI 0 ∧ E' 119 = .inr (7, [.int (nI 1), .ref (b + 120), .int (nI sz), .int (nI fa), .int (nI pl), .ref (b + 121), .ref (b + 122), .ref (b + 123), .ref (b + 124), .ref (b + 125), .ref (b + 126), .ref (b + 127), .int (nI ats), .int (nI aa), .ref (b + 128), .ref (b + 129), .ref (b + 130), .ref (b + 131), .ref (b + 132), .ref (b + 133), .int (nI op), .int (nI be.toNat), .int (nI fi), .int (nI la), .ref (b + 134), .ref (b + 135), .ref (b + 136), .int (nI wa), .ref (b + 137), .ref (b + 138), .ref (b + 139), .int (nI wc), .ref (b + 140), .int (nI kl), .ref (b + 141), .ref (b + 142), .ref (b + 143), .ref (b + 144), .ref (b + 145)]) ∧ (∀ j, j ≠ 119 → E' j = E j)
set_option maxHeartbeats 4000000 in
set_option maxRecDepth 100000 in
theorem kmfeedX (l : Launch) (D : va_G) (C : Nat → ClassId) (b n : Nat) (E : Nat → va_E) (th sz fa pl ats aa op fi la wa wc kl : Nat) (be : Bool) (x : Int32) (v : Nat) (hlt0 : 119 < n) (hE0 : E 119 = .inr (7, [.int (nI th), .ref (b + 120), .int (nI sz), .int (nI fa), .int (nI pl), .ref (b + 121), .ref (b + 122), .ref (b + 123), .ref (b + 124), .ref (b + 125), .ref (b + 126), .ref (b + 127), .int (nI ats), .int (nI aa), .ref (b + 128), .ref (b + 129), .ref (b + 130), .ref (b + 131), .ref (b + 132), .ref (b + 133), .int (nI op), .int (nI be.toNat), .int (nI fi), .int (nI la), .ref (b + 134), .ref (b + 135), .ref (b + 136), .int (nI wa), .ref (b + 137), .ref (b + 138), .ref (b + 139), .int (nI wc), .ref (b + 140), .int (nI kl), .ref (b + 141), .ref (b + 142), .ref (b + 143), .ref (b + 144), .ref (b + 145)])) (hk : ¬ (nI 1 ≤ x ∧ x ≤ nI 8)) : Met l yX7_feed (wm_ws yX7_feed cX7_feed 5 (some .int)) { frames := 0, cells := 0, slots := 0, locals := 0 } (va_Pc [.ref (b + 119), .int x, .long (lN v)] (wm_G D C b n E)) (va_Qi (pmfeedX C b E th sz fa pl ats aa op fi la wa wc kl be x v) (fun E' t => wm_P D b n E' t.heap) (wm_A b)) 0 0 (wm_A b) := by
  refine wm_ofW (by decide) (Nat.le_of_ble_eq_true rfl) (fun p e s m below meth c ls R args Q hRe hQ X hr hnm hP hS hl => ?_)
  have hl : lv_has ls 5 [(0, .ref (b + 119)), (1, .int x), (2, .long (lN v))] := hl
  have hfr : ∀ j, j ≠ 119 → E j = E j := fun _ _ => rfl
  refine lv_aload_n X.1 X.2.1 dX7_feed_0 rfl (lv_at hl 0 rfl) ?_
  refine lv_iload_n X.1 X.2.1 dX7_feed_1 rfl (lv_at hl 1 rfl) ?_
  refine lv_iconst (v := nI 1) X.1 X.2.1 dX7_feed_2 (by decide) ?_
  refine lv_icmp_lt (tgt := 12) X.1 X.2.1 dX7_feed_3 (by decide) (fun hc3 => ?_) (fun hc3 => ?_)
  · refine lv_iconst (v := nI 1) X.1 X.2.1 dX7_feed_12 (by decide) ?_
    refine lv_goto (tgt := 17) X.1 X.2.1 dX7_feed_13 (by decide) ?_
    refine wm_put (v := .int (nI 1)) X hP hS hlt0 hE0 rfl wm_inX7 tyX7 tyX7_ok nmX7 0 (by decide) wq5_22 rfl rfl rfl (fs1 := [.int (nI 1), .ref (b + 120), .int (nI sz), .int (nI fa), .int (nI pl), .ref (b + 121), .ref (b + 122), .ref (b + 123), .ref (b + 124), .ref (b + 125), .ref (b + 126), .ref (b + 127), .int (nI ats), .int (nI aa), .ref (b + 128), .ref (b + 129), .ref (b + 130), .ref (b + 131), .ref (b + 132), .ref (b + 133), .int (nI op), .int (nI be.toNat), .int (nI fi), .int (nI la), .ref (b + 134), .ref (b + 135), .ref (b + 136), .int (nI wa), .ref (b + 137), .ref (b + 138), .ref (b + 139), .int (nI wc), .ref (b + 140), .int (nI kl), .ref (b + 141), .ref (b + 142), .ref (b + 143), .ref (b + 144), .ref (b + 145)]) rfl (Nat.le_of_ble_eq_true rfl) dX7_feed_17 (fun H locs E2 hP hS hE0 hq => ?_)
    have hfr : ∀ j, j ≠ 119 → E2 j = E j := fun j h0 => (hq j h0).trans (hfr j h0)
    refine lv_aload_n X.1 X.2.1 dX7_feed_20 rfl (lv_at hl 0 rfl) ?_
    refine wm_get X hP hlt0 hE0 rfl wm_inX7 0 (by decide) wq5_22 rfl dX7_feed_21 ?_
    refine lv_if_le (tgt := 29) X.1 X.2.1 dX7_feed_24 (by decide) (fun h => by exfalso; revert h; decide) (fun _ => ?_)
    refine lv_iconst (v := nI 0) X.1 X.2.1 dX7_feed_27 (by decide) ?_
    exact wm_iret (post := pmfeedX C b E th sz fa pl ats aa op fi la wa wc kl be x v) X hr hP hS ⟨rfl, hE0, hfr⟩ hQ dX7_feed_28
  · refine lv_iload_n X.1 X.2.1 dX7_feed_6 rfl (lv_at hl 1 rfl) ?_
    refine lv_bipush (v := nI 8) X.1 X.2.1 dX7_feed_7 (by decide) ?_
    refine lv_icmp_le (tgt := 16) X.1 X.2.1 dX7_feed_9 (by decide) (fun hc9 => ?_) (fun hc9 => ?_)
    · exact absurd hc9 (fun q => hk ⟨Int32.not_lt.mp hc3, q⟩)
    · refine lv_iconst (v := nI 1) X.1 X.2.1 dX7_feed_12 (by decide) ?_
      refine lv_goto (tgt := 17) X.1 X.2.1 dX7_feed_13 (by decide) ?_
      refine wm_put (v := .int (nI 1)) X hP hS hlt0 hE0 rfl wm_inX7 tyX7 tyX7_ok nmX7 0 (by decide) wq5_22 rfl rfl rfl (fs1 := [.int (nI 1), .ref (b + 120), .int (nI sz), .int (nI fa), .int (nI pl), .ref (b + 121), .ref (b + 122), .ref (b + 123), .ref (b + 124), .ref (b + 125), .ref (b + 126), .ref (b + 127), .int (nI ats), .int (nI aa), .ref (b + 128), .ref (b + 129), .ref (b + 130), .ref (b + 131), .ref (b + 132), .ref (b + 133), .int (nI op), .int (nI be.toNat), .int (nI fi), .int (nI la), .ref (b + 134), .ref (b + 135), .ref (b + 136), .int (nI wa), .ref (b + 137), .ref (b + 138), .ref (b + 139), .int (nI wc), .ref (b + 140), .int (nI kl), .ref (b + 141), .ref (b + 142), .ref (b + 143), .ref (b + 144), .ref (b + 145)]) rfl (Nat.le_of_ble_eq_true rfl) dX7_feed_17 (fun H locs E4 hP hS hE0 hq => ?_)
      have hfr : ∀ j, j ≠ 119 → E4 j = E j := fun j h0 => (hq j h0).trans (hfr j h0)
      refine lv_aload_n X.1 X.2.1 dX7_feed_20 rfl (lv_at hl 0 rfl) ?_
      refine wm_get X hP hlt0 hE0 rfl wm_inX7 0 (by decide) wq5_22 rfl dX7_feed_21 ?_
      refine lv_if_le (tgt := 29) X.1 X.2.1 dX7_feed_24 (by decide) (fun h => by exfalso; revert h; decide) (fun _ => ?_)
      refine lv_iconst (v := nI 0) X.1 X.2.1 dX7_feed_27 (by decide) ?_
      exact wm_iret (post := pmfeedX C b E th sz fa pl ats aa op fi la wa wc kl be x v) X hr hP hS ⟨rfl, hE0, hfr⟩ hQ dX7_feed_28
def pmfeed0 (C : Nat → ClassId) (b : Nat) (E : Nat → va_E) (th sz fa pl ats aa op fi la wa wc kl : Nat) (be : Bool) (k v : Nat) : Int32 → (Nat → va_E) → Prop := fun r E' => r = nI 4294967295 ∧ E' 119 = .inr (7, [.int (nI 0), .ref (b + 120), .int (nI sz), .int (nI fa), .int (nI pl), .ref (b + 121), .ref (b + 122), .ref (b + 123), .ref (b + 124), .ref (b + 125), .ref (b + 126), .ref (b + 127), .int (nI ats), .int (nI aa), .ref (b + 128), .ref (b + 129), .ref (b + 130), .ref (b + 131), .ref (b + 132), .ref (b + 133), .int (nI op), .int (nI be.toNat), .int (nI fi), .int (nI la), .ref (b + 134), .ref (b + 135), .ref (b + 136), .int (nI wa), .ref (b + 137), .ref (b + 138), .ref (b + 139), .int (nI wc), .ref (b + 140), .int (nI kl), .ref (b + 141), .ref (b + 142), .ref (b + 143), .ref (b + 144), .ref (b + 145)]) ∧ (∀ j, j ≠ 119 → E' j = E j)
set_option maxHeartbeats 4000000 in
set_option maxRecDepth 100000 in
theorem kmfeed0 (l : Launch) (D : va_G) (C : Nat → ClassId) (b n : Nat) (E : Nat → va_E) (th sz fa pl ats aa op fi la wa wc kl : Nat) (be : Bool) (k v : Nat) (hlt0 : 119 < n) (hE0 : E 119 = .inr (7, [.int (nI th), .ref (b + 120), .int (nI sz), .int (nI fa), .int (nI pl), .ref (b + 121), .ref (b + 122), .ref (b + 123), .ref (b + 124), .ref (b + 125), .ref (b + 126), .ref (b + 127), .int (nI ats), .int (nI aa), .ref (b + 128), .ref (b + 129), .ref (b + 130), .ref (b + 131), .ref (b + 132), .ref (b + 133), .int (nI op), .int (nI be.toNat), .int (nI fi), .int (nI la), .ref (b + 134), .ref (b + 135), .ref (b + 136), .int (nI wa), .ref (b + 137), .ref (b + 138), .ref (b + 139), .int (nI wc), .ref (b + 140), .int (nI kl), .ref (b + 141), .ref (b + 142), .ref (b + 143), .ref (b + 144), .ref (b + 145)])) (hk : 1 ≤ k ∧ k ≤ 8) (hsz : sz ≤ 200) (ho : 200 < sz + k) : Met l yX7_feed (wm_ws yX7_feed cX7_feed 5 (some .int)) { frames := 0, cells := 0, slots := 0, locals := 0 } (va_Pc [.ref (b + 119), .int (nI k), .long (lN v)] (wm_G D C b n E)) (va_Qi (pmfeed0 C b E th sz fa pl ats aa op fi la wa wc kl be k v) (fun E' t => wm_P D b n E' t.heap) (wm_A b)) 0 0 (wm_A b) := by
  refine wm_ofW (by decide) (Nat.le_of_ble_eq_true rfl) (fun p e s m below meth c ls R args Q hRe hQ X hr hnm hP hS hl => ?_)
  have hl : lv_has ls 5 [(0, .ref (b + 119)), (1, .int (nI k)), (2, .long (lN v))] := hl
  have hfr : ∀ j, j ≠ 119 → E j = E j := fun _ _ => rfl
  refine lv_aload_n X.1 X.2.1 dX7_feed_0 rfl (lv_at hl 0 rfl) ?_
  refine lv_iload_n X.1 X.2.1 dX7_feed_1 rfl (lv_at hl 1 rfl) ?_
  refine lv_iconst (v := nI 1) X.1 X.2.1 dX7_feed_2 (by decide) ?_
  refine wm_icmp_lt (x := k) (y := 1) (tgt := 12) X (by omega) (by decide) dX7_feed_3 (by decide) (fun hc3 => ?_) (fun hc3 => ?_)
  · exact absurd hc3 (by omega)
  · refine lv_iload_n X.1 X.2.1 dX7_feed_6 rfl (lv_at hl 1 rfl) ?_
    refine lv_bipush (v := nI 8) X.1 X.2.1 dX7_feed_7 (by decide) ?_
    refine wm_icmp_le (x := k) (y := 8) (tgt := 16) X (by omega) (by decide) dX7_feed_9 (by decide) (fun hc9 => ?_) (fun hc9 => ?_)
    · refine lv_iconst (v := nI 0) X.1 X.2.1 dX7_feed_16 (by decide) ?_
      refine wm_put (v := .int (nI 0)) X hP hS hlt0 hE0 rfl wm_inX7 tyX7 tyX7_ok nmX7 0 (by decide) wq5_22 rfl rfl rfl (fs1 := [.int (nI 0), .ref (b + 120), .int (nI sz), .int (nI fa), .int (nI pl), .ref (b + 121), .ref (b + 122), .ref (b + 123), .ref (b + 124), .ref (b + 125), .ref (b + 126), .ref (b + 127), .int (nI ats), .int (nI aa), .ref (b + 128), .ref (b + 129), .ref (b + 130), .ref (b + 131), .ref (b + 132), .ref (b + 133), .int (nI op), .int (nI be.toNat), .int (nI fi), .int (nI la), .ref (b + 134), .ref (b + 135), .ref (b + 136), .int (nI wa), .ref (b + 137), .ref (b + 138), .ref (b + 139), .int (nI wc), .ref (b + 140), .int (nI kl), .ref (b + 141), .ref (b + 142), .ref (b + 143), .ref (b + 144), .ref (b + 145)]) rfl (Nat.le_of_ble_eq_true rfl) dX7_feed_17 (fun H locs E3 hP hS hE0 hq => ?_)
      have hfr : ∀ j, j ≠ 119 → E3 j = E j := fun j h0 => (hq j h0).trans (hfr j h0)
      refine lv_aload_n X.1 X.2.1 dX7_feed_20 rfl (lv_at hl 0 rfl) ?_
      refine wm_get X hP hlt0 hE0 rfl wm_inX7 0 (by decide) wq5_22 rfl dX7_feed_21 ?_
      refine lv_if_le (tgt := 29) X.1 X.2.1 dX7_feed_24 (by decide) (fun _ => ?_) (fun h => by exfalso; revert h; decide)
      refine lv_aload_n X.1 X.2.1 dX7_feed_29 rfl (lv_at hl 0 rfl) ?_
      refine wm_get X hP hlt0 hE0 rfl wm_inX7 2 (by decide) wq5_24 rfl dX7_feed_30 ?_
      refine lv_iload_n X.1 X.2.1 dX7_feed_33 rfl (lv_at hl 1 rfl) ?_
      refine wm_iadd (x := sz) (y := k) X dX7_feed_34 ?_
      refine lv_sipush (v := nI 200) X.1 X.2.1 dX7_feed_35 (by decide) ?_
      refine wm_icmp_le (x := (sz + k)) (y := 200) (tgt := 43) X (by omega) (by decide) dX7_feed_38 (by decide) (fun hc38 => ?_) (fun hc38 => ?_)
      · exact absurd hc38 (by omega)
      · refine lv_iconst (v := nI 4294967295) X.1 X.2.1 dX7_feed_41 (by decide) ?_
        exact wm_iret (post := pmfeed0 C b E th sz fa pl ats aa op fi la wa wc kl be k v) X hr hP hS ⟨rfl, hE0, hfr⟩ hQ dX7_feed_42
    · exact absurd hc9 (by omega)
def pmfeed1 (C : Nat → ClassId) (b : Nat) (E : Nat → va_E) (th sz fa pl ats aa op fi la wa wc kl : Nat) (be : Bool) (k v : Nat) (tx : Nat → Nat) : Int32 → (Nat → va_E) → Prop := fun r E' => r = nI (sz + k) ∧ E' 119 = .inr (7, [.int (nI 0), .ref (b + 120), .int (nI (sz + k)), .int (nI fa), .int (nI pl), .ref (b + 121), .ref (b + 122), .ref (b + 123), .ref (b + 124), .ref (b + 125), .ref (b + 126), .ref (b + 127), .int (nI ats), .int (nI aa), .ref (b + 128), .ref (b + 129), .ref (b + 130), .ref (b + 131), .ref (b + 132), .ref (b + 133), .int (nI op), .int (nI be.toNat), .int (nI fi), .int (nI la), .ref (b + 134), .ref (b + 135), .ref (b + 136), .int (nI wa), .ref (b + 137), .ref (b + 138), .ref (b + 139), .int (nI wc), .ref (b + 140), .int (nI kl), .ref (b + 141), .ref (b + 142), .ref (b + 143), .ref (b + 144), .ref (b + 145)]) ∧ E' 120 = wm_I C 200 (fun j => if sz ≤ j ∧ j < sz + k then v >>> (8 * (j - sz)) % 256 else tx j) ∧ (∀ j, j ≠ 119 → j ≠ 120 → E' j = E j)
set_option maxHeartbeats 4000000 in
set_option maxRecDepth 100000 in
theorem kmfeed1 (l : Launch) (D : va_G) (C : Nat → ClassId) (b n : Nat) (E : Nat → va_E) (th sz fa pl ats aa op fi la wa wc kl : Nat) (be : Bool) (k v : Nat) (tx : Nat → Nat) (hlt0 : 119 < n) (hE0 : E 119 = .inr (7, [.int (nI th), .ref (b + 120), .int (nI sz), .int (nI fa), .int (nI pl), .ref (b + 121), .ref (b + 122), .ref (b + 123), .ref (b + 124), .ref (b + 125), .ref (b + 126), .ref (b + 127), .int (nI ats), .int (nI aa), .ref (b + 128), .ref (b + 129), .ref (b + 130), .ref (b + 131), .ref (b + 132), .ref (b + 133), .int (nI op), .int (nI be.toNat), .int (nI fi), .int (nI la), .ref (b + 134), .ref (b + 135), .ref (b + 136), .int (nI wa), .ref (b + 137), .ref (b + 138), .ref (b + 139), .int (nI wc), .ref (b + 140), .int (nI kl), .ref (b + 141), .ref (b + 142), .ref (b + 143), .ref (b + 144), .ref (b + 145)])) (hlt1 : 120 < n) (hE1 : E 120 = wm_I C 200 tx) (hk : 1 ≤ k ∧ k ≤ 8) (ho : sz + k ≤ 200) : Met l yX7_feed (wm_ws yX7_feed cX7_feed 5 (some .int)) { frames := 0, cells := 0, slots := 0, locals := 0 } (va_Pc [.ref (b + 119), .int (nI k), .long (lN v)] (wm_G D C b n E)) (va_Qi (pmfeed1 C b E th sz fa pl ats aa op fi la wa wc kl be k v tx) (fun E' t => wm_P D b n E' t.heap) (wm_A b)) 0 0 (wm_A b) := by
  refine wm_ofW (by decide) (Nat.le_of_ble_eq_true rfl) (fun p e s m below meth c ls R args Q hRe hQ X hr hnm hP hS hl => ?_)
  have hl : lv_has ls 5 [(0, .ref (b + 119)), (1, .int (nI k)), (2, .long (lN v))] := hl
  have hfr : ∀ j, j ≠ 119 → j ≠ 120 → E j = E j := fun _ _ _ => rfl
  refine lv_aload_n X.1 X.2.1 dX7_feed_0 rfl (lv_at hl 0 rfl) ?_
  refine lv_iload_n X.1 X.2.1 dX7_feed_1 rfl (lv_at hl 1 rfl) ?_
  refine lv_iconst (v := nI 1) X.1 X.2.1 dX7_feed_2 (by decide) ?_
  refine wm_icmp_lt (x := k) (y := 1) (tgt := 12) X (by omega) (by decide) dX7_feed_3 (by decide) (fun hc3 => ?_) (fun hc3 => ?_)
  · exact absurd hc3 (by omega)
  · refine lv_iload_n X.1 X.2.1 dX7_feed_6 rfl (lv_at hl 1 rfl) ?_
    refine lv_bipush (v := nI 8) X.1 X.2.1 dX7_feed_7 (by decide) ?_
    refine wm_icmp_le (x := k) (y := 8) (tgt := 16) X (by omega) (by decide) dX7_feed_9 (by decide) (fun hc9 => ?_) (fun hc9 => ?_)
    · refine lv_iconst (v := nI 0) X.1 X.2.1 dX7_feed_16 (by decide) ?_
      refine wm_put (v := .int (nI 0)) X hP hS hlt0 hE0 rfl wm_inX7 tyX7 tyX7_ok nmX7 0 (by decide) wq5_22 rfl rfl rfl (fs1 := [.int (nI 0), .ref (b + 120), .int (nI sz), .int (nI fa), .int (nI pl), .ref (b + 121), .ref (b + 122), .ref (b + 123), .ref (b + 124), .ref (b + 125), .ref (b + 126), .ref (b + 127), .int (nI ats), .int (nI aa), .ref (b + 128), .ref (b + 129), .ref (b + 130), .ref (b + 131), .ref (b + 132), .ref (b + 133), .int (nI op), .int (nI be.toNat), .int (nI fi), .int (nI la), .ref (b + 134), .ref (b + 135), .ref (b + 136), .int (nI wa), .ref (b + 137), .ref (b + 138), .ref (b + 139), .int (nI wc), .ref (b + 140), .int (nI kl), .ref (b + 141), .ref (b + 142), .ref (b + 143), .ref (b + 144), .ref (b + 145)]) rfl (Nat.le_of_ble_eq_true rfl) dX7_feed_17 (fun H locs E3 hP hS hE0 hq => ?_)
      have hE1 := (hq 120 (by decide)).trans hE1
      have hfr : ∀ j, j ≠ 119 → j ≠ 120 → E3 j = E j := fun j h0 h1 => (hq j h0).trans (hfr j h0 h1)
      refine lv_aload_n X.1 X.2.1 dX7_feed_20 rfl (lv_at hl 0 rfl) ?_
      refine wm_get X hP hlt0 hE0 rfl wm_inX7 0 (by decide) wq5_22 rfl dX7_feed_21 ?_
      refine lv_if_le (tgt := 29) X.1 X.2.1 dX7_feed_24 (by decide) (fun _ => ?_) (fun h => by exfalso; revert h; decide)
      refine lv_aload_n X.1 X.2.1 dX7_feed_29 rfl (lv_at hl 0 rfl) ?_
      refine wm_get X hP hlt0 hE0 rfl wm_inX7 2 (by decide) wq5_24 rfl dX7_feed_30 ?_
      refine lv_iload_n X.1 X.2.1 dX7_feed_33 rfl (lv_at hl 1 rfl) ?_
      refine wm_iadd (x := sz) (y := k) X dX7_feed_34 ?_
      refine lv_sipush (v := nI 200) X.1 X.2.1 dX7_feed_35 (by decide) ?_
      refine wm_icmp_le (x := (sz + k)) (y := 200) (tgt := 43) X (by omega) (by decide) dX7_feed_38 (by decide) (fun hc38 => ?_) (fun hc38 => ?_)
      · refine lv_iconst (v := nI 0) X.1 X.2.1 dX7_feed_43 (by decide) ?_
        refine lv_istore (lv' := [(4, .int (nI 0)), (0, .ref (b + 119)), (1, .int (nI k)), (2, .long (lN v))]) X.1 X.2.1 dX7_feed_44 hl (by decide) rfl (fun ls hl => ?_)
        have L46 : ∀ (fu : Nat) (i : Nat) (tx1 : Nat → Nat), 8 - i < fu → (i ≤ k) → (tx1 = fun j => if sz ≤ j ∧ j < sz + i then v >>> (8 * (j - sz)) % 256 else tx j) → ∀ (E5 : Nat → va_E) (H : Heap) (locs : List Loc) (ls : Array Slot), wm_P D b n E5 H → wm_S b s.heap H locs → E5 119 = .inr (7, [.int (nI 0), .ref (b + 120), .int (nI (sz + i)), .int (nI fa), .int (nI pl), .ref (b + 121), .ref (b + 122), .ref (b + 123), .ref (b + 124), .ref (b + 125), .ref (b + 126), .ref (b + 127), .int (nI ats), .int (nI aa), .ref (b + 128), .ref (b + 129), .ref (b + 130), .ref (b + 131), .ref (b + 132), .ref (b + 133), .int (nI op), .int (nI be.toNat), .int (nI fi), .int (nI la), .ref (b + 134), .ref (b + 135), .ref (b + 136), .int (nI wa), .ref (b + 137), .ref (b + 138), .ref (b + 139), .int (nI wc), .ref (b + 140), .int (nI kl), .ref (b + 141), .ref (b + 142), .ref (b + 143), .ref (b + 144), .ref (b + 145)]) → E5 120 = wm_I C 200 tx1 → (∀ j, j ≠ 119 → j ≠ 120 → E5 j = E j) → lv_has ls 5 [(0, .ref (b + 119)), (1, .int (nI k)), (2, .long (lN v)), (4, .int (nI i))] → W p l e R s m args below meth c H locs 0 0 Q (F0 m 46 ls []) := by
          intro fu
          induction fu with
          | zero => intro i tx1 hm; exact absurd hm (Nat.not_lt_zero _)
          | succ fu ih46 =>
            intro i tx1 hm hi h1 E5 H locs ls hP hS hE0 hE1 hfr hl
            refine lv_iload X.1 X.2.1 dX7_feed_46 (lv_at hl 3 rfl) ?_
            refine lv_iload_n X.1 X.2.1 dX7_feed_48 rfl (lv_at hl 1 rfl) ?_
            refine wm_icmp_ge (x := i) (y := k) (tgt := 89) X (by omega) (by omega) dX7_feed_49 (by decide) (fun hc49 => ?_) (fun hc49 => ?_)
            · refine lv_aload_n X.1 X.2.1 dX7_feed_89 rfl (lv_at hl 0 rfl) ?_
              refine wm_get X hP hlt0 hE0 rfl wm_inX7 2 (by decide) wq5_24 rfl dX7_feed_90 ?_
              have hik : i = k := by omega
              exact wm_iret (post := pmfeed1 C b E th sz fa pl ats aa op fi la wa wc kl be k v tx) X hr hP hS ⟨(by rw [hik]), (by rw [hik] at hE0; exact hE0), (by rw [h1, hik] at hE1; exact hE1), hfr⟩ hQ dX7_feed_93
            · refine lv_aload_n X.1 X.2.1 dX7_feed_52 rfl (lv_at hl 0 rfl) ?_
              refine wm_get X hP hlt0 hE0 rfl wm_inX7 1 (by decide) wq5_23 rfl dX7_feed_53 ?_
              refine lv_aload_n X.1 X.2.1 dX7_feed_56 rfl (lv_at hl 0 rfl) ?_
              refine wm_get X hP hlt0 hE0 rfl wm_inX7 2 (by decide) wq5_24 rfl dX7_feed_57 ?_
              refine lv_lload_n X.1 X.2.1 dX7_feed_60 rfl (lv_at hl 2 rfl) ?_
              refine lv_bipush (v := nI 8) X.1 X.2.1 dX7_feed_61 (by decide) ?_
              refine lv_iload X.1 X.2.1 dX7_feed_63 (lv_at hl 3 rfl) ?_
              refine wm_imul (x := 8) (y := i) X dX7_feed_65 ?_
              refine lv_lshr X.1 X.2.1 dX7_feed_66 rfl ?_
              refine lv_ldc2 (v := lN 255) X.1 X.2.1 X.2.2.2.1 (X.2.2.2.2.1 _ wq5_148) dX7_feed_67 ?_
              refine lv_land X.1 X.2.1 dX7_feed_70 ?_
              refine lv_l2i X.1 X.2.1 dX7_feed_71 (wm_shb v i (by omega)) ?_
              refine wm_iast (i := (sz + i)) (x := (v >>> (8 * i) % 256)) X hP hS hlt1 hE1 (by omega) (by decide) dX7_feed_72 (fun H locs E7 hP hS hE1 hq => ?_)
              have hE0 := (hq 119 (by decide)).trans hE0
              have hfr : ∀ j, j ≠ 119 → j ≠ 120 → E7 j = E j := fun j h0 h1 => (hq j h1).trans (hfr j h0 h1)
              refine lv_aload_n X.1 X.2.1 dX7_feed_73 rfl (lv_at hl 0 rfl) ?_
              refine lv_dup X.1 X.2.1 dX7_feed_74 rfl ?_
              refine wm_get X hP hlt0 hE0 rfl wm_inX7 2 (by decide) wq5_24 rfl dX7_feed_75 ?_
              refine lv_iconst (v := nI 1) X.1 X.2.1 dX7_feed_78 (by decide) ?_
              refine wm_iadd (x := (sz + i)) (y := 1) X dX7_feed_79 ?_
              refine wm_put (v := .int (nI ((sz + i) + 1))) X hP hS hlt0 hE0 rfl wm_inX7 tyX7 tyX7_ok nmX7 2 (by decide) wq5_24 rfl rfl rfl (fs1 := [.int (nI 0), .ref (b + 120), .int (nI ((sz + i) + 1)), .int (nI fa), .int (nI pl), .ref (b + 121), .ref (b + 122), .ref (b + 123), .ref (b + 124), .ref (b + 125), .ref (b + 126), .ref (b + 127), .int (nI ats), .int (nI aa), .ref (b + 128), .ref (b + 129), .ref (b + 130), .ref (b + 131), .ref (b + 132), .ref (b + 133), .int (nI op), .int (nI be.toNat), .int (nI fi), .int (nI la), .ref (b + 134), .ref (b + 135), .ref (b + 136), .int (nI wa), .ref (b + 137), .ref (b + 138), .ref (b + 139), .int (nI wc), .ref (b + 140), .int (nI kl), .ref (b + 141), .ref (b + 142), .ref (b + 143), .ref (b + 144), .ref (b + 145)]) rfl (Nat.le_of_ble_eq_true rfl) dX7_feed_80 (fun H locs E8 hP hS hE0 hq => ?_)
              have hE1 := (hq 120 (by decide)).trans hE1
              have hfr : ∀ j, j ≠ 119 → j ≠ 120 → E8 j = E j := fun j h0 h1 => (hq j h0).trans (hfr j h0 h1)
              refine lv_iinc (v := nI (i + 1)) (lv' := [(4, .int (nI (i + 1))), (0, .ref (b + 119)), (1, .int (nI k)), (2, .long (lN v))]) X.1 X.2.1 dX7_feed_83 hl (k := 3) rfl (wm_inc i) (by decide) rfl (fun ls hl => ?_)
              refine lv_goto (tgt := 46) X.1 X.2.1 dX7_feed_86 (by decide) ?_
              exact ih46 (i + 1) (va_up tx1 (sz + i) (v >>> (8 * i) % 256)) (by omega) (by omega) (wm_ftx h1) E8 _ _ _ hP hS hE0 hE1 hfr (lv_sub hl [1, 2, 3, 0] rfl)
        exact L46 (8 - 0 + 1) 0 tx (Nat.lt_succ_self _) (by omega) (funext fun j => (if_neg (by omega)).symm) E3 _ _ _ hP hS hE0 hE1 hfr (lv_sub hl [1, 2, 3, 0] rfl)
      · exact absurd hc38 (by omega)
    · exact absurd hc9 (by omega)
def pX7_wipe (C : Nat → ClassId) (b : Nat) (E : Nat → va_E) (th sz fa pl ats aa op fi la wa wc kl : Nat) (be : Bool) : Int32 → (Nat → va_E) → Prop := fun r E' => r = nI sz ∧ E' 119 = .inr (7, [.int (nI 0), .ref (b + 120), .int (nI 0), .int (nI fa), .int (nI pl), .ref (b + 121), .ref (b + 122), .ref (b + 123), .ref (b + 124), .ref (b + 125), .ref (b + 126), .ref (b + 127), .int (nI ats), .int (nI aa), .ref (b + 128), .ref (b + 129), .ref (b + 130), .ref (b + 131), .ref (b + 132), .ref (b + 133), .int (nI op), .int (nI be.toNat), .int (nI fi), .int (nI la), .ref (b + 134), .ref (b + 135), .ref (b + 136), .int (nI wa), .ref (b + 137), .ref (b + 138), .ref (b + 139), .int (nI wc), .ref (b + 140), .int (nI kl), .ref (b + 141), .ref (b + 142), .ref (b + 143), .ref (b + 144), .ref (b + 145)]) ∧ (∀ j, j ≠ 119 → E' j = E j)
set_option maxHeartbeats 4000000 in
set_option maxRecDepth 100000 in
theorem kX7_wipe (l : Launch) (D : va_G) (C : Nat → ClassId) (b n : Nat) (E : Nat → va_E) (th sz fa pl ats aa op fi la wa wc kl : Nat) (be : Bool) (hlt0 : 119 < n) (hE0 : E 119 = .inr (7, [.int (nI th), .ref (b + 120), .int (nI sz), .int (nI fa), .int (nI pl), .ref (b + 121), .ref (b + 122), .ref (b + 123), .ref (b + 124), .ref (b + 125), .ref (b + 126), .ref (b + 127), .int (nI ats), .int (nI aa), .ref (b + 128), .ref (b + 129), .ref (b + 130), .ref (b + 131), .ref (b + 132), .ref (b + 133), .int (nI op), .int (nI be.toNat), .int (nI fi), .int (nI la), .ref (b + 134), .ref (b + 135), .ref (b + 136), .int (nI wa), .ref (b + 137), .ref (b + 138), .ref (b + 139), .int (nI wc), .ref (b + 140), .int (nI kl), .ref (b + 141), .ref (b + 142), .ref (b + 143), .ref (b + 144), .ref (b + 145)])) : Met l yX7_wipe (wm_ws yX7_wipe cX7_wipe 2 (some .int)) { frames := 0, cells := 0, slots := 0, locals := 0 } (va_Pc [.ref (b + 119)] (wm_G D C b n E)) (va_Qi (pX7_wipe C b E th sz fa pl ats aa op fi la wa wc kl be) (fun E' t => wm_P D b n E' t.heap) (wm_A b)) 0 0 (wm_A b) := by
  refine wm_ofW (by decide) (Nat.le_of_ble_eq_true rfl) (fun p e s m below meth c ls R args Q hRe hQ X hr hnm hP hS hl => ?_)
  have hl : lv_has ls 2 [(0, .ref (b + 119))] := hl
  have hfr : ∀ j, j ≠ 119 → E j = E j := fun _ _ => rfl
  refine lv_aload_n X.1 X.2.1 dX7_wipe_0 rfl (lv_at hl 0 rfl) ?_
  refine lv_iconst (v := nI 0) X.1 X.2.1 dX7_wipe_1 (by decide) ?_
  refine wm_put (v := .int (nI 0)) X hP hS hlt0 hE0 rfl wm_inX7 tyX7 tyX7_ok nmX7 0 (by decide) wq5_22 rfl rfl rfl (fs1 := [.int (nI 0), .ref (b + 120), .int (nI sz), .int (nI fa), .int (nI pl), .ref (b + 121), .ref (b + 122), .ref (b + 123), .ref (b + 124), .ref (b + 125), .ref (b + 126), .ref (b + 127), .int (nI ats), .int (nI aa), .ref (b + 128), .ref (b + 129), .ref (b + 130), .ref (b + 131), .ref (b + 132), .ref (b + 133), .int (nI op), .int (nI be.toNat), .int (nI fi), .int (nI la), .ref (b + 134), .ref (b + 135), .ref (b + 136), .int (nI wa), .ref (b + 137), .ref (b + 138), .ref (b + 139), .int (nI wc), .ref (b + 140), .int (nI kl), .ref (b + 141), .ref (b + 142), .ref (b + 143), .ref (b + 144), .ref (b + 145)]) rfl (Nat.le_of_ble_eq_true rfl) dX7_wipe_2 (fun H locs E1 hP hS hE0 hq => ?_)
  have hfr : ∀ j, j ≠ 119 → E1 j = E j := fun j h0 => (hq j h0).trans (hfr j h0)
  refine lv_aload_n X.1 X.2.1 dX7_wipe_5 rfl (lv_at hl 0 rfl) ?_
  refine wm_get X hP hlt0 hE0 rfl wm_inX7 2 (by decide) wq5_24 rfl dX7_wipe_6 ?_
  refine lv_istore_n (lv' := [(1, .int (nI sz)), (0, .ref (b + 119))]) X.1 X.2.1 dX7_wipe_9 rfl hl (by decide) rfl (fun ls hl => ?_)
  refine lv_aload_n X.1 X.2.1 dX7_wipe_10 rfl (lv_at hl 1 rfl) ?_
  refine lv_iconst (v := nI 0) X.1 X.2.1 dX7_wipe_11 (by decide) ?_
  refine wm_put (v := .int (nI 0)) X hP hS hlt0 hE0 rfl wm_inX7 tyX7 tyX7_ok nmX7 2 (by decide) wq5_24 rfl rfl rfl (fs1 := [.int (nI 0), .ref (b + 120), .int (nI 0), .int (nI fa), .int (nI pl), .ref (b + 121), .ref (b + 122), .ref (b + 123), .ref (b + 124), .ref (b + 125), .ref (b + 126), .ref (b + 127), .int (nI ats), .int (nI aa), .ref (b + 128), .ref (b + 129), .ref (b + 130), .ref (b + 131), .ref (b + 132), .ref (b + 133), .int (nI op), .int (nI be.toNat), .int (nI fi), .int (nI la), .ref (b + 134), .ref (b + 135), .ref (b + 136), .int (nI wa), .ref (b + 137), .ref (b + 138), .ref (b + 139), .int (nI wc), .ref (b + 140), .int (nI kl), .ref (b + 141), .ref (b + 142), .ref (b + 143), .ref (b + 144), .ref (b + 145)]) rfl (Nat.le_of_ble_eq_true rfl) dX7_wipe_12 (fun H locs E2 hP hS hE0 hq => ?_)
  have hfr : ∀ j, j ≠ 119 → E2 j = E j := fun j h0 => (hq j h0).trans (hfr j h0)
  refine lv_iload_n X.1 X.2.1 dX7_wipe_15 rfl (lv_at hl 0 rfl) ?_
  exact wm_iret (post := pX7_wipe C b E th sz fa pl ats aa op fi la wa wc kl be) X hr hP hS ⟨rfl, hE0, hfr⟩ hQ dX7_wipe_16
def pX7_fault (C : Nat → ClassId) (b : Nat) (E : Nat → va_E) (th sz fa pl ats aa op fi la wa wc kl : Nat) (be : Bool) : Int32 → (Nat → va_E) → Prop := fun r E' => r = nI fa ∧ E' 119 = .inr (7, [.int (nI 0), .ref (b + 120), .int (nI sz), .int (nI fa), .int (nI pl), .ref (b + 121), .ref (b + 122), .ref (b + 123), .ref (b + 124), .ref (b + 125), .ref (b + 126), .ref (b + 127), .int (nI ats), .int (nI aa), .ref (b + 128), .ref (b + 129), .ref (b + 130), .ref (b + 131), .ref (b + 132), .ref (b + 133), .int (nI op), .int (nI be.toNat), .int (nI fi), .int (nI la), .ref (b + 134), .ref (b + 135), .ref (b + 136), .int (nI wa), .ref (b + 137), .ref (b + 138), .ref (b + 139), .int (nI wc), .ref (b + 140), .int (nI kl), .ref (b + 141), .ref (b + 142), .ref (b + 143), .ref (b + 144), .ref (b + 145)]) ∧ (∀ j, j ≠ 119 → E' j = E j)
set_option maxHeartbeats 4000000 in
set_option maxRecDepth 100000 in
theorem kX7_fault (l : Launch) (D : va_G) (C : Nat → ClassId) (b n : Nat) (E : Nat → va_E) (th sz fa pl ats aa op fi la wa wc kl : Nat) (be : Bool) (hlt0 : 119 < n) (hE0 : E 119 = .inr (7, [.int (nI th), .ref (b + 120), .int (nI sz), .int (nI fa), .int (nI pl), .ref (b + 121), .ref (b + 122), .ref (b + 123), .ref (b + 124), .ref (b + 125), .ref (b + 126), .ref (b + 127), .int (nI ats), .int (nI aa), .ref (b + 128), .ref (b + 129), .ref (b + 130), .ref (b + 131), .ref (b + 132), .ref (b + 133), .int (nI op), .int (nI be.toNat), .int (nI fi), .int (nI la), .ref (b + 134), .ref (b + 135), .ref (b + 136), .int (nI wa), .ref (b + 137), .ref (b + 138), .ref (b + 139), .int (nI wc), .ref (b + 140), .int (nI kl), .ref (b + 141), .ref (b + 142), .ref (b + 143), .ref (b + 144), .ref (b + 145)])) : Met l yX7_fault (wm_ws yX7_fault cX7_fault 1 (some .int)) { frames := 0, cells := 0, slots := 0, locals := 0 } (va_Pc [.ref (b + 119)] (wm_G D C b n E)) (va_Qi (pX7_fault C b E th sz fa pl ats aa op fi la wa wc kl be) (fun E' t => wm_P D b n E' t.heap) (wm_A b)) 0 0 (wm_A b) := by
  refine wm_ofW (by decide) (Nat.le_of_ble_eq_true rfl) (fun p e s m below meth c ls R args Q hRe hQ X hr hnm hP hS hl => ?_)
  have hl : lv_has ls 1 [(0, .ref (b + 119))] := hl
  have hfr : ∀ j, j ≠ 119 → E j = E j := fun _ _ => rfl
  refine lv_aload_n X.1 X.2.1 dX7_fault_0 rfl (lv_at hl 0 rfl) ?_
  refine lv_iconst (v := nI 0) X.1 X.2.1 dX7_fault_1 (by decide) ?_
  refine wm_put (v := .int (nI 0)) X hP hS hlt0 hE0 rfl wm_inX7 tyX7 tyX7_ok nmX7 0 (by decide) wq5_22 rfl rfl rfl (fs1 := [.int (nI 0), .ref (b + 120), .int (nI sz), .int (nI fa), .int (nI pl), .ref (b + 121), .ref (b + 122), .ref (b + 123), .ref (b + 124), .ref (b + 125), .ref (b + 126), .ref (b + 127), .int (nI ats), .int (nI aa), .ref (b + 128), .ref (b + 129), .ref (b + 130), .ref (b + 131), .ref (b + 132), .ref (b + 133), .int (nI op), .int (nI be.toNat), .int (nI fi), .int (nI la), .ref (b + 134), .ref (b + 135), .ref (b + 136), .int (nI wa), .ref (b + 137), .ref (b + 138), .ref (b + 139), .int (nI wc), .ref (b + 140), .int (nI kl), .ref (b + 141), .ref (b + 142), .ref (b + 143), .ref (b + 144), .ref (b + 145)]) rfl (Nat.le_of_ble_eq_true rfl) dX7_fault_2 (fun H locs E1 hP hS hE0 hq => ?_)
  have hfr : ∀ j, j ≠ 119 → E1 j = E j := fun j h0 => (hq j h0).trans (hfr j h0)
  refine lv_aload_n X.1 X.2.1 dX7_fault_5 rfl (lv_at hl 0 rfl) ?_
  refine wm_get X hP hlt0 hE0 rfl wm_inX7 3 (by decide) wq5_25 rfl dX7_fault_6 ?_
  exact wm_iret (post := pX7_fault C b E th sz fa pl ats aa op fi la wa wc kl be) X hr hP hS ⟨rfl, hE0, hfr⟩ hQ dX7_fault_9
def pX7_place (C : Nat → ClassId) (b : Nat) (E : Nat → va_E) (th sz fa pl ats aa op fi la wa wc kl : Nat) (be : Bool) : Int32 → (Nat → va_E) → Prop := fun r E' => r = nI pl ∧ E' 119 = .inr (7, [.int (nI 0), .ref (b + 120), .int (nI sz), .int (nI fa), .int (nI pl), .ref (b + 121), .ref (b + 122), .ref (b + 123), .ref (b + 124), .ref (b + 125), .ref (b + 126), .ref (b + 127), .int (nI ats), .int (nI aa), .ref (b + 128), .ref (b + 129), .ref (b + 130), .ref (b + 131), .ref (b + 132), .ref (b + 133), .int (nI op), .int (nI be.toNat), .int (nI fi), .int (nI la), .ref (b + 134), .ref (b + 135), .ref (b + 136), .int (nI wa), .ref (b + 137), .ref (b + 138), .ref (b + 139), .int (nI wc), .ref (b + 140), .int (nI kl), .ref (b + 141), .ref (b + 142), .ref (b + 143), .ref (b + 144), .ref (b + 145)]) ∧ (∀ j, j ≠ 119 → E' j = E j)
set_option maxHeartbeats 4000000 in
set_option maxRecDepth 100000 in
theorem kX7_place (l : Launch) (D : va_G) (C : Nat → ClassId) (b n : Nat) (E : Nat → va_E) (th sz fa pl ats aa op fi la wa wc kl : Nat) (be : Bool) (hlt0 : 119 < n) (hE0 : E 119 = .inr (7, [.int (nI th), .ref (b + 120), .int (nI sz), .int (nI fa), .int (nI pl), .ref (b + 121), .ref (b + 122), .ref (b + 123), .ref (b + 124), .ref (b + 125), .ref (b + 126), .ref (b + 127), .int (nI ats), .int (nI aa), .ref (b + 128), .ref (b + 129), .ref (b + 130), .ref (b + 131), .ref (b + 132), .ref (b + 133), .int (nI op), .int (nI be.toNat), .int (nI fi), .int (nI la), .ref (b + 134), .ref (b + 135), .ref (b + 136), .int (nI wa), .ref (b + 137), .ref (b + 138), .ref (b + 139), .int (nI wc), .ref (b + 140), .int (nI kl), .ref (b + 141), .ref (b + 142), .ref (b + 143), .ref (b + 144), .ref (b + 145)])) : Met l yX7_place (wm_ws yX7_place cX7_place 1 (some .int)) { frames := 0, cells := 0, slots := 0, locals := 0 } (va_Pc [.ref (b + 119)] (wm_G D C b n E)) (va_Qi (pX7_place C b E th sz fa pl ats aa op fi la wa wc kl be) (fun E' t => wm_P D b n E' t.heap) (wm_A b)) 0 0 (wm_A b) := by
  refine wm_ofW (by decide) (Nat.le_of_ble_eq_true rfl) (fun p e s m below meth c ls R args Q hRe hQ X hr hnm hP hS hl => ?_)
  have hl : lv_has ls 1 [(0, .ref (b + 119))] := hl
  have hfr : ∀ j, j ≠ 119 → E j = E j := fun _ _ => rfl
  refine lv_aload_n X.1 X.2.1 dX7_place_0 rfl (lv_at hl 0 rfl) ?_
  refine lv_iconst (v := nI 0) X.1 X.2.1 dX7_place_1 (by decide) ?_
  refine wm_put (v := .int (nI 0)) X hP hS hlt0 hE0 rfl wm_inX7 tyX7 tyX7_ok nmX7 0 (by decide) wq5_22 rfl rfl rfl (fs1 := [.int (nI 0), .ref (b + 120), .int (nI sz), .int (nI fa), .int (nI pl), .ref (b + 121), .ref (b + 122), .ref (b + 123), .ref (b + 124), .ref (b + 125), .ref (b + 126), .ref (b + 127), .int (nI ats), .int (nI aa), .ref (b + 128), .ref (b + 129), .ref (b + 130), .ref (b + 131), .ref (b + 132), .ref (b + 133), .int (nI op), .int (nI be.toNat), .int (nI fi), .int (nI la), .ref (b + 134), .ref (b + 135), .ref (b + 136), .int (nI wa), .ref (b + 137), .ref (b + 138), .ref (b + 139), .int (nI wc), .ref (b + 140), .int (nI kl), .ref (b + 141), .ref (b + 142), .ref (b + 143), .ref (b + 144), .ref (b + 145)]) rfl (Nat.le_of_ble_eq_true rfl) dX7_place_2 (fun H locs E1 hP hS hE0 hq => ?_)
  have hfr : ∀ j, j ≠ 119 → E1 j = E j := fun j h0 => (hq j h0).trans (hfr j h0)
  refine lv_aload_n X.1 X.2.1 dX7_place_5 rfl (lv_at hl 0 rfl) ?_
  refine wm_get X hP hlt0 hE0 rfl wm_inX7 4 (by decide) wq5_26 rfl dX7_place_6 ?_
  exact wm_iret (post := pX7_place C b E th sz fa pl ats aa op fi la wa wc kl be) X hr hP hS ⟨rfl, hE0, hfr⟩ hQ dX7_place_9
def pX7_length (C : Nat → ClassId) (b : Nat) (E : Nat → va_E) (th sz fa pl ats aa op fi la wa wc kl : Nat) (be : Bool) : Int32 → (Nat → va_E) → Prop := fun r E' => r = nI kl ∧ E' 119 = .inr (7, [.int (nI 0), .ref (b + 120), .int (nI sz), .int (nI fa), .int (nI pl), .ref (b + 121), .ref (b + 122), .ref (b + 123), .ref (b + 124), .ref (b + 125), .ref (b + 126), .ref (b + 127), .int (nI ats), .int (nI aa), .ref (b + 128), .ref (b + 129), .ref (b + 130), .ref (b + 131), .ref (b + 132), .ref (b + 133), .int (nI op), .int (nI be.toNat), .int (nI fi), .int (nI la), .ref (b + 134), .ref (b + 135), .ref (b + 136), .int (nI wa), .ref (b + 137), .ref (b + 138), .ref (b + 139), .int (nI wc), .ref (b + 140), .int (nI kl), .ref (b + 141), .ref (b + 142), .ref (b + 143), .ref (b + 144), .ref (b + 145)]) ∧ (∀ j, j ≠ 119 → E' j = E j)
set_option maxHeartbeats 4000000 in
set_option maxRecDepth 100000 in
theorem kX7_length (l : Launch) (D : va_G) (C : Nat → ClassId) (b n : Nat) (E : Nat → va_E) (th sz fa pl ats aa op fi la wa wc kl : Nat) (be : Bool) (hlt0 : 119 < n) (hE0 : E 119 = .inr (7, [.int (nI th), .ref (b + 120), .int (nI sz), .int (nI fa), .int (nI pl), .ref (b + 121), .ref (b + 122), .ref (b + 123), .ref (b + 124), .ref (b + 125), .ref (b + 126), .ref (b + 127), .int (nI ats), .int (nI aa), .ref (b + 128), .ref (b + 129), .ref (b + 130), .ref (b + 131), .ref (b + 132), .ref (b + 133), .int (nI op), .int (nI be.toNat), .int (nI fi), .int (nI la), .ref (b + 134), .ref (b + 135), .ref (b + 136), .int (nI wa), .ref (b + 137), .ref (b + 138), .ref (b + 139), .int (nI wc), .ref (b + 140), .int (nI kl), .ref (b + 141), .ref (b + 142), .ref (b + 143), .ref (b + 144), .ref (b + 145)])) : Met l yX7_length (wm_ws yX7_length cX7_length 1 (some .int)) { frames := 0, cells := 0, slots := 0, locals := 0 } (va_Pc [.ref (b + 119)] (wm_G D C b n E)) (va_Qi (pX7_length C b E th sz fa pl ats aa op fi la wa wc kl be) (fun E' t => wm_P D b n E' t.heap) (wm_A b)) 0 0 (wm_A b) := by
  refine wm_ofW (by decide) (Nat.le_of_ble_eq_true rfl) (fun p e s m below meth c ls R args Q hRe hQ X hr hnm hP hS hl => ?_)
  have hl : lv_has ls 1 [(0, .ref (b + 119))] := hl
  have hfr : ∀ j, j ≠ 119 → E j = E j := fun _ _ => rfl
  refine lv_aload_n X.1 X.2.1 dX7_length_0 rfl (lv_at hl 0 rfl) ?_
  refine lv_iconst (v := nI 0) X.1 X.2.1 dX7_length_1 (by decide) ?_
  refine wm_put (v := .int (nI 0)) X hP hS hlt0 hE0 rfl wm_inX7 tyX7 tyX7_ok nmX7 0 (by decide) wq5_22 rfl rfl rfl (fs1 := [.int (nI 0), .ref (b + 120), .int (nI sz), .int (nI fa), .int (nI pl), .ref (b + 121), .ref (b + 122), .ref (b + 123), .ref (b + 124), .ref (b + 125), .ref (b + 126), .ref (b + 127), .int (nI ats), .int (nI aa), .ref (b + 128), .ref (b + 129), .ref (b + 130), .ref (b + 131), .ref (b + 132), .ref (b + 133), .int (nI op), .int (nI be.toNat), .int (nI fi), .int (nI la), .ref (b + 134), .ref (b + 135), .ref (b + 136), .int (nI wa), .ref (b + 137), .ref (b + 138), .ref (b + 139), .int (nI wc), .ref (b + 140), .int (nI kl), .ref (b + 141), .ref (b + 142), .ref (b + 143), .ref (b + 144), .ref (b + 145)]) rfl (Nat.le_of_ble_eq_true rfl) dX7_length_2 (fun H locs E1 hP hS hE0 hq => ?_)
  have hfr : ∀ j, j ≠ 119 → E1 j = E j := fun j h0 => (hq j h0).trans (hfr j h0)
  refine lv_aload_n X.1 X.2.1 dX7_length_5 rfl (lv_at hl 0 rfl) ?_
  refine wm_get X hP hlt0 hE0 rfl wm_inX7 33 (by decide) wq5_55 rfl dX7_length_6 ?_
  exact wm_iret (post := pX7_length C b E th sz fa pl ats aa op fi la wa wc kl be) X hr hP hS ⟨rfl, hE0, hfr⟩ hQ dX7_length_9
def pmletterX (C : Nat → ClassId) (b : Nat) (E : Nat → va_E) (th sz fa pl ats aa op fi la wa wc kl : Nat) (be : Bool) (x : Int32) : Int32 → (Nat → va_E) → Prop := fun r E' => r = nI 0 ∧ E' 119 = .inr (7, [.int (nI 1), .ref (b + 120), .int (nI sz), .int (nI fa), .int (nI pl), .ref (b + 121), .ref (b + 122), .ref (b + 123), .ref (b + 124), .ref (b + 125), .ref (b + 126), .ref (b + 127), .int (nI ats), .int (nI aa), .ref (b + 128), .ref (b + 129), .ref (b + 130), .ref (b + 131), .ref (b + 132), .ref (b + 133), .int (nI op), .int (nI be.toNat), .int (nI fi), .int (nI la), .ref (b + 134), .ref (b + 135), .ref (b + 136), .int (nI wa), .ref (b + 137), .ref (b + 138), .ref (b + 139), .int (nI wc), .ref (b + 140), .int (nI kl), .ref (b + 141), .ref (b + 142), .ref (b + 143), .ref (b + 144), .ref (b + 145)]) ∧ (∀ j, j ≠ 119 → E' j = E j)
set_option maxHeartbeats 4000000 in
set_option maxRecDepth 100000 in
theorem kmletterX (l : Launch) (D : va_G) (C : Nat → ClassId) (b n : Nat) (E : Nat → va_E) (th sz fa pl ats aa op fi la wa wc kl : Nat) (be : Bool) (x : Int32) (hlt0 : 119 < n) (hE0 : E 119 = .inr (7, [.int (nI th), .ref (b + 120), .int (nI sz), .int (nI fa), .int (nI pl), .ref (b + 121), .ref (b + 122), .ref (b + 123), .ref (b + 124), .ref (b + 125), .ref (b + 126), .ref (b + 127), .int (nI ats), .int (nI aa), .ref (b + 128), .ref (b + 129), .ref (b + 130), .ref (b + 131), .ref (b + 132), .ref (b + 133), .int (nI op), .int (nI be.toNat), .int (nI fi), .int (nI la), .ref (b + 134), .ref (b + 135), .ref (b + 136), .int (nI wa), .ref (b + 137), .ref (b + 138), .ref (b + 139), .int (nI wc), .ref (b + 140), .int (nI kl), .ref (b + 141), .ref (b + 142), .ref (b + 143), .ref (b + 144), .ref (b + 145)])) (hk : ¬ (0 ≤ x ∧ x < nI kl)) : Met l yX7_letter (wm_ws yX7_letter cX7_letter 2 (some .int)) { frames := 0, cells := 0, slots := 0, locals := 0 } (va_Pc [.ref (b + 119), .int x] (wm_G D C b n E)) (va_Qi (pmletterX C b E th sz fa pl ats aa op fi la wa wc kl be x) (fun E' t => wm_P D b n E' t.heap) (wm_A b)) 0 0 (wm_A b) := by
  refine wm_ofW (by decide) (Nat.le_of_ble_eq_true rfl) (fun p e s m below meth c ls R args Q hRe hQ X hr hnm hP hS hl => ?_)
  have hl : lv_has ls 2 [(0, .ref (b + 119)), (1, .int x)] := hl
  have hfr : ∀ j, j ≠ 119 → E j = E j := fun _ _ => rfl
  refine lv_aload_n X.1 X.2.1 dX7_letter_0 rfl (lv_at hl 0 rfl) ?_
  refine lv_iload_n X.1 X.2.1 dX7_letter_1 rfl (lv_at hl 1 rfl) ?_
  refine lv_if_lt (tgt := 13) X.1 X.2.1 dX7_letter_2 (by decide) (fun hc2 => ?_) (fun hc2 => ?_)
  · refine lv_iconst (v := nI 1) X.1 X.2.1 dX7_letter_13 (by decide) ?_
    refine lv_goto (tgt := 18) X.1 X.2.1 dX7_letter_14 (by decide) ?_
    refine wm_put (v := .int (nI 1)) X hP hS hlt0 hE0 rfl wm_inX7 tyX7 tyX7_ok nmX7 0 (by decide) wq5_22 rfl rfl rfl (fs1 := [.int (nI 1), .ref (b + 120), .int (nI sz), .int (nI fa), .int (nI pl), .ref (b + 121), .ref (b + 122), .ref (b + 123), .ref (b + 124), .ref (b + 125), .ref (b + 126), .ref (b + 127), .int (nI ats), .int (nI aa), .ref (b + 128), .ref (b + 129), .ref (b + 130), .ref (b + 131), .ref (b + 132), .ref (b + 133), .int (nI op), .int (nI be.toNat), .int (nI fi), .int (nI la), .ref (b + 134), .ref (b + 135), .ref (b + 136), .int (nI wa), .ref (b + 137), .ref (b + 138), .ref (b + 139), .int (nI wc), .ref (b + 140), .int (nI kl), .ref (b + 141), .ref (b + 142), .ref (b + 143), .ref (b + 144), .ref (b + 145)]) rfl (Nat.le_of_ble_eq_true rfl) dX7_letter_18 (fun H locs E2 hP hS hE0 hq => ?_)
    have hfr : ∀ j, j ≠ 119 → E2 j = E j := fun j h0 => (hq j h0).trans (hfr j h0)
    refine lv_aload_n X.1 X.2.1 dX7_letter_21 rfl (lv_at hl 0 rfl) ?_
    refine wm_get X hP hlt0 hE0 rfl wm_inX7 0 (by decide) wq5_22 rfl dX7_letter_22 ?_
    refine lv_if_le (tgt := 32) X.1 X.2.1 dX7_letter_25 (by decide) (fun h => by exfalso; revert h; decide) (fun _ => ?_)
    refine lv_iconst (v := nI 0) X.1 X.2.1 dX7_letter_28 (by decide) ?_
    refine lv_goto (tgt := 38) X.1 X.2.1 dX7_letter_29 (by decide) ?_
    exact wm_iret (post := pmletterX C b E th sz fa pl ats aa op fi la wa wc kl be x) X hr hP hS ⟨rfl, hE0, hfr⟩ hQ dX7_letter_38
  · refine lv_iload_n X.1 X.2.1 dX7_letter_5 rfl (lv_at hl 1 rfl) ?_
    refine lv_aload_n X.1 X.2.1 dX7_letter_6 rfl (lv_at hl 0 rfl) ?_
    refine wm_get X hP hlt0 hE0 rfl wm_inX7 33 (by decide) wq5_55 rfl dX7_letter_7 ?_
    refine lv_icmp_lt (tgt := 17) X.1 X.2.1 dX7_letter_10 (by decide) (fun hc10 => ?_) (fun hc10 => ?_)
    · exact absurd hc10 (fun q => hk ⟨Int32.not_lt.mp hc2, q⟩)
    · refine lv_iconst (v := nI 1) X.1 X.2.1 dX7_letter_13 (by decide) ?_
      refine lv_goto (tgt := 18) X.1 X.2.1 dX7_letter_14 (by decide) ?_
      refine wm_put (v := .int (nI 1)) X hP hS hlt0 hE0 rfl wm_inX7 tyX7 tyX7_ok nmX7 0 (by decide) wq5_22 rfl rfl rfl (fs1 := [.int (nI 1), .ref (b + 120), .int (nI sz), .int (nI fa), .int (nI pl), .ref (b + 121), .ref (b + 122), .ref (b + 123), .ref (b + 124), .ref (b + 125), .ref (b + 126), .ref (b + 127), .int (nI ats), .int (nI aa), .ref (b + 128), .ref (b + 129), .ref (b + 130), .ref (b + 131), .ref (b + 132), .ref (b + 133), .int (nI op), .int (nI be.toNat), .int (nI fi), .int (nI la), .ref (b + 134), .ref (b + 135), .ref (b + 136), .int (nI wa), .ref (b + 137), .ref (b + 138), .ref (b + 139), .int (nI wc), .ref (b + 140), .int (nI kl), .ref (b + 141), .ref (b + 142), .ref (b + 143), .ref (b + 144), .ref (b + 145)]) rfl (Nat.le_of_ble_eq_true rfl) dX7_letter_18 (fun H locs E4 hP hS hE0 hq => ?_)
      have hfr : ∀ j, j ≠ 119 → E4 j = E j := fun j h0 => (hq j h0).trans (hfr j h0)
      refine lv_aload_n X.1 X.2.1 dX7_letter_21 rfl (lv_at hl 0 rfl) ?_
      refine wm_get X hP hlt0 hE0 rfl wm_inX7 0 (by decide) wq5_22 rfl dX7_letter_22 ?_
      refine lv_if_le (tgt := 32) X.1 X.2.1 dX7_letter_25 (by decide) (fun h => by exfalso; revert h; decide) (fun _ => ?_)
      refine lv_iconst (v := nI 0) X.1 X.2.1 dX7_letter_28 (by decide) ?_
      refine lv_goto (tgt := 38) X.1 X.2.1 dX7_letter_29 (by decide) ?_
      exact wm_iret (post := pmletterX C b E th sz fa pl ats aa op fi la wa wc kl be x) X hr hP hS ⟨rfl, hE0, hfr⟩ hQ dX7_letter_38
def pmletter1 (C : Nat → ClassId) (b : Nat) (E : Nat → va_E) (th sz fa pl ats aa op fi la wa wc kl : Nat) (be : Bool) (t1 : Nat) (kp : Nat → Nat) : Int32 → (Nat → va_E) → Prop := fun r E' => r = nI (kp t1) ∧ E' 119 = .inr (7, [.int (nI 0), .ref (b + 120), .int (nI sz), .int (nI fa), .int (nI pl), .ref (b + 121), .ref (b + 122), .ref (b + 123), .ref (b + 124), .ref (b + 125), .ref (b + 126), .ref (b + 127), .int (nI ats), .int (nI aa), .ref (b + 128), .ref (b + 129), .ref (b + 130), .ref (b + 131), .ref (b + 132), .ref (b + 133), .int (nI op), .int (nI be.toNat), .int (nI fi), .int (nI la), .ref (b + 134), .ref (b + 135), .ref (b + 136), .int (nI wa), .ref (b + 137), .ref (b + 138), .ref (b + 139), .int (nI wc), .ref (b + 140), .int (nI kl), .ref (b + 141), .ref (b + 142), .ref (b + 143), .ref (b + 144), .ref (b + 145)]) ∧ (∀ j, j ≠ 119 → E' j = E j)
set_option maxHeartbeats 4000000 in
set_option maxRecDepth 100000 in
theorem kmletter1 (l : Launch) (D : va_G) (C : Nat → ClassId) (b n : Nat) (E : Nat → va_E) (th sz fa pl ats aa op fi la wa wc kl : Nat) (be : Bool) (t1 : Nat) (kp : Nat → Nat) (hlt0 : 119 < n) (hE0 : E 119 = .inr (7, [.int (nI th), .ref (b + 120), .int (nI sz), .int (nI fa), .int (nI pl), .ref (b + 121), .ref (b + 122), .ref (b + 123), .ref (b + 124), .ref (b + 125), .ref (b + 126), .ref (b + 127), .int (nI ats), .int (nI aa), .ref (b + 128), .ref (b + 129), .ref (b + 130), .ref (b + 131), .ref (b + 132), .ref (b + 133), .int (nI op), .int (nI be.toNat), .int (nI fi), .int (nI la), .ref (b + 134), .ref (b + 135), .ref (b + 136), .int (nI wa), .ref (b + 137), .ref (b + 138), .ref (b + 139), .int (nI wc), .ref (b + 140), .int (nI kl), .ref (b + 141), .ref (b + 142), .ref (b + 143), .ref (b + 144), .ref (b + 145)])) (hlt1 : 140 < n) (hE1 : E 140 = wm_I C 49153 kp) (hk : t1 < kl) (hkl : kl ≤ 49153) : Met l yX7_letter (wm_ws yX7_letter cX7_letter 2 (some .int)) { frames := 0, cells := 0, slots := 0, locals := 0 } (va_Pc [.ref (b + 119), .int (nI t1)] (wm_G D C b n E)) (va_Qi (pmletter1 C b E th sz fa pl ats aa op fi la wa wc kl be t1 kp) (fun E' t => wm_P D b n E' t.heap) (wm_A b)) 0 0 (wm_A b) := by
  refine wm_ofW (by decide) (Nat.le_of_ble_eq_true rfl) (fun p e s m below meth c ls R args Q hRe hQ X hr hnm hP hS hl => ?_)
  have hl : lv_has ls 2 [(0, .ref (b + 119)), (1, .int (nI t1))] := hl
  have hfr : ∀ j, j ≠ 119 → E j = E j := fun _ _ => rfl
  refine lv_aload_n X.1 X.2.1 dX7_letter_0 rfl (lv_at hl 0 rfl) ?_
  refine lv_iload_n X.1 X.2.1 dX7_letter_1 rfl (lv_at hl 1 rfl) ?_
  refine wm_if_lt (x := t1) (tgt := 13) X (by omega) dX7_letter_2 (by decide) ?_
  refine lv_iload_n X.1 X.2.1 dX7_letter_5 rfl (lv_at hl 1 rfl) ?_
  refine lv_aload_n X.1 X.2.1 dX7_letter_6 rfl (lv_at hl 0 rfl) ?_
  refine wm_get X hP hlt0 hE0 rfl wm_inX7 33 (by decide) wq5_55 rfl dX7_letter_7 ?_
  refine wm_icmp_lt (x := t1) (y := kl) (tgt := 17) X (by omega) (by omega) dX7_letter_10 (by decide) (fun hc10 => ?_) (fun hc10 => ?_)
  · refine lv_iconst (v := nI 0) X.1 X.2.1 dX7_letter_17 (by decide) ?_
    refine wm_put (v := .int (nI 0)) X hP hS hlt0 hE0 rfl wm_inX7 tyX7 tyX7_ok nmX7 0 (by decide) wq5_22 rfl rfl rfl (fs1 := [.int (nI 0), .ref (b + 120), .int (nI sz), .int (nI fa), .int (nI pl), .ref (b + 121), .ref (b + 122), .ref (b + 123), .ref (b + 124), .ref (b + 125), .ref (b + 126), .ref (b + 127), .int (nI ats), .int (nI aa), .ref (b + 128), .ref (b + 129), .ref (b + 130), .ref (b + 131), .ref (b + 132), .ref (b + 133), .int (nI op), .int (nI be.toNat), .int (nI fi), .int (nI la), .ref (b + 134), .ref (b + 135), .ref (b + 136), .int (nI wa), .ref (b + 137), .ref (b + 138), .ref (b + 139), .int (nI wc), .ref (b + 140), .int (nI kl), .ref (b + 141), .ref (b + 142), .ref (b + 143), .ref (b + 144), .ref (b + 145)]) rfl (Nat.le_of_ble_eq_true rfl) dX7_letter_18 (fun H locs E2 hP hS hE0 hq => ?_)
    have hE1 := (hq 140 (by decide)).trans hE1
    have hfr : ∀ j, j ≠ 119 → E2 j = E j := fun j h0 => (hq j h0).trans (hfr j h0)
    refine lv_aload_n X.1 X.2.1 dX7_letter_21 rfl (lv_at hl 0 rfl) ?_
    refine wm_get X hP hlt0 hE0 rfl wm_inX7 0 (by decide) wq5_22 rfl dX7_letter_22 ?_
    refine lv_if_le (tgt := 32) X.1 X.2.1 dX7_letter_25 (by decide) (fun _ => ?_) (fun h => by exfalso; revert h; decide)
    refine lv_aload_n X.1 X.2.1 dX7_letter_32 rfl (lv_at hl 0 rfl) ?_
    refine wm_get X hP hlt0 hE0 rfl wm_inX7 32 (by decide) wq5_54 rfl dX7_letter_33 ?_
    refine lv_iload_n X.1 X.2.1 dX7_letter_36 rfl (lv_at hl 1 rfl) ?_
    refine wm_iald (i := t1) X hP hlt1 hE1 (by omega) (by decide) dX7_letter_37 ?_
    exact wm_iret (post := pmletter1 C b E th sz fa pl ats aa op fi la wa wc kl be t1 kp) X hr hP hS ⟨rfl, hE0, hfr⟩ hQ dX7_letter_38
  · exact absurd hc10 (by omega)
def pnoMachX (C : Nat → ClassId) (b : Nat) (E : Nat → va_E) (x : Int32) : Int32 → (Nat → va_E) → Prop := fun r E' => r = nI true.toNat ∧ E = E'
set_option maxHeartbeats 4000000 in
set_option maxRecDepth 100000 in
theorem knoMachX (l : Launch) (D : va_G) (C : Nat → ClassId) (b n : Nat) (E : Nat → va_E) (x : Int32) (hk : ¬ (0 ≤ x ∧ x < nI 8)) : Met l yX7_noMachine (wm_ws yX7_noMachine cX7_noMachine 2 (some .boolean)) { frames := 0, cells := 0, slots := 0, locals := 0 } (va_Pc [.ref (b + 119), .int x] (wm_G D C b n E)) (va_Qi (pnoMachX C b E x) (fun E' t => wm_P D b n E' t.heap) (wm_A b)) 0 0 (wm_A b) := by
  refine wm_ofW (by decide) (Nat.le_of_ble_eq_true rfl) (fun p e s m below meth c ls R args Q hRe hQ X hr hnm hP hS hl => ?_)
  have hl : lv_has ls 2 [(0, .ref (b + 119)), (1, .int x)] := hl
  refine lv_iload_n X.1 X.2.1 dX7_noMachine_0 rfl (lv_at hl 1 rfl) ?_
  refine lv_if_lt (tgt := 10) X.1 X.2.1 dX7_noMachine_1 (by decide) (fun hc1 => ?_) (fun hc1 => ?_)
  · refine lv_iconst (v := nI 1) X.1 X.2.1 dX7_noMachine_10 (by decide) ?_
    refine lv_goto (tgt := 15) X.1 X.2.1 dX7_noMachine_11 (by decide) ?_
    exact wm_zret (v := true) (post := pnoMachX C b E x) X hr hP hS ⟨rfl, rfl⟩ hQ dX7_noMachine_15
  · refine lv_iload_n X.1 X.2.1 dX7_noMachine_4 rfl (lv_at hl 1 rfl) ?_
    refine lv_bipush (v := nI 7) X.1 X.2.1 dX7_noMachine_5 (by decide) ?_
    refine lv_icmp_le (tgt := 14) X.1 X.2.1 dX7_noMachine_7 (by decide) (fun hc7 => ?_) (fun hc7 => ?_)
    · exact absurd hc7 (fun q => hk ⟨Int32.not_lt.mp hc1, wm_le7 q⟩)
    · refine lv_iconst (v := nI 1) X.1 X.2.1 dX7_noMachine_10 (by decide) ?_
      refine lv_goto (tgt := 15) X.1 X.2.1 dX7_noMachine_11 (by decide) ?_
      exact wm_zret (v := true) (post := pnoMachX C b E x) X hr hP hS ⟨rfl, rfl⟩ hQ dX7_noMachine_15
def pnoMach (C : Nat → ClassId) (b : Nat) (E : Nat → va_E) (k : Nat) : Int32 → (Nat → va_E) → Prop := fun r E' => r = nI false.toNat ∧ E = E'
set_option maxHeartbeats 4000000 in
set_option maxRecDepth 100000 in
theorem knoMach (l : Launch) (D : va_G) (C : Nat → ClassId) (b n : Nat) (E : Nat → va_E) (k : Nat) (hk : k < 8) : Met l yX7_noMachine (wm_ws yX7_noMachine cX7_noMachine 2 (some .boolean)) { frames := 0, cells := 0, slots := 0, locals := 0 } (va_Pc [.ref (b + 119), .int (nI k)] (wm_G D C b n E)) (va_Qi (pnoMach C b E k) (fun E' t => wm_P D b n E' t.heap) (wm_A b)) 0 0 (wm_A b) := by
  refine wm_ofW (by decide) (Nat.le_of_ble_eq_true rfl) (fun p e s m below meth c ls R args Q hRe hQ X hr hnm hP hS hl => ?_)
  have hl : lv_has ls 2 [(0, .ref (b + 119)), (1, .int (nI k))] := hl
  refine lv_iload_n X.1 X.2.1 dX7_noMachine_0 rfl (lv_at hl 1 rfl) ?_
  refine wm_if_lt (x := k) (tgt := 10) X (by omega) dX7_noMachine_1 (by decide) ?_
  refine lv_iload_n X.1 X.2.1 dX7_noMachine_4 rfl (lv_at hl 1 rfl) ?_
  refine lv_bipush (v := nI 7) X.1 X.2.1 dX7_noMachine_5 (by decide) ?_
  refine wm_icmp_le (x := k) (y := 7) (tgt := 14) X (by omega) (by decide) dX7_noMachine_7 (by decide) (fun hc7 => ?_) (fun hc7 => ?_)
  · refine lv_iconst (v := nI 0) X.1 X.2.1 dX7_noMachine_14 (by decide) ?_
    exact wm_zret (v := false) (post := pnoMach C b E k) X hr hP hS ⟨rfl, rfl⟩ hQ dX7_noMachine_15
  · exact absurd hc7 (by omega)
def pX7_clearNew (C : Nat → ClassId) (b : Nat) (E : Nat → va_E) (th sz fa pl ats aa op fi la wa wc kl : Nat) (be : Bool) (na : Nat → Nat) : (Nat → va_E) → Prop := fun E' => ∃ (na1 : Nat → Nat), E' 125 = wm_I C 192 na1 ∧ (∀ j, j ≠ 125 → E' j = E j) ∧ (∀ j, j < 192 → na1 j = 0)
set_option maxHeartbeats 4000000 in
set_option maxRecDepth 100000 in
theorem kX7_clearNew (l : Launch) (D : va_G) (C : Nat → ClassId) (b n : Nat) (E : Nat → va_E) (th sz fa pl ats aa op fi la wa wc kl : Nat) (be : Bool) (na : Nat → Nat) (hlt0 : 119 < n) (hE0 : E 119 = .inr (7, [.int (nI th), .ref (b + 120), .int (nI sz), .int (nI fa), .int (nI pl), .ref (b + 121), .ref (b + 122), .ref (b + 123), .ref (b + 124), .ref (b + 125), .ref (b + 126), .ref (b + 127), .int (nI ats), .int (nI aa), .ref (b + 128), .ref (b + 129), .ref (b + 130), .ref (b + 131), .ref (b + 132), .ref (b + 133), .int (nI op), .int (nI be.toNat), .int (nI fi), .int (nI la), .ref (b + 134), .ref (b + 135), .ref (b + 136), .int (nI wa), .ref (b + 137), .ref (b + 138), .ref (b + 139), .int (nI wc), .ref (b + 140), .int (nI kl), .ref (b + 141), .ref (b + 142), .ref (b + 143), .ref (b + 144), .ref (b + 145)])) (hlt1 : 125 < n) (hE1 : E 125 = wm_I C 192 na) : Met l yX7_clearNew (wm_ws yX7_clearNew cX7_clearNew 2 none) { frames := 0, cells := 0, slots := 0, locals := 0 } (va_Pc [.ref (b + 119)] (wm_G D C b n E)) (va_Qv (pX7_clearNew C b E th sz fa pl ats aa op fi la wa wc kl be na) (fun E' t => wm_P D b n E' t.heap) (wm_A b)) 0 0 (wm_A b) := by
  refine wm_ofW (by decide) (Nat.le_of_ble_eq_true rfl) (fun p e s m below meth c ls R args Q hRe hQ X hr hnm hP hS hl => ?_)
  have hl : lv_has ls 2 [(0, .ref (b + 119))] := hl
  have hfr : ∀ j, j ≠ 125 → E j = E j := fun _ _ => rfl
  refine lv_iconst (v := nI 0) X.1 X.2.1 dX7_clearNew_0 (by decide) ?_
  refine lv_istore_n (lv' := [(1, .int (nI 0)), (0, .ref (b + 119))]) X.1 X.2.1 dX7_clearNew_1 rfl hl (by decide) rfl (fun ls hl => ?_)
  have L2 : ∀ (fu : Nat) (i : Nat) (na1 : Nat → Nat), 192 - i < fu → (i ≤ 192) → (∀ j, j < i → na1 j = 0) → ∀ (E1 : Nat → va_E) (H : Heap) (locs : List Loc) (ls : Array Slot), wm_P D b n E1 H → wm_S b s.heap H locs → E1 119 = .inr (7, [.int (nI th), .ref (b + 120), .int (nI sz), .int (nI fa), .int (nI pl), .ref (b + 121), .ref (b + 122), .ref (b + 123), .ref (b + 124), .ref (b + 125), .ref (b + 126), .ref (b + 127), .int (nI ats), .int (nI aa), .ref (b + 128), .ref (b + 129), .ref (b + 130), .ref (b + 131), .ref (b + 132), .ref (b + 133), .int (nI op), .int (nI be.toNat), .int (nI fi), .int (nI la), .ref (b + 134), .ref (b + 135), .ref (b + 136), .int (nI wa), .ref (b + 137), .ref (b + 138), .ref (b + 139), .int (nI wc), .ref (b + 140), .int (nI kl), .ref (b + 141), .ref (b + 142), .ref (b + 143), .ref (b + 144), .ref (b + 145)]) → E1 125 = wm_I C 192 na1 → (∀ j, j ≠ 125 → E1 j = E j) → lv_has ls 2 [(0, .ref (b + 119)), (1, .int (nI i))] → W p l e R s m args below meth c H locs 0 0 Q (F0 m 2 ls []) := by
    intro fu
    induction fu with
    | zero => intro i na1 hm; exact absurd hm (Nat.not_lt_zero _)
    | succ fu ih2 =>
      intro i na1 hm hi hg E1 H locs ls hP hS hE0 hE1 hfr hl
      refine lv_iload_n X.1 X.2.1 dX7_clearNew_2 rfl (lv_at hl 1 rfl) ?_
      refine lv_sipush (v := nI 192) X.1 X.2.1 dX7_clearNew_3 (by decide) ?_
      refine wm_icmp_ge (x := i) (y := 192) (tgt := 22) X (by omega) (by decide) dX7_clearNew_6 (by decide) (fun hc6 => ?_) (fun hc6 => ?_)
      · exact wm_vret (post := pX7_clearNew C b E th sz fa pl ats aa op fi la wa wc kl be na) X hr hP hS ⟨na1, hE1, hfr, (fun j h => hg j (by omega))⟩ hQ dX7_clearNew_22
      · refine lv_aload_n X.1 X.2.1 dX7_clearNew_9 rfl (lv_at hl 0 rfl) ?_
        refine wm_get X hP hlt0 hE0 rfl wm_inX7 9 (by decide) wq5_31 rfl dX7_clearNew_10 ?_
        refine lv_iload_n X.1 X.2.1 dX7_clearNew_13 rfl (lv_at hl 1 rfl) ?_
        refine lv_iconst (v := nI 0) X.1 X.2.1 dX7_clearNew_14 (by decide) ?_
        refine wm_iast (i := i) (x := 0) X hP hS hlt1 hE1 (by omega) (by decide) dX7_clearNew_15 (fun H locs E3 hP hS hE1 hq => ?_)
        have hE0 := (hq 119 (by decide)).trans hE0
        have hfr : ∀ j, j ≠ 125 → E3 j = E j := fun j h0 => (hq j h0).trans (hfr j h0)
        refine lv_iinc (v := nI (i + 1)) (lv' := [(1, .int (nI (i + 1))), (0, .ref (b + 119))]) X.1 X.2.1 dX7_clearNew_16 hl (k := 1) rfl (wm_inc i) (by decide) rfl (fun ls hl => ?_)
        refine lv_goto (tgt := 2) X.1 X.2.1 dX7_clearNew_19 (by decide) ?_
        exact ih2 (i + 1) (va_up na1 i 0) (by omega) (by omega) (wm_fill1 hg) E3 _ _ _ hP hS hE0 hE1 hfr (lv_sub hl [1, 0] rfl)
  exact L2 (192 - 0 + 1) 0 na (Nat.lt_succ_self _) (by omega) (fun j h => absurd h (Nat.not_lt_zero _)) E _ _ _ hP hS hE0 hE1 hfr (lv_sub hl [1, 0] rfl)
def pX7_put (C : Nat → ClassId) (b : Nat) (E : Nat → va_E) (th sz fa pl ats aa op fi la wa wc kl : Nat) (be : Bool) (k y z w : Nat) (ar ss sa se na : Nat → Nat) : (Nat → va_E) → Prop := fun E' => ∃ (ar1 : Nat → Nat), E' 121 = wm_I C 1536 ar1 ∧ E' 122 = wm_I C 8 (va_up ss k y) ∧ E' 123 = wm_I C 8 (va_up sa k z) ∧ E' 124 = wm_I C 8 (va_up se k w) ∧ (∀ j, j ≠ 121 → j ≠ 122 → j ≠ 123 → j ≠ 124 → E' j = E j) ∧ wm_cp (192 * k) 192 na ar ar1
set_option maxHeartbeats 4000000 in
set_option maxRecDepth 100000 in
theorem kX7_put (l : Launch) (D : va_G) (C : Nat → ClassId) (b n : Nat) (E : Nat → va_E) (th sz fa pl ats aa op fi la wa wc kl : Nat) (be : Bool) (k y z w : Nat) (ar ss sa se na : Nat → Nat) (hlt0 : 119 < n) (hE0 : E 119 = .inr (7, [.int (nI th), .ref (b + 120), .int (nI sz), .int (nI fa), .int (nI pl), .ref (b + 121), .ref (b + 122), .ref (b + 123), .ref (b + 124), .ref (b + 125), .ref (b + 126), .ref (b + 127), .int (nI ats), .int (nI aa), .ref (b + 128), .ref (b + 129), .ref (b + 130), .ref (b + 131), .ref (b + 132), .ref (b + 133), .int (nI op), .int (nI be.toNat), .int (nI fi), .int (nI la), .ref (b + 134), .ref (b + 135), .ref (b + 136), .int (nI wa), .ref (b + 137), .ref (b + 138), .ref (b + 139), .int (nI wc), .ref (b + 140), .int (nI kl), .ref (b + 141), .ref (b + 142), .ref (b + 143), .ref (b + 144), .ref (b + 145)])) (hlt1 : 121 < n) (hE1 : E 121 = wm_I C 1536 ar) (hlt2 : 122 < n) (hE2 : E 122 = wm_I C 8 ss) (hlt3 : 123 < n) (hE3 : E 123 = wm_I C 8 sa) (hlt4 : 124 < n) (hE4 : E 124 = wm_I C 8 se) (hlt5 : 125 < n) (hE5 : E 125 = wm_I C 192 na) (hk : k < 8) : Met l yX7_put (wm_ws yX7_put cX7_put 6 none) { frames := 0, cells := 0, slots := 0, locals := 0 } (va_Pc [.ref (b + 119), .int (nI k), .int (nI y), .int (nI z), .int (nI w)] (wm_G D C b n E)) (va_Qv (pX7_put C b E th sz fa pl ats aa op fi la wa wc kl be k y z w ar ss sa se na) (fun E' t => wm_P D b n E' t.heap) (wm_A b)) 0 0 (wm_A b) := by
  refine wm_ofW (by decide) (Nat.le_of_ble_eq_true rfl) (fun p e s m below meth c ls R args Q hRe hQ X hr hnm hP hS hl => ?_)
  have hl : lv_has ls 6 [(0, .ref (b + 119)), (1, .int (nI k)), (2, .int (nI y)), (3, .int (nI z)), (4, .int (nI w))] := hl
  have hfr : ∀ j, j ≠ 121 → j ≠ 122 → j ≠ 123 → j ≠ 124 → E j = E j := fun _ _ _ _ _ => rfl
  refine lv_aload_n X.1 X.2.1 dX7_put_0 rfl (lv_at hl 0 rfl) ?_
  refine wm_get X hP hlt0 hE0 rfl wm_inX7 6 (by decide) wq5_28 rfl dX7_put_1 ?_
  refine lv_iload_n X.1 X.2.1 dX7_put_4 rfl (lv_at hl 1 rfl) ?_
  refine lv_iload_n X.1 X.2.1 dX7_put_5 rfl (lv_at hl 2 rfl) ?_
  refine wm_iast (i := k) (x := y) X hP hS hlt2 hE2 (by omega) (by decide) dX7_put_6 (fun H locs E1 hP hS hE2 hq => ?_)
  have hE0 := (hq 119 (by decide)).trans hE0
  have hE1 := (hq 121 (by decide)).trans hE1
  have hE3 := (hq 123 (by decide)).trans hE3
  have hE4 := (hq 124 (by decide)).trans hE4
  have hE5 := (hq 125 (by decide)).trans hE5
  have hfr : ∀ j, j ≠ 121 → j ≠ 122 → j ≠ 123 → j ≠ 124 → E1 j = E j := fun j h0 h1 h2 h3 => (hq j h1).trans (hfr j h0 h1 h2 h3)
  refine lv_aload_n X.1 X.2.1 dX7_put_7 rfl (lv_at hl 0 rfl) ?_
  refine wm_get X hP hlt0 hE0 rfl wm_inX7 7 (by decide) wq5_29 rfl dX7_put_8 ?_
  refine lv_iload_n X.1 X.2.1 dX7_put_11 rfl (lv_at hl 1 rfl) ?_
  refine lv_iload_n X.1 X.2.1 dX7_put_12 rfl (lv_at hl 3 rfl) ?_
  refine wm_iast (i := k) (x := z) X hP hS hlt3 hE3 (by omega) (by decide) dX7_put_13 (fun H locs E2 hP hS hE3 hq => ?_)
  have hE0 := (hq 119 (by decide)).trans hE0
  have hE1 := (hq 121 (by decide)).trans hE1
  have hE2 := (hq 122 (by decide)).trans hE2
  have hE4 := (hq 124 (by decide)).trans hE4
  have hE5 := (hq 125 (by decide)).trans hE5
  have hfr : ∀ j, j ≠ 121 → j ≠ 122 → j ≠ 123 → j ≠ 124 → E2 j = E j := fun j h0 h1 h2 h3 => (hq j h2).trans (hfr j h0 h1 h2 h3)
  refine lv_aload_n X.1 X.2.1 dX7_put_14 rfl (lv_at hl 0 rfl) ?_
  refine wm_get X hP hlt0 hE0 rfl wm_inX7 8 (by decide) wq5_30 rfl dX7_put_15 ?_
  refine lv_iload_n X.1 X.2.1 dX7_put_18 rfl (lv_at hl 1 rfl) ?_
  refine lv_iload X.1 X.2.1 dX7_put_19 (lv_at hl 4 rfl) ?_
  refine wm_iast (i := k) (x := w) X hP hS hlt4 hE4 (by omega) (by decide) dX7_put_21 (fun H locs E3 hP hS hE4 hq => ?_)
  have hE0 := (hq 119 (by decide)).trans hE0
  have hE1 := (hq 121 (by decide)).trans hE1
  have hE2 := (hq 122 (by decide)).trans hE2
  have hE3 := (hq 123 (by decide)).trans hE3
  have hE5 := (hq 125 (by decide)).trans hE5
  have hfr : ∀ j, j ≠ 121 → j ≠ 122 → j ≠ 123 → j ≠ 124 → E3 j = E j := fun j h0 h1 h2 h3 => (hq j h3).trans (hfr j h0 h1 h2 h3)
  refine lv_iconst (v := nI 0) X.1 X.2.1 dX7_put_22 (by decide) ?_
  refine lv_istore (lv' := [(5, .int (nI 0)), (0, .ref (b + 119)), (1, .int (nI k)), (2, .int (nI y)), (3, .int (nI z)), (4, .int (nI w))]) X.1 X.2.1 dX7_put_23 hl (by decide) rfl (fun ls hl => ?_)
  have L25 : ∀ (fu : Nat) (i : Nat) (ar1 : Nat → Nat), 192 - i < fu → (i ≤ 192) → (wm_cp (192 * k) i na ar ar1) → ∀ (E4 : Nat → va_E) (H : Heap) (locs : List Loc) (ls : Array Slot), wm_P D b n E4 H → wm_S b s.heap H locs → E4 119 = .inr (7, [.int (nI th), .ref (b + 120), .int (nI sz), .int (nI fa), .int (nI pl), .ref (b + 121), .ref (b + 122), .ref (b + 123), .ref (b + 124), .ref (b + 125), .ref (b + 126), .ref (b + 127), .int (nI ats), .int (nI aa), .ref (b + 128), .ref (b + 129), .ref (b + 130), .ref (b + 131), .ref (b + 132), .ref (b + 133), .int (nI op), .int (nI be.toNat), .int (nI fi), .int (nI la), .ref (b + 134), .ref (b + 135), .ref (b + 136), .int (nI wa), .ref (b + 137), .ref (b + 138), .ref (b + 139), .int (nI wc), .ref (b + 140), .int (nI kl), .ref (b + 141), .ref (b + 142), .ref (b + 143), .ref (b + 144), .ref (b + 145)]) → E4 121 = wm_I C 1536 ar1 → E4 122 = wm_I C 8 (va_up ss k y) → E4 123 = wm_I C 8 (va_up sa k z) → E4 124 = wm_I C 8 (va_up se k w) → E4 125 = wm_I C 192 na → (∀ j, j ≠ 121 → j ≠ 122 → j ≠ 123 → j ≠ 124 → E4 j = E j) → lv_has ls 6 [(0, .ref (b + 119)), (1, .int (nI k)), (5, .int (nI i))] → W p l e R s m args below meth c H locs 0 0 Q (F0 m 25 ls []) := by
    intro fu
    induction fu with
    | zero => intro i ar1 hm; exact absurd hm (Nat.not_lt_zero _)
    | succ fu ih25 =>
      intro i ar1 hm hi h1 E4 H locs ls hP hS hE0 hE1 hE2 hE3 hE4 hE5 hfr hl
      refine lv_iload X.1 X.2.1 dX7_put_25 (lv_at hl 2 rfl) ?_
      refine lv_sipush (v := nI 192) X.1 X.2.1 dX7_put_27 (by decide) ?_
      refine wm_icmp_ge (x := i) (y := 192) (tgt := 59) X (by omega) (by decide) dX7_put_30 (by decide) (fun hc30 => ?_) (fun hc30 => ?_)
      · exact wm_vret (post := pX7_put C b E th sz fa pl ats aa op fi la wa wc kl be k y z w ar ss sa se na) X hr hP hS ⟨ar1, hE1, hE2, hE3, hE4, hfr, (show wm_cp (192 * k) 192 na ar ar1 from (show i = 192 from by omega) ▸ h1)⟩ hQ dX7_put_59
      · refine lv_aload_n X.1 X.2.1 dX7_put_33 rfl (lv_at hl 0 rfl) ?_
        refine wm_get X hP hlt0 hE0 rfl wm_inX7 5 (by decide) wq5_27 rfl dX7_put_34 ?_
        refine lv_sipush (v := nI 192) X.1 X.2.1 dX7_put_37 (by decide) ?_
        refine lv_iload_n X.1 X.2.1 dX7_put_40 rfl (lv_at hl 1 rfl) ?_
        refine wm_imul (x := 192) (y := k) X dX7_put_41 ?_
        refine lv_iload X.1 X.2.1 dX7_put_42 (lv_at hl 2 rfl) ?_
        refine wm_iadd (x := (192 * k)) (y := i) X dX7_put_44 ?_
        refine lv_aload_n X.1 X.2.1 dX7_put_45 rfl (lv_at hl 0 rfl) ?_
        refine wm_get X hP hlt0 hE0 rfl wm_inX7 9 (by decide) wq5_31 rfl dX7_put_46 ?_
        refine lv_iload X.1 X.2.1 dX7_put_49 (lv_at hl 2 rfl) ?_
        refine wm_iald (i := i) X hP hlt5 hE5 (by omega) (by decide) dX7_put_51 ?_
        refine wm_iast (i := ((192 * k) + i)) (x := (na i)) X hP hS hlt1 hE1 (by omega) (by decide) dX7_put_52 (fun H locs E6 hP hS hE1 hq => ?_)
        have hE0 := (hq 119 (by decide)).trans hE0
        have hE2 := (hq 122 (by decide)).trans hE2
        have hE3 := (hq 123 (by decide)).trans hE3
        have hE4 := (hq 124 (by decide)).trans hE4
        have hE5 := (hq 125 (by decide)).trans hE5
        have hfr : ∀ j, j ≠ 121 → j ≠ 122 → j ≠ 123 → j ≠ 124 → E6 j = E j := fun j h0 h1 h2 h3 => (hq j h0).trans (hfr j h0 h1 h2 h3)
        refine lv_iinc (v := nI (i + 1)) (lv' := [(5, .int (nI (i + 1))), (0, .ref (b + 119)), (1, .int (nI k))]) X.1 X.2.1 dX7_put_53 hl (k := 2) rfl (wm_inc i) (by decide) rfl (fun ls hl => ?_)
        refine lv_goto (tgt := 25) X.1 X.2.1 dX7_put_56 (by decide) ?_
        exact ih25 (i + 1) (va_up ar1 ((192 * k) + i) (na i)) (by omega) (by omega) (wm_cp1 h1) E6 _ _ _ hP hS hE0 hE1 hE2 hE3 hE4 hE5 hfr (lv_sub hl [1, 2, 0] rfl)
  exact L25 (192 - 0 + 1) 0 ar (Nat.lt_succ_self _) (by omega) wm_cp0 E3 _ _ _ hP hS hE0 hE1 hE2 hE3 hE4 hE5 hfr (lv_sub hl [1, 2, 0] rfl)
def pmblankX (C : Nat → ClassId) (b : Nat) (E : Nat → va_E) (th sz fa pl ats aa op fi la wa wc kl : Nat) (be : Bool) (x y : Int32) : (Nat → va_E) → Prop := fun E' => E' 119 = .inr (7, [.int (nI 1), .ref (b + 120), .int (nI sz), .int (nI fa), .int (nI pl), .ref (b + 121), .ref (b + 122), .ref (b + 123), .ref (b + 124), .ref (b + 125), .ref (b + 126), .ref (b + 127), .int (nI ats), .int (nI aa), .ref (b + 128), .ref (b + 129), .ref (b + 130), .ref (b + 131), .ref (b + 132), .ref (b + 133), .int (nI op), .int (nI be.toNat), .int (nI fi), .int (nI la), .ref (b + 134), .ref (b + 135), .ref (b + 136), .int (nI wa), .ref (b + 137), .ref (b + 138), .ref (b + 139), .int (nI wc), .ref (b + 140), .int (nI kl), .ref (b + 141), .ref (b + 142), .ref (b + 143), .ref (b + 144), .ref (b + 145)]) ∧ (∀ j, j ≠ 119 → E' j = E j)
set_option maxHeartbeats 4000000 in
set_option maxRecDepth 100000 in
theorem kmblankX (l : Launch) (D : va_G) (C : Nat → ClassId) (b n : Nat) (E : Nat → va_E) (th sz fa pl ats aa op fi la wa wc kl : Nat) (be : Bool) (x y : Int32) (hlt0 : 119 < n) (hE0 : E 119 = .inr (7, [.int (nI th), .ref (b + 120), .int (nI sz), .int (nI fa), .int (nI pl), .ref (b + 121), .ref (b + 122), .ref (b + 123), .ref (b + 124), .ref (b + 125), .ref (b + 126), .ref (b + 127), .int (nI ats), .int (nI aa), .ref (b + 128), .ref (b + 129), .ref (b + 130), .ref (b + 131), .ref (b + 132), .ref (b + 133), .int (nI op), .int (nI be.toNat), .int (nI fi), .int (nI la), .ref (b + 134), .ref (b + 135), .ref (b + 136), .int (nI wa), .ref (b + 137), .ref (b + 138), .ref (b + 139), .int (nI wc), .ref (b + 140), .int (nI kl), .ref (b + 141), .ref (b + 142), .ref (b + 143), .ref (b + 144), .ref (b + 145)])) (hk : ¬ (0 ≤ x ∧ x < nI 8)) : Met l yX7_blank (wm_ws yX7_blank cX7_blank 3 none) { frames := 1, cells := 0, slots := 0, locals := 21 } (va_Pc [.ref (b + 119), .int x, .int y] (wm_G D C b n E)) (va_Qv (pmblankX C b E th sz fa pl ats aa op fi la wa wc kl be x y) (fun E' t => wm_P D b n E' t.heap) (wm_A b)) 0 0 (wm_A b) := by
  refine wm_ofW (by decide) (Nat.le_of_ble_eq_true rfl) (fun p e s m below meth c ls R args Q hRe hQ X hr hnm hP hS hl => ?_)
  have hl : lv_has ls 3 [(0, .ref (b + 119)), (1, .int x), (2, .int y)] := hl
  have hfr : ∀ j, j ≠ 119 → E j = E j := fun _ _ => rfl
  refine lv_aload_n X.1 X.2.1 dX7_blank_0 rfl (lv_at hl 0 rfl) ?_
  refine lv_aload_n X.1 X.2.1 dX7_blank_1 rfl (lv_at hl 0 rfl) ?_
  refine lv_iload_n X.1 X.2.1 dX7_blank_2 rfl (lv_at hl 1 rfl) ?_
  refine wm_callVi (k := 1) (As := [.int x]) (rest := [.ref (b + 119)]) X hP hS hlt0 hE0 rfl (knoMachX l D C b n E x (by omega)) wq5_157 wq5_159 wqP2_15 wq1_8 wq5_160 (by decide) (by rw [hRe]; exact ⟨Nat.le_of_ble_eq_true rfl, Nat.le_of_ble_eq_true rfl⟩) rfl hl.1 rfl (Nat.le_of_ble_eq_true rfl) (Nat.zero_le _) (Nat.zero_le _) dX7_blank_3 (fun r1 E1 H locs hw hP hS => ?_)
  obtain ⟨hrt, hEe⟩ := hw
  subst hrt
  subst hEe
  refine wm_ifz_eq (x := true) (tgt := 13) X dX7_blank_6 (by decide) (fun h => by exfalso; revert h; decide) (fun _ => ?_)
  refine lv_iconst (v := nI 1) X.1 X.2.1 dX7_blank_9 (by decide) ?_
  refine lv_goto (tgt := 29) X.1 X.2.1 dX7_blank_10 (by decide) ?_
  refine wm_put (v := .int (nI 1)) X hP hS hlt0 hE0 rfl wm_inX7 tyX7 tyX7_ok nmX7 0 (by decide) wq5_22 rfl rfl rfl (fs1 := [.int (nI 1), .ref (b + 120), .int (nI sz), .int (nI fa), .int (nI pl), .ref (b + 121), .ref (b + 122), .ref (b + 123), .ref (b + 124), .ref (b + 125), .ref (b + 126), .ref (b + 127), .int (nI ats), .int (nI aa), .ref (b + 128), .ref (b + 129), .ref (b + 130), .ref (b + 131), .ref (b + 132), .ref (b + 133), .int (nI op), .int (nI be.toNat), .int (nI fi), .int (nI la), .ref (b + 134), .ref (b + 135), .ref (b + 136), .int (nI wa), .ref (b + 137), .ref (b + 138), .ref (b + 139), .int (nI wc), .ref (b + 140), .int (nI kl), .ref (b + 141), .ref (b + 142), .ref (b + 143), .ref (b + 144), .ref (b + 145)]) rfl (Nat.le_of_ble_eq_true rfl) dX7_blank_29 (fun H locs E2 hP hS hE0 hq => ?_)
  have hfr : ∀ j, j ≠ 119 → E2 j = E j := fun j h0 => (hq j h0).trans (hfr j h0)
  refine lv_aload_n X.1 X.2.1 dX7_blank_32 rfl (lv_at hl 0 rfl) ?_
  refine wm_get X hP hlt0 hE0 rfl wm_inX7 0 (by decide) wq5_22 rfl dX7_blank_33 ?_
  refine lv_if_ne (tgt := 51) X.1 X.2.1 dX7_blank_36 (by decide) (fun _ => ?_) (fun h => by exfalso; revert h; decide)
  exact wm_vret (post := pmblankX C b E th sz fa pl ats aa op fi la wa wc kl be x y) X hr hP hS ⟨hE0, hfr⟩ hQ dX7_blank_51
def pmblankA (C : Nat → ClassId) (b : Nat) (E : Nat → va_E) (th sz fa pl ats aa op fi la wa wc kl : Nat) (be : Bool) (k : Nat) (y : Int32) : (Nat → va_E) → Prop := fun E' => E' 119 = .inr (7, [.int (nI 2), .ref (b + 120), .int (nI sz), .int (nI fa), .int (nI pl), .ref (b + 121), .ref (b + 122), .ref (b + 123), .ref (b + 124), .ref (b + 125), .ref (b + 126), .ref (b + 127), .int (nI ats), .int (nI aa), .ref (b + 128), .ref (b + 129), .ref (b + 130), .ref (b + 131), .ref (b + 132), .ref (b + 133), .int (nI op), .int (nI be.toNat), .int (nI fi), .int (nI la), .ref (b + 134), .ref (b + 135), .ref (b + 136), .int (nI wa), .ref (b + 137), .ref (b + 138), .ref (b + 139), .int (nI wc), .ref (b + 140), .int (nI kl), .ref (b + 141), .ref (b + 142), .ref (b + 143), .ref (b + 144), .ref (b + 145)]) ∧ (∀ j, j ≠ 119 → E' j = E j)
set_option maxHeartbeats 4000000 in
set_option maxRecDepth 100000 in
theorem kmblankA (l : Launch) (D : va_G) (C : Nat → ClassId) (b n : Nat) (E : Nat → va_E) (th sz fa pl ats aa op fi la wa wc kl : Nat) (be : Bool) (k : Nat) (y : Int32) (hlt0 : 119 < n) (hE0 : E 119 = .inr (7, [.int (nI th), .ref (b + 120), .int (nI sz), .int (nI fa), .int (nI pl), .ref (b + 121), .ref (b + 122), .ref (b + 123), .ref (b + 124), .ref (b + 125), .ref (b + 126), .ref (b + 127), .int (nI ats), .int (nI aa), .ref (b + 128), .ref (b + 129), .ref (b + 130), .ref (b + 131), .ref (b + 132), .ref (b + 133), .int (nI op), .int (nI be.toNat), .int (nI fi), .int (nI la), .ref (b + 134), .ref (b + 135), .ref (b + 136), .int (nI wa), .ref (b + 137), .ref (b + 138), .ref (b + 139), .int (nI wc), .ref (b + 140), .int (nI kl), .ref (b + 141), .ref (b + 142), .ref (b + 143), .ref (b + 144), .ref (b + 145)])) (hkk : k < 8) (hk : ¬ (nI 1 ≤ y ∧ y ≤ nI 24)) : Met l yX7_blank (wm_ws yX7_blank cX7_blank 3 none) { frames := 1, cells := 0, slots := 0, locals := 21 } (va_Pc [.ref (b + 119), .int (nI k), .int y] (wm_G D C b n E)) (va_Qv (pmblankA C b E th sz fa pl ats aa op fi la wa wc kl be k y) (fun E' t => wm_P D b n E' t.heap) (wm_A b)) 0 0 (wm_A b) := by
  refine wm_ofW (by decide) (Nat.le_of_ble_eq_true rfl) (fun p e s m below meth c ls R args Q hRe hQ X hr hnm hP hS hl => ?_)
  have hl : lv_has ls 3 [(0, .ref (b + 119)), (1, .int (nI k)), (2, .int y)] := hl
  have hfr : ∀ j, j ≠ 119 → E j = E j := fun _ _ => rfl
  refine lv_aload_n X.1 X.2.1 dX7_blank_0 rfl (lv_at hl 0 rfl) ?_
  refine lv_aload_n X.1 X.2.1 dX7_blank_1 rfl (lv_at hl 0 rfl) ?_
  refine lv_iload_n X.1 X.2.1 dX7_blank_2 rfl (lv_at hl 1 rfl) ?_
  refine wm_callVi (k := 1) (As := [.int (nI k)]) (rest := [.ref (b + 119)]) X hP hS hlt0 hE0 rfl (knoMach l D C b n E k (by omega)) wq5_157 wq5_159 wqP2_15 wq1_8 wq5_160 (by decide) (by rw [hRe]; exact ⟨Nat.le_of_ble_eq_true rfl, Nat.le_of_ble_eq_true rfl⟩) rfl hl.1 rfl (Nat.le_of_ble_eq_true rfl) (Nat.zero_le _) (Nat.zero_le _) dX7_blank_3 (fun r1 E1 H locs hw hP hS => ?_)
  obtain ⟨hrt, hEe⟩ := hw
  subst hrt
  subst hEe
  refine wm_ifz_eq (x := false) (tgt := 13) X dX7_blank_6 (by decide) (fun _ => ?_) (fun h => by exfalso; revert h; decide)
  refine lv_iload_n X.1 X.2.1 dX7_blank_13 rfl (lv_at hl 2 rfl) ?_
  refine lv_iconst (v := nI 1) X.1 X.2.1 dX7_blank_14 (by decide) ?_
  refine lv_icmp_lt (tgt := 24) X.1 X.2.1 dX7_blank_15 (by decide) (fun hc15 => ?_) (fun hc15 => ?_)
  · refine lv_iconst (v := nI 2) X.1 X.2.1 dX7_blank_24 (by decide) ?_
    refine lv_goto (tgt := 29) X.1 X.2.1 dX7_blank_25 (by decide) ?_
    refine wm_put (v := .int (nI 2)) X hP hS hlt0 hE0 rfl wm_inX7 tyX7 tyX7_ok nmX7 0 (by decide) wq5_22 rfl rfl rfl (fs1 := [.int (nI 2), .ref (b + 120), .int (nI sz), .int (nI fa), .int (nI pl), .ref (b + 121), .ref (b + 122), .ref (b + 123), .ref (b + 124), .ref (b + 125), .ref (b + 126), .ref (b + 127), .int (nI ats), .int (nI aa), .ref (b + 128), .ref (b + 129), .ref (b + 130), .ref (b + 131), .ref (b + 132), .ref (b + 133), .int (nI op), .int (nI be.toNat), .int (nI fi), .int (nI la), .ref (b + 134), .ref (b + 135), .ref (b + 136), .int (nI wa), .ref (b + 137), .ref (b + 138), .ref (b + 139), .int (nI wc), .ref (b + 140), .int (nI kl), .ref (b + 141), .ref (b + 142), .ref (b + 143), .ref (b + 144), .ref (b + 145)]) rfl (Nat.le_of_ble_eq_true rfl) dX7_blank_29 (fun H locs E3 hP hS hE0 hq => ?_)
    have hfr : ∀ j, j ≠ 119 → E3 j = E j := fun j h0 => (hq j h0).trans (hfr j h0)
    refine lv_aload_n X.1 X.2.1 dX7_blank_32 rfl (lv_at hl 0 rfl) ?_
    refine wm_get X hP hlt0 hE0 rfl wm_inX7 0 (by decide) wq5_22 rfl dX7_blank_33 ?_
    refine lv_if_ne (tgt := 51) X.1 X.2.1 dX7_blank_36 (by decide) (fun _ => ?_) (fun h => by exfalso; revert h; decide)
    exact wm_vret (post := pmblankA C b E th sz fa pl ats aa op fi la wa wc kl be k y) X hr hP hS ⟨hE0, hfr⟩ hQ dX7_blank_51
  · refine lv_iload_n X.1 X.2.1 dX7_blank_18 rfl (lv_at hl 2 rfl) ?_
    refine lv_bipush (v := nI 24) X.1 X.2.1 dX7_blank_19 (by decide) ?_
    refine lv_icmp_le (tgt := 28) X.1 X.2.1 dX7_blank_21 (by decide) (fun hc21 => ?_) (fun hc21 => ?_)
    · exact absurd hc21 (fun q => hk ⟨Int32.not_lt.mp hc15, q⟩)
    · refine lv_iconst (v := nI 2) X.1 X.2.1 dX7_blank_24 (by decide) ?_
      refine lv_goto (tgt := 29) X.1 X.2.1 dX7_blank_25 (by decide) ?_
      refine wm_put (v := .int (nI 2)) X hP hS hlt0 hE0 rfl wm_inX7 tyX7 tyX7_ok nmX7 0 (by decide) wq5_22 rfl rfl rfl (fs1 := [.int (nI 2), .ref (b + 120), .int (nI sz), .int (nI fa), .int (nI pl), .ref (b + 121), .ref (b + 122), .ref (b + 123), .ref (b + 124), .ref (b + 125), .ref (b + 126), .ref (b + 127), .int (nI ats), .int (nI aa), .ref (b + 128), .ref (b + 129), .ref (b + 130), .ref (b + 131), .ref (b + 132), .ref (b + 133), .int (nI op), .int (nI be.toNat), .int (nI fi), .int (nI la), .ref (b + 134), .ref (b + 135), .ref (b + 136), .int (nI wa), .ref (b + 137), .ref (b + 138), .ref (b + 139), .int (nI wc), .ref (b + 140), .int (nI kl), .ref (b + 141), .ref (b + 142), .ref (b + 143), .ref (b + 144), .ref (b + 145)]) rfl (Nat.le_of_ble_eq_true rfl) dX7_blank_29 (fun H locs E5 hP hS hE0 hq => ?_)
      have hfr : ∀ j, j ≠ 119 → E5 j = E j := fun j h0 => (hq j h0).trans (hfr j h0)
      refine lv_aload_n X.1 X.2.1 dX7_blank_32 rfl (lv_at hl 0 rfl) ?_
      refine wm_get X hP hlt0 hE0 rfl wm_inX7 0 (by decide) wq5_22 rfl dX7_blank_33 ?_
      refine lv_if_ne (tgt := 51) X.1 X.2.1 dX7_blank_36 (by decide) (fun _ => ?_) (fun h => by exfalso; revert h; decide)
      exact wm_vret (post := pmblankA C b E th sz fa pl ats aa op fi la wa wc kl be k y) X hr hP hS ⟨hE0, hfr⟩ hQ dX7_blank_51
def pmblank1 (C : Nat → ClassId) (b : Nat) (E : Nat → va_E) (th sz fa pl ats aa op fi la wa wc kl : Nat) (be : Bool) (k y : Nat) (ar ss sa se na : Nat → Nat) : (Nat → va_E) → Prop := fun E' => ∃ (ar1 : Nat → Nat) (na1 : Nat → Nat), E' 119 = .inr (7, [.int (nI 0), .ref (b + 120), .int (nI sz), .int (nI fa), .int (nI pl), .ref (b + 121), .ref (b + 122), .ref (b + 123), .ref (b + 124), .ref (b + 125), .ref (b + 126), .ref (b + 127), .int (nI ats), .int (nI aa), .ref (b + 128), .ref (b + 129), .ref (b + 130), .ref (b + 131), .ref (b + 132), .ref (b + 133), .int (nI op), .int (nI be.toNat), .int (nI fi), .int (nI la), .ref (b + 134), .ref (b + 135), .ref (b + 136), .int (nI wa), .ref (b + 137), .ref (b + 138), .ref (b + 139), .int (nI wc), .ref (b + 140), .int (nI kl), .ref (b + 141), .ref (b + 142), .ref (b + 143), .ref (b + 144), .ref (b + 145)]) ∧ E' 121 = wm_I C 1536 ar1 ∧ E' 122 = wm_I C 8 (va_up ss k y) ∧ E' 123 = wm_I C 8 (va_up sa k 0) ∧ E' 124 = wm_I C 8 (va_up se k 0) ∧ E' 125 = wm_I C 192 na1 ∧ (∀ j, j ≠ 119 → j ≠ 121 → j ≠ 122 → j ≠ 123 → j ≠ 124 → j ≠ 125 → E' j = E j) ∧ (∀ j, j < 192 → na1 j = 0) ∧ wm_cp (192 * k) 192 na1 ar ar1
set_option maxHeartbeats 4000000 in
set_option maxRecDepth 100000 in
theorem kmblank1 (l : Launch) (D : va_G) (C : Nat → ClassId) (b n : Nat) (E : Nat → va_E) (th sz fa pl ats aa op fi la wa wc kl : Nat) (be : Bool) (k y : Nat) (ar ss sa se na : Nat → Nat) (hlt0 : 119 < n) (hE0 : E 119 = .inr (7, [.int (nI th), .ref (b + 120), .int (nI sz), .int (nI fa), .int (nI pl), .ref (b + 121), .ref (b + 122), .ref (b + 123), .ref (b + 124), .ref (b + 125), .ref (b + 126), .ref (b + 127), .int (nI ats), .int (nI aa), .ref (b + 128), .ref (b + 129), .ref (b + 130), .ref (b + 131), .ref (b + 132), .ref (b + 133), .int (nI op), .int (nI be.toNat), .int (nI fi), .int (nI la), .ref (b + 134), .ref (b + 135), .ref (b + 136), .int (nI wa), .ref (b + 137), .ref (b + 138), .ref (b + 139), .int (nI wc), .ref (b + 140), .int (nI kl), .ref (b + 141), .ref (b + 142), .ref (b + 143), .ref (b + 144), .ref (b + 145)])) (hlt1 : 121 < n) (hE1 : E 121 = wm_I C 1536 ar) (hlt2 : 122 < n) (hE2 : E 122 = wm_I C 8 ss) (hlt3 : 123 < n) (hE3 : E 123 = wm_I C 8 sa) (hlt4 : 124 < n) (hE4 : E 124 = wm_I C 8 se) (hlt5 : 125 < n) (hE5 : E 125 = wm_I C 192 na) (hkk : k < 8) (hy : 1 ≤ y ∧ y ≤ 24) : Met l yX7_blank (wm_ws yX7_blank cX7_blank 3 none) { frames := 1, cells := 0, slots := 0, locals := 25 } (va_Pc [.ref (b + 119), .int (nI k), .int (nI y)] (wm_G D C b n E)) (va_Qv (pmblank1 C b E th sz fa pl ats aa op fi la wa wc kl be k y ar ss sa se na) (fun E' t => wm_P D b n E' t.heap) (wm_A b)) 0 0 (wm_A b) := by
  refine wm_ofW (by decide) (Nat.le_of_ble_eq_true rfl) (fun p e s m below meth c ls R args Q hRe hQ X hr hnm hP hS hl => ?_)
  have hl : lv_has ls 3 [(0, .ref (b + 119)), (1, .int (nI k)), (2, .int (nI y))] := hl
  have hfr : ∀ j, j ≠ 119 → j ≠ 121 → j ≠ 122 → j ≠ 123 → j ≠ 124 → j ≠ 125 → E j = E j := fun _ _ _ _ _ _ _ => rfl
  refine lv_aload_n X.1 X.2.1 dX7_blank_0 rfl (lv_at hl 0 rfl) ?_
  refine lv_aload_n X.1 X.2.1 dX7_blank_1 rfl (lv_at hl 0 rfl) ?_
  refine lv_iload_n X.1 X.2.1 dX7_blank_2 rfl (lv_at hl 1 rfl) ?_
  refine wm_callVi (k := 1) (As := [.int (nI k)]) (rest := [.ref (b + 119)]) X hP hS hlt0 hE0 rfl (knoMach l D C b n E k (by omega)) wq5_157 wq5_159 wqP2_15 wq1_8 wq5_160 (by decide) (by rw [hRe]; exact ⟨Nat.le_of_ble_eq_true rfl, Nat.le_of_ble_eq_true rfl⟩) rfl hl.1 rfl (Nat.le_of_ble_eq_true rfl) (Nat.zero_le _) (Nat.zero_le _) dX7_blank_3 (fun r1 E1 H locs hw hP hS => ?_)
  obtain ⟨hrt, hEe⟩ := hw
  subst hrt
  subst hEe
  refine wm_ifz_eq (x := false) (tgt := 13) X dX7_blank_6 (by decide) (fun _ => ?_) (fun h => by exfalso; revert h; decide)
  refine lv_iload_n X.1 X.2.1 dX7_blank_13 rfl (lv_at hl 2 rfl) ?_
  refine lv_iconst (v := nI 1) X.1 X.2.1 dX7_blank_14 (by decide) ?_
  refine wm_icmp_lt (x := y) (y := 1) (tgt := 24) X (by omega) (by decide) dX7_blank_15 (by decide) (fun hc15 => ?_) (fun hc15 => ?_)
  · exact absurd hc15 (by omega)
  · refine lv_iload_n X.1 X.2.1 dX7_blank_18 rfl (lv_at hl 2 rfl) ?_
    refine lv_bipush (v := nI 24) X.1 X.2.1 dX7_blank_19 (by decide) ?_
    refine wm_icmp_le (x := y) (y := 24) (tgt := 28) X (by omega) (by decide) dX7_blank_21 (by decide) (fun hc21 => ?_) (fun hc21 => ?_)
    · refine lv_iconst (v := nI 0) X.1 X.2.1 dX7_blank_28 (by decide) ?_
      refine wm_put (v := .int (nI 0)) X hP hS hlt0 hE0 rfl wm_inX7 tyX7 tyX7_ok nmX7 0 (by decide) wq5_22 rfl rfl rfl (fs1 := [.int (nI 0), .ref (b + 120), .int (nI sz), .int (nI fa), .int (nI pl), .ref (b + 121), .ref (b + 122), .ref (b + 123), .ref (b + 124), .ref (b + 125), .ref (b + 126), .ref (b + 127), .int (nI ats), .int (nI aa), .ref (b + 128), .ref (b + 129), .ref (b + 130), .ref (b + 131), .ref (b + 132), .ref (b + 133), .int (nI op), .int (nI be.toNat), .int (nI fi), .int (nI la), .ref (b + 134), .ref (b + 135), .ref (b + 136), .int (nI wa), .ref (b + 137), .ref (b + 138), .ref (b + 139), .int (nI wc), .ref (b + 140), .int (nI kl), .ref (b + 141), .ref (b + 142), .ref (b + 143), .ref (b + 144), .ref (b + 145)]) rfl (Nat.le_of_ble_eq_true rfl) dX7_blank_29 (fun H locs E4 hP hS hE0 hq => ?_)
      have hE1 := (hq 121 (by decide)).trans hE1
      have hE2 := (hq 122 (by decide)).trans hE2
      have hE3 := (hq 123 (by decide)).trans hE3
      have hE4 := (hq 124 (by decide)).trans hE4
      have hE5 := (hq 125 (by decide)).trans hE5
      have hfr : ∀ j, j ≠ 119 → j ≠ 121 → j ≠ 122 → j ≠ 123 → j ≠ 124 → j ≠ 125 → E4 j = E j := fun j h0 h1 h2 h3 h4 h5 => (hq j h0).trans (hfr j h0 h1 h2 h3 h4 h5)
      refine lv_aload_n X.1 X.2.1 dX7_blank_32 rfl (lv_at hl 0 rfl) ?_
      refine wm_get X hP hlt0 hE0 rfl wm_inX7 0 (by decide) wq5_22 rfl dX7_blank_33 ?_
      refine lv_if_ne (tgt := 51) X.1 X.2.1 dX7_blank_36 (by decide) (fun h => by exfalso; revert h; decide) (fun _ => ?_)
      refine lv_aload_n X.1 X.2.1 dX7_blank_39 rfl (lv_at hl 0 rfl) ?_
      refine wm_callVv (k := 0) (As := []) (rest := []) X hP hS hlt0 hE0 rfl (kX7_clearNew l D C b n E4 0 sz fa pl ats aa op fi la wa wc kl be na hlt0 hE0 hlt5 hE5) wq5_204 wq5_206 wqP3_10 wq1_8 wq5_207 (by decide) (by rw [hRe]; exact ⟨Nat.le_of_ble_eq_true rfl, Nat.le_of_ble_eq_true rfl⟩) rfl hl.1 rfl (Nat.le_of_ble_eq_true rfl) (Nat.zero_le _) (Nat.zero_le _) dX7_blank_40 (fun E5 H locs hw hP hS => ?_)
      obtain ⟨na15, hE5, hq, hp5_0⟩ := hw
      have hE0 := (hq 119 (by decide)).trans hE0
      have hE1 := (hq 121 (by decide)).trans hE1
      have hE2 := (hq 122 (by decide)).trans hE2
      have hE3 := (hq 123 (by decide)).trans hE3
      have hE4 := (hq 124 (by decide)).trans hE4
      have hfr : ∀ j, j ≠ 119 → j ≠ 121 → j ≠ 122 → j ≠ 123 → j ≠ 124 → j ≠ 125 → E5 j = E j := fun j h0 h1 h2 h3 h4 h5 => (hq j h5).trans (hfr j h0 h1 h2 h3 h4 h5)
      have hna := hp5_0
      refine lv_aload_n X.1 X.2.1 dX7_blank_43 rfl (lv_at hl 0 rfl) ?_
      refine lv_iload_n X.1 X.2.1 dX7_blank_44 rfl (lv_at hl 1 rfl) ?_
      refine lv_iload_n X.1 X.2.1 dX7_blank_45 rfl (lv_at hl 2 rfl) ?_
      refine lv_iconst (v := nI 0) X.1 X.2.1 dX7_blank_46 (by decide) ?_
      refine lv_iconst (v := nI 0) X.1 X.2.1 dX7_blank_47 (by decide) ?_
      refine wm_callVv (k := 4) (As := [.int (nI k), .int (nI y), .int (nI 0), .int (nI 0)]) (rest := []) X hP hS hlt0 hE0 rfl (kX7_put l D C b n E5 0 sz fa pl ats aa op fi la wa wc kl be k y 0 0 ar ss sa se na15 hlt0 hE0 hlt1 hE1 hlt2 hE2 hlt3 hE3 hlt4 hE4 hlt5 hE5 (by omega)) wq5_208 wq5_210 wqP3_11 wq1_8 wq5_211 (by decide) (by rw [hRe]; exact ⟨Nat.le_of_ble_eq_true rfl, Nat.le_of_ble_eq_true rfl⟩) rfl hl.1 rfl (Nat.le_of_ble_eq_true rfl) (Nat.zero_le _) (Nat.zero_le _) dX7_blank_48 (fun E6 H locs hw hP hS => ?_)
      obtain ⟨ar16, hE1, hE2, hE3, hE4, hq, hp6_0⟩ := hw
      have hE0 := (hq 119 (by decide) (by decide) (by decide) (by decide)).trans hE0
      have hE5 := (hq 125 (by decide) (by decide) (by decide) (by decide)).trans hE5
      have hfr : ∀ j, j ≠ 119 → j ≠ 121 → j ≠ 122 → j ≠ 123 → j ≠ 124 → j ≠ 125 → E6 j = E j := fun j h0 h1 h2 h3 h4 h5 => (hq j h1 h2 h3 h4).trans (hfr j h0 h1 h2 h3 h4 h5)
      exact wm_vret (post := pmblank1 C b E th sz fa pl ats aa op fi la wa wc kl be k y ar ss sa se na) X hr hP hS ⟨ar16, na15, hE0, hE1, hE2, hE3, hE4, hE5, hfr, hna, hp6_0⟩ hQ dX7_blank_51
    · exact absurd hc21 (by omega)
def pnoStX (C : Nat → ClassId) (b : Nat) (E : Nat → va_E) (th sz fa pl ats aa op fi la wa wc kl : Nat) (be : Bool) (x y : Int32) : Int32 → (Nat → va_E) → Prop := fun r E' => r = nI true.toNat ∧ E = E'
set_option maxHeartbeats 4000000 in
set_option maxRecDepth 100000 in
theorem knoStX (l : Launch) (D : va_G) (C : Nat → ClassId) (b n : Nat) (E : Nat → va_E) (th sz fa pl ats aa op fi la wa wc kl : Nat) (be : Bool) (x y : Int32) (hlt0 : 119 < n) (hE0 : E 119 = .inr (7, [.int (nI th), .ref (b + 120), .int (nI sz), .int (nI fa), .int (nI pl), .ref (b + 121), .ref (b + 122), .ref (b + 123), .ref (b + 124), .ref (b + 125), .ref (b + 126), .ref (b + 127), .int (nI ats), .int (nI aa), .ref (b + 128), .ref (b + 129), .ref (b + 130), .ref (b + 131), .ref (b + 132), .ref (b + 133), .int (nI op), .int (nI be.toNat), .int (nI fi), .int (nI la), .ref (b + 134), .ref (b + 135), .ref (b + 136), .int (nI wa), .ref (b + 137), .ref (b + 138), .ref (b + 139), .int (nI wc), .ref (b + 140), .int (nI kl), .ref (b + 141), .ref (b + 142), .ref (b + 143), .ref (b + 144), .ref (b + 145)])) (hk : ¬ (0 ≤ x ∧ x < nI 8)) : Met l yX7_noState (wm_ws yX7_noState cX7_noState 3 (some .boolean)) { frames := 1, cells := 0, slots := 0, locals := 21 } (va_Pc [.ref (b + 119), .int x, .int y] (wm_G D C b n E)) (va_Qi (pnoStX C b E th sz fa pl ats aa op fi la wa wc kl be x y) (fun E' t => wm_P D b n E' t.heap) (wm_A b)) 0 0 (wm_A b) := by
  refine wm_ofW (by decide) (Nat.le_of_ble_eq_true rfl) (fun p e s m below meth c ls R args Q hRe hQ X hr hnm hP hS hl => ?_)
  have hl : lv_has ls 3 [(0, .ref (b + 119)), (1, .int x), (2, .int y)] := hl
  refine lv_aload_n X.1 X.2.1 dX7_noState_0 rfl (lv_at hl 0 rfl) ?_
  refine lv_iload_n X.1 X.2.1 dX7_noState_1 rfl (lv_at hl 1 rfl) ?_
  refine wm_callVi (k := 1) (As := [.int x]) (rest := []) X hP hS hlt0 hE0 rfl (knoMachX l D C b n E x (by omega)) wq5_157 wq5_159 wqP2_15 wq1_8 wq5_160 (by decide) (by rw [hRe]; exact ⟨Nat.le_of_ble_eq_true rfl, Nat.le_of_ble_eq_true rfl⟩) rfl hl.1 rfl (Nat.le_of_ble_eq_true rfl) (Nat.zero_le _) (Nat.zero_le _) dX7_noState_2 (fun r1 E1 H locs hw hP hS => ?_)
  obtain ⟨hrt, hEe⟩ := hw
  subst hrt
  subst hEe
  refine wm_ifz_ne (x := true) (tgt := 22) X dX7_noState_5 (by decide) (fun _ => ?_) (fun h => by exfalso; revert h; decide)
  refine lv_iconst (v := nI 1) X.1 X.2.1 dX7_noState_22 (by decide) ?_
  refine lv_goto (tgt := 27) X.1 X.2.1 dX7_noState_23 (by decide) ?_
  exact wm_zret (v := true) (post := pnoStX C b E th sz fa pl ats aa op fi la wa wc kl be x y) X hr hP hS ⟨rfl, rfl⟩ hQ dX7_noState_27
def pnoStS (C : Nat → ClassId) (b : Nat) (E : Nat → va_E) (th sz fa pl ats aa op fi la wa wc kl : Nat) (be : Bool) (k : Nat) (y : Int32) (ss : Nat → Nat) : Int32 → (Nat → va_E) → Prop := fun r E' => r = nI true.toNat ∧ E = E'
set_option maxHeartbeats 4000000 in
set_option maxRecDepth 100000 in
theorem knoStS (l : Launch) (D : va_G) (C : Nat → ClassId) (b n : Nat) (E : Nat → va_E) (th sz fa pl ats aa op fi la wa wc kl : Nat) (be : Bool) (k : Nat) (y : Int32) (ss : Nat → Nat) (hlt0 : 119 < n) (hE0 : E 119 = .inr (7, [.int (nI th), .ref (b + 120), .int (nI sz), .int (nI fa), .int (nI pl), .ref (b + 121), .ref (b + 122), .ref (b + 123), .ref (b + 124), .ref (b + 125), .ref (b + 126), .ref (b + 127), .int (nI ats), .int (nI aa), .ref (b + 128), .ref (b + 129), .ref (b + 130), .ref (b + 131), .ref (b + 132), .ref (b + 133), .int (nI op), .int (nI be.toNat), .int (nI fi), .int (nI la), .ref (b + 134), .ref (b + 135), .ref (b + 136), .int (nI wa), .ref (b + 137), .ref (b + 138), .ref (b + 139), .int (nI wc), .ref (b + 140), .int (nI kl), .ref (b + 141), .ref (b + 142), .ref (b + 143), .ref (b + 144), .ref (b + 145)])) (hlt1 : 122 < n) (hE1 : E 122 = wm_I C 8 ss) (hkk : k < 8) (hk : ¬ (0 ≤ y ∧ y < nI (ss k))) : Met l yX7_noState (wm_ws yX7_noState cX7_noState 3 (some .boolean)) { frames := 1, cells := 0, slots := 0, locals := 21 } (va_Pc [.ref (b + 119), .int (nI k), .int y] (wm_G D C b n E)) (va_Qi (pnoStS C b E th sz fa pl ats aa op fi la wa wc kl be k y ss) (fun E' t => wm_P D b n E' t.heap) (wm_A b)) 0 0 (wm_A b) := by
  refine wm_ofW (by decide) (Nat.le_of_ble_eq_true rfl) (fun p e s m below meth c ls R args Q hRe hQ X hr hnm hP hS hl => ?_)
  have hl : lv_has ls 3 [(0, .ref (b + 119)), (1, .int (nI k)), (2, .int y)] := hl
  refine lv_aload_n X.1 X.2.1 dX7_noState_0 rfl (lv_at hl 0 rfl) ?_
  refine lv_iload_n X.1 X.2.1 dX7_noState_1 rfl (lv_at hl 1 rfl) ?_
  refine wm_callVi (k := 1) (As := [.int (nI k)]) (rest := []) X hP hS hlt0 hE0 rfl (knoMach l D C b n E k (by omega)) wq5_157 wq5_159 wqP2_15 wq1_8 wq5_160 (by decide) (by rw [hRe]; exact ⟨Nat.le_of_ble_eq_true rfl, Nat.le_of_ble_eq_true rfl⟩) rfl hl.1 rfl (Nat.le_of_ble_eq_true rfl) (Nat.zero_le _) (Nat.zero_le _) dX7_noState_2 (fun r1 E1 H locs hw hP hS => ?_)
  obtain ⟨hrt, hEe⟩ := hw
  subst hrt
  subst hEe
  refine wm_ifz_ne (x := false) (tgt := 22) X dX7_noState_5 (by decide) (fun h => by exfalso; revert h; decide) (fun _ => ?_)
  refine lv_iload_n X.1 X.2.1 dX7_noState_8 rfl (lv_at hl 2 rfl) ?_
  refine lv_if_lt (tgt := 22) X.1 X.2.1 dX7_noState_9 (by decide) (fun hc9 => ?_) (fun hc9 => ?_)
  · refine lv_iconst (v := nI 1) X.1 X.2.1 dX7_noState_22 (by decide) ?_
    refine lv_goto (tgt := 27) X.1 X.2.1 dX7_noState_23 (by decide) ?_
    exact wm_zret (v := true) (post := pnoStS C b E th sz fa pl ats aa op fi la wa wc kl be k y ss) X hr hP hS ⟨rfl, rfl⟩ hQ dX7_noState_27
  · refine lv_iload_n X.1 X.2.1 dX7_noState_12 rfl (lv_at hl 2 rfl) ?_
    refine lv_aload_n X.1 X.2.1 dX7_noState_13 rfl (lv_at hl 0 rfl) ?_
    refine wm_get X hP hlt0 hE0 rfl wm_inX7 6 (by decide) wq5_28 rfl dX7_noState_14 ?_
    refine lv_iload_n X.1 X.2.1 dX7_noState_17 rfl (lv_at hl 1 rfl) ?_
    refine wm_iald (i := k) X hP hlt1 hE1 (by omega) (by decide) dX7_noState_18 ?_
    refine lv_icmp_lt (tgt := 26) X.1 X.2.1 dX7_noState_19 (by decide) (fun hc19 => ?_) (fun hc19 => ?_)
    · exact absurd hc19 (fun q => hk ⟨Int32.not_lt.mp hc9, q⟩)
    · refine lv_iconst (v := nI 1) X.1 X.2.1 dX7_noState_22 (by decide) ?_
      refine lv_goto (tgt := 27) X.1 X.2.1 dX7_noState_23 (by decide) ?_
      exact wm_zret (v := true) (post := pnoStS C b E th sz fa pl ats aa op fi la wa wc kl be k y ss) X hr hP hS ⟨rfl, rfl⟩ hQ dX7_noState_27
def pnoSt (C : Nat → ClassId) (b : Nat) (E : Nat → va_E) (th sz fa pl ats aa op fi la wa wc kl : Nat) (be : Bool) (k sv : Nat) (ss : Nat → Nat) : Int32 → (Nat → va_E) → Prop := fun r E' => r = nI false.toNat ∧ E = E'
set_option maxHeartbeats 4000000 in
set_option maxRecDepth 100000 in
theorem knoSt (l : Launch) (D : va_G) (C : Nat → ClassId) (b n : Nat) (E : Nat → va_E) (th sz fa pl ats aa op fi la wa wc kl : Nat) (be : Bool) (k sv : Nat) (ss : Nat → Nat) (hlt0 : 119 < n) (hE0 : E 119 = .inr (7, [.int (nI th), .ref (b + 120), .int (nI sz), .int (nI fa), .int (nI pl), .ref (b + 121), .ref (b + 122), .ref (b + 123), .ref (b + 124), .ref (b + 125), .ref (b + 126), .ref (b + 127), .int (nI ats), .int (nI aa), .ref (b + 128), .ref (b + 129), .ref (b + 130), .ref (b + 131), .ref (b + 132), .ref (b + 133), .int (nI op), .int (nI be.toNat), .int (nI fi), .int (nI la), .ref (b + 134), .ref (b + 135), .ref (b + 136), .int (nI wa), .ref (b + 137), .ref (b + 138), .ref (b + 139), .int (nI wc), .ref (b + 140), .int (nI kl), .ref (b + 141), .ref (b + 142), .ref (b + 143), .ref (b + 144), .ref (b + 145)])) (hlt1 : 122 < n) (hE1 : E 122 = wm_I C 8 ss) (hkk : k < 8) (hk : sv < ss k) (hsk : ss k ≤ 24) : Met l yX7_noState (wm_ws yX7_noState cX7_noState 3 (some .boolean)) { frames := 1, cells := 0, slots := 0, locals := 21 } (va_Pc [.ref (b + 119), .int (nI k), .int (nI sv)] (wm_G D C b n E)) (va_Qi (pnoSt C b E th sz fa pl ats aa op fi la wa wc kl be k sv ss) (fun E' t => wm_P D b n E' t.heap) (wm_A b)) 0 0 (wm_A b) := by
  refine wm_ofW (by decide) (Nat.le_of_ble_eq_true rfl) (fun p e s m below meth c ls R args Q hRe hQ X hr hnm hP hS hl => ?_)
  have hl : lv_has ls 3 [(0, .ref (b + 119)), (1, .int (nI k)), (2, .int (nI sv))] := hl
  refine lv_aload_n X.1 X.2.1 dX7_noState_0 rfl (lv_at hl 0 rfl) ?_
  refine lv_iload_n X.1 X.2.1 dX7_noState_1 rfl (lv_at hl 1 rfl) ?_
  refine wm_callVi (k := 1) (As := [.int (nI k)]) (rest := []) X hP hS hlt0 hE0 rfl (knoMach l D C b n E k (by omega)) wq5_157 wq5_159 wqP2_15 wq1_8 wq5_160 (by decide) (by rw [hRe]; exact ⟨Nat.le_of_ble_eq_true rfl, Nat.le_of_ble_eq_true rfl⟩) rfl hl.1 rfl (Nat.le_of_ble_eq_true rfl) (Nat.zero_le _) (Nat.zero_le _) dX7_noState_2 (fun r1 E1 H locs hw hP hS => ?_)
  obtain ⟨hrt, hEe⟩ := hw
  subst hrt
  subst hEe
  refine wm_ifz_ne (x := false) (tgt := 22) X dX7_noState_5 (by decide) (fun h => by exfalso; revert h; decide) (fun _ => ?_)
  refine lv_iload_n X.1 X.2.1 dX7_noState_8 rfl (lv_at hl 2 rfl) ?_
  refine wm_if_lt (x := sv) (tgt := 22) X (by omega) dX7_noState_9 (by decide) ?_
  refine lv_iload_n X.1 X.2.1 dX7_noState_12 rfl (lv_at hl 2 rfl) ?_
  refine lv_aload_n X.1 X.2.1 dX7_noState_13 rfl (lv_at hl 0 rfl) ?_
  refine wm_get X hP hlt0 hE0 rfl wm_inX7 6 (by decide) wq5_28 rfl dX7_noState_14 ?_
  refine lv_iload_n X.1 X.2.1 dX7_noState_17 rfl (lv_at hl 1 rfl) ?_
  refine wm_iald (i := k) X hP hlt1 hE1 (by omega) (by decide) dX7_noState_18 ?_
  refine wm_icmp_lt (x := sv) (y := (ss k)) (tgt := 26) X (by omega) (by omega) dX7_noState_19 (by decide) (fun hc19 => ?_) (fun hc19 => ?_)
  · refine lv_iconst (v := nI 0) X.1 X.2.1 dX7_noState_26 (by decide) ?_
    exact wm_zret (v := false) (post := pnoSt C b E th sz fa pl ats aa op fi la wa wc kl be k sv ss) X hr hP hS ⟨rfl, rfl⟩ hQ dX7_noState_27
  · exact absurd hc19 (by omega)
def pmmarkX (C : Nat → ClassId) (b : Nat) (E : Nat → va_E) (th sz fa pl ats aa op fi la wa wc kl : Nat) (be : Bool) (x y z : Int32) : (Nat → va_E) → Prop := fun E' => E' 119 = .inr (7, [.int (nI 1), .ref (b + 120), .int (nI sz), .int (nI fa), .int (nI pl), .ref (b + 121), .ref (b + 122), .ref (b + 123), .ref (b + 124), .ref (b + 125), .ref (b + 126), .ref (b + 127), .int (nI ats), .int (nI aa), .ref (b + 128), .ref (b + 129), .ref (b + 130), .ref (b + 131), .ref (b + 132), .ref (b + 133), .int (nI op), .int (nI be.toNat), .int (nI fi), .int (nI la), .ref (b + 134), .ref (b + 135), .ref (b + 136), .int (nI wa), .ref (b + 137), .ref (b + 138), .ref (b + 139), .int (nI wc), .ref (b + 140), .int (nI kl), .ref (b + 141), .ref (b + 142), .ref (b + 143), .ref (b + 144), .ref (b + 145)]) ∧ (∀ j, j ≠ 119 → E' j = E j)
set_option maxHeartbeats 4000000 in
set_option maxRecDepth 100000 in
theorem kmmarkX (l : Launch) (D : va_G) (C : Nat → ClassId) (b n : Nat) (E : Nat → va_E) (th sz fa pl ats aa op fi la wa wc kl : Nat) (be : Bool) (x y z : Int32) (hlt0 : 119 < n) (hE0 : E 119 = .inr (7, [.int (nI th), .ref (b + 120), .int (nI sz), .int (nI fa), .int (nI pl), .ref (b + 121), .ref (b + 122), .ref (b + 123), .ref (b + 124), .ref (b + 125), .ref (b + 126), .ref (b + 127), .int (nI ats), .int (nI aa), .ref (b + 128), .ref (b + 129), .ref (b + 130), .ref (b + 131), .ref (b + 132), .ref (b + 133), .int (nI op), .int (nI be.toNat), .int (nI fi), .int (nI la), .ref (b + 134), .ref (b + 135), .ref (b + 136), .int (nI wa), .ref (b + 137), .ref (b + 138), .ref (b + 139), .int (nI wc), .ref (b + 140), .int (nI kl), .ref (b + 141), .ref (b + 142), .ref (b + 143), .ref (b + 144), .ref (b + 145)])) (hk : ¬ (0 ≤ x ∧ x < nI 8)) : Met l yX7_mark (wm_ws yX7_mark cX7_mark 4 none) { frames := 2, cells := 0, slots := 0, locals := 43 } (va_Pc [.ref (b + 119), .int x, .int y, .int z] (wm_G D C b n E)) (va_Qv (pmmarkX C b E th sz fa pl ats aa op fi la wa wc kl be x y z) (fun E' t => wm_P D b n E' t.heap) (wm_A b)) 0 0 (wm_A b) := by
  refine wm_ofW (by decide) (Nat.le_of_ble_eq_true rfl) (fun p e s m below meth c ls R args Q hRe hQ X hr hnm hP hS hl => ?_)
  have hl : lv_has ls 4 [(0, .ref (b + 119)), (1, .int x), (2, .int y), (3, .int z)] := hl
  have hfr : ∀ j, j ≠ 119 → E j = E j := fun _ _ => rfl
  refine lv_aload_n X.1 X.2.1 dX7_mark_0 rfl (lv_at hl 0 rfl) ?_
  refine lv_aload_n X.1 X.2.1 dX7_mark_1 rfl (lv_at hl 0 rfl) ?_
  refine lv_iload_n X.1 X.2.1 dX7_mark_2 rfl (lv_at hl 1 rfl) ?_
  refine lv_iload_n X.1 X.2.1 dX7_mark_3 rfl (lv_at hl 2 rfl) ?_
  refine wm_callVi (k := 2) (As := [.int x, .int y]) (rest := [.ref (b + 119)]) X hP hS hlt0 hE0 rfl (knoStX l D C b n E th sz fa pl ats aa op fi la wa wc kl be x y hlt0 hE0 (by omega)) wq5_228 wq5_230 wqP3_12 wq1_8 wq5_231 (by decide) (by rw [hRe]; exact ⟨Nat.le_of_ble_eq_true rfl, Nat.le_of_ble_eq_true rfl⟩) rfl hl.1 rfl (Nat.le_of_ble_eq_true rfl) (Nat.zero_le _) (Nat.zero_le _) dX7_mark_4 (fun r1 E1 H locs hw hP hS => ?_)
  obtain ⟨hrt, hEe⟩ := hw
  subst hrt
  subst hEe
  refine wm_ifz_eq (x := true) (tgt := 14) X dX7_mark_7 (by decide) (fun h => by exfalso; revert h; decide) (fun _ => ?_)
  refine lv_iconst (v := nI 1) X.1 X.2.1 dX7_mark_10 (by decide) ?_
  refine lv_goto (tgt := 28) X.1 X.2.1 dX7_mark_11 (by decide) ?_
  refine wm_put (v := .int (nI 1)) X hP hS hlt0 hE0 rfl wm_inX7 tyX7 tyX7_ok nmX7 0 (by decide) wq5_22 rfl rfl rfl (fs1 := [.int (nI 1), .ref (b + 120), .int (nI sz), .int (nI fa), .int (nI pl), .ref (b + 121), .ref (b + 122), .ref (b + 123), .ref (b + 124), .ref (b + 125), .ref (b + 126), .ref (b + 127), .int (nI ats), .int (nI aa), .ref (b + 128), .ref (b + 129), .ref (b + 130), .ref (b + 131), .ref (b + 132), .ref (b + 133), .int (nI op), .int (nI be.toNat), .int (nI fi), .int (nI la), .ref (b + 134), .ref (b + 135), .ref (b + 136), .int (nI wa), .ref (b + 137), .ref (b + 138), .ref (b + 139), .int (nI wc), .ref (b + 140), .int (nI kl), .ref (b + 141), .ref (b + 142), .ref (b + 143), .ref (b + 144), .ref (b + 145)]) rfl (Nat.le_of_ble_eq_true rfl) dX7_mark_28 (fun H locs E2 hP hS hE0 hq => ?_)
  have hfr : ∀ j, j ≠ 119 → E2 j = E j := fun j h0 => (hq j h0).trans (hfr j h0)
  refine lv_aload_n X.1 X.2.1 dX7_mark_31 rfl (lv_at hl 0 rfl) ?_
  refine wm_get X hP hlt0 hE0 rfl wm_inX7 0 (by decide) wq5_22 rfl dX7_mark_32 ?_
  refine lv_if_ne (tgt := 112) X.1 X.2.1 dX7_mark_35 (by decide) (fun _ => ?_) (fun h => by exfalso; revert h; decide)
  exact wm_vret (post := pmmarkX C b E th sz fa pl ats aa op fi la wa wc kl be x y z) X hr hP hS ⟨hE0, hfr⟩ hQ dX7_mark_112
def pmmarkS (C : Nat → ClassId) (b : Nat) (E : Nat → va_E) (th sz fa pl ats aa op fi la wa wc kl : Nat) (be : Bool) (k : Nat) (y z : Int32) (ss : Nat → Nat) : (Nat → va_E) → Prop := fun E' => E' 119 = .inr (7, [.int (nI 1), .ref (b + 120), .int (nI sz), .int (nI fa), .int (nI pl), .ref (b + 121), .ref (b + 122), .ref (b + 123), .ref (b + 124), .ref (b + 125), .ref (b + 126), .ref (b + 127), .int (nI ats), .int (nI aa), .ref (b + 128), .ref (b + 129), .ref (b + 130), .ref (b + 131), .ref (b + 132), .ref (b + 133), .int (nI op), .int (nI be.toNat), .int (nI fi), .int (nI la), .ref (b + 134), .ref (b + 135), .ref (b + 136), .int (nI wa), .ref (b + 137), .ref (b + 138), .ref (b + 139), .int (nI wc), .ref (b + 140), .int (nI kl), .ref (b + 141), .ref (b + 142), .ref (b + 143), .ref (b + 144), .ref (b + 145)]) ∧ (∀ j, j ≠ 119 → E' j = E j)
set_option maxHeartbeats 4000000 in
set_option maxRecDepth 100000 in
theorem kmmarkS (l : Launch) (D : va_G) (C : Nat → ClassId) (b n : Nat) (E : Nat → va_E) (th sz fa pl ats aa op fi la wa wc kl : Nat) (be : Bool) (k : Nat) (y z : Int32) (ss : Nat → Nat) (hlt0 : 119 < n) (hE0 : E 119 = .inr (7, [.int (nI th), .ref (b + 120), .int (nI sz), .int (nI fa), .int (nI pl), .ref (b + 121), .ref (b + 122), .ref (b + 123), .ref (b + 124), .ref (b + 125), .ref (b + 126), .ref (b + 127), .int (nI ats), .int (nI aa), .ref (b + 128), .ref (b + 129), .ref (b + 130), .ref (b + 131), .ref (b + 132), .ref (b + 133), .int (nI op), .int (nI be.toNat), .int (nI fi), .int (nI la), .ref (b + 134), .ref (b + 135), .ref (b + 136), .int (nI wa), .ref (b + 137), .ref (b + 138), .ref (b + 139), .int (nI wc), .ref (b + 140), .int (nI kl), .ref (b + 141), .ref (b + 142), .ref (b + 143), .ref (b + 144), .ref (b + 145)])) (hlt1 : 122 < n) (hE1 : E 122 = wm_I C 8 ss) (hkk : k < 8) (hk : ¬ (0 ≤ y ∧ y < nI (ss k))) : Met l yX7_mark (wm_ws yX7_mark cX7_mark 4 none) { frames := 2, cells := 0, slots := 0, locals := 43 } (va_Pc [.ref (b + 119), .int (nI k), .int y, .int z] (wm_G D C b n E)) (va_Qv (pmmarkS C b E th sz fa pl ats aa op fi la wa wc kl be k y z ss) (fun E' t => wm_P D b n E' t.heap) (wm_A b)) 0 0 (wm_A b) := by
  refine wm_ofW (by decide) (Nat.le_of_ble_eq_true rfl) (fun p e s m below meth c ls R args Q hRe hQ X hr hnm hP hS hl => ?_)
  have hl : lv_has ls 4 [(0, .ref (b + 119)), (1, .int (nI k)), (2, .int y), (3, .int z)] := hl
  have hfr : ∀ j, j ≠ 119 → E j = E j := fun _ _ => rfl
  refine lv_aload_n X.1 X.2.1 dX7_mark_0 rfl (lv_at hl 0 rfl) ?_
  refine lv_aload_n X.1 X.2.1 dX7_mark_1 rfl (lv_at hl 0 rfl) ?_
  refine lv_iload_n X.1 X.2.1 dX7_mark_2 rfl (lv_at hl 1 rfl) ?_
  refine lv_iload_n X.1 X.2.1 dX7_mark_3 rfl (lv_at hl 2 rfl) ?_
  refine wm_callVi (k := 2) (As := [.int (nI k), .int y]) (rest := [.ref (b + 119)]) X hP hS hlt0 hE0 rfl (knoStS l D C b n E th sz fa pl ats aa op fi la wa wc kl be k y ss hlt0 hE0 hlt1 hE1 (by omega) (by omega)) wq5_228 wq5_230 wqP3_12 wq1_8 wq5_231 (by decide) (by rw [hRe]; exact ⟨Nat.le_of_ble_eq_true rfl, Nat.le_of_ble_eq_true rfl⟩) rfl hl.1 rfl (Nat.le_of_ble_eq_true rfl) (Nat.zero_le _) (Nat.zero_le _) dX7_mark_4 (fun r1 E1 H locs hw hP hS => ?_)
  obtain ⟨hrt, hEe⟩ := hw
  subst hrt
  subst hEe
  refine wm_ifz_eq (x := true) (tgt := 14) X dX7_mark_7 (by decide) (fun h => by exfalso; revert h; decide) (fun _ => ?_)
  refine lv_iconst (v := nI 1) X.1 X.2.1 dX7_mark_10 (by decide) ?_
  refine lv_goto (tgt := 28) X.1 X.2.1 dX7_mark_11 (by decide) ?_
  refine wm_put (v := .int (nI 1)) X hP hS hlt0 hE0 rfl wm_inX7 tyX7 tyX7_ok nmX7 0 (by decide) wq5_22 rfl rfl rfl (fs1 := [.int (nI 1), .ref (b + 120), .int (nI sz), .int (nI fa), .int (nI pl), .ref (b + 121), .ref (b + 122), .ref (b + 123), .ref (b + 124), .ref (b + 125), .ref (b + 126), .ref (b + 127), .int (nI ats), .int (nI aa), .ref (b + 128), .ref (b + 129), .ref (b + 130), .ref (b + 131), .ref (b + 132), .ref (b + 133), .int (nI op), .int (nI be.toNat), .int (nI fi), .int (nI la), .ref (b + 134), .ref (b + 135), .ref (b + 136), .int (nI wa), .ref (b + 137), .ref (b + 138), .ref (b + 139), .int (nI wc), .ref (b + 140), .int (nI kl), .ref (b + 141), .ref (b + 142), .ref (b + 143), .ref (b + 144), .ref (b + 145)]) rfl (Nat.le_of_ble_eq_true rfl) dX7_mark_28 (fun H locs E2 hP hS hE0 hq => ?_)
  have hE1 := (hq 122 (by decide)).trans hE1
  have hfr : ∀ j, j ≠ 119 → E2 j = E j := fun j h0 => (hq j h0).trans (hfr j h0)
  refine lv_aload_n X.1 X.2.1 dX7_mark_31 rfl (lv_at hl 0 rfl) ?_
  refine wm_get X hP hlt0 hE0 rfl wm_inX7 0 (by decide) wq5_22 rfl dX7_mark_32 ?_
  refine lv_if_ne (tgt := 112) X.1 X.2.1 dX7_mark_35 (by decide) (fun _ => ?_) (fun h => by exfalso; revert h; decide)
  exact wm_vret (post := pmmarkS C b E th sz fa pl ats aa op fi la wa wc kl be k y z ss) X hr hP hS ⟨hE0, hfr⟩ hQ dX7_mark_112
def pmmarkA (C : Nat → ClassId) (b : Nat) (E : Nat → va_E) (th sz fa pl ats aa op fi la wa wc kl : Nat) (be : Bool) (k sv : Nat) (z : Int32) (ss : Nat → Nat) : (Nat → va_E) → Prop := fun E' => E' 119 = .inr (7, [.int (nI 2), .ref (b + 120), .int (nI sz), .int (nI fa), .int (nI pl), .ref (b + 121), .ref (b + 122), .ref (b + 123), .ref (b + 124), .ref (b + 125), .ref (b + 126), .ref (b + 127), .int (nI ats), .int (nI aa), .ref (b + 128), .ref (b + 129), .ref (b + 130), .ref (b + 131), .ref (b + 132), .ref (b + 133), .int (nI op), .int (nI be.toNat), .int (nI fi), .int (nI la), .ref (b + 134), .ref (b + 135), .ref (b + 136), .int (nI wa), .ref (b + 137), .ref (b + 138), .ref (b + 139), .int (nI wc), .ref (b + 140), .int (nI kl), .ref (b + 141), .ref (b + 142), .ref (b + 143), .ref (b + 144), .ref (b + 145)]) ∧ (∀ j, j ≠ 119 → E' j = E j)
set_option maxHeartbeats 4000000 in
set_option maxRecDepth 100000 in
theorem kmmarkA (l : Launch) (D : va_G) (C : Nat → ClassId) (b n : Nat) (E : Nat → va_E) (th sz fa pl ats aa op fi la wa wc kl : Nat) (be : Bool) (k sv : Nat) (z : Int32) (ss : Nat → Nat) (hlt0 : 119 < n) (hE0 : E 119 = .inr (7, [.int (nI th), .ref (b + 120), .int (nI sz), .int (nI fa), .int (nI pl), .ref (b + 121), .ref (b + 122), .ref (b + 123), .ref (b + 124), .ref (b + 125), .ref (b + 126), .ref (b + 127), .int (nI ats), .int (nI aa), .ref (b + 128), .ref (b + 129), .ref (b + 130), .ref (b + 131), .ref (b + 132), .ref (b + 133), .int (nI op), .int (nI be.toNat), .int (nI fi), .int (nI la), .ref (b + 134), .ref (b + 135), .ref (b + 136), .int (nI wa), .ref (b + 137), .ref (b + 138), .ref (b + 139), .int (nI wc), .ref (b + 140), .int (nI kl), .ref (b + 141), .ref (b + 142), .ref (b + 143), .ref (b + 144), .ref (b + 145)])) (hlt1 : 122 < n) (hE1 : E 122 = wm_I C 8 ss) (hkk : k < 8) (hsv : sv < ss k) (hsk : ss k ≤ 24) (hk : ¬ (0 ≤ z ∧ z ≤ nI 3)) : Met l yX7_mark (wm_ws yX7_mark cX7_mark 4 none) { frames := 2, cells := 0, slots := 0, locals := 43 } (va_Pc [.ref (b + 119), .int (nI k), .int (nI sv), .int z] (wm_G D C b n E)) (va_Qv (pmmarkA C b E th sz fa pl ats aa op fi la wa wc kl be k sv z ss) (fun E' t => wm_P D b n E' t.heap) (wm_A b)) 0 0 (wm_A b) := by
  refine wm_ofW (by decide) (Nat.le_of_ble_eq_true rfl) (fun p e s m below meth c ls R args Q hRe hQ X hr hnm hP hS hl => ?_)
  have hl : lv_has ls 4 [(0, .ref (b + 119)), (1, .int (nI k)), (2, .int (nI sv)), (3, .int z)] := hl
  have hfr : ∀ j, j ≠ 119 → E j = E j := fun _ _ => rfl
  refine lv_aload_n X.1 X.2.1 dX7_mark_0 rfl (lv_at hl 0 rfl) ?_
  refine lv_aload_n X.1 X.2.1 dX7_mark_1 rfl (lv_at hl 0 rfl) ?_
  refine lv_iload_n X.1 X.2.1 dX7_mark_2 rfl (lv_at hl 1 rfl) ?_
  refine lv_iload_n X.1 X.2.1 dX7_mark_3 rfl (lv_at hl 2 rfl) ?_
  refine wm_callVi (k := 2) (As := [.int (nI k), .int (nI sv)]) (rest := [.ref (b + 119)]) X hP hS hlt0 hE0 rfl (knoSt l D C b n E th sz fa pl ats aa op fi la wa wc kl be k sv ss hlt0 hE0 hlt1 hE1 (by omega) (by omega) (by omega)) wq5_228 wq5_230 wqP3_12 wq1_8 wq5_231 (by decide) (by rw [hRe]; exact ⟨Nat.le_of_ble_eq_true rfl, Nat.le_of_ble_eq_true rfl⟩) rfl hl.1 rfl (Nat.le_of_ble_eq_true rfl) (Nat.zero_le _) (Nat.zero_le _) dX7_mark_4 (fun r1 E1 H locs hw hP hS => ?_)
  obtain ⟨hrt, hEe⟩ := hw
  subst hrt
  subst hEe
  refine wm_ifz_eq (x := false) (tgt := 14) X dX7_mark_7 (by decide) (fun _ => ?_) (fun h => by exfalso; revert h; decide)
  refine lv_iload_n X.1 X.2.1 dX7_mark_14 rfl (lv_at hl 3 rfl) ?_
  refine lv_if_lt (tgt := 23) X.1 X.2.1 dX7_mark_15 (by decide) (fun hc15 => ?_) (fun hc15 => ?_)
  · refine lv_iconst (v := nI 2) X.1 X.2.1 dX7_mark_23 (by decide) ?_
    refine lv_goto (tgt := 28) X.1 X.2.1 dX7_mark_24 (by decide) ?_
    refine wm_put (v := .int (nI 2)) X hP hS hlt0 hE0 rfl wm_inX7 tyX7 tyX7_ok nmX7 0 (by decide) wq5_22 rfl rfl rfl (fs1 := [.int (nI 2), .ref (b + 120), .int (nI sz), .int (nI fa), .int (nI pl), .ref (b + 121), .ref (b + 122), .ref (b + 123), .ref (b + 124), .ref (b + 125), .ref (b + 126), .ref (b + 127), .int (nI ats), .int (nI aa), .ref (b + 128), .ref (b + 129), .ref (b + 130), .ref (b + 131), .ref (b + 132), .ref (b + 133), .int (nI op), .int (nI be.toNat), .int (nI fi), .int (nI la), .ref (b + 134), .ref (b + 135), .ref (b + 136), .int (nI wa), .ref (b + 137), .ref (b + 138), .ref (b + 139), .int (nI wc), .ref (b + 140), .int (nI kl), .ref (b + 141), .ref (b + 142), .ref (b + 143), .ref (b + 144), .ref (b + 145)]) rfl (Nat.le_of_ble_eq_true rfl) dX7_mark_28 (fun H locs E3 hP hS hE0 hq => ?_)
    have hE1 := (hq 122 (by decide)).trans hE1
    have hfr : ∀ j, j ≠ 119 → E3 j = E j := fun j h0 => (hq j h0).trans (hfr j h0)
    refine lv_aload_n X.1 X.2.1 dX7_mark_31 rfl (lv_at hl 0 rfl) ?_
    refine wm_get X hP hlt0 hE0 rfl wm_inX7 0 (by decide) wq5_22 rfl dX7_mark_32 ?_
    refine lv_if_ne (tgt := 112) X.1 X.2.1 dX7_mark_35 (by decide) (fun _ => ?_) (fun h => by exfalso; revert h; decide)
    exact wm_vret (post := pmmarkA C b E th sz fa pl ats aa op fi la wa wc kl be k sv z ss) X hr hP hS ⟨hE0, hfr⟩ hQ dX7_mark_112
  · refine lv_iload_n X.1 X.2.1 dX7_mark_18 rfl (lv_at hl 3 rfl) ?_
    refine lv_iconst (v := nI 3) X.1 X.2.1 dX7_mark_19 (by decide) ?_
    refine lv_icmp_le (tgt := 27) X.1 X.2.1 dX7_mark_20 (by decide) (fun hc20 => ?_) (fun hc20 => ?_)
    · exact absurd hc20 (fun q => hk ⟨Int32.not_lt.mp hc15, q⟩)
    · refine lv_iconst (v := nI 2) X.1 X.2.1 dX7_mark_23 (by decide) ?_
      refine lv_goto (tgt := 28) X.1 X.2.1 dX7_mark_24 (by decide) ?_
      refine wm_put (v := .int (nI 2)) X hP hS hlt0 hE0 rfl wm_inX7 tyX7 tyX7_ok nmX7 0 (by decide) wq5_22 rfl rfl rfl (fs1 := [.int (nI 2), .ref (b + 120), .int (nI sz), .int (nI fa), .int (nI pl), .ref (b + 121), .ref (b + 122), .ref (b + 123), .ref (b + 124), .ref (b + 125), .ref (b + 126), .ref (b + 127), .int (nI ats), .int (nI aa), .ref (b + 128), .ref (b + 129), .ref (b + 130), .ref (b + 131), .ref (b + 132), .ref (b + 133), .int (nI op), .int (nI be.toNat), .int (nI fi), .int (nI la), .ref (b + 134), .ref (b + 135), .ref (b + 136), .int (nI wa), .ref (b + 137), .ref (b + 138), .ref (b + 139), .int (nI wc), .ref (b + 140), .int (nI kl), .ref (b + 141), .ref (b + 142), .ref (b + 143), .ref (b + 144), .ref (b + 145)]) rfl (Nat.le_of_ble_eq_true rfl) dX7_mark_28 (fun H locs E5 hP hS hE0 hq => ?_)
      have hE1 := (hq 122 (by decide)).trans hE1
      have hfr : ∀ j, j ≠ 119 → E5 j = E j := fun j h0 => (hq j h0).trans (hfr j h0)
      refine lv_aload_n X.1 X.2.1 dX7_mark_31 rfl (lv_at hl 0 rfl) ?_
      refine wm_get X hP hlt0 hE0 rfl wm_inX7 0 (by decide) wq5_22 rfl dX7_mark_32 ?_
      refine lv_if_ne (tgt := 112) X.1 X.2.1 dX7_mark_35 (by decide) (fun _ => ?_) (fun h => by exfalso; revert h; decide)
      exact wm_vret (post := pmmarkA C b E th sz fa pl ats aa op fi la wa wc kl be k sv z ss) X hr hP hS ⟨hE0, hfr⟩ hQ dX7_mark_112
def pmmark1 (C : Nat → ClassId) (b : Nat) (E : Nat → va_E) (th sz fa pl ats aa op fi la wa wc kl : Nat) (be : Bool) (k sv z : Nat) (ss sa se : Nat → Nat) : (Nat → va_E) → Prop := fun E' => E' 119 = .inr (7, [.int (nI 0), .ref (b + 120), .int (nI sz), .int (nI fa), .int (nI pl), .ref (b + 121), .ref (b + 122), .ref (b + 123), .ref (b + 124), .ref (b + 125), .ref (b + 126), .ref (b + 127), .int (nI ats), .int (nI aa), .ref (b + 128), .ref (b + 129), .ref (b + 130), .ref (b + 131), .ref (b + 132), .ref (b + 133), .int (nI op), .int (nI be.toNat), .int (nI fi), .int (nI la), .ref (b + 134), .ref (b + 135), .ref (b + 136), .int (nI wa), .ref (b + 137), .ref (b + 138), .ref (b + 139), .int (nI wc), .ref (b + 140), .int (nI kl), .ref (b + 141), .ref (b + 142), .ref (b + 143), .ref (b + 144), .ref (b + 145)]) ∧ E' 123 = wm_I C 8 (va_up sa k (wm_wb (sa k) sv (decide (z % 2 = 1)))) ∧ E' 124 = wm_I C 8 (va_up se k (wm_wb (se k) sv (decide (1 < z)))) ∧ (∀ j, j ≠ 119 → j ≠ 123 → j ≠ 124 → E' j = E j)
set_option maxHeartbeats 4000000 in
set_option maxRecDepth 100000 in
theorem kmmark1 (l : Launch) (D : va_G) (C : Nat → ClassId) (b n : Nat) (E : Nat → va_E) (th sz fa pl ats aa op fi la wa wc kl : Nat) (be : Bool) (k sv z : Nat) (ss sa se : Nat → Nat) (hlt0 : 119 < n) (hE0 : E 119 = .inr (7, [.int (nI th), .ref (b + 120), .int (nI sz), .int (nI fa), .int (nI pl), .ref (b + 121), .ref (b + 122), .ref (b + 123), .ref (b + 124), .ref (b + 125), .ref (b + 126), .ref (b + 127), .int (nI ats), .int (nI aa), .ref (b + 128), .ref (b + 129), .ref (b + 130), .ref (b + 131), .ref (b + 132), .ref (b + 133), .int (nI op), .int (nI be.toNat), .int (nI fi), .int (nI la), .ref (b + 134), .ref (b + 135), .ref (b + 136), .int (nI wa), .ref (b + 137), .ref (b + 138), .ref (b + 139), .int (nI wc), .ref (b + 140), .int (nI kl), .ref (b + 141), .ref (b + 142), .ref (b + 143), .ref (b + 144), .ref (b + 145)])) (hlt1 : 122 < n) (hE1 : E 122 = wm_I C 8 ss) (hlt2 : 123 < n) (hE2 : E 123 = wm_I C 8 sa) (hlt3 : 124 < n) (hE3 : E 124 = wm_I C 8 se) (hkk : k < 8) (hsv : sv < ss k) (hsk : ss k ≤ 24) (hz : z ≤ 3) : Met l yX7_mark (wm_ws yX7_mark cX7_mark 4 none) { frames := 2, cells := 0, slots := 0, locals := 43 } (va_Pc [.ref (b + 119), .int (nI k), .int (nI sv), .int (nI z)] (wm_G D C b n E)) (va_Qv (pmmark1 C b E th sz fa pl ats aa op fi la wa wc kl be k sv z ss sa se) (fun E' t => wm_P D b n E' t.heap) (wm_A b)) 0 0 (wm_A b) := by
  refine wm_ofW (by decide) (Nat.le_of_ble_eq_true rfl) (fun p e s m below meth c ls R args Q hRe hQ X hr hnm hP hS hl => ?_)
  have hl : lv_has ls 4 [(0, .ref (b + 119)), (1, .int (nI k)), (2, .int (nI sv)), (3, .int (nI z))] := hl
  have hfr : ∀ j, j ≠ 119 → j ≠ 123 → j ≠ 124 → E j = E j := fun _ _ _ _ => rfl
  refine lv_aload_n X.1 X.2.1 dX7_mark_0 rfl (lv_at hl 0 rfl) ?_
  refine lv_aload_n X.1 X.2.1 dX7_mark_1 rfl (lv_at hl 0 rfl) ?_
  refine lv_iload_n X.1 X.2.1 dX7_mark_2 rfl (lv_at hl 1 rfl) ?_
  refine lv_iload_n X.1 X.2.1 dX7_mark_3 rfl (lv_at hl 2 rfl) ?_
  refine wm_callVi (k := 2) (As := [.int (nI k), .int (nI sv)]) (rest := [.ref (b + 119)]) X hP hS hlt0 hE0 rfl (knoSt l D C b n E th sz fa pl ats aa op fi la wa wc kl be k sv ss hlt0 hE0 hlt1 hE1 (by omega) (by omega) (by omega)) wq5_228 wq5_230 wqP3_12 wq1_8 wq5_231 (by decide) (by rw [hRe]; exact ⟨Nat.le_of_ble_eq_true rfl, Nat.le_of_ble_eq_true rfl⟩) rfl hl.1 rfl (Nat.le_of_ble_eq_true rfl) (Nat.zero_le _) (Nat.zero_le _) dX7_mark_4 (fun r1 E1 H locs hw hP hS => ?_)
  obtain ⟨hrt, hEe⟩ := hw
  subst hrt
  subst hEe
  refine wm_ifz_eq (x := false) (tgt := 14) X dX7_mark_7 (by decide) (fun _ => ?_) (fun h => by exfalso; revert h; decide)
  refine lv_iload_n X.1 X.2.1 dX7_mark_14 rfl (lv_at hl 3 rfl) ?_
  refine wm_if_lt (x := z) (tgt := 23) X (by omega) dX7_mark_15 (by decide) ?_
  refine lv_iload_n X.1 X.2.1 dX7_mark_18 rfl (lv_at hl 3 rfl) ?_
  refine lv_iconst (v := nI 3) X.1 X.2.1 dX7_mark_19 (by decide) ?_
  refine wm_icmp_le (x := z) (y := 3) (tgt := 27) X (by omega) (by decide) dX7_mark_20 (by decide) (fun hc20 => ?_) (fun hc20 => ?_)
  · refine lv_iconst (v := nI 0) X.1 X.2.1 dX7_mark_27 (by decide) ?_
    refine wm_put (v := .int (nI 0)) X hP hS hlt0 hE0 rfl wm_inX7 tyX7 tyX7_ok nmX7 0 (by decide) wq5_22 rfl rfl rfl (fs1 := [.int (nI 0), .ref (b + 120), .int (nI sz), .int (nI fa), .int (nI pl), .ref (b + 121), .ref (b + 122), .ref (b + 123), .ref (b + 124), .ref (b + 125), .ref (b + 126), .ref (b + 127), .int (nI ats), .int (nI aa), .ref (b + 128), .ref (b + 129), .ref (b + 130), .ref (b + 131), .ref (b + 132), .ref (b + 133), .int (nI op), .int (nI be.toNat), .int (nI fi), .int (nI la), .ref (b + 134), .ref (b + 135), .ref (b + 136), .int (nI wa), .ref (b + 137), .ref (b + 138), .ref (b + 139), .int (nI wc), .ref (b + 140), .int (nI kl), .ref (b + 141), .ref (b + 142), .ref (b + 143), .ref (b + 144), .ref (b + 145)]) rfl (Nat.le_of_ble_eq_true rfl) dX7_mark_28 (fun H locs E3 hP hS hE0 hq => ?_)
    have hE1 := (hq 122 (by decide)).trans hE1
    have hE2 := (hq 123 (by decide)).trans hE2
    have hE3 := (hq 124 (by decide)).trans hE3
    have hfr : ∀ j, j ≠ 119 → j ≠ 123 → j ≠ 124 → E3 j = E j := fun j h0 h1 h2 => (hq j h0).trans (hfr j h0 h1 h2)
    refine lv_aload_n X.1 X.2.1 dX7_mark_31 rfl (lv_at hl 0 rfl) ?_
    refine wm_get X hP hlt0 hE0 rfl wm_inX7 0 (by decide) wq5_22 rfl dX7_mark_32 ?_
    refine lv_if_ne (tgt := 112) X.1 X.2.1 dX7_mark_35 (by decide) (fun h => by exfalso; revert h; decide) (fun _ => ?_)
    refine lv_aload_n X.1 X.2.1 dX7_mark_38 rfl (lv_at hl 0 rfl) ?_
    refine wm_get X hP hlt0 hE0 rfl wm_inX7 7 (by decide) wq5_29 rfl dX7_mark_39 ?_
    refine lv_iload_n X.1 X.2.1 dX7_mark_42 rfl (lv_at hl 1 rfl) ?_
    refine lv_iload_n X.1 X.2.1 dX7_mark_43 rfl (lv_at hl 3 rfl) ?_
    refine lv_iconst (v := nI 2) X.1 X.2.1 dX7_mark_44 (by decide) ?_
    refine wm_irem (x := z) (y := 2) X (by omega) (by omega) (by omega) dX7_mark_45 ?_
    refine lv_iconst (v := nI 1) X.1 X.2.1 dX7_mark_46 (by decide) ?_
    refine wm_icmp_ne (x := (z % 2)) (y := 1) (tgt := 63) X (by omega) (by decide) dX7_mark_47 (by decide) (fun hc47 => ?_) (fun hc47 => ?_)
    · refine lv_aload_n X.1 X.2.1 dX7_mark_63 rfl (lv_at hl 0 rfl) ?_
      refine wm_get X hP hlt0 hE0 rfl wm_inX7 7 (by decide) wq5_29 rfl dX7_mark_64 ?_
      refine lv_iload_n X.1 X.2.1 dX7_mark_67 rfl (lv_at hl 1 rfl) ?_
      refine wm_iald (i := k) X hP hlt2 hE2 (by omega) (by decide) dX7_mark_68 ?_
      refine lv_iconst (v := nI 1) X.1 X.2.1 dX7_mark_69 (by decide) ?_
      refine lv_iload_n X.1 X.2.1 dX7_mark_70 rfl (lv_at hl 2 rfl) ?_
      refine wm_ishl (x := 1) (y := sv) X (by omega) dX7_mark_71 ?_
      refine lv_iconst (v := nI 4294967295) X.1 X.2.1 dX7_mark_72 (by decide) ?_
      refine wm_ixor (x := (1 <<< sv)) (y := 4294967295) X dX7_mark_73 ?_
      refine wm_iand (x := (sa k)) (y := ((1 <<< sv) ^^^ 4294967295)) X dX7_mark_74 ?_
      refine wm_iast (i := k) (x := ((sa k) &&& ((1 <<< sv) ^^^ 4294967295))) X hP hS hlt2 hE2 (by omega) (by decide) dX7_mark_75 (fun H locs E5 hP hS hE2 hq => ?_)
      have hE0 := (hq 119 (by decide)).trans hE0
      have hE1 := (hq 122 (by decide)).trans hE1
      have hE3 := (hq 124 (by decide)).trans hE3
      have hfr : ∀ j, j ≠ 119 → j ≠ 123 → j ≠ 124 → E5 j = E j := fun j h0 h1 h2 => (hq j h1).trans (hfr j h0 h1 h2)
      refine lv_aload_n X.1 X.2.1 dX7_mark_76 rfl (lv_at hl 0 rfl) ?_
      refine wm_get X hP hlt0 hE0 rfl wm_inX7 8 (by decide) wq5_30 rfl dX7_mark_77 ?_
      refine lv_iload_n X.1 X.2.1 dX7_mark_80 rfl (lv_at hl 1 rfl) ?_
      refine lv_iload_n X.1 X.2.1 dX7_mark_81 rfl (lv_at hl 3 rfl) ?_
      refine lv_iconst (v := nI 1) X.1 X.2.1 dX7_mark_82 (by decide) ?_
      refine wm_icmp_le (x := z) (y := 1) (tgt := 99) X (by omega) (by decide) dX7_mark_83 (by decide) (fun hc83 => ?_) (fun hc83 => ?_)
      · refine lv_aload_n X.1 X.2.1 dX7_mark_99 rfl (lv_at hl 0 rfl) ?_
        refine wm_get X hP hlt0 hE0 rfl wm_inX7 8 (by decide) wq5_30 rfl dX7_mark_100 ?_
        refine lv_iload_n X.1 X.2.1 dX7_mark_103 rfl (lv_at hl 1 rfl) ?_
        refine wm_iald (i := k) X hP hlt3 hE3 (by omega) (by decide) dX7_mark_104 ?_
        refine lv_iconst (v := nI 1) X.1 X.2.1 dX7_mark_105 (by decide) ?_
        refine lv_iload_n X.1 X.2.1 dX7_mark_106 rfl (lv_at hl 2 rfl) ?_
        refine wm_ishl (x := 1) (y := sv) X (by omega) dX7_mark_107 ?_
        refine lv_iconst (v := nI 4294967295) X.1 X.2.1 dX7_mark_108 (by decide) ?_
        refine wm_ixor (x := (1 <<< sv)) (y := 4294967295) X dX7_mark_109 ?_
        refine wm_iand (x := (se k)) (y := ((1 <<< sv) ^^^ 4294967295)) X dX7_mark_110 ?_
        refine wm_iast (i := k) (x := ((se k) &&& ((1 <<< sv) ^^^ 4294967295))) X hP hS hlt3 hE3 (by omega) (by decide) dX7_mark_111 (fun H locs E7 hP hS hE3 hq => ?_)
        have hE0 := (hq 119 (by decide)).trans hE0
        have hE1 := (hq 122 (by decide)).trans hE1
        have hE2 := (hq 123 (by decide)).trans hE2
        have hfr : ∀ j, j ≠ 119 → j ≠ 123 → j ≠ 124 → E7 j = E j := fun j h0 h1 h2 => (hq j h2).trans (hfr j h0 h1 h2)
        have q1 := decide_eq_false hc47
        have q2 := decide_eq_false (show ¬ 1 < z by omega)
        exact wm_vret (post := pmmark1 C b E th sz fa pl ats aa op fi la wa wc kl be k sv z ss sa se) X hr hP hS ⟨hE0, (by rw [q1]; exact hE2), (by rw [q2]; exact hE3), hfr⟩ hQ dX7_mark_112
      · refine lv_aload_n X.1 X.2.1 dX7_mark_86 rfl (lv_at hl 0 rfl) ?_
        refine wm_get X hP hlt0 hE0 rfl wm_inX7 8 (by decide) wq5_30 rfl dX7_mark_87 ?_
        refine lv_iload_n X.1 X.2.1 dX7_mark_90 rfl (lv_at hl 1 rfl) ?_
        refine wm_iald (i := k) X hP hlt3 hE3 (by omega) (by decide) dX7_mark_91 ?_
        refine lv_iconst (v := nI 1) X.1 X.2.1 dX7_mark_92 (by decide) ?_
        refine lv_iload_n X.1 X.2.1 dX7_mark_93 rfl (lv_at hl 2 rfl) ?_
        refine wm_ishl (x := 1) (y := sv) X (by omega) dX7_mark_94 ?_
        refine wm_ior (x := (se k)) (y := (1 <<< sv)) X dX7_mark_95 ?_
        refine lv_goto (tgt := 111) X.1 X.2.1 dX7_mark_96 (by decide) ?_
        refine wm_iast (i := k) (x := ((se k) ||| (1 <<< sv))) X hP hS hlt3 hE3 (by omega) (by decide) dX7_mark_111 (fun H locs E8 hP hS hE3 hq => ?_)
        have hE0 := (hq 119 (by decide)).trans hE0
        have hE1 := (hq 122 (by decide)).trans hE1
        have hE2 := (hq 123 (by decide)).trans hE2
        have hfr : ∀ j, j ≠ 119 → j ≠ 123 → j ≠ 124 → E8 j = E j := fun j h0 h1 h2 => (hq j h2).trans (hfr j h0 h1 h2)
        have q1 := decide_eq_false hc47
        have q2 := decide_eq_true (show 1 < z by omega)
        exact wm_vret (post := pmmark1 C b E th sz fa pl ats aa op fi la wa wc kl be k sv z ss sa se) X hr hP hS ⟨hE0, (by rw [q1]; exact hE2), (by rw [q2]; exact hE3), hfr⟩ hQ dX7_mark_112
    · refine lv_aload_n X.1 X.2.1 dX7_mark_50 rfl (lv_at hl 0 rfl) ?_
      refine wm_get X hP hlt0 hE0 rfl wm_inX7 7 (by decide) wq5_29 rfl dX7_mark_51 ?_
      refine lv_iload_n X.1 X.2.1 dX7_mark_54 rfl (lv_at hl 1 rfl) ?_
      refine wm_iald (i := k) X hP hlt2 hE2 (by omega) (by decide) dX7_mark_55 ?_
      refine lv_iconst (v := nI 1) X.1 X.2.1 dX7_mark_56 (by decide) ?_
      refine lv_iload_n X.1 X.2.1 dX7_mark_57 rfl (lv_at hl 2 rfl) ?_
      refine wm_ishl (x := 1) (y := sv) X (by omega) dX7_mark_58 ?_
      refine wm_ior (x := (sa k)) (y := (1 <<< sv)) X dX7_mark_59 ?_
      refine lv_goto (tgt := 75) X.1 X.2.1 dX7_mark_60 (by decide) ?_
      refine wm_iast (i := k) (x := ((sa k) ||| (1 <<< sv))) X hP hS hlt2 hE2 (by omega) (by decide) dX7_mark_75 (fun H locs E9 hP hS hE2 hq => ?_)
      have hE0 := (hq 119 (by decide)).trans hE0
      have hE1 := (hq 122 (by decide)).trans hE1
      have hE3 := (hq 124 (by decide)).trans hE3
      have hfr : ∀ j, j ≠ 119 → j ≠ 123 → j ≠ 124 → E9 j = E j := fun j h0 h1 h2 => (hq j h1).trans (hfr j h0 h1 h2)
      refine lv_aload_n X.1 X.2.1 dX7_mark_76 rfl (lv_at hl 0 rfl) ?_
      refine wm_get X hP hlt0 hE0 rfl wm_inX7 8 (by decide) wq5_30 rfl dX7_mark_77 ?_
      refine lv_iload_n X.1 X.2.1 dX7_mark_80 rfl (lv_at hl 1 rfl) ?_
      refine lv_iload_n X.1 X.2.1 dX7_mark_81 rfl (lv_at hl 3 rfl) ?_
      refine lv_iconst (v := nI 1) X.1 X.2.1 dX7_mark_82 (by decide) ?_
      refine wm_icmp_le (x := z) (y := 1) (tgt := 99) X (by omega) (by decide) dX7_mark_83 (by decide) (fun hc83 => ?_) (fun hc83 => ?_)
      · refine lv_aload_n X.1 X.2.1 dX7_mark_99 rfl (lv_at hl 0 rfl) ?_
        refine wm_get X hP hlt0 hE0 rfl wm_inX7 8 (by decide) wq5_30 rfl dX7_mark_100 ?_
        refine lv_iload_n X.1 X.2.1 dX7_mark_103 rfl (lv_at hl 1 rfl) ?_
        refine wm_iald (i := k) X hP hlt3 hE3 (by omega) (by decide) dX7_mark_104 ?_
        refine lv_iconst (v := nI 1) X.1 X.2.1 dX7_mark_105 (by decide) ?_
        refine lv_iload_n X.1 X.2.1 dX7_mark_106 rfl (lv_at hl 2 rfl) ?_
        refine wm_ishl (x := 1) (y := sv) X (by omega) dX7_mark_107 ?_
        refine lv_iconst (v := nI 4294967295) X.1 X.2.1 dX7_mark_108 (by decide) ?_
        refine wm_ixor (x := (1 <<< sv)) (y := 4294967295) X dX7_mark_109 ?_
        refine wm_iand (x := (se k)) (y := ((1 <<< sv) ^^^ 4294967295)) X dX7_mark_110 ?_
        refine wm_iast (i := k) (x := ((se k) &&& ((1 <<< sv) ^^^ 4294967295))) X hP hS hlt3 hE3 (by omega) (by decide) dX7_mark_111 (fun H locs E11 hP hS hE3 hq => ?_)
        have hE0 := (hq 119 (by decide)).trans hE0
        have hE1 := (hq 122 (by decide)).trans hE1
        have hE2 := (hq 123 (by decide)).trans hE2
        have hfr : ∀ j, j ≠ 119 → j ≠ 123 → j ≠ 124 → E11 j = E j := fun j h0 h1 h2 => (hq j h2).trans (hfr j h0 h1 h2)
        have q1 := decide_eq_true hc47
        have q2 := decide_eq_false (show ¬ 1 < z by omega)
        exact wm_vret (post := pmmark1 C b E th sz fa pl ats aa op fi la wa wc kl be k sv z ss sa se) X hr hP hS ⟨hE0, (by rw [q1]; exact hE2), (by rw [q2]; exact hE3), hfr⟩ hQ dX7_mark_112
      · refine lv_aload_n X.1 X.2.1 dX7_mark_86 rfl (lv_at hl 0 rfl) ?_
        refine wm_get X hP hlt0 hE0 rfl wm_inX7 8 (by decide) wq5_30 rfl dX7_mark_87 ?_
        refine lv_iload_n X.1 X.2.1 dX7_mark_90 rfl (lv_at hl 1 rfl) ?_
        refine wm_iald (i := k) X hP hlt3 hE3 (by omega) (by decide) dX7_mark_91 ?_
        refine lv_iconst (v := nI 1) X.1 X.2.1 dX7_mark_92 (by decide) ?_
        refine lv_iload_n X.1 X.2.1 dX7_mark_93 rfl (lv_at hl 2 rfl) ?_
        refine wm_ishl (x := 1) (y := sv) X (by omega) dX7_mark_94 ?_
        refine wm_ior (x := (se k)) (y := (1 <<< sv)) X dX7_mark_95 ?_
        refine lv_goto (tgt := 111) X.1 X.2.1 dX7_mark_96 (by decide) ?_
        refine wm_iast (i := k) (x := ((se k) ||| (1 <<< sv))) X hP hS hlt3 hE3 (by omega) (by decide) dX7_mark_111 (fun H locs E12 hP hS hE3 hq => ?_)
        have hE0 := (hq 119 (by decide)).trans hE0
        have hE1 := (hq 122 (by decide)).trans hE1
        have hE2 := (hq 123 (by decide)).trans hE2
        have hfr : ∀ j, j ≠ 119 → j ≠ 123 → j ≠ 124 → E12 j = E j := fun j h0 h1 h2 => (hq j h2).trans (hfr j h0 h1 h2)
        have q1 := decide_eq_true hc47
        have q2 := decide_eq_true (show 1 < z by omega)
        exact wm_vret (post := pmmark1 C b E th sz fa pl ats aa op fi la wa wc kl be k sv z ss sa se) X hr hP hS ⟨hE0, (by rw [q1]; exact hE2), (by rw [q2]; exact hE3), hfr⟩ hQ dX7_mark_112
  · exact absurd hc20 (by omega)
def pX7_arcsOf (C : Nat → ClassId) (b : Nat) (E : Nat → va_E) (th sz fa pl ats aa op fi la wa wc kl : Nat) (be : Bool) (k sv lr : Nat) (ar : Nat → Nat) : Int32 → (Nat → va_E) → Prop := fun r E' => r = nI (ar (192 * k + 8 * sv + lr)) ∧ E = E'
set_option maxHeartbeats 4000000 in
set_option maxRecDepth 100000 in
theorem kX7_arcsOf (l : Launch) (D : va_G) (C : Nat → ClassId) (b n : Nat) (E : Nat → va_E) (th sz fa pl ats aa op fi la wa wc kl : Nat) (be : Bool) (k sv lr : Nat) (ar : Nat → Nat) (hlt0 : 119 < n) (hE0 : E 119 = .inr (7, [.int (nI th), .ref (b + 120), .int (nI sz), .int (nI fa), .int (nI pl), .ref (b + 121), .ref (b + 122), .ref (b + 123), .ref (b + 124), .ref (b + 125), .ref (b + 126), .ref (b + 127), .int (nI ats), .int (nI aa), .ref (b + 128), .ref (b + 129), .ref (b + 130), .ref (b + 131), .ref (b + 132), .ref (b + 133), .int (nI op), .int (nI be.toNat), .int (nI fi), .int (nI la), .ref (b + 134), .ref (b + 135), .ref (b + 136), .int (nI wa), .ref (b + 137), .ref (b + 138), .ref (b + 139), .int (nI wc), .ref (b + 140), .int (nI kl), .ref (b + 141), .ref (b + 142), .ref (b + 143), .ref (b + 144), .ref (b + 145)])) (hlt1 : 121 < n) (hE1 : E 121 = wm_I C 1536 ar) (hk : k < 8) (hs : sv < 24) (hlr : lr < 8) : Met l yX7_arcsOf (wm_ws yX7_arcsOf cX7_arcsOf 4 (some .int)) { frames := 0, cells := 0, slots := 0, locals := 0 } (va_Pc [.ref (b + 119), .int (nI k), .int (nI sv), .int (nI lr)] (wm_G D C b n E)) (va_Qi (pX7_arcsOf C b E th sz fa pl ats aa op fi la wa wc kl be k sv lr ar) (fun E' t => wm_P D b n E' t.heap) (wm_A b)) 0 0 (wm_A b) := by
  refine wm_ofW (by decide) (Nat.le_of_ble_eq_true rfl) (fun p e s m below meth c ls R args Q hRe hQ X hr hnm hP hS hl => ?_)
  have hl : lv_has ls 4 [(0, .ref (b + 119)), (1, .int (nI k)), (2, .int (nI sv)), (3, .int (nI lr))] := hl
  refine lv_aload_n X.1 X.2.1 dX7_arcsOf_0 rfl (lv_at hl 0 rfl) ?_
  refine wm_get X hP hlt0 hE0 rfl wm_inX7 5 (by decide) wq5_27 rfl dX7_arcsOf_1 ?_
  refine lv_sipush (v := nI 192) X.1 X.2.1 dX7_arcsOf_4 (by decide) ?_
  refine lv_iload_n X.1 X.2.1 dX7_arcsOf_7 rfl (lv_at hl 1 rfl) ?_
  refine wm_imul (x := 192) (y := k) X dX7_arcsOf_8 ?_
  refine lv_bipush (v := nI 8) X.1 X.2.1 dX7_arcsOf_9 (by decide) ?_
  refine lv_iload_n X.1 X.2.1 dX7_arcsOf_11 rfl (lv_at hl 2 rfl) ?_
  refine wm_imul (x := 8) (y := sv) X dX7_arcsOf_12 ?_
  refine wm_iadd (x := (192 * k)) (y := (8 * sv)) X dX7_arcsOf_13 ?_
  refine lv_iload_n X.1 X.2.1 dX7_arcsOf_14 rfl (lv_at hl 3 rfl) ?_
  refine wm_iadd (x := ((192 * k) + (8 * sv))) (y := lr) X dX7_arcsOf_15 ?_
  refine wm_iald (i := (((192 * k) + (8 * sv)) + lr)) X hP hlt1 hE1 (by omega) (by decide) dX7_arcsOf_16 ?_
  exact wm_iret (post := pX7_arcsOf C b E th sz fa pl ats aa op fi la wa wc kl be k sv lr ar) X hr hP hS ⟨rfl, rfl⟩ hQ dX7_arcsOf_17
def pmarcX (C : Nat → ClassId) (b : Nat) (E : Nat → va_E) (th sz fa pl ats aa op fi la wa wc kl : Nat) (be : Bool) (x y z w : Int32) (v : Bool) : Int32 → (Nat → va_E) → Prop := fun r E' => r = nI false.toNat ∧ E' 119 = .inr (7, [.int (nI 1), .ref (b + 120), .int (nI sz), .int (nI fa), .int (nI pl), .ref (b + 121), .ref (b + 122), .ref (b + 123), .ref (b + 124), .ref (b + 125), .ref (b + 126), .ref (b + 127), .int (nI ats), .int (nI aa), .ref (b + 128), .ref (b + 129), .ref (b + 130), .ref (b + 131), .ref (b + 132), .ref (b + 133), .int (nI op), .int (nI be.toNat), .int (nI fi), .int (nI la), .ref (b + 134), .ref (b + 135), .ref (b + 136), .int (nI wa), .ref (b + 137), .ref (b + 138), .ref (b + 139), .int (nI wc), .ref (b + 140), .int (nI kl), .ref (b + 141), .ref (b + 142), .ref (b + 143), .ref (b + 144), .ref (b + 145)]) ∧ (∀ j, j ≠ 119 → E' j = E j)
set_option maxHeartbeats 4000000 in
set_option maxRecDepth 100000 in
theorem kmarcX (l : Launch) (D : va_G) (C : Nat → ClassId) (b n : Nat) (E : Nat → va_E) (th sz fa pl ats aa op fi la wa wc kl : Nat) (be : Bool) (x y z w : Int32) (v : Bool) (hlt0 : 119 < n) (hE0 : E 119 = .inr (7, [.int (nI th), .ref (b + 120), .int (nI sz), .int (nI fa), .int (nI pl), .ref (b + 121), .ref (b + 122), .ref (b + 123), .ref (b + 124), .ref (b + 125), .ref (b + 126), .ref (b + 127), .int (nI ats), .int (nI aa), .ref (b + 128), .ref (b + 129), .ref (b + 130), .ref (b + 131), .ref (b + 132), .ref (b + 133), .int (nI op), .int (nI be.toNat), .int (nI fi), .int (nI la), .ref (b + 134), .ref (b + 135), .ref (b + 136), .int (nI wa), .ref (b + 137), .ref (b + 138), .ref (b + 139), .int (nI wc), .ref (b + 140), .int (nI kl), .ref (b + 141), .ref (b + 142), .ref (b + 143), .ref (b + 144), .ref (b + 145)])) (hk : ¬ (0 ≤ x ∧ x < nI 8)) : Met l yX7_arc (wm_ws yX7_arc cX7_arc 7 (some .boolean)) { frames := 2, cells := 0, slots := 0, locals := 43 } (va_Pc [.ref (b + 119), .int x, .int y, .int z, .int w, .int (nI v.toNat)] (wm_G D C b n E)) (va_Qi (pmarcX C b E th sz fa pl ats aa op fi la wa wc kl be x y z w v) (fun E' t => wm_P D b n E' t.heap) (wm_A b)) 0 0 (wm_A b) := by
  refine wm_ofW (by decide) (Nat.le_of_ble_eq_true rfl) (fun p e s m below meth c ls R args Q hRe hQ X hr hnm hP hS hl => ?_)
  have hl : lv_has ls 7 [(0, .ref (b + 119)), (1, .int x), (2, .int y), (3, .int z), (4, .int w), (5, .int (nI v.toNat))] := hl
  have hfr : ∀ j, j ≠ 119 → E j = E j := fun _ _ => rfl
  refine lv_aload_n X.1 X.2.1 dX7_arc_0 rfl (lv_at hl 0 rfl) ?_
  refine lv_aload_n X.1 X.2.1 dX7_arc_1 rfl (lv_at hl 0 rfl) ?_
  refine lv_iload_n X.1 X.2.1 dX7_arc_2 rfl (lv_at hl 1 rfl) ?_
  refine lv_iload_n X.1 X.2.1 dX7_arc_3 rfl (lv_at hl 2 rfl) ?_
  refine wm_callVi (k := 2) (As := [.int x, .int y]) (rest := [.ref (b + 119)]) X hP hS hlt0 hE0 rfl (knoStX l D C b n E th sz fa pl ats aa op fi la wa wc kl be x y hlt0 hE0 (by omega)) wq5_228 wq5_230 wqP3_12 wq1_8 wq5_231 (by decide) (by rw [hRe]; exact ⟨Nat.le_of_ble_eq_true rfl, Nat.le_of_ble_eq_true rfl⟩) rfl hl.1 rfl (Nat.le_of_ble_eq_true rfl) (Nat.zero_le _) (Nat.zero_le _) dX7_arc_4 (fun r1 E1 H locs hw hP hS => ?_)
  obtain ⟨hrt, hEe⟩ := hw
  subst hrt
  subst hEe
  refine wm_ifz_ne (x := true) (tgt := 20) X dX7_arc_7 (by decide) (fun _ => ?_) (fun h => by exfalso; revert h; decide)
  refine lv_iconst (v := nI 1) X.1 X.2.1 dX7_arc_20 (by decide) ?_
  refine lv_goto (tgt := 39) X.1 X.2.1 dX7_arc_21 (by decide) ?_
  refine wm_put (v := .int (nI 1)) X hP hS hlt0 hE0 rfl wm_inX7 tyX7 tyX7_ok nmX7 0 (by decide) wq5_22 rfl rfl rfl (fs1 := [.int (nI 1), .ref (b + 120), .int (nI sz), .int (nI fa), .int (nI pl), .ref (b + 121), .ref (b + 122), .ref (b + 123), .ref (b + 124), .ref (b + 125), .ref (b + 126), .ref (b + 127), .int (nI ats), .int (nI aa), .ref (b + 128), .ref (b + 129), .ref (b + 130), .ref (b + 131), .ref (b + 132), .ref (b + 133), .int (nI op), .int (nI be.toNat), .int (nI fi), .int (nI la), .ref (b + 134), .ref (b + 135), .ref (b + 136), .int (nI wa), .ref (b + 137), .ref (b + 138), .ref (b + 139), .int (nI wc), .ref (b + 140), .int (nI kl), .ref (b + 141), .ref (b + 142), .ref (b + 143), .ref (b + 144), .ref (b + 145)]) rfl (Nat.le_of_ble_eq_true rfl) dX7_arc_39 (fun H locs E2 hP hS hE0 hq => ?_)
  have hfr : ∀ j, j ≠ 119 → E2 j = E j := fun j h0 => (hq j h0).trans (hfr j h0)
  refine lv_aload_n X.1 X.2.1 dX7_arc_42 rfl (lv_at hl 0 rfl) ?_
  refine wm_get X hP hlt0 hE0 rfl wm_inX7 0 (by decide) wq5_22 rfl dX7_arc_43 ?_
  refine lv_if_le (tgt := 51) X.1 X.2.1 dX7_arc_46 (by decide) (fun h => by exfalso; revert h; decide) (fun _ => ?_)
  refine lv_iconst (v := nI 0) X.1 X.2.1 dX7_arc_49 (by decide) ?_
  exact wm_zret (v := false) (post := pmarcX C b E th sz fa pl ats aa op fi la wa wc kl be x y z w v) X hr hP hS ⟨rfl, hE0, hfr⟩ hQ dX7_arc_50
def pmarcS (C : Nat → ClassId) (b : Nat) (E : Nat → va_E) (th sz fa pl ats aa op fi la wa wc kl : Nat) (be : Bool) (k : Nat) (y z w : Int32) (v : Bool) (ss : Nat → Nat) : Int32 → (Nat → va_E) → Prop := fun r E' => r = nI false.toNat ∧ E' 119 = .inr (7, [.int (nI 1), .ref (b + 120), .int (nI sz), .int (nI fa), .int (nI pl), .ref (b + 121), .ref (b + 122), .ref (b + 123), .ref (b + 124), .ref (b + 125), .ref (b + 126), .ref (b + 127), .int (nI ats), .int (nI aa), .ref (b + 128), .ref (b + 129), .ref (b + 130), .ref (b + 131), .ref (b + 132), .ref (b + 133), .int (nI op), .int (nI be.toNat), .int (nI fi), .int (nI la), .ref (b + 134), .ref (b + 135), .ref (b + 136), .int (nI wa), .ref (b + 137), .ref (b + 138), .ref (b + 139), .int (nI wc), .ref (b + 140), .int (nI kl), .ref (b + 141), .ref (b + 142), .ref (b + 143), .ref (b + 144), .ref (b + 145)]) ∧ (∀ j, j ≠ 119 → E' j = E j)
set_option maxHeartbeats 4000000 in
set_option maxRecDepth 100000 in
theorem kmarcS (l : Launch) (D : va_G) (C : Nat → ClassId) (b n : Nat) (E : Nat → va_E) (th sz fa pl ats aa op fi la wa wc kl : Nat) (be : Bool) (k : Nat) (y z w : Int32) (v : Bool) (ss : Nat → Nat) (hlt0 : 119 < n) (hE0 : E 119 = .inr (7, [.int (nI th), .ref (b + 120), .int (nI sz), .int (nI fa), .int (nI pl), .ref (b + 121), .ref (b + 122), .ref (b + 123), .ref (b + 124), .ref (b + 125), .ref (b + 126), .ref (b + 127), .int (nI ats), .int (nI aa), .ref (b + 128), .ref (b + 129), .ref (b + 130), .ref (b + 131), .ref (b + 132), .ref (b + 133), .int (nI op), .int (nI be.toNat), .int (nI fi), .int (nI la), .ref (b + 134), .ref (b + 135), .ref (b + 136), .int (nI wa), .ref (b + 137), .ref (b + 138), .ref (b + 139), .int (nI wc), .ref (b + 140), .int (nI kl), .ref (b + 141), .ref (b + 142), .ref (b + 143), .ref (b + 144), .ref (b + 145)])) (hlt1 : 122 < n) (hE1 : E 122 = wm_I C 8 ss) (hkk : k < 8) (hk : ¬ (0 ≤ y ∧ y < nI (ss k))) : Met l yX7_arc (wm_ws yX7_arc cX7_arc 7 (some .boolean)) { frames := 2, cells := 0, slots := 0, locals := 43 } (va_Pc [.ref (b + 119), .int (nI k), .int y, .int z, .int w, .int (nI v.toNat)] (wm_G D C b n E)) (va_Qi (pmarcS C b E th sz fa pl ats aa op fi la wa wc kl be k y z w v ss) (fun E' t => wm_P D b n E' t.heap) (wm_A b)) 0 0 (wm_A b) := by
  refine wm_ofW (by decide) (Nat.le_of_ble_eq_true rfl) (fun p e s m below meth c ls R args Q hRe hQ X hr hnm hP hS hl => ?_)
  have hl : lv_has ls 7 [(0, .ref (b + 119)), (1, .int (nI k)), (2, .int y), (3, .int z), (4, .int w), (5, .int (nI v.toNat))] := hl
  have hfr : ∀ j, j ≠ 119 → E j = E j := fun _ _ => rfl
  refine lv_aload_n X.1 X.2.1 dX7_arc_0 rfl (lv_at hl 0 rfl) ?_
  refine lv_aload_n X.1 X.2.1 dX7_arc_1 rfl (lv_at hl 0 rfl) ?_
  refine lv_iload_n X.1 X.2.1 dX7_arc_2 rfl (lv_at hl 1 rfl) ?_
  refine lv_iload_n X.1 X.2.1 dX7_arc_3 rfl (lv_at hl 2 rfl) ?_
  refine wm_callVi (k := 2) (As := [.int (nI k), .int y]) (rest := [.ref (b + 119)]) X hP hS hlt0 hE0 rfl (knoStS l D C b n E th sz fa pl ats aa op fi la wa wc kl be k y ss hlt0 hE0 hlt1 hE1 (by omega) (by omega)) wq5_228 wq5_230 wqP3_12 wq1_8 wq5_231 (by decide) (by rw [hRe]; exact ⟨Nat.le_of_ble_eq_true rfl, Nat.le_of_ble_eq_true rfl⟩) rfl hl.1 rfl (Nat.le_of_ble_eq_true rfl) (Nat.zero_le _) (Nat.zero_le _) dX7_arc_4 (fun r1 E1 H locs hw hP hS => ?_)
  obtain ⟨hrt, hEe⟩ := hw
  subst hrt
  subst hEe
  refine wm_ifz_ne (x := true) (tgt := 20) X dX7_arc_7 (by decide) (fun _ => ?_) (fun h => by exfalso; revert h; decide)
  refine lv_iconst (v := nI 1) X.1 X.2.1 dX7_arc_20 (by decide) ?_
  refine lv_goto (tgt := 39) X.1 X.2.1 dX7_arc_21 (by decide) ?_
  refine wm_put (v := .int (nI 1)) X hP hS hlt0 hE0 rfl wm_inX7 tyX7 tyX7_ok nmX7 0 (by decide) wq5_22 rfl rfl rfl (fs1 := [.int (nI 1), .ref (b + 120), .int (nI sz), .int (nI fa), .int (nI pl), .ref (b + 121), .ref (b + 122), .ref (b + 123), .ref (b + 124), .ref (b + 125), .ref (b + 126), .ref (b + 127), .int (nI ats), .int (nI aa), .ref (b + 128), .ref (b + 129), .ref (b + 130), .ref (b + 131), .ref (b + 132), .ref (b + 133), .int (nI op), .int (nI be.toNat), .int (nI fi), .int (nI la), .ref (b + 134), .ref (b + 135), .ref (b + 136), .int (nI wa), .ref (b + 137), .ref (b + 138), .ref (b + 139), .int (nI wc), .ref (b + 140), .int (nI kl), .ref (b + 141), .ref (b + 142), .ref (b + 143), .ref (b + 144), .ref (b + 145)]) rfl (Nat.le_of_ble_eq_true rfl) dX7_arc_39 (fun H locs E2 hP hS hE0 hq => ?_)
  have hE1 := (hq 122 (by decide)).trans hE1
  have hfr : ∀ j, j ≠ 119 → E2 j = E j := fun j h0 => (hq j h0).trans (hfr j h0)
  refine lv_aload_n X.1 X.2.1 dX7_arc_42 rfl (lv_at hl 0 rfl) ?_
  refine wm_get X hP hlt0 hE0 rfl wm_inX7 0 (by decide) wq5_22 rfl dX7_arc_43 ?_
  refine lv_if_le (tgt := 51) X.1 X.2.1 dX7_arc_46 (by decide) (fun h => by exfalso; revert h; decide) (fun _ => ?_)
  refine lv_iconst (v := nI 0) X.1 X.2.1 dX7_arc_49 (by decide) ?_
  exact wm_zret (v := false) (post := pmarcS C b E th sz fa pl ats aa op fi la wa wc kl be k y z w v ss) X hr hP hS ⟨rfl, hE0, hfr⟩ hQ dX7_arc_50
def pmarcT (C : Nat → ClassId) (b : Nat) (E : Nat → va_E) (th sz fa pl ats aa op fi la wa wc kl : Nat) (be : Bool) (k sv : Nat) (z w : Int32) (v : Bool) (ss : Nat → Nat) : Int32 → (Nat → va_E) → Prop := fun r E' => r = nI false.toNat ∧ E' 119 = .inr (7, [.int (nI 1), .ref (b + 120), .int (nI sz), .int (nI fa), .int (nI pl), .ref (b + 121), .ref (b + 122), .ref (b + 123), .ref (b + 124), .ref (b + 125), .ref (b + 126), .ref (b + 127), .int (nI ats), .int (nI aa), .ref (b + 128), .ref (b + 129), .ref (b + 130), .ref (b + 131), .ref (b + 132), .ref (b + 133), .int (nI op), .int (nI be.toNat), .int (nI fi), .int (nI la), .ref (b + 134), .ref (b + 135), .ref (b + 136), .int (nI wa), .ref (b + 137), .ref (b + 138), .ref (b + 139), .int (nI wc), .ref (b + 140), .int (nI kl), .ref (b + 141), .ref (b + 142), .ref (b + 143), .ref (b + 144), .ref (b + 145)]) ∧ (∀ j, j ≠ 119 → E' j = E j)
set_option maxHeartbeats 4000000 in
set_option maxRecDepth 100000 in
theorem kmarcT (l : Launch) (D : va_G) (C : Nat → ClassId) (b n : Nat) (E : Nat → va_E) (th sz fa pl ats aa op fi la wa wc kl : Nat) (be : Bool) (k sv : Nat) (z w : Int32) (v : Bool) (ss : Nat → Nat) (hlt0 : 119 < n) (hE0 : E 119 = .inr (7, [.int (nI th), .ref (b + 120), .int (nI sz), .int (nI fa), .int (nI pl), .ref (b + 121), .ref (b + 122), .ref (b + 123), .ref (b + 124), .ref (b + 125), .ref (b + 126), .ref (b + 127), .int (nI ats), .int (nI aa), .ref (b + 128), .ref (b + 129), .ref (b + 130), .ref (b + 131), .ref (b + 132), .ref (b + 133), .int (nI op), .int (nI be.toNat), .int (nI fi), .int (nI la), .ref (b + 134), .ref (b + 135), .ref (b + 136), .int (nI wa), .ref (b + 137), .ref (b + 138), .ref (b + 139), .int (nI wc), .ref (b + 140), .int (nI kl), .ref (b + 141), .ref (b + 142), .ref (b + 143), .ref (b + 144), .ref (b + 145)])) (hlt1 : 122 < n) (hE1 : E 122 = wm_I C 8 ss) (hkk : k < 8) (hsv : sv < ss k) (hsk : ss k ≤ 24) (hk : ¬ (0 ≤ w ∧ w < nI (ss k))) : Met l yX7_arc (wm_ws yX7_arc cX7_arc 7 (some .boolean)) { frames := 2, cells := 0, slots := 0, locals := 43 } (va_Pc [.ref (b + 119), .int (nI k), .int (nI sv), .int z, .int w, .int (nI v.toNat)] (wm_G D C b n E)) (va_Qi (pmarcT C b E th sz fa pl ats aa op fi la wa wc kl be k sv z w v ss) (fun E' t => wm_P D b n E' t.heap) (wm_A b)) 0 0 (wm_A b) := by
  refine wm_ofW (by decide) (Nat.le_of_ble_eq_true rfl) (fun p e s m below meth c ls R args Q hRe hQ X hr hnm hP hS hl => ?_)
  have hl : lv_has ls 7 [(0, .ref (b + 119)), (1, .int (nI k)), (2, .int (nI sv)), (3, .int z), (4, .int w), (5, .int (nI v.toNat))] := hl
  have hfr : ∀ j, j ≠ 119 → E j = E j := fun _ _ => rfl
  refine lv_aload_n X.1 X.2.1 dX7_arc_0 rfl (lv_at hl 0 rfl) ?_
  refine lv_aload_n X.1 X.2.1 dX7_arc_1 rfl (lv_at hl 0 rfl) ?_
  refine lv_iload_n X.1 X.2.1 dX7_arc_2 rfl (lv_at hl 1 rfl) ?_
  refine lv_iload_n X.1 X.2.1 dX7_arc_3 rfl (lv_at hl 2 rfl) ?_
  refine wm_callVi (k := 2) (As := [.int (nI k), .int (nI sv)]) (rest := [.ref (b + 119)]) X hP hS hlt0 hE0 rfl (knoSt l D C b n E th sz fa pl ats aa op fi la wa wc kl be k sv ss hlt0 hE0 hlt1 hE1 (by omega) (by omega) (by omega)) wq5_228 wq5_230 wqP3_12 wq1_8 wq5_231 (by decide) (by rw [hRe]; exact ⟨Nat.le_of_ble_eq_true rfl, Nat.le_of_ble_eq_true rfl⟩) rfl hl.1 rfl (Nat.le_of_ble_eq_true rfl) (Nat.zero_le _) (Nat.zero_le _) dX7_arc_4 (fun r1 E1 H locs hw hP hS => ?_)
  obtain ⟨hrt, hEe⟩ := hw
  subst hrt
  subst hEe
  refine wm_ifz_ne (x := false) (tgt := 20) X dX7_arc_7 (by decide) (fun h => by exfalso; revert h; decide) (fun _ => ?_)
  refine lv_aload_n X.1 X.2.1 dX7_arc_10 rfl (lv_at hl 0 rfl) ?_
  refine lv_iload_n X.1 X.2.1 dX7_arc_11 rfl (lv_at hl 1 rfl) ?_
  refine lv_iload X.1 X.2.1 dX7_arc_12 (lv_at hl 4 rfl) ?_
  refine wm_callVi (k := 2) (As := [.int (nI k), .int w]) (rest := [.ref (b + 119)]) X hP hS hlt0 hE0 rfl (knoStS l D C b n E th sz fa pl ats aa op fi la wa wc kl be k w ss hlt0 hE0 hlt1 hE1 (by omega) (by omega)) wq5_228 wq5_230 wqP3_12 wq1_8 wq5_231 (by decide) (by rw [hRe]; exact ⟨Nat.le_of_ble_eq_true rfl, Nat.le_of_ble_eq_true rfl⟩) rfl hl.1 rfl (Nat.le_of_ble_eq_true rfl) (Nat.zero_le _) (Nat.zero_le _) dX7_arc_14 (fun r2 E2 H locs hw hP hS => ?_)
  obtain ⟨hrt, hEe⟩ := hw
  subst hrt
  subst hEe
  refine wm_ifz_eq (x := true) (tgt := 24) X dX7_arc_17 (by decide) (fun h => by exfalso; revert h; decide) (fun _ => ?_)
  refine lv_iconst (v := nI 1) X.1 X.2.1 dX7_arc_20 (by decide) ?_
  refine lv_goto (tgt := 39) X.1 X.2.1 dX7_arc_21 (by decide) ?_
  refine wm_put (v := .int (nI 1)) X hP hS hlt0 hE0 rfl wm_inX7 tyX7 tyX7_ok nmX7 0 (by decide) wq5_22 rfl rfl rfl (fs1 := [.int (nI 1), .ref (b + 120), .int (nI sz), .int (nI fa), .int (nI pl), .ref (b + 121), .ref (b + 122), .ref (b + 123), .ref (b + 124), .ref (b + 125), .ref (b + 126), .ref (b + 127), .int (nI ats), .int (nI aa), .ref (b + 128), .ref (b + 129), .ref (b + 130), .ref (b + 131), .ref (b + 132), .ref (b + 133), .int (nI op), .int (nI be.toNat), .int (nI fi), .int (nI la), .ref (b + 134), .ref (b + 135), .ref (b + 136), .int (nI wa), .ref (b + 137), .ref (b + 138), .ref (b + 139), .int (nI wc), .ref (b + 140), .int (nI kl), .ref (b + 141), .ref (b + 142), .ref (b + 143), .ref (b + 144), .ref (b + 145)]) rfl (Nat.le_of_ble_eq_true rfl) dX7_arc_39 (fun H locs E3 hP hS hE0 hq => ?_)
  have hE1 := (hq 122 (by decide)).trans hE1
  have hfr : ∀ j, j ≠ 119 → E3 j = E j := fun j h0 => (hq j h0).trans (hfr j h0)
  refine lv_aload_n X.1 X.2.1 dX7_arc_42 rfl (lv_at hl 0 rfl) ?_
  refine wm_get X hP hlt0 hE0 rfl wm_inX7 0 (by decide) wq5_22 rfl dX7_arc_43 ?_
  refine lv_if_le (tgt := 51) X.1 X.2.1 dX7_arc_46 (by decide) (fun h => by exfalso; revert h; decide) (fun _ => ?_)
  refine lv_iconst (v := nI 0) X.1 X.2.1 dX7_arc_49 (by decide) ?_
  exact wm_zret (v := false) (post := pmarcT C b E th sz fa pl ats aa op fi la wa wc kl be k sv z w v ss) X hr hP hS ⟨rfl, hE0, hfr⟩ hQ dX7_arc_50
def pmarcA (C : Nat → ClassId) (b : Nat) (E : Nat → va_E) (th sz fa pl ats aa op fi la wa wc kl : Nat) (be : Bool) (k sv sw : Nat) (z : Int32) (v : Bool) (ss : Nat → Nat) : Int32 → (Nat → va_E) → Prop := fun r E' => r = nI false.toNat ∧ E' 119 = .inr (7, [.int (nI 2), .ref (b + 120), .int (nI sz), .int (nI fa), .int (nI pl), .ref (b + 121), .ref (b + 122), .ref (b + 123), .ref (b + 124), .ref (b + 125), .ref (b + 126), .ref (b + 127), .int (nI ats), .int (nI aa), .ref (b + 128), .ref (b + 129), .ref (b + 130), .ref (b + 131), .ref (b + 132), .ref (b + 133), .int (nI op), .int (nI be.toNat), .int (nI fi), .int (nI la), .ref (b + 134), .ref (b + 135), .ref (b + 136), .int (nI wa), .ref (b + 137), .ref (b + 138), .ref (b + 139), .int (nI wc), .ref (b + 140), .int (nI kl), .ref (b + 141), .ref (b + 142), .ref (b + 143), .ref (b + 144), .ref (b + 145)]) ∧ (∀ j, j ≠ 119 → E' j = E j)
set_option maxHeartbeats 4000000 in
set_option maxRecDepth 100000 in
theorem kmarcA (l : Launch) (D : va_G) (C : Nat → ClassId) (b n : Nat) (E : Nat → va_E) (th sz fa pl ats aa op fi la wa wc kl : Nat) (be : Bool) (k sv sw : Nat) (z : Int32) (v : Bool) (ss : Nat → Nat) (hlt0 : 119 < n) (hE0 : E 119 = .inr (7, [.int (nI th), .ref (b + 120), .int (nI sz), .int (nI fa), .int (nI pl), .ref (b + 121), .ref (b + 122), .ref (b + 123), .ref (b + 124), .ref (b + 125), .ref (b + 126), .ref (b + 127), .int (nI ats), .int (nI aa), .ref (b + 128), .ref (b + 129), .ref (b + 130), .ref (b + 131), .ref (b + 132), .ref (b + 133), .int (nI op), .int (nI be.toNat), .int (nI fi), .int (nI la), .ref (b + 134), .ref (b + 135), .ref (b + 136), .int (nI wa), .ref (b + 137), .ref (b + 138), .ref (b + 139), .int (nI wc), .ref (b + 140), .int (nI kl), .ref (b + 141), .ref (b + 142), .ref (b + 143), .ref (b + 144), .ref (b + 145)])) (hlt1 : 122 < n) (hE1 : E 122 = wm_I C 8 ss) (hkk : k < 8) (hsv : sv < ss k) (hsk : ss k ≤ 24) (hsw : sw < ss k) (hk : ¬ (0 ≤ z ∧ z < nI 8)) : Met l yX7_arc (wm_ws yX7_arc cX7_arc 7 (some .boolean)) { frames := 2, cells := 0, slots := 0, locals := 43 } (va_Pc [.ref (b + 119), .int (nI k), .int (nI sv), .int z, .int (nI sw), .int (nI v.toNat)] (wm_G D C b n E)) (va_Qi (pmarcA C b E th sz fa pl ats aa op fi la wa wc kl be k sv sw z v ss) (fun E' t => wm_P D b n E' t.heap) (wm_A b)) 0 0 (wm_A b) := by
  refine wm_ofW (by decide) (Nat.le_of_ble_eq_true rfl) (fun p e s m below meth c ls R args Q hRe hQ X hr hnm hP hS hl => ?_)
  have hl : lv_has ls 7 [(0, .ref (b + 119)), (1, .int (nI k)), (2, .int (nI sv)), (3, .int z), (4, .int (nI sw)), (5, .int (nI v.toNat))] := hl
  have hfr : ∀ j, j ≠ 119 → E j = E j := fun _ _ => rfl
  refine lv_aload_n X.1 X.2.1 dX7_arc_0 rfl (lv_at hl 0 rfl) ?_
  refine lv_aload_n X.1 X.2.1 dX7_arc_1 rfl (lv_at hl 0 rfl) ?_
  refine lv_iload_n X.1 X.2.1 dX7_arc_2 rfl (lv_at hl 1 rfl) ?_
  refine lv_iload_n X.1 X.2.1 dX7_arc_3 rfl (lv_at hl 2 rfl) ?_
  refine wm_callVi (k := 2) (As := [.int (nI k), .int (nI sv)]) (rest := [.ref (b + 119)]) X hP hS hlt0 hE0 rfl (knoSt l D C b n E th sz fa pl ats aa op fi la wa wc kl be k sv ss hlt0 hE0 hlt1 hE1 (by omega) (by omega) (by omega)) wq5_228 wq5_230 wqP3_12 wq1_8 wq5_231 (by decide) (by rw [hRe]; exact ⟨Nat.le_of_ble_eq_true rfl, Nat.le_of_ble_eq_true rfl⟩) rfl hl.1 rfl (Nat.le_of_ble_eq_true rfl) (Nat.zero_le _) (Nat.zero_le _) dX7_arc_4 (fun r1 E1 H locs hw hP hS => ?_)
  obtain ⟨hrt, hEe⟩ := hw
  subst hrt
  subst hEe
  refine wm_ifz_ne (x := false) (tgt := 20) X dX7_arc_7 (by decide) (fun h => by exfalso; revert h; decide) (fun _ => ?_)
  refine lv_aload_n X.1 X.2.1 dX7_arc_10 rfl (lv_at hl 0 rfl) ?_
  refine lv_iload_n X.1 X.2.1 dX7_arc_11 rfl (lv_at hl 1 rfl) ?_
  refine lv_iload X.1 X.2.1 dX7_arc_12 (lv_at hl 4 rfl) ?_
  refine wm_callVi (k := 2) (As := [.int (nI k), .int (nI sw)]) (rest := [.ref (b + 119)]) X hP hS hlt0 hE0 rfl (knoSt l D C b n E th sz fa pl ats aa op fi la wa wc kl be k sw ss hlt0 hE0 hlt1 hE1 (by omega) (by omega) (by omega)) wq5_228 wq5_230 wqP3_12 wq1_8 wq5_231 (by decide) (by rw [hRe]; exact ⟨Nat.le_of_ble_eq_true rfl, Nat.le_of_ble_eq_true rfl⟩) rfl hl.1 rfl (Nat.le_of_ble_eq_true rfl) (Nat.zero_le _) (Nat.zero_le _) dX7_arc_14 (fun r2 E2 H locs hw hP hS => ?_)
  obtain ⟨hrt, hEe⟩ := hw
  subst hrt
  subst hEe
  refine wm_ifz_eq (x := false) (tgt := 24) X dX7_arc_17 (by decide) (fun _ => ?_) (fun h => by exfalso; revert h; decide)
  refine lv_iload_n X.1 X.2.1 dX7_arc_24 rfl (lv_at hl 3 rfl) ?_
  refine lv_if_lt (tgt := 34) X.1 X.2.1 dX7_arc_25 (by decide) (fun hc25 => ?_) (fun hc25 => ?_)
  · refine lv_iconst (v := nI 2) X.1 X.2.1 dX7_arc_34 (by decide) ?_
    refine lv_goto (tgt := 39) X.1 X.2.1 dX7_arc_35 (by decide) ?_
    refine wm_put (v := .int (nI 2)) X hP hS hlt0 hE0 rfl wm_inX7 tyX7 tyX7_ok nmX7 0 (by decide) wq5_22 rfl rfl rfl (fs1 := [.int (nI 2), .ref (b + 120), .int (nI sz), .int (nI fa), .int (nI pl), .ref (b + 121), .ref (b + 122), .ref (b + 123), .ref (b + 124), .ref (b + 125), .ref (b + 126), .ref (b + 127), .int (nI ats), .int (nI aa), .ref (b + 128), .ref (b + 129), .ref (b + 130), .ref (b + 131), .ref (b + 132), .ref (b + 133), .int (nI op), .int (nI be.toNat), .int (nI fi), .int (nI la), .ref (b + 134), .ref (b + 135), .ref (b + 136), .int (nI wa), .ref (b + 137), .ref (b + 138), .ref (b + 139), .int (nI wc), .ref (b + 140), .int (nI kl), .ref (b + 141), .ref (b + 142), .ref (b + 143), .ref (b + 144), .ref (b + 145)]) rfl (Nat.le_of_ble_eq_true rfl) dX7_arc_39 (fun H locs E4 hP hS hE0 hq => ?_)
    have hE1 := (hq 122 (by decide)).trans hE1
    have hfr : ∀ j, j ≠ 119 → E4 j = E j := fun j h0 => (hq j h0).trans (hfr j h0)
    refine lv_aload_n X.1 X.2.1 dX7_arc_42 rfl (lv_at hl 0 rfl) ?_
    refine wm_get X hP hlt0 hE0 rfl wm_inX7 0 (by decide) wq5_22 rfl dX7_arc_43 ?_
    refine lv_if_le (tgt := 51) X.1 X.2.1 dX7_arc_46 (by decide) (fun h => by exfalso; revert h; decide) (fun _ => ?_)
    refine lv_iconst (v := nI 0) X.1 X.2.1 dX7_arc_49 (by decide) ?_
    exact wm_zret (v := false) (post := pmarcA C b E th sz fa pl ats aa op fi la wa wc kl be k sv sw z v ss) X hr hP hS ⟨rfl, hE0, hfr⟩ hQ dX7_arc_50
  · refine lv_iload_n X.1 X.2.1 dX7_arc_28 rfl (lv_at hl 3 rfl) ?_
    refine lv_bipush (v := nI 7) X.1 X.2.1 dX7_arc_29 (by decide) ?_
    refine lv_icmp_le (tgt := 38) X.1 X.2.1 dX7_arc_31 (by decide) (fun hc31 => ?_) (fun hc31 => ?_)
    · exact absurd hc31 (fun q => hk ⟨Int32.not_lt.mp hc25, wm_le7 q⟩)
    · refine lv_iconst (v := nI 2) X.1 X.2.1 dX7_arc_34 (by decide) ?_
      refine lv_goto (tgt := 39) X.1 X.2.1 dX7_arc_35 (by decide) ?_
      refine wm_put (v := .int (nI 2)) X hP hS hlt0 hE0 rfl wm_inX7 tyX7 tyX7_ok nmX7 0 (by decide) wq5_22 rfl rfl rfl (fs1 := [.int (nI 2), .ref (b + 120), .int (nI sz), .int (nI fa), .int (nI pl), .ref (b + 121), .ref (b + 122), .ref (b + 123), .ref (b + 124), .ref (b + 125), .ref (b + 126), .ref (b + 127), .int (nI ats), .int (nI aa), .ref (b + 128), .ref (b + 129), .ref (b + 130), .ref (b + 131), .ref (b + 132), .ref (b + 133), .int (nI op), .int (nI be.toNat), .int (nI fi), .int (nI la), .ref (b + 134), .ref (b + 135), .ref (b + 136), .int (nI wa), .ref (b + 137), .ref (b + 138), .ref (b + 139), .int (nI wc), .ref (b + 140), .int (nI kl), .ref (b + 141), .ref (b + 142), .ref (b + 143), .ref (b + 144), .ref (b + 145)]) rfl (Nat.le_of_ble_eq_true rfl) dX7_arc_39 (fun H locs E6 hP hS hE0 hq => ?_)
      have hE1 := (hq 122 (by decide)).trans hE1
      have hfr : ∀ j, j ≠ 119 → E6 j = E j := fun j h0 => (hq j h0).trans (hfr j h0)
      refine lv_aload_n X.1 X.2.1 dX7_arc_42 rfl (lv_at hl 0 rfl) ?_
      refine wm_get X hP hlt0 hE0 rfl wm_inX7 0 (by decide) wq5_22 rfl dX7_arc_43 ?_
      refine lv_if_le (tgt := 51) X.1 X.2.1 dX7_arc_46 (by decide) (fun h => by exfalso; revert h; decide) (fun _ => ?_)
      refine lv_iconst (v := nI 0) X.1 X.2.1 dX7_arc_49 (by decide) ?_
      exact wm_zret (v := false) (post := pmarcA C b E th sz fa pl ats aa op fi la wa wc kl be k sv sw z v ss) X hr hP hS ⟨rfl, hE0, hfr⟩ hQ dX7_arc_50
def pmarc1 (C : Nat → ClassId) (b : Nat) (E : Nat → va_E) (th sz fa pl ats aa op fi la wa wc kl : Nat) (be : Bool) (k sv lr sw : Nat) (v : Bool) (ss ar : Nat → Nat) : Int32 → (Nat → va_E) → Prop := fun r E' => r = nI ((ar (192 * k + 8 * sv + lr)).testBit sw).toNat ∧ E' 119 = .inr (7, [.int (nI 0), .ref (b + 120), .int (nI sz), .int (nI fa), .int (nI pl), .ref (b + 121), .ref (b + 122), .ref (b + 123), .ref (b + 124), .ref (b + 125), .ref (b + 126), .ref (b + 127), .int (nI ats), .int (nI aa), .ref (b + 128), .ref (b + 129), .ref (b + 130), .ref (b + 131), .ref (b + 132), .ref (b + 133), .int (nI op), .int (nI be.toNat), .int (nI fi), .int (nI la), .ref (b + 134), .ref (b + 135), .ref (b + 136), .int (nI wa), .ref (b + 137), .ref (b + 138), .ref (b + 139), .int (nI wc), .ref (b + 140), .int (nI kl), .ref (b + 141), .ref (b + 142), .ref (b + 143), .ref (b + 144), .ref (b + 145)]) ∧ E' 121 = wm_I C 1536 (va_up ar (192 * k + 8 * sv + lr) (wm_wb (ar (192 * k + 8 * sv + lr)) sw v)) ∧ (∀ j, j ≠ 119 → j ≠ 121 → E' j = E j)
set_option maxHeartbeats 4000000 in
set_option maxRecDepth 100000 in
theorem kmarc1 (l : Launch) (D : va_G) (C : Nat → ClassId) (b n : Nat) (E : Nat → va_E) (th sz fa pl ats aa op fi la wa wc kl : Nat) (be : Bool) (k sv lr sw : Nat) (v : Bool) (ss ar : Nat → Nat) (hlt0 : 119 < n) (hE0 : E 119 = .inr (7, [.int (nI th), .ref (b + 120), .int (nI sz), .int (nI fa), .int (nI pl), .ref (b + 121), .ref (b + 122), .ref (b + 123), .ref (b + 124), .ref (b + 125), .ref (b + 126), .ref (b + 127), .int (nI ats), .int (nI aa), .ref (b + 128), .ref (b + 129), .ref (b + 130), .ref (b + 131), .ref (b + 132), .ref (b + 133), .int (nI op), .int (nI be.toNat), .int (nI fi), .int (nI la), .ref (b + 134), .ref (b + 135), .ref (b + 136), .int (nI wa), .ref (b + 137), .ref (b + 138), .ref (b + 139), .int (nI wc), .ref (b + 140), .int (nI kl), .ref (b + 141), .ref (b + 142), .ref (b + 143), .ref (b + 144), .ref (b + 145)])) (hlt1 : 122 < n) (hE1 : E 122 = wm_I C 8 ss) (hlt2 : 121 < n) (hE2 : E 121 = wm_I C 1536 ar) (hkk : k < 8) (hsv : sv < ss k) (hsk : ss k ≤ 24) (hsw : sw < ss k) (hlr : lr < 8) (hav : ar (192 * k + 8 * sv + lr) < 2 ^ 31) : Met l yX7_arc (wm_ws yX7_arc cX7_arc 7 (some .boolean)) { frames := 2, cells := 0, slots := 0, locals := 43 } (va_Pc [.ref (b + 119), .int (nI k), .int (nI sv), .int (nI lr), .int (nI sw), .int (nI v.toNat)] (wm_G D C b n E)) (va_Qi (pmarc1 C b E th sz fa pl ats aa op fi la wa wc kl be k sv lr sw v ss ar) (fun E' t => wm_P D b n E' t.heap) (wm_A b)) 0 0 (wm_A b) := by
  refine wm_ofW (by decide) (Nat.le_of_ble_eq_true rfl) (fun p e s m below meth c ls R args Q hRe hQ X hr hnm hP hS hl => ?_)
  have hl : lv_has ls 7 [(0, .ref (b + 119)), (1, .int (nI k)), (2, .int (nI sv)), (3, .int (nI lr)), (4, .int (nI sw)), (5, .int (nI v.toNat))] := hl
  have hfr : ∀ j, j ≠ 119 → j ≠ 121 → E j = E j := fun _ _ _ => rfl
  refine lv_aload_n X.1 X.2.1 dX7_arc_0 rfl (lv_at hl 0 rfl) ?_
  refine lv_aload_n X.1 X.2.1 dX7_arc_1 rfl (lv_at hl 0 rfl) ?_
  refine lv_iload_n X.1 X.2.1 dX7_arc_2 rfl (lv_at hl 1 rfl) ?_
  refine lv_iload_n X.1 X.2.1 dX7_arc_3 rfl (lv_at hl 2 rfl) ?_
  refine wm_callVi (k := 2) (As := [.int (nI k), .int (nI sv)]) (rest := [.ref (b + 119)]) X hP hS hlt0 hE0 rfl (knoSt l D C b n E th sz fa pl ats aa op fi la wa wc kl be k sv ss hlt0 hE0 hlt1 hE1 (by omega) (by omega) (by omega)) wq5_228 wq5_230 wqP3_12 wq1_8 wq5_231 (by decide) (by rw [hRe]; exact ⟨Nat.le_of_ble_eq_true rfl, Nat.le_of_ble_eq_true rfl⟩) rfl hl.1 rfl (Nat.le_of_ble_eq_true rfl) (Nat.zero_le _) (Nat.zero_le _) dX7_arc_4 (fun r1 E1 H locs hw hP hS => ?_)
  obtain ⟨hrt, hEe⟩ := hw
  subst hrt
  subst hEe
  refine wm_ifz_ne (x := false) (tgt := 20) X dX7_arc_7 (by decide) (fun h => by exfalso; revert h; decide) (fun _ => ?_)
  refine lv_aload_n X.1 X.2.1 dX7_arc_10 rfl (lv_at hl 0 rfl) ?_
  refine lv_iload_n X.1 X.2.1 dX7_arc_11 rfl (lv_at hl 1 rfl) ?_
  refine lv_iload X.1 X.2.1 dX7_arc_12 (lv_at hl 4 rfl) ?_
  refine wm_callVi (k := 2) (As := [.int (nI k), .int (nI sw)]) (rest := [.ref (b + 119)]) X hP hS hlt0 hE0 rfl (knoSt l D C b n E th sz fa pl ats aa op fi la wa wc kl be k sw ss hlt0 hE0 hlt1 hE1 (by omega) (by omega) (by omega)) wq5_228 wq5_230 wqP3_12 wq1_8 wq5_231 (by decide) (by rw [hRe]; exact ⟨Nat.le_of_ble_eq_true rfl, Nat.le_of_ble_eq_true rfl⟩) rfl hl.1 rfl (Nat.le_of_ble_eq_true rfl) (Nat.zero_le _) (Nat.zero_le _) dX7_arc_14 (fun r2 E2 H locs hw hP hS => ?_)
  obtain ⟨hrt, hEe⟩ := hw
  subst hrt
  subst hEe
  refine wm_ifz_eq (x := false) (tgt := 24) X dX7_arc_17 (by decide) (fun _ => ?_) (fun h => by exfalso; revert h; decide)
  refine lv_iload_n X.1 X.2.1 dX7_arc_24 rfl (lv_at hl 3 rfl) ?_
  refine wm_if_lt (x := lr) (tgt := 34) X (by omega) dX7_arc_25 (by decide) ?_
  refine lv_iload_n X.1 X.2.1 dX7_arc_28 rfl (lv_at hl 3 rfl) ?_
  refine lv_bipush (v := nI 7) X.1 X.2.1 dX7_arc_29 (by decide) ?_
  refine wm_icmp_le (x := lr) (y := 7) (tgt := 38) X (by omega) (by decide) dX7_arc_31 (by decide) (fun hc31 => ?_) (fun hc31 => ?_)
  · refine lv_iconst (v := nI 0) X.1 X.2.1 dX7_arc_38 (by decide) ?_
    refine wm_put (v := .int (nI 0)) X hP hS hlt0 hE0 rfl wm_inX7 tyX7 tyX7_ok nmX7 0 (by decide) wq5_22 rfl rfl rfl (fs1 := [.int (nI 0), .ref (b + 120), .int (nI sz), .int (nI fa), .int (nI pl), .ref (b + 121), .ref (b + 122), .ref (b + 123), .ref (b + 124), .ref (b + 125), .ref (b + 126), .ref (b + 127), .int (nI ats), .int (nI aa), .ref (b + 128), .ref (b + 129), .ref (b + 130), .ref (b + 131), .ref (b + 132), .ref (b + 133), .int (nI op), .int (nI be.toNat), .int (nI fi), .int (nI la), .ref (b + 134), .ref (b + 135), .ref (b + 136), .int (nI wa), .ref (b + 137), .ref (b + 138), .ref (b + 139), .int (nI wc), .ref (b + 140), .int (nI kl), .ref (b + 141), .ref (b + 142), .ref (b + 143), .ref (b + 144), .ref (b + 145)]) rfl (Nat.le_of_ble_eq_true rfl) dX7_arc_39 (fun H locs E4 hP hS hE0 hq => ?_)
    have hE1 := (hq 122 (by decide)).trans hE1
    have hE2 := (hq 121 (by decide)).trans hE2
    have hfr : ∀ j, j ≠ 119 → j ≠ 121 → E4 j = E j := fun j h0 h1 => (hq j h0).trans (hfr j h0 h1)
    refine lv_aload_n X.1 X.2.1 dX7_arc_42 rfl (lv_at hl 0 rfl) ?_
    refine wm_get X hP hlt0 hE0 rfl wm_inX7 0 (by decide) wq5_22 rfl dX7_arc_43 ?_
    refine lv_if_le (tgt := 51) X.1 X.2.1 dX7_arc_46 (by decide) (fun _ => ?_) (fun h => by exfalso; revert h; decide)
    refine lv_aload_n X.1 X.2.1 dX7_arc_51 rfl (lv_at hl 0 rfl) ?_
    refine lv_iload_n X.1 X.2.1 dX7_arc_52 rfl (lv_at hl 1 rfl) ?_
    refine lv_iload_n X.1 X.2.1 dX7_arc_53 rfl (lv_at hl 2 rfl) ?_
    refine lv_iload_n X.1 X.2.1 dX7_arc_54 rfl (lv_at hl 3 rfl) ?_
    refine wm_callVi (k := 3) (As := [.int (nI k), .int (nI sv), .int (nI lr)]) (rest := []) X hP hS hlt0 hE0 rfl (kX7_arcsOf l D C b n E4 0 sz fa pl ats aa op fi la wa wc kl be k sv lr ar hlt0 hE0 hlt2 hE2 (by omega) (by omega) (by omega)) wq5_236 wq5_238 wqP3_13 wq1_8 wq5_239 (by decide) (by rw [hRe]; exact ⟨Nat.le_of_ble_eq_true rfl, Nat.le_of_ble_eq_true rfl⟩) rfl hl.1 rfl (Nat.le_of_ble_eq_true rfl) (Nat.zero_le _) (Nat.zero_le _) dX7_arc_55 (fun r5 E5 H locs hw hP hS => ?_)
    obtain ⟨hrt, hEe⟩ := hw
    subst hrt
    subst hEe
    refine lv_istore (lv' := [(6, .int (nI (ar (192 * k + 8 * sv + lr)))), (0, .ref (b + 119)), (1, .int (nI k)), (2, .int (nI sv)), (3, .int (nI lr)), (4, .int (nI sw)), (5, .int (nI v.toNat))]) X.1 X.2.1 dX7_arc_58 hl (by decide) rfl (fun ls hl => ?_)
    refine lv_aload_n X.1 X.2.1 dX7_arc_60 rfl (lv_at hl 1 rfl) ?_
    refine wm_get X hP hlt0 hE0 rfl wm_inX7 5 (by decide) wq5_27 rfl dX7_arc_61 ?_
    refine lv_sipush (v := nI 192) X.1 X.2.1 dX7_arc_64 (by decide) ?_
    refine lv_iload_n X.1 X.2.1 dX7_arc_67 rfl (lv_at hl 2 rfl) ?_
    refine wm_imul (x := 192) (y := k) X dX7_arc_68 ?_
    refine lv_bipush (v := nI 8) X.1 X.2.1 dX7_arc_69 (by decide) ?_
    refine lv_iload_n X.1 X.2.1 dX7_arc_71 rfl (lv_at hl 3 rfl) ?_
    refine wm_imul (x := 8) (y := sv) X dX7_arc_72 ?_
    refine wm_iadd (x := (192 * k)) (y := (8 * sv)) X dX7_arc_73 ?_
    refine lv_iload_n X.1 X.2.1 dX7_arc_74 rfl (lv_at hl 4 rfl) ?_
    refine wm_iadd (x := ((192 * k) + (8 * sv))) (y := lr) X dX7_arc_75 ?_
    refine lv_iload X.1 X.2.1 dX7_arc_76 (lv_at hl 6 rfl) ?_
    refine wm_ifz_eq (x := v) (tgt := 91) X dX7_arc_78 (by decide) (fun hc78 => ?_) (fun hc78 => ?_)
    · refine lv_iload X.1 X.2.1 dX7_arc_91 (lv_at hl 0 rfl) ?_
      refine lv_iconst (v := nI 1) X.1 X.2.1 dX7_arc_93 (by decide) ?_
      refine lv_iload X.1 X.2.1 dX7_arc_94 (lv_at hl 5 rfl) ?_
      refine wm_ishl (x := 1) (y := sw) X (by omega) dX7_arc_96 ?_
      refine lv_iconst (v := nI 4294967295) X.1 X.2.1 dX7_arc_97 (by decide) ?_
      refine wm_ixor (x := (1 <<< sw)) (y := 4294967295) X dX7_arc_98 ?_
      refine wm_iand (x := (ar (192 * k + 8 * sv + lr))) (y := ((1 <<< sw) ^^^ 4294967295)) X dX7_arc_99 ?_
      refine wm_iast (i := (((192 * k) + (8 * sv)) + lr)) (x := ((ar (192 * k + 8 * sv + lr)) &&& ((1 <<< sw) ^^^ 4294967295))) X hP hS hlt2 hE2 (by omega) (by decide) dX7_arc_100 (fun H locs E7 hP hS hE2 hq => ?_)
      have hE0 := (hq 119 (by decide)).trans hE0
      have hE1 := (hq 122 (by decide)).trans hE1
      have hfr : ∀ j, j ≠ 119 → j ≠ 121 → E7 j = E j := fun j h0 h1 => (hq j h1).trans (hfr j h0 h1)
      refine lv_iload X.1 X.2.1 dX7_arc_101 (lv_at hl 0 rfl) ?_
      refine lv_iload X.1 X.2.1 dX7_arc_103 (lv_at hl 5 rfl) ?_
      refine wm_ishr (x := (ar (192 * k + 8 * sv + lr))) (y := sw) X (by omega) (by omega) dX7_arc_105 ?_
      refine lv_iconst (v := nI 1) X.1 X.2.1 dX7_arc_106 (by decide) ?_
      refine wm_iand (x := ((ar (192 * k + 8 * sv + lr)) >>> sw)) (y := 1) X dX7_arc_107 ?_
      refine lv_iconst (v := nI 1) X.1 X.2.1 dX7_arc_108 (by decide) ?_
      refine wm_icmp_ne (x := (((ar (192 * k + 8 * sv + lr)) >>> sw) &&& 1)) (y := 1) (tgt := 116) X (Nat.lt_trans (wm_and1_lt _) (by decide)) (by decide) dX7_arc_109 (by decide) (fun hc109 => ?_) (fun hc109 => ?_)
      · refine lv_iconst (v := nI 0) X.1 X.2.1 dX7_arc_116 (by decide) ?_
        have q1 := wm_sh0 hc109
        exact wm_zret (v := false) (post := pmarc1 C b E th sz fa pl ats aa op fi la wa wc kl be k sv lr sw v ss ar) X hr hP hS ⟨(by rw [q1]), hE0, (by rw [wm_wb0 hc78]; exact hE2), hfr⟩ hQ dX7_arc_117
      · refine lv_iconst (v := nI 1) X.1 X.2.1 dX7_arc_112 (by decide) ?_
        refine lv_goto (tgt := 117) X.1 X.2.1 dX7_arc_113 (by decide) ?_
        have q1 := wm_sh1 hc109
        exact wm_zret (v := true) (post := pmarc1 C b E th sz fa pl ats aa op fi la wa wc kl be k sv lr sw v ss ar) X hr hP hS ⟨(by rw [q1]), hE0, (by rw [wm_wb0 hc78]; exact hE2), hfr⟩ hQ dX7_arc_117
    · refine lv_iload X.1 X.2.1 dX7_arc_81 (lv_at hl 0 rfl) ?_
      refine lv_iconst (v := nI 1) X.1 X.2.1 dX7_arc_83 (by decide) ?_
      refine lv_iload X.1 X.2.1 dX7_arc_84 (lv_at hl 5 rfl) ?_
      refine wm_ishl (x := 1) (y := sw) X (by omega) dX7_arc_86 ?_
      refine wm_ior (x := (ar (192 * k + 8 * sv + lr))) (y := (1 <<< sw)) X dX7_arc_87 ?_
      refine lv_goto (tgt := 100) X.1 X.2.1 dX7_arc_88 (by decide) ?_
      refine wm_iast (i := (((192 * k) + (8 * sv)) + lr)) (x := ((ar (192 * k + 8 * sv + lr)) ||| (1 <<< sw))) X hP hS hlt2 hE2 (by omega) (by decide) dX7_arc_100 (fun H locs E9 hP hS hE2 hq => ?_)
      have hE0 := (hq 119 (by decide)).trans hE0
      have hE1 := (hq 122 (by decide)).trans hE1
      have hfr : ∀ j, j ≠ 119 → j ≠ 121 → E9 j = E j := fun j h0 h1 => (hq j h1).trans (hfr j h0 h1)
      refine lv_iload X.1 X.2.1 dX7_arc_101 (lv_at hl 0 rfl) ?_
      refine lv_iload X.1 X.2.1 dX7_arc_103 (lv_at hl 5 rfl) ?_
      refine wm_ishr (x := (ar (192 * k + 8 * sv + lr))) (y := sw) X (by omega) (by omega) dX7_arc_105 ?_
      refine lv_iconst (v := nI 1) X.1 X.2.1 dX7_arc_106 (by decide) ?_
      refine wm_iand (x := ((ar (192 * k + 8 * sv + lr)) >>> sw)) (y := 1) X dX7_arc_107 ?_
      refine lv_iconst (v := nI 1) X.1 X.2.1 dX7_arc_108 (by decide) ?_
      refine wm_icmp_ne (x := (((ar (192 * k + 8 * sv + lr)) >>> sw) &&& 1)) (y := 1) (tgt := 116) X (Nat.lt_trans (wm_and1_lt _) (by decide)) (by decide) dX7_arc_109 (by decide) (fun hc109 => ?_) (fun hc109 => ?_)
      · refine lv_iconst (v := nI 0) X.1 X.2.1 dX7_arc_116 (by decide) ?_
        have q1 := wm_sh0 hc109
        exact wm_zret (v := false) (post := pmarc1 C b E th sz fa pl ats aa op fi la wa wc kl be k sv lr sw v ss ar) X hr hP hS ⟨(by rw [q1]), hE0, (by rw [wm_wb1 hc78]; exact hE2), hfr⟩ hQ dX7_arc_117
      · refine lv_iconst (v := nI 1) X.1 X.2.1 dX7_arc_112 (by decide) ?_
        refine lv_goto (tgt := 117) X.1 X.2.1 dX7_arc_113 (by decide) ?_
        have q1 := wm_sh1 hc109
        exact wm_zret (v := true) (post := pmarc1 C b E th sz fa pl ats aa op fi la wa wc kl be k sv lr sw v ss ar) X hr hP hS ⟨(by rw [q1]), hE0, (by rw [wm_wb1 hc78]; exact hE2), hfr⟩ hQ dX7_arc_117
  · exact absurd hc31 (by omega)
def pmarcsX (C : Nat → ClassId) (b : Nat) (E : Nat → va_E) (th sz fa pl ats aa op fi la wa wc kl : Nat) (be : Bool) (x y z : Int32) : Int32 → (Nat → va_E) → Prop := fun r E' => r = nI 0 ∧ E' 119 = .inr (7, [.int (nI 1), .ref (b + 120), .int (nI sz), .int (nI fa), .int (nI pl), .ref (b + 121), .ref (b + 122), .ref (b + 123), .ref (b + 124), .ref (b + 125), .ref (b + 126), .ref (b + 127), .int (nI ats), .int (nI aa), .ref (b + 128), .ref (b + 129), .ref (b + 130), .ref (b + 131), .ref (b + 132), .ref (b + 133), .int (nI op), .int (nI be.toNat), .int (nI fi), .int (nI la), .ref (b + 134), .ref (b + 135), .ref (b + 136), .int (nI wa), .ref (b + 137), .ref (b + 138), .ref (b + 139), .int (nI wc), .ref (b + 140), .int (nI kl), .ref (b + 141), .ref (b + 142), .ref (b + 143), .ref (b + 144), .ref (b + 145)]) ∧ (∀ j, j ≠ 119 → E' j = E j)
set_option maxHeartbeats 4000000 in
set_option maxRecDepth 100000 in
theorem kmarcsX (l : Launch) (D : va_G) (C : Nat → ClassId) (b n : Nat) (E : Nat → va_E) (th sz fa pl ats aa op fi la wa wc kl : Nat) (be : Bool) (x y z : Int32) (hlt0 : 119 < n) (hE0 : E 119 = .inr (7, [.int (nI th), .ref (b + 120), .int (nI sz), .int (nI fa), .int (nI pl), .ref (b + 121), .ref (b + 122), .ref (b + 123), .ref (b + 124), .ref (b + 125), .ref (b + 126), .ref (b + 127), .int (nI ats), .int (nI aa), .ref (b + 128), .ref (b + 129), .ref (b + 130), .ref (b + 131), .ref (b + 132), .ref (b + 133), .int (nI op), .int (nI be.toNat), .int (nI fi), .int (nI la), .ref (b + 134), .ref (b + 135), .ref (b + 136), .int (nI wa), .ref (b + 137), .ref (b + 138), .ref (b + 139), .int (nI wc), .ref (b + 140), .int (nI kl), .ref (b + 141), .ref (b + 142), .ref (b + 143), .ref (b + 144), .ref (b + 145)])) (hk : ¬ (0 ≤ x ∧ x < nI 8)) : Met l yX7_arcs (wm_ws yX7_arcs cX7_arcs 4 (some .int)) { frames := 2, cells := 0, slots := 0, locals := 43 } (va_Pc [.ref (b + 119), .int x, .int y, .int z] (wm_G D C b n E)) (va_Qi (pmarcsX C b E th sz fa pl ats aa op fi la wa wc kl be x y z) (fun E' t => wm_P D b n E' t.heap) (wm_A b)) 0 0 (wm_A b) := by
  refine wm_ofW (by decide) (Nat.le_of_ble_eq_true rfl) (fun p e s m below meth c ls R args Q hRe hQ X hr hnm hP hS hl => ?_)
  have hl : lv_has ls 4 [(0, .ref (b + 119)), (1, .int x), (2, .int y), (3, .int z)] := hl
  have hfr : ∀ j, j ≠ 119 → E j = E j := fun _ _ => rfl
  refine lv_aload_n X.1 X.2.1 dX7_arcs_0 rfl (lv_at hl 0 rfl) ?_
  refine lv_aload_n X.1 X.2.1 dX7_arcs_1 rfl (lv_at hl 0 rfl) ?_
  refine lv_iload_n X.1 X.2.1 dX7_arcs_2 rfl (lv_at hl 1 rfl) ?_
  refine lv_iload_n X.1 X.2.1 dX7_arcs_3 rfl (lv_at hl 2 rfl) ?_
  refine wm_callVi (k := 2) (As := [.int x, .int y]) (rest := [.ref (b + 119)]) X hP hS hlt0 hE0 rfl (knoStX l D C b n E th sz fa pl ats aa op fi la wa wc kl be x y hlt0 hE0 (by omega)) wq5_228 wq5_230 wqP3_12 wq1_8 wq5_231 (by decide) (by rw [hRe]; exact ⟨Nat.le_of_ble_eq_true rfl, Nat.le_of_ble_eq_true rfl⟩) rfl hl.1 rfl (Nat.le_of_ble_eq_true rfl) (Nat.zero_le _) (Nat.zero_le _) dX7_arcs_4 (fun r1 E1 H locs hw hP hS => ?_)
  obtain ⟨hrt, hEe⟩ := hw
  subst hrt
  subst hEe
  refine wm_ifz_eq (x := true) (tgt := 14) X dX7_arcs_7 (by decide) (fun h => by exfalso; revert h; decide) (fun _ => ?_)
  refine lv_iconst (v := nI 1) X.1 X.2.1 dX7_arcs_10 (by decide) ?_
  refine lv_goto (tgt := 29) X.1 X.2.1 dX7_arcs_11 (by decide) ?_
  refine wm_put (v := .int (nI 1)) X hP hS hlt0 hE0 rfl wm_inX7 tyX7 tyX7_ok nmX7 0 (by decide) wq5_22 rfl rfl rfl (fs1 := [.int (nI 1), .ref (b + 120), .int (nI sz), .int (nI fa), .int (nI pl), .ref (b + 121), .ref (b + 122), .ref (b + 123), .ref (b + 124), .ref (b + 125), .ref (b + 126), .ref (b + 127), .int (nI ats), .int (nI aa), .ref (b + 128), .ref (b + 129), .ref (b + 130), .ref (b + 131), .ref (b + 132), .ref (b + 133), .int (nI op), .int (nI be.toNat), .int (nI fi), .int (nI la), .ref (b + 134), .ref (b + 135), .ref (b + 136), .int (nI wa), .ref (b + 137), .ref (b + 138), .ref (b + 139), .int (nI wc), .ref (b + 140), .int (nI kl), .ref (b + 141), .ref (b + 142), .ref (b + 143), .ref (b + 144), .ref (b + 145)]) rfl (Nat.le_of_ble_eq_true rfl) dX7_arcs_29 (fun H locs E2 hP hS hE0 hq => ?_)
  have hfr : ∀ j, j ≠ 119 → E2 j = E j := fun j h0 => (hq j h0).trans (hfr j h0)
  refine lv_aload_n X.1 X.2.1 dX7_arcs_32 rfl (lv_at hl 0 rfl) ?_
  refine wm_get X hP hlt0 hE0 rfl wm_inX7 0 (by decide) wq5_22 rfl dX7_arcs_33 ?_
  refine lv_if_le (tgt := 41) X.1 X.2.1 dX7_arcs_36 (by decide) (fun h => by exfalso; revert h; decide) (fun _ => ?_)
  refine lv_iconst (v := nI 0) X.1 X.2.1 dX7_arcs_39 (by decide) ?_
  exact wm_iret (post := pmarcsX C b E th sz fa pl ats aa op fi la wa wc kl be x y z) X hr hP hS ⟨rfl, hE0, hfr⟩ hQ dX7_arcs_40
def pmarcsS (C : Nat → ClassId) (b : Nat) (E : Nat → va_E) (th sz fa pl ats aa op fi la wa wc kl : Nat) (be : Bool) (k : Nat) (y z : Int32) (ss : Nat → Nat) : Int32 → (Nat → va_E) → Prop := fun r E' => r = nI 0 ∧ E' 119 = .inr (7, [.int (nI 1), .ref (b + 120), .int (nI sz), .int (nI fa), .int (nI pl), .ref (b + 121), .ref (b + 122), .ref (b + 123), .ref (b + 124), .ref (b + 125), .ref (b + 126), .ref (b + 127), .int (nI ats), .int (nI aa), .ref (b + 128), .ref (b + 129), .ref (b + 130), .ref (b + 131), .ref (b + 132), .ref (b + 133), .int (nI op), .int (nI be.toNat), .int (nI fi), .int (nI la), .ref (b + 134), .ref (b + 135), .ref (b + 136), .int (nI wa), .ref (b + 137), .ref (b + 138), .ref (b + 139), .int (nI wc), .ref (b + 140), .int (nI kl), .ref (b + 141), .ref (b + 142), .ref (b + 143), .ref (b + 144), .ref (b + 145)]) ∧ (∀ j, j ≠ 119 → E' j = E j)
set_option maxHeartbeats 4000000 in
set_option maxRecDepth 100000 in
theorem kmarcsS (l : Launch) (D : va_G) (C : Nat → ClassId) (b n : Nat) (E : Nat → va_E) (th sz fa pl ats aa op fi la wa wc kl : Nat) (be : Bool) (k : Nat) (y z : Int32) (ss : Nat → Nat) (hlt0 : 119 < n) (hE0 : E 119 = .inr (7, [.int (nI th), .ref (b + 120), .int (nI sz), .int (nI fa), .int (nI pl), .ref (b + 121), .ref (b + 122), .ref (b + 123), .ref (b + 124), .ref (b + 125), .ref (b + 126), .ref (b + 127), .int (nI ats), .int (nI aa), .ref (b + 128), .ref (b + 129), .ref (b + 130), .ref (b + 131), .ref (b + 132), .ref (b + 133), .int (nI op), .int (nI be.toNat), .int (nI fi), .int (nI la), .ref (b + 134), .ref (b + 135), .ref (b + 136), .int (nI wa), .ref (b + 137), .ref (b + 138), .ref (b + 139), .int (nI wc), .ref (b + 140), .int (nI kl), .ref (b + 141), .ref (b + 142), .ref (b + 143), .ref (b + 144), .ref (b + 145)])) (hlt1 : 122 < n) (hE1 : E 122 = wm_I C 8 ss) (hkk : k < 8) (hk : ¬ (0 ≤ y ∧ y < nI (ss k))) : Met l yX7_arcs (wm_ws yX7_arcs cX7_arcs 4 (some .int)) { frames := 2, cells := 0, slots := 0, locals := 43 } (va_Pc [.ref (b + 119), .int (nI k), .int y, .int z] (wm_G D C b n E)) (va_Qi (pmarcsS C b E th sz fa pl ats aa op fi la wa wc kl be k y z ss) (fun E' t => wm_P D b n E' t.heap) (wm_A b)) 0 0 (wm_A b) := by
  refine wm_ofW (by decide) (Nat.le_of_ble_eq_true rfl) (fun p e s m below meth c ls R args Q hRe hQ X hr hnm hP hS hl => ?_)
  have hl : lv_has ls 4 [(0, .ref (b + 119)), (1, .int (nI k)), (2, .int y), (3, .int z)] := hl
  have hfr : ∀ j, j ≠ 119 → E j = E j := fun _ _ => rfl
  refine lv_aload_n X.1 X.2.1 dX7_arcs_0 rfl (lv_at hl 0 rfl) ?_
  refine lv_aload_n X.1 X.2.1 dX7_arcs_1 rfl (lv_at hl 0 rfl) ?_
  refine lv_iload_n X.1 X.2.1 dX7_arcs_2 rfl (lv_at hl 1 rfl) ?_
  refine lv_iload_n X.1 X.2.1 dX7_arcs_3 rfl (lv_at hl 2 rfl) ?_
  refine wm_callVi (k := 2) (As := [.int (nI k), .int y]) (rest := [.ref (b + 119)]) X hP hS hlt0 hE0 rfl (knoStS l D C b n E th sz fa pl ats aa op fi la wa wc kl be k y ss hlt0 hE0 hlt1 hE1 (by omega) (by omega)) wq5_228 wq5_230 wqP3_12 wq1_8 wq5_231 (by decide) (by rw [hRe]; exact ⟨Nat.le_of_ble_eq_true rfl, Nat.le_of_ble_eq_true rfl⟩) rfl hl.1 rfl (Nat.le_of_ble_eq_true rfl) (Nat.zero_le _) (Nat.zero_le _) dX7_arcs_4 (fun r1 E1 H locs hw hP hS => ?_)
  obtain ⟨hrt, hEe⟩ := hw
  subst hrt
  subst hEe
  refine wm_ifz_eq (x := true) (tgt := 14) X dX7_arcs_7 (by decide) (fun h => by exfalso; revert h; decide) (fun _ => ?_)
  refine lv_iconst (v := nI 1) X.1 X.2.1 dX7_arcs_10 (by decide) ?_
  refine lv_goto (tgt := 29) X.1 X.2.1 dX7_arcs_11 (by decide) ?_
  refine wm_put (v := .int (nI 1)) X hP hS hlt0 hE0 rfl wm_inX7 tyX7 tyX7_ok nmX7 0 (by decide) wq5_22 rfl rfl rfl (fs1 := [.int (nI 1), .ref (b + 120), .int (nI sz), .int (nI fa), .int (nI pl), .ref (b + 121), .ref (b + 122), .ref (b + 123), .ref (b + 124), .ref (b + 125), .ref (b + 126), .ref (b + 127), .int (nI ats), .int (nI aa), .ref (b + 128), .ref (b + 129), .ref (b + 130), .ref (b + 131), .ref (b + 132), .ref (b + 133), .int (nI op), .int (nI be.toNat), .int (nI fi), .int (nI la), .ref (b + 134), .ref (b + 135), .ref (b + 136), .int (nI wa), .ref (b + 137), .ref (b + 138), .ref (b + 139), .int (nI wc), .ref (b + 140), .int (nI kl), .ref (b + 141), .ref (b + 142), .ref (b + 143), .ref (b + 144), .ref (b + 145)]) rfl (Nat.le_of_ble_eq_true rfl) dX7_arcs_29 (fun H locs E2 hP hS hE0 hq => ?_)
  have hE1 := (hq 122 (by decide)).trans hE1
  have hfr : ∀ j, j ≠ 119 → E2 j = E j := fun j h0 => (hq j h0).trans (hfr j h0)
  refine lv_aload_n X.1 X.2.1 dX7_arcs_32 rfl (lv_at hl 0 rfl) ?_
  refine wm_get X hP hlt0 hE0 rfl wm_inX7 0 (by decide) wq5_22 rfl dX7_arcs_33 ?_
  refine lv_if_le (tgt := 41) X.1 X.2.1 dX7_arcs_36 (by decide) (fun h => by exfalso; revert h; decide) (fun _ => ?_)
  refine lv_iconst (v := nI 0) X.1 X.2.1 dX7_arcs_39 (by decide) ?_
  exact wm_iret (post := pmarcsS C b E th sz fa pl ats aa op fi la wa wc kl be k y z ss) X hr hP hS ⟨rfl, hE0, hfr⟩ hQ dX7_arcs_40
def pmarcsA (C : Nat → ClassId) (b : Nat) (E : Nat → va_E) (th sz fa pl ats aa op fi la wa wc kl : Nat) (be : Bool) (k sv : Nat) (z : Int32) (ss : Nat → Nat) : Int32 → (Nat → va_E) → Prop := fun r E' => r = nI 0 ∧ E' 119 = .inr (7, [.int (nI 2), .ref (b + 120), .int (nI sz), .int (nI fa), .int (nI pl), .ref (b + 121), .ref (b + 122), .ref (b + 123), .ref (b + 124), .ref (b + 125), .ref (b + 126), .ref (b + 127), .int (nI ats), .int (nI aa), .ref (b + 128), .ref (b + 129), .ref (b + 130), .ref (b + 131), .ref (b + 132), .ref (b + 133), .int (nI op), .int (nI be.toNat), .int (nI fi), .int (nI la), .ref (b + 134), .ref (b + 135), .ref (b + 136), .int (nI wa), .ref (b + 137), .ref (b + 138), .ref (b + 139), .int (nI wc), .ref (b + 140), .int (nI kl), .ref (b + 141), .ref (b + 142), .ref (b + 143), .ref (b + 144), .ref (b + 145)]) ∧ (∀ j, j ≠ 119 → E' j = E j)
set_option maxHeartbeats 4000000 in
set_option maxRecDepth 100000 in
theorem kmarcsA (l : Launch) (D : va_G) (C : Nat → ClassId) (b n : Nat) (E : Nat → va_E) (th sz fa pl ats aa op fi la wa wc kl : Nat) (be : Bool) (k sv : Nat) (z : Int32) (ss : Nat → Nat) (hlt0 : 119 < n) (hE0 : E 119 = .inr (7, [.int (nI th), .ref (b + 120), .int (nI sz), .int (nI fa), .int (nI pl), .ref (b + 121), .ref (b + 122), .ref (b + 123), .ref (b + 124), .ref (b + 125), .ref (b + 126), .ref (b + 127), .int (nI ats), .int (nI aa), .ref (b + 128), .ref (b + 129), .ref (b + 130), .ref (b + 131), .ref (b + 132), .ref (b + 133), .int (nI op), .int (nI be.toNat), .int (nI fi), .int (nI la), .ref (b + 134), .ref (b + 135), .ref (b + 136), .int (nI wa), .ref (b + 137), .ref (b + 138), .ref (b + 139), .int (nI wc), .ref (b + 140), .int (nI kl), .ref (b + 141), .ref (b + 142), .ref (b + 143), .ref (b + 144), .ref (b + 145)])) (hlt1 : 122 < n) (hE1 : E 122 = wm_I C 8 ss) (hkk : k < 8) (hsv : sv < ss k) (hsk : ss k ≤ 24) (hk : ¬ (0 ≤ z ∧ z ≤ nI 8)) : Met l yX7_arcs (wm_ws yX7_arcs cX7_arcs 4 (some .int)) { frames := 2, cells := 0, slots := 0, locals := 43 } (va_Pc [.ref (b + 119), .int (nI k), .int (nI sv), .int z] (wm_G D C b n E)) (va_Qi (pmarcsA C b E th sz fa pl ats aa op fi la wa wc kl be k sv z ss) (fun E' t => wm_P D b n E' t.heap) (wm_A b)) 0 0 (wm_A b) := by
  refine wm_ofW (by decide) (Nat.le_of_ble_eq_true rfl) (fun p e s m below meth c ls R args Q hRe hQ X hr hnm hP hS hl => ?_)
  have hl : lv_has ls 4 [(0, .ref (b + 119)), (1, .int (nI k)), (2, .int (nI sv)), (3, .int z)] := hl
  have hfr : ∀ j, j ≠ 119 → E j = E j := fun _ _ => rfl
  refine lv_aload_n X.1 X.2.1 dX7_arcs_0 rfl (lv_at hl 0 rfl) ?_
  refine lv_aload_n X.1 X.2.1 dX7_arcs_1 rfl (lv_at hl 0 rfl) ?_
  refine lv_iload_n X.1 X.2.1 dX7_arcs_2 rfl (lv_at hl 1 rfl) ?_
  refine lv_iload_n X.1 X.2.1 dX7_arcs_3 rfl (lv_at hl 2 rfl) ?_
  refine wm_callVi (k := 2) (As := [.int (nI k), .int (nI sv)]) (rest := [.ref (b + 119)]) X hP hS hlt0 hE0 rfl (knoSt l D C b n E th sz fa pl ats aa op fi la wa wc kl be k sv ss hlt0 hE0 hlt1 hE1 (by omega) (by omega) (by omega)) wq5_228 wq5_230 wqP3_12 wq1_8 wq5_231 (by decide) (by rw [hRe]; exact ⟨Nat.le_of_ble_eq_true rfl, Nat.le_of_ble_eq_true rfl⟩) rfl hl.1 rfl (Nat.le_of_ble_eq_true rfl) (Nat.zero_le _) (Nat.zero_le _) dX7_arcs_4 (fun r1 E1 H locs hw hP hS => ?_)
  obtain ⟨hrt, hEe⟩ := hw
  subst hrt
  subst hEe
  refine wm_ifz_eq (x := false) (tgt := 14) X dX7_arcs_7 (by decide) (fun _ => ?_) (fun h => by exfalso; revert h; decide)
  refine lv_iload_n X.1 X.2.1 dX7_arcs_14 rfl (lv_at hl 3 rfl) ?_
  refine lv_if_lt (tgt := 24) X.1 X.2.1 dX7_arcs_15 (by decide) (fun hc15 => ?_) (fun hc15 => ?_)
  · refine lv_iconst (v := nI 2) X.1 X.2.1 dX7_arcs_24 (by decide) ?_
    refine lv_goto (tgt := 29) X.1 X.2.1 dX7_arcs_25 (by decide) ?_
    refine wm_put (v := .int (nI 2)) X hP hS hlt0 hE0 rfl wm_inX7 tyX7 tyX7_ok nmX7 0 (by decide) wq5_22 rfl rfl rfl (fs1 := [.int (nI 2), .ref (b + 120), .int (nI sz), .int (nI fa), .int (nI pl), .ref (b + 121), .ref (b + 122), .ref (b + 123), .ref (b + 124), .ref (b + 125), .ref (b + 126), .ref (b + 127), .int (nI ats), .int (nI aa), .ref (b + 128), .ref (b + 129), .ref (b + 130), .ref (b + 131), .ref (b + 132), .ref (b + 133), .int (nI op), .int (nI be.toNat), .int (nI fi), .int (nI la), .ref (b + 134), .ref (b + 135), .ref (b + 136), .int (nI wa), .ref (b + 137), .ref (b + 138), .ref (b + 139), .int (nI wc), .ref (b + 140), .int (nI kl), .ref (b + 141), .ref (b + 142), .ref (b + 143), .ref (b + 144), .ref (b + 145)]) rfl (Nat.le_of_ble_eq_true rfl) dX7_arcs_29 (fun H locs E3 hP hS hE0 hq => ?_)
    have hE1 := (hq 122 (by decide)).trans hE1
    have hfr : ∀ j, j ≠ 119 → E3 j = E j := fun j h0 => (hq j h0).trans (hfr j h0)
    refine lv_aload_n X.1 X.2.1 dX7_arcs_32 rfl (lv_at hl 0 rfl) ?_
    refine wm_get X hP hlt0 hE0 rfl wm_inX7 0 (by decide) wq5_22 rfl dX7_arcs_33 ?_
    refine lv_if_le (tgt := 41) X.1 X.2.1 dX7_arcs_36 (by decide) (fun h => by exfalso; revert h; decide) (fun _ => ?_)
    refine lv_iconst (v := nI 0) X.1 X.2.1 dX7_arcs_39 (by decide) ?_
    exact wm_iret (post := pmarcsA C b E th sz fa pl ats aa op fi la wa wc kl be k sv z ss) X hr hP hS ⟨rfl, hE0, hfr⟩ hQ dX7_arcs_40
  · refine lv_iload_n X.1 X.2.1 dX7_arcs_18 rfl (lv_at hl 3 rfl) ?_
    refine lv_bipush (v := nI 8) X.1 X.2.1 dX7_arcs_19 (by decide) ?_
    refine lv_icmp_le (tgt := 28) X.1 X.2.1 dX7_arcs_21 (by decide) (fun hc21 => ?_) (fun hc21 => ?_)
    · exact absurd hc21 (fun q => hk ⟨Int32.not_lt.mp hc15, q⟩)
    · refine lv_iconst (v := nI 2) X.1 X.2.1 dX7_arcs_24 (by decide) ?_
      refine lv_goto (tgt := 29) X.1 X.2.1 dX7_arcs_25 (by decide) ?_
      refine wm_put (v := .int (nI 2)) X hP hS hlt0 hE0 rfl wm_inX7 tyX7 tyX7_ok nmX7 0 (by decide) wq5_22 rfl rfl rfl (fs1 := [.int (nI 2), .ref (b + 120), .int (nI sz), .int (nI fa), .int (nI pl), .ref (b + 121), .ref (b + 122), .ref (b + 123), .ref (b + 124), .ref (b + 125), .ref (b + 126), .ref (b + 127), .int (nI ats), .int (nI aa), .ref (b + 128), .ref (b + 129), .ref (b + 130), .ref (b + 131), .ref (b + 132), .ref (b + 133), .int (nI op), .int (nI be.toNat), .int (nI fi), .int (nI la), .ref (b + 134), .ref (b + 135), .ref (b + 136), .int (nI wa), .ref (b + 137), .ref (b + 138), .ref (b + 139), .int (nI wc), .ref (b + 140), .int (nI kl), .ref (b + 141), .ref (b + 142), .ref (b + 143), .ref (b + 144), .ref (b + 145)]) rfl (Nat.le_of_ble_eq_true rfl) dX7_arcs_29 (fun H locs E5 hP hS hE0 hq => ?_)
      have hE1 := (hq 122 (by decide)).trans hE1
      have hfr : ∀ j, j ≠ 119 → E5 j = E j := fun j h0 => (hq j h0).trans (hfr j h0)
      refine lv_aload_n X.1 X.2.1 dX7_arcs_32 rfl (lv_at hl 0 rfl) ?_
      refine wm_get X hP hlt0 hE0 rfl wm_inX7 0 (by decide) wq5_22 rfl dX7_arcs_33 ?_
      refine lv_if_le (tgt := 41) X.1 X.2.1 dX7_arcs_36 (by decide) (fun h => by exfalso; revert h; decide) (fun _ => ?_)
      refine lv_iconst (v := nI 0) X.1 X.2.1 dX7_arcs_39 (by decide) ?_
      exact wm_iret (post := pmarcsA C b E th sz fa pl ats aa op fi la wa wc kl be k sv z ss) X hr hP hS ⟨rfl, hE0, hfr⟩ hQ dX7_arcs_40
def pmarcs1 (C : Nat → ClassId) (b : Nat) (E : Nat → va_E) (th sz fa pl ats aa op fi la wa wc kl : Nat) (be : Bool) (k sv lr : Nat) (ar ss sa se : Nat → Nat) : Int32 → (Nat → va_E) → Prop := fun r E' => r = nI (if lr < 8 then ar (192 * k + 8 * sv + lr) else (sa k >>> sv &&& 1) + 2 * (se k >>> sv &&& 1)) ∧ E' 119 = .inr (7, [.int (nI 0), .ref (b + 120), .int (nI sz), .int (nI fa), .int (nI pl), .ref (b + 121), .ref (b + 122), .ref (b + 123), .ref (b + 124), .ref (b + 125), .ref (b + 126), .ref (b + 127), .int (nI ats), .int (nI aa), .ref (b + 128), .ref (b + 129), .ref (b + 130), .ref (b + 131), .ref (b + 132), .ref (b + 133), .int (nI op), .int (nI be.toNat), .int (nI fi), .int (nI la), .ref (b + 134), .ref (b + 135), .ref (b + 136), .int (nI wa), .ref (b + 137), .ref (b + 138), .ref (b + 139), .int (nI wc), .ref (b + 140), .int (nI kl), .ref (b + 141), .ref (b + 142), .ref (b + 143), .ref (b + 144), .ref (b + 145)]) ∧ (∀ j, j ≠ 119 → E' j = E j)
set_option maxHeartbeats 4000000 in
set_option maxRecDepth 100000 in
theorem kmarcs1 (l : Launch) (D : va_G) (C : Nat → ClassId) (b n : Nat) (E : Nat → va_E) (th sz fa pl ats aa op fi la wa wc kl : Nat) (be : Bool) (k sv lr : Nat) (ar ss sa se : Nat → Nat) (hlt0 : 119 < n) (hE0 : E 119 = .inr (7, [.int (nI th), .ref (b + 120), .int (nI sz), .int (nI fa), .int (nI pl), .ref (b + 121), .ref (b + 122), .ref (b + 123), .ref (b + 124), .ref (b + 125), .ref (b + 126), .ref (b + 127), .int (nI ats), .int (nI aa), .ref (b + 128), .ref (b + 129), .ref (b + 130), .ref (b + 131), .ref (b + 132), .ref (b + 133), .int (nI op), .int (nI be.toNat), .int (nI fi), .int (nI la), .ref (b + 134), .ref (b + 135), .ref (b + 136), .int (nI wa), .ref (b + 137), .ref (b + 138), .ref (b + 139), .int (nI wc), .ref (b + 140), .int (nI kl), .ref (b + 141), .ref (b + 142), .ref (b + 143), .ref (b + 144), .ref (b + 145)])) (hlt1 : 121 < n) (hE1 : E 121 = wm_I C 1536 ar) (hlt2 : 122 < n) (hE2 : E 122 = wm_I C 8 ss) (hlt3 : 123 < n) (hE3 : E 123 = wm_I C 8 sa) (hlt4 : 124 < n) (hE4 : E 124 = wm_I C 8 se) (hkk : k < 8) (hsv : sv < ss k) (hsk : ss k ≤ 24) (hlr : lr ≤ 8) (hsa : sa k < 2 ^ 24) (hse : se k < 2 ^ 24) : Met l yX7_arcs (wm_ws yX7_arcs cX7_arcs 4 (some .int)) { frames := 2, cells := 0, slots := 0, locals := 43 } (va_Pc [.ref (b + 119), .int (nI k), .int (nI sv), .int (nI lr)] (wm_G D C b n E)) (va_Qi (pmarcs1 C b E th sz fa pl ats aa op fi la wa wc kl be k sv lr ar ss sa se) (fun E' t => wm_P D b n E' t.heap) (wm_A b)) 0 0 (wm_A b) := by
  refine wm_ofW (by decide) (Nat.le_of_ble_eq_true rfl) (fun p e s m below meth c ls R args Q hRe hQ X hr hnm hP hS hl => ?_)
  have hl : lv_has ls 4 [(0, .ref (b + 119)), (1, .int (nI k)), (2, .int (nI sv)), (3, .int (nI lr))] := hl
  have hfr : ∀ j, j ≠ 119 → E j = E j := fun _ _ => rfl
  refine lv_aload_n X.1 X.2.1 dX7_arcs_0 rfl (lv_at hl 0 rfl) ?_
  refine lv_aload_n X.1 X.2.1 dX7_arcs_1 rfl (lv_at hl 0 rfl) ?_
  refine lv_iload_n X.1 X.2.1 dX7_arcs_2 rfl (lv_at hl 1 rfl) ?_
  refine lv_iload_n X.1 X.2.1 dX7_arcs_3 rfl (lv_at hl 2 rfl) ?_
  refine wm_callVi (k := 2) (As := [.int (nI k), .int (nI sv)]) (rest := [.ref (b + 119)]) X hP hS hlt0 hE0 rfl (knoSt l D C b n E th sz fa pl ats aa op fi la wa wc kl be k sv ss hlt0 hE0 hlt2 hE2 (by omega) (by omega) (by omega)) wq5_228 wq5_230 wqP3_12 wq1_8 wq5_231 (by decide) (by rw [hRe]; exact ⟨Nat.le_of_ble_eq_true rfl, Nat.le_of_ble_eq_true rfl⟩) rfl hl.1 rfl (Nat.le_of_ble_eq_true rfl) (Nat.zero_le _) (Nat.zero_le _) dX7_arcs_4 (fun r1 E1 H locs hw hP hS => ?_)
  obtain ⟨hrt, hEe⟩ := hw
  subst hrt
  subst hEe
  refine wm_ifz_eq (x := false) (tgt := 14) X dX7_arcs_7 (by decide) (fun _ => ?_) (fun h => by exfalso; revert h; decide)
  refine lv_iload_n X.1 X.2.1 dX7_arcs_14 rfl (lv_at hl 3 rfl) ?_
  refine wm_if_lt (x := lr) (tgt := 24) X (by omega) dX7_arcs_15 (by decide) ?_
  refine lv_iload_n X.1 X.2.1 dX7_arcs_18 rfl (lv_at hl 3 rfl) ?_
  refine lv_bipush (v := nI 8) X.1 X.2.1 dX7_arcs_19 (by decide) ?_
  refine wm_icmp_le (x := lr) (y := 8) (tgt := 28) X (by omega) (by decide) dX7_arcs_21 (by decide) (fun hc21 => ?_) (fun hc21 => ?_)
  · refine lv_iconst (v := nI 0) X.1 X.2.1 dX7_arcs_28 (by decide) ?_
    refine wm_put (v := .int (nI 0)) X hP hS hlt0 hE0 rfl wm_inX7 tyX7 tyX7_ok nmX7 0 (by decide) wq5_22 rfl rfl rfl (fs1 := [.int (nI 0), .ref (b + 120), .int (nI sz), .int (nI fa), .int (nI pl), .ref (b + 121), .ref (b + 122), .ref (b + 123), .ref (b + 124), .ref (b + 125), .ref (b + 126), .ref (b + 127), .int (nI ats), .int (nI aa), .ref (b + 128), .ref (b + 129), .ref (b + 130), .ref (b + 131), .ref (b + 132), .ref (b + 133), .int (nI op), .int (nI be.toNat), .int (nI fi), .int (nI la), .ref (b + 134), .ref (b + 135), .ref (b + 136), .int (nI wa), .ref (b + 137), .ref (b + 138), .ref (b + 139), .int (nI wc), .ref (b + 140), .int (nI kl), .ref (b + 141), .ref (b + 142), .ref (b + 143), .ref (b + 144), .ref (b + 145)]) rfl (Nat.le_of_ble_eq_true rfl) dX7_arcs_29 (fun H locs E3 hP hS hE0 hq => ?_)
    have hE1 := (hq 121 (by decide)).trans hE1
    have hE2 := (hq 122 (by decide)).trans hE2
    have hE3 := (hq 123 (by decide)).trans hE3
    have hE4 := (hq 124 (by decide)).trans hE4
    have hfr : ∀ j, j ≠ 119 → E3 j = E j := fun j h0 => (hq j h0).trans (hfr j h0)
    refine lv_aload_n X.1 X.2.1 dX7_arcs_32 rfl (lv_at hl 0 rfl) ?_
    refine wm_get X hP hlt0 hE0 rfl wm_inX7 0 (by decide) wq5_22 rfl dX7_arcs_33 ?_
    refine lv_if_le (tgt := 41) X.1 X.2.1 dX7_arcs_36 (by decide) (fun _ => ?_) (fun h => by exfalso; revert h; decide)
    refine lv_iload_n X.1 X.2.1 dX7_arcs_41 rfl (lv_at hl 3 rfl) ?_
    refine lv_bipush (v := nI 8) X.1 X.2.1 dX7_arcs_42 (by decide) ?_
    refine wm_icmp_ge (x := lr) (y := 8) (tgt := 57) X (by omega) (by decide) dX7_arcs_44 (by decide) (fun hc44 => ?_) (fun hc44 => ?_)
    · refine lv_aload_n X.1 X.2.1 dX7_arcs_57 rfl (lv_at hl 0 rfl) ?_
      refine wm_get X hP hlt0 hE0 rfl wm_inX7 7 (by decide) wq5_29 rfl dX7_arcs_58 ?_
      refine lv_iload_n X.1 X.2.1 dX7_arcs_61 rfl (lv_at hl 1 rfl) ?_
      refine wm_iald (i := k) X hP hlt3 hE3 (by omega) (by decide) dX7_arcs_62 ?_
      refine lv_iload_n X.1 X.2.1 dX7_arcs_63 rfl (lv_at hl 2 rfl) ?_
      refine wm_ishr (x := (sa k)) (y := sv) X (by omega) (by omega) dX7_arcs_64 ?_
      refine lv_iconst (v := nI 1) X.1 X.2.1 dX7_arcs_65 (by decide) ?_
      refine wm_iand (x := ((sa k) >>> sv)) (y := 1) X dX7_arcs_66 ?_
      refine lv_iconst (v := nI 2) X.1 X.2.1 dX7_arcs_67 (by decide) ?_
      refine lv_aload_n X.1 X.2.1 dX7_arcs_68 rfl (lv_at hl 0 rfl) ?_
      refine wm_get X hP hlt0 hE0 rfl wm_inX7 8 (by decide) wq5_30 rfl dX7_arcs_69 ?_
      refine lv_iload_n X.1 X.2.1 dX7_arcs_72 rfl (lv_at hl 1 rfl) ?_
      refine wm_iald (i := k) X hP hlt4 hE4 (by omega) (by decide) dX7_arcs_73 ?_
      refine lv_iload_n X.1 X.2.1 dX7_arcs_74 rfl (lv_at hl 2 rfl) ?_
      refine wm_ishr (x := (se k)) (y := sv) X (by omega) (by omega) dX7_arcs_75 ?_
      refine lv_iconst (v := nI 1) X.1 X.2.1 dX7_arcs_76 (by decide) ?_
      refine wm_iand (x := ((se k) >>> sv)) (y := 1) X dX7_arcs_77 ?_
      refine wm_imul (x := 2) (y := (((se k) >>> sv) &&& 1)) X dX7_arcs_78 ?_
      refine wm_iadd (x := (((sa k) >>> sv) &&& 1)) (y := (2 * (((se k) >>> sv) &&& 1))) X dX7_arcs_79 ?_
      exact wm_iret (post := pmarcs1 C b E th sz fa pl ats aa op fi la wa wc kl be k sv lr ar ss sa se) X hr hP hS ⟨(congrArg nI (if_neg (Nat.not_lt.mpr hc44)).symm), hE0, hfr⟩ hQ dX7_arcs_80
    · refine lv_aload_n X.1 X.2.1 dX7_arcs_47 rfl (lv_at hl 0 rfl) ?_
      refine lv_iload_n X.1 X.2.1 dX7_arcs_48 rfl (lv_at hl 1 rfl) ?_
      refine lv_iload_n X.1 X.2.1 dX7_arcs_49 rfl (lv_at hl 2 rfl) ?_
      refine lv_iload_n X.1 X.2.1 dX7_arcs_50 rfl (lv_at hl 3 rfl) ?_
      refine wm_callVi (k := 3) (As := [.int (nI k), .int (nI sv), .int (nI lr)]) (rest := []) X hP hS hlt0 hE0 rfl (kX7_arcsOf l D C b n E3 0 sz fa pl ats aa op fi la wa wc kl be k sv lr ar hlt0 hE0 hlt1 hE1 (by omega) (by omega) (by omega)) wq5_236 wq5_238 wqP3_13 wq1_8 wq5_239 (by decide) (by rw [hRe]; exact ⟨Nat.le_of_ble_eq_true rfl, Nat.le_of_ble_eq_true rfl⟩) rfl hl.1 rfl (Nat.le_of_ble_eq_true rfl) (Nat.zero_le _) (Nat.zero_le _) dX7_arcs_51 (fun r5 E5 H locs hw hP hS => ?_)
      obtain ⟨hrt, hEe⟩ := hw
      subst hrt
      subst hEe
      refine lv_goto (tgt := 80) X.1 X.2.1 dX7_arcs_54 (by decide) ?_
      exact wm_iret (post := pmarcs1 C b E th sz fa pl ats aa op fi la wa wc kl be k sv lr ar ss sa se) X hr hP hS ⟨(congrArg nI (if_pos hc44).symm), hE0, hfr⟩ hQ dX7_arcs_80
  · exact absurd hc21 (by omega)
def pmstatesX (C : Nat → ClassId) (b : Nat) (E : Nat → va_E) (th sz fa pl ats aa op fi la wa wc kl : Nat) (be : Bool) (x : Int32) : Int32 → (Nat → va_E) → Prop := fun r E' => r = nI 0 ∧ E' 119 = .inr (7, [.int (nI 1), .ref (b + 120), .int (nI sz), .int (nI fa), .int (nI pl), .ref (b + 121), .ref (b + 122), .ref (b + 123), .ref (b + 124), .ref (b + 125), .ref (b + 126), .ref (b + 127), .int (nI ats), .int (nI aa), .ref (b + 128), .ref (b + 129), .ref (b + 130), .ref (b + 131), .ref (b + 132), .ref (b + 133), .int (nI op), .int (nI be.toNat), .int (nI fi), .int (nI la), .ref (b + 134), .ref (b + 135), .ref (b + 136), .int (nI wa), .ref (b + 137), .ref (b + 138), .ref (b + 139), .int (nI wc), .ref (b + 140), .int (nI kl), .ref (b + 141), .ref (b + 142), .ref (b + 143), .ref (b + 144), .ref (b + 145)]) ∧ (∀ j, j ≠ 119 → E' j = E j)
set_option maxHeartbeats 4000000 in
set_option maxRecDepth 100000 in
theorem kmstatesX (l : Launch) (D : va_G) (C : Nat → ClassId) (b n : Nat) (E : Nat → va_E) (th sz fa pl ats aa op fi la wa wc kl : Nat) (be : Bool) (x : Int32) (hlt0 : 119 < n) (hE0 : E 119 = .inr (7, [.int (nI th), .ref (b + 120), .int (nI sz), .int (nI fa), .int (nI pl), .ref (b + 121), .ref (b + 122), .ref (b + 123), .ref (b + 124), .ref (b + 125), .ref (b + 126), .ref (b + 127), .int (nI ats), .int (nI aa), .ref (b + 128), .ref (b + 129), .ref (b + 130), .ref (b + 131), .ref (b + 132), .ref (b + 133), .int (nI op), .int (nI be.toNat), .int (nI fi), .int (nI la), .ref (b + 134), .ref (b + 135), .ref (b + 136), .int (nI wa), .ref (b + 137), .ref (b + 138), .ref (b + 139), .int (nI wc), .ref (b + 140), .int (nI kl), .ref (b + 141), .ref (b + 142), .ref (b + 143), .ref (b + 144), .ref (b + 145)])) (hk : ¬ (0 ≤ x ∧ x < nI 8)) : Met l yX7_states (wm_ws yX7_states cX7_states 2 (some .int)) { frames := 1, cells := 0, slots := 0, locals := 21 } (va_Pc [.ref (b + 119), .int x] (wm_G D C b n E)) (va_Qi (pmstatesX C b E th sz fa pl ats aa op fi la wa wc kl be x) (fun E' t => wm_P D b n E' t.heap) (wm_A b)) 0 0 (wm_A b) := by
  refine wm_ofW (by decide) (Nat.le_of_ble_eq_true rfl) (fun p e s m below meth c ls R args Q hRe hQ X hr hnm hP hS hl => ?_)
  have hl : lv_has ls 2 [(0, .ref (b + 119)), (1, .int x)] := hl
  have hfr : ∀ j, j ≠ 119 → E j = E j := fun _ _ => rfl
  refine lv_aload_n X.1 X.2.1 dX7_states_0 rfl (lv_at hl 0 rfl) ?_
  refine lv_aload_n X.1 X.2.1 dX7_states_1 rfl (lv_at hl 0 rfl) ?_
  refine lv_iload_n X.1 X.2.1 dX7_states_2 rfl (lv_at hl 1 rfl) ?_
  refine wm_callVi (k := 1) (As := [.int x]) (rest := [.ref (b + 119)]) X hP hS hlt0 hE0 rfl (knoMachX l D C b n E x (by omega)) wq5_157 wq5_159 wqP2_15 wq1_8 wq5_160 (by decide) (by rw [hRe]; exact ⟨Nat.le_of_ble_eq_true rfl, Nat.le_of_ble_eq_true rfl⟩) rfl hl.1 rfl (Nat.le_of_ble_eq_true rfl) (Nat.zero_le _) (Nat.zero_le _) dX7_states_3 (fun r1 E1 H locs hw hP hS => ?_)
  obtain ⟨hrt, hEe⟩ := hw
  subst hrt
  subst hEe
  refine wm_ifz_eq (x := true) (tgt := 13) X dX7_states_6 (by decide) (fun h => by exfalso; revert h; decide) (fun _ => ?_)
  refine lv_iconst (v := nI 1) X.1 X.2.1 dX7_states_9 (by decide) ?_
  refine lv_goto (tgt := 14) X.1 X.2.1 dX7_states_10 (by decide) ?_
  refine wm_put (v := .int (nI 1)) X hP hS hlt0 hE0 rfl wm_inX7 tyX7 tyX7_ok nmX7 0 (by decide) wq5_22 rfl rfl rfl (fs1 := [.int (nI 1), .ref (b + 120), .int (nI sz), .int (nI fa), .int (nI pl), .ref (b + 121), .ref (b + 122), .ref (b + 123), .ref (b + 124), .ref (b + 125), .ref (b + 126), .ref (b + 127), .int (nI ats), .int (nI aa), .ref (b + 128), .ref (b + 129), .ref (b + 130), .ref (b + 131), .ref (b + 132), .ref (b + 133), .int (nI op), .int (nI be.toNat), .int (nI fi), .int (nI la), .ref (b + 134), .ref (b + 135), .ref (b + 136), .int (nI wa), .ref (b + 137), .ref (b + 138), .ref (b + 139), .int (nI wc), .ref (b + 140), .int (nI kl), .ref (b + 141), .ref (b + 142), .ref (b + 143), .ref (b + 144), .ref (b + 145)]) rfl (Nat.le_of_ble_eq_true rfl) dX7_states_14 (fun H locs E2 hP hS hE0 hq => ?_)
  have hfr : ∀ j, j ≠ 119 → E2 j = E j := fun j h0 => (hq j h0).trans (hfr j h0)
  refine lv_aload_n X.1 X.2.1 dX7_states_17 rfl (lv_at hl 0 rfl) ?_
  refine wm_get X hP hlt0 hE0 rfl wm_inX7 0 (by decide) wq5_22 rfl dX7_states_18 ?_
  refine lv_if_le (tgt := 28) X.1 X.2.1 dX7_states_21 (by decide) (fun h => by exfalso; revert h; decide) (fun _ => ?_)
  refine lv_iconst (v := nI 0) X.1 X.2.1 dX7_states_24 (by decide) ?_
  refine lv_goto (tgt := 34) X.1 X.2.1 dX7_states_25 (by decide) ?_
  exact wm_iret (post := pmstatesX C b E th sz fa pl ats aa op fi la wa wc kl be x) X hr hP hS ⟨rfl, hE0, hfr⟩ hQ dX7_states_34
def pmstates1 (C : Nat → ClassId) (b : Nat) (E : Nat → va_E) (th sz fa pl ats aa op fi la wa wc kl : Nat) (be : Bool) (k : Nat) (ss : Nat → Nat) : Int32 → (Nat → va_E) → Prop := fun r E' => r = nI (ss k) ∧ E' 119 = .inr (7, [.int (nI 0), .ref (b + 120), .int (nI sz), .int (nI fa), .int (nI pl), .ref (b + 121), .ref (b + 122), .ref (b + 123), .ref (b + 124), .ref (b + 125), .ref (b + 126), .ref (b + 127), .int (nI ats), .int (nI aa), .ref (b + 128), .ref (b + 129), .ref (b + 130), .ref (b + 131), .ref (b + 132), .ref (b + 133), .int (nI op), .int (nI be.toNat), .int (nI fi), .int (nI la), .ref (b + 134), .ref (b + 135), .ref (b + 136), .int (nI wa), .ref (b + 137), .ref (b + 138), .ref (b + 139), .int (nI wc), .ref (b + 140), .int (nI kl), .ref (b + 141), .ref (b + 142), .ref (b + 143), .ref (b + 144), .ref (b + 145)]) ∧ (∀ j, j ≠ 119 → E' j = E j)
set_option maxHeartbeats 4000000 in
set_option maxRecDepth 100000 in
theorem kmstates1 (l : Launch) (D : va_G) (C : Nat → ClassId) (b n : Nat) (E : Nat → va_E) (th sz fa pl ats aa op fi la wa wc kl : Nat) (be : Bool) (k : Nat) (ss : Nat → Nat) (hlt0 : 119 < n) (hE0 : E 119 = .inr (7, [.int (nI th), .ref (b + 120), .int (nI sz), .int (nI fa), .int (nI pl), .ref (b + 121), .ref (b + 122), .ref (b + 123), .ref (b + 124), .ref (b + 125), .ref (b + 126), .ref (b + 127), .int (nI ats), .int (nI aa), .ref (b + 128), .ref (b + 129), .ref (b + 130), .ref (b + 131), .ref (b + 132), .ref (b + 133), .int (nI op), .int (nI be.toNat), .int (nI fi), .int (nI la), .ref (b + 134), .ref (b + 135), .ref (b + 136), .int (nI wa), .ref (b + 137), .ref (b + 138), .ref (b + 139), .int (nI wc), .ref (b + 140), .int (nI kl), .ref (b + 141), .ref (b + 142), .ref (b + 143), .ref (b + 144), .ref (b + 145)])) (hlt1 : 122 < n) (hE1 : E 122 = wm_I C 8 ss) (hkk : k < 8) : Met l yX7_states (wm_ws yX7_states cX7_states 2 (some .int)) { frames := 1, cells := 0, slots := 0, locals := 21 } (va_Pc [.ref (b + 119), .int (nI k)] (wm_G D C b n E)) (va_Qi (pmstates1 C b E th sz fa pl ats aa op fi la wa wc kl be k ss) (fun E' t => wm_P D b n E' t.heap) (wm_A b)) 0 0 (wm_A b) := by
  refine wm_ofW (by decide) (Nat.le_of_ble_eq_true rfl) (fun p e s m below meth c ls R args Q hRe hQ X hr hnm hP hS hl => ?_)
  have hl : lv_has ls 2 [(0, .ref (b + 119)), (1, .int (nI k))] := hl
  have hfr : ∀ j, j ≠ 119 → E j = E j := fun _ _ => rfl
  refine lv_aload_n X.1 X.2.1 dX7_states_0 rfl (lv_at hl 0 rfl) ?_
  refine lv_aload_n X.1 X.2.1 dX7_states_1 rfl (lv_at hl 0 rfl) ?_
  refine lv_iload_n X.1 X.2.1 dX7_states_2 rfl (lv_at hl 1 rfl) ?_
  refine wm_callVi (k := 1) (As := [.int (nI k)]) (rest := [.ref (b + 119)]) X hP hS hlt0 hE0 rfl (knoMach l D C b n E k (by omega)) wq5_157 wq5_159 wqP2_15 wq1_8 wq5_160 (by decide) (by rw [hRe]; exact ⟨Nat.le_of_ble_eq_true rfl, Nat.le_of_ble_eq_true rfl⟩) rfl hl.1 rfl (Nat.le_of_ble_eq_true rfl) (Nat.zero_le _) (Nat.zero_le _) dX7_states_3 (fun r1 E1 H locs hw hP hS => ?_)
  obtain ⟨hrt, hEe⟩ := hw
  subst hrt
  subst hEe
  refine wm_ifz_eq (x := false) (tgt := 13) X dX7_states_6 (by decide) (fun _ => ?_) (fun h => by exfalso; revert h; decide)
  refine lv_iconst (v := nI 0) X.1 X.2.1 dX7_states_13 (by decide) ?_
  refine wm_put (v := .int (nI 0)) X hP hS hlt0 hE0 rfl wm_inX7 tyX7 tyX7_ok nmX7 0 (by decide) wq5_22 rfl rfl rfl (fs1 := [.int (nI 0), .ref (b + 120), .int (nI sz), .int (nI fa), .int (nI pl), .ref (b + 121), .ref (b + 122), .ref (b + 123), .ref (b + 124), .ref (b + 125), .ref (b + 126), .ref (b + 127), .int (nI ats), .int (nI aa), .ref (b + 128), .ref (b + 129), .ref (b + 130), .ref (b + 131), .ref (b + 132), .ref (b + 133), .int (nI op), .int (nI be.toNat), .int (nI fi), .int (nI la), .ref (b + 134), .ref (b + 135), .ref (b + 136), .int (nI wa), .ref (b + 137), .ref (b + 138), .ref (b + 139), .int (nI wc), .ref (b + 140), .int (nI kl), .ref (b + 141), .ref (b + 142), .ref (b + 143), .ref (b + 144), .ref (b + 145)]) rfl (Nat.le_of_ble_eq_true rfl) dX7_states_14 (fun H locs E2 hP hS hE0 hq => ?_)
  have hE1 := (hq 122 (by decide)).trans hE1
  have hfr : ∀ j, j ≠ 119 → E2 j = E j := fun j h0 => (hq j h0).trans (hfr j h0)
  refine lv_aload_n X.1 X.2.1 dX7_states_17 rfl (lv_at hl 0 rfl) ?_
  refine wm_get X hP hlt0 hE0 rfl wm_inX7 0 (by decide) wq5_22 rfl dX7_states_18 ?_
  refine lv_if_le (tgt := 28) X.1 X.2.1 dX7_states_21 (by decide) (fun _ => ?_) (fun h => by exfalso; revert h; decide)
  refine lv_aload_n X.1 X.2.1 dX7_states_28 rfl (lv_at hl 0 rfl) ?_
  refine wm_get X hP hlt0 hE0 rfl wm_inX7 6 (by decide) wq5_28 rfl dX7_states_29 ?_
  refine lv_iload_n X.1 X.2.1 dX7_states_32 rfl (lv_at hl 1 rfl) ?_
  refine wm_iald (i := k) X hP hlt1 hE1 (by omega) (by decide) dX7_states_33 ?_
  exact wm_iret (post := pmstates1 C b E th sz fa pl ats aa op fi la wa wc kl be k ss) X hr hP hS ⟨rfl, hE0, hfr⟩ hQ dX7_states_34
def pX7_isGreat (C : Nat → ClassId) (b : Nat) (E : Nat → va_E) (th sz fa pl ats aa op fi la wa wc kl : Nat) (be : Bool) (k : Nat) (ss : Nat → Nat) : Int32 → (Nat → va_E) → Prop := fun r E' => r = nI (decide (11 < ss k)).toNat ∧ E = E'
set_option maxHeartbeats 4000000 in
set_option maxRecDepth 100000 in
theorem kX7_isGreat (l : Launch) (D : va_G) (C : Nat → ClassId) (b n : Nat) (E : Nat → va_E) (th sz fa pl ats aa op fi la wa wc kl : Nat) (be : Bool) (k : Nat) (ss : Nat → Nat) (hlt0 : 119 < n) (hE0 : E 119 = .inr (7, [.int (nI th), .ref (b + 120), .int (nI sz), .int (nI fa), .int (nI pl), .ref (b + 121), .ref (b + 122), .ref (b + 123), .ref (b + 124), .ref (b + 125), .ref (b + 126), .ref (b + 127), .int (nI ats), .int (nI aa), .ref (b + 128), .ref (b + 129), .ref (b + 130), .ref (b + 131), .ref (b + 132), .ref (b + 133), .int (nI op), .int (nI be.toNat), .int (nI fi), .int (nI la), .ref (b + 134), .ref (b + 135), .ref (b + 136), .int (nI wa), .ref (b + 137), .ref (b + 138), .ref (b + 139), .int (nI wc), .ref (b + 140), .int (nI kl), .ref (b + 141), .ref (b + 142), .ref (b + 143), .ref (b + 144), .ref (b + 145)])) (hlt1 : 122 < n) (hE1 : E 122 = wm_I C 8 ss) (hkk : k < 8) (hsk : ss k ≤ 24) : Met l yX7_isGreat (wm_ws yX7_isGreat cX7_isGreat 2 (some .boolean)) { frames := 0, cells := 0, slots := 0, locals := 0 } (va_Pc [.ref (b + 119), .int (nI k)] (wm_G D C b n E)) (va_Qi (pX7_isGreat C b E th sz fa pl ats aa op fi la wa wc kl be k ss) (fun E' t => wm_P D b n E' t.heap) (wm_A b)) 0 0 (wm_A b) := by
  refine wm_ofW (by decide) (Nat.le_of_ble_eq_true rfl) (fun p e s m below meth c ls R args Q hRe hQ X hr hnm hP hS hl => ?_)
  have hl : lv_has ls 2 [(0, .ref (b + 119)), (1, .int (nI k))] := hl
  refine lv_aload_n X.1 X.2.1 dX7_isGreat_0 rfl (lv_at hl 0 rfl) ?_
  refine wm_get X hP hlt0 hE0 rfl wm_inX7 6 (by decide) wq5_28 rfl dX7_isGreat_1 ?_
  refine lv_iload_n X.1 X.2.1 dX7_isGreat_4 rfl (lv_at hl 1 rfl) ?_
  refine wm_iald (i := k) X hP hlt1 hE1 (by omega) (by decide) dX7_isGreat_5 ?_
  refine lv_bipush (v := nI 11) X.1 X.2.1 dX7_isGreat_6 (by decide) ?_
  refine wm_icmp_le (x := (ss k)) (y := 11) (tgt := 15) X (by omega) (by decide) dX7_isGreat_8 (by decide) (fun hc8 => ?_) (fun hc8 => ?_)
  · refine lv_iconst (v := nI 0) X.1 X.2.1 dX7_isGreat_15 (by decide) ?_
    exact wm_zret (v := false) (post := pX7_isGreat C b E th sz fa pl ats aa op fi la wa wc kl be k ss) X hr hP hS ⟨(by rw [decide_eq_false (show ¬ 11 < ss k by omega)]), rfl⟩ hQ dX7_isGreat_16
  · refine lv_iconst (v := nI 1) X.1 X.2.1 dX7_isGreat_11 (by decide) ?_
    refine lv_goto (tgt := 16) X.1 X.2.1 dX7_isGreat_12 (by decide) ?_
    exact wm_zret (v := true) (post := pX7_isGreat C b E th sz fa pl ats aa op fi la wa wc kl be k ss) X hr hP hS ⟨(by rw [decide_eq_true (show 11 < ss k by omega)]), rfl⟩ hQ dX7_isGreat_16
