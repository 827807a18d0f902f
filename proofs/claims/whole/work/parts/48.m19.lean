def pX7_word (C : Nat → ClassId) (b : Nat) (E : Nat → va_E) (th sz fa pl ats aa op fi la wa wc kl : Nat) (be : Bool) (y a S : Nat) (wb wl ws : Nat → Nat) : Int32 → (Nat → va_E) → Prop := fun r E' => r = nI wc ∧ E' 119 = .inr (7, [.int (nI th), .ref (b + 120), .int (nI sz), .int (nI fa), .int (nI pl), .ref (b + 121), .ref (b + 122), .ref (b + 123), .ref (b + 124), .ref (b + 125), .ref (b + 126), .ref (b + 127), .int (nI ats), .int (nI aa), .ref (b + 128), .ref (b + 129), .ref (b + 130), .ref (b + 131), .ref (b + 132), .ref (b + 133), .int (nI op), .int (nI be.toNat), .int (nI fi), .int (nI la), .ref (b + 134), .ref (b + 135), .ref (b + 136), .int (nI wa), .ref (b + 137), .ref (b + 138), .ref (b + 139), .int (nI (wc + 1)), .ref (b + 140), .int (nI kl), .ref (b + 141), .ref (b + 142), .ref (b + 143), .ref (b + 144), .ref (b + 145)]) ∧ E' 137 = wm_I C 49153 (va_up wb wc y) ∧ E' 138 = wm_I C 49153 (va_up wl wc a) ∧ E' 139 = wm_I C 49153 (va_up ws wc S) ∧ (∀ j, j ≠ 119 → j ≠ 137 → j ≠ 138 → j ≠ 139 → E' j = E j)
set_option maxHeartbeats 4000000 in
set_option maxRecDepth 100000 in
theorem kX7_word (l : Launch) (D : va_G) (C : Nat → ClassId) (b n : Nat) (E : Nat → va_E) (th sz fa pl ats aa op fi la wa wc kl : Nat) (be : Bool) (y a S : Nat) (wb wl ws : Nat → Nat) (hlt0 : 119 < n) (hE0 : E 119 = .inr (7, [.int (nI th), .ref (b + 120), .int (nI sz), .int (nI fa), .int (nI pl), .ref (b + 121), .ref (b + 122), .ref (b + 123), .ref (b + 124), .ref (b + 125), .ref (b + 126), .ref (b + 127), .int (nI ats), .int (nI aa), .ref (b + 128), .ref (b + 129), .ref (b + 130), .ref (b + 131), .ref (b + 132), .ref (b + 133), .int (nI op), .int (nI be.toNat), .int (nI fi), .int (nI la), .ref (b + 134), .ref (b + 135), .ref (b + 136), .int (nI wa), .ref (b + 137), .ref (b + 138), .ref (b + 139), .int (nI wc), .ref (b + 140), .int (nI kl), .ref (b + 141), .ref (b + 142), .ref (b + 143), .ref (b + 144), .ref (b + 145)])) (hlt1 : 137 < n) (hE1 : E 137 = wm_I C 49153 wb) (hlt2 : 138 < n) (hE2 : E 138 = wm_I C 49153 wl) (hlt3 : 139 < n) (hE3 : E 139 = wm_I C 49153 ws) (hwc : wc < 49153) : Met l yX7_word (wm_ws yX7_word cX7_word 4 (some .int)) { frames := 0, cells := 0, slots := 0, locals := 0 } (va_Pc [.ref (b + 119), .int (nI y), .int (nI a), .int (nI S)] (wm_G D C b n E)) (va_Qi (pX7_word C b E th sz fa pl ats aa op fi la wa wc kl be y a S wb wl ws) (fun E' t => wm_P D b n E' t.heap) (wm_A b)) 0 0 (wm_A b) := by
  refine wm_ofW (by decide) (Nat.le_of_ble_eq_true rfl) (fun p e s m below meth c ls R args Q hRe hQ X hr hnm hP hS hl => ?_)
  have hl : lv_has ls 4 [(0, .ref (b + 119)), (1, .int (nI y)), (2, .int (nI a)), (3, .int (nI S))] := hl
  have hfr : ∀ j, j ≠ 119 → j ≠ 137 → j ≠ 138 → j ≠ 139 → E j = E j := fun _ _ _ _ _ => rfl
  refine lv_aload_n X.1 X.2.1 dX7_word_0 rfl (lv_at hl 0 rfl) ?_
  refine wm_get X hP hlt0 hE0 rfl wm_inX7 28 (by decide) wq5_50 rfl dX7_word_1 ?_
  refine lv_aload_n X.1 X.2.1 dX7_word_4 rfl (lv_at hl 0 rfl) ?_
  refine wm_get X hP hlt0 hE0 rfl wm_inX7 31 (by decide) wq5_53 rfl dX7_word_5 ?_
  refine lv_iload_n X.1 X.2.1 dX7_word_8 rfl (lv_at hl 1 rfl) ?_
  refine wm_iast (i := wc) (x := y) X hP hS hlt1 hE1 (by omega) (by decide) dX7_word_9 (fun H locs E1 hP hS hE1 hq => ?_)
  have hE0 := (hq 119 (by decide)).trans hE0
  have hE2 := (hq 138 (by decide)).trans hE2
  have hE3 := (hq 139 (by decide)).trans hE3
  have hfr : ∀ j, j ≠ 119 → j ≠ 137 → j ≠ 138 → j ≠ 139 → E1 j = E j := fun j h0 h1 h2 h3 => (hq j h1).trans (hfr j h0 h1 h2 h3)
  refine lv_aload_n X.1 X.2.1 dX7_word_10 rfl (lv_at hl 0 rfl) ?_
  refine wm_get X hP hlt0 hE0 rfl wm_inX7 29 (by decide) wq5_51 rfl dX7_word_11 ?_
  refine lv_aload_n X.1 X.2.1 dX7_word_14 rfl (lv_at hl 0 rfl) ?_
  refine wm_get X hP hlt0 hE0 rfl wm_inX7 31 (by decide) wq5_53 rfl dX7_word_15 ?_
  refine lv_iload_n X.1 X.2.1 dX7_word_18 rfl (lv_at hl 2 rfl) ?_
  refine wm_iast (i := wc) (x := a) X hP hS hlt2 hE2 (by omega) (by decide) dX7_word_19 (fun H locs E2 hP hS hE2 hq => ?_)
  have hE0 := (hq 119 (by decide)).trans hE0
  have hE1 := (hq 137 (by decide)).trans hE1
  have hE3 := (hq 139 (by decide)).trans hE3
  have hfr : ∀ j, j ≠ 119 → j ≠ 137 → j ≠ 138 → j ≠ 139 → E2 j = E j := fun j h0 h1 h2 h3 => (hq j h2).trans (hfr j h0 h1 h2 h3)
  refine lv_aload_n X.1 X.2.1 dX7_word_20 rfl (lv_at hl 0 rfl) ?_
  refine wm_get X hP hlt0 hE0 rfl wm_inX7 30 (by decide) wq5_52 rfl dX7_word_21 ?_
  refine lv_aload_n X.1 X.2.1 dX7_word_24 rfl (lv_at hl 0 rfl) ?_
  refine wm_get X hP hlt0 hE0 rfl wm_inX7 31 (by decide) wq5_53 rfl dX7_word_25 ?_
  refine lv_iload_n X.1 X.2.1 dX7_word_28 rfl (lv_at hl 3 rfl) ?_
  refine wm_iast (i := wc) (x := S) X hP hS hlt3 hE3 (by omega) (by decide) dX7_word_29 (fun H locs E3 hP hS hE3 hq => ?_)
  have hE0 := (hq 119 (by decide)).trans hE0
  have hE1 := (hq 137 (by decide)).trans hE1
  have hE2 := (hq 138 (by decide)).trans hE2
  have hfr : ∀ j, j ≠ 119 → j ≠ 137 → j ≠ 138 → j ≠ 139 → E3 j = E j := fun j h0 h1 h2 h3 => (hq j h3).trans (hfr j h0 h1 h2 h3)
  refine lv_aload_n X.1 X.2.1 dX7_word_30 rfl (lv_at hl 0 rfl) ?_
  refine lv_dup X.1 X.2.1 dX7_word_31 rfl ?_
  refine wm_get X hP hlt0 hE0 rfl wm_inX7 31 (by decide) wq5_53 rfl dX7_word_32 ?_
  refine lv_iconst (v := nI 1) X.1 X.2.1 dX7_word_35 (by decide) ?_
  refine wm_iadd (x := wc) (y := 1) X dX7_word_36 ?_
  refine wm_put (v := .int (nI (wc + 1))) X hP hS hlt0 hE0 rfl wm_inX7 tyX7 tyX7_ok nmX7 31 (by decide) wq5_53 rfl rfl rfl (fs1 := [.int (nI th), .ref (b + 120), .int (nI sz), .int (nI fa), .int (nI pl), .ref (b + 121), .ref (b + 122), .ref (b + 123), .ref (b + 124), .ref (b + 125), .ref (b + 126), .ref (b + 127), .int (nI ats), .int (nI aa), .ref (b + 128), .ref (b + 129), .ref (b + 130), .ref (b + 131), .ref (b + 132), .ref (b + 133), .int (nI op), .int (nI be.toNat), .int (nI fi), .int (nI la), .ref (b + 134), .ref (b + 135), .ref (b + 136), .int (nI wa), .ref (b + 137), .ref (b + 138), .ref (b + 139), .int (nI (wc + 1)), .ref (b + 140), .int (nI kl), .ref (b + 141), .ref (b + 142), .ref (b + 143), .ref (b + 144), .ref (b + 145)]) rfl (Nat.le_of_ble_eq_true rfl) dX7_word_37 (fun H locs E4 hP hS hE0 hq => ?_)
  have hE1 := (hq 137 (by decide)).trans hE1
  have hE2 := (hq 138 (by decide)).trans hE2
  have hE3 := (hq 139 (by decide)).trans hE3
  have hfr : ∀ j, j ≠ 119 → j ≠ 137 → j ≠ 138 → j ≠ 139 → E4 j = E j := fun j h0 h1 h2 h3 => (hq j h0).trans (hfr j h0 h1 h2 h3)
  refine lv_aload_n X.1 X.2.1 dX7_word_40 rfl (lv_at hl 0 rfl) ?_
  refine wm_get X hP hlt0 hE0 rfl wm_inX7 31 (by decide) wq5_53 rfl dX7_word_41 ?_
  refine lv_iconst (v := nI 1) X.1 X.2.1 dX7_word_44 (by decide) ?_
  refine wm_isub (x := (wc + 1)) (y := 1) X (by omega) dX7_word_45 ?_
  exact wm_iret (post := pX7_word C b E th sz fa pl ats aa op fi la wa wc kl be y a S wb wl ws) X hr hP hS ⟨(by rw [Nat.add_sub_cancel]), hE0, hE1, hE2, hE3, hfr⟩ hQ dX7_word_46
def pX7_keep (C : Nat → ClassId) (b : Nat) (E : Nat → va_E) (th sz fa pl ats aa op fi la wa wc kl : Nat) (be : Bool) (w sc : Nat) (G : List wm_gp) (wb wl ws kp : Nat → Nat) : (Nat → va_E) → Prop := fun E' => ∃ (kp1 : Nat → Nat), E' 119 = .inr (7, [.int (nI th), .ref (b + 120), .int (nI sz), .int (nI fa), .int (nI pl), .ref (b + 121), .ref (b + 122), .ref (b + 123), .ref (b + 124), .ref (b + 125), .ref (b + 126), .ref (b + 127), .int (nI ats), .int (nI aa), .ref (b + 128), .ref (b + 129), .ref (b + 130), .ref (b + 131), .ref (b + 132), .ref (b + 133), .int (nI op), .int (nI be.toNat), .int (nI fi), .int (nI la), .ref (b + 134), .ref (b + 135), .ref (b + 136), .int (nI wa), .ref (b + 137), .ref (b + 138), .ref (b + 139), .int (nI wc), .ref (b + 140), .int (nI (wm_dp G w)), .ref (b + 141), .ref (b + 142), .ref (b + 143), .ref (b + 144), .ref (b + 145)]) ∧ E' 140 = wm_I C 49153 kp1 ∧ (∀ j, j ≠ 119 → j ≠ 140 → E' j = E j) ∧ (∀ t9, t9 < wm_dp G w → kp1 t9 = (G.getD (wm_upg G (wm_dp G w - 1 - t9) w) wm_g0).2.2.1)
set_option maxHeartbeats 4000000 in
set_option maxRecDepth 100000 in
theorem kX7_keep (l : Launch) (D : va_G) (C : Nat → ClassId) (b n : Nat) (E : Nat → va_E) (th sz fa pl ats aa op fi la wa wc kl : Nat) (be : Bool) (w sc : Nat) (G : List wm_gp) (wb wl ws kp : Nat → Nat) (hlt0 : 119 < n) (hE0 : E 119 = .inr (7, [.int (nI th), .ref (b + 120), .int (nI sz), .int (nI fa), .int (nI pl), .ref (b + 121), .ref (b + 122), .ref (b + 123), .ref (b + 124), .ref (b + 125), .ref (b + 126), .ref (b + 127), .int (nI ats), .int (nI aa), .ref (b + 128), .ref (b + 129), .ref (b + 130), .ref (b + 131), .ref (b + 132), .ref (b + 133), .int (nI op), .int (nI be.toNat), .int (nI fi), .int (nI la), .ref (b + 134), .ref (b + 135), .ref (b + 136), .int (nI wa), .ref (b + 137), .ref (b + 138), .ref (b + 139), .int (nI wc), .ref (b + 140), .int (nI kl), .ref (b + 141), .ref (b + 142), .ref (b + 143), .ref (b + 144), .ref (b + 145)])) (hlt1 : 137 < n) (hE1 : E 137 = wm_I C 49153 wb) (hlt2 : 138 < n) (hE2 : E 138 = wm_I C 49153 wl) (hlt3 : 140 < n) (hE3 : E 140 = wm_I C 49153 kp) (hsc : sc ≤ 2048) (hgg : wm_gg sc G) (hwr : wm_wr G wb wl ws) (hw1 : w < G.length) : Met l yX7_keep (wm_ws yX7_keep cX7_keep 4 none) { frames := 0, cells := 0, slots := 0, locals := 0 } (va_Pc [.ref (b + 119), .int (nI w)] (wm_G D C b n E)) (va_Qv (pX7_keep C b E th sz fa pl ats aa op fi la wa wc kl be w sc G wb wl ws kp) (fun E' t => wm_P D b n E' t.heap) (wm_A b)) 0 0 (wm_A b) := by
  refine wm_ofW (by decide) (Nat.le_of_ble_eq_true rfl) (fun p e s m below meth c ls R args Q hRe hQ X hr hnm hP hS hl => ?_)
  have hl : lv_has ls 4 [(0, .ref (b + 119)), (1, .int (nI w))] := hl
  have hfr : ∀ j, j ≠ 119 → j ≠ 140 → E j = E j := fun _ _ _ => rfl
  have hlen := wm_gg_len hgg hsc
  have hdl := wm_dep_le hgg w hw1
  refine lv_aload_n X.1 X.2.1 dX7_keep_0 rfl (lv_at hl 0 rfl) ?_
  refine lv_iconst (v := nI 0) X.1 X.2.1 dX7_keep_1 (by decide) ?_
  refine wm_put (v := .int (nI 0)) X hP hS hlt0 hE0 rfl wm_inX7 tyX7 tyX7_ok nmX7 33 (by decide) wq5_55 rfl rfl rfl (fs1 := [.int (nI th), .ref (b + 120), .int (nI sz), .int (nI fa), .int (nI pl), .ref (b + 121), .ref (b + 122), .ref (b + 123), .ref (b + 124), .ref (b + 125), .ref (b + 126), .ref (b + 127), .int (nI ats), .int (nI aa), .ref (b + 128), .ref (b + 129), .ref (b + 130), .ref (b + 131), .ref (b + 132), .ref (b + 133), .int (nI op), .int (nI be.toNat), .int (nI fi), .int (nI la), .ref (b + 134), .ref (b + 135), .ref (b + 136), .int (nI wa), .ref (b + 137), .ref (b + 138), .ref (b + 139), .int (nI wc), .ref (b + 140), .int (nI 0), .ref (b + 141), .ref (b + 142), .ref (b + 143), .ref (b + 144), .ref (b + 145)]) rfl (Nat.le_of_ble_eq_true rfl) dX7_keep_2 (fun H locs E1 hP hS hE0 hq => ?_)
  have hE1 := (hq 137 (by decide)).trans hE1
  have hE2 := (hq 138 (by decide)).trans hE2
  have hE3 := (hq 140 (by decide)).trans hE3
  have hfr : ∀ j, j ≠ 119 → j ≠ 140 → E1 j = E j := fun j h0 h1 => (hq j h0).trans (hfr j h0 h1)
  refine lv_iload_n X.1 X.2.1 dX7_keep_5 rfl (lv_at hl 1 rfl) ?_
  refine lv_istore_n (lv' := [(2, .int (nI w)), (0, .ref (b + 119)), (1, .int (nI w))]) X.1 X.2.1 dX7_keep_6 rfl hl (by decide) rfl (fun ls hl => ?_)
  have L7 : ∀ (fu : Nat) (k : Nat) (x : Nat), x < fu → (x ≤ w) → (k + x ≤ w) → (k + wm_dp G x = wm_dp G w) → ∀ (E2 : Nat → va_E) (H : Heap) (locs : List Loc) (ls : Array Slot), wm_P D b n E2 H → wm_S b s.heap H locs → E2 119 = .inr (7, [.int (nI th), .ref (b + 120), .int (nI sz), .int (nI fa), .int (nI pl), .ref (b + 121), .ref (b + 122), .ref (b + 123), .ref (b + 124), .ref (b + 125), .ref (b + 126), .ref (b + 127), .int (nI ats), .int (nI aa), .ref (b + 128), .ref (b + 129), .ref (b + 130), .ref (b + 131), .ref (b + 132), .ref (b + 133), .int (nI op), .int (nI be.toNat), .int (nI fi), .int (nI la), .ref (b + 134), .ref (b + 135), .ref (b + 136), .int (nI wa), .ref (b + 137), .ref (b + 138), .ref (b + 139), .int (nI wc), .ref (b + 140), .int (nI k), .ref (b + 141), .ref (b + 142), .ref (b + 143), .ref (b + 144), .ref (b + 145)]) → E2 137 = wm_I C 49153 wb → E2 138 = wm_I C 49153 wl → E2 140 = wm_I C 49153 kp → (∀ j, j ≠ 119 → j ≠ 140 → E2 j = E j) → lv_has ls 4 [(0, .ref (b + 119)), (1, .int (nI w)), (2, .int (nI x))] → W p l e R s m args below meth c H locs 0 0 Q (F0 m 7 ls []) := by
    intro fu
    induction fu with
    | zero => intro k x hm; exact absurd hm (Nat.not_lt_zero _)
    | succ fu ih7 =>
      intro k x hm hxw hkx hkd E2 H locs ls hP hS hE0 hE1 hE2 hE3 hfr hl
      refine lv_iload_n X.1 X.2.1 dX7_keep_7 rfl (lv_at hl 2 rfl) ?_
      refine wm_if_le (x := x) (tgt := 31) X (by omega) dX7_keep_8 (by decide) (fun hc8 => ?_) (fun hc8 => ?_)
      · have hx0 : x = 0 := hc8
        rw [hx0, wm_dp_0, Nat.add_zero] at hkd
        rw [hkd] at hE0
        refine lv_aload_n X.1 X.2.1 dX7_keep_31 rfl (lv_at hl 0 rfl) ?_
        refine wm_get X hP hlt0 hE0 rfl wm_inX7 33 (by decide) wq5_55 rfl dX7_keep_32 ?_
        refine lv_istore_n (lv' := [(2, .int (nI (wm_dp G w))), (0, .ref (b + 119)), (1, .int (nI w))]) X.1 X.2.1 dX7_keep_35 rfl hl (by decide) rfl (fun ls hl => ?_)
        refine lv_iload_n X.1 X.2.1 dX7_keep_36 rfl (lv_at hl 2 rfl) ?_
        refine lv_istore_n (lv' := [(3, .int (nI w)), (2, .int (nI (wm_dp G w))), (0, .ref (b + 119)), (1, .int (nI w))]) X.1 X.2.1 dX7_keep_37 rfl hl (by decide) rfl (fun ls hl => ?_)
        have L38 : ∀ (fu : Nat) (t1 : Nat) (x : Nat) (kp1 : Nat → Nat), x < fu → (x ≤ w) → (t1 = wm_dp G x) → (t1 ≤ wm_dp G w) → (x = wm_upg G (wm_dp G w - t1) w) → (∀ t9, t1 ≤ t9 → t9 < wm_dp G w → kp1 t9 = (G.getD (wm_upg G (wm_dp G w - 1 - t9) w) wm_g0).2.2.1) → ∀ (E4 : Nat → va_E) (H : Heap) (locs : List Loc) (ls : Array Slot), wm_P D b n E4 H → wm_S b s.heap H locs → E4 119 = .inr (7, [.int (nI th), .ref (b + 120), .int (nI sz), .int (nI fa), .int (nI pl), .ref (b + 121), .ref (b + 122), .ref (b + 123), .ref (b + 124), .ref (b + 125), .ref (b + 126), .ref (b + 127), .int (nI ats), .int (nI aa), .ref (b + 128), .ref (b + 129), .ref (b + 130), .ref (b + 131), .ref (b + 132), .ref (b + 133), .int (nI op), .int (nI be.toNat), .int (nI fi), .int (nI la), .ref (b + 134), .ref (b + 135), .ref (b + 136), .int (nI wa), .ref (b + 137), .ref (b + 138), .ref (b + 139), .int (nI wc), .ref (b + 140), .int (nI (wm_dp G w)), .ref (b + 141), .ref (b + 142), .ref (b + 143), .ref (b + 144), .ref (b + 145)]) → E4 137 = wm_I C 49153 wb → E4 138 = wm_I C 49153 wl → E4 140 = wm_I C 49153 kp1 → (∀ j, j ≠ 119 → j ≠ 140 → E4 j = E j) → lv_has ls 4 [(0, .ref (b + 119)), (1, .int (nI w)), (2, .int (nI t1)), (3, .int (nI x))] → W p l e R s m args below meth c H locs 0 0 Q (F0 m 38 ls []) := by
          intro fu
          induction fu with
          | zero => intro t1 x kp1 hm; exact absurd hm (Nat.not_lt_zero _)
          | succ fu ih38 =>
            intro t1 x kp1 hm hxw htx htw hxu hkp E4 H locs ls hP hS hE0 hE1 hE2 hE3 hfr hl
            refine lv_iload_n X.1 X.2.1 dX7_keep_38 rfl (lv_at hl 3 rfl) ?_
            refine wm_if_le (x := x) (tgt := 67) X (by omega) dX7_keep_39 (by decide) (fun hc39 => ?_) (fun hc39 => ?_)
            · have ht0 : t1 = 0 := by rw [htx, hc39]; rfl
              exact wm_vret (post := pX7_keep C b E th sz fa pl ats aa op fi la wa wc kl be w sc G wb wl ws kp) X hr hP hS ⟨kp1, hE0, hE3, hfr, (fun t9 h9 => hkp t9 (by omega) h9)⟩ hQ dX7_keep_67
            · have hds := wm_dep_s hgg (show x < G.length by omega) hc39
              refine lv_iinc (v := nI (t1 - 1)) (lv' := [(2, .int (nI (t1 - 1))), (0, .ref (b + 119)), (1, .int (nI w)), (3, .int (nI x))]) X.1 X.2.1 dX7_keep_42 hl (k := 2) rfl (sb_m1 (by omega)) (by decide) rfl (fun ls hl => ?_)
              refine lv_aload_n X.1 X.2.1 dX7_keep_45 rfl (lv_at hl 1 rfl) ?_
              refine wm_get X hP hlt0 hE0 rfl wm_inX7 32 (by decide) wq5_54 rfl dX7_keep_46 ?_
              refine lv_iload_n X.1 X.2.1 dX7_keep_49 rfl (lv_at hl 0 rfl) ?_
              refine lv_aload_n X.1 X.2.1 dX7_keep_50 rfl (lv_at hl 1 rfl) ?_
              refine wm_get X hP hlt0 hE0 rfl wm_inX7 29 (by decide) wq5_51 rfl dX7_keep_51 ?_
              refine lv_iload_n X.1 X.2.1 dX7_keep_54 rfl (lv_at hl 3 rfl) ?_
              refine wm_iald (i := x) X hP hlt2 hE2 (by omega) (by decide) dX7_keep_55 ?_
              rw [show wl x = (G.getD x wm_g0).2.2.1 from (hwr x (by omega)).2.1 hc39]
              refine wm_iast (i := (t1 - 1)) (x := ((G.getD x wm_g0).2.2.1)) X hP hS hlt3 hE3 (by omega) (by decide) dX7_keep_56 (fun H locs E6 hP hS hE3 hq => ?_)
              have hE0 := (hq 119 (by decide)).trans hE0
              have hE1 := (hq 137 (by decide)).trans hE1
              have hE2 := (hq 138 (by decide)).trans hE2
              have hfr : ∀ j, j ≠ 119 → j ≠ 140 → E6 j = E j := fun j h0 h1 => (hq j h1).trans (hfr j h0 h1)
              refine lv_aload_n X.1 X.2.1 dX7_keep_57 rfl (lv_at hl 1 rfl) ?_
              refine wm_get X hP hlt0 hE0 rfl wm_inX7 28 (by decide) wq5_50 rfl dX7_keep_58 ?_
              refine lv_iload_n X.1 X.2.1 dX7_keep_61 rfl (lv_at hl 3 rfl) ?_
              refine wm_iald (i := x) X hP hlt1 hE1 (by omega) (by decide) dX7_keep_62 ?_
              rw [show wb x = (G.getD x wm_g0).2.2.2 from (hwr x (by omega)).1 hc39]
              refine lv_istore_n (lv' := [(3, .int (nI ((G.getD x wm_g0).2.2.2))), (2, .int (nI (t1 - 1))), (0, .ref (b + 119)), (1, .int (nI w))]) X.1 X.2.1 dX7_keep_63 rfl hl (by decide) rfl (fun ls hl => ?_)
              refine lv_goto (tgt := 38) X.1 X.2.1 dX7_keep_64 (by decide) ?_
              exact ih38 (t1 - 1) ((G.getD x wm_g0).2.2.2) (va_up kp1 (t1 - 1) ((G.getD x wm_g0).2.2.1)) (by omega) (by omega) (by omega) (by omega) (by rw [show wm_dp G w - (t1 - 1) = wm_dp G w - t1 + 1 by omega]; show _ = (G.getD (wm_upg G (wm_dp G w - t1) w) wm_g0).2.2.2; rw [← hxu]) (wm_kp1 hkp (by omega) (by rw [show wm_dp G w - 1 - (t1 - 1) = wm_dp G w - t1 by omega, ← hxu])) E6 _ _ _ hP hS hE0 hE1 hE2 hE3 hfr (lv_sub hl [2, 3, 1, 0] rfl)
        exact L38 (w + 1) (wm_dp G w) w kp (Nat.lt_succ_self _) (by omega) rfl (Nat.le_refl _) (by rw [Nat.sub_self]; rfl) (fun t9 h1 h2 => absurd h1 (by omega)) E2 _ _ _ hP hS hE0 hE1 hE2 hE3 hfr (lv_sub hl [2, 3, 1, 0] rfl)
      · refine lv_aload_n X.1 X.2.1 dX7_keep_11 rfl (lv_at hl 0 rfl) ?_
        refine lv_dup X.1 X.2.1 dX7_keep_12 rfl ?_
        refine wm_get X hP hlt0 hE0 rfl wm_inX7 33 (by decide) wq5_55 rfl dX7_keep_13 ?_
        refine lv_iconst (v := nI 1) X.1 X.2.1 dX7_keep_16 (by decide) ?_
        refine wm_iadd (x := k) (y := 1) X dX7_keep_17 ?_
        refine wm_put (v := .int (nI (k + 1))) X hP hS hlt0 hE0 rfl wm_inX7 tyX7 tyX7_ok nmX7 33 (by decide) wq5_55 rfl rfl rfl (fs1 := [.int (nI th), .ref (b + 120), .int (nI sz), .int (nI fa), .int (nI pl), .ref (b + 121), .ref (b + 122), .ref (b + 123), .ref (b + 124), .ref (b + 125), .ref (b + 126), .ref (b + 127), .int (nI ats), .int (nI aa), .ref (b + 128), .ref (b + 129), .ref (b + 130), .ref (b + 131), .ref (b + 132), .ref (b + 133), .int (nI op), .int (nI be.toNat), .int (nI fi), .int (nI la), .ref (b + 134), .ref (b + 135), .ref (b + 136), .int (nI wa), .ref (b + 137), .ref (b + 138), .ref (b + 139), .int (nI wc), .ref (b + 140), .int (nI (k + 1)), .ref (b + 141), .ref (b + 142), .ref (b + 143), .ref (b + 144), .ref (b + 145)]) rfl (Nat.le_of_ble_eq_true rfl) dX7_keep_18 (fun H locs E7 hP hS hE0 hq => ?_)
        have hE1 := (hq 137 (by decide)).trans hE1
        have hE2 := (hq 138 (by decide)).trans hE2
        have hE3 := (hq 140 (by decide)).trans hE3
        have hfr : ∀ j, j ≠ 119 → j ≠ 140 → E7 j = E j := fun j h0 h1 => (hq j h0).trans (hfr j h0 h1)
        refine lv_aload_n X.1 X.2.1 dX7_keep_21 rfl (lv_at hl 0 rfl) ?_
        have hds := wm_dep_s hgg (show x < G.length by omega) hc8
        refine wm_get X hP hlt0 hE0 rfl wm_inX7 28 (by decide) wq5_50 rfl dX7_keep_22 ?_
        refine lv_iload_n X.1 X.2.1 dX7_keep_25 rfl (lv_at hl 2 rfl) ?_
        refine wm_iald (i := x) X hP hlt1 hE1 (by omega) (by decide) dX7_keep_26 ?_
        rw [show wb x = (G.getD x wm_g0).2.2.2 from (hwr x (by omega)).1 hc8]
        refine lv_istore_n (lv' := [(2, .int (nI ((G.getD x wm_g0).2.2.2))), (0, .ref (b + 119)), (1, .int (nI w))]) X.1 X.2.1 dX7_keep_27 rfl hl (by decide) rfl (fun ls hl => ?_)
        refine lv_goto (tgt := 7) X.1 X.2.1 dX7_keep_28 (by decide) ?_
        exact ih7 (k + 1) ((G.getD x wm_g0).2.2.2) (by omega) (by omega) (by omega) (by omega) E7 _ _ _ hP hS hE0 hE1 hE2 hE3 hfr (lv_sub hl [1, 2, 0] rfl)
  exact L7 (w + 1) 0 w (Nat.lt_succ_self _) (by omega) (by omega) (Nat.zero_add _) E1 _ _ _ hP hS hE0 hE1 hE2 hE3 hfr (lv_sub hl [1, 2, 0] rfl)
def pX7_comes (C : Nat → ClassId) (b : Nat) (E : Nat → va_E) (th sz fa pl ats aa op fi la wa wc kl : Nat) (be : Bool) (i jj sm w T : Nat) (G : List wm_gp) (Q9 : List (Nat × Nat)) (qs qw ws ss se : Nat → Nat) (sn : Nat → Bool) : Int32 → (Nat → va_E) → Prop := fun r E' => ∃ (qs1 : Nat → Nat) (qw1 : Nat → Nat) (sn1 : Nat → Bool), r = nI (decide (sm &&& se i ≠ 0 ∧ T &&& se jj = 0)).toNat ∧ E' 119 = .inr (7, [.int (nI th), .ref (b + 120), .int (nI sz), .int (nI fa), .int (nI pl), .ref (b + 121), .ref (b + 122), .ref (b + 123), .ref (b + 124), .ref (b + 125), .ref (b + 126), .ref (b + 127), .int (nI ats), .int (nI aa), .ref (b + 128), .ref (b + 129), .ref (b + 130), .ref (b + 131), .ref (b + 132), .ref (b + 133), .int (nI op), .int (nI be.toNat), .int (nI fi), .int (nI la), .ref (b + 134), .ref (b + 135), .ref (b + 136), .int (nI ((Q9 ++ (wm_bk (ss i) (wm_new G sm T)).map (fun x9 => (x9, w))).length)), .ref (b + 137), .ref (b + 138), .ref (b + 139), .int (nI wc), .ref (b + 140), .int (nI kl), .ref (b + 141), .ref (b + 142), .ref (b + 143), .ref (b + 144), .ref (b + 145)]) ∧ E' 134 = wm_I C 49152 qs1 ∧ E' 135 = wm_I C 49152 qw1 ∧ E' 136 = wm_Z C 49152 sn1 ∧ (∀ j, j ≠ 119 → j ≠ 134 → j ≠ 135 → j ≠ 136 → E' j = E j) ∧ wm_qr (Q9 ++ (wm_bk (ss i) (wm_new G sm T)).map (fun x9 => (x9, w))) qs1 qw1 ∧ wm_sp G (wm_new G sm T) T (ss i) sn1
set_option maxHeartbeats 4000000 in
set_option maxRecDepth 100000 in
theorem kX7_comes (l : Launch) (D : va_G) (C : Nat → ClassId) (b n : Nat) (E : Nat → va_E) (th sz fa pl ats aa op fi la wa wc kl : Nat) (be : Bool) (i jj sm w T : Nat) (G : List wm_gp) (Q9 : List (Nat × Nat)) (qs qw ws ss se : Nat → Nat) (sn : Nat → Bool) (hlt0 : 119 < n) (hE0 : E 119 = .inr (7, [.int (nI th), .ref (b + 120), .int (nI sz), .int (nI fa), .int (nI pl), .ref (b + 121), .ref (b + 122), .ref (b + 123), .ref (b + 124), .ref (b + 125), .ref (b + 126), .ref (b + 127), .int (nI ats), .int (nI aa), .ref (b + 128), .ref (b + 129), .ref (b + 130), .ref (b + 131), .ref (b + 132), .ref (b + 133), .int (nI op), .int (nI be.toNat), .int (nI fi), .int (nI la), .ref (b + 134), .ref (b + 135), .ref (b + 136), .int (nI wa), .ref (b + 137), .ref (b + 138), .ref (b + 139), .int (nI wc), .ref (b + 140), .int (nI kl), .ref (b + 141), .ref (b + 142), .ref (b + 143), .ref (b + 144), .ref (b + 145)])) (hlt1 : 122 < n) (hE1 : E 122 = wm_I C 8 ss) (hlt2 : 124 < n) (hE2 : E 124 = wm_I C 8 se) (hlt3 : 134 < n) (hE3 : E 134 = wm_I C 49152 qs) (hlt4 : 135 < n) (hE4 : E 135 = wm_I C 49152 qw) (hlt5 : 136 < n) (hE5 : E 136 = wm_Z C 49152 sn) (hlt6 : 139 < n) (hE6 : E 139 = wm_I C 49153 ws) (hii : i < 8) (hjj : jj < 8) (hsi : ss i ≤ 24) (hsm : sm < 2 ^ 24) (hT : T < 2048) (hwT : ws w = T) (hw : w < 49153) (hqr : wm_qr Q9 qs qw) (hsn : wm_sn G sn) (hse : se jj < 2 ^ 31) (hei : se i < 2 ^ 31) (hcap : (Q9 ++ (wm_bk (ss i) (wm_new G sm T)).map (fun x9 => (x9, w))).length ≤ 49152) (hwa : wa = Q9.length) : Met l yX7_comes (wm_ws yX7_comes cX7_comes 7 (some .boolean)) { frames := 0, cells := 0, slots := 0, locals := 0 } (va_Pc [.ref (b + 119), .int (nI i), .int (nI jj), .int (nI sm), .int (nI w)] (wm_G D C b n E)) (va_Qi (pX7_comes C b E th sz fa pl ats aa op fi la wa wc kl be i jj sm w T G Q9 qs qw ws ss se sn) (fun E' t => wm_P D b n E' t.heap) (wm_A b)) 0 0 (wm_A b) := by
  refine wm_ofW (by decide) (Nat.le_of_ble_eq_true rfl) (fun p e s m below meth c ls R args Q hRe hQ X hr hnm hP hS hl => ?_)
  have hl : lv_has ls 7 [(0, .ref (b + 119)), (1, .int (nI i)), (2, .int (nI jj)), (3, .int (nI sm)), (4, .int (nI w))] := hl
  have hfr : ∀ j, j ≠ 119 → j ≠ 134 → j ≠ 135 → j ≠ 136 → E j = E j := fun _ _ _ _ _ => rfl
  refine lv_aload_n X.1 X.2.1 dX7_comes_0 rfl (lv_at hl 0 rfl) ?_
  refine wm_get X hP hlt0 hE0 rfl wm_inX7 30 (by decide) wq5_52 rfl dX7_comes_1 ?_
  refine lv_iload X.1 X.2.1 dX7_comes_4 (lv_at hl 4 rfl) ?_
  refine wm_iald (i := w) X hP hlt6 hE6 (by omega) (by decide) dX7_comes_6 ?_
  rw [show ws w = T from hwT]
  refine lv_istore (lv' := [(5, .int (nI T)), (0, .ref (b + 119)), (1, .int (nI i)), (2, .int (nI jj)), (3, .int (nI sm)), (4, .int (nI w))]) X.1 X.2.1 dX7_comes_7 hl (by decide) rfl (fun ls hl => ?_)
  have hE0 : E 119 = .inr (7, [.int (nI th), .ref (b + 120), .int (nI sz), .int (nI fa), .int (nI pl), .ref (b + 121), .ref (b + 122), .ref (b + 123), .ref (b + 124), .ref (b + 125), .ref (b + 126), .ref (b + 127), .int (nI ats), .int (nI aa), .ref (b + 128), .ref (b + 129), .ref (b + 130), .ref (b + 131), .ref (b + 132), .ref (b + 133), .int (nI op), .int (nI be.toNat), .int (nI fi), .int (nI la), .ref (b + 134), .ref (b + 135), .ref (b + 136), .int (nI ((Q9 ++ (wm_bk 0 (wm_new G sm T)).map (fun x9 => (x9, w))).length)), .ref (b + 137), .ref (b + 138), .ref (b + 139), .int (nI wc), .ref (b + 140), .int (nI kl), .ref (b + 141), .ref (b + 142), .ref (b + 143), .ref (b + 144), .ref (b + 145)]) := by rw [hE0, hwa]; simp [wm_bk]
  refine lv_iconst (v := nI 0) X.1 X.2.1 dX7_comes_9 (by decide) ?_
  refine lv_istore (lv' := [(6, .int (nI 0)), (5, .int (nI T)), (0, .ref (b + 119)), (1, .int (nI i)), (2, .int (nI jj)), (3, .int (nI sm)), (4, .int (nI w))]) X.1 X.2.1 dX7_comes_10 hl (by decide) rfl (fun ls hl => ?_)
  have L12 : ∀ (fu : Nat) (s1 : Nat) (qs1 : Nat → Nat) (qw1 : Nat → Nat) (sn1 : Nat → Bool), 24 - s1 < fu → (s1 ≤ ss i) → (wm_qr (Q9 ++ (wm_bk s1 (wm_new G sm T)).map (fun x9 => (x9, w))) qs1 qw1) → (wm_sp G (wm_new G sm T) T s1 sn1) → ∀ (E1 : Nat → va_E) (H : Heap) (locs : List Loc) (ls : Array Slot), wm_P D b n E1 H → wm_S b s.heap H locs → E1 119 = .inr (7, [.int (nI th), .ref (b + 120), .int (nI sz), .int (nI fa), .int (nI pl), .ref (b + 121), .ref (b + 122), .ref (b + 123), .ref (b + 124), .ref (b + 125), .ref (b + 126), .ref (b + 127), .int (nI ats), .int (nI aa), .ref (b + 128), .ref (b + 129), .ref (b + 130), .ref (b + 131), .ref (b + 132), .ref (b + 133), .int (nI op), .int (nI be.toNat), .int (nI fi), .int (nI la), .ref (b + 134), .ref (b + 135), .ref (b + 136), .int (nI ((Q9 ++ (wm_bk s1 (wm_new G sm T)).map (fun x9 => (x9, w))).length)), .ref (b + 137), .ref (b + 138), .ref (b + 139), .int (nI wc), .ref (b + 140), .int (nI kl), .ref (b + 141), .ref (b + 142), .ref (b + 143), .ref (b + 144), .ref (b + 145)]) → E1 122 = wm_I C 8 ss → E1 124 = wm_I C 8 se → E1 134 = wm_I C 49152 qs1 → E1 135 = wm_I C 49152 qw1 → E1 136 = wm_Z C 49152 sn1 → E1 139 = wm_I C 49153 ws → (∀ j, j ≠ 119 → j ≠ 134 → j ≠ 135 → j ≠ 136 → E1 j = E j) → lv_has ls 7 [(0, .ref (b + 119)), (1, .int (nI i)), (2, .int (nI jj)), (3, .int (nI sm)), (4, .int (nI w)), (5, .int (nI T)), (6, .int (nI s1))] → W p l e R s m args below meth c H locs 0 0 Q (F0 m 12 ls []) := by
    intro fu
    induction fu with
    | zero => intro s1 qs1 qw1 sn1 hm; exact absurd hm (Nat.not_lt_zero _)
    | succ fu ih12 =>
      intro s1 qs1 qw1 sn1 hm hs1 hqr1 hsp1 E1 H locs ls hP hS hE0 hE1 hE2 hE3 hE4 hE5 hE6 hfr hl
      refine lv_iload X.1 X.2.1 dX7_comes_12 (lv_at hl 6 rfl) ?_
      refine lv_aload_n X.1 X.2.1 dX7_comes_14 rfl (lv_at hl 0 rfl) ?_
      refine wm_get X hP hlt0 hE0 rfl wm_inX7 6 (by decide) wq5_28 rfl dX7_comes_15 ?_
      refine lv_iload_n X.1 X.2.1 dX7_comes_18 rfl (lv_at hl 1 rfl) ?_
      refine wm_iald (i := i) X hP hlt1 hE1 (by omega) (by decide) dX7_comes_19 ?_
      refine wm_icmp_ge (x := s1) (y := (ss i)) (tgt := 103) X (by omega) (by omega) dX7_comes_20 (by decide) (fun hc20 => ?_) (fun hc20 => ?_)
      · refine lv_iload_n X.1 X.2.1 dX7_comes_103 rfl (lv_at hl 3 rfl) ?_
        refine lv_aload_n X.1 X.2.1 dX7_comes_104 rfl (lv_at hl 0 rfl) ?_
        refine wm_get X hP hlt0 hE0 rfl wm_inX7 8 (by decide) wq5_30 rfl dX7_comes_105 ?_
        refine lv_iload_n X.1 X.2.1 dX7_comes_108 rfl (lv_at hl 1 rfl) ?_
        refine wm_iald (i := i) X hP hlt2 hE2 (by omega) (by decide) dX7_comes_109 ?_
        refine wm_iand (x := sm) (y := (se i)) X dX7_comes_110 ?_
        refine wm_if_eq (x := (sm &&& (se i))) (tgt := 130) X (Nat.lt_of_le_of_lt Nat.and_le_right (Nat.lt_trans hei (by decide))) dX7_comes_111 (by decide) (fun hc111 => ?_) (fun hc111 => ?_)
        · refine lv_iconst (v := nI 0) X.1 X.2.1 dX7_comes_130 (by decide) ?_
          have hsi9 : s1 = ss i := by omega
          rw [hsi9] at hqr1 hsp1
          exact wm_zret (v := false) (post := pX7_comes C b E th sz fa pl ats aa op fi la wa wc kl be i jj sm w T G Q9 qs qw ws ss se sn) X hr hP hS ⟨qs1, qw1, sn1, (by rw [decide_eq_false (fun q => q.1 hc111)]), (by rw [hsi9] at hE0; exact hE0), hE3, hE4, hE5, hfr, hqr1, hsp1⟩ hQ dX7_comes_131
        · refine lv_iload X.1 X.2.1 dX7_comes_114 (lv_at hl 5 rfl) ?_
          refine lv_aload_n X.1 X.2.1 dX7_comes_116 rfl (lv_at hl 0 rfl) ?_
          refine wm_get X hP hlt0 hE0 rfl wm_inX7 8 (by decide) wq5_30 rfl dX7_comes_117 ?_
          refine lv_iload_n X.1 X.2.1 dX7_comes_120 rfl (lv_at hl 2 rfl) ?_
          refine wm_iald (i := jj) X hP hlt2 hE2 (by omega) (by decide) dX7_comes_121 ?_
          refine wm_iand (x := T) (y := (se jj)) X dX7_comes_122 ?_
          refine wm_if_ne (x := (T &&& (se jj))) (tgt := 130) X (Nat.lt_of_le_of_lt Nat.and_le_right (Nat.lt_trans hse (by decide))) dX7_comes_123 (by decide) (fun hc123 => ?_) (fun hc123 => ?_)
          · refine lv_iconst (v := nI 0) X.1 X.2.1 dX7_comes_130 (by decide) ?_
            have hsi9 : s1 = ss i := by omega
            rw [hsi9] at hqr1 hsp1
            exact wm_zret (v := false) (post := pX7_comes C b E th sz fa pl ats aa op fi la wa wc kl be i jj sm w T G Q9 qs qw ws ss se sn) X hr hP hS ⟨qs1, qw1, sn1, (by rw [decide_eq_false (fun q => hc123 q.2)]), (by rw [hsi9] at hE0; exact hE0), hE3, hE4, hE5, hfr, hqr1, hsp1⟩ hQ dX7_comes_131
          · refine lv_iconst (v := nI 1) X.1 X.2.1 dX7_comes_126 (by decide) ?_
            refine lv_goto (tgt := 131) X.1 X.2.1 dX7_comes_127 (by decide) ?_
            have hsi9 : s1 = ss i := by omega
            rw [hsi9] at hqr1 hsp1
            exact wm_zret (v := true) (post := pX7_comes C b E th sz fa pl ats aa op fi la wa wc kl be i jj sm w T G Q9 qs qw ws ss se sn) X hr hP hS ⟨qs1, qw1, sn1, (by rw [decide_eq_true ⟨hc111, hc123⟩]), (by rw [hsi9] at hE0; exact hE0), hE3, hE4, hE5, hfr, hqr1, hsp1⟩ hQ dX7_comes_131
      · refine lv_iload_n X.1 X.2.1 dX7_comes_23 rfl (lv_at hl 3 rfl) ?_
        refine lv_iload X.1 X.2.1 dX7_comes_24 (lv_at hl 6 rfl) ?_
        refine wm_ishr (x := sm) (y := s1) X (by omega) (by omega) dX7_comes_26 ?_
        refine lv_iconst (v := nI 1) X.1 X.2.1 dX7_comes_27 (by decide) ?_
        refine wm_iand (x := (sm >>> s1)) (y := 1) X dX7_comes_28 ?_
        refine lv_iconst (v := nI 1) X.1 X.2.1 dX7_comes_29 (by decide) ?_
        refine wm_icmp_ne (x := ((sm >>> s1) &&& 1)) (y := 1) (tgt := 97) X (Nat.lt_trans (wm_and1_lt _) (by decide)) (by decide) dX7_comes_30 (by decide) (fun hc30 => ?_) (fun hc30 => ?_)
        · refine lv_iinc (v := nI (s1 + 1)) (lv' := [(6, .int (nI (s1 + 1))), (0, .ref (b + 119)), (1, .int (nI i)), (2, .int (nI jj)), (3, .int (nI sm)), (4, .int (nI w)), (5, .int (nI T))]) X.1 X.2.1 dX7_comes_97 hl (k := 6) rfl (wm_inc s1) (by decide) rfl (fun ls hl => ?_)
          refine lv_goto (tgt := 12) X.1 X.2.1 dX7_comes_100 (by decide) ?_
          have hNf : (wm_new G sm T).testBit s1 = false := by rw [wm_new_tb (by omega), wm_sh0 hc30]; rfl
          have hbe : wm_bk (s1 + 1) (wm_new G sm T) = wm_bk s1 (wm_new G sm T) := by rw [wm_bk_s, hNf]; simp
          rw [← hbe] at hE0
          exact ih12 (s1 + 1) qs1 qw1 sn1 (by omega) (by omega) (by rw [wm_bk_s, hNf]; simpa using hqr1) (wm_spf hsp1 hNf) E1 _ _ _ hP hS hE0 hE1 hE2 hE3 hE4 hE5 hE6 hfr (lv_sub hl [1, 2, 3, 4, 5, 6, 0] rfl)
        · have hsee : sn1 (2048 * s1 + T) = (wm_mw G T).testBit s1 := by rw [hsp1 s1 T (by omega) hT, decide_eq_false (by omega)]; simp
          refine lv_aload_n X.1 X.2.1 dX7_comes_33 rfl (lv_at hl 0 rfl) ?_
          refine wm_get X hP hlt0 hE0 rfl wm_inX7 26 (by decide) wq5_48 rfl dX7_comes_34 ?_
          refine lv_sipush (v := nI 2048) X.1 X.2.1 dX7_comes_37 (by decide) ?_
          refine lv_iload X.1 X.2.1 dX7_comes_40 (lv_at hl 6 rfl) ?_
          refine wm_imul (x := 2048) (y := s1) X dX7_comes_42 ?_
          refine lv_iload X.1 X.2.1 dX7_comes_43 (lv_at hl 5 rfl) ?_
          refine wm_iadd (x := (2048 * s1)) (y := T) X dX7_comes_45 ?_
          refine wm_zald (i := ((2048 * s1) + T)) X hP hlt5 hE5 (by omega) (by decide) dX7_comes_46 ?_
          refine wm_ifz_ne (x := (sn1 ((2048 * s1) + T))) (tgt := 97) X dX7_comes_47 (by decide) (fun hc47 => ?_) (fun hc47 => ?_)
          · refine lv_iinc (v := nI (s1 + 1)) (lv' := [(6, .int (nI (s1 + 1))), (0, .ref (b + 119)), (1, .int (nI i)), (2, .int (nI jj)), (3, .int (nI sm)), (4, .int (nI w)), (5, .int (nI T))]) X.1 X.2.1 dX7_comes_97 hl (k := 6) rfl (wm_inc s1) (by decide) rfl (fun ls hl => ?_)
            refine lv_goto (tgt := 12) X.1 X.2.1 dX7_comes_100 (by decide) ?_
            rw [hsee] at hc47
            have hNf : (wm_new G sm T).testBit s1 = false := by rw [wm_new_tb (by omega), hc47]; simp
            have hbe : wm_bk (s1 + 1) (wm_new G sm T) = wm_bk s1 (wm_new G sm T) := by rw [wm_bk_s, hNf]; simp
            rw [← hbe] at hE0
            exact ih12 (s1 + 1) qs1 qw1 sn1 (by omega) (by omega) (by rw [wm_bk_s, hNf]; simpa using hqr1) (wm_spf hsp1 hNf) E1 _ _ _ hP hS hE0 hE1 hE2 hE3 hE4 hE5 hE6 hfr (lv_sub hl [1, 2, 3, 4, 5, 6, 0] rfl)
          · have hNt : (wm_new G sm T).testBit s1 = true := by rw [wm_new_tb (by omega), wm_sh1 hc30, ← hsee, hc47]; rfl
            have hbe : (Q9 ++ (wm_bk (s1 + 1) (wm_new G sm T)).map (fun x9 => (x9, w))) = (Q9 ++ (wm_bk s1 (wm_new G sm T)).map (fun x9 => (x9, w))) ++ [(s1, w)] := by rw [wm_bk_s, hNt]; simp
            have hcp : (Q9 ++ (wm_bk s1 (wm_new G sm T)).map (fun x9 => (x9, w))).length < 49152 := wm_bk_cap hcap hNt hc20
            refine lv_aload_n X.1 X.2.1 dX7_comes_50 rfl (lv_at hl 0 rfl) ?_
            refine wm_get X hP hlt0 hE0 rfl wm_inX7 26 (by decide) wq5_48 rfl dX7_comes_51 ?_
            refine lv_sipush (v := nI 2048) X.1 X.2.1 dX7_comes_54 (by decide) ?_
            refine lv_iload X.1 X.2.1 dX7_comes_57 (lv_at hl 6 rfl) ?_
            refine wm_imul (x := 2048) (y := s1) X dX7_comes_59 ?_
            refine lv_iload X.1 X.2.1 dX7_comes_60 (lv_at hl 5 rfl) ?_
            refine wm_iadd (x := (2048 * s1)) (y := T) X dX7_comes_62 ?_
            refine lv_iconst (v := nI 1) X.1 X.2.1 dX7_comes_63 (by decide) ?_
            refine wm_zast (i := ((2048 * s1) + T)) (x := true) X hP hS hlt5 hE5 (by omega) (by decide) dX7_comes_64 (fun H locs E7 hP hS hE5 hq => ?_)
            have hE0 := (hq 119 (by decide)).trans hE0
            have hE1 := (hq 122 (by decide)).trans hE1
            have hE2 := (hq 124 (by decide)).trans hE2
            have hE3 := (hq 134 (by decide)).trans hE3
            have hE4 := (hq 135 (by decide)).trans hE4
            have hE6 := (hq 139 (by decide)).trans hE6
            have hfr : ∀ j, j ≠ 119 → j ≠ 134 → j ≠ 135 → j ≠ 136 → E7 j = E j := fun j h0 h1 h2 h3 => (hq j h3).trans (hfr j h0 h1 h2 h3)
            refine lv_aload_n X.1 X.2.1 dX7_comes_65 rfl (lv_at hl 0 rfl) ?_
            refine wm_get X hP hlt0 hE0 rfl wm_inX7 24 (by decide) wq5_46 rfl dX7_comes_66 ?_
            refine lv_aload_n X.1 X.2.1 dX7_comes_69 rfl (lv_at hl 0 rfl) ?_
            refine wm_get X hP hlt0 hE0 rfl wm_inX7 27 (by decide) wq5_49 rfl dX7_comes_70 ?_
            refine lv_iload X.1 X.2.1 dX7_comes_73 (lv_at hl 6 rfl) ?_
            refine wm_iast (i := ((Q9 ++ (wm_bk s1 (wm_new G sm T)).map (fun x9 => (x9, w))).length)) (x := s1) X hP hS hlt3 hE3 (by omega) (by decide) dX7_comes_75 (fun H locs E8 hP hS hE3 hq => ?_)
            have hE0 := (hq 119 (by decide)).trans hE0
            have hE1 := (hq 122 (by decide)).trans hE1
            have hE2 := (hq 124 (by decide)).trans hE2
            have hE4 := (hq 135 (by decide)).trans hE4
            have hE5 := (hq 136 (by decide)).trans hE5
            have hE6 := (hq 139 (by decide)).trans hE6
            have hfr : ∀ j, j ≠ 119 → j ≠ 134 → j ≠ 135 → j ≠ 136 → E8 j = E j := fun j h0 h1 h2 h3 => (hq j h1).trans (hfr j h0 h1 h2 h3)
            refine lv_aload_n X.1 X.2.1 dX7_comes_76 rfl (lv_at hl 0 rfl) ?_
            refine wm_get X hP hlt0 hE0 rfl wm_inX7 25 (by decide) wq5_47 rfl dX7_comes_77 ?_
            refine lv_aload_n X.1 X.2.1 dX7_comes_80 rfl (lv_at hl 0 rfl) ?_
            refine wm_get X hP hlt0 hE0 rfl wm_inX7 27 (by decide) wq5_49 rfl dX7_comes_81 ?_
            refine lv_iload X.1 X.2.1 dX7_comes_84 (lv_at hl 4 rfl) ?_
            refine wm_iast (i := ((Q9 ++ (wm_bk s1 (wm_new G sm T)).map (fun x9 => (x9, w))).length)) (x := w) X hP hS hlt4 hE4 (by omega) (by decide) dX7_comes_86 (fun H locs E9 hP hS hE4 hq => ?_)
            have hE0 := (hq 119 (by decide)).trans hE0
            have hE1 := (hq 122 (by decide)).trans hE1
            have hE2 := (hq 124 (by decide)).trans hE2
            have hE3 := (hq 134 (by decide)).trans hE3
            have hE5 := (hq 136 (by decide)).trans hE5
            have hE6 := (hq 139 (by decide)).trans hE6
            have hfr : ∀ j, j ≠ 119 → j ≠ 134 → j ≠ 135 → j ≠ 136 → E9 j = E j := fun j h0 h1 h2 h3 => (hq j h2).trans (hfr j h0 h1 h2 h3)
            refine lv_aload_n X.1 X.2.1 dX7_comes_87 rfl (lv_at hl 0 rfl) ?_
            refine lv_dup X.1 X.2.1 dX7_comes_88 rfl ?_
            refine wm_get X hP hlt0 hE0 rfl wm_inX7 27 (by decide) wq5_49 rfl dX7_comes_89 ?_
            refine lv_iconst (v := nI 1) X.1 X.2.1 dX7_comes_92 (by decide) ?_
            refine wm_iadd (x := ((Q9 ++ (wm_bk s1 (wm_new G sm T)).map (fun x9 => (x9, w))).length)) (y := 1) X dX7_comes_93 ?_
            refine wm_put (v := .int (nI (((Q9 ++ (wm_bk s1 (wm_new G sm T)).map (fun x9 => (x9, w))).length) + 1))) X hP hS hlt0 hE0 rfl wm_inX7 tyX7 tyX7_ok nmX7 27 (by decide) wq5_49 rfl rfl rfl (fs1 := [.int (nI th), .ref (b + 120), .int (nI sz), .int (nI fa), .int (nI pl), .ref (b + 121), .ref (b + 122), .ref (b + 123), .ref (b + 124), .ref (b + 125), .ref (b + 126), .ref (b + 127), .int (nI ats), .int (nI aa), .ref (b + 128), .ref (b + 129), .ref (b + 130), .ref (b + 131), .ref (b + 132), .ref (b + 133), .int (nI op), .int (nI be.toNat), .int (nI fi), .int (nI la), .ref (b + 134), .ref (b + 135), .ref (b + 136), .int (nI (((Q9 ++ (wm_bk s1 (wm_new G sm T)).map (fun x9 => (x9, w))).length) + 1)), .ref (b + 137), .ref (b + 138), .ref (b + 139), .int (nI wc), .ref (b + 140), .int (nI kl), .ref (b + 141), .ref (b + 142), .ref (b + 143), .ref (b + 144), .ref (b + 145)]) rfl (Nat.le_of_ble_eq_true rfl) dX7_comes_94 (fun H locs E10 hP hS hE0 hq => ?_)
            have hE1 := (hq 122 (by decide)).trans hE1
            have hE2 := (hq 124 (by decide)).trans hE2
            have hE3 := (hq 134 (by decide)).trans hE3
            have hE4 := (hq 135 (by decide)).trans hE4
            have hE5 := (hq 136 (by decide)).trans hE5
            have hE6 := (hq 139 (by decide)).trans hE6
            have hfr : ∀ j, j ≠ 119 → j ≠ 134 → j ≠ 135 → j ≠ 136 → E10 j = E j := fun j h0 h1 h2 h3 => (hq j h0).trans (hfr j h0 h1 h2 h3)
            refine lv_iinc (v := nI (s1 + 1)) (lv' := [(6, .int (nI (s1 + 1))), (0, .ref (b + 119)), (1, .int (nI i)), (2, .int (nI jj)), (3, .int (nI sm)), (4, .int (nI w)), (5, .int (nI T))]) X.1 X.2.1 dX7_comes_97 hl (k := 6) rfl (wm_inc s1) (by decide) rfl (fun ls hl => ?_)
            refine lv_goto (tgt := 12) X.1 X.2.1 dX7_comes_100 (by decide) ?_
            rw [show (Q9 ++ (wm_bk s1 (wm_new G sm T)).map (fun x9 => (x9, w))).length + 1 = (Q9 ++ (wm_bk (s1 + 1) (wm_new G sm T)).map (fun x9 => (x9, w))).length by rw [hbe]; simp only [List.length_append, List.length_singleton]] at hE0
            exact ih12 (s1 + 1) (va_up qs1 ((Q9 ++ (wm_bk s1 (wm_new G sm T)).map (fun x9 => (x9, w))).length) s1) (va_up qw1 ((Q9 ++ (wm_bk s1 (wm_new G sm T)).map (fun x9 => (x9, w))).length) w) (va_up sn1 ((2048 * s1) + T) true) (by omega) (by omega) (by rw [hbe]; exact wm_qr_p hqr1) (wm_spy hsp1 hNt (by omega)) E10 _ _ _ hP hS hE0 hE1 hE2 hE3 hE4 hE5 hE6 hfr (lv_sub hl [1, 2, 3, 4, 5, 6, 0] rfl)
  exact L12 (24 - 0 + 1) 0 qs qw sn (Nat.lt_succ_self _) (by omega) (by simpa [wm_bk] using hqr) (wm_sp0 hsn) E _ _ _ hP hS hE0 hE1 hE2 hE3 hE4 hE5 hE6 hfr (lv_sub hl [2, 3, 4, 5, 6, 1, 0] rfl)
