def pfail1 (C : Nat → ClassId) (b : Nat) (E : Nat → va_E) (th sz fa pl ats aa op fi la wa wc kl : Nat) (be : Bool) (k w : Nat) : (Nat → va_E) → Prop := fun E' => E' 119 = .inr (7, [.int (nI th), .ref (b + 120), .int (nI sz), .int (nI k), .int (nI w), .ref (b + 121), .ref (b + 122), .ref (b + 123), .ref (b + 124), .ref (b + 125), .ref (b + 126), .ref (b + 127), .int (nI ats), .int (nI aa), .ref (b + 128), .ref (b + 129), .ref (b + 130), .ref (b + 131), .ref (b + 132), .ref (b + 133), .int (nI op), .int (nI be.toNat), .int (nI fi), .int (nI la), .ref (b + 134), .ref (b + 135), .ref (b + 136), .int (nI wa), .ref (b + 137), .ref (b + 138), .ref (b + 139), .int (nI wc), .ref (b + 140), .int (nI kl), .ref (b + 141), .ref (b + 142), .ref (b + 143), .ref (b + 144), .ref (b + 145)]) ∧ (∀ j, j ≠ 119 → E' j = E j)
set_option maxHeartbeats 4000000 in
set_option maxRecDepth 100000 in
theorem kfail1 (l : Launch) (D : va_G) (C : Nat → ClassId) (b n : Nat) (E : Nat → va_E) (th sz fa pl ats aa op fi la wa wc kl : Nat) (be : Bool) (k w : Nat) (hlt0 : 119 < n) (hE0 : E 119 = .inr (7, [.int (nI th), .ref (b + 120), .int (nI sz), .int (nI fa), .int (nI pl), .ref (b + 121), .ref (b + 122), .ref (b + 123), .ref (b + 124), .ref (b + 125), .ref (b + 126), .ref (b + 127), .int (nI ats), .int (nI aa), .ref (b + 128), .ref (b + 129), .ref (b + 130), .ref (b + 131), .ref (b + 132), .ref (b + 133), .int (nI op), .int (nI be.toNat), .int (nI fi), .int (nI la), .ref (b + 134), .ref (b + 135), .ref (b + 136), .int (nI wa), .ref (b + 137), .ref (b + 138), .ref (b + 139), .int (nI wc), .ref (b + 140), .int (nI kl), .ref (b + 141), .ref (b + 142), .ref (b + 143), .ref (b + 144), .ref (b + 145)])) (hf : fa = 0) : Met l yX7_fail (wm_ws yX7_fail cX7_fail 3 none) { frames := 0, cells := 0, slots := 0, locals := 0 } (va_Pc [.ref (b + 119), .int (nI k), .int (nI w)] (wm_G D C b n E)) (va_Qv (pfail1 C b E th sz fa pl ats aa op fi la wa wc kl be k w) (fun E' t => wm_P D b n E' t.heap) (wm_A b)) 0 0 (wm_A b) := by
  refine wm_ofW (by decide) (Nat.le_of_ble_eq_true rfl) (fun p e s m below meth c ls R args Q hRe hQ X hr hnm hP hS hl => ?_)
  have hl : lv_has ls 3 [(0, .ref (b + 119)), (1, .int (nI k)), (2, .int (nI w))] := hl
  have hfr : ∀ j, j ≠ 119 → E j = E j := fun _ _ => rfl
  refine lv_aload_n X.1 X.2.1 dX7_fail_0 rfl (lv_at hl 0 rfl) ?_
  refine wm_get X hP hlt0 hE0 rfl wm_inX7 3 (by decide) wq5_25 rfl dX7_fail_1 ?_
  refine wm_if_ne (x := fa) (tgt := 17) X (by omega) dX7_fail_4 (by decide) (fun hc4 => ?_) (fun hc4 => ?_)
  · exact absurd hc4 (fun q => q hf)
  · refine lv_aload_n X.1 X.2.1 dX7_fail_7 rfl (lv_at hl 0 rfl) ?_
    refine lv_iload_n X.1 X.2.1 dX7_fail_8 rfl (lv_at hl 1 rfl) ?_
    refine wm_put (v := .int (nI k)) X hP hS hlt0 hE0 rfl wm_inX7 tyX7 tyX7_ok nmX7 3 (by decide) wq5_25 rfl rfl rfl (fs1 := [.int (nI th), .ref (b + 120), .int (nI sz), .int (nI k), .int (nI pl), .ref (b + 121), .ref (b + 122), .ref (b + 123), .ref (b + 124), .ref (b + 125), .ref (b + 126), .ref (b + 127), .int (nI ats), .int (nI aa), .ref (b + 128), .ref (b + 129), .ref (b + 130), .ref (b + 131), .ref (b + 132), .ref (b + 133), .int (nI op), .int (nI be.toNat), .int (nI fi), .int (nI la), .ref (b + 134), .ref (b + 135), .ref (b + 136), .int (nI wa), .ref (b + 137), .ref (b + 138), .ref (b + 139), .int (nI wc), .ref (b + 140), .int (nI kl), .ref (b + 141), .ref (b + 142), .ref (b + 143), .ref (b + 144), .ref (b + 145)]) rfl (Nat.le_of_ble_eq_true rfl) dX7_fail_9 (fun H locs E2 hP hS hE0 hq => ?_)
    have hfr : ∀ j, j ≠ 119 → E2 j = E j := fun j h0 => (hq j h0).trans (hfr j h0)
    refine lv_aload_n X.1 X.2.1 dX7_fail_12 rfl (lv_at hl 0 rfl) ?_
    refine lv_iload_n X.1 X.2.1 dX7_fail_13 rfl (lv_at hl 2 rfl) ?_
    refine wm_put (v := .int (nI w)) X hP hS hlt0 hE0 rfl wm_inX7 tyX7 tyX7_ok nmX7 4 (by decide) wq5_26 rfl rfl rfl (fs1 := [.int (nI th), .ref (b + 120), .int (nI sz), .int (nI k), .int (nI w), .ref (b + 121), .ref (b + 122), .ref (b + 123), .ref (b + 124), .ref (b + 125), .ref (b + 126), .ref (b + 127), .int (nI ats), .int (nI aa), .ref (b + 128), .ref (b + 129), .ref (b + 130), .ref (b + 131), .ref (b + 132), .ref (b + 133), .int (nI op), .int (nI be.toNat), .int (nI fi), .int (nI la), .ref (b + 134), .ref (b + 135), .ref (b + 136), .int (nI wa), .ref (b + 137), .ref (b + 138), .ref (b + 139), .int (nI wc), .ref (b + 140), .int (nI kl), .ref (b + 141), .ref (b + 142), .ref (b + 143), .ref (b + 144), .ref (b + 145)]) rfl (Nat.le_of_ble_eq_true rfl) dX7_fail_14 (fun H locs E3 hP hS hE0 hq => ?_)
    have hfr : ∀ j, j ≠ 119 → E3 j = E j := fun j h0 => (hq j h0).trans (hfr j h0)
    exact wm_vret (post := pfail1 C b E th sz fa pl ats aa op fi la wa wc kl be k w) X hr hP hS ⟨hE0, hfr⟩ hQ dX7_fail_17
def pfail0 (C : Nat → ClassId) (b : Nat) (E : Nat → va_E) (th sz fa pl ats aa op fi la wa wc kl : Nat) (be : Bool) (k w : Nat) : (Nat → va_E) → Prop := fun E' => E = E'
set_option maxHeartbeats 4000000 in
set_option maxRecDepth 100000 in
theorem kfail0 (l : Launch) (D : va_G) (C : Nat → ClassId) (b n : Nat) (E : Nat → va_E) (th sz fa pl ats aa op fi la wa wc kl : Nat) (be : Bool) (k w : Nat) (hlt0 : 119 < n) (hE0 : E 119 = .inr (7, [.int (nI th), .ref (b + 120), .int (nI sz), .int (nI fa), .int (nI pl), .ref (b + 121), .ref (b + 122), .ref (b + 123), .ref (b + 124), .ref (b + 125), .ref (b + 126), .ref (b + 127), .int (nI ats), .int (nI aa), .ref (b + 128), .ref (b + 129), .ref (b + 130), .ref (b + 131), .ref (b + 132), .ref (b + 133), .int (nI op), .int (nI be.toNat), .int (nI fi), .int (nI la), .ref (b + 134), .ref (b + 135), .ref (b + 136), .int (nI wa), .ref (b + 137), .ref (b + 138), .ref (b + 139), .int (nI wc), .ref (b + 140), .int (nI kl), .ref (b + 141), .ref (b + 142), .ref (b + 143), .ref (b + 144), .ref (b + 145)])) (hf : fa ≠ 0) (hf2 : fa < 2 ^ 31) : Met l yX7_fail (wm_ws yX7_fail cX7_fail 3 none) { frames := 0, cells := 0, slots := 0, locals := 0 } (va_Pc [.ref (b + 119), .int (nI k), .int (nI w)] (wm_G D C b n E)) (va_Qv (pfail0 C b E th sz fa pl ats aa op fi la wa wc kl be k w) (fun E' t => wm_P D b n E' t.heap) (wm_A b)) 0 0 (wm_A b) := by
  refine wm_ofW (by decide) (Nat.le_of_ble_eq_true rfl) (fun p e s m below meth c ls R args Q hRe hQ X hr hnm hP hS hl => ?_)
  have hl : lv_has ls 3 [(0, .ref (b + 119)), (1, .int (nI k)), (2, .int (nI w))] := hl
  refine lv_aload_n X.1 X.2.1 dX7_fail_0 rfl (lv_at hl 0 rfl) ?_
  refine wm_get X hP hlt0 hE0 rfl wm_inX7 3 (by decide) wq5_25 rfl dX7_fail_1 ?_
  refine wm_if_ne (x := fa) (tgt := 17) X (by omega) dX7_fail_4 (by decide) (fun hc4 => ?_) (fun hc4 => ?_)
  · exact wm_vret (post := pfail0 C b E th sz fa pl ats aa op fi la wa wc kl be k w) X hr hP hS rfl hQ dX7_fail_17
  · exact absurd hc4 hf
def pX7_byteAt (C : Nat → ClassId) (b : Nat) (E : Nat → va_E) (th sz fa pl ats aa op fi la wa wc kl : Nat) (be : Bool) (i : Nat) (tx : Nat → Nat) : Int32 → (Nat → va_E) → Prop := fun r E' => r = nI (wm_ba tx sz i) ∧ E = E'
set_option maxHeartbeats 4000000 in
set_option maxRecDepth 100000 in
theorem kX7_byteAt (l : Launch) (D : va_G) (C : Nat → ClassId) (b n : Nat) (E : Nat → va_E) (th sz fa pl ats aa op fi la wa wc kl : Nat) (be : Bool) (i : Nat) (tx : Nat → Nat) (hlt0 : 119 < n) (hE0 : E 119 = .inr (7, [.int (nI th), .ref (b + 120), .int (nI sz), .int (nI fa), .int (nI pl), .ref (b + 121), .ref (b + 122), .ref (b + 123), .ref (b + 124), .ref (b + 125), .ref (b + 126), .ref (b + 127), .int (nI ats), .int (nI aa), .ref (b + 128), .ref (b + 129), .ref (b + 130), .ref (b + 131), .ref (b + 132), .ref (b + 133), .int (nI op), .int (nI be.toNat), .int (nI fi), .int (nI la), .ref (b + 134), .ref (b + 135), .ref (b + 136), .int (nI wa), .ref (b + 137), .ref (b + 138), .ref (b + 139), .int (nI wc), .ref (b + 140), .int (nI kl), .ref (b + 141), .ref (b + 142), .ref (b + 143), .ref (b + 144), .ref (b + 145)])) (hlt1 : 120 < n) (hE1 : E 120 = wm_I C 200 tx) (hi : i < 2 ^ 31) (hsz : sz ≤ 200) : Met l yX7_byteAt (wm_ws yX7_byteAt cX7_byteAt 2 (some .int)) { frames := 0, cells := 0, slots := 0, locals := 0 } (va_Pc [.ref (b + 119), .int (nI i)] (wm_G D C b n E)) (va_Qi (pX7_byteAt C b E th sz fa pl ats aa op fi la wa wc kl be i tx) (fun E' t => wm_P D b n E' t.heap) (wm_A b)) 0 0 (wm_A b) := by
  refine wm_ofW (by decide) (Nat.le_of_ble_eq_true rfl) (fun p e s m below meth c ls R args Q hRe hQ X hr hnm hP hS hl => ?_)
  have hl : lv_has ls 2 [(0, .ref (b + 119)), (1, .int (nI i))] := hl
  refine lv_iload_n X.1 X.2.1 dX7_byteAt_0 rfl (lv_at hl 1 rfl) ?_
  refine lv_aload_n X.1 X.2.1 dX7_byteAt_1 rfl (lv_at hl 0 rfl) ?_
  refine wm_get X hP hlt0 hE0 rfl wm_inX7 2 (by decide) wq5_24 rfl dX7_byteAt_2 ?_
  refine wm_icmp_ge (x := i) (y := sz) (tgt := 17) X (by omega) (by omega) dX7_byteAt_5 (by decide) (fun hc5 => ?_) (fun hc5 => ?_)
  · refine lv_iconst (v := nI 4294967295) X.1 X.2.1 dX7_byteAt_17 (by decide) ?_
    exact wm_iret (post := pX7_byteAt C b E th sz fa pl ats aa op fi la wa wc kl be i tx) X hr hP hS ⟨(congrArg nI (if_neg (Nat.not_lt.mpr hc5)).symm), rfl⟩ hQ dX7_byteAt_18
  · refine lv_aload_n X.1 X.2.1 dX7_byteAt_8 rfl (lv_at hl 0 rfl) ?_
    refine wm_get X hP hlt0 hE0 rfl wm_inX7 1 (by decide) wq5_23 rfl dX7_byteAt_9 ?_
    refine lv_iload_n X.1 X.2.1 dX7_byteAt_12 rfl (lv_at hl 1 rfl) ?_
    refine wm_iald (i := i) X hP hlt1 hE1 (by omega) (by decide) dX7_byteAt_13 ?_
    refine lv_goto (tgt := 18) X.1 X.2.1 dX7_byteAt_14 (by decide) ?_
    exact wm_iret (post := pX7_byteAt C b E th sz fa pl ats aa op fi la wa wc kl be i tx) X hr hP hS ⟨(congrArg nI (if_pos hc5).symm), rfl⟩ hQ dX7_byteAt_18
def pX7_lead (C : Nat → ClassId) (b : Nat) (E : Nat → va_E) (th sz fa pl ats aa op fi la wa wc kl : Nat) (be : Bool) (y z : Nat) (fo : Nat → Nat) : (Nat → va_E) → Prop := fun E' => E' 127 = wm_I C 24 (wm_ld fo 24 y z) ∧ (∀ j, j ≠ 127 → E' j = E j)
set_option maxHeartbeats 4000000 in
set_option maxRecDepth 100000 in
theorem kX7_lead (l : Launch) (D : va_G) (C : Nat → ClassId) (b n : Nat) (E : Nat → va_E) (th sz fa pl ats aa op fi la wa wc kl : Nat) (be : Bool) (y z : Nat) (fo : Nat → Nat) (hlt0 : 119 < n) (hE0 : E 119 = .inr (7, [.int (nI th), .ref (b + 120), .int (nI sz), .int (nI fa), .int (nI pl), .ref (b + 121), .ref (b + 122), .ref (b + 123), .ref (b + 124), .ref (b + 125), .ref (b + 126), .ref (b + 127), .int (nI ats), .int (nI aa), .ref (b + 128), .ref (b + 129), .ref (b + 130), .ref (b + 131), .ref (b + 132), .ref (b + 133), .int (nI op), .int (nI be.toNat), .int (nI fi), .int (nI la), .ref (b + 134), .ref (b + 135), .ref (b + 136), .int (nI wa), .ref (b + 137), .ref (b + 138), .ref (b + 139), .int (nI wc), .ref (b + 140), .int (nI kl), .ref (b + 141), .ref (b + 142), .ref (b + 143), .ref (b + 144), .ref (b + 145)])) (hlt1 : 127 < n) (hE1 : E 127 = wm_I C 24 fo) (hy : y < 2 ^ 31) : Met l yX7_lead (wm_ws yX7_lead cX7_lead 4 none) { frames := 0, cells := 0, slots := 0, locals := 0 } (va_Pc [.ref (b + 119), .int (nI y), .int (nI z)] (wm_G D C b n E)) (va_Qv (pX7_lead C b E th sz fa pl ats aa op fi la wa wc kl be y z fo) (fun E' t => wm_P D b n E' t.heap) (wm_A b)) 0 0 (wm_A b) := by
  refine wm_ofW (by decide) (Nat.le_of_ble_eq_true rfl) (fun p e s m below meth c ls R args Q hRe hQ X hr hnm hP hS hl => ?_)
  have hl : lv_has ls 4 [(0, .ref (b + 119)), (1, .int (nI y)), (2, .int (nI z))] := hl
  have hfr : ∀ j, j ≠ 127 → E j = E j := fun _ _ => rfl
  refine lv_iconst (v := nI 0) X.1 X.2.1 dX7_lead_0 (by decide) ?_
  refine lv_istore_n (lv' := [(3, .int (nI 0)), (0, .ref (b + 119)), (1, .int (nI y)), (2, .int (nI z))]) X.1 X.2.1 dX7_lead_1 rfl hl (by decide) rfl (fun ls hl => ?_)
  have L2 : ∀ (fu : Nat) (i : Nat) (f1 : Nat → Nat), 24 - i < fu → (i ≤ 24) → (f1 = wm_ld fo i y z) → ∀ (E1 : Nat → va_E) (H : Heap) (locs : List Loc) (ls : Array Slot), wm_P D b n E1 H → wm_S b s.heap H locs → E1 119 = .inr (7, [.int (nI th), .ref (b + 120), .int (nI sz), .int (nI fa), .int (nI pl), .ref (b + 121), .ref (b + 122), .ref (b + 123), .ref (b + 124), .ref (b + 125), .ref (b + 126), .ref (b + 127), .int (nI ats), .int (nI aa), .ref (b + 128), .ref (b + 129), .ref (b + 130), .ref (b + 131), .ref (b + 132), .ref (b + 133), .int (nI op), .int (nI be.toNat), .int (nI fi), .int (nI la), .ref (b + 134), .ref (b + 135), .ref (b + 136), .int (nI wa), .ref (b + 137), .ref (b + 138), .ref (b + 139), .int (nI wc), .ref (b + 140), .int (nI kl), .ref (b + 141), .ref (b + 142), .ref (b + 143), .ref (b + 144), .ref (b + 145)]) → E1 127 = wm_I C 24 f1 → (∀ j, j ≠ 127 → E1 j = E j) → lv_has ls 4 [(0, .ref (b + 119)), (1, .int (nI y)), (2, .int (nI z)), (3, .int (nI i))] → W p l e R s m args below meth c H locs 0 0 Q (F0 m 2 ls []) := by
    intro fu
    induction fu with
    | zero => intro i f1 hm; exact absurd hm (Nat.not_lt_zero _)
    | succ fu ih2 =>
      intro i f1 hm hi hf1 E1 H locs ls hP hS hE0 hE1 hfr hl
      refine lv_iload_n X.1 X.2.1 dX7_lead_2 rfl (lv_at hl 3 rfl) ?_
      refine lv_bipush (v := nI 24) X.1 X.2.1 dX7_lead_3 (by decide) ?_
      refine wm_icmp_ge (x := i) (y := 24) (tgt := 46) X (by omega) (by decide) dX7_lead_5 (by decide) (fun hc5 => ?_) (fun hc5 => ?_)
      · exact wm_vret (post := pX7_lead C b E th sz fa pl ats aa op fi la wa wc kl be y z fo) X hr hP hS ⟨(by rw [show wm_ld fo 24 y z = f1 from by rw [hf1, show i = 24 by omega]]; exact hE1), hfr⟩ hQ dX7_lead_46
      · refine lv_aload_n X.1 X.2.1 dX7_lead_8 rfl (lv_at hl 0 rfl) ?_
        refine wm_get X hP hlt0 hE0 rfl wm_inX7 11 (by decide) wq5_33 rfl dX7_lead_9 ?_
        refine lv_iload_n X.1 X.2.1 dX7_lead_12 rfl (lv_at hl 3 rfl) ?_
        refine lv_iload_n X.1 X.2.1 dX7_lead_13 rfl (lv_at hl 1 rfl) ?_
        refine lv_iload_n X.1 X.2.1 dX7_lead_14 rfl (lv_at hl 3 rfl) ?_
        refine wm_ishr (x := y) (y := i) X (by omega) (by omega) dX7_lead_15 ?_
        refine lv_iconst (v := nI 1) X.1 X.2.1 dX7_lead_16 (by decide) ?_
        refine wm_iand (x := (y >>> i)) (y := 1) X dX7_lead_17 ?_
        refine lv_iconst (v := nI 1) X.1 X.2.1 dX7_lead_18 (by decide) ?_
        refine wm_icmp_ne (x := ((y >>> i) &&& 1)) (y := 1) (tgt := 33) X (Nat.lt_trans (wm_and1_lt _) (by decide)) (by decide) dX7_lead_19 (by decide) (fun hc19 => ?_) (fun hc19 => ?_)
        · refine lv_aload_n X.1 X.2.1 dX7_lead_33 rfl (lv_at hl 0 rfl) ?_
          refine wm_get X hP hlt0 hE0 rfl wm_inX7 11 (by decide) wq5_33 rfl dX7_lead_34 ?_
          refine lv_iload_n X.1 X.2.1 dX7_lead_37 rfl (lv_at hl 3 rfl) ?_
          refine wm_iald (i := i) X hP hlt1 hE1 (by omega) (by decide) dX7_lead_38 ?_
          refine wm_iast (i := i) (x := (f1 i)) X hP hS hlt1 hE1 (by omega) (by decide) dX7_lead_39 (fun H locs E4 hP hS hE1 hq => ?_)
          have hE0 := (hq 119 (by decide)).trans hE0
          have hfr : ∀ j, j ≠ 127 → E4 j = E j := fun j h0 => (hq j h0).trans (hfr j h0)
          refine lv_iinc (v := nI (i + 1)) (lv' := [(3, .int (nI (i + 1))), (0, .ref (b + 119)), (1, .int (nI y)), (2, .int (nI z))]) X.1 X.2.1 dX7_lead_40 hl (k := 3) rfl (wm_inc i) (by decide) rfl (fun ls hl => ?_)
          refine lv_goto (tgt := 2) X.1 X.2.1 dX7_lead_43 (by decide) ?_
          exact ih2 (i + 1) (va_up f1 i (f1 i)) (by omega) (by omega) (wm_ld2 hf1 (wm_sh0 hc19)) E4 _ _ _ hP hS hE0 hE1 hfr (lv_sub hl [1, 2, 3, 0] rfl)
        · refine lv_aload_n X.1 X.2.1 dX7_lead_22 rfl (lv_at hl 0 rfl) ?_
          refine wm_get X hP hlt0 hE0 rfl wm_inX7 11 (by decide) wq5_33 rfl dX7_lead_23 ?_
          refine lv_iload_n X.1 X.2.1 dX7_lead_26 rfl (lv_at hl 3 rfl) ?_
          refine wm_iald (i := i) X hP hlt1 hE1 (by omega) (by decide) dX7_lead_27 ?_
          refine lv_iload_n X.1 X.2.1 dX7_lead_28 rfl (lv_at hl 2 rfl) ?_
          refine wm_ior (x := (f1 i)) (y := z) X dX7_lead_29 ?_
          refine lv_goto (tgt := 39) X.1 X.2.1 dX7_lead_30 (by decide) ?_
          refine wm_iast (i := i) (x := ((f1 i) ||| z)) X hP hS hlt1 hE1 (by omega) (by decide) dX7_lead_39 (fun H locs E5 hP hS hE1 hq => ?_)
          have hE0 := (hq 119 (by decide)).trans hE0
          have hfr : ∀ j, j ≠ 127 → E5 j = E j := fun j h0 => (hq j h0).trans (hfr j h0)
          refine lv_iinc (v := nI (i + 1)) (lv' := [(3, .int (nI (i + 1))), (0, .ref (b + 119)), (1, .int (nI y)), (2, .int (nI z))]) X.1 X.2.1 dX7_lead_40 hl (k := 3) rfl (wm_inc i) (by decide) rfl (fun ls hl => ?_)
          refine lv_goto (tgt := 2) X.1 X.2.1 dX7_lead_43 (by decide) ?_
          exact ih2 (i + 1) (va_up f1 i ((f1 i) ||| z)) (by omega) (by omega) (wm_ld1 hf1 (wm_sh1 hc19)) E5 _ _ _ hP hS hE0 hE1 hfr (lv_sub hl [1, 2, 3, 0] rfl)
  exact L2 (24 - 0 + 1) 0 fo (Nat.lt_succ_self _) (by omega) (wm_ld0 fo y z) E _ _ _ hP hS hE0 hE1 hfr (lv_sub hl [1, 2, 3, 0] rfl)
def pX7_atom (C : Nat → ClassId) (b : Nat) (E : Nat → va_E) (th sz fa pl ats aa op fi la wa wc kl : Nat) (be : Bool) (v : Nat) (ml fo : Nat → Nat) : (Nat → va_E) → Prop := fun E' => E' 119 = .inr (7, [.int (nI th), .ref (b + 120), .int (nI sz), .int (nI fa), .int (nI pl), .ref (b + 121), .ref (b + 122), .ref (b + 123), .ref (b + 124), .ref (b + 125), .ref (b + 126), .ref (b + 127), .int (nI (ats + 1)), .int (nI aa), .ref (b + 128), .ref (b + 129), .ref (b + 130), .ref (b + 131), .ref (b + 132), .ref (b + 133), .int (nI op), .int (nI false.toNat), .int (nI (1 <<< (ats + 1))), .int (nI (1 <<< (ats + 1))), .ref (b + 134), .ref (b + 135), .ref (b + 136), .int (nI wa), .ref (b + 137), .ref (b + 138), .ref (b + 139), .int (nI wc), .ref (b + 140), .int (nI kl), .ref (b + 141), .ref (b + 142), .ref (b + 143), .ref (b + 144), .ref (b + 145)]) ∧ E' 126 = wm_I C 24 (va_up ml (ats + 1) v) ∧ E' 127 = wm_I C 24 (va_up fo (ats + 1) 0) ∧ (∀ j, j ≠ 119 → j ≠ 126 → j ≠ 127 → E' j = E j)
set_option maxHeartbeats 4000000 in
set_option maxRecDepth 100000 in
theorem kX7_atom (l : Launch) (D : va_G) (C : Nat → ClassId) (b n : Nat) (E : Nat → va_E) (th sz fa pl ats aa op fi la wa wc kl : Nat) (be : Bool) (v : Nat) (ml fo : Nat → Nat) (hlt0 : 119 < n) (hE0 : E 119 = .inr (7, [.int (nI th), .ref (b + 120), .int (nI sz), .int (nI fa), .int (nI pl), .ref (b + 121), .ref (b + 122), .ref (b + 123), .ref (b + 124), .ref (b + 125), .ref (b + 126), .ref (b + 127), .int (nI ats), .int (nI aa), .ref (b + 128), .ref (b + 129), .ref (b + 130), .ref (b + 131), .ref (b + 132), .ref (b + 133), .int (nI op), .int (nI be.toNat), .int (nI fi), .int (nI la), .ref (b + 134), .ref (b + 135), .ref (b + 136), .int (nI wa), .ref (b + 137), .ref (b + 138), .ref (b + 139), .int (nI wc), .ref (b + 140), .int (nI kl), .ref (b + 141), .ref (b + 142), .ref (b + 143), .ref (b + 144), .ref (b + 145)])) (hlt1 : 126 < n) (hE1 : E 126 = wm_I C 24 ml) (hlt2 : 127 < n) (hE2 : E 127 = wm_I C 24 fo) (ha : ats < 23) : Met l yX7_atom (wm_ws yX7_atom cX7_atom 2 none) { frames := 0, cells := 0, slots := 0, locals := 0 } (va_Pc [.ref (b + 119), .int (nI v)] (wm_G D C b n E)) (va_Qv (pX7_atom C b E th sz fa pl ats aa op fi la wa wc kl be v ml fo) (fun E' t => wm_P D b n E' t.heap) (wm_A b)) 0 0 (wm_A b) := by
  refine wm_ofW (by decide) (Nat.le_of_ble_eq_true rfl) (fun p e s m below meth c ls R args Q hRe hQ X hr hnm hP hS hl => ?_)
  have hl : lv_has ls 2 [(0, .ref (b + 119)), (1, .int (nI v))] := hl
  have hfr : ∀ j, j ≠ 119 → j ≠ 126 → j ≠ 127 → E j = E j := fun _ _ _ _ => rfl
  refine lv_aload_n X.1 X.2.1 dX7_atom_0 rfl (lv_at hl 0 rfl) ?_
  refine lv_dup X.1 X.2.1 dX7_atom_1 rfl ?_
  refine wm_get X hP hlt0 hE0 rfl wm_inX7 12 (by decide) wq5_34 rfl dX7_atom_2 ?_
  refine lv_iconst (v := nI 1) X.1 X.2.1 dX7_atom_5 (by decide) ?_
  refine wm_iadd (x := ats) (y := 1) X dX7_atom_6 ?_
  refine wm_put (v := .int (nI (ats + 1))) X hP hS hlt0 hE0 rfl wm_inX7 tyX7 tyX7_ok nmX7 12 (by decide) wq5_34 rfl rfl rfl (fs1 := [.int (nI th), .ref (b + 120), .int (nI sz), .int (nI fa), .int (nI pl), .ref (b + 121), .ref (b + 122), .ref (b + 123), .ref (b + 124), .ref (b + 125), .ref (b + 126), .ref (b + 127), .int (nI (ats + 1)), .int (nI aa), .ref (b + 128), .ref (b + 129), .ref (b + 130), .ref (b + 131), .ref (b + 132), .ref (b + 133), .int (nI op), .int (nI be.toNat), .int (nI fi), .int (nI la), .ref (b + 134), .ref (b + 135), .ref (b + 136), .int (nI wa), .ref (b + 137), .ref (b + 138), .ref (b + 139), .int (nI wc), .ref (b + 140), .int (nI kl), .ref (b + 141), .ref (b + 142), .ref (b + 143), .ref (b + 144), .ref (b + 145)]) rfl (Nat.le_of_ble_eq_true rfl) dX7_atom_7 (fun H locs E1 hP hS hE0 hq => ?_)
  have hE1 := (hq 126 (by decide)).trans hE1
  have hE2 := (hq 127 (by decide)).trans hE2
  have hfr : ∀ j, j ≠ 119 → j ≠ 126 → j ≠ 127 → E1 j = E j := fun j h0 h1 h2 => (hq j h0).trans (hfr j h0 h1 h2)
  refine lv_aload_n X.1 X.2.1 dX7_atom_10 rfl (lv_at hl 0 rfl) ?_
  refine wm_get X hP hlt0 hE0 rfl wm_inX7 10 (by decide) wq5_32 rfl dX7_atom_11 ?_
  refine lv_aload_n X.1 X.2.1 dX7_atom_14 rfl (lv_at hl 0 rfl) ?_
  refine wm_get X hP hlt0 hE0 rfl wm_inX7 12 (by decide) wq5_34 rfl dX7_atom_15 ?_
  refine lv_iload_n X.1 X.2.1 dX7_atom_18 rfl (lv_at hl 1 rfl) ?_
  refine wm_iast (i := (ats + 1)) (x := v) X hP hS hlt1 hE1 (by omega) (by decide) dX7_atom_19 (fun H locs E2 hP hS hE1 hq => ?_)
  have hE0 := (hq 119 (by decide)).trans hE0
  have hE2 := (hq 127 (by decide)).trans hE2
  have hfr : ∀ j, j ≠ 119 → j ≠ 126 → j ≠ 127 → E2 j = E j := fun j h0 h1 h2 => (hq j h1).trans (hfr j h0 h1 h2)
  refine lv_aload_n X.1 X.2.1 dX7_atom_20 rfl (lv_at hl 0 rfl) ?_
  refine wm_get X hP hlt0 hE0 rfl wm_inX7 11 (by decide) wq5_33 rfl dX7_atom_21 ?_
  refine lv_aload_n X.1 X.2.1 dX7_atom_24 rfl (lv_at hl 0 rfl) ?_
  refine wm_get X hP hlt0 hE0 rfl wm_inX7 12 (by decide) wq5_34 rfl dX7_atom_25 ?_
  refine lv_iconst (v := nI 0) X.1 X.2.1 dX7_atom_28 (by decide) ?_
  refine wm_iast (i := (ats + 1)) (x := 0) X hP hS hlt2 hE2 (by omega) (by decide) dX7_atom_29 (fun H locs E3 hP hS hE2 hq => ?_)
  have hE0 := (hq 119 (by decide)).trans hE0
  have hE1 := (hq 126 (by decide)).trans hE1
  have hfr : ∀ j, j ≠ 119 → j ≠ 126 → j ≠ 127 → E3 j = E j := fun j h0 h1 h2 => (hq j h2).trans (hfr j h0 h1 h2)
  refine lv_aload_n X.1 X.2.1 dX7_atom_30 rfl (lv_at hl 0 rfl) ?_
  refine lv_iconst (v := nI 0) X.1 X.2.1 dX7_atom_31 (by decide) ?_
  refine wm_put (v := .int (nI false.toNat)) X hP hS hlt0 hE0 rfl wm_inX7 tyX7 tyX7_ok nmX7 21 (by decide) wq5_43 rfl (wm_nz false) (wm_fz false) (fs1 := [.int (nI th), .ref (b + 120), .int (nI sz), .int (nI fa), .int (nI pl), .ref (b + 121), .ref (b + 122), .ref (b + 123), .ref (b + 124), .ref (b + 125), .ref (b + 126), .ref (b + 127), .int (nI (ats + 1)), .int (nI aa), .ref (b + 128), .ref (b + 129), .ref (b + 130), .ref (b + 131), .ref (b + 132), .ref (b + 133), .int (nI op), .int (nI false.toNat), .int (nI fi), .int (nI la), .ref (b + 134), .ref (b + 135), .ref (b + 136), .int (nI wa), .ref (b + 137), .ref (b + 138), .ref (b + 139), .int (nI wc), .ref (b + 140), .int (nI kl), .ref (b + 141), .ref (b + 142), .ref (b + 143), .ref (b + 144), .ref (b + 145)]) rfl (Nat.le_of_ble_eq_true rfl) dX7_atom_32 (fun H locs E4 hP hS hE0 hq => ?_)
  have hE1 := (hq 126 (by decide)).trans hE1
  have hE2 := (hq 127 (by decide)).trans hE2
  have hfr : ∀ j, j ≠ 119 → j ≠ 126 → j ≠ 127 → E4 j = E j := fun j h0 h1 h2 => (hq j h0).trans (hfr j h0 h1 h2)
  refine lv_aload_n X.1 X.2.1 dX7_atom_35 rfl (lv_at hl 0 rfl) ?_
  refine lv_iconst (v := nI 1) X.1 X.2.1 dX7_atom_36 (by decide) ?_
  refine lv_aload_n X.1 X.2.1 dX7_atom_37 rfl (lv_at hl 0 rfl) ?_
  refine wm_get X hP hlt0 hE0 rfl wm_inX7 12 (by decide) wq5_34 rfl dX7_atom_38 ?_
  refine wm_ishl (x := 1) (y := (ats + 1)) X (by omega) dX7_atom_41 ?_
  refine wm_put (v := .int (nI (1 <<< (ats + 1)))) X hP hS hlt0 hE0 rfl wm_inX7 tyX7 tyX7_ok nmX7 22 (by decide) wq5_44 rfl rfl rfl (fs1 := [.int (nI th), .ref (b + 120), .int (nI sz), .int (nI fa), .int (nI pl), .ref (b + 121), .ref (b + 122), .ref (b + 123), .ref (b + 124), .ref (b + 125), .ref (b + 126), .ref (b + 127), .int (nI (ats + 1)), .int (nI aa), .ref (b + 128), .ref (b + 129), .ref (b + 130), .ref (b + 131), .ref (b + 132), .ref (b + 133), .int (nI op), .int (nI false.toNat), .int (nI (1 <<< (ats + 1))), .int (nI la), .ref (b + 134), .ref (b + 135), .ref (b + 136), .int (nI wa), .ref (b + 137), .ref (b + 138), .ref (b + 139), .int (nI wc), .ref (b + 140), .int (nI kl), .ref (b + 141), .ref (b + 142), .ref (b + 143), .ref (b + 144), .ref (b + 145)]) rfl (Nat.le_of_ble_eq_true rfl) dX7_atom_42 (fun H locs E5 hP hS hE0 hq => ?_)
  have hE1 := (hq 126 (by decide)).trans hE1
  have hE2 := (hq 127 (by decide)).trans hE2
  have hfr : ∀ j, j ≠ 119 → j ≠ 126 → j ≠ 127 → E5 j = E j := fun j h0 h1 h2 => (hq j h0).trans (hfr j h0 h1 h2)
  refine lv_aload_n X.1 X.2.1 dX7_atom_45 rfl (lv_at hl 0 rfl) ?_
  refine lv_iconst (v := nI 1) X.1 X.2.1 dX7_atom_46 (by decide) ?_
  refine lv_aload_n X.1 X.2.1 dX7_atom_47 rfl (lv_at hl 0 rfl) ?_
  refine wm_get X hP hlt0 hE0 rfl wm_inX7 12 (by decide) wq5_34 rfl dX7_atom_48 ?_
  refine wm_ishl (x := 1) (y := (ats + 1)) X (by omega) dX7_atom_51 ?_
  refine wm_put (v := .int (nI (1 <<< (ats + 1)))) X hP hS hlt0 hE0 rfl wm_inX7 tyX7 tyX7_ok nmX7 23 (by decide) wq5_45 rfl rfl rfl (fs1 := [.int (nI th), .ref (b + 120), .int (nI sz), .int (nI fa), .int (nI pl), .ref (b + 121), .ref (b + 122), .ref (b + 123), .ref (b + 124), .ref (b + 125), .ref (b + 126), .ref (b + 127), .int (nI (ats + 1)), .int (nI aa), .ref (b + 128), .ref (b + 129), .ref (b + 130), .ref (b + 131), .ref (b + 132), .ref (b + 133), .int (nI op), .int (nI false.toNat), .int (nI (1 <<< (ats + 1))), .int (nI (1 <<< (ats + 1))), .ref (b + 134), .ref (b + 135), .ref (b + 136), .int (nI wa), .ref (b + 137), .ref (b + 138), .ref (b + 139), .int (nI wc), .ref (b + 140), .int (nI kl), .ref (b + 141), .ref (b + 142), .ref (b + 143), .ref (b + 144), .ref (b + 145)]) rfl (Nat.le_of_ble_eq_true rfl) dX7_atom_52 (fun H locs E6 hP hS hE0 hq => ?_)
  have hE1 := (hq 126 (by decide)).trans hE1
  have hE2 := (hq 127 (by decide)).trans hE2
  have hfr : ∀ j, j ≠ 119 → j ≠ 126 → j ≠ 127 → E6 j = E j := fun j h0 h1 h2 => (hq j h0).trans (hfr j h0 h1 h2)
  exact wm_vret (post := pX7_atom C b E th sz fa pl ats aa op fi la wa wc kl be v ml fo) X hr hP hS ⟨hE0, hE1, hE2, hfr⟩ hQ dX7_atom_55
def pX7_beginRow (C : Nat → ClassId) (b : Nat) (E : Nat → va_E) (th sz fa pl ats aa op fi la wa wc kl : Nat) (be : Bool) (rB : Nat → Bool) (rF rL : Nat → Nat) : (Nat → va_E) → Prop := fun E' => E' 131 = wm_Z C 22 (va_up rB op true) ∧ E' 132 = wm_I C 22 (va_up rF op 0) ∧ E' 133 = wm_I C 22 (va_up rL op 0) ∧ (∀ j, j ≠ 131 → j ≠ 132 → j ≠ 133 → E' j = E j)
set_option maxHeartbeats 4000000 in
set_option maxRecDepth 100000 in
theorem kX7_beginRow (l : Launch) (D : va_G) (C : Nat → ClassId) (b n : Nat) (E : Nat → va_E) (th sz fa pl ats aa op fi la wa wc kl : Nat) (be : Bool) (rB : Nat → Bool) (rF rL : Nat → Nat) (hlt0 : 119 < n) (hE0 : E 119 = .inr (7, [.int (nI th), .ref (b + 120), .int (nI sz), .int (nI fa), .int (nI pl), .ref (b + 121), .ref (b + 122), .ref (b + 123), .ref (b + 124), .ref (b + 125), .ref (b + 126), .ref (b + 127), .int (nI ats), .int (nI aa), .ref (b + 128), .ref (b + 129), .ref (b + 130), .ref (b + 131), .ref (b + 132), .ref (b + 133), .int (nI op), .int (nI be.toNat), .int (nI fi), .int (nI la), .ref (b + 134), .ref (b + 135), .ref (b + 136), .int (nI wa), .ref (b + 137), .ref (b + 138), .ref (b + 139), .int (nI wc), .ref (b + 140), .int (nI kl), .ref (b + 141), .ref (b + 142), .ref (b + 143), .ref (b + 144), .ref (b + 145)])) (hlt1 : 131 < n) (hE1 : E 131 = wm_Z C 22 rB) (hlt2 : 132 < n) (hE2 : E 132 = wm_I C 22 rF) (hlt3 : 133 < n) (hE3 : E 133 = wm_I C 22 rL) (ho : op ≤ 20) : Met l yX7_beginRow (wm_ws yX7_beginRow cX7_beginRow 1 none) { frames := 0, cells := 0, slots := 0, locals := 0 } (va_Pc [.ref (b + 119)] (wm_G D C b n E)) (va_Qv (pX7_beginRow C b E th sz fa pl ats aa op fi la wa wc kl be rB rF rL) (fun E' t => wm_P D b n E' t.heap) (wm_A b)) 0 0 (wm_A b) := by
  refine wm_ofW (by decide) (Nat.le_of_ble_eq_true rfl) (fun p e s m below meth c ls R args Q hRe hQ X hr hnm hP hS hl => ?_)
  have hl : lv_has ls 1 [(0, .ref (b + 119))] := hl
  have hfr : ∀ j, j ≠ 131 → j ≠ 132 → j ≠ 133 → E j = E j := fun _ _ _ _ => rfl
  refine lv_aload_n X.1 X.2.1 dX7_beginRow_0 rfl (lv_at hl 0 rfl) ?_
  refine wm_get X hP hlt0 hE0 rfl wm_inX7 17 (by decide) wq5_39 rfl dX7_beginRow_1 ?_
  refine lv_aload_n X.1 X.2.1 dX7_beginRow_4 rfl (lv_at hl 0 rfl) ?_
  refine wm_get X hP hlt0 hE0 rfl wm_inX7 20 (by decide) wq5_42 rfl dX7_beginRow_5 ?_
  refine lv_iconst (v := nI 1) X.1 X.2.1 dX7_beginRow_8 (by decide) ?_
  refine wm_zast (i := op) (x := true) X hP hS hlt1 hE1 (by omega) (by decide) dX7_beginRow_9 (fun H locs E1 hP hS hE1 hq => ?_)
  have hE0 := (hq 119 (by decide)).trans hE0
  have hE2 := (hq 132 (by decide)).trans hE2
  have hE3 := (hq 133 (by decide)).trans hE3
  have hfr : ∀ j, j ≠ 131 → j ≠ 132 → j ≠ 133 → E1 j = E j := fun j h0 h1 h2 => (hq j h0).trans (hfr j h0 h1 h2)
  refine lv_aload_n X.1 X.2.1 dX7_beginRow_10 rfl (lv_at hl 0 rfl) ?_
  refine wm_get X hP hlt0 hE0 rfl wm_inX7 18 (by decide) wq5_40 rfl dX7_beginRow_11 ?_
  refine lv_aload_n X.1 X.2.1 dX7_beginRow_14 rfl (lv_at hl 0 rfl) ?_
  refine wm_get X hP hlt0 hE0 rfl wm_inX7 20 (by decide) wq5_42 rfl dX7_beginRow_15 ?_
  refine lv_iconst (v := nI 0) X.1 X.2.1 dX7_beginRow_18 (by decide) ?_
  refine wm_iast (i := op) (x := 0) X hP hS hlt2 hE2 (by omega) (by decide) dX7_beginRow_19 (fun H locs E2 hP hS hE2 hq => ?_)
  have hE0 := (hq 119 (by decide)).trans hE0
  have hE1 := (hq 131 (by decide)).trans hE1
  have hE3 := (hq 133 (by decide)).trans hE3
  have hfr : ∀ j, j ≠ 131 → j ≠ 132 → j ≠ 133 → E2 j = E j := fun j h0 h1 h2 => (hq j h1).trans (hfr j h0 h1 h2)
  refine lv_aload_n X.1 X.2.1 dX7_beginRow_20 rfl (lv_at hl 0 rfl) ?_
  refine wm_get X hP hlt0 hE0 rfl wm_inX7 19 (by decide) wq5_41 rfl dX7_beginRow_21 ?_
  refine lv_aload_n X.1 X.2.1 dX7_beginRow_24 rfl (lv_at hl 0 rfl) ?_
  refine wm_get X hP hlt0 hE0 rfl wm_inX7 20 (by decide) wq5_42 rfl dX7_beginRow_25 ?_
  refine lv_iconst (v := nI 0) X.1 X.2.1 dX7_beginRow_28 (by decide) ?_
  refine wm_iast (i := op) (x := 0) X hP hS hlt3 hE3 (by omega) (by decide) dX7_beginRow_29 (fun H locs E3 hP hS hE3 hq => ?_)
  have hE0 := (hq 119 (by decide)).trans hE0
  have hE1 := (hq 131 (by decide)).trans hE1
  have hE2 := (hq 132 (by decide)).trans hE2
  have hfr : ∀ j, j ≠ 131 → j ≠ 132 → j ≠ 133 → E3 j = E j := fun j h0 h1 h2 => (hq j h2).trans (hfr j h0 h1 h2)
  exact wm_vret (post := pX7_beginRow C b E th sz fa pl ats aa op fi la wa wc kl be rB rF rL) X hr hP hS ⟨hE1, hE2, hE3, hfr⟩ hQ dX7_beginRow_30
def pX7_beginParts (C : Nat → ClassId) (b : Nat) (E : Nat → va_E) (th sz fa pl ats aa op fi la wa wc kl : Nat) (be : Bool) (pB rB : Nat → Bool) (pF pL rF rL : Nat → Nat) : (Nat → va_E) → Prop := fun E' => E' 128 = wm_Z C 22 (va_up pB op false) ∧ E' 129 = wm_I C 22 (va_up pF op 0) ∧ E' 130 = wm_I C 22 (va_up pL op 0) ∧ E' 131 = wm_Z C 22 (va_up rB op true) ∧ E' 132 = wm_I C 22 (va_up rF op 0) ∧ E' 133 = wm_I C 22 (va_up rL op 0) ∧ (∀ j, j ≠ 128 → j ≠ 129 → j ≠ 130 → j ≠ 131 → j ≠ 132 → j ≠ 133 → E' j = E j)
set_option maxHeartbeats 4000000 in
set_option maxRecDepth 100000 in
theorem kX7_beginParts (l : Launch) (D : va_G) (C : Nat → ClassId) (b n : Nat) (E : Nat → va_E) (th sz fa pl ats aa op fi la wa wc kl : Nat) (be : Bool) (pB rB : Nat → Bool) (pF pL rF rL : Nat → Nat) (hlt0 : 119 < n) (hE0 : E 119 = .inr (7, [.int (nI th), .ref (b + 120), .int (nI sz), .int (nI fa), .int (nI pl), .ref (b + 121), .ref (b + 122), .ref (b + 123), .ref (b + 124), .ref (b + 125), .ref (b + 126), .ref (b + 127), .int (nI ats), .int (nI aa), .ref (b + 128), .ref (b + 129), .ref (b + 130), .ref (b + 131), .ref (b + 132), .ref (b + 133), .int (nI op), .int (nI be.toNat), .int (nI fi), .int (nI la), .ref (b + 134), .ref (b + 135), .ref (b + 136), .int (nI wa), .ref (b + 137), .ref (b + 138), .ref (b + 139), .int (nI wc), .ref (b + 140), .int (nI kl), .ref (b + 141), .ref (b + 142), .ref (b + 143), .ref (b + 144), .ref (b + 145)])) (hlt1 : 128 < n) (hE1 : E 128 = wm_Z C 22 pB) (hlt2 : 129 < n) (hE2 : E 129 = wm_I C 22 pF) (hlt3 : 130 < n) (hE3 : E 130 = wm_I C 22 pL) (hlt4 : 131 < n) (hE4 : E 131 = wm_Z C 22 rB) (hlt5 : 132 < n) (hE5 : E 132 = wm_I C 22 rF) (hlt6 : 133 < n) (hE6 : E 133 = wm_I C 22 rL) (ho : op ≤ 20) : Met l yX7_beginParts (wm_ws yX7_beginParts cX7_beginParts 1 none) { frames := 1, cells := 0, slots := 0, locals := 20 } (va_Pc [.ref (b + 119)] (wm_G D C b n E)) (va_Qv (pX7_beginParts C b E th sz fa pl ats aa op fi la wa wc kl be pB rB pF pL rF rL) (fun E' t => wm_P D b n E' t.heap) (wm_A b)) 0 0 (wm_A b) := by
  refine wm_ofW (by decide) (Nat.le_of_ble_eq_true rfl) (fun p e s m below meth c ls R args Q hRe hQ X hr hnm hP hS hl => ?_)
  have hl : lv_has ls 1 [(0, .ref (b + 119))] := hl
  have hfr : ∀ j, j ≠ 128 → j ≠ 129 → j ≠ 130 → j ≠ 131 → j ≠ 132 → j ≠ 133 → E j = E j := fun _ _ _ _ _ _ _ => rfl
  refine lv_aload_n X.1 X.2.1 dX7_beginParts_0 rfl (lv_at hl 0 rfl) ?_
  refine wm_get X hP hlt0 hE0 rfl wm_inX7 14 (by decide) wq5_36 rfl dX7_beginParts_1 ?_
  refine lv_aload_n X.1 X.2.1 dX7_beginParts_4 rfl (lv_at hl 0 rfl) ?_
  refine wm_get X hP hlt0 hE0 rfl wm_inX7 20 (by decide) wq5_42 rfl dX7_beginParts_5 ?_
  refine lv_iconst (v := nI 0) X.1 X.2.1 dX7_beginParts_8 (by decide) ?_
  refine wm_zast (i := op) (x := false) X hP hS hlt1 hE1 (by omega) (by decide) dX7_beginParts_9 (fun H locs E1 hP hS hE1 hq => ?_)
  have hE0 := (hq 119 (by decide)).trans hE0
  have hE2 := (hq 129 (by decide)).trans hE2
  have hE3 := (hq 130 (by decide)).trans hE3
  have hE4 := (hq 131 (by decide)).trans hE4
  have hE5 := (hq 132 (by decide)).trans hE5
  have hE6 := (hq 133 (by decide)).trans hE6
  have hfr : ∀ j, j ≠ 128 → j ≠ 129 → j ≠ 130 → j ≠ 131 → j ≠ 132 → j ≠ 133 → E1 j = E j := fun j h0 h1 h2 h3 h4 h5 => (hq j h0).trans (hfr j h0 h1 h2 h3 h4 h5)
  refine lv_aload_n X.1 X.2.1 dX7_beginParts_10 rfl (lv_at hl 0 rfl) ?_
  refine wm_get X hP hlt0 hE0 rfl wm_inX7 15 (by decide) wq5_37 rfl dX7_beginParts_11 ?_
  refine lv_aload_n X.1 X.2.1 dX7_beginParts_14 rfl (lv_at hl 0 rfl) ?_
  refine wm_get X hP hlt0 hE0 rfl wm_inX7 20 (by decide) wq5_42 rfl dX7_beginParts_15 ?_
  refine lv_iconst (v := nI 0) X.1 X.2.1 dX7_beginParts_18 (by decide) ?_
  refine wm_iast (i := op) (x := 0) X hP hS hlt2 hE2 (by omega) (by decide) dX7_beginParts_19 (fun H locs E2 hP hS hE2 hq => ?_)
  have hE0 := (hq 119 (by decide)).trans hE0
  have hE1 := (hq 128 (by decide)).trans hE1
  have hE3 := (hq 130 (by decide)).trans hE3
  have hE4 := (hq 131 (by decide)).trans hE4
  have hE5 := (hq 132 (by decide)).trans hE5
  have hE6 := (hq 133 (by decide)).trans hE6
  have hfr : ∀ j, j ≠ 128 → j ≠ 129 → j ≠ 130 → j ≠ 131 → j ≠ 132 → j ≠ 133 → E2 j = E j := fun j h0 h1 h2 h3 h4 h5 => (hq j h1).trans (hfr j h0 h1 h2 h3 h4 h5)
  refine lv_aload_n X.1 X.2.1 dX7_beginParts_20 rfl (lv_at hl 0 rfl) ?_
  refine wm_get X hP hlt0 hE0 rfl wm_inX7 16 (by decide) wq5_38 rfl dX7_beginParts_21 ?_
  refine lv_aload_n X.1 X.2.1 dX7_beginParts_24 rfl (lv_at hl 0 rfl) ?_
  refine wm_get X hP hlt0 hE0 rfl wm_inX7 20 (by decide) wq5_42 rfl dX7_beginParts_25 ?_
  refine lv_iconst (v := nI 0) X.1 X.2.1 dX7_beginParts_28 (by decide) ?_
  refine wm_iast (i := op) (x := 0) X hP hS hlt3 hE3 (by omega) (by decide) dX7_beginParts_29 (fun H locs E3 hP hS hE3 hq => ?_)
  have hE0 := (hq 119 (by decide)).trans hE0
  have hE1 := (hq 128 (by decide)).trans hE1
  have hE2 := (hq 129 (by decide)).trans hE2
  have hE4 := (hq 131 (by decide)).trans hE4
  have hE5 := (hq 132 (by decide)).trans hE5
  have hE6 := (hq 133 (by decide)).trans hE6
  have hfr : ∀ j, j ≠ 128 → j ≠ 129 → j ≠ 130 → j ≠ 131 → j ≠ 132 → j ≠ 133 → E3 j = E j := fun j h0 h1 h2 h3 h4 h5 => (hq j h2).trans (hfr j h0 h1 h2 h3 h4 h5)
  refine lv_aload_n X.1 X.2.1 dX7_beginParts_30 rfl (lv_at hl 0 rfl) ?_
  refine wm_callVv (k := 0) (As := []) (rest := []) X hP hS hlt0 hE0 rfl (kX7_beginRow l D C b n E3 th sz fa pl ats aa op fi la wa wc kl be rB rF rL hlt0 hE0 hlt4 hE4 hlt5 hE5 hlt6 hE6 (by omega)) wq5_165 wq5_167 wqP3_1 wq1_8 wq5_168 (by decide) (by rw [hRe]; exact ⟨Nat.le_of_ble_eq_true rfl, Nat.le_of_ble_eq_true rfl⟩) rfl hl.1 rfl (Nat.le_of_ble_eq_true rfl) (Nat.zero_le _) (Nat.zero_le _) dX7_beginParts_31 (fun E4 H locs hw hP hS => ?_)
  obtain ⟨hE4, hE5, hE6, hq⟩ := hw
  have hE0 := (hq 119 (by decide) (by decide) (by decide)).trans hE0
  have hE1 := (hq 128 (by decide) (by decide) (by decide)).trans hE1
  have hE2 := (hq 129 (by decide) (by decide) (by decide)).trans hE2
  have hE3 := (hq 130 (by decide) (by decide) (by decide)).trans hE3
  have hfr : ∀ j, j ≠ 128 → j ≠ 129 → j ≠ 130 → j ≠ 131 → j ≠ 132 → j ≠ 133 → E4 j = E j := fun j h0 h1 h2 h3 h4 h5 => (hq j h3 h4 h5).trans (hfr j h0 h1 h2 h3 h4 h5)
  exact wm_vret (post := pX7_beginParts C b E th sz fa pl ats aa op fi la wa wc kl be pB rB pF pL rF rL) X hr hP hS ⟨hE1, hE2, hE3, hE4, hE5, hE6, hfr⟩ hQ dX7_beginParts_34
def pX7_endRow (C : Nat → ClassId) (b : Nat) (E : Nat → va_E) (th sz fa pl ats aa op fi la wa wc kl : Nat) (be : Bool) (pB rB : Nat → Bool) (pF pL rF rL : Nat → Nat) : (Nat → va_E) → Prop := fun E' => E' 128 = wm_Z C 22 (va_up pB op (pB op || rB op)) ∧ E' 129 = wm_I C 22 (va_up pF op (pF op ||| rF op)) ∧ E' 130 = wm_I C 22 (va_up pL op (pL op ||| rL op)) ∧ (∀ j, j ≠ 128 → j ≠ 129 → j ≠ 130 → E' j = E j)
set_option maxHeartbeats 4000000 in
set_option maxRecDepth 100000 in
theorem kX7_endRow (l : Launch) (D : va_G) (C : Nat → ClassId) (b n : Nat) (E : Nat → va_E) (th sz fa pl ats aa op fi la wa wc kl : Nat) (be : Bool) (pB rB : Nat → Bool) (pF pL rF rL : Nat → Nat) (hlt0 : 119 < n) (hE0 : E 119 = .inr (7, [.int (nI th), .ref (b + 120), .int (nI sz), .int (nI fa), .int (nI pl), .ref (b + 121), .ref (b + 122), .ref (b + 123), .ref (b + 124), .ref (b + 125), .ref (b + 126), .ref (b + 127), .int (nI ats), .int (nI aa), .ref (b + 128), .ref (b + 129), .ref (b + 130), .ref (b + 131), .ref (b + 132), .ref (b + 133), .int (nI op), .int (nI be.toNat), .int (nI fi), .int (nI la), .ref (b + 134), .ref (b + 135), .ref (b + 136), .int (nI wa), .ref (b + 137), .ref (b + 138), .ref (b + 139), .int (nI wc), .ref (b + 140), .int (nI kl), .ref (b + 141), .ref (b + 142), .ref (b + 143), .ref (b + 144), .ref (b + 145)])) (hlt1 : 128 < n) (hE1 : E 128 = wm_Z C 22 pB) (hlt2 : 129 < n) (hE2 : E 129 = wm_I C 22 pF) (hlt3 : 130 < n) (hE3 : E 130 = wm_I C 22 pL) (hlt4 : 131 < n) (hE4 : E 131 = wm_Z C 22 rB) (hlt5 : 132 < n) (hE5 : E 132 = wm_I C 22 rF) (hlt6 : 133 < n) (hE6 : E 133 = wm_I C 22 rL) (ho : op ≤ 20) : Met l yX7_endRow (wm_ws yX7_endRow cX7_endRow 1 none) { frames := 0, cells := 0, slots := 0, locals := 0 } (va_Pc [.ref (b + 119)] (wm_G D C b n E)) (va_Qv (pX7_endRow C b E th sz fa pl ats aa op fi la wa wc kl be pB rB pF pL rF rL) (fun E' t => wm_P D b n E' t.heap) (wm_A b)) 0 0 (wm_A b) := by
  refine wm_ofW (by decide) (Nat.le_of_ble_eq_true rfl) (fun p e s m below meth c ls R args Q hRe hQ X hr hnm hP hS hl => ?_)
  have hl : lv_has ls 1 [(0, .ref (b + 119))] := hl
  have hfr : ∀ j, j ≠ 128 → j ≠ 129 → j ≠ 130 → E j = E j := fun _ _ _ _ => rfl
  refine lv_aload_n X.1 X.2.1 dX7_endRow_0 rfl (lv_at hl 0 rfl) ?_
  refine wm_get X hP hlt0 hE0 rfl wm_inX7 14 (by decide) wq5_36 rfl dX7_endRow_1 ?_
  refine lv_aload_n X.1 X.2.1 dX7_endRow_4 rfl (lv_at hl 0 rfl) ?_
  refine wm_get X hP hlt0 hE0 rfl wm_inX7 20 (by decide) wq5_42 rfl dX7_endRow_5 ?_
  refine lv_aload_n X.1 X.2.1 dX7_endRow_8 rfl (lv_at hl 0 rfl) ?_
  refine wm_get X hP hlt0 hE0 rfl wm_inX7 14 (by decide) wq5_36 rfl dX7_endRow_9 ?_
  refine lv_aload_n X.1 X.2.1 dX7_endRow_12 rfl (lv_at hl 0 rfl) ?_
  refine wm_get X hP hlt0 hE0 rfl wm_inX7 20 (by decide) wq5_42 rfl dX7_endRow_13 ?_
  refine wm_zald (i := op) X hP hlt1 hE1 (by omega) (by decide) dX7_endRow_16 ?_
  refine wm_ifz_ne (x := (pB op)) (tgt := 32) X dX7_endRow_17 (by decide) (fun hc17 => ?_) (fun hc17 => ?_)
  · refine lv_iconst (v := nI 1) X.1 X.2.1 dX7_endRow_32 (by decide) ?_
    refine lv_goto (tgt := 37) X.1 X.2.1 dX7_endRow_33 (by decide) ?_
    refine wm_zast (i := op) (x := true) X hP hS hlt1 hE1 (by omega) (by decide) dX7_endRow_37 (fun H locs E2 hP hS hE1 hq => ?_)
    have hE0 := (hq 119 (by decide)).trans hE0
    have hE2 := (hq 129 (by decide)).trans hE2
    have hE3 := (hq 130 (by decide)).trans hE3
    have hE4 := (hq 131 (by decide)).trans hE4
    have hE5 := (hq 132 (by decide)).trans hE5
    have hE6 := (hq 133 (by decide)).trans hE6
    have hfr : ∀ j, j ≠ 128 → j ≠ 129 → j ≠ 130 → E2 j = E j := fun j h0 h1 h2 => (hq j h0).trans (hfr j h0 h1 h2)
    refine lv_aload_n X.1 X.2.1 dX7_endRow_38 rfl (lv_at hl 0 rfl) ?_
    refine wm_get X hP hlt0 hE0 rfl wm_inX7 15 (by decide) wq5_37 rfl dX7_endRow_39 ?_
    refine lv_aload_n X.1 X.2.1 dX7_endRow_42 rfl (lv_at hl 0 rfl) ?_
    refine wm_get X hP hlt0 hE0 rfl wm_inX7 20 (by decide) wq5_42 rfl dX7_endRow_43 ?_
    refine lv_aload_n X.1 X.2.1 dX7_endRow_46 rfl (lv_at hl 0 rfl) ?_
    refine wm_get X hP hlt0 hE0 rfl wm_inX7 15 (by decide) wq5_37 rfl dX7_endRow_47 ?_
    refine lv_aload_n X.1 X.2.1 dX7_endRow_50 rfl (lv_at hl 0 rfl) ?_
    refine wm_get X hP hlt0 hE0 rfl wm_inX7 20 (by decide) wq5_42 rfl dX7_endRow_51 ?_
    refine wm_iald (i := op) X hP hlt2 hE2 (by omega) (by decide) dX7_endRow_54 ?_
    refine lv_aload_n X.1 X.2.1 dX7_endRow_55 rfl (lv_at hl 0 rfl) ?_
    refine wm_get X hP hlt0 hE0 rfl wm_inX7 18 (by decide) wq5_40 rfl dX7_endRow_56 ?_
    refine lv_aload_n X.1 X.2.1 dX7_endRow_59 rfl (lv_at hl 0 rfl) ?_
    refine wm_get X hP hlt0 hE0 rfl wm_inX7 20 (by decide) wq5_42 rfl dX7_endRow_60 ?_
    refine wm_iald (i := op) X hP hlt5 hE5 (by omega) (by decide) dX7_endRow_63 ?_
    refine wm_ior (x := (pF op)) (y := (rF op)) X dX7_endRow_64 ?_
    refine wm_iast (i := op) (x := ((pF op) ||| (rF op))) X hP hS hlt2 hE2 (by omega) (by decide) dX7_endRow_65 (fun H locs E3 hP hS hE2 hq => ?_)
    have hE0 := (hq 119 (by decide)).trans hE0
    have hE1 := (hq 128 (by decide)).trans hE1
    have hE3 := (hq 130 (by decide)).trans hE3
    have hE4 := (hq 131 (by decide)).trans hE4
    have hE5 := (hq 132 (by decide)).trans hE5
    have hE6 := (hq 133 (by decide)).trans hE6
    have hfr : ∀ j, j ≠ 128 → j ≠ 129 → j ≠ 130 → E3 j = E j := fun j h0 h1 h2 => (hq j h1).trans (hfr j h0 h1 h2)
    refine lv_aload_n X.1 X.2.1 dX7_endRow_66 rfl (lv_at hl 0 rfl) ?_
    refine wm_get X hP hlt0 hE0 rfl wm_inX7 16 (by decide) wq5_38 rfl dX7_endRow_67 ?_
    refine lv_aload_n X.1 X.2.1 dX7_endRow_70 rfl (lv_at hl 0 rfl) ?_
    refine wm_get X hP hlt0 hE0 rfl wm_inX7 20 (by decide) wq5_42 rfl dX7_endRow_71 ?_
    refine lv_aload_n X.1 X.2.1 dX7_endRow_74 rfl (lv_at hl 0 rfl) ?_
    refine wm_get X hP hlt0 hE0 rfl wm_inX7 16 (by decide) wq5_38 rfl dX7_endRow_75 ?_
    refine lv_aload_n X.1 X.2.1 dX7_endRow_78 rfl (lv_at hl 0 rfl) ?_
    refine wm_get X hP hlt0 hE0 rfl wm_inX7 20 (by decide) wq5_42 rfl dX7_endRow_79 ?_
    refine wm_iald (i := op) X hP hlt3 hE3 (by omega) (by decide) dX7_endRow_82 ?_
    refine lv_aload_n X.1 X.2.1 dX7_endRow_83 rfl (lv_at hl 0 rfl) ?_
    refine wm_get X hP hlt0 hE0 rfl wm_inX7 19 (by decide) wq5_41 rfl dX7_endRow_84 ?_
    refine lv_aload_n X.1 X.2.1 dX7_endRow_87 rfl (lv_at hl 0 rfl) ?_
    refine wm_get X hP hlt0 hE0 rfl wm_inX7 20 (by decide) wq5_42 rfl dX7_endRow_88 ?_
    refine wm_iald (i := op) X hP hlt6 hE6 (by omega) (by decide) dX7_endRow_91 ?_
    refine wm_ior (x := (pL op)) (y := (rL op)) X dX7_endRow_92 ?_
    refine wm_iast (i := op) (x := ((pL op) ||| (rL op))) X hP hS hlt3 hE3 (by omega) (by decide) dX7_endRow_93 (fun H locs E4 hP hS hE3 hq => ?_)
    have hE0 := (hq 119 (by decide)).trans hE0
    have hE1 := (hq 128 (by decide)).trans hE1
    have hE2 := (hq 129 (by decide)).trans hE2
    have hE4 := (hq 131 (by decide)).trans hE4
    have hE5 := (hq 132 (by decide)).trans hE5
    have hE6 := (hq 133 (by decide)).trans hE6
    have hfr : ∀ j, j ≠ 128 → j ≠ 129 → j ≠ 130 → E4 j = E j := fun j h0 h1 h2 => (hq j h2).trans (hfr j h0 h1 h2)
    exact wm_vret (post := pX7_endRow C b E th sz fa pl ats aa op fi la wa wc kl be pB rB pF pL rF rL) X hr hP hS ⟨(by rw [hc17]; exact hE1), hE2, hE3, hfr⟩ hQ dX7_endRow_94
  · refine lv_aload_n X.1 X.2.1 dX7_endRow_20 rfl (lv_at hl 0 rfl) ?_
    refine wm_get X hP hlt0 hE0 rfl wm_inX7 17 (by decide) wq5_39 rfl dX7_endRow_21 ?_
    refine lv_aload_n X.1 X.2.1 dX7_endRow_24 rfl (lv_at hl 0 rfl) ?_
    refine wm_get X hP hlt0 hE0 rfl wm_inX7 20 (by decide) wq5_42 rfl dX7_endRow_25 ?_
    refine wm_zald (i := op) X hP hlt4 hE4 (by omega) (by decide) dX7_endRow_28 ?_
    refine wm_ifz_eq (x := (rB op)) (tgt := 36) X dX7_endRow_29 (by decide) (fun hc29 => ?_) (fun hc29 => ?_)
    · refine lv_iconst (v := nI 0) X.1 X.2.1 dX7_endRow_36 (by decide) ?_
      refine wm_zast (i := op) (x := false) X hP hS hlt1 hE1 (by omega) (by decide) dX7_endRow_37 (fun H locs E6 hP hS hE1 hq => ?_)
      have hE0 := (hq 119 (by decide)).trans hE0
      have hE2 := (hq 129 (by decide)).trans hE2
      have hE3 := (hq 130 (by decide)).trans hE3
      have hE4 := (hq 131 (by decide)).trans hE4
      have hE5 := (hq 132 (by decide)).trans hE5
      have hE6 := (hq 133 (by decide)).trans hE6
      have hfr : ∀ j, j ≠ 128 → j ≠ 129 → j ≠ 130 → E6 j = E j := fun j h0 h1 h2 => (hq j h0).trans (hfr j h0 h1 h2)
      refine lv_aload_n X.1 X.2.1 dX7_endRow_38 rfl (lv_at hl 0 rfl) ?_
      refine wm_get X hP hlt0 hE0 rfl wm_inX7 15 (by decide) wq5_37 rfl dX7_endRow_39 ?_
      refine lv_aload_n X.1 X.2.1 dX7_endRow_42 rfl (lv_at hl 0 rfl) ?_
      refine wm_get X hP hlt0 hE0 rfl wm_inX7 20 (by decide) wq5_42 rfl dX7_endRow_43 ?_
      refine lv_aload_n X.1 X.2.1 dX7_endRow_46 rfl (lv_at hl 0 rfl) ?_
      refine wm_get X hP hlt0 hE0 rfl wm_inX7 15 (by decide) wq5_37 rfl dX7_endRow_47 ?_
      refine lv_aload_n X.1 X.2.1 dX7_endRow_50 rfl (lv_at hl 0 rfl) ?_
      refine wm_get X hP hlt0 hE0 rfl wm_inX7 20 (by decide) wq5_42 rfl dX7_endRow_51 ?_
      refine wm_iald (i := op) X hP hlt2 hE2 (by omega) (by decide) dX7_endRow_54 ?_
      refine lv_aload_n X.1 X.2.1 dX7_endRow_55 rfl (lv_at hl 0 rfl) ?_
      refine wm_get X hP hlt0 hE0 rfl wm_inX7 18 (by decide) wq5_40 rfl dX7_endRow_56 ?_
      refine lv_aload_n X.1 X.2.1 dX7_endRow_59 rfl (lv_at hl 0 rfl) ?_
      refine wm_get X hP hlt0 hE0 rfl wm_inX7 20 (by decide) wq5_42 rfl dX7_endRow_60 ?_
      refine wm_iald (i := op) X hP hlt5 hE5 (by omega) (by decide) dX7_endRow_63 ?_
      refine wm_ior (x := (pF op)) (y := (rF op)) X dX7_endRow_64 ?_
      refine wm_iast (i := op) (x := ((pF op) ||| (rF op))) X hP hS hlt2 hE2 (by omega) (by decide) dX7_endRow_65 (fun H locs E7 hP hS hE2 hq => ?_)
      have hE0 := (hq 119 (by decide)).trans hE0
      have hE1 := (hq 128 (by decide)).trans hE1
      have hE3 := (hq 130 (by decide)).trans hE3
      have hE4 := (hq 131 (by decide)).trans hE4
      have hE5 := (hq 132 (by decide)).trans hE5
      have hE6 := (hq 133 (by decide)).trans hE6
      have hfr : ∀ j, j ≠ 128 → j ≠ 129 → j ≠ 130 → E7 j = E j := fun j h0 h1 h2 => (hq j h1).trans (hfr j h0 h1 h2)
      refine lv_aload_n X.1 X.2.1 dX7_endRow_66 rfl (lv_at hl 0 rfl) ?_
      refine wm_get X hP hlt0 hE0 rfl wm_inX7 16 (by decide) wq5_38 rfl dX7_endRow_67 ?_
      refine lv_aload_n X.1 X.2.1 dX7_endRow_70 rfl (lv_at hl 0 rfl) ?_
      refine wm_get X hP hlt0 hE0 rfl wm_inX7 20 (by decide) wq5_42 rfl dX7_endRow_71 ?_
      refine lv_aload_n X.1 X.2.1 dX7_endRow_74 rfl (lv_at hl 0 rfl) ?_
      refine wm_get X hP hlt0 hE0 rfl wm_inX7 16 (by decide) wq5_38 rfl dX7_endRow_75 ?_
      refine lv_aload_n X.1 X.2.1 dX7_endRow_78 rfl (lv_at hl 0 rfl) ?_
      refine wm_get X hP hlt0 hE0 rfl wm_inX7 20 (by decide) wq5_42 rfl dX7_endRow_79 ?_
      refine wm_iald (i := op) X hP hlt3 hE3 (by omega) (by decide) dX7_endRow_82 ?_
      refine lv_aload_n X.1 X.2.1 dX7_endRow_83 rfl (lv_at hl 0 rfl) ?_
      refine wm_get X hP hlt0 hE0 rfl wm_inX7 19 (by decide) wq5_41 rfl dX7_endRow_84 ?_
      refine lv_aload_n X.1 X.2.1 dX7_endRow_87 rfl (lv_at hl 0 rfl) ?_
      refine wm_get X hP hlt0 hE0 rfl wm_inX7 20 (by decide) wq5_42 rfl dX7_endRow_88 ?_
      refine wm_iald (i := op) X hP hlt6 hE6 (by omega) (by decide) dX7_endRow_91 ?_
      refine wm_ior (x := (pL op)) (y := (rL op)) X dX7_endRow_92 ?_
      refine wm_iast (i := op) (x := ((pL op) ||| (rL op))) X hP hS hlt3 hE3 (by omega) (by decide) dX7_endRow_93 (fun H locs E8 hP hS hE3 hq => ?_)
      have hE0 := (hq 119 (by decide)).trans hE0
      have hE1 := (hq 128 (by decide)).trans hE1
      have hE2 := (hq 129 (by decide)).trans hE2
      have hE4 := (hq 131 (by decide)).trans hE4
      have hE5 := (hq 132 (by decide)).trans hE5
      have hE6 := (hq 133 (by decide)).trans hE6
      have hfr : ∀ j, j ≠ 128 → j ≠ 129 → j ≠ 130 → E8 j = E j := fun j h0 h1 h2 => (hq j h2).trans (hfr j h0 h1 h2)
      exact wm_vret (post := pX7_endRow C b E th sz fa pl ats aa op fi la wa wc kl be pB rB pF pL rF rL) X hr hP hS ⟨(by rw [hc17, hc29]; exact hE1), hE2, hE3, hfr⟩ hQ dX7_endRow_94
    · refine lv_iconst (v := nI 1) X.1 X.2.1 dX7_endRow_32 (by decide) ?_
      refine lv_goto (tgt := 37) X.1 X.2.1 dX7_endRow_33 (by decide) ?_
      refine wm_zast (i := op) (x := true) X hP hS hlt1 hE1 (by omega) (by decide) dX7_endRow_37 (fun H locs E9 hP hS hE1 hq => ?_)
      have hE0 := (hq 119 (by decide)).trans hE0
      have hE2 := (hq 129 (by decide)).trans hE2
      have hE3 := (hq 130 (by decide)).trans hE3
      have hE4 := (hq 131 (by decide)).trans hE4
      have hE5 := (hq 132 (by decide)).trans hE5
      have hE6 := (hq 133 (by decide)).trans hE6
      have hfr : ∀ j, j ≠ 128 → j ≠ 129 → j ≠ 130 → E9 j = E j := fun j h0 h1 h2 => (hq j h0).trans (hfr j h0 h1 h2)
      refine lv_aload_n X.1 X.2.1 dX7_endRow_38 rfl (lv_at hl 0 rfl) ?_
      refine wm_get X hP hlt0 hE0 rfl wm_inX7 15 (by decide) wq5_37 rfl dX7_endRow_39 ?_
      refine lv_aload_n X.1 X.2.1 dX7_endRow_42 rfl (lv_at hl 0 rfl) ?_
      refine wm_get X hP hlt0 hE0 rfl wm_inX7 20 (by decide) wq5_42 rfl dX7_endRow_43 ?_
      refine lv_aload_n X.1 X.2.1 dX7_endRow_46 rfl (lv_at hl 0 rfl) ?_
      refine wm_get X hP hlt0 hE0 rfl wm_inX7 15 (by decide) wq5_37 rfl dX7_endRow_47 ?_
      refine lv_aload_n X.1 X.2.1 dX7_endRow_50 rfl (lv_at hl 0 rfl) ?_
      refine wm_get X hP hlt0 hE0 rfl wm_inX7 20 (by decide) wq5_42 rfl dX7_endRow_51 ?_
      refine wm_iald (i := op) X hP hlt2 hE2 (by omega) (by decide) dX7_endRow_54 ?_
      refine lv_aload_n X.1 X.2.1 dX7_endRow_55 rfl (lv_at hl 0 rfl) ?_
      refine wm_get X hP hlt0 hE0 rfl wm_inX7 18 (by decide) wq5_40 rfl dX7_endRow_56 ?_
      refine lv_aload_n X.1 X.2.1 dX7_endRow_59 rfl (lv_at hl 0 rfl) ?_
      refine wm_get X hP hlt0 hE0 rfl wm_inX7 20 (by decide) wq5_42 rfl dX7_endRow_60 ?_
      refine wm_iald (i := op) X hP hlt5 hE5 (by omega) (by decide) dX7_endRow_63 ?_
      refine wm_ior (x := (pF op)) (y := (rF op)) X dX7_endRow_64 ?_
      refine wm_iast (i := op) (x := ((pF op) ||| (rF op))) X hP hS hlt2 hE2 (by omega) (by decide) dX7_endRow_65 (fun H locs E10 hP hS hE2 hq => ?_)
      have hE0 := (hq 119 (by decide)).trans hE0
      have hE1 := (hq 128 (by decide)).trans hE1
      have hE3 := (hq 130 (by decide)).trans hE3
      have hE4 := (hq 131 (by decide)).trans hE4
      have hE5 := (hq 132 (by decide)).trans hE5
      have hE6 := (hq 133 (by decide)).trans hE6
      have hfr : ∀ j, j ≠ 128 → j ≠ 129 → j ≠ 130 → E10 j = E j := fun j h0 h1 h2 => (hq j h1).trans (hfr j h0 h1 h2)
      refine lv_aload_n X.1 X.2.1 dX7_endRow_66 rfl (lv_at hl 0 rfl) ?_
      refine wm_get X hP hlt0 hE0 rfl wm_inX7 16 (by decide) wq5_38 rfl dX7_endRow_67 ?_
      refine lv_aload_n X.1 X.2.1 dX7_endRow_70 rfl (lv_at hl 0 rfl) ?_
      refine wm_get X hP hlt0 hE0 rfl wm_inX7 20 (by decide) wq5_42 rfl dX7_endRow_71 ?_
      refine lv_aload_n X.1 X.2.1 dX7_endRow_74 rfl (lv_at hl 0 rfl) ?_
      refine wm_get X hP hlt0 hE0 rfl wm_inX7 16 (by decide) wq5_38 rfl dX7_endRow_75 ?_
      refine lv_aload_n X.1 X.2.1 dX7_endRow_78 rfl (lv_at hl 0 rfl) ?_
      refine wm_get X hP hlt0 hE0 rfl wm_inX7 20 (by decide) wq5_42 rfl dX7_endRow_79 ?_
      refine wm_iald (i := op) X hP hlt3 hE3 (by omega) (by decide) dX7_endRow_82 ?_
      refine lv_aload_n X.1 X.2.1 dX7_endRow_83 rfl (lv_at hl 0 rfl) ?_
      refine wm_get X hP hlt0 hE0 rfl wm_inX7 19 (by decide) wq5_41 rfl dX7_endRow_84 ?_
      refine lv_aload_n X.1 X.2.1 dX7_endRow_87 rfl (lv_at hl 0 rfl) ?_
      refine wm_get X hP hlt0 hE0 rfl wm_inX7 20 (by decide) wq5_42 rfl dX7_endRow_88 ?_
      refine wm_iald (i := op) X hP hlt6 hE6 (by omega) (by decide) dX7_endRow_91 ?_
      refine wm_ior (x := (pL op)) (y := (rL op)) X dX7_endRow_92 ?_
      refine wm_iast (i := op) (x := ((pL op) ||| (rL op))) X hP hS hlt3 hE3 (by omega) (by decide) dX7_endRow_93 (fun H locs E11 hP hS hE3 hq => ?_)
      have hE0 := (hq 119 (by decide)).trans hE0
      have hE1 := (hq 128 (by decide)).trans hE1
      have hE2 := (hq 129 (by decide)).trans hE2
      have hE4 := (hq 131 (by decide)).trans hE4
      have hE5 := (hq 132 (by decide)).trans hE5
      have hE6 := (hq 133 (by decide)).trans hE6
      have hfr : ∀ j, j ≠ 128 → j ≠ 129 → j ≠ 130 → E11 j = E j := fun j h0 h1 h2 => (hq j h2).trans (hfr j h0 h1 h2)
      exact wm_vret (post := pX7_endRow C b E th sz fa pl ats aa op fi la wa wc kl be pB rB pF pL rF rL) X hr hP hS ⟨(by rw [hc17, hc29]; exact hE1), hE2, hE3, hfr⟩ hQ dX7_endRow_94
def pX7_take (C : Nat → ClassId) (b : Nat) (E : Nat → va_E) (th sz fa pl ats aa op fi la wa wc kl : Nat) (be : Bool) (tx fo rF rL : Nat → Nat) (rB : Nat → Bool) : (Nat → va_E) → Prop := fun E' => E' 119 = .inr (7, [.int (nI th), .ref (b + 120), .int (nI sz), .int (nI fa), .int (nI pl), .ref (b + 121), .ref (b + 122), .ref (b + 123), .ref (b + 124), .ref (b + 125), .ref (b + 126), .ref (b + 127), .int (nI ats), .int (nI ((wm_sg tx sz la fi (sz - aa) aa be fo).1)), .ref (b + 128), .ref (b + 129), .ref (b + 130), .ref (b + 131), .ref (b + 132), .ref (b + 133), .int (nI op), .int (nI ((wm_sg tx sz la fi (sz - aa) aa be fo).2.1).toNat), .int (nI fi), .int (nI la), .ref (b + 134), .ref (b + 135), .ref (b + 136), .int (nI wa), .ref (b + 137), .ref (b + 138), .ref (b + 139), .int (nI wc), .ref (b + 140), .int (nI kl), .ref (b + 141), .ref (b + 142), .ref (b + 143), .ref (b + 144), .ref (b + 145)]) ∧ E' 127 = wm_I C 24 (wm_ld (wm_sg tx sz la fi (sz - aa) aa be fo).2.2 24 (rL op) fi) ∧ E' 131 = wm_Z C 22 (va_up rB op (rB op && (wm_sg tx sz la fi (sz - aa) aa be fo).2.1)) ∧ E' 132 = wm_I C 22 (va_up rF op (if rB op then rF op ||| fi else rF op)) ∧ E' 133 = wm_I C 22 (va_up rL op (if (wm_sg tx sz la fi (sz - aa) aa be fo).2.1 then rL op ||| la else la)) ∧ (∀ j, j ≠ 119 → j ≠ 127 → j ≠ 131 → j ≠ 132 → j ≠ 133 → E' j = E j)
set_option maxHeartbeats 4000000 in
set_option maxRecDepth 100000 in
theorem kX7_take (l : Launch) (D : va_G) (C : Nat → ClassId) (b n : Nat) (E : Nat → va_E) (th sz fa pl ats aa op fi la wa wc kl : Nat) (be : Bool) (tx fo rF rL : Nat → Nat) (rB : Nat → Bool) (hlt0 : 119 < n) (hE0 : E 119 = .inr (7, [.int (nI th), .ref (b + 120), .int (nI sz), .int (nI fa), .int (nI pl), .ref (b + 121), .ref (b + 122), .ref (b + 123), .ref (b + 124), .ref (b + 125), .ref (b + 126), .ref (b + 127), .int (nI ats), .int (nI aa), .ref (b + 128), .ref (b + 129), .ref (b + 130), .ref (b + 131), .ref (b + 132), .ref (b + 133), .int (nI op), .int (nI be.toNat), .int (nI fi), .int (nI la), .ref (b + 134), .ref (b + 135), .ref (b + 136), .int (nI wa), .ref (b + 137), .ref (b + 138), .ref (b + 139), .int (nI wc), .ref (b + 140), .int (nI kl), .ref (b + 141), .ref (b + 142), .ref (b + 143), .ref (b + 144), .ref (b + 145)])) (hlt1 : 120 < n) (hE1 : E 120 = wm_I C 200 tx) (hlt2 : 127 < n) (hE2 : E 127 = wm_I C 24 fo) (hlt3 : 131 < n) (hE3 : E 131 = wm_Z C 22 rB) (hlt4 : 132 < n) (hE4 : E 132 = wm_I C 22 rF) (hlt5 : 133 < n) (hE5 : E 133 = wm_I C 22 rL) (ho : op ≤ 20) (hsz : sz ≤ 200) (haa0 : aa ≤ sz) (htx : ∀ i, tx i < 256) (hla : la < 2 ^ 31) (hrl : rL op < 2 ^ 31) : Met l yX7_take (wm_ws yX7_take cX7_take 2 none) { frames := 1, cells := 0, slots := 0, locals := 23 } (va_Pc [.ref (b + 119)] (wm_G D C b n E)) (va_Qv (pX7_take C b E th sz fa pl ats aa op fi la wa wc kl be tx fo rF rL rB) (fun E' t => wm_P D b n E' t.heap) (wm_A b)) 0 0 (wm_A b) := by
  refine wm_ofW (by decide) (Nat.le_of_ble_eq_true rfl) (fun p e s m below meth c ls R args Q hRe hQ X hr hnm hP hS hl => ?_)
  have hl : lv_has ls 2 [(0, .ref (b + 119))] := hl
  have hfr : ∀ j, j ≠ 119 → j ≠ 127 → j ≠ 131 → j ≠ 132 → j ≠ 133 → E j = E j := fun _ _ _ _ _ _ => rfl
  refine lv_aload_n X.1 X.2.1 dX7_take_0 rfl (lv_at hl 0 rfl) ?_
  refine lv_aload_n X.1 X.2.1 dX7_take_1 rfl (lv_at hl 0 rfl) ?_
  refine wm_get X hP hlt0 hE0 rfl wm_inX7 13 (by decide) wq5_35 rfl dX7_take_2 ?_
  refine wm_callVi (k := 1) (As := [.int (nI aa)]) (rest := []) X hP hS hlt0 hE0 rfl (kX7_byteAt l D C b n E th sz fa pl ats aa op fi la wa wc kl be aa tx hlt0 hE0 hlt1 hE1 (by omega) (by omega)) wq5_173 wq5_175 wqP3_3 wq1_8 wq5_176 (by decide) (by rw [hRe]; exact ⟨Nat.le_of_ble_eq_true rfl, Nat.le_of_ble_eq_true rfl⟩) rfl hl.1 rfl (Nat.le_of_ble_eq_true rfl) (Nat.zero_le _) (Nat.zero_le _) dX7_take_5 (fun r1 E1 H locs hw hP hS => ?_)
  obtain ⟨hrt, hEe⟩ := hw
  subst hrt
  subst hEe
  refine lv_istore_n (lv' := [(1, .int (nI (wm_ba tx sz aa))), (0, .ref (b + 119))]) X.1 X.2.1 dX7_take_8 rfl hl (by decide) rfl (fun ls hl => ?_)
  have L9 : ∀ (fu : Nat) (aa1 : Nat) (be1 : Bool) (fo1 : Nat → Nat), sz - aa1 < fu → (aa1 ≤ sz) → (wm_sg tx sz la fi (sz - aa1) aa1 be1 fo1 = wm_sg tx sz la fi (sz - aa) aa be fo) → ∀ (E2 : Nat → va_E) (H : Heap) (locs : List Loc) (ls : Array Slot), wm_P D b n E2 H → wm_S b s.heap H locs → E2 119 = .inr (7, [.int (nI th), .ref (b + 120), .int (nI sz), .int (nI fa), .int (nI pl), .ref (b + 121), .ref (b + 122), .ref (b + 123), .ref (b + 124), .ref (b + 125), .ref (b + 126), .ref (b + 127), .int (nI ats), .int (nI aa1), .ref (b + 128), .ref (b + 129), .ref (b + 130), .ref (b + 131), .ref (b + 132), .ref (b + 133), .int (nI op), .int (nI be1.toNat), .int (nI fi), .int (nI la), .ref (b + 134), .ref (b + 135), .ref (b + 136), .int (nI wa), .ref (b + 137), .ref (b + 138), .ref (b + 139), .int (nI wc), .ref (b + 140), .int (nI kl), .ref (b + 141), .ref (b + 142), .ref (b + 143), .ref (b + 144), .ref (b + 145)]) → E2 120 = wm_I C 200 tx → E2 127 = wm_I C 24 fo1 → E2 131 = wm_Z C 22 rB → E2 132 = wm_I C 22 rF → E2 133 = wm_I C 22 rL → (∀ j, j ≠ 119 → j ≠ 127 → j ≠ 131 → j ≠ 132 → j ≠ 133 → E2 j = E j) → lv_has ls 2 [(0, .ref (b + 119)), (1, .int (nI (wm_ba tx sz aa1)))] → W p l e R s m args below meth c H locs 0 0 Q (F0 m 9 ls []) := by
    intro fu
    induction fu with
    | zero => intro aa1 be1 fo1 hm; exact absurd hm (Nat.not_lt_zero _)
    | succ fu ih9 =>
      intro aa1 be1 fo1 hm haa hrun E2 H locs ls hP hS hE0 hE1 hE2 hE3 hE4 hE5 hfr hl
      refine lv_iload_n X.1 X.2.1 dX7_take_9 rfl (lv_at hl 1 rfl) ?_
      refine lv_bipush (v := nI 42) X.1 X.2.1 dX7_take_10 (by decide) ?_
      refine wm_icmp_eq (x := (wm_ba tx sz aa1)) (y := 42) (tgt := 27) X (wm_ba_32 htx) (by decide) dX7_take_12 (by decide) (fun hc12 => ?_) (fun hc12 => ?_)
      · have hsn9 : wm_ba tx sz aa1 = 42 ∨ wm_ba tx sz aa1 = 43 ∨ wm_ba tx sz aa1 = 63 := Or.inl hc12
        have hlt9 : aa1 < sz := by rcases hsn9 with q | q | q <;> exact (wm_ba_in q (by decide)).1
        refine lv_aload_n X.1 X.2.1 dX7_take_27 rfl (lv_at hl 0 rfl) ?_
        refine lv_aload_n X.1 X.2.1 dX7_take_28 rfl (lv_at hl 0 rfl) ?_
        refine wm_get X hP hlt0 hE0 rfl wm_inX7 21 (by decide) wq5_43 rfl dX7_take_29 ?_
        refine wm_ifz_ne (x := be1) (tgt := 41) X dX7_take_32 (by decide) (fun hc32 => ?_) (fun hc32 => ?_)
        · refine lv_iconst (v := nI 1) X.1 X.2.1 dX7_take_41 (by decide) ?_
          refine lv_goto (tgt := 46) X.1 X.2.1 dX7_take_42 (by decide) ?_
          refine wm_put (v := .int (nI true.toNat)) X hP hS hlt0 hE0 rfl wm_inX7 tyX7 tyX7_ok nmX7 21 (by decide) wq5_43 rfl (wm_nz true) (wm_fz true) (fs1 := [.int (nI th), .ref (b + 120), .int (nI sz), .int (nI fa), .int (nI pl), .ref (b + 121), .ref (b + 122), .ref (b + 123), .ref (b + 124), .ref (b + 125), .ref (b + 126), .ref (b + 127), .int (nI ats), .int (nI aa1), .ref (b + 128), .ref (b + 129), .ref (b + 130), .ref (b + 131), .ref (b + 132), .ref (b + 133), .int (nI op), .int (nI true.toNat), .int (nI fi), .int (nI la), .ref (b + 134), .ref (b + 135), .ref (b + 136), .int (nI wa), .ref (b + 137), .ref (b + 138), .ref (b + 139), .int (nI wc), .ref (b + 140), .int (nI kl), .ref (b + 141), .ref (b + 142), .ref (b + 143), .ref (b + 144), .ref (b + 145)]) rfl (Nat.le_of_ble_eq_true rfl) dX7_take_46 (fun H locs E5 hP hS hE0 hq => ?_)
          have hE1 := (hq 120 (by decide)).trans hE1
          have hE2 := (hq 127 (by decide)).trans hE2
          have hE3 := (hq 131 (by decide)).trans hE3
          have hE4 := (hq 132 (by decide)).trans hE4
          have hE5 := (hq 133 (by decide)).trans hE5
          have hfr : ∀ j, j ≠ 119 → j ≠ 127 → j ≠ 131 → j ≠ 132 → j ≠ 133 → E5 j = E j := fun j h0 h1 h2 h3 h4 => (hq j h0).trans (hfr j h0 h1 h2 h3 h4)
          refine lv_iload_n X.1 X.2.1 dX7_take_49 rfl (lv_at hl 1 rfl) ?_
          refine lv_bipush (v := nI 63) X.1 X.2.1 dX7_take_50 (by decide) ?_
          refine wm_icmp_eq (x := (wm_ba tx sz aa1)) (y := 63) (tgt := 67) X (wm_ba_32 htx) (by decide) dX7_take_52 (by decide) (fun hc52 => ?_) (fun hc52 => ?_)
          · refine lv_aload_n X.1 X.2.1 dX7_take_67 rfl (lv_at hl 0 rfl) ?_
            refine lv_dup X.1 X.2.1 dX7_take_68 rfl ?_
            refine wm_get X hP hlt0 hE0 rfl wm_inX7 13 (by decide) wq5_35 rfl dX7_take_69 ?_
            refine lv_iconst (v := nI 1) X.1 X.2.1 dX7_take_72 (by decide) ?_
            refine wm_iadd (x := aa1) (y := 1) X dX7_take_73 ?_
            refine wm_put (v := .int (nI (aa1 + 1))) X hP hS hlt0 hE0 rfl wm_inX7 tyX7 tyX7_ok nmX7 13 (by decide) wq5_35 rfl rfl rfl (fs1 := [.int (nI th), .ref (b + 120), .int (nI sz), .int (nI fa), .int (nI pl), .ref (b + 121), .ref (b + 122), .ref (b + 123), .ref (b + 124), .ref (b + 125), .ref (b + 126), .ref (b + 127), .int (nI ats), .int (nI (aa1 + 1)), .ref (b + 128), .ref (b + 129), .ref (b + 130), .ref (b + 131), .ref (b + 132), .ref (b + 133), .int (nI op), .int (nI true.toNat), .int (nI fi), .int (nI la), .ref (b + 134), .ref (b + 135), .ref (b + 136), .int (nI wa), .ref (b + 137), .ref (b + 138), .ref (b + 139), .int (nI wc), .ref (b + 140), .int (nI kl), .ref (b + 141), .ref (b + 142), .ref (b + 143), .ref (b + 144), .ref (b + 145)]) rfl (Nat.le_of_ble_eq_true rfl) dX7_take_74 (fun H locs E7 hP hS hE0 hq => ?_)
            have hE1 := (hq 120 (by decide)).trans hE1
            have hE2 := (hq 127 (by decide)).trans hE2
            have hE3 := (hq 131 (by decide)).trans hE3
            have hE4 := (hq 132 (by decide)).trans hE4
            have hE5 := (hq 133 (by decide)).trans hE5
            have hfr : ∀ j, j ≠ 119 → j ≠ 127 → j ≠ 131 → j ≠ 132 → j ≠ 133 → E7 j = E j := fun j h0 h1 h2 h3 h4 => (hq j h0).trans (hfr j h0 h1 h2 h3 h4)
            refine lv_aload_n X.1 X.2.1 dX7_take_77 rfl (lv_at hl 0 rfl) ?_
            refine lv_aload_n X.1 X.2.1 dX7_take_78 rfl (lv_at hl 0 rfl) ?_
            refine wm_get X hP hlt0 hE0 rfl wm_inX7 13 (by decide) wq5_35 rfl dX7_take_79 ?_
            refine wm_callVi (k := 1) (As := [.int (nI (aa1 + 1))]) (rest := []) X hP hS hlt0 hE0 rfl (kX7_byteAt l D C b n E7 th sz fa pl ats (aa1 + 1) op fi la wa wc kl true (aa1 + 1) tx hlt0 hE0 hlt1 hE1 (by omega) (by omega)) wq5_173 wq5_175 wqP3_3 wq1_8 wq5_176 (by decide) (by rw [hRe]; exact ⟨Nat.le_of_ble_eq_true rfl, Nat.le_of_ble_eq_true rfl⟩) rfl hl.1 rfl (Nat.le_of_ble_eq_true rfl) (Nat.zero_le _) (Nat.zero_le _) dX7_take_82 (fun r8 E8 H locs hw hP hS => ?_)
            obtain ⟨hrt, hEe⟩ := hw
            subst hrt
            subst hEe
            refine lv_istore_n (lv' := [(1, .int (nI (wm_ba tx sz (aa1 + 1)))), (0, .ref (b + 119))]) X.1 X.2.1 dX7_take_85 rfl hl (by decide) rfl (fun ls hl => ?_)
            refine lv_goto (tgt := 9) X.1 X.2.1 dX7_take_86 (by decide) ?_
            have hbe9 : (be1 || !decide (wm_ba tx sz aa1 = 43)) = true := by rw [hc32]; rfl
            have hfo9 : (if wm_ba tx sz aa1 = 63 then fo1 else wm_ld fo1 24 la fi) = fo1 := if_pos hc52
            exact ih9 (aa1 + 1) true fo1 (by omega) (by omega) (by rw [← hrun, wm_sgs hsn9, hbe9, hfo9]) E7 _ _ _ hP hS hE0 hE1 hE2 hE3 hE4 hE5 hfr (lv_sub hl [1, 0] rfl)
          · refine lv_aload_n X.1 X.2.1 dX7_take_55 rfl (lv_at hl 0 rfl) ?_
            refine lv_aload_n X.1 X.2.1 dX7_take_56 rfl (lv_at hl 0 rfl) ?_
            refine wm_get X hP hlt0 hE0 rfl wm_inX7 23 (by decide) wq5_45 rfl dX7_take_57 ?_
            refine lv_aload_n X.1 X.2.1 dX7_take_60 rfl (lv_at hl 0 rfl) ?_
            refine wm_get X hP hlt0 hE0 rfl wm_inX7 22 (by decide) wq5_44 rfl dX7_take_61 ?_
            refine wm_callVv (k := 2) (As := [.int (nI la), .int (nI fi)]) (rest := []) X hP hS hlt0 hE0 rfl (kX7_lead l D C b n E5 th sz fa pl ats aa1 op fi la wa wc kl true la fi fo1 hlt0 hE0 hlt2 hE2 (by omega)) wq5_196 wq5_198 wqP3_8 wq1_8 wq5_199 (by decide) (by rw [hRe]; exact ⟨Nat.le_of_ble_eq_true rfl, Nat.le_of_ble_eq_true rfl⟩) rfl hl.1 rfl (Nat.le_of_ble_eq_true rfl) (Nat.zero_le _) (Nat.zero_le _) dX7_take_64 (fun E9 H locs hw hP hS => ?_)
            obtain ⟨hE2, hq⟩ := hw
            have hE0 := (hq 119 (by decide)).trans hE0
            have hE1 := (hq 120 (by decide)).trans hE1
            have hE3 := (hq 131 (by decide)).trans hE3
            have hE4 := (hq 132 (by decide)).trans hE4
            have hE5 := (hq 133 (by decide)).trans hE5
            have hfr : ∀ j, j ≠ 119 → j ≠ 127 → j ≠ 131 → j ≠ 132 → j ≠ 133 → E9 j = E j := fun j h0 h1 h2 h3 h4 => (hq j h1).trans (hfr j h0 h1 h2 h3 h4)
            refine lv_aload_n X.1 X.2.1 dX7_take_67 rfl (lv_at hl 0 rfl) ?_
            refine lv_dup X.1 X.2.1 dX7_take_68 rfl ?_
            refine wm_get X hP hlt0 hE0 rfl wm_inX7 13 (by decide) wq5_35 rfl dX7_take_69 ?_
            refine lv_iconst (v := nI 1) X.1 X.2.1 dX7_take_72 (by decide) ?_
            refine wm_iadd (x := aa1) (y := 1) X dX7_take_73 ?_
            refine wm_put (v := .int (nI (aa1 + 1))) X hP hS hlt0 hE0 rfl wm_inX7 tyX7 tyX7_ok nmX7 13 (by decide) wq5_35 rfl rfl rfl (fs1 := [.int (nI th), .ref (b + 120), .int (nI sz), .int (nI fa), .int (nI pl), .ref (b + 121), .ref (b + 122), .ref (b + 123), .ref (b + 124), .ref (b + 125), .ref (b + 126), .ref (b + 127), .int (nI ats), .int (nI (aa1 + 1)), .ref (b + 128), .ref (b + 129), .ref (b + 130), .ref (b + 131), .ref (b + 132), .ref (b + 133), .int (nI op), .int (nI true.toNat), .int (nI fi), .int (nI la), .ref (b + 134), .ref (b + 135), .ref (b + 136), .int (nI wa), .ref (b + 137), .ref (b + 138), .ref (b + 139), .int (nI wc), .ref (b + 140), .int (nI kl), .ref (b + 141), .ref (b + 142), .ref (b + 143), .ref (b + 144), .ref (b + 145)]) rfl (Nat.le_of_ble_eq_true rfl) dX7_take_74 (fun H locs E10 hP hS hE0 hq => ?_)
            have hE1 := (hq 120 (by decide)).trans hE1
            have hE2 := (hq 127 (by decide)).trans hE2
            have hE3 := (hq 131 (by decide)).trans hE3
            have hE4 := (hq 132 (by decide)).trans hE4
            have hE5 := (hq 133 (by decide)).trans hE5
            have hfr : ∀ j, j ≠ 119 → j ≠ 127 → j ≠ 131 → j ≠ 132 → j ≠ 133 → E10 j = E j := fun j h0 h1 h2 h3 h4 => (hq j h0).trans (hfr j h0 h1 h2 h3 h4)
            refine lv_aload_n X.1 X.2.1 dX7_take_77 rfl (lv_at hl 0 rfl) ?_
            refine lv_aload_n X.1 X.2.1 dX7_take_78 rfl (lv_at hl 0 rfl) ?_
            refine wm_get X hP hlt0 hE0 rfl wm_inX7 13 (by decide) wq5_35 rfl dX7_take_79 ?_
            refine wm_callVi (k := 1) (As := [.int (nI (aa1 + 1))]) (rest := []) X hP hS hlt0 hE0 rfl (kX7_byteAt l D C b n E10 th sz fa pl ats (aa1 + 1) op fi la wa wc kl true (aa1 + 1) tx hlt0 hE0 hlt1 hE1 (by omega) (by omega)) wq5_173 wq5_175 wqP3_3 wq1_8 wq5_176 (by decide) (by rw [hRe]; exact ⟨Nat.le_of_ble_eq_true rfl, Nat.le_of_ble_eq_true rfl⟩) rfl hl.1 rfl (Nat.le_of_ble_eq_true rfl) (Nat.zero_le _) (Nat.zero_le _) dX7_take_82 (fun r11 E11 H locs hw hP hS => ?_)
            obtain ⟨hrt, hEe⟩ := hw
            subst hrt
            subst hEe
            refine lv_istore_n (lv' := [(1, .int (nI (wm_ba tx sz (aa1 + 1)))), (0, .ref (b + 119))]) X.1 X.2.1 dX7_take_85 rfl hl (by decide) rfl (fun ls hl => ?_)
            refine lv_goto (tgt := 9) X.1 X.2.1 dX7_take_86 (by decide) ?_
            have hbe9 : (be1 || !decide (wm_ba tx sz aa1 = 43)) = true := by rw [hc32]; rfl
            have hfo9 : (if wm_ba tx sz aa1 = 63 then fo1 else wm_ld fo1 24 la fi) = wm_ld fo1 24 la fi := if_neg hc52
            exact ih9 (aa1 + 1) true (wm_ld fo1 24 la fi) (by omega) (by omega) (by rw [← hrun, wm_sgs hsn9, hbe9, hfo9]) E10 _ _ _ hP hS hE0 hE1 hE2 hE3 hE4 hE5 hfr (lv_sub hl [1, 0] rfl)
        · refine lv_iload_n X.1 X.2.1 dX7_take_35 rfl (lv_at hl 1 rfl) ?_
          refine lv_bipush (v := nI 43) X.1 X.2.1 dX7_take_36 (by decide) ?_
          refine wm_icmp_eq (x := (wm_ba tx sz aa1)) (y := 43) (tgt := 45) X (wm_ba_32 htx) (by decide) dX7_take_38 (by decide) (fun hc38 => ?_) (fun hc38 => ?_)
          · refine lv_iconst (v := nI 0) X.1 X.2.1 dX7_take_45 (by decide) ?_
            refine wm_put (v := .int (nI false.toNat)) X hP hS hlt0 hE0 rfl wm_inX7 tyX7 tyX7_ok nmX7 21 (by decide) wq5_43 rfl (wm_nz false) (wm_fz false) (fs1 := [.int (nI th), .ref (b + 120), .int (nI sz), .int (nI fa), .int (nI pl), .ref (b + 121), .ref (b + 122), .ref (b + 123), .ref (b + 124), .ref (b + 125), .ref (b + 126), .ref (b + 127), .int (nI ats), .int (nI aa1), .ref (b + 128), .ref (b + 129), .ref (b + 130), .ref (b + 131), .ref (b + 132), .ref (b + 133), .int (nI op), .int (nI false.toNat), .int (nI fi), .int (nI la), .ref (b + 134), .ref (b + 135), .ref (b + 136), .int (nI wa), .ref (b + 137), .ref (b + 138), .ref (b + 139), .int (nI wc), .ref (b + 140), .int (nI kl), .ref (b + 141), .ref (b + 142), .ref (b + 143), .ref (b + 144), .ref (b + 145)]) rfl (Nat.le_of_ble_eq_true rfl) dX7_take_46 (fun H locs E13 hP hS hE0 hq => ?_)
            have hE1 := (hq 120 (by decide)).trans hE1
            have hE2 := (hq 127 (by decide)).trans hE2
            have hE3 := (hq 131 (by decide)).trans hE3
            have hE4 := (hq 132 (by decide)).trans hE4
            have hE5 := (hq 133 (by decide)).trans hE5
            have hfr : ∀ j, j ≠ 119 → j ≠ 127 → j ≠ 131 → j ≠ 132 → j ≠ 133 → E13 j = E j := fun j h0 h1 h2 h3 h4 => (hq j h0).trans (hfr j h0 h1 h2 h3 h4)
            refine lv_iload_n X.1 X.2.1 dX7_take_49 rfl (lv_at hl 1 rfl) ?_
            refine lv_bipush (v := nI 63) X.1 X.2.1 dX7_take_50 (by decide) ?_
            refine wm_icmp_eq (x := (wm_ba tx sz aa1)) (y := 63) (tgt := 67) X (wm_ba_32 htx) (by decide) dX7_take_52 (by decide) (fun hc52 => ?_) (fun hc52 => ?_)
            · refine lv_aload_n X.1 X.2.1 dX7_take_67 rfl (lv_at hl 0 rfl) ?_
              refine lv_dup X.1 X.2.1 dX7_take_68 rfl ?_
              refine wm_get X hP hlt0 hE0 rfl wm_inX7 13 (by decide) wq5_35 rfl dX7_take_69 ?_
              refine lv_iconst (v := nI 1) X.1 X.2.1 dX7_take_72 (by decide) ?_
              refine wm_iadd (x := aa1) (y := 1) X dX7_take_73 ?_
              refine wm_put (v := .int (nI (aa1 + 1))) X hP hS hlt0 hE0 rfl wm_inX7 tyX7 tyX7_ok nmX7 13 (by decide) wq5_35 rfl rfl rfl (fs1 := [.int (nI th), .ref (b + 120), .int (nI sz), .int (nI fa), .int (nI pl), .ref (b + 121), .ref (b + 122), .ref (b + 123), .ref (b + 124), .ref (b + 125), .ref (b + 126), .ref (b + 127), .int (nI ats), .int (nI (aa1 + 1)), .ref (b + 128), .ref (b + 129), .ref (b + 130), .ref (b + 131), .ref (b + 132), .ref (b + 133), .int (nI op), .int (nI false.toNat), .int (nI fi), .int (nI la), .ref (b + 134), .ref (b + 135), .ref (b + 136), .int (nI wa), .ref (b + 137), .ref (b + 138), .ref (b + 139), .int (nI wc), .ref (b + 140), .int (nI kl), .ref (b + 141), .ref (b + 142), .ref (b + 143), .ref (b + 144), .ref (b + 145)]) rfl (Nat.le_of_ble_eq_true rfl) dX7_take_74 (fun H locs E15 hP hS hE0 hq => ?_)
              have hE1 := (hq 120 (by decide)).trans hE1
              have hE2 := (hq 127 (by decide)).trans hE2
              have hE3 := (hq 131 (by decide)).trans hE3
              have hE4 := (hq 132 (by decide)).trans hE4
              have hE5 := (hq 133 (by decide)).trans hE5
              have hfr : ∀ j, j ≠ 119 → j ≠ 127 → j ≠ 131 → j ≠ 132 → j ≠ 133 → E15 j = E j := fun j h0 h1 h2 h3 h4 => (hq j h0).trans (hfr j h0 h1 h2 h3 h4)
              refine lv_aload_n X.1 X.2.1 dX7_take_77 rfl (lv_at hl 0 rfl) ?_
              refine lv_aload_n X.1 X.2.1 dX7_take_78 rfl (lv_at hl 0 rfl) ?_
              refine wm_get X hP hlt0 hE0 rfl wm_inX7 13 (by decide) wq5_35 rfl dX7_take_79 ?_
              refine wm_callVi (k := 1) (As := [.int (nI (aa1 + 1))]) (rest := []) X hP hS hlt0 hE0 rfl (kX7_byteAt l D C b n E15 th sz fa pl ats (aa1 + 1) op fi la wa wc kl false (aa1 + 1) tx hlt0 hE0 hlt1 hE1 (by omega) (by omega)) wq5_173 wq5_175 wqP3_3 wq1_8 wq5_176 (by decide) (by rw [hRe]; exact ⟨Nat.le_of_ble_eq_true rfl, Nat.le_of_ble_eq_true rfl⟩) rfl hl.1 rfl (Nat.le_of_ble_eq_true rfl) (Nat.zero_le _) (Nat.zero_le _) dX7_take_82 (fun r16 E16 H locs hw hP hS => ?_)
              obtain ⟨hrt, hEe⟩ := hw
              subst hrt
              subst hEe
              refine lv_istore_n (lv' := [(1, .int (nI (wm_ba tx sz (aa1 + 1)))), (0, .ref (b + 119))]) X.1 X.2.1 dX7_take_85 rfl hl (by decide) rfl (fun ls hl => ?_)
              refine lv_goto (tgt := 9) X.1 X.2.1 dX7_take_86 (by decide) ?_
              have hbe9 : (be1 || !decide (wm_ba tx sz aa1 = 43)) = false := by rw [hc32, decide_eq_true hc38]; rfl
              have hfo9 : (if wm_ba tx sz aa1 = 63 then fo1 else wm_ld fo1 24 la fi) = fo1 := if_pos hc52
              exact ih9 (aa1 + 1) false fo1 (by omega) (by omega) (by rw [← hrun, wm_sgs hsn9, hbe9, hfo9]) E15 _ _ _ hP hS hE0 hE1 hE2 hE3 hE4 hE5 hfr (lv_sub hl [1, 0] rfl)
            · refine lv_aload_n X.1 X.2.1 dX7_take_55 rfl (lv_at hl 0 rfl) ?_
              refine lv_aload_n X.1 X.2.1 dX7_take_56 rfl (lv_at hl 0 rfl) ?_
              refine wm_get X hP hlt0 hE0 rfl wm_inX7 23 (by decide) wq5_45 rfl dX7_take_57 ?_
              refine lv_aload_n X.1 X.2.1 dX7_take_60 rfl (lv_at hl 0 rfl) ?_
              refine wm_get X hP hlt0 hE0 rfl wm_inX7 22 (by decide) wq5_44 rfl dX7_take_61 ?_
              refine wm_callVv (k := 2) (As := [.int (nI la), .int (nI fi)]) (rest := []) X hP hS hlt0 hE0 rfl (kX7_lead l D C b n E13 th sz fa pl ats aa1 op fi la wa wc kl false la fi fo1 hlt0 hE0 hlt2 hE2 (by omega)) wq5_196 wq5_198 wqP3_8 wq1_8 wq5_199 (by decide) (by rw [hRe]; exact ⟨Nat.le_of_ble_eq_true rfl, Nat.le_of_ble_eq_true rfl⟩) rfl hl.1 rfl (Nat.le_of_ble_eq_true rfl) (Nat.zero_le _) (Nat.zero_le _) dX7_take_64 (fun E17 H locs hw hP hS => ?_)
              obtain ⟨hE2, hq⟩ := hw
              have hE0 := (hq 119 (by decide)).trans hE0
              have hE1 := (hq 120 (by decide)).trans hE1
              have hE3 := (hq 131 (by decide)).trans hE3
              have hE4 := (hq 132 (by decide)).trans hE4
              have hE5 := (hq 133 (by decide)).trans hE5
              have hfr : ∀ j, j ≠ 119 → j ≠ 127 → j ≠ 131 → j ≠ 132 → j ≠ 133 → E17 j = E j := fun j h0 h1 h2 h3 h4 => (hq j h1).trans (hfr j h0 h1 h2 h3 h4)
              refine lv_aload_n X.1 X.2.1 dX7_take_67 rfl (lv_at hl 0 rfl) ?_
              refine lv_dup X.1 X.2.1 dX7_take_68 rfl ?_
              refine wm_get X hP hlt0 hE0 rfl wm_inX7 13 (by decide) wq5_35 rfl dX7_take_69 ?_
              refine lv_iconst (v := nI 1) X.1 X.2.1 dX7_take_72 (by decide) ?_
              refine wm_iadd (x := aa1) (y := 1) X dX7_take_73 ?_
              refine wm_put (v := .int (nI (aa1 + 1))) X hP hS hlt0 hE0 rfl wm_inX7 tyX7 tyX7_ok nmX7 13 (by decide) wq5_35 rfl rfl rfl (fs1 := [.int (nI th), .ref (b + 120), .int (nI sz), .int (nI fa), .int (nI pl), .ref (b + 121), .ref (b + 122), .ref (b + 123), .ref (b + 124), .ref (b + 125), .ref (b + 126), .ref (b + 127), .int (nI ats), .int (nI (aa1 + 1)), .ref (b + 128), .ref (b + 129), .ref (b + 130), .ref (b + 131), .ref (b + 132), .ref (b + 133), .int (nI op), .int (nI false.toNat), .int (nI fi), .int (nI la), .ref (b + 134), .ref (b + 135), .ref (b + 136), .int (nI wa), .ref (b + 137), .ref (b + 138), .ref (b + 139), .int (nI wc), .ref (b + 140), .int (nI kl), .ref (b + 141), .ref (b + 142), .ref (b + 143), .ref (b + 144), .ref (b + 145)]) rfl (Nat.le_of_ble_eq_true rfl) dX7_take_74 (fun H locs E18 hP hS hE0 hq => ?_)
              have hE1 := (hq 120 (by decide)).trans hE1
              have hE2 := (hq 127 (by decide)).trans hE2
              have hE3 := (hq 131 (by decide)).trans hE3
              have hE4 := (hq 132 (by decide)).trans hE4
              have hE5 := (hq 133 (by decide)).trans hE5
              have hfr : ∀ j, j ≠ 119 → j ≠ 127 → j ≠ 131 → j ≠ 132 → j ≠ 133 → E18 j = E j := fun j h0 h1 h2 h3 h4 => (hq j h0).trans (hfr j h0 h1 h2 h3 h4)
              refine lv_aload_n X.1 X.2.1 dX7_take_77 rfl (lv_at hl 0 rfl) ?_
              refine lv_aload_n X.1 X.2.1 dX7_take_78 rfl (lv_at hl 0 rfl) ?_
              refine wm_get X hP hlt0 hE0 rfl wm_inX7 13 (by decide) wq5_35 rfl dX7_take_79 ?_
              refine wm_callVi (k := 1) (As := [.int (nI (aa1 + 1))]) (rest := []) X hP hS hlt0 hE0 rfl (kX7_byteAt l D C b n E18 th sz fa pl ats (aa1 + 1) op fi la wa wc kl false (aa1 + 1) tx hlt0 hE0 hlt1 hE1 (by omega) (by omega)) wq5_173 wq5_175 wqP3_3 wq1_8 wq5_176 (by decide) (by rw [hRe]; exact ⟨Nat.le_of_ble_eq_true rfl, Nat.le_of_ble_eq_true rfl⟩) rfl hl.1 rfl (Nat.le_of_ble_eq_true rfl) (Nat.zero_le _) (Nat.zero_le _) dX7_take_82 (fun r19 E19 H locs hw hP hS => ?_)
              obtain ⟨hrt, hEe⟩ := hw
              subst hrt
              subst hEe
              refine lv_istore_n (lv' := [(1, .int (nI (wm_ba tx sz (aa1 + 1)))), (0, .ref (b + 119))]) X.1 X.2.1 dX7_take_85 rfl hl (by decide) rfl (fun ls hl => ?_)
              refine lv_goto (tgt := 9) X.1 X.2.1 dX7_take_86 (by decide) ?_
              have hbe9 : (be1 || !decide (wm_ba tx sz aa1 = 43)) = false := by rw [hc32, decide_eq_true hc38]; rfl
              have hfo9 : (if wm_ba tx sz aa1 = 63 then fo1 else wm_ld fo1 24 la fi) = wm_ld fo1 24 la fi := if_neg hc52
              exact ih9 (aa1 + 1) false (wm_ld fo1 24 la fi) (by omega) (by omega) (by rw [← hrun, wm_sgs hsn9, hbe9, hfo9]) E18 _ _ _ hP hS hE0 hE1 hE2 hE3 hE4 hE5 hfr (lv_sub hl [1, 0] rfl)
          · refine lv_iconst (v := nI 1) X.1 X.2.1 dX7_take_41 (by decide) ?_
            refine lv_goto (tgt := 46) X.1 X.2.1 dX7_take_42 (by decide) ?_
            refine wm_put (v := .int (nI true.toNat)) X hP hS hlt0 hE0 rfl wm_inX7 tyX7 tyX7_ok nmX7 21 (by decide) wq5_43 rfl (wm_nz true) (wm_fz true) (fs1 := [.int (nI th), .ref (b + 120), .int (nI sz), .int (nI fa), .int (nI pl), .ref (b + 121), .ref (b + 122), .ref (b + 123), .ref (b + 124), .ref (b + 125), .ref (b + 126), .ref (b + 127), .int (nI ats), .int (nI aa1), .ref (b + 128), .ref (b + 129), .ref (b + 130), .ref (b + 131), .ref (b + 132), .ref (b + 133), .int (nI op), .int (nI true.toNat), .int (nI fi), .int (nI la), .ref (b + 134), .ref (b + 135), .ref (b + 136), .int (nI wa), .ref (b + 137), .ref (b + 138), .ref (b + 139), .int (nI wc), .ref (b + 140), .int (nI kl), .ref (b + 141), .ref (b + 142), .ref (b + 143), .ref (b + 144), .ref (b + 145)]) rfl (Nat.le_of_ble_eq_true rfl) dX7_take_46 (fun H locs E20 hP hS hE0 hq => ?_)
            have hE1 := (hq 120 (by decide)).trans hE1
            have hE2 := (hq 127 (by decide)).trans hE2
            have hE3 := (hq 131 (by decide)).trans hE3
            have hE4 := (hq 132 (by decide)).trans hE4
            have hE5 := (hq 133 (by decide)).trans hE5
            have hfr : ∀ j, j ≠ 119 → j ≠ 127 → j ≠ 131 → j ≠ 132 → j ≠ 133 → E20 j = E j := fun j h0 h1 h2 h3 h4 => (hq j h0).trans (hfr j h0 h1 h2 h3 h4)
            refine lv_iload_n X.1 X.2.1 dX7_take_49 rfl (lv_at hl 1 rfl) ?_
            refine lv_bipush (v := nI 63) X.1 X.2.1 dX7_take_50 (by decide) ?_
            refine wm_icmp_eq (x := (wm_ba tx sz aa1)) (y := 63) (tgt := 67) X (wm_ba_32 htx) (by decide) dX7_take_52 (by decide) (fun hc52 => ?_) (fun hc52 => ?_)
            · refine lv_aload_n X.1 X.2.1 dX7_take_67 rfl (lv_at hl 0 rfl) ?_
              refine lv_dup X.1 X.2.1 dX7_take_68 rfl ?_
              refine wm_get X hP hlt0 hE0 rfl wm_inX7 13 (by decide) wq5_35 rfl dX7_take_69 ?_
              refine lv_iconst (v := nI 1) X.1 X.2.1 dX7_take_72 (by decide) ?_
              refine wm_iadd (x := aa1) (y := 1) X dX7_take_73 ?_
              refine wm_put (v := .int (nI (aa1 + 1))) X hP hS hlt0 hE0 rfl wm_inX7 tyX7 tyX7_ok nmX7 13 (by decide) wq5_35 rfl rfl rfl (fs1 := [.int (nI th), .ref (b + 120), .int (nI sz), .int (nI fa), .int (nI pl), .ref (b + 121), .ref (b + 122), .ref (b + 123), .ref (b + 124), .ref (b + 125), .ref (b + 126), .ref (b + 127), .int (nI ats), .int (nI (aa1 + 1)), .ref (b + 128), .ref (b + 129), .ref (b + 130), .ref (b + 131), .ref (b + 132), .ref (b + 133), .int (nI op), .int (nI true.toNat), .int (nI fi), .int (nI la), .ref (b + 134), .ref (b + 135), .ref (b + 136), .int (nI wa), .ref (b + 137), .ref (b + 138), .ref (b + 139), .int (nI wc), .ref (b + 140), .int (nI kl), .ref (b + 141), .ref (b + 142), .ref (b + 143), .ref (b + 144), .ref (b + 145)]) rfl (Nat.le_of_ble_eq_true rfl) dX7_take_74 (fun H locs E22 hP hS hE0 hq => ?_)
              have hE1 := (hq 120 (by decide)).trans hE1
              have hE2 := (hq 127 (by decide)).trans hE2
              have hE3 := (hq 131 (by decide)).trans hE3
              have hE4 := (hq 132 (by decide)).trans hE4
              have hE5 := (hq 133 (by decide)).trans hE5
              have hfr : ∀ j, j ≠ 119 → j ≠ 127 → j ≠ 131 → j ≠ 132 → j ≠ 133 → E22 j = E j := fun j h0 h1 h2 h3 h4 => (hq j h0).trans (hfr j h0 h1 h2 h3 h4)
              refine lv_aload_n X.1 X.2.1 dX7_take_77 rfl (lv_at hl 0 rfl) ?_
              refine lv_aload_n X.1 X.2.1 dX7_take_78 rfl (lv_at hl 0 rfl) ?_
              refine wm_get X hP hlt0 hE0 rfl wm_inX7 13 (by decide) wq5_35 rfl dX7_take_79 ?_
              refine wm_callVi (k := 1) (As := [.int (nI (aa1 + 1))]) (rest := []) X hP hS hlt0 hE0 rfl (kX7_byteAt l D C b n E22 th sz fa pl ats (aa1 + 1) op fi la wa wc kl true (aa1 + 1) tx hlt0 hE0 hlt1 hE1 (by omega) (by omega)) wq5_173 wq5_175 wqP3_3 wq1_8 wq5_176 (by decide) (by rw [hRe]; exact ⟨Nat.le_of_ble_eq_true rfl, Nat.le_of_ble_eq_true rfl⟩) rfl hl.1 rfl (Nat.le_of_ble_eq_true rfl) (Nat.zero_le _) (Nat.zero_le _) dX7_take_82 (fun r23 E23 H locs hw hP hS => ?_)
              obtain ⟨hrt, hEe⟩ := hw
              subst hrt
              subst hEe
              refine lv_istore_n (lv' := [(1, .int (nI (wm_ba tx sz (aa1 + 1)))), (0, .ref (b + 119))]) X.1 X.2.1 dX7_take_85 rfl hl (by decide) rfl (fun ls hl => ?_)
              refine lv_goto (tgt := 9) X.1 X.2.1 dX7_take_86 (by decide) ?_
              have hbe9 : (be1 || !decide (wm_ba tx sz aa1 = 43)) = true := by rw [hc32, decide_eq_false hc38]; rfl
              have hfo9 : (if wm_ba tx sz aa1 = 63 then fo1 else wm_ld fo1 24 la fi) = fo1 := if_pos hc52
              exact ih9 (aa1 + 1) true fo1 (by omega) (by omega) (by rw [← hrun, wm_sgs hsn9, hbe9, hfo9]) E22 _ _ _ hP hS hE0 hE1 hE2 hE3 hE4 hE5 hfr (lv_sub hl [1, 0] rfl)
            · refine lv_aload_n X.1 X.2.1 dX7_take_55 rfl (lv_at hl 0 rfl) ?_
              refine lv_aload_n X.1 X.2.1 dX7_take_56 rfl (lv_at hl 0 rfl) ?_
              refine wm_get X hP hlt0 hE0 rfl wm_inX7 23 (by decide) wq5_45 rfl dX7_take_57 ?_
              refine lv_aload_n X.1 X.2.1 dX7_take_60 rfl (lv_at hl 0 rfl) ?_
              refine wm_get X hP hlt0 hE0 rfl wm_inX7 22 (by decide) wq5_44 rfl dX7_take_61 ?_
              refine wm_callVv (k := 2) (As := [.int (nI la), .int (nI fi)]) (rest := []) X hP hS hlt0 hE0 rfl (kX7_lead l D C b n E20 th sz fa pl ats aa1 op fi la wa wc kl true la fi fo1 hlt0 hE0 hlt2 hE2 (by omega)) wq5_196 wq5_198 wqP3_8 wq1_8 wq5_199 (by decide) (by rw [hRe]; exact ⟨Nat.le_of_ble_eq_true rfl, Nat.le_of_ble_eq_true rfl⟩) rfl hl.1 rfl (Nat.le_of_ble_eq_true rfl) (Nat.zero_le _) (Nat.zero_le _) dX7_take_64 (fun E24 H locs hw hP hS => ?_)
              obtain ⟨hE2, hq⟩ := hw
              have hE0 := (hq 119 (by decide)).trans hE0
              have hE1 := (hq 120 (by decide)).trans hE1
              have hE3 := (hq 131 (by decide)).trans hE3
              have hE4 := (hq 132 (by decide)).trans hE4
              have hE5 := (hq 133 (by decide)).trans hE5
              have hfr : ∀ j, j ≠ 119 → j ≠ 127 → j ≠ 131 → j ≠ 132 → j ≠ 133 → E24 j = E j := fun j h0 h1 h2 h3 h4 => (hq j h1).trans (hfr j h0 h1 h2 h3 h4)
              refine lv_aload_n X.1 X.2.1 dX7_take_67 rfl (lv_at hl 0 rfl) ?_
              refine lv_dup X.1 X.2.1 dX7_take_68 rfl ?_
              refine wm_get X hP hlt0 hE0 rfl wm_inX7 13 (by decide) wq5_35 rfl dX7_take_69 ?_
              refine lv_iconst (v := nI 1) X.1 X.2.1 dX7_take_72 (by decide) ?_
              refine wm_iadd (x := aa1) (y := 1) X dX7_take_73 ?_
              refine wm_put (v := .int (nI (aa1 + 1))) X hP hS hlt0 hE0 rfl wm_inX7 tyX7 tyX7_ok nmX7 13 (by decide) wq5_35 rfl rfl rfl (fs1 := [.int (nI th), .ref (b + 120), .int (nI sz), .int (nI fa), .int (nI pl), .ref (b + 121), .ref (b + 122), .ref (b + 123), .ref (b + 124), .ref (b + 125), .ref (b + 126), .ref (b + 127), .int (nI ats), .int (nI (aa1 + 1)), .ref (b + 128), .ref (b + 129), .ref (b + 130), .ref (b + 131), .ref (b + 132), .ref (b + 133), .int (nI op), .int (nI true.toNat), .int (nI fi), .int (nI la), .ref (b + 134), .ref (b + 135), .ref (b + 136), .int (nI wa), .ref (b + 137), .ref (b + 138), .ref (b + 139), .int (nI wc), .ref (b + 140), .int (nI kl), .ref (b + 141), .ref (b + 142), .ref (b + 143), .ref (b + 144), .ref (b + 145)]) rfl (Nat.le_of_ble_eq_true rfl) dX7_take_74 (fun H locs E25 hP hS hE0 hq => ?_)
              have hE1 := (hq 120 (by decide)).trans hE1
              have hE2 := (hq 127 (by decide)).trans hE2
              have hE3 := (hq 131 (by decide)).trans hE3
              have hE4 := (hq 132 (by decide)).trans hE4
              have hE5 := (hq 133 (by decide)).trans hE5
              have hfr : ∀ j, j ≠ 119 → j ≠ 127 → j ≠ 131 → j ≠ 132 → j ≠ 133 → E25 j = E j := fun j h0 h1 h2 h3 h4 => (hq j h0).trans (hfr j h0 h1 h2 h3 h4)
              refine lv_aload_n X.1 X.2.1 dX7_take_77 rfl (lv_at hl 0 rfl) ?_
              refine lv_aload_n X.1 X.2.1 dX7_take_78 rfl (lv_at hl 0 rfl) ?_
              refine wm_get X hP hlt0 hE0 rfl wm_inX7 13 (by decide) wq5_35 rfl dX7_take_79 ?_
              refine wm_callVi (k := 1) (As := [.int (nI (aa1 + 1))]) (rest := []) X hP hS hlt0 hE0 rfl (kX7_byteAt l D C b n E25 th sz fa pl ats (aa1 + 1) op fi la wa wc kl true (aa1 + 1) tx hlt0 hE0 hlt1 hE1 (by omega) (by omega)) wq5_173 wq5_175 wqP3_3 wq1_8 wq5_176 (by decide) (by rw [hRe]; exact ⟨Nat.le_of_ble_eq_true rfl, Nat.le_of_ble_eq_true rfl⟩) rfl hl.1 rfl (Nat.le_of_ble_eq_true rfl) (Nat.zero_le _) (Nat.zero_le _) dX7_take_82 (fun r26 E26 H locs hw hP hS => ?_)
              obtain ⟨hrt, hEe⟩ := hw
              subst hrt
              subst hEe
              refine lv_istore_n (lv' := [(1, .int (nI (wm_ba tx sz (aa1 + 1)))), (0, .ref (b + 119))]) X.1 X.2.1 dX7_take_85 rfl hl (by decide) rfl (fun ls hl => ?_)
              refine lv_goto (tgt := 9) X.1 X.2.1 dX7_take_86 (by decide) ?_
              have hbe9 : (be1 || !decide (wm_ba tx sz aa1 = 43)) = true := by rw [hc32, decide_eq_false hc38]; rfl
              have hfo9 : (if wm_ba tx sz aa1 = 63 then fo1 else wm_ld fo1 24 la fi) = wm_ld fo1 24 la fi := if_neg hc52
              exact ih9 (aa1 + 1) true (wm_ld fo1 24 la fi) (by omega) (by omega) (by rw [← hrun, wm_sgs hsn9, hbe9, hfo9]) E25 _ _ _ hP hS hE0 hE1 hE2 hE3 hE4 hE5 hfr (lv_sub hl [1, 0] rfl)
      · refine lv_iload_n X.1 X.2.1 dX7_take_15 rfl (lv_at hl 1 rfl) ?_
        refine lv_bipush (v := nI 43) X.1 X.2.1 dX7_take_16 (by decide) ?_
        refine wm_icmp_eq (x := (wm_ba tx sz aa1)) (y := 43) (tgt := 27) X (wm_ba_32 htx) (by decide) dX7_take_18 (by decide) (fun hc18 => ?_) (fun hc18 => ?_)
        · have hsn9 : wm_ba tx sz aa1 = 42 ∨ wm_ba tx sz aa1 = 43 ∨ wm_ba tx sz aa1 = 63 := Or.inr (Or.inl hc18)
          have hlt9 : aa1 < sz := by rcases hsn9 with q | q | q <;> exact (wm_ba_in q (by decide)).1
          refine lv_aload_n X.1 X.2.1 dX7_take_27 rfl (lv_at hl 0 rfl) ?_
          refine lv_aload_n X.1 X.2.1 dX7_take_28 rfl (lv_at hl 0 rfl) ?_
          refine wm_get X hP hlt0 hE0 rfl wm_inX7 21 (by decide) wq5_43 rfl dX7_take_29 ?_
          refine wm_ifz_ne (x := be1) (tgt := 41) X dX7_take_32 (by decide) (fun hc32 => ?_) (fun hc32 => ?_)
          · refine lv_iconst (v := nI 1) X.1 X.2.1 dX7_take_41 (by decide) ?_
            refine lv_goto (tgt := 46) X.1 X.2.1 dX7_take_42 (by decide) ?_
            refine wm_put (v := .int (nI true.toNat)) X hP hS hlt0 hE0 rfl wm_inX7 tyX7 tyX7_ok nmX7 21 (by decide) wq5_43 rfl (wm_nz true) (wm_fz true) (fs1 := [.int (nI th), .ref (b + 120), .int (nI sz), .int (nI fa), .int (nI pl), .ref (b + 121), .ref (b + 122), .ref (b + 123), .ref (b + 124), .ref (b + 125), .ref (b + 126), .ref (b + 127), .int (nI ats), .int (nI aa1), .ref (b + 128), .ref (b + 129), .ref (b + 130), .ref (b + 131), .ref (b + 132), .ref (b + 133), .int (nI op), .int (nI true.toNat), .int (nI fi), .int (nI la), .ref (b + 134), .ref (b + 135), .ref (b + 136), .int (nI wa), .ref (b + 137), .ref (b + 138), .ref (b + 139), .int (nI wc), .ref (b + 140), .int (nI kl), .ref (b + 141), .ref (b + 142), .ref (b + 143), .ref (b + 144), .ref (b + 145)]) rfl (Nat.le_of_ble_eq_true rfl) dX7_take_46 (fun H locs E29 hP hS hE0 hq => ?_)
            have hE1 := (hq 120 (by decide)).trans hE1
            have hE2 := (hq 127 (by decide)).trans hE2
            have hE3 := (hq 131 (by decide)).trans hE3
            have hE4 := (hq 132 (by decide)).trans hE4
            have hE5 := (hq 133 (by decide)).trans hE5
            have hfr : ∀ j, j ≠ 119 → j ≠ 127 → j ≠ 131 → j ≠ 132 → j ≠ 133 → E29 j = E j := fun j h0 h1 h2 h3 h4 => (hq j h0).trans (hfr j h0 h1 h2 h3 h4)
            refine lv_iload_n X.1 X.2.1 dX7_take_49 rfl (lv_at hl 1 rfl) ?_
            refine lv_bipush (v := nI 63) X.1 X.2.1 dX7_take_50 (by decide) ?_
            refine wm_icmp_eq (x := (wm_ba tx sz aa1)) (y := 63) (tgt := 67) X (wm_ba_32 htx) (by decide) dX7_take_52 (by decide) (fun hc52 => ?_) (fun hc52 => ?_)
            · refine lv_aload_n X.1 X.2.1 dX7_take_67 rfl (lv_at hl 0 rfl) ?_
              refine lv_dup X.1 X.2.1 dX7_take_68 rfl ?_
              refine wm_get X hP hlt0 hE0 rfl wm_inX7 13 (by decide) wq5_35 rfl dX7_take_69 ?_
              refine lv_iconst (v := nI 1) X.1 X.2.1 dX7_take_72 (by decide) ?_
              refine wm_iadd (x := aa1) (y := 1) X dX7_take_73 ?_
              refine wm_put (v := .int (nI (aa1 + 1))) X hP hS hlt0 hE0 rfl wm_inX7 tyX7 tyX7_ok nmX7 13 (by decide) wq5_35 rfl rfl rfl (fs1 := [.int (nI th), .ref (b + 120), .int (nI sz), .int (nI fa), .int (nI pl), .ref (b + 121), .ref (b + 122), .ref (b + 123), .ref (b + 124), .ref (b + 125), .ref (b + 126), .ref (b + 127), .int (nI ats), .int (nI (aa1 + 1)), .ref (b + 128), .ref (b + 129), .ref (b + 130), .ref (b + 131), .ref (b + 132), .ref (b + 133), .int (nI op), .int (nI true.toNat), .int (nI fi), .int (nI la), .ref (b + 134), .ref (b + 135), .ref (b + 136), .int (nI wa), .ref (b + 137), .ref (b + 138), .ref (b + 139), .int (nI wc), .ref (b + 140), .int (nI kl), .ref (b + 141), .ref (b + 142), .ref (b + 143), .ref (b + 144), .ref (b + 145)]) rfl (Nat.le_of_ble_eq_true rfl) dX7_take_74 (fun H locs E31 hP hS hE0 hq => ?_)
              have hE1 := (hq 120 (by decide)).trans hE1
              have hE2 := (hq 127 (by decide)).trans hE2
              have hE3 := (hq 131 (by decide)).trans hE3
              have hE4 := (hq 132 (by decide)).trans hE4
              have hE5 := (hq 133 (by decide)).trans hE5
              have hfr : ∀ j, j ≠ 119 → j ≠ 127 → j ≠ 131 → j ≠ 132 → j ≠ 133 → E31 j = E j := fun j h0 h1 h2 h3 h4 => (hq j h0).trans (hfr j h0 h1 h2 h3 h4)
              refine lv_aload_n X.1 X.2.1 dX7_take_77 rfl (lv_at hl 0 rfl) ?_
              refine lv_aload_n X.1 X.2.1 dX7_take_78 rfl (lv_at hl 0 rfl) ?_
              refine wm_get X hP hlt0 hE0 rfl wm_inX7 13 (by decide) wq5_35 rfl dX7_take_79 ?_
              refine wm_callVi (k := 1) (As := [.int (nI (aa1 + 1))]) (rest := []) X hP hS hlt0 hE0 rfl (kX7_byteAt l D C b n E31 th sz fa pl ats (aa1 + 1) op fi la wa wc kl true (aa1 + 1) tx hlt0 hE0 hlt1 hE1 (by omega) (by omega)) wq5_173 wq5_175 wqP3_3 wq1_8 wq5_176 (by decide) (by rw [hRe]; exact ⟨Nat.le_of_ble_eq_true rfl, Nat.le_of_ble_eq_true rfl⟩) rfl hl.1 rfl (Nat.le_of_ble_eq_true rfl) (Nat.zero_le _) (Nat.zero_le _) dX7_take_82 (fun r32 E32 H locs hw hP hS => ?_)
              obtain ⟨hrt, hEe⟩ := hw
              subst hrt
              subst hEe
              refine lv_istore_n (lv' := [(1, .int (nI (wm_ba tx sz (aa1 + 1)))), (0, .ref (b + 119))]) X.1 X.2.1 dX7_take_85 rfl hl (by decide) rfl (fun ls hl => ?_)
              refine lv_goto (tgt := 9) X.1 X.2.1 dX7_take_86 (by decide) ?_
              have hbe9 : (be1 || !decide (wm_ba tx sz aa1 = 43)) = true := by rw [hc32]; rfl
              have hfo9 : (if wm_ba tx sz aa1 = 63 then fo1 else wm_ld fo1 24 la fi) = fo1 := if_pos hc52
              exact ih9 (aa1 + 1) true fo1 (by omega) (by omega) (by rw [← hrun, wm_sgs hsn9, hbe9, hfo9]) E31 _ _ _ hP hS hE0 hE1 hE2 hE3 hE4 hE5 hfr (lv_sub hl [1, 0] rfl)
            · refine lv_aload_n X.1 X.2.1 dX7_take_55 rfl (lv_at hl 0 rfl) ?_
              refine lv_aload_n X.1 X.2.1 dX7_take_56 rfl (lv_at hl 0 rfl) ?_
              refine wm_get X hP hlt0 hE0 rfl wm_inX7 23 (by decide) wq5_45 rfl dX7_take_57 ?_
              refine lv_aload_n X.1 X.2.1 dX7_take_60 rfl (lv_at hl 0 rfl) ?_
              refine wm_get X hP hlt0 hE0 rfl wm_inX7 22 (by decide) wq5_44 rfl dX7_take_61 ?_
              refine wm_callVv (k := 2) (As := [.int (nI la), .int (nI fi)]) (rest := []) X hP hS hlt0 hE0 rfl (kX7_lead l D C b n E29 th sz fa pl ats aa1 op fi la wa wc kl true la fi fo1 hlt0 hE0 hlt2 hE2 (by omega)) wq5_196 wq5_198 wqP3_8 wq1_8 wq5_199 (by decide) (by rw [hRe]; exact ⟨Nat.le_of_ble_eq_true rfl, Nat.le_of_ble_eq_true rfl⟩) rfl hl.1 rfl (Nat.le_of_ble_eq_true rfl) (Nat.zero_le _) (Nat.zero_le _) dX7_take_64 (fun E33 H locs hw hP hS => ?_)
              obtain ⟨hE2, hq⟩ := hw
              have hE0 := (hq 119 (by decide)).trans hE0
              have hE1 := (hq 120 (by decide)).trans hE1
              have hE3 := (hq 131 (by decide)).trans hE3
              have hE4 := (hq 132 (by decide)).trans hE4
              have hE5 := (hq 133 (by decide)).trans hE5
              have hfr : ∀ j, j ≠ 119 → j ≠ 127 → j ≠ 131 → j ≠ 132 → j ≠ 133 → E33 j = E j := fun j h0 h1 h2 h3 h4 => (hq j h1).trans (hfr j h0 h1 h2 h3 h4)
              refine lv_aload_n X.1 X.2.1 dX7_take_67 rfl (lv_at hl 0 rfl) ?_
              refine lv_dup X.1 X.2.1 dX7_take_68 rfl ?_
              refine wm_get X hP hlt0 hE0 rfl wm_inX7 13 (by decide) wq5_35 rfl dX7_take_69 ?_
              refine lv_iconst (v := nI 1) X.1 X.2.1 dX7_take_72 (by decide) ?_
              refine wm_iadd (x := aa1) (y := 1) X dX7_take_73 ?_
              refine wm_put (v := .int (nI (aa1 + 1))) X hP hS hlt0 hE0 rfl wm_inX7 tyX7 tyX7_ok nmX7 13 (by decide) wq5_35 rfl rfl rfl (fs1 := [.int (nI th), .ref (b + 120), .int (nI sz), .int (nI fa), .int (nI pl), .ref (b + 121), .ref (b + 122), .ref (b + 123), .ref (b + 124), .ref (b + 125), .ref (b + 126), .ref (b + 127), .int (nI ats), .int (nI (aa1 + 1)), .ref (b + 128), .ref (b + 129), .ref (b + 130), .ref (b + 131), .ref (b + 132), .ref (b + 133), .int (nI op), .int (nI true.toNat), .int (nI fi), .int (nI la), .ref (b + 134), .ref (b + 135), .ref (b + 136), .int (nI wa), .ref (b + 137), .ref (b + 138), .ref (b + 139), .int (nI wc), .ref (b + 140), .int (nI kl), .ref (b + 141), .ref (b + 142), .ref (b + 143), .ref (b + 144), .ref (b + 145)]) rfl (Nat.le_of_ble_eq_true rfl) dX7_take_74 (fun H locs E34 hP hS hE0 hq => ?_)
              have hE1 := (hq 120 (by decide)).trans hE1
              have hE2 := (hq 127 (by decide)).trans hE2
              have hE3 := (hq 131 (by decide)).trans hE3
              have hE4 := (hq 132 (by decide)).trans hE4
              have hE5 := (hq 133 (by decide)).trans hE5
              have hfr : ∀ j, j ≠ 119 → j ≠ 127 → j ≠ 131 → j ≠ 132 → j ≠ 133 → E34 j = E j := fun j h0 h1 h2 h3 h4 => (hq j h0).trans (hfr j h0 h1 h2 h3 h4)
              refine lv_aload_n X.1 X.2.1 dX7_take_77 rfl (lv_at hl 0 rfl) ?_
              refine lv_aload_n X.1 X.2.1 dX7_take_78 rfl (lv_at hl 0 rfl) ?_
              refine wm_get X hP hlt0 hE0 rfl wm_inX7 13 (by decide) wq5_35 rfl dX7_take_79 ?_
              refine wm_callVi (k := 1) (As := [.int (nI (aa1 + 1))]) (rest := []) X hP hS hlt0 hE0 rfl (kX7_byteAt l D C b n E34 th sz fa pl ats (aa1 + 1) op fi la wa wc kl true (aa1 + 1) tx hlt0 hE0 hlt1 hE1 (by omega) (by omega)) wq5_173 wq5_175 wqP3_3 wq1_8 wq5_176 (by decide) (by rw [hRe]; exact ⟨Nat.le_of_ble_eq_true rfl, Nat.le_of_ble_eq_true rfl⟩) rfl hl.1 rfl (Nat.le_of_ble_eq_true rfl) (Nat.zero_le _) (Nat.zero_le _) dX7_take_82 (fun r35 E35 H locs hw hP hS => ?_)
              obtain ⟨hrt, hEe⟩ := hw
              subst hrt
              subst hEe
              refine lv_istore_n (lv' := [(1, .int (nI (wm_ba tx sz (aa1 + 1)))), (0, .ref (b + 119))]) X.1 X.2.1 dX7_take_85 rfl hl (by decide) rfl (fun ls hl => ?_)
              refine lv_goto (tgt := 9) X.1 X.2.1 dX7_take_86 (by decide) ?_
              have hbe9 : (be1 || !decide (wm_ba tx sz aa1 = 43)) = true := by rw [hc32]; rfl
              have hfo9 : (if wm_ba tx sz aa1 = 63 then fo1 else wm_ld fo1 24 la fi) = wm_ld fo1 24 la fi := if_neg hc52
              exact ih9 (aa1 + 1) true (wm_ld fo1 24 la fi) (by omega) (by omega) (by rw [← hrun, wm_sgs hsn9, hbe9, hfo9]) E34 _ _ _ hP hS hE0 hE1 hE2 hE3 hE4 hE5 hfr (lv_sub hl [1, 0] rfl)
          · refine lv_iload_n X.1 X.2.1 dX7_take_35 rfl (lv_at hl 1 rfl) ?_
            refine lv_bipush (v := nI 43) X.1 X.2.1 dX7_take_36 (by decide) ?_
            refine wm_icmp_eq (x := (wm_ba tx sz aa1)) (y := 43) (tgt := 45) X (wm_ba_32 htx) (by decide) dX7_take_38 (by decide) (fun hc38 => ?_) (fun hc38 => ?_)
            · refine lv_iconst (v := nI 0) X.1 X.2.1 dX7_take_45 (by decide) ?_
              refine wm_put (v := .int (nI false.toNat)) X hP hS hlt0 hE0 rfl wm_inX7 tyX7 tyX7_ok nmX7 21 (by decide) wq5_43 rfl (wm_nz false) (wm_fz false) (fs1 := [.int (nI th), .ref (b + 120), .int (nI sz), .int (nI fa), .int (nI pl), .ref (b + 121), .ref (b + 122), .ref (b + 123), .ref (b + 124), .ref (b + 125), .ref (b + 126), .ref (b + 127), .int (nI ats), .int (nI aa1), .ref (b + 128), .ref (b + 129), .ref (b + 130), .ref (b + 131), .ref (b + 132), .ref (b + 133), .int (nI op), .int (nI false.toNat), .int (nI fi), .int (nI la), .ref (b + 134), .ref (b + 135), .ref (b + 136), .int (nI wa), .ref (b + 137), .ref (b + 138), .ref (b + 139), .int (nI wc), .ref (b + 140), .int (nI kl), .ref (b + 141), .ref (b + 142), .ref (b + 143), .ref (b + 144), .ref (b + 145)]) rfl (Nat.le_of_ble_eq_true rfl) dX7_take_46 (fun H locs E37 hP hS hE0 hq => ?_)
              have hE1 := (hq 120 (by decide)).trans hE1
              have hE2 := (hq 127 (by decide)).trans hE2
              have hE3 := (hq 131 (by decide)).trans hE3
              have hE4 := (hq 132 (by decide)).trans hE4
              have hE5 := (hq 133 (by decide)).trans hE5
              have hfr : ∀ j, j ≠ 119 → j ≠ 127 → j ≠ 131 → j ≠ 132 → j ≠ 133 → E37 j = E j := fun j h0 h1 h2 h3 h4 => (hq j h0).trans (hfr j h0 h1 h2 h3 h4)
              refine lv_iload_n X.1 X.2.1 dX7_take_49 rfl (lv_at hl 1 rfl) ?_
              refine lv_bipush (v := nI 63) X.1 X.2.1 dX7_take_50 (by decide) ?_
              refine wm_icmp_eq (x := (wm_ba tx sz aa1)) (y := 63) (tgt := 67) X (wm_ba_32 htx) (by decide) dX7_take_52 (by decide) (fun hc52 => ?_) (fun hc52 => ?_)
              · refine lv_aload_n X.1 X.2.1 dX7_take_67 rfl (lv_at hl 0 rfl) ?_
                refine lv_dup X.1 X.2.1 dX7_take_68 rfl ?_
                refine wm_get X hP hlt0 hE0 rfl wm_inX7 13 (by decide) wq5_35 rfl dX7_take_69 ?_
                refine lv_iconst (v := nI 1) X.1 X.2.1 dX7_take_72 (by decide) ?_
                refine wm_iadd (x := aa1) (y := 1) X dX7_take_73 ?_
                refine wm_put (v := .int (nI (aa1 + 1))) X hP hS hlt0 hE0 rfl wm_inX7 tyX7 tyX7_ok nmX7 13 (by decide) wq5_35 rfl rfl rfl (fs1 := [.int (nI th), .ref (b + 120), .int (nI sz), .int (nI fa), .int (nI pl), .ref (b + 121), .ref (b + 122), .ref (b + 123), .ref (b + 124), .ref (b + 125), .ref (b + 126), .ref (b + 127), .int (nI ats), .int (nI (aa1 + 1)), .ref (b + 128), .ref (b + 129), .ref (b + 130), .ref (b + 131), .ref (b + 132), .ref (b + 133), .int (nI op), .int (nI false.toNat), .int (nI fi), .int (nI la), .ref (b + 134), .ref (b + 135), .ref (b + 136), .int (nI wa), .ref (b + 137), .ref (b + 138), .ref (b + 139), .int (nI wc), .ref (b + 140), .int (nI kl), .ref (b + 141), .ref (b + 142), .ref (b + 143), .ref (b + 144), .ref (b + 145)]) rfl (Nat.le_of_ble_eq_true rfl) dX7_take_74 (fun H locs E39 hP hS hE0 hq => ?_)
                have hE1 := (hq 120 (by decide)).trans hE1
                have hE2 := (hq 127 (by decide)).trans hE2
                have hE3 := (hq 131 (by decide)).trans hE3
                have hE4 := (hq 132 (by decide)).trans hE4
                have hE5 := (hq 133 (by decide)).trans hE5
                have hfr : ∀ j, j ≠ 119 → j ≠ 127 → j ≠ 131 → j ≠ 132 → j ≠ 133 → E39 j = E j := fun j h0 h1 h2 h3 h4 => (hq j h0).trans (hfr j h0 h1 h2 h3 h4)
                refine lv_aload_n X.1 X.2.1 dX7_take_77 rfl (lv_at hl 0 rfl) ?_
                refine lv_aload_n X.1 X.2.1 dX7_take_78 rfl (lv_at hl 0 rfl) ?_
                refine wm_get X hP hlt0 hE0 rfl wm_inX7 13 (by decide) wq5_35 rfl dX7_take_79 ?_
                refine wm_callVi (k := 1) (As := [.int (nI (aa1 + 1))]) (rest := []) X hP hS hlt0 hE0 rfl (kX7_byteAt l D C b n E39 th sz fa pl ats (aa1 + 1) op fi la wa wc kl false (aa1 + 1) tx hlt0 hE0 hlt1 hE1 (by omega) (by omega)) wq5_173 wq5_175 wqP3_3 wq1_8 wq5_176 (by decide) (by rw [hRe]; exact ⟨Nat.le_of_ble_eq_true rfl, Nat.le_of_ble_eq_true rfl⟩) rfl hl.1 rfl (Nat.le_of_ble_eq_true rfl) (Nat.zero_le _) (Nat.zero_le _) dX7_take_82 (fun r40 E40 H locs hw hP hS => ?_)
                obtain ⟨hrt, hEe⟩ := hw
                subst hrt
                subst hEe
                refine lv_istore_n (lv' := [(1, .int (nI (wm_ba tx sz (aa1 + 1)))), (0, .ref (b + 119))]) X.1 X.2.1 dX7_take_85 rfl hl (by decide) rfl (fun ls hl => ?_)
                refine lv_goto (tgt := 9) X.1 X.2.1 dX7_take_86 (by decide) ?_
                have hbe9 : (be1 || !decide (wm_ba tx sz aa1 = 43)) = false := by rw [hc32, decide_eq_true hc38]; rfl
                have hfo9 : (if wm_ba tx sz aa1 = 63 then fo1 else wm_ld fo1 24 la fi) = fo1 := if_pos hc52
                exact ih9 (aa1 + 1) false fo1 (by omega) (by omega) (by rw [← hrun, wm_sgs hsn9, hbe9, hfo9]) E39 _ _ _ hP hS hE0 hE1 hE2 hE3 hE4 hE5 hfr (lv_sub hl [1, 0] rfl)
              · refine lv_aload_n X.1 X.2.1 dX7_take_55 rfl (lv_at hl 0 rfl) ?_
                refine lv_aload_n X.1 X.2.1 dX7_take_56 rfl (lv_at hl 0 rfl) ?_
                refine wm_get X hP hlt0 hE0 rfl wm_inX7 23 (by decide) wq5_45 rfl dX7_take_57 ?_
                refine lv_aload_n X.1 X.2.1 dX7_take_60 rfl (lv_at hl 0 rfl) ?_
                refine wm_get X hP hlt0 hE0 rfl wm_inX7 22 (by decide) wq5_44 rfl dX7_take_61 ?_
                refine wm_callVv (k := 2) (As := [.int (nI la), .int (nI fi)]) (rest := []) X hP hS hlt0 hE0 rfl (kX7_lead l D C b n E37 th sz fa pl ats aa1 op fi la wa wc kl false la fi fo1 hlt0 hE0 hlt2 hE2 (by omega)) wq5_196 wq5_198 wqP3_8 wq1_8 wq5_199 (by decide) (by rw [hRe]; exact ⟨Nat.le_of_ble_eq_true rfl, Nat.le_of_ble_eq_true rfl⟩) rfl hl.1 rfl (Nat.le_of_ble_eq_true rfl) (Nat.zero_le _) (Nat.zero_le _) dX7_take_64 (fun E41 H locs hw hP hS => ?_)
                obtain ⟨hE2, hq⟩ := hw
                have hE0 := (hq 119 (by decide)).trans hE0
                have hE1 := (hq 120 (by decide)).trans hE1
                have hE3 := (hq 131 (by decide)).trans hE3
                have hE4 := (hq 132 (by decide)).trans hE4
                have hE5 := (hq 133 (by decide)).trans hE5
                have hfr : ∀ j, j ≠ 119 → j ≠ 127 → j ≠ 131 → j ≠ 132 → j ≠ 133 → E41 j = E j := fun j h0 h1 h2 h3 h4 => (hq j h1).trans (hfr j h0 h1 h2 h3 h4)
                refine lv_aload_n X.1 X.2.1 dX7_take_67 rfl (lv_at hl 0 rfl) ?_
                refine lv_dup X.1 X.2.1 dX7_take_68 rfl ?_
                refine wm_get X hP hlt0 hE0 rfl wm_inX7 13 (by decide) wq5_35 rfl dX7_take_69 ?_
                refine lv_iconst (v := nI 1) X.1 X.2.1 dX7_take_72 (by decide) ?_
                refine wm_iadd (x := aa1) (y := 1) X dX7_take_73 ?_
                refine wm_put (v := .int (nI (aa1 + 1))) X hP hS hlt0 hE0 rfl wm_inX7 tyX7 tyX7_ok nmX7 13 (by decide) wq5_35 rfl rfl rfl (fs1 := [.int (nI th), .ref (b + 120), .int (nI sz), .int (nI fa), .int (nI pl), .ref (b + 121), .ref (b + 122), .ref (b + 123), .ref (b + 124), .ref (b + 125), .ref (b + 126), .ref (b + 127), .int (nI ats), .int (nI (aa1 + 1)), .ref (b + 128), .ref (b + 129), .ref (b + 130), .ref (b + 131), .ref (b + 132), .ref (b + 133), .int (nI op), .int (nI false.toNat), .int (nI fi), .int (nI la), .ref (b + 134), .ref (b + 135), .ref (b + 136), .int (nI wa), .ref (b + 137), .ref (b + 138), .ref (b + 139), .int (nI wc), .ref (b + 140), .int (nI kl), .ref (b + 141), .ref (b + 142), .ref (b + 143), .ref (b + 144), .ref (b + 145)]) rfl (Nat.le_of_ble_eq_true rfl) dX7_take_74 (fun H locs E42 hP hS hE0 hq => ?_)
                have hE1 := (hq 120 (by decide)).trans hE1
                have hE2 := (hq 127 (by decide)).trans hE2
                have hE3 := (hq 131 (by decide)).trans hE3
                have hE4 := (hq 132 (by decide)).trans hE4
                have hE5 := (hq 133 (by decide)).trans hE5
                have hfr : ∀ j, j ≠ 119 → j ≠ 127 → j ≠ 131 → j ≠ 132 → j ≠ 133 → E42 j = E j := fun j h0 h1 h2 h3 h4 => (hq j h0).trans (hfr j h0 h1 h2 h3 h4)
                refine lv_aload_n X.1 X.2.1 dX7_take_77 rfl (lv_at hl 0 rfl) ?_
                refine lv_aload_n X.1 X.2.1 dX7_take_78 rfl (lv_at hl 0 rfl) ?_
                refine wm_get X hP hlt0 hE0 rfl wm_inX7 13 (by decide) wq5_35 rfl dX7_take_79 ?_
                refine wm_callVi (k := 1) (As := [.int (nI (aa1 + 1))]) (rest := []) X hP hS hlt0 hE0 rfl (kX7_byteAt l D C b n E42 th sz fa pl ats (aa1 + 1) op fi la wa wc kl false (aa1 + 1) tx hlt0 hE0 hlt1 hE1 (by omega) (by omega)) wq5_173 wq5_175 wqP3_3 wq1_8 wq5_176 (by decide) (by rw [hRe]; exact ⟨Nat.le_of_ble_eq_true rfl, Nat.le_of_ble_eq_true rfl⟩) rfl hl.1 rfl (Nat.le_of_ble_eq_true rfl) (Nat.zero_le _) (Nat.zero_le _) dX7_take_82 (fun r43 E43 H locs hw hP hS => ?_)
                obtain ⟨hrt, hEe⟩ := hw
                subst hrt
                subst hEe
                refine lv_istore_n (lv' := [(1, .int (nI (wm_ba tx sz (aa1 + 1)))), (0, .ref (b + 119))]) X.1 X.2.1 dX7_take_85 rfl hl (by decide) rfl (fun ls hl => ?_)
                refine lv_goto (tgt := 9) X.1 X.2.1 dX7_take_86 (by decide) ?_
                have hbe9 : (be1 || !decide (wm_ba tx sz aa1 = 43)) = false := by rw [hc32, decide_eq_true hc38]; rfl
                have hfo9 : (if wm_ba tx sz aa1 = 63 then fo1 else wm_ld fo1 24 la fi) = wm_ld fo1 24 la fi := if_neg hc52
                exact ih9 (aa1 + 1) false (wm_ld fo1 24 la fi) (by omega) (by omega) (by rw [← hrun, wm_sgs hsn9, hbe9, hfo9]) E42 _ _ _ hP hS hE0 hE1 hE2 hE3 hE4 hE5 hfr (lv_sub hl [1, 0] rfl)
            · refine lv_iconst (v := nI 1) X.1 X.2.1 dX7_take_41 (by decide) ?_
              refine lv_goto (tgt := 46) X.1 X.2.1 dX7_take_42 (by decide) ?_
              refine wm_put (v := .int (nI true.toNat)) X hP hS hlt0 hE0 rfl wm_inX7 tyX7 tyX7_ok nmX7 21 (by decide) wq5_43 rfl (wm_nz true) (wm_fz true) (fs1 := [.int (nI th), .ref (b + 120), .int (nI sz), .int (nI fa), .int (nI pl), .ref (b + 121), .ref (b + 122), .ref (b + 123), .ref (b + 124), .ref (b + 125), .ref (b + 126), .ref (b + 127), .int (nI ats), .int (nI aa1), .ref (b + 128), .ref (b + 129), .ref (b + 130), .ref (b + 131), .ref (b + 132), .ref (b + 133), .int (nI op), .int (nI true.toNat), .int (nI fi), .int (nI la), .ref (b + 134), .ref (b + 135), .ref (b + 136), .int (nI wa), .ref (b + 137), .ref (b + 138), .ref (b + 139), .int (nI wc), .ref (b + 140), .int (nI kl), .ref (b + 141), .ref (b + 142), .ref (b + 143), .ref (b + 144), .ref (b + 145)]) rfl (Nat.le_of_ble_eq_true rfl) dX7_take_46 (fun H locs E44 hP hS hE0 hq => ?_)
              have hE1 := (hq 120 (by decide)).trans hE1
              have hE2 := (hq 127 (by decide)).trans hE2
              have hE3 := (hq 131 (by decide)).trans hE3
              have hE4 := (hq 132 (by decide)).trans hE4
              have hE5 := (hq 133 (by decide)).trans hE5
              have hfr : ∀ j, j ≠ 119 → j ≠ 127 → j ≠ 131 → j ≠ 132 → j ≠ 133 → E44 j = E j := fun j h0 h1 h2 h3 h4 => (hq j h0).trans (hfr j h0 h1 h2 h3 h4)
              refine lv_iload_n X.1 X.2.1 dX7_take_49 rfl (lv_at hl 1 rfl) ?_
              refine lv_bipush (v := nI 63) X.1 X.2.1 dX7_take_50 (by decide) ?_
              refine wm_icmp_eq (x := (wm_ba tx sz aa1)) (y := 63) (tgt := 67) X (wm_ba_32 htx) (by decide) dX7_take_52 (by decide) (fun hc52 => ?_) (fun hc52 => ?_)
              · refine lv_aload_n X.1 X.2.1 dX7_take_67 rfl (lv_at hl 0 rfl) ?_
                refine lv_dup X.1 X.2.1 dX7_take_68 rfl ?_
                refine wm_get X hP hlt0 hE0 rfl wm_inX7 13 (by decide) wq5_35 rfl dX7_take_69 ?_
                refine lv_iconst (v := nI 1) X.1 X.2.1 dX7_take_72 (by decide) ?_
                refine wm_iadd (x := aa1) (y := 1) X dX7_take_73 ?_
                refine wm_put (v := .int (nI (aa1 + 1))) X hP hS hlt0 hE0 rfl wm_inX7 tyX7 tyX7_ok nmX7 13 (by decide) wq5_35 rfl rfl rfl (fs1 := [.int (nI th), .ref (b + 120), .int (nI sz), .int (nI fa), .int (nI pl), .ref (b + 121), .ref (b + 122), .ref (b + 123), .ref (b + 124), .ref (b + 125), .ref (b + 126), .ref (b + 127), .int (nI ats), .int (nI (aa1 + 1)), .ref (b + 128), .ref (b + 129), .ref (b + 130), .ref (b + 131), .ref (b + 132), .ref (b + 133), .int (nI op), .int (nI true.toNat), .int (nI fi), .int (nI la), .ref (b + 134), .ref (b + 135), .ref (b + 136), .int (nI wa), .ref (b + 137), .ref (b + 138), .ref (b + 139), .int (nI wc), .ref (b + 140), .int (nI kl), .ref (b + 141), .ref (b + 142), .ref (b + 143), .ref (b + 144), .ref (b + 145)]) rfl (Nat.le_of_ble_eq_true rfl) dX7_take_74 (fun H locs E46 hP hS hE0 hq => ?_)
                have hE1 := (hq 120 (by decide)).trans hE1
                have hE2 := (hq 127 (by decide)).trans hE2
                have hE3 := (hq 131 (by decide)).trans hE3
                have hE4 := (hq 132 (by decide)).trans hE4
                have hE5 := (hq 133 (by decide)).trans hE5
                have hfr : ∀ j, j ≠ 119 → j ≠ 127 → j ≠ 131 → j ≠ 132 → j ≠ 133 → E46 j = E j := fun j h0 h1 h2 h3 h4 => (hq j h0).trans (hfr j h0 h1 h2 h3 h4)
                refine lv_aload_n X.1 X.2.1 dX7_take_77 rfl (lv_at hl 0 rfl) ?_
                refine lv_aload_n X.1 X.2.1 dX7_take_78 rfl (lv_at hl 0 rfl) ?_
                refine wm_get X hP hlt0 hE0 rfl wm_inX7 13 (by decide) wq5_35 rfl dX7_take_79 ?_
                refine wm_callVi (k := 1) (As := [.int (nI (aa1 + 1))]) (rest := []) X hP hS hlt0 hE0 rfl (kX7_byteAt l D C b n E46 th sz fa pl ats (aa1 + 1) op fi la wa wc kl true (aa1 + 1) tx hlt0 hE0 hlt1 hE1 (by omega) (by omega)) wq5_173 wq5_175 wqP3_3 wq1_8 wq5_176 (by decide) (by rw [hRe]; exact ⟨Nat.le_of_ble_eq_true rfl, Nat.le_of_ble_eq_true rfl⟩) rfl hl.1 rfl (Nat.le_of_ble_eq_true rfl) (Nat.zero_le _) (Nat.zero_le _) dX7_take_82 (fun r47 E47 H locs hw hP hS => ?_)
                obtain ⟨hrt, hEe⟩ := hw
                subst hrt
                subst hEe
                refine lv_istore_n (lv' := [(1, .int (nI (wm_ba tx sz (aa1 + 1)))), (0, .ref (b + 119))]) X.1 X.2.1 dX7_take_85 rfl hl (by decide) rfl (fun ls hl => ?_)
                refine lv_goto (tgt := 9) X.1 X.2.1 dX7_take_86 (by decide) ?_
                have hbe9 : (be1 || !decide (wm_ba tx sz aa1 = 43)) = true := by rw [hc32, decide_eq_false hc38]; rfl
                have hfo9 : (if wm_ba tx sz aa1 = 63 then fo1 else wm_ld fo1 24 la fi) = fo1 := if_pos hc52
                exact ih9 (aa1 + 1) true fo1 (by omega) (by omega) (by rw [← hrun, wm_sgs hsn9, hbe9, hfo9]) E46 _ _ _ hP hS hE0 hE1 hE2 hE3 hE4 hE5 hfr (lv_sub hl [1, 0] rfl)
              · refine lv_aload_n X.1 X.2.1 dX7_take_55 rfl (lv_at hl 0 rfl) ?_
                refine lv_aload_n X.1 X.2.1 dX7_take_56 rfl (lv_at hl 0 rfl) ?_
                refine wm_get X hP hlt0 hE0 rfl wm_inX7 23 (by decide) wq5_45 rfl dX7_take_57 ?_
                refine lv_aload_n X.1 X.2.1 dX7_take_60 rfl (lv_at hl 0 rfl) ?_
                refine wm_get X hP hlt0 hE0 rfl wm_inX7 22 (by decide) wq5_44 rfl dX7_take_61 ?_
                refine wm_callVv (k := 2) (As := [.int (nI la), .int (nI fi)]) (rest := []) X hP hS hlt0 hE0 rfl (kX7_lead l D C b n E44 th sz fa pl ats aa1 op fi la wa wc kl true la fi fo1 hlt0 hE0 hlt2 hE2 (by omega)) wq5_196 wq5_198 wqP3_8 wq1_8 wq5_199 (by decide) (by rw [hRe]; exact ⟨Nat.le_of_ble_eq_true rfl, Nat.le_of_ble_eq_true rfl⟩) rfl hl.1 rfl (Nat.le_of_ble_eq_true rfl) (Nat.zero_le _) (Nat.zero_le _) dX7_take_64 (fun E48 H locs hw hP hS => ?_)
                obtain ⟨hE2, hq⟩ := hw
                have hE0 := (hq 119 (by decide)).trans hE0
                have hE1 := (hq 120 (by decide)).trans hE1
                have hE3 := (hq 131 (by decide)).trans hE3
                have hE4 := (hq 132 (by decide)).trans hE4
                have hE5 := (hq 133 (by decide)).trans hE5
                have hfr : ∀ j, j ≠ 119 → j ≠ 127 → j ≠ 131 → j ≠ 132 → j ≠ 133 → E48 j = E j := fun j h0 h1 h2 h3 h4 => (hq j h1).trans (hfr j h0 h1 h2 h3 h4)
                refine lv_aload_n X.1 X.2.1 dX7_take_67 rfl (lv_at hl 0 rfl) ?_
                refine lv_dup X.1 X.2.1 dX7_take_68 rfl ?_
                refine wm_get X hP hlt0 hE0 rfl wm_inX7 13 (by decide) wq5_35 rfl dX7_take_69 ?_
                refine lv_iconst (v := nI 1) X.1 X.2.1 dX7_take_72 (by decide) ?_
                refine wm_iadd (x := aa1) (y := 1) X dX7_take_73 ?_
                refine wm_put (v := .int (nI (aa1 + 1))) X hP hS hlt0 hE0 rfl wm_inX7 tyX7 tyX7_ok nmX7 13 (by decide) wq5_35 rfl rfl rfl (fs1 := [.int (nI th), .ref (b + 120), .int (nI sz), .int (nI fa), .int (nI pl), .ref (b + 121), .ref (b + 122), .ref (b + 123), .ref (b + 124), .ref (b + 125), .ref (b + 126), .ref (b + 127), .int (nI ats), .int (nI (aa1 + 1)), .ref (b + 128), .ref (b + 129), .ref (b + 130), .ref (b + 131), .ref (b + 132), .ref (b + 133), .int (nI op), .int (nI true.toNat), .int (nI fi), .int (nI la), .ref (b + 134), .ref (b + 135), .ref (b + 136), .int (nI wa), .ref (b + 137), .ref (b + 138), .ref (b + 139), .int (nI wc), .ref (b + 140), .int (nI kl), .ref (b + 141), .ref (b + 142), .ref (b + 143), .ref (b + 144), .ref (b + 145)]) rfl (Nat.le_of_ble_eq_true rfl) dX7_take_74 (fun H locs E49 hP hS hE0 hq => ?_)
                have hE1 := (hq 120 (by decide)).trans hE1
                have hE2 := (hq 127 (by decide)).trans hE2
                have hE3 := (hq 131 (by decide)).trans hE3
                have hE4 := (hq 132 (by decide)).trans hE4
                have hE5 := (hq 133 (by decide)).trans hE5
                have hfr : ∀ j, j ≠ 119 → j ≠ 127 → j ≠ 131 → j ≠ 132 → j ≠ 133 → E49 j = E j := fun j h0 h1 h2 h3 h4 => (hq j h0).trans (hfr j h0 h1 h2 h3 h4)
                refine lv_aload_n X.1 X.2.1 dX7_take_77 rfl (lv_at hl 0 rfl) ?_
                refine lv_aload_n X.1 X.2.1 dX7_take_78 rfl (lv_at hl 0 rfl) ?_
                refine wm_get X hP hlt0 hE0 rfl wm_inX7 13 (by decide) wq5_35 rfl dX7_take_79 ?_
                refine wm_callVi (k := 1) (As := [.int (nI (aa1 + 1))]) (rest := []) X hP hS hlt0 hE0 rfl (kX7_byteAt l D C b n E49 th sz fa pl ats (aa1 + 1) op fi la wa wc kl true (aa1 + 1) tx hlt0 hE0 hlt1 hE1 (by omega) (by omega)) wq5_173 wq5_175 wqP3_3 wq1_8 wq5_176 (by decide) (by rw [hRe]; exact ⟨Nat.le_of_ble_eq_true rfl, Nat.le_of_ble_eq_true rfl⟩) rfl hl.1 rfl (Nat.le_of_ble_eq_true rfl) (Nat.zero_le _) (Nat.zero_le _) dX7_take_82 (fun r50 E50 H locs hw hP hS => ?_)
                obtain ⟨hrt, hEe⟩ := hw
                subst hrt
                subst hEe
                refine lv_istore_n (lv' := [(1, .int (nI (wm_ba tx sz (aa1 + 1)))), (0, .ref (b + 119))]) X.1 X.2.1 dX7_take_85 rfl hl (by decide) rfl (fun ls hl => ?_)
                refine lv_goto (tgt := 9) X.1 X.2.1 dX7_take_86 (by decide) ?_
                have hbe9 : (be1 || !decide (wm_ba tx sz aa1 = 43)) = true := by rw [hc32, decide_eq_false hc38]; rfl
                have hfo9 : (if wm_ba tx sz aa1 = 63 then fo1 else wm_ld fo1 24 la fi) = wm_ld fo1 24 la fi := if_neg hc52
                exact ih9 (aa1 + 1) true (wm_ld fo1 24 la fi) (by omega) (by omega) (by rw [← hrun, wm_sgs hsn9, hbe9, hfo9]) E49 _ _ _ hP hS hE0 hE1 hE2 hE3 hE4 hE5 hfr (lv_sub hl [1, 0] rfl)
        · refine lv_iload_n X.1 X.2.1 dX7_take_21 rfl (lv_at hl 1 rfl) ?_
          refine lv_bipush (v := nI 63) X.1 X.2.1 dX7_take_22 (by decide) ?_
          refine wm_icmp_ne (x := (wm_ba tx sz aa1)) (y := 63) (tgt := 89) X (wm_ba_32 htx) (by decide) dX7_take_24 (by decide) (fun hc24 => ?_) (fun hc24 => ?_)
          · refine lv_aload_n X.1 X.2.1 dX7_take_89 rfl (lv_at hl 0 rfl) ?_
            refine lv_aload_n X.1 X.2.1 dX7_take_90 rfl (lv_at hl 0 rfl) ?_
            refine wm_get X hP hlt0 hE0 rfl wm_inX7 19 (by decide) wq5_41 rfl dX7_take_91 ?_
            refine lv_aload_n X.1 X.2.1 dX7_take_94 rfl (lv_at hl 0 rfl) ?_
            refine wm_get X hP hlt0 hE0 rfl wm_inX7 20 (by decide) wq5_42 rfl dX7_take_95 ?_
            refine wm_iald (i := op) X hP hlt5 hE5 (by omega) (by decide) dX7_take_98 ?_
            refine lv_aload_n X.1 X.2.1 dX7_take_99 rfl (lv_at hl 0 rfl) ?_
            refine wm_get X hP hlt0 hE0 rfl wm_inX7 22 (by decide) wq5_44 rfl dX7_take_100 ?_
            refine wm_callVv (k := 2) (As := [.int (nI (rL op)), .int (nI fi)]) (rest := []) X hP hS hlt0 hE0 rfl (kX7_lead l D C b n E2 th sz fa pl ats aa1 op fi la wa wc kl be1 (rL op) fi fo1 hlt0 hE0 hlt2 hE2 (by omega)) wq5_196 wq5_198 wqP3_8 wq1_8 wq5_199 (by decide) (by rw [hRe]; exact ⟨Nat.le_of_ble_eq_true rfl, Nat.le_of_ble_eq_true rfl⟩) rfl hl.1 rfl (Nat.le_of_ble_eq_true rfl) (Nat.zero_le _) (Nat.zero_le _) dX7_take_103 (fun E52 H locs hw hP hS => ?_)
            obtain ⟨hE2, hq⟩ := hw
            have hE0 := (hq 119 (by decide)).trans hE0
            have hE1 := (hq 120 (by decide)).trans hE1
            have hE3 := (hq 131 (by decide)).trans hE3
            have hE4 := (hq 132 (by decide)).trans hE4
            have hE5 := (hq 133 (by decide)).trans hE5
            have hfr : ∀ j, j ≠ 119 → j ≠ 127 → j ≠ 131 → j ≠ 132 → j ≠ 133 → E52 j = E j := fun j h0 h1 h2 h3 h4 => (hq j h1).trans (hfr j h0 h1 h2 h3 h4)
            refine lv_aload_n X.1 X.2.1 dX7_take_106 rfl (lv_at hl 0 rfl) ?_
            refine wm_get X hP hlt0 hE0 rfl wm_inX7 18 (by decide) wq5_40 rfl dX7_take_107 ?_
            refine lv_aload_n X.1 X.2.1 dX7_take_110 rfl (lv_at hl 0 rfl) ?_
            refine wm_get X hP hlt0 hE0 rfl wm_inX7 20 (by decide) wq5_42 rfl dX7_take_111 ?_
            refine lv_aload_n X.1 X.2.1 dX7_take_114 rfl (lv_at hl 0 rfl) ?_
            refine wm_get X hP hlt0 hE0 rfl wm_inX7 17 (by decide) wq5_39 rfl dX7_take_115 ?_
            refine lv_aload_n X.1 X.2.1 dX7_take_118 rfl (lv_at hl 0 rfl) ?_
            refine wm_get X hP hlt0 hE0 rfl wm_inX7 20 (by decide) wq5_42 rfl dX7_take_119 ?_
            refine wm_zald (i := op) X hP hlt3 hE3 (by omega) (by decide) dX7_take_122 ?_
            refine wm_ifz_eq (x := (rB op)) (tgt := 143) X dX7_take_123 (by decide) (fun hc123 => ?_) (fun hc123 => ?_)
            · refine lv_aload_n X.1 X.2.1 dX7_take_143 rfl (lv_at hl 0 rfl) ?_
              refine wm_get X hP hlt0 hE0 rfl wm_inX7 18 (by decide) wq5_40 rfl dX7_take_144 ?_
              refine lv_aload_n X.1 X.2.1 dX7_take_147 rfl (lv_at hl 0 rfl) ?_
              refine wm_get X hP hlt0 hE0 rfl wm_inX7 20 (by decide) wq5_42 rfl dX7_take_148 ?_
              refine wm_iald (i := op) X hP hlt4 hE4 (by omega) (by decide) dX7_take_151 ?_
              refine wm_iast (i := op) (x := (rF op)) X hP hS hlt4 hE4 (by omega) (by decide) dX7_take_152 (fun H locs E54 hP hS hE4 hq => ?_)
              have hE0 := (hq 119 (by decide)).trans hE0
              have hE1 := (hq 120 (by decide)).trans hE1
              have hE2 := (hq 127 (by decide)).trans hE2
              have hE3 := (hq 131 (by decide)).trans hE3
              have hE5 := (hq 133 (by decide)).trans hE5
              have hfr : ∀ j, j ≠ 119 → j ≠ 127 → j ≠ 131 → j ≠ 132 → j ≠ 133 → E54 j = E j := fun j h0 h1 h2 h3 h4 => (hq j h3).trans (hfr j h0 h1 h2 h3 h4)
              refine lv_aload_n X.1 X.2.1 dX7_take_153 rfl (lv_at hl 0 rfl) ?_
              refine wm_get X hP hlt0 hE0 rfl wm_inX7 19 (by decide) wq5_41 rfl dX7_take_154 ?_
              refine lv_aload_n X.1 X.2.1 dX7_take_157 rfl (lv_at hl 0 rfl) ?_
              refine wm_get X hP hlt0 hE0 rfl wm_inX7 20 (by decide) wq5_42 rfl dX7_take_158 ?_
              refine lv_aload_n X.1 X.2.1 dX7_take_161 rfl (lv_at hl 0 rfl) ?_
              refine wm_get X hP hlt0 hE0 rfl wm_inX7 21 (by decide) wq5_43 rfl dX7_take_162 ?_
              refine wm_ifz_eq (x := be1) (tgt := 185) X dX7_take_165 (by decide) (fun hc165 => ?_) (fun hc165 => ?_)
              · refine lv_aload_n X.1 X.2.1 dX7_take_185 rfl (lv_at hl 0 rfl) ?_
                refine wm_get X hP hlt0 hE0 rfl wm_inX7 23 (by decide) wq5_45 rfl dX7_take_186 ?_
                refine wm_iast (i := op) (x := la) X hP hS hlt5 hE5 (by omega) (by decide) dX7_take_189 (fun H locs E56 hP hS hE5 hq => ?_)
                have hE0 := (hq 119 (by decide)).trans hE0
                have hE1 := (hq 120 (by decide)).trans hE1
                have hE2 := (hq 127 (by decide)).trans hE2
                have hE3 := (hq 131 (by decide)).trans hE3
                have hE4 := (hq 132 (by decide)).trans hE4
                have hfr : ∀ j, j ≠ 119 → j ≠ 127 → j ≠ 131 → j ≠ 132 → j ≠ 133 → E56 j = E j := fun j h0 h1 h2 h3 h4 => (hq j h4).trans (hfr j h0 h1 h2 h3 h4)
                refine lv_aload_n X.1 X.2.1 dX7_take_190 rfl (lv_at hl 0 rfl) ?_
                refine wm_get X hP hlt0 hE0 rfl wm_inX7 17 (by decide) wq5_39 rfl dX7_take_191 ?_
                refine lv_aload_n X.1 X.2.1 dX7_take_194 rfl (lv_at hl 0 rfl) ?_
                refine wm_get X hP hlt0 hE0 rfl wm_inX7 20 (by decide) wq5_42 rfl dX7_take_195 ?_
                refine lv_aload_n X.1 X.2.1 dX7_take_198 rfl (lv_at hl 0 rfl) ?_
                refine wm_get X hP hlt0 hE0 rfl wm_inX7 17 (by decide) wq5_39 rfl dX7_take_199 ?_
                refine lv_aload_n X.1 X.2.1 dX7_take_202 rfl (lv_at hl 0 rfl) ?_
                refine wm_get X hP hlt0 hE0 rfl wm_inX7 20 (by decide) wq5_42 rfl dX7_take_203 ?_
                refine wm_zald (i := op) X hP hlt3 hE3 (by omega) (by decide) dX7_take_206 ?_
                refine wm_ifz_eq (x := (rB op)) (tgt := 221) X dX7_take_207 (by decide) (fun hc207 => ?_) (fun hc207 => ?_)
                · refine lv_iconst (v := nI 0) X.1 X.2.1 dX7_take_221 (by decide) ?_
                  refine wm_zast (i := op) (x := false) X hP hS hlt3 hE3 (by omega) (by decide) dX7_take_222 (fun H locs E58 hP hS hE3 hq => ?_)
                  have hE0 := (hq 119 (by decide)).trans hE0
                  have hE1 := (hq 120 (by decide)).trans hE1
                  have hE2 := (hq 127 (by decide)).trans hE2
                  have hE4 := (hq 132 (by decide)).trans hE4
                  have hE5 := (hq 133 (by decide)).trans hE5
                  have hfr : ∀ j, j ≠ 119 → j ≠ 127 → j ≠ 131 → j ≠ 132 → j ≠ 133 → E58 j = E j := fun j h0 h1 h2 h3 h4 => (hq j h2).trans (hfr j h0 h1 h2 h3 h4)
                  have hns : ¬ (wm_ba tx sz aa1 = 42 ∨ wm_ba tx sz aa1 = 43 ∨ wm_ba tx sz aa1 = 63) := by rintro (q | q | q) <;> contradiction
                  have hse := wm_sge (la := la) (fi := fi) (be := be1) (fo := fo1) hns
                  rw [hrun] at hse
                  exact wm_vret (post := pX7_take C b E th sz fa pl ats aa op fi la wa wc kl be tx fo rF rL rB) X hr hP hS ⟨(by rw [hse]; exact hE0), (by rw [hse]; exact hE2), (by rw [hse]; rw [hc207]; exact hE3), (by rw [hc123]; exact hE4), (by rw [hse]; rw [hc165]; exact hE5), hfr⟩ hQ dX7_take_223
                · refine lv_aload_n X.1 X.2.1 dX7_take_210 rfl (lv_at hl 0 rfl) ?_
                  refine wm_get X hP hlt0 hE0 rfl wm_inX7 21 (by decide) wq5_43 rfl dX7_take_211 ?_
                  refine wm_ifz_eq (x := be1) (tgt := 221) X dX7_take_214 (by decide) (fun hc214 => ?_) (fun hc214 => ?_)
                  · refine lv_iconst (v := nI 0) X.1 X.2.1 dX7_take_221 (by decide) ?_
                    refine wm_zast (i := op) (x := false) X hP hS hlt3 hE3 (by omega) (by decide) dX7_take_222 (fun H locs E60 hP hS hE3 hq => ?_)
                    have hE0 := (hq 119 (by decide)).trans hE0
                    have hE1 := (hq 120 (by decide)).trans hE1
                    have hE2 := (hq 127 (by decide)).trans hE2
                    have hE4 := (hq 132 (by decide)).trans hE4
                    have hE5 := (hq 133 (by decide)).trans hE5
                    have hfr : ∀ j, j ≠ 119 → j ≠ 127 → j ≠ 131 → j ≠ 132 → j ≠ 133 → E60 j = E j := fun j h0 h1 h2 h3 h4 => (hq j h2).trans (hfr j h0 h1 h2 h3 h4)
                    have hns : ¬ (wm_ba tx sz aa1 = 42 ∨ wm_ba tx sz aa1 = 43 ∨ wm_ba tx sz aa1 = 63) := by rintro (q | q | q) <;> contradiction
                    have hse := wm_sge (la := la) (fi := fi) (be := be1) (fo := fo1) hns
                    rw [hrun] at hse
                    exact wm_vret (post := pX7_take C b E th sz fa pl ats aa op fi la wa wc kl be tx fo rF rL rB) X hr hP hS ⟨(by rw [hse]; exact hE0), (by rw [hse]; exact hE2), (by rw [hse]; rw [hc207, hc214]; exact hE3), (by rw [hc123]; exact hE4), (by rw [hse]; rw [hc165]; exact hE5), hfr⟩ hQ dX7_take_223
                  · refine lv_iconst (v := nI 1) X.1 X.2.1 dX7_take_217 (by decide) ?_
                    refine lv_goto (tgt := 222) X.1 X.2.1 dX7_take_218 (by decide) ?_
                    refine wm_zast (i := op) (x := true) X hP hS hlt3 hE3 (by omega) (by decide) dX7_take_222 (fun H locs E61 hP hS hE3 hq => ?_)
                    have hE0 := (hq 119 (by decide)).trans hE0
                    have hE1 := (hq 120 (by decide)).trans hE1
                    have hE2 := (hq 127 (by decide)).trans hE2
                    have hE4 := (hq 132 (by decide)).trans hE4
                    have hE5 := (hq 133 (by decide)).trans hE5
                    have hfr : ∀ j, j ≠ 119 → j ≠ 127 → j ≠ 131 → j ≠ 132 → j ≠ 133 → E61 j = E j := fun j h0 h1 h2 h3 h4 => (hq j h2).trans (hfr j h0 h1 h2 h3 h4)
                    have hns : ¬ (wm_ba tx sz aa1 = 42 ∨ wm_ba tx sz aa1 = 43 ∨ wm_ba tx sz aa1 = 63) := by rintro (q | q | q) <;> contradiction
                    have hse := wm_sge (la := la) (fi := fi) (be := be1) (fo := fo1) hns
                    rw [hrun] at hse
                    exact wm_vret (post := pX7_take C b E th sz fa pl ats aa op fi la wa wc kl be tx fo rF rL rB) X hr hP hS ⟨(by rw [hse]; exact hE0), (by rw [hse]; exact hE2), (by rw [hse]; rw [hc207, hc214]; exact hE3), (by rw [hc123]; exact hE4), (by rw [hse]; rw [hc165]; exact hE5), hfr⟩ hQ dX7_take_223
              · refine lv_aload_n X.1 X.2.1 dX7_take_168 rfl (lv_at hl 0 rfl) ?_
                refine wm_get X hP hlt0 hE0 rfl wm_inX7 19 (by decide) wq5_41 rfl dX7_take_169 ?_
                refine lv_aload_n X.1 X.2.1 dX7_take_172 rfl (lv_at hl 0 rfl) ?_
                refine wm_get X hP hlt0 hE0 rfl wm_inX7 20 (by decide) wq5_42 rfl dX7_take_173 ?_
                refine wm_iald (i := op) X hP hlt5 hE5 (by omega) (by decide) dX7_take_176 ?_
                refine lv_aload_n X.1 X.2.1 dX7_take_177 rfl (lv_at hl 0 rfl) ?_
                refine wm_get X hP hlt0 hE0 rfl wm_inX7 23 (by decide) wq5_45 rfl dX7_take_178 ?_
                refine wm_ior (x := (rL op)) (y := la) X dX7_take_181 ?_
                refine lv_goto (tgt := 189) X.1 X.2.1 dX7_take_182 (by decide) ?_
                refine wm_iast (i := op) (x := ((rL op) ||| la)) X hP hS hlt5 hE5 (by omega) (by decide) dX7_take_189 (fun H locs E62 hP hS hE5 hq => ?_)
                have hE0 := (hq 119 (by decide)).trans hE0
                have hE1 := (hq 120 (by decide)).trans hE1
                have hE2 := (hq 127 (by decide)).trans hE2
                have hE3 := (hq 131 (by decide)).trans hE3
                have hE4 := (hq 132 (by decide)).trans hE4
                have hfr : ∀ j, j ≠ 119 → j ≠ 127 → j ≠ 131 → j ≠ 132 → j ≠ 133 → E62 j = E j := fun j h0 h1 h2 h3 h4 => (hq j h4).trans (hfr j h0 h1 h2 h3 h4)
                refine lv_aload_n X.1 X.2.1 dX7_take_190 rfl (lv_at hl 0 rfl) ?_
                refine wm_get X hP hlt0 hE0 rfl wm_inX7 17 (by decide) wq5_39 rfl dX7_take_191 ?_
                refine lv_aload_n X.1 X.2.1 dX7_take_194 rfl (lv_at hl 0 rfl) ?_
                refine wm_get X hP hlt0 hE0 rfl wm_inX7 20 (by decide) wq5_42 rfl dX7_take_195 ?_
                refine lv_aload_n X.1 X.2.1 dX7_take_198 rfl (lv_at hl 0 rfl) ?_
                refine wm_get X hP hlt0 hE0 rfl wm_inX7 17 (by decide) wq5_39 rfl dX7_take_199 ?_
                refine lv_aload_n X.1 X.2.1 dX7_take_202 rfl (lv_at hl 0 rfl) ?_
                refine wm_get X hP hlt0 hE0 rfl wm_inX7 20 (by decide) wq5_42 rfl dX7_take_203 ?_
                refine wm_zald (i := op) X hP hlt3 hE3 (by omega) (by decide) dX7_take_206 ?_
                refine wm_ifz_eq (x := (rB op)) (tgt := 221) X dX7_take_207 (by decide) (fun hc207 => ?_) (fun hc207 => ?_)
                · refine lv_iconst (v := nI 0) X.1 X.2.1 dX7_take_221 (by decide) ?_
                  refine wm_zast (i := op) (x := false) X hP hS hlt3 hE3 (by omega) (by decide) dX7_take_222 (fun H locs E64 hP hS hE3 hq => ?_)
                  have hE0 := (hq 119 (by decide)).trans hE0
                  have hE1 := (hq 120 (by decide)).trans hE1
                  have hE2 := (hq 127 (by decide)).trans hE2
                  have hE4 := (hq 132 (by decide)).trans hE4
                  have hE5 := (hq 133 (by decide)).trans hE5
                  have hfr : ∀ j, j ≠ 119 → j ≠ 127 → j ≠ 131 → j ≠ 132 → j ≠ 133 → E64 j = E j := fun j h0 h1 h2 h3 h4 => (hq j h2).trans (hfr j h0 h1 h2 h3 h4)
                  have hns : ¬ (wm_ba tx sz aa1 = 42 ∨ wm_ba tx sz aa1 = 43 ∨ wm_ba tx sz aa1 = 63) := by rintro (q | q | q) <;> contradiction
                  have hse := wm_sge (la := la) (fi := fi) (be := be1) (fo := fo1) hns
                  rw [hrun] at hse
                  exact wm_vret (post := pX7_take C b E th sz fa pl ats aa op fi la wa wc kl be tx fo rF rL rB) X hr hP hS ⟨(by rw [hse]; exact hE0), (by rw [hse]; exact hE2), (by rw [hse]; rw [hc207]; exact hE3), (by rw [hc123]; exact hE4), (by rw [hse]; rw [hc165]; exact hE5), hfr⟩ hQ dX7_take_223
                · refine lv_aload_n X.1 X.2.1 dX7_take_210 rfl (lv_at hl 0 rfl) ?_
                  refine wm_get X hP hlt0 hE0 rfl wm_inX7 21 (by decide) wq5_43 rfl dX7_take_211 ?_
                  refine wm_ifz_eq (x := be1) (tgt := 221) X dX7_take_214 (by decide) (fun hc214 => ?_) (fun hc214 => ?_)
                  · refine lv_iconst (v := nI 0) X.1 X.2.1 dX7_take_221 (by decide) ?_
                    refine wm_zast (i := op) (x := false) X hP hS hlt3 hE3 (by omega) (by decide) dX7_take_222 (fun H locs E66 hP hS hE3 hq => ?_)
                    have hE0 := (hq 119 (by decide)).trans hE0
                    have hE1 := (hq 120 (by decide)).trans hE1
                    have hE2 := (hq 127 (by decide)).trans hE2
                    have hE4 := (hq 132 (by decide)).trans hE4
                    have hE5 := (hq 133 (by decide)).trans hE5
                    have hfr : ∀ j, j ≠ 119 → j ≠ 127 → j ≠ 131 → j ≠ 132 → j ≠ 133 → E66 j = E j := fun j h0 h1 h2 h3 h4 => (hq j h2).trans (hfr j h0 h1 h2 h3 h4)
                    have hns : ¬ (wm_ba tx sz aa1 = 42 ∨ wm_ba tx sz aa1 = 43 ∨ wm_ba tx sz aa1 = 63) := by rintro (q | q | q) <;> contradiction
                    have hse := wm_sge (la := la) (fi := fi) (be := be1) (fo := fo1) hns
                    rw [hrun] at hse
                    exact wm_vret (post := pX7_take C b E th sz fa pl ats aa op fi la wa wc kl be tx fo rF rL rB) X hr hP hS ⟨(by rw [hse]; exact hE0), (by rw [hse]; exact hE2), (by rw [hse]; rw [hc207, hc214]; exact hE3), (by rw [hc123]; exact hE4), (by rw [hse]; rw [hc165]; exact hE5), hfr⟩ hQ dX7_take_223
                  · refine lv_iconst (v := nI 1) X.1 X.2.1 dX7_take_217 (by decide) ?_
                    refine lv_goto (tgt := 222) X.1 X.2.1 dX7_take_218 (by decide) ?_
                    refine wm_zast (i := op) (x := true) X hP hS hlt3 hE3 (by omega) (by decide) dX7_take_222 (fun H locs E67 hP hS hE3 hq => ?_)
                    have hE0 := (hq 119 (by decide)).trans hE0
                    have hE1 := (hq 120 (by decide)).trans hE1
                    have hE2 := (hq 127 (by decide)).trans hE2
                    have hE4 := (hq 132 (by decide)).trans hE4
                    have hE5 := (hq 133 (by decide)).trans hE5
                    have hfr : ∀ j, j ≠ 119 → j ≠ 127 → j ≠ 131 → j ≠ 132 → j ≠ 133 → E67 j = E j := fun j h0 h1 h2 h3 h4 => (hq j h2).trans (hfr j h0 h1 h2 h3 h4)
                    have hns : ¬ (wm_ba tx sz aa1 = 42 ∨ wm_ba tx sz aa1 = 43 ∨ wm_ba tx sz aa1 = 63) := by rintro (q | q | q) <;> contradiction
                    have hse := wm_sge (la := la) (fi := fi) (be := be1) (fo := fo1) hns
                    rw [hrun] at hse
                    exact wm_vret (post := pX7_take C b E th sz fa pl ats aa op fi la wa wc kl be tx fo rF rL rB) X hr hP hS ⟨(by rw [hse]; exact hE0), (by rw [hse]; exact hE2), (by rw [hse]; rw [hc207, hc214]; exact hE3), (by rw [hc123]; exact hE4), (by rw [hse]; rw [hc165]; exact hE5), hfr⟩ hQ dX7_take_223
            · refine lv_aload_n X.1 X.2.1 dX7_take_126 rfl (lv_at hl 0 rfl) ?_
              refine wm_get X hP hlt0 hE0 rfl wm_inX7 18 (by decide) wq5_40 rfl dX7_take_127 ?_
              refine lv_aload_n X.1 X.2.1 dX7_take_130 rfl (lv_at hl 0 rfl) ?_
              refine wm_get X hP hlt0 hE0 rfl wm_inX7 20 (by decide) wq5_42 rfl dX7_take_131 ?_
              refine wm_iald (i := op) X hP hlt4 hE4 (by omega) (by decide) dX7_take_134 ?_
              refine lv_aload_n X.1 X.2.1 dX7_take_135 rfl (lv_at hl 0 rfl) ?_
              refine wm_get X hP hlt0 hE0 rfl wm_inX7 22 (by decide) wq5_44 rfl dX7_take_136 ?_
              refine wm_ior (x := (rF op)) (y := fi) X dX7_take_139 ?_
              refine lv_goto (tgt := 152) X.1 X.2.1 dX7_take_140 (by decide) ?_
              refine wm_iast (i := op) (x := ((rF op) ||| fi)) X hP hS hlt4 hE4 (by omega) (by decide) dX7_take_152 (fun H locs E68 hP hS hE4 hq => ?_)
              have hE0 := (hq 119 (by decide)).trans hE0
              have hE1 := (hq 120 (by decide)).trans hE1
              have hE2 := (hq 127 (by decide)).trans hE2
              have hE3 := (hq 131 (by decide)).trans hE3
              have hE5 := (hq 133 (by decide)).trans hE5
              have hfr : ∀ j, j ≠ 119 → j ≠ 127 → j ≠ 131 → j ≠ 132 → j ≠ 133 → E68 j = E j := fun j h0 h1 h2 h3 h4 => (hq j h3).trans (hfr j h0 h1 h2 h3 h4)
              refine lv_aload_n X.1 X.2.1 dX7_take_153 rfl (lv_at hl 0 rfl) ?_
              refine wm_get X hP hlt0 hE0 rfl wm_inX7 19 (by decide) wq5_41 rfl dX7_take_154 ?_
              refine lv_aload_n X.1 X.2.1 dX7_take_157 rfl (lv_at hl 0 rfl) ?_
              refine wm_get X hP hlt0 hE0 rfl wm_inX7 20 (by decide) wq5_42 rfl dX7_take_158 ?_
              refine lv_aload_n X.1 X.2.1 dX7_take_161 rfl (lv_at hl 0 rfl) ?_
              refine wm_get X hP hlt0 hE0 rfl wm_inX7 21 (by decide) wq5_43 rfl dX7_take_162 ?_
              refine wm_ifz_eq (x := be1) (tgt := 185) X dX7_take_165 (by decide) (fun hc165 => ?_) (fun hc165 => ?_)
              · refine lv_aload_n X.1 X.2.1 dX7_take_185 rfl (lv_at hl 0 rfl) ?_
                refine wm_get X hP hlt0 hE0 rfl wm_inX7 23 (by decide) wq5_45 rfl dX7_take_186 ?_
                refine wm_iast (i := op) (x := la) X hP hS hlt5 hE5 (by omega) (by decide) dX7_take_189 (fun H locs E70 hP hS hE5 hq => ?_)
                have hE0 := (hq 119 (by decide)).trans hE0
                have hE1 := (hq 120 (by decide)).trans hE1
                have hE2 := (hq 127 (by decide)).trans hE2
                have hE3 := (hq 131 (by decide)).trans hE3
                have hE4 := (hq 132 (by decide)).trans hE4
                have hfr : ∀ j, j ≠ 119 → j ≠ 127 → j ≠ 131 → j ≠ 132 → j ≠ 133 → E70 j = E j := fun j h0 h1 h2 h3 h4 => (hq j h4).trans (hfr j h0 h1 h2 h3 h4)
                refine lv_aload_n X.1 X.2.1 dX7_take_190 rfl (lv_at hl 0 rfl) ?_
                refine wm_get X hP hlt0 hE0 rfl wm_inX7 17 (by decide) wq5_39 rfl dX7_take_191 ?_
                refine lv_aload_n X.1 X.2.1 dX7_take_194 rfl (lv_at hl 0 rfl) ?_
                refine wm_get X hP hlt0 hE0 rfl wm_inX7 20 (by decide) wq5_42 rfl dX7_take_195 ?_
                refine lv_aload_n X.1 X.2.1 dX7_take_198 rfl (lv_at hl 0 rfl) ?_
                refine wm_get X hP hlt0 hE0 rfl wm_inX7 17 (by decide) wq5_39 rfl dX7_take_199 ?_
                refine lv_aload_n X.1 X.2.1 dX7_take_202 rfl (lv_at hl 0 rfl) ?_
                refine wm_get X hP hlt0 hE0 rfl wm_inX7 20 (by decide) wq5_42 rfl dX7_take_203 ?_
                refine wm_zald (i := op) X hP hlt3 hE3 (by omega) (by decide) dX7_take_206 ?_
                refine wm_ifz_eq (x := (rB op)) (tgt := 221) X dX7_take_207 (by decide) (fun hc207 => ?_) (fun hc207 => ?_)
                · refine lv_iconst (v := nI 0) X.1 X.2.1 dX7_take_221 (by decide) ?_
                  refine wm_zast (i := op) (x := false) X hP hS hlt3 hE3 (by omega) (by decide) dX7_take_222 (fun H locs E72 hP hS hE3 hq => ?_)
                  have hE0 := (hq 119 (by decide)).trans hE0
                  have hE1 := (hq 120 (by decide)).trans hE1
                  have hE2 := (hq 127 (by decide)).trans hE2
                  have hE4 := (hq 132 (by decide)).trans hE4
                  have hE5 := (hq 133 (by decide)).trans hE5
                  have hfr : ∀ j, j ≠ 119 → j ≠ 127 → j ≠ 131 → j ≠ 132 → j ≠ 133 → E72 j = E j := fun j h0 h1 h2 h3 h4 => (hq j h2).trans (hfr j h0 h1 h2 h3 h4)
                  have hns : ¬ (wm_ba tx sz aa1 = 42 ∨ wm_ba tx sz aa1 = 43 ∨ wm_ba tx sz aa1 = 63) := by rintro (q | q | q) <;> contradiction
                  have hse := wm_sge (la := la) (fi := fi) (be := be1) (fo := fo1) hns
                  rw [hrun] at hse
                  exact wm_vret (post := pX7_take C b E th sz fa pl ats aa op fi la wa wc kl be tx fo rF rL rB) X hr hP hS ⟨(by rw [hse]; exact hE0), (by rw [hse]; exact hE2), (by rw [hse]; rw [hc207]; exact hE3), (by rw [hc123]; exact hE4), (by rw [hse]; rw [hc165]; exact hE5), hfr⟩ hQ dX7_take_223
                · refine lv_aload_n X.1 X.2.1 dX7_take_210 rfl (lv_at hl 0 rfl) ?_
                  refine wm_get X hP hlt0 hE0 rfl wm_inX7 21 (by decide) wq5_43 rfl dX7_take_211 ?_
                  refine wm_ifz_eq (x := be1) (tgt := 221) X dX7_take_214 (by decide) (fun hc214 => ?_) (fun hc214 => ?_)
                  · refine lv_iconst (v := nI 0) X.1 X.2.1 dX7_take_221 (by decide) ?_
                    refine wm_zast (i := op) (x := false) X hP hS hlt3 hE3 (by omega) (by decide) dX7_take_222 (fun H locs E74 hP hS hE3 hq => ?_)
                    have hE0 := (hq 119 (by decide)).trans hE0
                    have hE1 := (hq 120 (by decide)).trans hE1
                    have hE2 := (hq 127 (by decide)).trans hE2
                    have hE4 := (hq 132 (by decide)).trans hE4
                    have hE5 := (hq 133 (by decide)).trans hE5
                    have hfr : ∀ j, j ≠ 119 → j ≠ 127 → j ≠ 131 → j ≠ 132 → j ≠ 133 → E74 j = E j := fun j h0 h1 h2 h3 h4 => (hq j h2).trans (hfr j h0 h1 h2 h3 h4)
                    have hns : ¬ (wm_ba tx sz aa1 = 42 ∨ wm_ba tx sz aa1 = 43 ∨ wm_ba tx sz aa1 = 63) := by rintro (q | q | q) <;> contradiction
                    have hse := wm_sge (la := la) (fi := fi) (be := be1) (fo := fo1) hns
                    rw [hrun] at hse
                    exact wm_vret (post := pX7_take C b E th sz fa pl ats aa op fi la wa wc kl be tx fo rF rL rB) X hr hP hS ⟨(by rw [hse]; exact hE0), (by rw [hse]; exact hE2), (by rw [hse]; rw [hc207, hc214]; exact hE3), (by rw [hc123]; exact hE4), (by rw [hse]; rw [hc165]; exact hE5), hfr⟩ hQ dX7_take_223
                  · refine lv_iconst (v := nI 1) X.1 X.2.1 dX7_take_217 (by decide) ?_
                    refine lv_goto (tgt := 222) X.1 X.2.1 dX7_take_218 (by decide) ?_
                    refine wm_zast (i := op) (x := true) X hP hS hlt3 hE3 (by omega) (by decide) dX7_take_222 (fun H locs E75 hP hS hE3 hq => ?_)
                    have hE0 := (hq 119 (by decide)).trans hE0
                    have hE1 := (hq 120 (by decide)).trans hE1
                    have hE2 := (hq 127 (by decide)).trans hE2
                    have hE4 := (hq 132 (by decide)).trans hE4
                    have hE5 := (hq 133 (by decide)).trans hE5
                    have hfr : ∀ j, j ≠ 119 → j ≠ 127 → j ≠ 131 → j ≠ 132 → j ≠ 133 → E75 j = E j := fun j h0 h1 h2 h3 h4 => (hq j h2).trans (hfr j h0 h1 h2 h3 h4)
                    have hns : ¬ (wm_ba tx sz aa1 = 42 ∨ wm_ba tx sz aa1 = 43 ∨ wm_ba tx sz aa1 = 63) := by rintro (q | q | q) <;> contradiction
                    have hse := wm_sge (la := la) (fi := fi) (be := be1) (fo := fo1) hns
                    rw [hrun] at hse
                    exact wm_vret (post := pX7_take C b E th sz fa pl ats aa op fi la wa wc kl be tx fo rF rL rB) X hr hP hS ⟨(by rw [hse]; exact hE0), (by rw [hse]; exact hE2), (by rw [hse]; rw [hc207, hc214]; exact hE3), (by rw [hc123]; exact hE4), (by rw [hse]; rw [hc165]; exact hE5), hfr⟩ hQ dX7_take_223
              · refine lv_aload_n X.1 X.2.1 dX7_take_168 rfl (lv_at hl 0 rfl) ?_
                refine wm_get X hP hlt0 hE0 rfl wm_inX7 19 (by decide) wq5_41 rfl dX7_take_169 ?_
                refine lv_aload_n X.1 X.2.1 dX7_take_172 rfl (lv_at hl 0 rfl) ?_
                refine wm_get X hP hlt0 hE0 rfl wm_inX7 20 (by decide) wq5_42 rfl dX7_take_173 ?_
                refine wm_iald (i := op) X hP hlt5 hE5 (by omega) (by decide) dX7_take_176 ?_
                refine lv_aload_n X.1 X.2.1 dX7_take_177 rfl (lv_at hl 0 rfl) ?_
                refine wm_get X hP hlt0 hE0 rfl wm_inX7 23 (by decide) wq5_45 rfl dX7_take_178 ?_
                refine wm_ior (x := (rL op)) (y := la) X dX7_take_181 ?_
                refine lv_goto (tgt := 189) X.1 X.2.1 dX7_take_182 (by decide) ?_
                refine wm_iast (i := op) (x := ((rL op) ||| la)) X hP hS hlt5 hE5 (by omega) (by decide) dX7_take_189 (fun H locs E76 hP hS hE5 hq => ?_)
                have hE0 := (hq 119 (by decide)).trans hE0
                have hE1 := (hq 120 (by decide)).trans hE1
                have hE2 := (hq 127 (by decide)).trans hE2
                have hE3 := (hq 131 (by decide)).trans hE3
                have hE4 := (hq 132 (by decide)).trans hE4
                have hfr : ∀ j, j ≠ 119 → j ≠ 127 → j ≠ 131 → j ≠ 132 → j ≠ 133 → E76 j = E j := fun j h0 h1 h2 h3 h4 => (hq j h4).trans (hfr j h0 h1 h2 h3 h4)
                refine lv_aload_n X.1 X.2.1 dX7_take_190 rfl (lv_at hl 0 rfl) ?_
                refine wm_get X hP hlt0 hE0 rfl wm_inX7 17 (by decide) wq5_39 rfl dX7_take_191 ?_
                refine lv_aload_n X.1 X.2.1 dX7_take_194 rfl (lv_at hl 0 rfl) ?_
                refine wm_get X hP hlt0 hE0 rfl wm_inX7 20 (by decide) wq5_42 rfl dX7_take_195 ?_
                refine lv_aload_n X.1 X.2.1 dX7_take_198 rfl (lv_at hl 0 rfl) ?_
                refine wm_get X hP hlt0 hE0 rfl wm_inX7 17 (by decide) wq5_39 rfl dX7_take_199 ?_
                refine lv_aload_n X.1 X.2.1 dX7_take_202 rfl (lv_at hl 0 rfl) ?_
                refine wm_get X hP hlt0 hE0 rfl wm_inX7 20 (by decide) wq5_42 rfl dX7_take_203 ?_
                refine wm_zald (i := op) X hP hlt3 hE3 (by omega) (by decide) dX7_take_206 ?_
                refine wm_ifz_eq (x := (rB op)) (tgt := 221) X dX7_take_207 (by decide) (fun hc207 => ?_) (fun hc207 => ?_)
                · refine lv_iconst (v := nI 0) X.1 X.2.1 dX7_take_221 (by decide) ?_
                  refine wm_zast (i := op) (x := false) X hP hS hlt3 hE3 (by omega) (by decide) dX7_take_222 (fun H locs E78 hP hS hE3 hq => ?_)
                  have hE0 := (hq 119 (by decide)).trans hE0
                  have hE1 := (hq 120 (by decide)).trans hE1
                  have hE2 := (hq 127 (by decide)).trans hE2
                  have hE4 := (hq 132 (by decide)).trans hE4
                  have hE5 := (hq 133 (by decide)).trans hE5
                  have hfr : ∀ j, j ≠ 119 → j ≠ 127 → j ≠ 131 → j ≠ 132 → j ≠ 133 → E78 j = E j := fun j h0 h1 h2 h3 h4 => (hq j h2).trans (hfr j h0 h1 h2 h3 h4)
                  have hns : ¬ (wm_ba tx sz aa1 = 42 ∨ wm_ba tx sz aa1 = 43 ∨ wm_ba tx sz aa1 = 63) := by rintro (q | q | q) <;> contradiction
                  have hse := wm_sge (la := la) (fi := fi) (be := be1) (fo := fo1) hns
                  rw [hrun] at hse
                  exact wm_vret (post := pX7_take C b E th sz fa pl ats aa op fi la wa wc kl be tx fo rF rL rB) X hr hP hS ⟨(by rw [hse]; exact hE0), (by rw [hse]; exact hE2), (by rw [hse]; rw [hc207]; exact hE3), (by rw [hc123]; exact hE4), (by rw [hse]; rw [hc165]; exact hE5), hfr⟩ hQ dX7_take_223
                · refine lv_aload_n X.1 X.2.1 dX7_take_210 rfl (lv_at hl 0 rfl) ?_
                  refine wm_get X hP hlt0 hE0 rfl wm_inX7 21 (by decide) wq5_43 rfl dX7_take_211 ?_
                  refine wm_ifz_eq (x := be1) (tgt := 221) X dX7_take_214 (by decide) (fun hc214 => ?_) (fun hc214 => ?_)
                  · refine lv_iconst (v := nI 0) X.1 X.2.1 dX7_take_221 (by decide) ?_
                    refine wm_zast (i := op) (x := false) X hP hS hlt3 hE3 (by omega) (by decide) dX7_take_222 (fun H locs E80 hP hS hE3 hq => ?_)
                    have hE0 := (hq 119 (by decide)).trans hE0
                    have hE1 := (hq 120 (by decide)).trans hE1
                    have hE2 := (hq 127 (by decide)).trans hE2
                    have hE4 := (hq 132 (by decide)).trans hE4
                    have hE5 := (hq 133 (by decide)).trans hE5
                    have hfr : ∀ j, j ≠ 119 → j ≠ 127 → j ≠ 131 → j ≠ 132 → j ≠ 133 → E80 j = E j := fun j h0 h1 h2 h3 h4 => (hq j h2).trans (hfr j h0 h1 h2 h3 h4)
                    have hns : ¬ (wm_ba tx sz aa1 = 42 ∨ wm_ba tx sz aa1 = 43 ∨ wm_ba tx sz aa1 = 63) := by rintro (q | q | q) <;> contradiction
                    have hse := wm_sge (la := la) (fi := fi) (be := be1) (fo := fo1) hns
                    rw [hrun] at hse
                    exact wm_vret (post := pX7_take C b E th sz fa pl ats aa op fi la wa wc kl be tx fo rF rL rB) X hr hP hS ⟨(by rw [hse]; exact hE0), (by rw [hse]; exact hE2), (by rw [hse]; rw [hc207, hc214]; exact hE3), (by rw [hc123]; exact hE4), (by rw [hse]; rw [hc165]; exact hE5), hfr⟩ hQ dX7_take_223
                  · refine lv_iconst (v := nI 1) X.1 X.2.1 dX7_take_217 (by decide) ?_
                    refine lv_goto (tgt := 222) X.1 X.2.1 dX7_take_218 (by decide) ?_
                    refine wm_zast (i := op) (x := true) X hP hS hlt3 hE3 (by omega) (by decide) dX7_take_222 (fun H locs E81 hP hS hE3 hq => ?_)
                    have hE0 := (hq 119 (by decide)).trans hE0
                    have hE1 := (hq 120 (by decide)).trans hE1
                    have hE2 := (hq 127 (by decide)).trans hE2
                    have hE4 := (hq 132 (by decide)).trans hE4
                    have hE5 := (hq 133 (by decide)).trans hE5
                    have hfr : ∀ j, j ≠ 119 → j ≠ 127 → j ≠ 131 → j ≠ 132 → j ≠ 133 → E81 j = E j := fun j h0 h1 h2 h3 h4 => (hq j h2).trans (hfr j h0 h1 h2 h3 h4)
                    have hns : ¬ (wm_ba tx sz aa1 = 42 ∨ wm_ba tx sz aa1 = 43 ∨ wm_ba tx sz aa1 = 63) := by rintro (q | q | q) <;> contradiction
                    have hse := wm_sge (la := la) (fi := fi) (be := be1) (fo := fo1) hns
                    rw [hrun] at hse
                    exact wm_vret (post := pX7_take C b E th sz fa pl ats aa op fi la wa wc kl be tx fo rF rL rB) X hr hP hS ⟨(by rw [hse]; exact hE0), (by rw [hse]; exact hE2), (by rw [hse]; rw [hc207, hc214]; exact hE3), (by rw [hc123]; exact hE4), (by rw [hse]; rw [hc165]; exact hE5), hfr⟩ hQ dX7_take_223
          · have hsn9 : wm_ba tx sz aa1 = 42 ∨ wm_ba tx sz aa1 = 43 ∨ wm_ba tx sz aa1 = 63 := Or.inr (Or.inr hc24)
            have hlt9 : aa1 < sz := by rcases hsn9 with q | q | q <;> exact (wm_ba_in q (by decide)).1
            refine lv_aload_n X.1 X.2.1 dX7_take_27 rfl (lv_at hl 0 rfl) ?_
            refine lv_aload_n X.1 X.2.1 dX7_take_28 rfl (lv_at hl 0 rfl) ?_
            refine wm_get X hP hlt0 hE0 rfl wm_inX7 21 (by decide) wq5_43 rfl dX7_take_29 ?_
            refine wm_ifz_ne (x := be1) (tgt := 41) X dX7_take_32 (by decide) (fun hc32 => ?_) (fun hc32 => ?_)
            · refine lv_iconst (v := nI 1) X.1 X.2.1 dX7_take_41 (by decide) ?_
              refine lv_goto (tgt := 46) X.1 X.2.1 dX7_take_42 (by decide) ?_
              refine wm_put (v := .int (nI true.toNat)) X hP hS hlt0 hE0 rfl wm_inX7 tyX7 tyX7_ok nmX7 21 (by decide) wq5_43 rfl (wm_nz true) (wm_fz true) (fs1 := [.int (nI th), .ref (b + 120), .int (nI sz), .int (nI fa), .int (nI pl), .ref (b + 121), .ref (b + 122), .ref (b + 123), .ref (b + 124), .ref (b + 125), .ref (b + 126), .ref (b + 127), .int (nI ats), .int (nI aa1), .ref (b + 128), .ref (b + 129), .ref (b + 130), .ref (b + 131), .ref (b + 132), .ref (b + 133), .int (nI op), .int (nI true.toNat), .int (nI fi), .int (nI la), .ref (b + 134), .ref (b + 135), .ref (b + 136), .int (nI wa), .ref (b + 137), .ref (b + 138), .ref (b + 139), .int (nI wc), .ref (b + 140), .int (nI kl), .ref (b + 141), .ref (b + 142), .ref (b + 143), .ref (b + 144), .ref (b + 145)]) rfl (Nat.le_of_ble_eq_true rfl) dX7_take_46 (fun H locs E83 hP hS hE0 hq => ?_)
              have hE1 := (hq 120 (by decide)).trans hE1
              have hE2 := (hq 127 (by decide)).trans hE2
              have hE3 := (hq 131 (by decide)).trans hE3
              have hE4 := (hq 132 (by decide)).trans hE4
              have hE5 := (hq 133 (by decide)).trans hE5
              have hfr : ∀ j, j ≠ 119 → j ≠ 127 → j ≠ 131 → j ≠ 132 → j ≠ 133 → E83 j = E j := fun j h0 h1 h2 h3 h4 => (hq j h0).trans (hfr j h0 h1 h2 h3 h4)
              refine lv_iload_n X.1 X.2.1 dX7_take_49 rfl (lv_at hl 1 rfl) ?_
              refine lv_bipush (v := nI 63) X.1 X.2.1 dX7_take_50 (by decide) ?_
              refine wm_icmp_eq (x := (wm_ba tx sz aa1)) (y := 63) (tgt := 67) X (wm_ba_32 htx) (by decide) dX7_take_52 (by decide) (fun hc52 => ?_) (fun hc52 => ?_)
              · refine lv_aload_n X.1 X.2.1 dX7_take_67 rfl (lv_at hl 0 rfl) ?_
                refine lv_dup X.1 X.2.1 dX7_take_68 rfl ?_
                refine wm_get X hP hlt0 hE0 rfl wm_inX7 13 (by decide) wq5_35 rfl dX7_take_69 ?_
                refine lv_iconst (v := nI 1) X.1 X.2.1 dX7_take_72 (by decide) ?_
                refine wm_iadd (x := aa1) (y := 1) X dX7_take_73 ?_
                refine wm_put (v := .int (nI (aa1 + 1))) X hP hS hlt0 hE0 rfl wm_inX7 tyX7 tyX7_ok nmX7 13 (by decide) wq5_35 rfl rfl rfl (fs1 := [.int (nI th), .ref (b + 120), .int (nI sz), .int (nI fa), .int (nI pl), .ref (b + 121), .ref (b + 122), .ref (b + 123), .ref (b + 124), .ref (b + 125), .ref (b + 126), .ref (b + 127), .int (nI ats), .int (nI (aa1 + 1)), .ref (b + 128), .ref (b + 129), .ref (b + 130), .ref (b + 131), .ref (b + 132), .ref (b + 133), .int (nI op), .int (nI true.toNat), .int (nI fi), .int (nI la), .ref (b + 134), .ref (b + 135), .ref (b + 136), .int (nI wa), .ref (b + 137), .ref (b + 138), .ref (b + 139), .int (nI wc), .ref (b + 140), .int (nI kl), .ref (b + 141), .ref (b + 142), .ref (b + 143), .ref (b + 144), .ref (b + 145)]) rfl (Nat.le_of_ble_eq_true rfl) dX7_take_74 (fun H locs E85 hP hS hE0 hq => ?_)
                have hE1 := (hq 120 (by decide)).trans hE1
                have hE2 := (hq 127 (by decide)).trans hE2
                have hE3 := (hq 131 (by decide)).trans hE3
                have hE4 := (hq 132 (by decide)).trans hE4
                have hE5 := (hq 133 (by decide)).trans hE5
                have hfr : ∀ j, j ≠ 119 → j ≠ 127 → j ≠ 131 → j ≠ 132 → j ≠ 133 → E85 j = E j := fun j h0 h1 h2 h3 h4 => (hq j h0).trans (hfr j h0 h1 h2 h3 h4)
                refine lv_aload_n X.1 X.2.1 dX7_take_77 rfl (lv_at hl 0 rfl) ?_
                refine lv_aload_n X.1 X.2.1 dX7_take_78 rfl (lv_at hl 0 rfl) ?_
                refine wm_get X hP hlt0 hE0 rfl wm_inX7 13 (by decide) wq5_35 rfl dX7_take_79 ?_
                refine wm_callVi (k := 1) (As := [.int (nI (aa1 + 1))]) (rest := []) X hP hS hlt0 hE0 rfl (kX7_byteAt l D C b n E85 th sz fa pl ats (aa1 + 1) op fi la wa wc kl true (aa1 + 1) tx hlt0 hE0 hlt1 hE1 (by omega) (by omega)) wq5_173 wq5_175 wqP3_3 wq1_8 wq5_176 (by decide) (by rw [hRe]; exact ⟨Nat.le_of_ble_eq_true rfl, Nat.le_of_ble_eq_true rfl⟩) rfl hl.1 rfl (Nat.le_of_ble_eq_true rfl) (Nat.zero_le _) (Nat.zero_le _) dX7_take_82 (fun r86 E86 H locs hw hP hS => ?_)
                obtain ⟨hrt, hEe⟩ := hw
                subst hrt
                subst hEe
                refine lv_istore_n (lv' := [(1, .int (nI (wm_ba tx sz (aa1 + 1)))), (0, .ref (b + 119))]) X.1 X.2.1 dX7_take_85 rfl hl (by decide) rfl (fun ls hl => ?_)
                refine lv_goto (tgt := 9) X.1 X.2.1 dX7_take_86 (by decide) ?_
                have hbe9 : (be1 || !decide (wm_ba tx sz aa1 = 43)) = true := by rw [hc32]; rfl
                have hfo9 : (if wm_ba tx sz aa1 = 63 then fo1 else wm_ld fo1 24 la fi) = fo1 := if_pos hc52
                exact ih9 (aa1 + 1) true fo1 (by omega) (by omega) (by rw [← hrun, wm_sgs hsn9, hbe9, hfo9]) E85 _ _ _ hP hS hE0 hE1 hE2 hE3 hE4 hE5 hfr (lv_sub hl [1, 0] rfl)
              · refine lv_aload_n X.1 X.2.1 dX7_take_55 rfl (lv_at hl 0 rfl) ?_
                refine lv_aload_n X.1 X.2.1 dX7_take_56 rfl (lv_at hl 0 rfl) ?_
                refine wm_get X hP hlt0 hE0 rfl wm_inX7 23 (by decide) wq5_45 rfl dX7_take_57 ?_
                refine lv_aload_n X.1 X.2.1 dX7_take_60 rfl (lv_at hl 0 rfl) ?_
                refine wm_get X hP hlt0 hE0 rfl wm_inX7 22 (by decide) wq5_44 rfl dX7_take_61 ?_
                refine wm_callVv (k := 2) (As := [.int (nI la), .int (nI fi)]) (rest := []) X hP hS hlt0 hE0 rfl (kX7_lead l D C b n E83 th sz fa pl ats aa1 op fi la wa wc kl true la fi fo1 hlt0 hE0 hlt2 hE2 (by omega)) wq5_196 wq5_198 wqP3_8 wq1_8 wq5_199 (by decide) (by rw [hRe]; exact ⟨Nat.le_of_ble_eq_true rfl, Nat.le_of_ble_eq_true rfl⟩) rfl hl.1 rfl (Nat.le_of_ble_eq_true rfl) (Nat.zero_le _) (Nat.zero_le _) dX7_take_64 (fun E87 H locs hw hP hS => ?_)
                obtain ⟨hE2, hq⟩ := hw
                have hE0 := (hq 119 (by decide)).trans hE0
                have hE1 := (hq 120 (by decide)).trans hE1
                have hE3 := (hq 131 (by decide)).trans hE3
                have hE4 := (hq 132 (by decide)).trans hE4
                have hE5 := (hq 133 (by decide)).trans hE5
                have hfr : ∀ j, j ≠ 119 → j ≠ 127 → j ≠ 131 → j ≠ 132 → j ≠ 133 → E87 j = E j := fun j h0 h1 h2 h3 h4 => (hq j h1).trans (hfr j h0 h1 h2 h3 h4)
                refine lv_aload_n X.1 X.2.1 dX7_take_67 rfl (lv_at hl 0 rfl) ?_
                refine lv_dup X.1 X.2.1 dX7_take_68 rfl ?_
                refine wm_get X hP hlt0 hE0 rfl wm_inX7 13 (by decide) wq5_35 rfl dX7_take_69 ?_
                refine lv_iconst (v := nI 1) X.1 X.2.1 dX7_take_72 (by decide) ?_
                refine wm_iadd (x := aa1) (y := 1) X dX7_take_73 ?_
                refine wm_put (v := .int (nI (aa1 + 1))) X hP hS hlt0 hE0 rfl wm_inX7 tyX7 tyX7_ok nmX7 13 (by decide) wq5_35 rfl rfl rfl (fs1 := [.int (nI th), .ref (b + 120), .int (nI sz), .int (nI fa), .int (nI pl), .ref (b + 121), .ref (b + 122), .ref (b + 123), .ref (b + 124), .ref (b + 125), .ref (b + 126), .ref (b + 127), .int (nI ats), .int (nI (aa1 + 1)), .ref (b + 128), .ref (b + 129), .ref (b + 130), .ref (b + 131), .ref (b + 132), .ref (b + 133), .int (nI op), .int (nI true.toNat), .int (nI fi), .int (nI la), .ref (b + 134), .ref (b + 135), .ref (b + 136), .int (nI wa), .ref (b + 137), .ref (b + 138), .ref (b + 139), .int (nI wc), .ref (b + 140), .int (nI kl), .ref (b + 141), .ref (b + 142), .ref (b + 143), .ref (b + 144), .ref (b + 145)]) rfl (Nat.le_of_ble_eq_true rfl) dX7_take_74 (fun H locs E88 hP hS hE0 hq => ?_)
                have hE1 := (hq 120 (by decide)).trans hE1
                have hE2 := (hq 127 (by decide)).trans hE2
                have hE3 := (hq 131 (by decide)).trans hE3
                have hE4 := (hq 132 (by decide)).trans hE4
                have hE5 := (hq 133 (by decide)).trans hE5
                have hfr : ∀ j, j ≠ 119 → j ≠ 127 → j ≠ 131 → j ≠ 132 → j ≠ 133 → E88 j = E j := fun j h0 h1 h2 h3 h4 => (hq j h0).trans (hfr j h0 h1 h2 h3 h4)
                refine lv_aload_n X.1 X.2.1 dX7_take_77 rfl (lv_at hl 0 rfl) ?_
                refine lv_aload_n X.1 X.2.1 dX7_take_78 rfl (lv_at hl 0 rfl) ?_
                refine wm_get X hP hlt0 hE0 rfl wm_inX7 13 (by decide) wq5_35 rfl dX7_take_79 ?_
                refine wm_callVi (k := 1) (As := [.int (nI (aa1 + 1))]) (rest := []) X hP hS hlt0 hE0 rfl (kX7_byteAt l D C b n E88 th sz fa pl ats (aa1 + 1) op fi la wa wc kl true (aa1 + 1) tx hlt0 hE0 hlt1 hE1 (by omega) (by omega)) wq5_173 wq5_175 wqP3_3 wq1_8 wq5_176 (by decide) (by rw [hRe]; exact ⟨Nat.le_of_ble_eq_true rfl, Nat.le_of_ble_eq_true rfl⟩) rfl hl.1 rfl (Nat.le_of_ble_eq_true rfl) (Nat.zero_le _) (Nat.zero_le _) dX7_take_82 (fun r89 E89 H locs hw hP hS => ?_)
                obtain ⟨hrt, hEe⟩ := hw
                subst hrt
                subst hEe
                refine lv_istore_n (lv' := [(1, .int (nI (wm_ba tx sz (aa1 + 1)))), (0, .ref (b + 119))]) X.1 X.2.1 dX7_take_85 rfl hl (by decide) rfl (fun ls hl => ?_)
                refine lv_goto (tgt := 9) X.1 X.2.1 dX7_take_86 (by decide) ?_
                have hbe9 : (be1 || !decide (wm_ba tx sz aa1 = 43)) = true := by rw [hc32]; rfl
                have hfo9 : (if wm_ba tx sz aa1 = 63 then fo1 else wm_ld fo1 24 la fi) = wm_ld fo1 24 la fi := if_neg hc52
                exact ih9 (aa1 + 1) true (wm_ld fo1 24 la fi) (by omega) (by omega) (by rw [← hrun, wm_sgs hsn9, hbe9, hfo9]) E88 _ _ _ hP hS hE0 hE1 hE2 hE3 hE4 hE5 hfr (lv_sub hl [1, 0] rfl)
            · refine lv_iload_n X.1 X.2.1 dX7_take_35 rfl (lv_at hl 1 rfl) ?_
              refine lv_bipush (v := nI 43) X.1 X.2.1 dX7_take_36 (by decide) ?_
              refine wm_icmp_eq (x := (wm_ba tx sz aa1)) (y := 43) (tgt := 45) X (wm_ba_32 htx) (by decide) dX7_take_38 (by decide) (fun hc38 => ?_) (fun hc38 => ?_)
              · refine lv_iconst (v := nI 0) X.1 X.2.1 dX7_take_45 (by decide) ?_
                refine wm_put (v := .int (nI false.toNat)) X hP hS hlt0 hE0 rfl wm_inX7 tyX7 tyX7_ok nmX7 21 (by decide) wq5_43 rfl (wm_nz false) (wm_fz false) (fs1 := [.int (nI th), .ref (b + 120), .int (nI sz), .int (nI fa), .int (nI pl), .ref (b + 121), .ref (b + 122), .ref (b + 123), .ref (b + 124), .ref (b + 125), .ref (b + 126), .ref (b + 127), .int (nI ats), .int (nI aa1), .ref (b + 128), .ref (b + 129), .ref (b + 130), .ref (b + 131), .ref (b + 132), .ref (b + 133), .int (nI op), .int (nI false.toNat), .int (nI fi), .int (nI la), .ref (b + 134), .ref (b + 135), .ref (b + 136), .int (nI wa), .ref (b + 137), .ref (b + 138), .ref (b + 139), .int (nI wc), .ref (b + 140), .int (nI kl), .ref (b + 141), .ref (b + 142), .ref (b + 143), .ref (b + 144), .ref (b + 145)]) rfl (Nat.le_of_ble_eq_true rfl) dX7_take_46 (fun H locs E91 hP hS hE0 hq => ?_)
                have hE1 := (hq 120 (by decide)).trans hE1
                have hE2 := (hq 127 (by decide)).trans hE2
                have hE3 := (hq 131 (by decide)).trans hE3
                have hE4 := (hq 132 (by decide)).trans hE4
                have hE5 := (hq 133 (by decide)).trans hE5
                have hfr : ∀ j, j ≠ 119 → j ≠ 127 → j ≠ 131 → j ≠ 132 → j ≠ 133 → E91 j = E j := fun j h0 h1 h2 h3 h4 => (hq j h0).trans (hfr j h0 h1 h2 h3 h4)
                refine lv_iload_n X.1 X.2.1 dX7_take_49 rfl (lv_at hl 1 rfl) ?_
                refine lv_bipush (v := nI 63) X.1 X.2.1 dX7_take_50 (by decide) ?_
                refine wm_icmp_eq (x := (wm_ba tx sz aa1)) (y := 63) (tgt := 67) X (wm_ba_32 htx) (by decide) dX7_take_52 (by decide) (fun hc52 => ?_) (fun hc52 => ?_)
                · refine lv_aload_n X.1 X.2.1 dX7_take_67 rfl (lv_at hl 0 rfl) ?_
                  refine lv_dup X.1 X.2.1 dX7_take_68 rfl ?_
                  refine wm_get X hP hlt0 hE0 rfl wm_inX7 13 (by decide) wq5_35 rfl dX7_take_69 ?_
                  refine lv_iconst (v := nI 1) X.1 X.2.1 dX7_take_72 (by decide) ?_
                  refine wm_iadd (x := aa1) (y := 1) X dX7_take_73 ?_
                  refine wm_put (v := .int (nI (aa1 + 1))) X hP hS hlt0 hE0 rfl wm_inX7 tyX7 tyX7_ok nmX7 13 (by decide) wq5_35 rfl rfl rfl (fs1 := [.int (nI th), .ref (b + 120), .int (nI sz), .int (nI fa), .int (nI pl), .ref (b + 121), .ref (b + 122), .ref (b + 123), .ref (b + 124), .ref (b + 125), .ref (b + 126), .ref (b + 127), .int (nI ats), .int (nI (aa1 + 1)), .ref (b + 128), .ref (b + 129), .ref (b + 130), .ref (b + 131), .ref (b + 132), .ref (b + 133), .int (nI op), .int (nI false.toNat), .int (nI fi), .int (nI la), .ref (b + 134), .ref (b + 135), .ref (b + 136), .int (nI wa), .ref (b + 137), .ref (b + 138), .ref (b + 139), .int (nI wc), .ref (b + 140), .int (nI kl), .ref (b + 141), .ref (b + 142), .ref (b + 143), .ref (b + 144), .ref (b + 145)]) rfl (Nat.le_of_ble_eq_true rfl) dX7_take_74 (fun H locs E93 hP hS hE0 hq => ?_)
                  have hE1 := (hq 120 (by decide)).trans hE1
                  have hE2 := (hq 127 (by decide)).trans hE2
                  have hE3 := (hq 131 (by decide)).trans hE3
                  have hE4 := (hq 132 (by decide)).trans hE4
                  have hE5 := (hq 133 (by decide)).trans hE5
                  have hfr : ∀ j, j ≠ 119 → j ≠ 127 → j ≠ 131 → j ≠ 132 → j ≠ 133 → E93 j = E j := fun j h0 h1 h2 h3 h4 => (hq j h0).trans (hfr j h0 h1 h2 h3 h4)
                  refine lv_aload_n X.1 X.2.1 dX7_take_77 rfl (lv_at hl 0 rfl) ?_
                  refine lv_aload_n X.1 X.2.1 dX7_take_78 rfl (lv_at hl 0 rfl) ?_
                  refine wm_get X hP hlt0 hE0 rfl wm_inX7 13 (by decide) wq5_35 rfl dX7_take_79 ?_
                  refine wm_callVi (k := 1) (As := [.int (nI (aa1 + 1))]) (rest := []) X hP hS hlt0 hE0 rfl (kX7_byteAt l D C b n E93 th sz fa pl ats (aa1 + 1) op fi la wa wc kl false (aa1 + 1) tx hlt0 hE0 hlt1 hE1 (by omega) (by omega)) wq5_173 wq5_175 wqP3_3 wq1_8 wq5_176 (by decide) (by rw [hRe]; exact ⟨Nat.le_of_ble_eq_true rfl, Nat.le_of_ble_eq_true rfl⟩) rfl hl.1 rfl (Nat.le_of_ble_eq_true rfl) (Nat.zero_le _) (Nat.zero_le _) dX7_take_82 (fun r94 E94 H locs hw hP hS => ?_)
                  obtain ⟨hrt, hEe⟩ := hw
                  subst hrt
                  subst hEe
                  refine lv_istore_n (lv' := [(1, .int (nI (wm_ba tx sz (aa1 + 1)))), (0, .ref (b + 119))]) X.1 X.2.1 dX7_take_85 rfl hl (by decide) rfl (fun ls hl => ?_)
                  refine lv_goto (tgt := 9) X.1 X.2.1 dX7_take_86 (by decide) ?_
                  have hbe9 : (be1 || !decide (wm_ba tx sz aa1 = 43)) = false := by rw [hc32, decide_eq_true hc38]; rfl
                  have hfo9 : (if wm_ba tx sz aa1 = 63 then fo1 else wm_ld fo1 24 la fi) = fo1 := if_pos hc52
                  exact ih9 (aa1 + 1) false fo1 (by omega) (by omega) (by rw [← hrun, wm_sgs hsn9, hbe9, hfo9]) E93 _ _ _ hP hS hE0 hE1 hE2 hE3 hE4 hE5 hfr (lv_sub hl [1, 0] rfl)
                · refine lv_aload_n X.1 X.2.1 dX7_take_55 rfl (lv_at hl 0 rfl) ?_
                  refine lv_aload_n X.1 X.2.1 dX7_take_56 rfl (lv_at hl 0 rfl) ?_
                  refine wm_get X hP hlt0 hE0 rfl wm_inX7 23 (by decide) wq5_45 rfl dX7_take_57 ?_
                  refine lv_aload_n X.1 X.2.1 dX7_take_60 rfl (lv_at hl 0 rfl) ?_
                  refine wm_get X hP hlt0 hE0 rfl wm_inX7 22 (by decide) wq5_44 rfl dX7_take_61 ?_
                  refine wm_callVv (k := 2) (As := [.int (nI la), .int (nI fi)]) (rest := []) X hP hS hlt0 hE0 rfl (kX7_lead l D C b n E91 th sz fa pl ats aa1 op fi la wa wc kl false la fi fo1 hlt0 hE0 hlt2 hE2 (by omega)) wq5_196 wq5_198 wqP3_8 wq1_8 wq5_199 (by decide) (by rw [hRe]; exact ⟨Nat.le_of_ble_eq_true rfl, Nat.le_of_ble_eq_true rfl⟩) rfl hl.1 rfl (Nat.le_of_ble_eq_true rfl) (Nat.zero_le _) (Nat.zero_le _) dX7_take_64 (fun E95 H locs hw hP hS => ?_)
                  obtain ⟨hE2, hq⟩ := hw
                  have hE0 := (hq 119 (by decide)).trans hE0
                  have hE1 := (hq 120 (by decide)).trans hE1
                  have hE3 := (hq 131 (by decide)).trans hE3
                  have hE4 := (hq 132 (by decide)).trans hE4
                  have hE5 := (hq 133 (by decide)).trans hE5
                  have hfr : ∀ j, j ≠ 119 → j ≠ 127 → j ≠ 131 → j ≠ 132 → j ≠ 133 → E95 j = E j := fun j h0 h1 h2 h3 h4 => (hq j h1).trans (hfr j h0 h1 h2 h3 h4)
                  refine lv_aload_n X.1 X.2.1 dX7_take_67 rfl (lv_at hl 0 rfl) ?_
                  refine lv_dup X.1 X.2.1 dX7_take_68 rfl ?_
                  refine wm_get X hP hlt0 hE0 rfl wm_inX7 13 (by decide) wq5_35 rfl dX7_take_69 ?_
                  refine lv_iconst (v := nI 1) X.1 X.2.1 dX7_take_72 (by decide) ?_
                  refine wm_iadd (x := aa1) (y := 1) X dX7_take_73 ?_
                  refine wm_put (v := .int (nI (aa1 + 1))) X hP hS hlt0 hE0 rfl wm_inX7 tyX7 tyX7_ok nmX7 13 (by decide) wq5_35 rfl rfl rfl (fs1 := [.int (nI th), .ref (b + 120), .int (nI sz), .int (nI fa), .int (nI pl), .ref (b + 121), .ref (b + 122), .ref (b + 123), .ref (b + 124), .ref (b + 125), .ref (b + 126), .ref (b + 127), .int (nI ats), .int (nI (aa1 + 1)), .ref (b + 128), .ref (b + 129), .ref (b + 130), .ref (b + 131), .ref (b + 132), .ref (b + 133), .int (nI op), .int (nI false.toNat), .int (nI fi), .int (nI la), .ref (b + 134), .ref (b + 135), .ref (b + 136), .int (nI wa), .ref (b + 137), .ref (b + 138), .ref (b + 139), .int (nI wc), .ref (b + 140), .int (nI kl), .ref (b + 141), .ref (b + 142), .ref (b + 143), .ref (b + 144), .ref (b + 145)]) rfl (Nat.le_of_ble_eq_true rfl) dX7_take_74 (fun H locs E96 hP hS hE0 hq => ?_)
                  have hE1 := (hq 120 (by decide)).trans hE1
                  have hE2 := (hq 127 (by decide)).trans hE2
                  have hE3 := (hq 131 (by decide)).trans hE3
                  have hE4 := (hq 132 (by decide)).trans hE4
                  have hE5 := (hq 133 (by decide)).trans hE5
                  have hfr : ∀ j, j ≠ 119 → j ≠ 127 → j ≠ 131 → j ≠ 132 → j ≠ 133 → E96 j = E j := fun j h0 h1 h2 h3 h4 => (hq j h0).trans (hfr j h0 h1 h2 h3 h4)
                  refine lv_aload_n X.1 X.2.1 dX7_take_77 rfl (lv_at hl 0 rfl) ?_
                  refine lv_aload_n X.1 X.2.1 dX7_take_78 rfl (lv_at hl 0 rfl) ?_
                  refine wm_get X hP hlt0 hE0 rfl wm_inX7 13 (by decide) wq5_35 rfl dX7_take_79 ?_
                  refine wm_callVi (k := 1) (As := [.int (nI (aa1 + 1))]) (rest := []) X hP hS hlt0 hE0 rfl (kX7_byteAt l D C b n E96 th sz fa pl ats (aa1 + 1) op fi la wa wc kl false (aa1 + 1) tx hlt0 hE0 hlt1 hE1 (by omega) (by omega)) wq5_173 wq5_175 wqP3_3 wq1_8 wq5_176 (by decide) (by rw [hRe]; exact ⟨Nat.le_of_ble_eq_true rfl, Nat.le_of_ble_eq_true rfl⟩) rfl hl.1 rfl (Nat.le_of_ble_eq_true rfl) (Nat.zero_le _) (Nat.zero_le _) dX7_take_82 (fun r97 E97 H locs hw hP hS => ?_)
                  obtain ⟨hrt, hEe⟩ := hw
                  subst hrt
                  subst hEe
                  refine lv_istore_n (lv' := [(1, .int (nI (wm_ba tx sz (aa1 + 1)))), (0, .ref (b + 119))]) X.1 X.2.1 dX7_take_85 rfl hl (by decide) rfl (fun ls hl => ?_)
                  refine lv_goto (tgt := 9) X.1 X.2.1 dX7_take_86 (by decide) ?_
                  have hbe9 : (be1 || !decide (wm_ba tx sz aa1 = 43)) = false := by rw [hc32, decide_eq_true hc38]; rfl
                  have hfo9 : (if wm_ba tx sz aa1 = 63 then fo1 else wm_ld fo1 24 la fi) = wm_ld fo1 24 la fi := if_neg hc52
                  exact ih9 (aa1 + 1) false (wm_ld fo1 24 la fi) (by omega) (by omega) (by rw [← hrun, wm_sgs hsn9, hbe9, hfo9]) E96 _ _ _ hP hS hE0 hE1 hE2 hE3 hE4 hE5 hfr (lv_sub hl [1, 0] rfl)
              · refine lv_iconst (v := nI 1) X.1 X.2.1 dX7_take_41 (by decide) ?_
                refine lv_goto (tgt := 46) X.1 X.2.1 dX7_take_42 (by decide) ?_
                refine wm_put (v := .int (nI true.toNat)) X hP hS hlt0 hE0 rfl wm_inX7 tyX7 tyX7_ok nmX7 21 (by decide) wq5_43 rfl (wm_nz true) (wm_fz true) (fs1 := [.int (nI th), .ref (b + 120), .int (nI sz), .int (nI fa), .int (nI pl), .ref (b + 121), .ref (b + 122), .ref (b + 123), .ref (b + 124), .ref (b + 125), .ref (b + 126), .ref (b + 127), .int (nI ats), .int (nI aa1), .ref (b + 128), .ref (b + 129), .ref (b + 130), .ref (b + 131), .ref (b + 132), .ref (b + 133), .int (nI op), .int (nI true.toNat), .int (nI fi), .int (nI la), .ref (b + 134), .ref (b + 135), .ref (b + 136), .int (nI wa), .ref (b + 137), .ref (b + 138), .ref (b + 139), .int (nI wc), .ref (b + 140), .int (nI kl), .ref (b + 141), .ref (b + 142), .ref (b + 143), .ref (b + 144), .ref (b + 145)]) rfl (Nat.le_of_ble_eq_true rfl) dX7_take_46 (fun H locs E98 hP hS hE0 hq => ?_)
                have hE1 := (hq 120 (by decide)).trans hE1
                have hE2 := (hq 127 (by decide)).trans hE2
                have hE3 := (hq 131 (by decide)).trans hE3
                have hE4 := (hq 132 (by decide)).trans hE4
                have hE5 := (hq 133 (by decide)).trans hE5
                have hfr : ∀ j, j ≠ 119 → j ≠ 127 → j ≠ 131 → j ≠ 132 → j ≠ 133 → E98 j = E j := fun j h0 h1 h2 h3 h4 => (hq j h0).trans (hfr j h0 h1 h2 h3 h4)
                refine lv_iload_n X.1 X.2.1 dX7_take_49 rfl (lv_at hl 1 rfl) ?_
                refine lv_bipush (v := nI 63) X.1 X.2.1 dX7_take_50 (by decide) ?_
                refine wm_icmp_eq (x := (wm_ba tx sz aa1)) (y := 63) (tgt := 67) X (wm_ba_32 htx) (by decide) dX7_take_52 (by decide) (fun hc52 => ?_) (fun hc52 => ?_)
                · refine lv_aload_n X.1 X.2.1 dX7_take_67 rfl (lv_at hl 0 rfl) ?_
                  refine lv_dup X.1 X.2.1 dX7_take_68 rfl ?_
                  refine wm_get X hP hlt0 hE0 rfl wm_inX7 13 (by decide) wq5_35 rfl dX7_take_69 ?_
                  refine lv_iconst (v := nI 1) X.1 X.2.1 dX7_take_72 (by decide) ?_
                  refine wm_iadd (x := aa1) (y := 1) X dX7_take_73 ?_
                  refine wm_put (v := .int (nI (aa1 + 1))) X hP hS hlt0 hE0 rfl wm_inX7 tyX7 tyX7_ok nmX7 13 (by decide) wq5_35 rfl rfl rfl (fs1 := [.int (nI th), .ref (b + 120), .int (nI sz), .int (nI fa), .int (nI pl), .ref (b + 121), .ref (b + 122), .ref (b + 123), .ref (b + 124), .ref (b + 125), .ref (b + 126), .ref (b + 127), .int (nI ats), .int (nI (aa1 + 1)), .ref (b + 128), .ref (b + 129), .ref (b + 130), .ref (b + 131), .ref (b + 132), .ref (b + 133), .int (nI op), .int (nI true.toNat), .int (nI fi), .int (nI la), .ref (b + 134), .ref (b + 135), .ref (b + 136), .int (nI wa), .ref (b + 137), .ref (b + 138), .ref (b + 139), .int (nI wc), .ref (b + 140), .int (nI kl), .ref (b + 141), .ref (b + 142), .ref (b + 143), .ref (b + 144), .ref (b + 145)]) rfl (Nat.le_of_ble_eq_true rfl) dX7_take_74 (fun H locs E100 hP hS hE0 hq => ?_)
                  have hE1 := (hq 120 (by decide)).trans hE1
                  have hE2 := (hq 127 (by decide)).trans hE2
                  have hE3 := (hq 131 (by decide)).trans hE3
                  have hE4 := (hq 132 (by decide)).trans hE4
                  have hE5 := (hq 133 (by decide)).trans hE5
                  have hfr : ∀ j, j ≠ 119 → j ≠ 127 → j ≠ 131 → j ≠ 132 → j ≠ 133 → E100 j = E j := fun j h0 h1 h2 h3 h4 => (hq j h0).trans (hfr j h0 h1 h2 h3 h4)
                  refine lv_aload_n X.1 X.2.1 dX7_take_77 rfl (lv_at hl 0 rfl) ?_
                  refine lv_aload_n X.1 X.2.1 dX7_take_78 rfl (lv_at hl 0 rfl) ?_
                  refine wm_get X hP hlt0 hE0 rfl wm_inX7 13 (by decide) wq5_35 rfl dX7_take_79 ?_
                  refine wm_callVi (k := 1) (As := [.int (nI (aa1 + 1))]) (rest := []) X hP hS hlt0 hE0 rfl (kX7_byteAt l D C b n E100 th sz fa pl ats (aa1 + 1) op fi la wa wc kl true (aa1 + 1) tx hlt0 hE0 hlt1 hE1 (by omega) (by omega)) wq5_173 wq5_175 wqP3_3 wq1_8 wq5_176 (by decide) (by rw [hRe]; exact ⟨Nat.le_of_ble_eq_true rfl, Nat.le_of_ble_eq_true rfl⟩) rfl hl.1 rfl (Nat.le_of_ble_eq_true rfl) (Nat.zero_le _) (Nat.zero_le _) dX7_take_82 (fun r101 E101 H locs hw hP hS => ?_)
                  obtain ⟨hrt, hEe⟩ := hw
                  subst hrt
                  subst hEe
                  refine lv_istore_n (lv' := [(1, .int (nI (wm_ba tx sz (aa1 + 1)))), (0, .ref (b + 119))]) X.1 X.2.1 dX7_take_85 rfl hl (by decide) rfl (fun ls hl => ?_)
                  refine lv_goto (tgt := 9) X.1 X.2.1 dX7_take_86 (by decide) ?_
                  have hbe9 : (be1 || !decide (wm_ba tx sz aa1 = 43)) = true := by rw [hc32, decide_eq_false hc38]; rfl
                  have hfo9 : (if wm_ba tx sz aa1 = 63 then fo1 else wm_ld fo1 24 la fi) = fo1 := if_pos hc52
                  exact ih9 (aa1 + 1) true fo1 (by omega) (by omega) (by rw [← hrun, wm_sgs hsn9, hbe9, hfo9]) E100 _ _ _ hP hS hE0 hE1 hE2 hE3 hE4 hE5 hfr (lv_sub hl [1, 0] rfl)
                · refine lv_aload_n X.1 X.2.1 dX7_take_55 rfl (lv_at hl 0 rfl) ?_
                  refine lv_aload_n X.1 X.2.1 dX7_take_56 rfl (lv_at hl 0 rfl) ?_
                  refine wm_get X hP hlt0 hE0 rfl wm_inX7 23 (by decide) wq5_45 rfl dX7_take_57 ?_
                  refine lv_aload_n X.1 X.2.1 dX7_take_60 rfl (lv_at hl 0 rfl) ?_
                  refine wm_get X hP hlt0 hE0 rfl wm_inX7 22 (by decide) wq5_44 rfl dX7_take_61 ?_
                  refine wm_callVv (k := 2) (As := [.int (nI la), .int (nI fi)]) (rest := []) X hP hS hlt0 hE0 rfl (kX7_lead l D C b n E98 th sz fa pl ats aa1 op fi la wa wc kl true la fi fo1 hlt0 hE0 hlt2 hE2 (by omega)) wq5_196 wq5_198 wqP3_8 wq1_8 wq5_199 (by decide) (by rw [hRe]; exact ⟨Nat.le_of_ble_eq_true rfl, Nat.le_of_ble_eq_true rfl⟩) rfl hl.1 rfl (Nat.le_of_ble_eq_true rfl) (Nat.zero_le _) (Nat.zero_le _) dX7_take_64 (fun E102 H locs hw hP hS => ?_)
                  obtain ⟨hE2, hq⟩ := hw
                  have hE0 := (hq 119 (by decide)).trans hE0
                  have hE1 := (hq 120 (by decide)).trans hE1
                  have hE3 := (hq 131 (by decide)).trans hE3
                  have hE4 := (hq 132 (by decide)).trans hE4
                  have hE5 := (hq 133 (by decide)).trans hE5
                  have hfr : ∀ j, j ≠ 119 → j ≠ 127 → j ≠ 131 → j ≠ 132 → j ≠ 133 → E102 j = E j := fun j h0 h1 h2 h3 h4 => (hq j h1).trans (hfr j h0 h1 h2 h3 h4)
                  refine lv_aload_n X.1 X.2.1 dX7_take_67 rfl (lv_at hl 0 rfl) ?_
                  refine lv_dup X.1 X.2.1 dX7_take_68 rfl ?_
                  refine wm_get X hP hlt0 hE0 rfl wm_inX7 13 (by decide) wq5_35 rfl dX7_take_69 ?_
                  refine lv_iconst (v := nI 1) X.1 X.2.1 dX7_take_72 (by decide) ?_
                  refine wm_iadd (x := aa1) (y := 1) X dX7_take_73 ?_
                  refine wm_put (v := .int (nI (aa1 + 1))) X hP hS hlt0 hE0 rfl wm_inX7 tyX7 tyX7_ok nmX7 13 (by decide) wq5_35 rfl rfl rfl (fs1 := [.int (nI th), .ref (b + 120), .int (nI sz), .int (nI fa), .int (nI pl), .ref (b + 121), .ref (b + 122), .ref (b + 123), .ref (b + 124), .ref (b + 125), .ref (b + 126), .ref (b + 127), .int (nI ats), .int (nI (aa1 + 1)), .ref (b + 128), .ref (b + 129), .ref (b + 130), .ref (b + 131), .ref (b + 132), .ref (b + 133), .int (nI op), .int (nI true.toNat), .int (nI fi), .int (nI la), .ref (b + 134), .ref (b + 135), .ref (b + 136), .int (nI wa), .ref (b + 137), .ref (b + 138), .ref (b + 139), .int (nI wc), .ref (b + 140), .int (nI kl), .ref (b + 141), .ref (b + 142), .ref (b + 143), .ref (b + 144), .ref (b + 145)]) rfl (Nat.le_of_ble_eq_true rfl) dX7_take_74 (fun H locs E103 hP hS hE0 hq => ?_)
                  have hE1 := (hq 120 (by decide)).trans hE1
                  have hE2 := (hq 127 (by decide)).trans hE2
                  have hE3 := (hq 131 (by decide)).trans hE3
                  have hE4 := (hq 132 (by decide)).trans hE4
                  have hE5 := (hq 133 (by decide)).trans hE5
                  have hfr : ∀ j, j ≠ 119 → j ≠ 127 → j ≠ 131 → j ≠ 132 → j ≠ 133 → E103 j = E j := fun j h0 h1 h2 h3 h4 => (hq j h0).trans (hfr j h0 h1 h2 h3 h4)
                  refine lv_aload_n X.1 X.2.1 dX7_take_77 rfl (lv_at hl 0 rfl) ?_
                  refine lv_aload_n X.1 X.2.1 dX7_take_78 rfl (lv_at hl 0 rfl) ?_
                  refine wm_get X hP hlt0 hE0 rfl wm_inX7 13 (by decide) wq5_35 rfl dX7_take_79 ?_
                  refine wm_callVi (k := 1) (As := [.int (nI (aa1 + 1))]) (rest := []) X hP hS hlt0 hE0 rfl (kX7_byteAt l D C b n E103 th sz fa pl ats (aa1 + 1) op fi la wa wc kl true (aa1 + 1) tx hlt0 hE0 hlt1 hE1 (by omega) (by omega)) wq5_173 wq5_175 wqP3_3 wq1_8 wq5_176 (by decide) (by rw [hRe]; exact ⟨Nat.le_of_ble_eq_true rfl, Nat.le_of_ble_eq_true rfl⟩) rfl hl.1 rfl (Nat.le_of_ble_eq_true rfl) (Nat.zero_le _) (Nat.zero_le _) dX7_take_82 (fun r104 E104 H locs hw hP hS => ?_)
                  obtain ⟨hrt, hEe⟩ := hw
                  subst hrt
                  subst hEe
                  refine lv_istore_n (lv' := [(1, .int (nI (wm_ba tx sz (aa1 + 1)))), (0, .ref (b + 119))]) X.1 X.2.1 dX7_take_85 rfl hl (by decide) rfl (fun ls hl => ?_)
                  refine lv_goto (tgt := 9) X.1 X.2.1 dX7_take_86 (by decide) ?_
                  have hbe9 : (be1 || !decide (wm_ba tx sz aa1 = 43)) = true := by rw [hc32, decide_eq_false hc38]; rfl
                  have hfo9 : (if wm_ba tx sz aa1 = 63 then fo1 else wm_ld fo1 24 la fi) = wm_ld fo1 24 la fi := if_neg hc52
                  exact ih9 (aa1 + 1) true (wm_ld fo1 24 la fi) (by omega) (by omega) (by rw [← hrun, wm_sgs hsn9, hbe9, hfo9]) E103 _ _ _ hP hS hE0 hE1 hE2 hE3 hE4 hE5 hfr (lv_sub hl [1, 0] rfl)
  exact L9 (sz - aa + 1) aa be fo (Nat.lt_succ_self _) (by omega) rfl E _ _ _ hP hS hE0 hE1 hE2 hE3 hE4 hE5 hfr (lv_sub hl [1, 0] rfl)
