def pX7_after (C : Nat → ClassId) (b : Nat) (E : Nat → va_E) (th sz fa pl ats aa op fi la wa wc kl : Nat) (be : Bool) (k S lr : Nat) (ar ss : Nat → Nat) : Int32 → (Nat → va_E) → Prop := fun r E' => r = nI (wm_af ar k (ss k) lr S) ∧ E = E'
set_option maxHeartbeats 4000000 in
set_option maxRecDepth 100000 in
theorem kX7_after (l : Launch) (D : va_G) (C : Nat → ClassId) (b n : Nat) (E : Nat → va_E) (th sz fa pl ats aa op fi la wa wc kl : Nat) (be : Bool) (k S lr : Nat) (ar ss : Nat → Nat) (hlt0 : 119 < n) (hE0 : E 119 = .inr (7, [.int (nI th), .ref (b + 120), .int (nI sz), .int (nI fa), .int (nI pl), .ref (b + 121), .ref (b + 122), .ref (b + 123), .ref (b + 124), .ref (b + 125), .ref (b + 126), .ref (b + 127), .int (nI ats), .int (nI aa), .ref (b + 128), .ref (b + 129), .ref (b + 130), .ref (b + 131), .ref (b + 132), .ref (b + 133), .int (nI op), .int (nI be.toNat), .int (nI fi), .int (nI la), .ref (b + 134), .ref (b + 135), .ref (b + 136), .int (nI wa), .ref (b + 137), .ref (b + 138), .ref (b + 139), .int (nI wc), .ref (b + 140), .int (nI kl), .ref (b + 141), .ref (b + 142), .ref (b + 143), .ref (b + 144), .ref (b + 145)])) (hlt1 : 121 < n) (hE1 : E 121 = wm_I C 1536 ar) (hlt2 : 122 < n) (hE2 : E 122 = wm_I C 8 ss) (hkk : k < 8) (hsk : ss k ≤ 24) (hS : S < 2 ^ 31) (hlr : lr < 8) : Met l yX7_after (wm_ws yX7_after cX7_after 6 (some .int)) { frames := 1, cells := 0, slots := 0, locals := 23 } (va_Pc [.ref (b + 119), .int (nI k), .int (nI S), .int (nI lr)] (wm_G D C b n E)) (va_Qi (pX7_after C b E th sz fa pl ats aa op fi la wa wc kl be k S lr ar ss) (fun E' t => wm_P D b n E' t.heap) (wm_A b)) 0 0 (wm_A b) := by
  refine wm_ofW (by decide) (Nat.le_of_ble_eq_true rfl) (fun p e s m below meth c ls R args Q hRe hQ X hr hnm hP hS hl => ?_)
  have hl : lv_has ls 6 [(0, .ref (b + 119)), (1, .int (nI k)), (2, .int (nI S)), (3, .int (nI lr))] := hl
  refine lv_iconst (v := nI 0) X.1 X.2.1 dX7_after_0 (by decide) ?_
  refine lv_istore (lv' := [(4, .int (nI 0)), (0, .ref (b + 119)), (1, .int (nI k)), (2, .int (nI S)), (3, .int (nI lr))]) X.1 X.2.1 dX7_after_1 hl (by decide) rfl (fun ls hl => ?_)
  refine lv_iconst (v := nI 0) X.1 X.2.1 dX7_after_3 (by decide) ?_
  refine lv_istore (lv' := [(5, .int (nI 0)), (4, .int (nI 0)), (0, .ref (b + 119)), (1, .int (nI k)), (2, .int (nI S)), (3, .int (nI lr))]) X.1 X.2.1 dX7_after_4 hl (by decide) rfl (fun ls hl => ?_)
  have L6 : ∀ (fu : Nat) (a : Nat) (i : Nat), 24 - i < fu → (i ≤ ss k) → (a = wm_or i (fun x => if S.testBit x then ar (192 * k + 8 * x + lr) else 0)) → ∀ (H : Heap) (locs : List Loc) (ls : Array Slot), wm_P D b n E H → wm_S b s.heap H locs → E 119 = .inr (7, [.int (nI th), .ref (b + 120), .int (nI sz), .int (nI fa), .int (nI pl), .ref (b + 121), .ref (b + 122), .ref (b + 123), .ref (b + 124), .ref (b + 125), .ref (b + 126), .ref (b + 127), .int (nI ats), .int (nI aa), .ref (b + 128), .ref (b + 129), .ref (b + 130), .ref (b + 131), .ref (b + 132), .ref (b + 133), .int (nI op), .int (nI be.toNat), .int (nI fi), .int (nI la), .ref (b + 134), .ref (b + 135), .ref (b + 136), .int (nI wa), .ref (b + 137), .ref (b + 138), .ref (b + 139), .int (nI wc), .ref (b + 140), .int (nI kl), .ref (b + 141), .ref (b + 142), .ref (b + 143), .ref (b + 144), .ref (b + 145)]) → E 121 = wm_I C 1536 ar → E 122 = wm_I C 8 ss → lv_has ls 6 [(0, .ref (b + 119)), (1, .int (nI k)), (2, .int (nI S)), (3, .int (nI lr)), (4, .int (nI a)), (5, .int (nI i))] → W p l e R s m args below meth c H locs 0 0 Q (F0 m 6 ls []) := by
    intro fu
    induction fu with
    | zero => intro a i hm; exact absurd hm (Nat.not_lt_zero _)
    | succ fu ih6 =>
      intro a i hm hi ha H locs ls hP hS hE0 hE1 hE2 hl
      refine lv_iload X.1 X.2.1 dX7_after_6 (lv_at hl 5 rfl) ?_
      refine lv_aload_n X.1 X.2.1 dX7_after_8 rfl (lv_at hl 0 rfl) ?_
      refine wm_get X hP hlt0 hE0 rfl wm_inX7 6 (by decide) wq5_28 rfl dX7_after_9 ?_
      refine lv_iload_n X.1 X.2.1 dX7_after_12 rfl (lv_at hl 1 rfl) ?_
      refine wm_iald (i := k) X hP hlt2 hE2 (by omega) (by decide) dX7_after_13 ?_
      refine wm_icmp_ge (x := i) (y := (ss k)) (tgt := 51) X (by omega) (by omega) dX7_after_14 (by decide) (fun hc14 => ?_) (fun hc14 => ?_)
      · refine lv_iload X.1 X.2.1 dX7_after_51 (lv_at hl 4 rfl) ?_
        exact wm_iret (post := pX7_after C b E th sz fa pl ats aa op fi la wa wc kl be k S lr ar ss) X hr hP hS ⟨(congrArg nI (ha.trans (show wm_or i _ = wm_or (ss k) _ from (show i = ss k from by omega) ▸ rfl))), rfl⟩ hQ dX7_after_53
      · refine lv_iload_n X.1 X.2.1 dX7_after_17 rfl (lv_at hl 2 rfl) ?_
        refine lv_iload X.1 X.2.1 dX7_after_18 (lv_at hl 5 rfl) ?_
        refine wm_ishr (x := S) (y := i) X (by omega) (by omega) dX7_after_20 ?_
        refine lv_iconst (v := nI 1) X.1 X.2.1 dX7_after_21 (by decide) ?_
        refine wm_iand (x := (S >>> i)) (y := 1) X dX7_after_22 ?_
        refine lv_iconst (v := nI 1) X.1 X.2.1 dX7_after_23 (by decide) ?_
        refine wm_icmp_ne (x := ((S >>> i) &&& 1)) (y := 1) (tgt := 41) X (Nat.lt_trans (wm_and1_lt _) (by decide)) (by decide) dX7_after_24 (by decide) (fun hc24 => ?_) (fun hc24 => ?_)
        · refine lv_iload X.1 X.2.1 dX7_after_41 (lv_at hl 4 rfl) ?_
          refine lv_istore (lv' := [(4, .int (nI a)), (0, .ref (b + 119)), (1, .int (nI k)), (2, .int (nI S)), (3, .int (nI lr)), (5, .int (nI i))]) X.1 X.2.1 dX7_after_43 hl (by decide) rfl (fun ls hl => ?_)
          refine lv_iinc (v := nI (i + 1)) (lv' := [(5, .int (nI (i + 1))), (4, .int (nI a)), (0, .ref (b + 119)), (1, .int (nI k)), (2, .int (nI S)), (3, .int (nI lr))]) X.1 X.2.1 dX7_after_45 hl (k := 5) rfl (wm_inc i) (by decide) rfl (fun ls hl => ?_)
          refine lv_goto (tgt := 6) X.1 X.2.1 dX7_after_48 (by decide) ?_
          exact ih6 a (i + 1) (by omega) (by omega) (wm_pr_f ha (if_neg (by rw [wm_sh0 hc24]; decide))) _ _ _ hP hS hE0 hE1 hE2 (lv_sub hl [2, 3, 4, 5, 1, 0] rfl)
        · refine lv_iload X.1 X.2.1 dX7_after_27 (lv_at hl 4 rfl) ?_
          refine lv_aload_n X.1 X.2.1 dX7_after_29 rfl (lv_at hl 0 rfl) ?_
          refine lv_iload_n X.1 X.2.1 dX7_after_30 rfl (lv_at hl 1 rfl) ?_
          refine lv_iload X.1 X.2.1 dX7_after_31 (lv_at hl 5 rfl) ?_
          refine lv_iload_n X.1 X.2.1 dX7_after_33 rfl (lv_at hl 3 rfl) ?_
          refine wm_callVi (k := 3) (As := [.int (nI k), .int (nI i), .int (nI lr)]) (rest := [.int (nI a)]) X hP hS hlt0 hE0 rfl (kX7_arcsOf l D C b n E th sz fa pl ats aa op fi la wa wc kl be k i lr ar hlt0 hE0 hlt1 hE1 (by omega) (by omega) (by omega)) wq5_236 wq5_238 wqP3_13 wq1_8 wq5_239 (by decide) (by rw [hRe]; exact ⟨Nat.le_of_ble_eq_true rfl, Nat.le_of_ble_eq_true rfl⟩) rfl hl.1 rfl (Nat.le_of_ble_eq_true rfl) (Nat.zero_le _) (Nat.zero_le _) dX7_after_34 (fun r3 E3 H locs hw hP hS => ?_)
          obtain ⟨hrt, hEe⟩ := hw
          subst hrt
          subst hEe
          refine wm_ior (x := a) (y := (ar (192 * k + 8 * i + lr))) X dX7_after_37 ?_
          refine lv_goto (tgt := 43) X.1 X.2.1 dX7_after_38 (by decide) ?_
          refine lv_istore (lv' := [(4, .int (nI (a ||| (ar (192 * k + 8 * i + lr))))), (0, .ref (b + 119)), (1, .int (nI k)), (2, .int (nI S)), (3, .int (nI lr)), (5, .int (nI i))]) X.1 X.2.1 dX7_after_43 hl (by decide) rfl (fun ls hl => ?_)
          refine lv_iinc (v := nI (i + 1)) (lv' := [(5, .int (nI (i + 1))), (4, .int (nI (a ||| (ar (192 * k + 8 * i + lr))))), (0, .ref (b + 119)), (1, .int (nI k)), (2, .int (nI S)), (3, .int (nI lr))]) X.1 X.2.1 dX7_after_45 hl (k := 5) rfl (wm_inc i) (by decide) rfl (fun ls hl => ?_)
          refine lv_goto (tgt := 6) X.1 X.2.1 dX7_after_48 (by decide) ?_
          exact ih6 (a ||| (ar (192 * k + 8 * i + lr))) (i + 1) (by omega) (by omega) (wm_pr_t ha _ (if_pos (wm_sh1 hc24))) _ _ _ hP hS hE0 hE1 hE2 (lv_sub hl [2, 3, 4, 5, 1, 0] rfl)
  exact L6 (24 - 0 + 1) 0 0 (Nat.lt_succ_self _) (by omega) rfl _ _ _ hP hS hE0 hE1 hE2 (lv_sub hl [2, 3, 4, 5, 1, 0] rfl)
def pisL1 (C : Nat → ClassId) (b : Nat) (E : Nat → va_E) (y : Nat) : Int32 → (Nat → va_E) → Prop := fun r E' => r = nI (decide (97 ≤ y ∧ y ≤ 104)).toNat ∧ E = E'
set_option maxHeartbeats 4000000 in
set_option maxRecDepth 100000 in
theorem kisL1 (l : Launch) (D : va_G) (C : Nat → ClassId) (b n : Nat) (E : Nat → va_E) (y : Nat) (hy : y < 256) : Met l yX7_isLetter (wm_ws yX7_isLetter cX7_isLetter 1 (some .boolean)) { frames := 0, cells := 0, slots := 0, locals := 0 } (va_Pc [.int (nI y)] (wm_G D C b n E)) (va_Qi (pisL1 C b E y) (fun E' t => wm_P D b n E' t.heap) (wm_A b)) 0 0 (wm_A b) := by
  refine wm_ofW (by decide) (Nat.le_of_ble_eq_true rfl) (fun p e s m below meth c ls R args Q hRe hQ X hr hnm hP hS hl => ?_)
  have hl : lv_has ls 1 [(0, .int (nI y))] := hl
  refine lv_iload_n X.1 X.2.1 dX7_isLetter_0 rfl (lv_at hl 0 rfl) ?_
  refine lv_bipush (v := nI 97) X.1 X.2.1 dX7_isLetter_1 (by decide) ?_
  refine wm_icmp_lt (x := y) (y := 97) (tgt := 16) X (by omega) (by decide) dX7_isLetter_3 (by decide) (fun hc3 => ?_) (fun hc3 => ?_)
  · refine lv_iconst (v := nI 0) X.1 X.2.1 dX7_isLetter_16 (by decide) ?_
    exact wm_zret (v := false) (post := pisL1 C b E y) X hr hP hS ⟨(by rw [decide_eq_false (show ¬ (97 ≤ y ∧ y ≤ 104) by omega)]), rfl⟩ hQ dX7_isLetter_17
  · refine lv_iload_n X.1 X.2.1 dX7_isLetter_6 rfl (lv_at hl 0 rfl) ?_
    refine lv_bipush (v := nI 104) X.1 X.2.1 dX7_isLetter_7 (by decide) ?_
    refine wm_icmp_gt (x := y) (y := 104) (tgt := 16) X (by omega) (by decide) dX7_isLetter_9 (by decide) (fun hc9 => ?_) (fun hc9 => ?_)
    · refine lv_iconst (v := nI 0) X.1 X.2.1 dX7_isLetter_16 (by decide) ?_
      exact wm_zret (v := false) (post := pisL1 C b E y) X hr hP hS ⟨(by rw [decide_eq_false (show ¬ (97 ≤ y ∧ y ≤ 104) by omega)]), rfl⟩ hQ dX7_isLetter_17
    · refine lv_iconst (v := nI 1) X.1 X.2.1 dX7_isLetter_12 (by decide) ?_
      refine lv_goto (tgt := 17) X.1 X.2.1 dX7_isLetter_13 (by decide) ?_
      exact wm_zret (v := true) (post := pisL1 C b E y) X hr hP hS ⟨(by rw [decide_eq_true (show 97 ≤ y ∧ y ≤ 104 by omega)]), rfl⟩ hQ dX7_isLetter_17
def pisL0 (C : Nat → ClassId) (b : Nat) (E : Nat → va_E) (y : Nat) : Int32 → (Nat → va_E) → Prop := fun r E' => r = nI (decide (97 ≤ y ∧ y ≤ 104)).toNat ∧ E = E'
set_option maxHeartbeats 4000000 in
set_option maxRecDepth 100000 in
theorem kisL0 (l : Launch) (D : va_G) (C : Nat → ClassId) (b n : Nat) (E : Nat → va_E) (y : Nat) (hy : y = 4294967295) : Met l yX7_isLetter (wm_ws yX7_isLetter cX7_isLetter 1 (some .boolean)) { frames := 0, cells := 0, slots := 0, locals := 0 } (va_Pc [.int (nI y)] (wm_G D C b n E)) (va_Qi (pisL0 C b E y) (fun E' t => wm_P D b n E' t.heap) (wm_A b)) 0 0 (wm_A b) := by
  refine wm_ofW (by decide) (Nat.le_of_ble_eq_true rfl) (fun p e s m below meth c ls R args Q hRe hQ X hr hnm hP hS hl => ?_)
  have hl : lv_has ls 1 [(0, .int (nI y))] := hl
  refine lv_iload_n X.1 X.2.1 dX7_isLetter_0 rfl (lv_at hl 0 rfl) ?_
  refine lv_bipush (v := nI 97) X.1 X.2.1 dX7_isLetter_1 (by decide) ?_
  refine lv_icmp_lt (tgt := 16) X.1 X.2.1 dX7_isLetter_3 (by decide) (fun hc3 => ?_) (fun hc3 => ?_)
  · refine lv_iconst (v := nI 0) X.1 X.2.1 dX7_isLetter_16 (by decide) ?_
    exact wm_zret (v := false) (post := pisL0 C b E y) X hr hP hS ⟨(by rw [decide_eq_false (show ¬ (97 ≤ y ∧ y ≤ 104) by omega)]), rfl⟩ hQ dX7_isLetter_17
  · exact absurd hc3 (fun q => q (by rw [hy]; decide))
theorem kX7_isLetter (l : Launch) (D : va_G) (C : Nat → ClassId) (b n : Nat) (E : Nat → va_E) (y : Nat) (hy : y < 256 ∨ y = 4294967295) : Met l yX7_isLetter (wm_ws yX7_isLetter cX7_isLetter 1 (some .boolean)) { frames := 0, cells := 0, slots := 0, locals := 0 } (va_Pc [.int (nI y)] (wm_G D C b n E)) (va_Qi (pisL1 C b E y) (fun E' t => wm_P D b n E' t.heap) (wm_A b)) 0 0 (wm_A b) := by
  rcases hy with h | h
  · exact kisL1 l D C b n E y h
  · exact kisL0 l D C b n E y h
def pmtakesX (C : Nat → ClassId) (b : Nat) (E : Nat → va_E) (th sz fa pl ats aa op fi la wa wc kl : Nat) (be : Bool) (x : Int32) : Int32 → (Nat → va_E) → Prop := fun r E' => r = nI false.toNat ∧ E' 119 = .inr (7, [.int (nI 1), .ref (b + 120), .int (nI sz), .int (nI fa), .int (nI pl), .ref (b + 121), .ref (b + 122), .ref (b + 123), .ref (b + 124), .ref (b + 125), .ref (b + 126), .ref (b + 127), .int (nI ats), .int (nI aa), .ref (b + 128), .ref (b + 129), .ref (b + 130), .ref (b + 131), .ref (b + 132), .ref (b + 133), .int (nI op), .int (nI be.toNat), .int (nI fi), .int (nI la), .ref (b + 134), .ref (b + 135), .ref (b + 136), .int (nI wa), .ref (b + 137), .ref (b + 138), .ref (b + 139), .int (nI wc), .ref (b + 140), .int (nI kl), .ref (b + 141), .ref (b + 142), .ref (b + 143), .ref (b + 144), .ref (b + 145)]) ∧ (∀ j, j ≠ 119 → E' j = E j)
set_option maxHeartbeats 4000000 in
set_option maxRecDepth 100000 in
theorem kmtakesX (l : Launch) (D : va_G) (C : Nat → ClassId) (b n : Nat) (E : Nat → va_E) (th sz fa pl ats aa op fi la wa wc kl : Nat) (be : Bool) (x : Int32) (hlt0 : 119 < n) (hE0 : E 119 = .inr (7, [.int (nI th), .ref (b + 120), .int (nI sz), .int (nI fa), .int (nI pl), .ref (b + 121), .ref (b + 122), .ref (b + 123), .ref (b + 124), .ref (b + 125), .ref (b + 126), .ref (b + 127), .int (nI ats), .int (nI aa), .ref (b + 128), .ref (b + 129), .ref (b + 130), .ref (b + 131), .ref (b + 132), .ref (b + 133), .int (nI op), .int (nI be.toNat), .int (nI fi), .int (nI la), .ref (b + 134), .ref (b + 135), .ref (b + 136), .int (nI wa), .ref (b + 137), .ref (b + 138), .ref (b + 139), .int (nI wc), .ref (b + 140), .int (nI kl), .ref (b + 141), .ref (b + 142), .ref (b + 143), .ref (b + 144), .ref (b + 145)])) (hk : ¬ (0 ≤ x ∧ x < nI 8)) : Met l yX7_takes (wm_ws yX7_takes cX7_takes 4 (some .boolean)) { frames := 1, cells := 0, slots := 0, locals := 21 } (va_Pc [.ref (b + 119), .int x] (wm_G D C b n E)) (va_Qi (pmtakesX C b E th sz fa pl ats aa op fi la wa wc kl be x) (fun E' t => wm_P D b n E' t.heap) (wm_A b)) 0 0 (wm_A b) := by
  refine wm_ofW (by decide) (Nat.le_of_ble_eq_true rfl) (fun p e s m below meth c ls R args Q hRe hQ X hr hnm hP hS hl => ?_)
  have hl : lv_has ls 4 [(0, .ref (b + 119)), (1, .int x)] := hl
  have hfr : ∀ j, j ≠ 119 → E j = E j := fun _ _ => rfl
  refine lv_aload_n X.1 X.2.1 dX7_takes_0 rfl (lv_at hl 0 rfl) ?_
  refine lv_aload_n X.1 X.2.1 dX7_takes_1 rfl (lv_at hl 0 rfl) ?_
  refine lv_iload_n X.1 X.2.1 dX7_takes_2 rfl (lv_at hl 1 rfl) ?_
  refine wm_callVi (k := 1) (As := [.int x]) (rest := [.ref (b + 119)]) X hP hS hlt0 hE0 rfl (knoMachX l D C b n E x (by omega)) wq5_157 wq5_159 wqP2_15 wq1_8 wq5_160 (by decide) (by rw [hRe]; exact ⟨Nat.le_of_ble_eq_true rfl, Nat.le_of_ble_eq_true rfl⟩) rfl hl.1 rfl (Nat.le_of_ble_eq_true rfl) (Nat.zero_le _) (Nat.zero_le _) dX7_takes_3 (fun r1 E1 H locs hw hP hS => ?_)
  obtain ⟨hrt, hEe⟩ := hw
  subst hrt
  subst hEe
  refine wm_ifz_eq (x := true) (tgt := 13) X dX7_takes_6 (by decide) (fun h => by exfalso; revert h; decide) (fun _ => ?_)
  refine lv_iconst (v := nI 1) X.1 X.2.1 dX7_takes_9 (by decide) ?_
  refine lv_goto (tgt := 14) X.1 X.2.1 dX7_takes_10 (by decide) ?_
  refine wm_put (v := .int (nI 1)) X hP hS hlt0 hE0 rfl wm_inX7 tyX7 tyX7_ok nmX7 0 (by decide) wq5_22 rfl rfl rfl (fs1 := [.int (nI 1), .ref (b + 120), .int (nI sz), .int (nI fa), .int (nI pl), .ref (b + 121), .ref (b + 122), .ref (b + 123), .ref (b + 124), .ref (b + 125), .ref (b + 126), .ref (b + 127), .int (nI ats), .int (nI aa), .ref (b + 128), .ref (b + 129), .ref (b + 130), .ref (b + 131), .ref (b + 132), .ref (b + 133), .int (nI op), .int (nI be.toNat), .int (nI fi), .int (nI la), .ref (b + 134), .ref (b + 135), .ref (b + 136), .int (nI wa), .ref (b + 137), .ref (b + 138), .ref (b + 139), .int (nI wc), .ref (b + 140), .int (nI kl), .ref (b + 141), .ref (b + 142), .ref (b + 143), .ref (b + 144), .ref (b + 145)]) rfl (Nat.le_of_ble_eq_true rfl) dX7_takes_14 (fun H locs E2 hP hS hE0 hq => ?_)
  have hfr : ∀ j, j ≠ 119 → E2 j = E j := fun j h0 => (hq j h0).trans (hfr j h0)
  refine lv_aload_n X.1 X.2.1 dX7_takes_17 rfl (lv_at hl 0 rfl) ?_
  refine wm_get X hP hlt0 hE0 rfl wm_inX7 0 (by decide) wq5_22 rfl dX7_takes_18 ?_
  refine lv_if_le (tgt := 26) X.1 X.2.1 dX7_takes_21 (by decide) (fun h => by exfalso; revert h; decide) (fun _ => ?_)
  refine lv_iconst (v := nI 0) X.1 X.2.1 dX7_takes_24 (by decide) ?_
  exact wm_zret (v := false) (post := pmtakesX C b E th sz fa pl ats aa op fi la wa wc kl be x) X hr hP hS ⟨rfl, hE0, hfr⟩ hQ dX7_takes_25
def pmtakes1 (C : Nat → ClassId) (b : Nat) (E : Nat → va_E) (th sz fa pl ats aa op fi la wa wc kl : Nat) (be : Bool) (k : Nat) (tx ar ss sa se : Nat → Nat) : Int32 → (Nat → va_E) → Prop := fun r E' => r = nI (wm_mt ar k (ss k) (se k) tx sz 0 (sa k)).toNat ∧ E' 119 = .inr (7, [.int (nI 0), .ref (b + 120), .int (nI sz), .int (nI fa), .int (nI pl), .ref (b + 121), .ref (b + 122), .ref (b + 123), .ref (b + 124), .ref (b + 125), .ref (b + 126), .ref (b + 127), .int (nI ats), .int (nI aa), .ref (b + 128), .ref (b + 129), .ref (b + 130), .ref (b + 131), .ref (b + 132), .ref (b + 133), .int (nI op), .int (nI be.toNat), .int (nI fi), .int (nI la), .ref (b + 134), .ref (b + 135), .ref (b + 136), .int (nI wa), .ref (b + 137), .ref (b + 138), .ref (b + 139), .int (nI wc), .ref (b + 140), .int (nI kl), .ref (b + 141), .ref (b + 142), .ref (b + 143), .ref (b + 144), .ref (b + 145)]) ∧ (∀ j, j ≠ 119 → E' j = E j)
set_option maxHeartbeats 4000000 in
set_option maxRecDepth 100000 in
theorem kmtakes1 (l : Launch) (D : va_G) (C : Nat → ClassId) (b n : Nat) (E : Nat → va_E) (th sz fa pl ats aa op fi la wa wc kl : Nat) (be : Bool) (k : Nat) (tx ar ss sa se : Nat → Nat) (hlt0 : 119 < n) (hE0 : E 119 = .inr (7, [.int (nI th), .ref (b + 120), .int (nI sz), .int (nI fa), .int (nI pl), .ref (b + 121), .ref (b + 122), .ref (b + 123), .ref (b + 124), .ref (b + 125), .ref (b + 126), .ref (b + 127), .int (nI ats), .int (nI aa), .ref (b + 128), .ref (b + 129), .ref (b + 130), .ref (b + 131), .ref (b + 132), .ref (b + 133), .int (nI op), .int (nI be.toNat), .int (nI fi), .int (nI la), .ref (b + 134), .ref (b + 135), .ref (b + 136), .int (nI wa), .ref (b + 137), .ref (b + 138), .ref (b + 139), .int (nI wc), .ref (b + 140), .int (nI kl), .ref (b + 141), .ref (b + 142), .ref (b + 143), .ref (b + 144), .ref (b + 145)])) (hlt1 : 120 < n) (hE1 : E 120 = wm_I C 200 tx) (hlt2 : 121 < n) (hE2 : E 121 = wm_I C 1536 ar) (hlt3 : 122 < n) (hE3 : E 122 = wm_I C 8 ss) (hlt4 : 123 < n) (hE4 : E 123 = wm_I C 8 sa) (hlt5 : 124 < n) (hE5 : E 124 = wm_I C 8 se) (hkk : k < 8) (hsk : ss k ≤ 24) (hsz : sz ≤ 200) (hsa : sa k < 2 ^ 24) (hse : se k < 2 ^ 24) (htx : ∀ i, i < sz → tx i < 256) (hg : ∀ a x, a < 8 → x < ss k → ar (192 * k + 8 * x + a) < 2 ^ 24) : Met l yX7_takes (wm_ws yX7_takes cX7_takes 4 (some .boolean)) { frames := 2, cells := 0, slots := 0, locals := 48 } (va_Pc [.ref (b + 119), .int (nI k)] (wm_G D C b n E)) (va_Qi (pmtakes1 C b E th sz fa pl ats aa op fi la wa wc kl be k tx ar ss sa se) (fun E' t => wm_P D b n E' t.heap) (wm_A b)) 0 0 (wm_A b) := by
  refine wm_ofW (by decide) (Nat.le_of_ble_eq_true rfl) (fun p e s m below meth c ls R args Q hRe hQ X hr hnm hP hS hl => ?_)
  have hl : lv_has ls 4 [(0, .ref (b + 119)), (1, .int (nI k))] := hl
  have hfr : ∀ j, j ≠ 119 → E j = E j := fun _ _ => rfl
  refine lv_aload_n X.1 X.2.1 dX7_takes_0 rfl (lv_at hl 0 rfl) ?_
  refine lv_aload_n X.1 X.2.1 dX7_takes_1 rfl (lv_at hl 0 rfl) ?_
  refine lv_iload_n X.1 X.2.1 dX7_takes_2 rfl (lv_at hl 1 rfl) ?_
  refine wm_callVi (k := 1) (As := [.int (nI k)]) (rest := [.ref (b + 119)]) X hP hS hlt0 hE0 rfl (knoMach l D C b n E k (by omega)) wq5_157 wq5_159 wqP2_15 wq1_8 wq5_160 (by decide) (by rw [hRe]; exact ⟨Nat.le_of_ble_eq_true rfl, Nat.le_of_ble_eq_true rfl⟩) rfl hl.1 rfl (Nat.le_of_ble_eq_true rfl) (Nat.zero_le _) (Nat.zero_le _) dX7_takes_3 (fun r1 E1 H locs hw hP hS => ?_)
  obtain ⟨hrt, hEe⟩ := hw
  subst hrt
  subst hEe
  refine wm_ifz_eq (x := false) (tgt := 13) X dX7_takes_6 (by decide) (fun _ => ?_) (fun h => by exfalso; revert h; decide)
  refine lv_iconst (v := nI 0) X.1 X.2.1 dX7_takes_13 (by decide) ?_
  refine wm_put (v := .int (nI 0)) X hP hS hlt0 hE0 rfl wm_inX7 tyX7 tyX7_ok nmX7 0 (by decide) wq5_22 rfl rfl rfl (fs1 := [.int (nI 0), .ref (b + 120), .int (nI sz), .int (nI fa), .int (nI pl), .ref (b + 121), .ref (b + 122), .ref (b + 123), .ref (b + 124), .ref (b + 125), .ref (b + 126), .ref (b + 127), .int (nI ats), .int (nI aa), .ref (b + 128), .ref (b + 129), .ref (b + 130), .ref (b + 131), .ref (b + 132), .ref (b + 133), .int (nI op), .int (nI be.toNat), .int (nI fi), .int (nI la), .ref (b + 134), .ref (b + 135), .ref (b + 136), .int (nI wa), .ref (b + 137), .ref (b + 138), .ref (b + 139), .int (nI wc), .ref (b + 140), .int (nI kl), .ref (b + 141), .ref (b + 142), .ref (b + 143), .ref (b + 144), .ref (b + 145)]) rfl (Nat.le_of_ble_eq_true rfl) dX7_takes_14 (fun H locs E2 hP hS hE0 hq => ?_)
  have hE1 := (hq 120 (by decide)).trans hE1
  have hE2 := (hq 121 (by decide)).trans hE2
  have hE3 := (hq 122 (by decide)).trans hE3
  have hE4 := (hq 123 (by decide)).trans hE4
  have hE5 := (hq 124 (by decide)).trans hE5
  have hfr : ∀ j, j ≠ 119 → E2 j = E j := fun j h0 => (hq j h0).trans (hfr j h0)
  refine lv_aload_n X.1 X.2.1 dX7_takes_17 rfl (lv_at hl 0 rfl) ?_
  refine wm_get X hP hlt0 hE0 rfl wm_inX7 0 (by decide) wq5_22 rfl dX7_takes_18 ?_
  refine lv_if_le (tgt := 26) X.1 X.2.1 dX7_takes_21 (by decide) (fun _ => ?_) (fun h => by exfalso; revert h; decide)
  refine lv_aload_n X.1 X.2.1 dX7_takes_26 rfl (lv_at hl 0 rfl) ?_
  refine wm_get X hP hlt0 hE0 rfl wm_inX7 7 (by decide) wq5_29 rfl dX7_takes_27 ?_
  refine lv_iload_n X.1 X.2.1 dX7_takes_30 rfl (lv_at hl 1 rfl) ?_
  refine wm_iald (i := k) X hP hlt4 hE4 (by omega) (by decide) dX7_takes_31 ?_
  refine lv_istore_n (lv' := [(2, .int (nI (sa k))), (0, .ref (b + 119)), (1, .int (nI k))]) X.1 X.2.1 dX7_takes_32 rfl hl (by decide) rfl (fun ls hl => ?_)
  refine lv_iconst (v := nI 0) X.1 X.2.1 dX7_takes_33 (by decide) ?_
  refine lv_istore_n (lv' := [(3, .int (nI 0)), (2, .int (nI (sa k))), (0, .ref (b + 119)), (1, .int (nI k))]) X.1 X.2.1 dX7_takes_34 rfl hl (by decide) rfl (fun ls hl => ?_)
  have L35 : ∀ (fu : Nat) (i : Nat) (S : Nat), 200 - i < fu → (i ≤ sz) → (S < 2 ^ 24) → (wm_mt ar k (ss k) (se k) tx (sz - i) i S = wm_mt ar k (ss k) (se k) tx sz 0 (sa k)) → ∀ (E3 : Nat → va_E) (H : Heap) (locs : List Loc) (ls : Array Slot), wm_P D b n E3 H → wm_S b s.heap H locs → E3 119 = .inr (7, [.int (nI 0), .ref (b + 120), .int (nI sz), .int (nI fa), .int (nI pl), .ref (b + 121), .ref (b + 122), .ref (b + 123), .ref (b + 124), .ref (b + 125), .ref (b + 126), .ref (b + 127), .int (nI ats), .int (nI aa), .ref (b + 128), .ref (b + 129), .ref (b + 130), .ref (b + 131), .ref (b + 132), .ref (b + 133), .int (nI op), .int (nI be.toNat), .int (nI fi), .int (nI la), .ref (b + 134), .ref (b + 135), .ref (b + 136), .int (nI wa), .ref (b + 137), .ref (b + 138), .ref (b + 139), .int (nI wc), .ref (b + 140), .int (nI kl), .ref (b + 141), .ref (b + 142), .ref (b + 143), .ref (b + 144), .ref (b + 145)]) → E3 120 = wm_I C 200 tx → E3 121 = wm_I C 1536 ar → E3 122 = wm_I C 8 ss → E3 123 = wm_I C 8 sa → E3 124 = wm_I C 8 se → (∀ j, j ≠ 119 → E3 j = E j) → lv_has ls 4 [(0, .ref (b + 119)), (1, .int (nI k)), (2, .int (nI S)), (3, .int (nI i))] → W p l e R s m args below meth c H locs 0 0 Q (F0 m 35 ls []) := by
    intro fu
    induction fu with
    | zero => intro i S hm; exact absurd hm (Nat.not_lt_zero _)
    | succ fu ih35 =>
      intro i S hm hi hS9 hrun E3 H locs ls hP hS hE0 hE1 hE2 hE3 hE4 hE5 hfr hl
      refine lv_iload_n X.1 X.2.1 dX7_takes_35 rfl (lv_at hl 3 rfl) ?_
      refine lv_aload_n X.1 X.2.1 dX7_takes_36 rfl (lv_at hl 0 rfl) ?_
      refine wm_get X hP hlt0 hE0 rfl wm_inX7 2 (by decide) wq5_24 rfl dX7_takes_37 ?_
      refine wm_icmp_ge (x := i) (y := sz) (tgt := 81) X (by omega) (by omega) dX7_takes_40 (by decide) (fun hc40 => ?_) (fun hc40 => ?_)
      · refine lv_iload_n X.1 X.2.1 dX7_takes_81 rfl (lv_at hl 2 rfl) ?_
        refine lv_aload_n X.1 X.2.1 dX7_takes_82 rfl (lv_at hl 0 rfl) ?_
        refine wm_get X hP hlt0 hE0 rfl wm_inX7 8 (by decide) wq5_30 rfl dX7_takes_83 ?_
        refine lv_iload_n X.1 X.2.1 dX7_takes_86 rfl (lv_at hl 1 rfl) ?_
        refine wm_iald (i := k) X hP hlt5 hE5 (by omega) (by decide) dX7_takes_87 ?_
        refine wm_iand (x := S) (y := (se k)) X dX7_takes_88 ?_
        refine wm_if_eq (x := (S &&& (se k))) (tgt := 96) X (Nat.lt_of_le_of_lt Nat.and_le_right (Nat.lt_trans hse (by decide))) dX7_takes_89 (by decide) (fun hc89 => ?_) (fun hc89 => ?_)
        · refine lv_iconst (v := nI 0) X.1 X.2.1 dX7_takes_96 (by decide) ?_
          exact wm_zret (v := false) (post := pmtakes1 C b E th sz fa pl ats aa op fi la wa wc kl be k tx ar ss sa se) X hr hP hS ⟨(by rw [wm_mt0 hrun hc40, decide_eq_false (fun q => q hc89)]), hE0, hfr⟩ hQ dX7_takes_97
        · refine lv_iconst (v := nI 1) X.1 X.2.1 dX7_takes_92 (by decide) ?_
          refine lv_goto (tgt := 97) X.1 X.2.1 dX7_takes_93 (by decide) ?_
          exact wm_zret (v := true) (post := pmtakes1 C b E th sz fa pl ats aa op fi la wa wc kl be k tx ar ss sa se) X hr hP hS ⟨(by rw [wm_mt0 hrun hc40, decide_eq_true hc89]), hE0, hfr⟩ hQ dX7_takes_97
      · refine lv_aload_n X.1 X.2.1 dX7_takes_43 rfl (lv_at hl 0 rfl) ?_
        refine wm_get X hP hlt0 hE0 rfl wm_inX7 1 (by decide) wq5_23 rfl dX7_takes_44 ?_
        refine lv_iload_n X.1 X.2.1 dX7_takes_47 rfl (lv_at hl 3 rfl) ?_
        refine wm_iald (i := i) X hP hlt1 hE1 (by omega) (by decide) dX7_takes_48 ?_
        refine wm_callSi (k := 1) (As := [.int (nI (tx i))]) (rest := []) X hP hS  (kX7_isLetter l D C b n E3 (tx i) (Or.inl (htx i hc40))) wq5_177 wq5_178 wq1_8 wq5_179 (by decide) (by rw [hRe]; exact ⟨Nat.le_of_ble_eq_true rfl, Nat.le_of_ble_eq_true rfl⟩) rfl hl.1 rfl (Nat.le_of_ble_eq_true rfl) (Nat.zero_le _) (Nat.zero_le _) dX7_takes_49 (fun r6 E6 H locs hw hP hS => ?_)
        obtain ⟨hrt, hEe⟩ := hw
        subst hrt
        subst hEe
        refine wm_ifz_eq (x := (decide (97 ≤ (tx i) ∧ (tx i) ≤ 104))) (tgt := 73) X dX7_takes_52 (by decide) (fun hc52 => ?_) (fun hc52 => ?_)
        · refine lv_iconst (v := nI 0) X.1 X.2.1 dX7_takes_73 (by decide) ?_
          refine lv_istore_n (lv' := [(2, .int (nI 0)), (0, .ref (b + 119)), (1, .int (nI k)), (3, .int (nI i))]) X.1 X.2.1 dX7_takes_74 rfl hl (by decide) rfl (fun ls hl => ?_)
          refine lv_iinc (v := nI (i + 1)) (lv' := [(3, .int (nI (i + 1))), (2, .int (nI 0)), (0, .ref (b + 119)), (1, .int (nI k))]) X.1 X.2.1 dX7_takes_75 hl (k := 3) rfl (wm_inc i) (by decide) rfl (fun ls hl => ?_)
          refine lv_goto (tgt := 35) X.1 X.2.1 dX7_takes_78 (by decide) ?_
          exact ih35 (i + 1) 0 (by omega) (by omega) (by decide) (wm_mt1 hrun hc40 (if_neg (of_decide_eq_false hc52)).symm) E3 _ _ _ hP hS hE0 hE1 hE2 hE3 hE4 hE5 hfr (lv_sub hl [2, 3, 1, 0] rfl)
        · have hlt := of_decide_eq_true hc52
          refine lv_aload_n X.1 X.2.1 dX7_takes_55 rfl (lv_at hl 0 rfl) ?_
          refine lv_iload_n X.1 X.2.1 dX7_takes_56 rfl (lv_at hl 1 rfl) ?_
          refine lv_iload_n X.1 X.2.1 dX7_takes_57 rfl (lv_at hl 2 rfl) ?_
          refine lv_aload_n X.1 X.2.1 dX7_takes_58 rfl (lv_at hl 0 rfl) ?_
          refine wm_get X hP hlt0 hE0 rfl wm_inX7 1 (by decide) wq5_23 rfl dX7_takes_59 ?_
          refine lv_iload_n X.1 X.2.1 dX7_takes_62 rfl (lv_at hl 3 rfl) ?_
          refine wm_iald (i := i) X hP hlt1 hE1 (by omega) (by decide) dX7_takes_63 ?_
          refine lv_bipush (v := nI 97) X.1 X.2.1 dX7_takes_64 (by decide) ?_
          refine wm_isub (x := (tx i)) (y := 97) X (by omega) dX7_takes_66 ?_
          refine wm_callVi (k := 3) (As := [.int (nI k), .int (nI S), .int (nI ((tx i) - 97))]) (rest := []) X hP hS hlt0 hE0 rfl (kX7_after l D C b n E3 0 sz fa pl ats aa op fi la wa wc kl be k S ((tx i) - 97) ar ss hlt0 hE0 hlt2 hE2 hlt3 hE3 (by omega) (by omega) (by omega) (by omega)) wq6_27 wq6_29 wqP3_14 wq1_8 wq6_30 (by decide) (by rw [hRe]; exact ⟨Nat.le_of_ble_eq_true rfl, Nat.le_of_ble_eq_true rfl⟩) rfl hl.1 rfl (Nat.le_of_ble_eq_true rfl) (Nat.zero_le _) (Nat.zero_le _) dX7_takes_67 (fun r8 E8 H locs hw hP hS => ?_)
          obtain ⟨hrt, hEe⟩ := hw
          subst hrt
          subst hEe
          refine lv_goto (tgt := 74) X.1 X.2.1 dX7_takes_70 (by decide) ?_
          refine lv_istore_n (lv' := [(2, .int (nI (wm_af ar k (ss k) ((tx i) - 97) S))), (0, .ref (b + 119)), (1, .int (nI k)), (3, .int (nI i))]) X.1 X.2.1 dX7_takes_74 rfl hl (by decide) rfl (fun ls hl => ?_)
          refine lv_iinc (v := nI (i + 1)) (lv' := [(3, .int (nI (i + 1))), (2, .int (nI (wm_af ar k (ss k) ((tx i) - 97) S))), (0, .ref (b + 119)), (1, .int (nI k))]) X.1 X.2.1 dX7_takes_75 hl (k := 3) rfl (wm_inc i) (by decide) rfl (fun ls hl => ?_)
          refine lv_goto (tgt := 35) X.1 X.2.1 dX7_takes_78 (by decide) ?_
          exact ih35 (i + 1) (wm_af ar k (ss k) ((tx i) - 97) S) (by omega) (by omega) (wm_af_lt (fun x hx => hg _ x (by omega) hx)) (wm_mt1 hrun hc40 (if_pos (of_decide_eq_true hc52)).symm) E3 _ _ _ hP hS hE0 hE1 hE2 hE3 hE4 hE5 hfr (lv_sub hl [2, 3, 1, 0] rfl)
  exact L35 (200 - 0 + 1) 0 (sa k) (Nat.lt_succ_self _) (by omega) (by omega) rfl E2 _ _ _ hP hS hE0 hE1 hE2 hE3 hE4 hE5 hfr (lv_sub hl [2, 3, 1, 0] rfl)
def pmturnX (C : Nat → ClassId) (b : Nat) (E : Nat → va_E) (th sz fa pl ats aa op fi la wa wc kl : Nat) (be : Bool) (x y : Int32) : (Nat → va_E) → Prop := fun E' => E' 119 = .inr (7, [.int (nI 1), .ref (b + 120), .int (nI sz), .int (nI fa), .int (nI pl), .ref (b + 121), .ref (b + 122), .ref (b + 123), .ref (b + 124), .ref (b + 125), .ref (b + 126), .ref (b + 127), .int (nI ats), .int (nI aa), .ref (b + 128), .ref (b + 129), .ref (b + 130), .ref (b + 131), .ref (b + 132), .ref (b + 133), .int (nI op), .int (nI be.toNat), .int (nI fi), .int (nI la), .ref (b + 134), .ref (b + 135), .ref (b + 136), .int (nI wa), .ref (b + 137), .ref (b + 138), .ref (b + 139), .int (nI wc), .ref (b + 140), .int (nI kl), .ref (b + 141), .ref (b + 142), .ref (b + 143), .ref (b + 144), .ref (b + 145)]) ∧ (∀ j, j ≠ 119 → E' j = E j)
set_option maxHeartbeats 4000000 in
set_option maxRecDepth 100000 in
theorem kmturnX (l : Launch) (D : va_G) (C : Nat → ClassId) (b n : Nat) (E : Nat → va_E) (th sz fa pl ats aa op fi la wa wc kl : Nat) (be : Bool) (x y : Int32) (hlt0 : 119 < n) (hE0 : E 119 = .inr (7, [.int (nI th), .ref (b + 120), .int (nI sz), .int (nI fa), .int (nI pl), .ref (b + 121), .ref (b + 122), .ref (b + 123), .ref (b + 124), .ref (b + 125), .ref (b + 126), .ref (b + 127), .int (nI ats), .int (nI aa), .ref (b + 128), .ref (b + 129), .ref (b + 130), .ref (b + 131), .ref (b + 132), .ref (b + 133), .int (nI op), .int (nI be.toNat), .int (nI fi), .int (nI la), .ref (b + 134), .ref (b + 135), .ref (b + 136), .int (nI wa), .ref (b + 137), .ref (b + 138), .ref (b + 139), .int (nI wc), .ref (b + 140), .int (nI kl), .ref (b + 141), .ref (b + 142), .ref (b + 143), .ref (b + 144), .ref (b + 145)])) (hk : ¬ (0 ≤ x ∧ x < nI 8)) : Met l yX7_turn (wm_ws yX7_turn cX7_turn 7 none) { frames := 1, cells := 0, slots := 0, locals := 21 } (va_Pc [.ref (b + 119), .int x, .int y] (wm_G D C b n E)) (va_Qv (pmturnX C b E th sz fa pl ats aa op fi la wa wc kl be x y) (fun E' t => wm_P D b n E' t.heap) (wm_A b)) 0 0 (wm_A b) := by
  refine wm_ofW (by decide) (Nat.le_of_ble_eq_true rfl) (fun p e s m below meth c ls R args Q hRe hQ X hr hnm hP hS hl => ?_)
  have hl : lv_has ls 7 [(0, .ref (b + 119)), (1, .int x), (2, .int y)] := hl
  have hfr : ∀ j, j ≠ 119 → E j = E j := fun _ _ => rfl
  refine lv_aload_n X.1 X.2.1 dX7_turn_0 rfl (lv_at hl 0 rfl) ?_
  refine lv_aload_n X.1 X.2.1 dX7_turn_1 rfl (lv_at hl 0 rfl) ?_
  refine lv_iload_n X.1 X.2.1 dX7_turn_2 rfl (lv_at hl 1 rfl) ?_
  refine wm_callVi (k := 1) (As := [.int x]) (rest := [.ref (b + 119)]) X hP hS hlt0 hE0 rfl (knoMachX l D C b n E x (by omega)) wq5_157 wq5_159 wqP2_15 wq1_8 wq5_160 (by decide) (by rw [hRe]; exact ⟨Nat.le_of_ble_eq_true rfl, Nat.le_of_ble_eq_true rfl⟩) rfl hl.1 rfl (Nat.le_of_ble_eq_true rfl) (Nat.zero_le _) (Nat.zero_le _) dX7_turn_3 (fun r1 E1 H locs hw hP hS => ?_)
  obtain ⟨hrt, hEe⟩ := hw
  subst hrt
  subst hEe
  refine wm_ifz_ne (x := true) (tgt := 17) X dX7_turn_6 (by decide) (fun _ => ?_) (fun h => by exfalso; revert h; decide)
  refine lv_iconst (v := nI 1) X.1 X.2.1 dX7_turn_17 (by decide) ?_
  refine lv_goto (tgt := 22) X.1 X.2.1 dX7_turn_18 (by decide) ?_
  refine wm_put (v := .int (nI 1)) X hP hS hlt0 hE0 rfl wm_inX7 tyX7 tyX7_ok nmX7 0 (by decide) wq5_22 rfl rfl rfl (fs1 := [.int (nI 1), .ref (b + 120), .int (nI sz), .int (nI fa), .int (nI pl), .ref (b + 121), .ref (b + 122), .ref (b + 123), .ref (b + 124), .ref (b + 125), .ref (b + 126), .ref (b + 127), .int (nI ats), .int (nI aa), .ref (b + 128), .ref (b + 129), .ref (b + 130), .ref (b + 131), .ref (b + 132), .ref (b + 133), .int (nI op), .int (nI be.toNat), .int (nI fi), .int (nI la), .ref (b + 134), .ref (b + 135), .ref (b + 136), .int (nI wa), .ref (b + 137), .ref (b + 138), .ref (b + 139), .int (nI wc), .ref (b + 140), .int (nI kl), .ref (b + 141), .ref (b + 142), .ref (b + 143), .ref (b + 144), .ref (b + 145)]) rfl (Nat.le_of_ble_eq_true rfl) dX7_turn_22 (fun H locs E2 hP hS hE0 hq => ?_)
  have hfr : ∀ j, j ≠ 119 → E2 j = E j := fun j h0 => (hq j h0).trans (hfr j h0)
  refine lv_aload_n X.1 X.2.1 dX7_turn_25 rfl (lv_at hl 0 rfl) ?_
  refine wm_get X hP hlt0 hE0 rfl wm_inX7 0 (by decide) wq5_22 rfl dX7_turn_26 ?_
  refine lv_if_le (tgt := 33) X.1 X.2.1 dX7_turn_29 (by decide) (fun h => by exfalso; revert h; decide) (fun _ => ?_)
  exact wm_vret (post := pmturnX C b E th sz fa pl ats aa op fi la wa wc kl be x y) X hr hP hS ⟨hE0, hfr⟩ hQ dX7_turn_32
def pmturnY (C : Nat → ClassId) (b : Nat) (E : Nat → va_E) (th sz fa pl ats aa op fi la wa wc kl : Nat) (be : Bool) (k : Nat) (y : Int32) : (Nat → va_E) → Prop := fun E' => E' 119 = .inr (7, [.int (nI 1), .ref (b + 120), .int (nI sz), .int (nI fa), .int (nI pl), .ref (b + 121), .ref (b + 122), .ref (b + 123), .ref (b + 124), .ref (b + 125), .ref (b + 126), .ref (b + 127), .int (nI ats), .int (nI aa), .ref (b + 128), .ref (b + 129), .ref (b + 130), .ref (b + 131), .ref (b + 132), .ref (b + 133), .int (nI op), .int (nI be.toNat), .int (nI fi), .int (nI la), .ref (b + 134), .ref (b + 135), .ref (b + 136), .int (nI wa), .ref (b + 137), .ref (b + 138), .ref (b + 139), .int (nI wc), .ref (b + 140), .int (nI kl), .ref (b + 141), .ref (b + 142), .ref (b + 143), .ref (b + 144), .ref (b + 145)]) ∧ (∀ j, j ≠ 119 → E' j = E j)
set_option maxHeartbeats 4000000 in
set_option maxRecDepth 100000 in
theorem kmturnY (l : Launch) (D : va_G) (C : Nat → ClassId) (b n : Nat) (E : Nat → va_E) (th sz fa pl ats aa op fi la wa wc kl : Nat) (be : Bool) (k : Nat) (y : Int32) (hlt0 : 119 < n) (hE0 : E 119 = .inr (7, [.int (nI th), .ref (b + 120), .int (nI sz), .int (nI fa), .int (nI pl), .ref (b + 121), .ref (b + 122), .ref (b + 123), .ref (b + 124), .ref (b + 125), .ref (b + 126), .ref (b + 127), .int (nI ats), .int (nI aa), .ref (b + 128), .ref (b + 129), .ref (b + 130), .ref (b + 131), .ref (b + 132), .ref (b + 133), .int (nI op), .int (nI be.toNat), .int (nI fi), .int (nI la), .ref (b + 134), .ref (b + 135), .ref (b + 136), .int (nI wa), .ref (b + 137), .ref (b + 138), .ref (b + 139), .int (nI wc), .ref (b + 140), .int (nI kl), .ref (b + 141), .ref (b + 142), .ref (b + 143), .ref (b + 144), .ref (b + 145)])) (hkk : k < 8) (hk : ¬ (0 ≤ y ∧ y < nI 8)) : Met l yX7_turn (wm_ws yX7_turn cX7_turn 7 none) { frames := 1, cells := 0, slots := 0, locals := 21 } (va_Pc [.ref (b + 119), .int (nI k), .int y] (wm_G D C b n E)) (va_Qv (pmturnY C b E th sz fa pl ats aa op fi la wa wc kl be k y) (fun E' t => wm_P D b n E' t.heap) (wm_A b)) 0 0 (wm_A b) := by
  refine wm_ofW (by decide) (Nat.le_of_ble_eq_true rfl) (fun p e s m below meth c ls R args Q hRe hQ X hr hnm hP hS hl => ?_)
  have hl : lv_has ls 7 [(0, .ref (b + 119)), (1, .int (nI k)), (2, .int y)] := hl
  have hfr : ∀ j, j ≠ 119 → E j = E j := fun _ _ => rfl
  refine lv_aload_n X.1 X.2.1 dX7_turn_0 rfl (lv_at hl 0 rfl) ?_
  refine lv_aload_n X.1 X.2.1 dX7_turn_1 rfl (lv_at hl 0 rfl) ?_
  refine lv_iload_n X.1 X.2.1 dX7_turn_2 rfl (lv_at hl 1 rfl) ?_
  refine wm_callVi (k := 1) (As := [.int (nI k)]) (rest := [.ref (b + 119)]) X hP hS hlt0 hE0 rfl (knoMach l D C b n E k (by omega)) wq5_157 wq5_159 wqP2_15 wq1_8 wq5_160 (by decide) (by rw [hRe]; exact ⟨Nat.le_of_ble_eq_true rfl, Nat.le_of_ble_eq_true rfl⟩) rfl hl.1 rfl (Nat.le_of_ble_eq_true rfl) (Nat.zero_le _) (Nat.zero_le _) dX7_turn_3 (fun r1 E1 H locs hw hP hS => ?_)
  obtain ⟨hrt, hEe⟩ := hw
  subst hrt
  subst hEe
  refine wm_ifz_ne (x := false) (tgt := 17) X dX7_turn_6 (by decide) (fun h => by exfalso; revert h; decide) (fun _ => ?_)
  refine lv_aload_n X.1 X.2.1 dX7_turn_9 rfl (lv_at hl 0 rfl) ?_
  refine lv_iload_n X.1 X.2.1 dX7_turn_10 rfl (lv_at hl 2 rfl) ?_
  refine wm_callVi (k := 1) (As := [.int y]) (rest := [.ref (b + 119)]) X hP hS hlt0 hE0 rfl (knoMachX l D C b n E y (by omega)) wq5_157 wq5_159 wqP2_15 wq1_8 wq5_160 (by decide) (by rw [hRe]; exact ⟨Nat.le_of_ble_eq_true rfl, Nat.le_of_ble_eq_true rfl⟩) rfl hl.1 rfl (Nat.le_of_ble_eq_true rfl) (Nat.zero_le _) (Nat.zero_le _) dX7_turn_11 (fun r2 E2 H locs hw hP hS => ?_)
  obtain ⟨hrt, hEe⟩ := hw
  subst hrt
  subst hEe
  refine wm_ifz_eq (x := true) (tgt := 21) X dX7_turn_14 (by decide) (fun h => by exfalso; revert h; decide) (fun _ => ?_)
  refine lv_iconst (v := nI 1) X.1 X.2.1 dX7_turn_17 (by decide) ?_
  refine lv_goto (tgt := 22) X.1 X.2.1 dX7_turn_18 (by decide) ?_
  refine wm_put (v := .int (nI 1)) X hP hS hlt0 hE0 rfl wm_inX7 tyX7 tyX7_ok nmX7 0 (by decide) wq5_22 rfl rfl rfl (fs1 := [.int (nI 1), .ref (b + 120), .int (nI sz), .int (nI fa), .int (nI pl), .ref (b + 121), .ref (b + 122), .ref (b + 123), .ref (b + 124), .ref (b + 125), .ref (b + 126), .ref (b + 127), .int (nI ats), .int (nI aa), .ref (b + 128), .ref (b + 129), .ref (b + 130), .ref (b + 131), .ref (b + 132), .ref (b + 133), .int (nI op), .int (nI be.toNat), .int (nI fi), .int (nI la), .ref (b + 134), .ref (b + 135), .ref (b + 136), .int (nI wa), .ref (b + 137), .ref (b + 138), .ref (b + 139), .int (nI wc), .ref (b + 140), .int (nI kl), .ref (b + 141), .ref (b + 142), .ref (b + 143), .ref (b + 144), .ref (b + 145)]) rfl (Nat.le_of_ble_eq_true rfl) dX7_turn_22 (fun H locs E3 hP hS hE0 hq => ?_)
  have hfr : ∀ j, j ≠ 119 → E3 j = E j := fun j h0 => (hq j h0).trans (hfr j h0)
  refine lv_aload_n X.1 X.2.1 dX7_turn_25 rfl (lv_at hl 0 rfl) ?_
  refine wm_get X hP hlt0 hE0 rfl wm_inX7 0 (by decide) wq5_22 rfl dX7_turn_26 ?_
  refine lv_if_le (tgt := 33) X.1 X.2.1 dX7_turn_29 (by decide) (fun h => by exfalso; revert h; decide) (fun _ => ?_)
  exact wm_vret (post := pmturnY C b E th sz fa pl ats aa op fi la wa wc kl be k y) X hr hP hS ⟨hE0, hfr⟩ hQ dX7_turn_32
def pmturn1 (C : Nat → ClassId) (b : Nat) (E : Nat → va_E) (th sz fa pl ats aa op fi la wa wc kl : Nat) (be : Bool) (k i : Nat) (ar ss sa se na : Nat → Nat) : (Nat → va_E) → Prop := fun E' => ∃ (ar1 : Nat → Nat) (na1 : Nat → Nat), E' 119 = .inr (7, [.int (nI 0), .ref (b + 120), .int (nI sz), .int (nI fa), .int (nI pl), .ref (b + 121), .ref (b + 122), .ref (b + 123), .ref (b + 124), .ref (b + 125), .ref (b + 126), .ref (b + 127), .int (nI ats), .int (nI aa), .ref (b + 128), .ref (b + 129), .ref (b + 130), .ref (b + 131), .ref (b + 132), .ref (b + 133), .int (nI op), .int (nI be.toNat), .int (nI fi), .int (nI la), .ref (b + 134), .ref (b + 135), .ref (b + 136), .int (nI wa), .ref (b + 137), .ref (b + 138), .ref (b + 139), .int (nI wc), .ref (b + 140), .int (nI kl), .ref (b + 141), .ref (b + 142), .ref (b + 143), .ref (b + 144), .ref (b + 145)]) ∧ E' 121 = wm_I C 1536 ar1 ∧ E' 122 = wm_I C 8 (va_up ss k (ss i)) ∧ E' 123 = wm_I C 8 (va_up sa k (se i)) ∧ E' 124 = wm_I C 8 (va_up se k (sa i)) ∧ E' 125 = wm_I C 192 na1 ∧ (∀ j, j ≠ 119 → j ≠ 121 → j ≠ 122 → j ≠ 123 → j ≠ 124 → j ≠ 125 → E' j = E j) ∧ wm_t3 (fun s9 l9 t9 => if (ar (192 * i + 8 * t9 + l9)).testBit s9 then 1 <<< t9 else 0) (ss i) (ss i) 0 0 na1 ∧ wm_cp (192 * k) 192 na1 ar ar1
set_option maxHeartbeats 4000000 in
set_option maxRecDepth 100000 in
theorem kmturn1 (l : Launch) (D : va_G) (C : Nat → ClassId) (b n : Nat) (E : Nat → va_E) (th sz fa pl ats aa op fi la wa wc kl : Nat) (be : Bool) (k i : Nat) (ar ss sa se na : Nat → Nat) (hlt0 : 119 < n) (hE0 : E 119 = .inr (7, [.int (nI th), .ref (b + 120), .int (nI sz), .int (nI fa), .int (nI pl), .ref (b + 121), .ref (b + 122), .ref (b + 123), .ref (b + 124), .ref (b + 125), .ref (b + 126), .ref (b + 127), .int (nI ats), .int (nI aa), .ref (b + 128), .ref (b + 129), .ref (b + 130), .ref (b + 131), .ref (b + 132), .ref (b + 133), .int (nI op), .int (nI be.toNat), .int (nI fi), .int (nI la), .ref (b + 134), .ref (b + 135), .ref (b + 136), .int (nI wa), .ref (b + 137), .ref (b + 138), .ref (b + 139), .int (nI wc), .ref (b + 140), .int (nI kl), .ref (b + 141), .ref (b + 142), .ref (b + 143), .ref (b + 144), .ref (b + 145)])) (hlt1 : 121 < n) (hE1 : E 121 = wm_I C 1536 ar) (hlt2 : 122 < n) (hE2 : E 122 = wm_I C 8 ss) (hlt3 : 123 < n) (hE3 : E 123 = wm_I C 8 sa) (hlt4 : 124 < n) (hE4 : E 124 = wm_I C 8 se) (hlt5 : 125 < n) (hE5 : E 125 = wm_I C 192 na) (hkk : k < 8) (hii : i < 8) (hsi : ss i ≤ 24) (hgi : ∀ a x, a < 8 → x < ss i → ar (192 * i + 8 * x + a) < 2 ^ 31) : Met l yX7_turn (wm_ws yX7_turn cX7_turn 7 none) { frames := 1, cells := 0, slots := 0, locals := 25 } (va_Pc [.ref (b + 119), .int (nI k), .int (nI i)] (wm_G D C b n E)) (va_Qv (pmturn1 C b E th sz fa pl ats aa op fi la wa wc kl be k i ar ss sa se na) (fun E' t => wm_P D b n E' t.heap) (wm_A b)) 0 0 (wm_A b) := by
  refine wm_ofW (by decide) (Nat.le_of_ble_eq_true rfl) (fun p e s m below meth c ls R args Q hRe hQ X hr hnm hP hS hl => ?_)
  have hl : lv_has ls 7 [(0, .ref (b + 119)), (1, .int (nI k)), (2, .int (nI i))] := hl
  have hfr : ∀ j, j ≠ 119 → j ≠ 121 → j ≠ 122 → j ≠ 123 → j ≠ 124 → j ≠ 125 → E j = E j := fun _ _ _ _ _ _ _ => rfl
  refine lv_aload_n X.1 X.2.1 dX7_turn_0 rfl (lv_at hl 0 rfl) ?_
  refine lv_aload_n X.1 X.2.1 dX7_turn_1 rfl (lv_at hl 0 rfl) ?_
  refine lv_iload_n X.1 X.2.1 dX7_turn_2 rfl (lv_at hl 1 rfl) ?_
  refine wm_callVi (k := 1) (As := [.int (nI k)]) (rest := [.ref (b + 119)]) X hP hS hlt0 hE0 rfl (knoMach l D C b n E k (by omega)) wq5_157 wq5_159 wqP2_15 wq1_8 wq5_160 (by decide) (by rw [hRe]; exact ⟨Nat.le_of_ble_eq_true rfl, Nat.le_of_ble_eq_true rfl⟩) rfl hl.1 rfl (Nat.le_of_ble_eq_true rfl) (Nat.zero_le _) (Nat.zero_le _) dX7_turn_3 (fun r1 E1 H locs hw hP hS => ?_)
  obtain ⟨hrt, hEe⟩ := hw
  subst hrt
  subst hEe
  refine wm_ifz_ne (x := false) (tgt := 17) X dX7_turn_6 (by decide) (fun h => by exfalso; revert h; decide) (fun _ => ?_)
  refine lv_aload_n X.1 X.2.1 dX7_turn_9 rfl (lv_at hl 0 rfl) ?_
  refine lv_iload_n X.1 X.2.1 dX7_turn_10 rfl (lv_at hl 2 rfl) ?_
  refine wm_callVi (k := 1) (As := [.int (nI i)]) (rest := [.ref (b + 119)]) X hP hS hlt0 hE0 rfl (knoMach l D C b n E i (by omega)) wq5_157 wq5_159 wqP2_15 wq1_8 wq5_160 (by decide) (by rw [hRe]; exact ⟨Nat.le_of_ble_eq_true rfl, Nat.le_of_ble_eq_true rfl⟩) rfl hl.1 rfl (Nat.le_of_ble_eq_true rfl) (Nat.zero_le _) (Nat.zero_le _) dX7_turn_11 (fun r2 E2 H locs hw hP hS => ?_)
  obtain ⟨hrt, hEe⟩ := hw
  subst hrt
  subst hEe
  refine wm_ifz_eq (x := false) (tgt := 21) X dX7_turn_14 (by decide) (fun _ => ?_) (fun h => by exfalso; revert h; decide)
  refine lv_iconst (v := nI 0) X.1 X.2.1 dX7_turn_21 (by decide) ?_
  refine wm_put (v := .int (nI 0)) X hP hS hlt0 hE0 rfl wm_inX7 tyX7 tyX7_ok nmX7 0 (by decide) wq5_22 rfl rfl rfl (fs1 := [.int (nI 0), .ref (b + 120), .int (nI sz), .int (nI fa), .int (nI pl), .ref (b + 121), .ref (b + 122), .ref (b + 123), .ref (b + 124), .ref (b + 125), .ref (b + 126), .ref (b + 127), .int (nI ats), .int (nI aa), .ref (b + 128), .ref (b + 129), .ref (b + 130), .ref (b + 131), .ref (b + 132), .ref (b + 133), .int (nI op), .int (nI be.toNat), .int (nI fi), .int (nI la), .ref (b + 134), .ref (b + 135), .ref (b + 136), .int (nI wa), .ref (b + 137), .ref (b + 138), .ref (b + 139), .int (nI wc), .ref (b + 140), .int (nI kl), .ref (b + 141), .ref (b + 142), .ref (b + 143), .ref (b + 144), .ref (b + 145)]) rfl (Nat.le_of_ble_eq_true rfl) dX7_turn_22 (fun H locs E3 hP hS hE0 hq => ?_)
  have hE1 := (hq 121 (by decide)).trans hE1
  have hE2 := (hq 122 (by decide)).trans hE2
  have hE3 := (hq 123 (by decide)).trans hE3
  have hE4 := (hq 124 (by decide)).trans hE4
  have hE5 := (hq 125 (by decide)).trans hE5
  have hfr : ∀ j, j ≠ 119 → j ≠ 121 → j ≠ 122 → j ≠ 123 → j ≠ 124 → j ≠ 125 → E3 j = E j := fun j h0 h1 h2 h3 h4 h5 => (hq j h0).trans (hfr j h0 h1 h2 h3 h4 h5)
  refine lv_aload_n X.1 X.2.1 dX7_turn_25 rfl (lv_at hl 0 rfl) ?_
  refine wm_get X hP hlt0 hE0 rfl wm_inX7 0 (by decide) wq5_22 rfl dX7_turn_26 ?_
  refine lv_if_le (tgt := 33) X.1 X.2.1 dX7_turn_29 (by decide) (fun _ => ?_) (fun h => by exfalso; revert h; decide)
  refine lv_aload_n X.1 X.2.1 dX7_turn_33 rfl (lv_at hl 0 rfl) ?_
  refine wm_callVv (k := 0) (As := []) (rest := []) X hP hS hlt0 hE0 rfl (kX7_clearNew l D C b n E3 0 sz fa pl ats aa op fi la wa wc kl be na hlt0 hE0 hlt5 hE5) wq5_204 wq5_206 wqP3_10 wq1_8 wq5_207 (by decide) (by rw [hRe]; exact ⟨Nat.le_of_ble_eq_true rfl, Nat.le_of_ble_eq_true rfl⟩) rfl hl.1 rfl (Nat.le_of_ble_eq_true rfl) (Nat.zero_le _) (Nat.zero_le _) dX7_turn_34 (fun E4 H locs hw hP hS => ?_)
  obtain ⟨na14, hE5, hq, hp4_0⟩ := hw
  have hE0 := (hq 119 (by decide)).trans hE0
  have hE1 := (hq 121 (by decide)).trans hE1
  have hE2 := (hq 122 (by decide)).trans hE2
  have hE3 := (hq 123 (by decide)).trans hE3
  have hE4 := (hq 124 (by decide)).trans hE4
  have hfr : ∀ j, j ≠ 119 → j ≠ 121 → j ≠ 122 → j ≠ 123 → j ≠ 124 → j ≠ 125 → E4 j = E j := fun j h0 h1 h2 h3 h4 h5 => (hq j h5).trans (hfr j h0 h1 h2 h3 h4 h5)
  refine lv_iconst (v := nI 0) X.1 X.2.1 dX7_turn_37 (by decide) ?_
  refine lv_istore_n (lv' := [(3, .int (nI 0)), (0, .ref (b + 119)), (1, .int (nI k)), (2, .int (nI i))]) X.1 X.2.1 dX7_turn_38 rfl hl (by decide) rfl (fun ls hl => ?_)
  have L39 : ∀ (fu : Nat) (s1 : Nat) (na1 : Nat → Nat), 24 - s1 < fu → (s1 ≤ ss i) → (wm_t3 (fun s9 l9 t9 => if (ar (192 * i + 8 * t9 + l9)).testBit s9 then 1 <<< t9 else 0) (ss i) s1 0 0 na1) → ∀ (E5 : Nat → va_E) (H : Heap) (locs : List Loc) (ls : Array Slot), wm_P D b n E5 H → wm_S b s.heap H locs → E5 119 = .inr (7, [.int (nI 0), .ref (b + 120), .int (nI sz), .int (nI fa), .int (nI pl), .ref (b + 121), .ref (b + 122), .ref (b + 123), .ref (b + 124), .ref (b + 125), .ref (b + 126), .ref (b + 127), .int (nI ats), .int (nI aa), .ref (b + 128), .ref (b + 129), .ref (b + 130), .ref (b + 131), .ref (b + 132), .ref (b + 133), .int (nI op), .int (nI be.toNat), .int (nI fi), .int (nI la), .ref (b + 134), .ref (b + 135), .ref (b + 136), .int (nI wa), .ref (b + 137), .ref (b + 138), .ref (b + 139), .int (nI wc), .ref (b + 140), .int (nI kl), .ref (b + 141), .ref (b + 142), .ref (b + 143), .ref (b + 144), .ref (b + 145)]) → E5 121 = wm_I C 1536 ar → E5 122 = wm_I C 8 ss → E5 123 = wm_I C 8 sa → E5 124 = wm_I C 8 se → E5 125 = wm_I C 192 na1 → (∀ j, j ≠ 119 → j ≠ 121 → j ≠ 122 → j ≠ 123 → j ≠ 124 → j ≠ 125 → E5 j = E j) → lv_has ls 7 [(0, .ref (b + 119)), (1, .int (nI k)), (2, .int (nI i)), (3, .int (nI s1))] → W p l e R s m args below meth c H locs 0 0 Q (F0 m 39 ls []) := by
    intro fu
    induction fu with
    | zero => intro s1 na1 hm; exact absurd hm (Nat.not_lt_zero _)
    | succ fu ih39 =>
      intro s1 na1 hm hs1 h1 E5 H locs ls hP hS hE0 hE1 hE2 hE3 hE4 hE5 hfr hl
      refine lv_iload_n X.1 X.2.1 dX7_turn_39 rfl (lv_at hl 3 rfl) ?_
      refine lv_aload_n X.1 X.2.1 dX7_turn_40 rfl (lv_at hl 0 rfl) ?_
      refine wm_get X hP hlt0 hE0 rfl wm_inX7 6 (by decide) wq5_28 rfl dX7_turn_41 ?_
      refine lv_iload_n X.1 X.2.1 dX7_turn_44 rfl (lv_at hl 2 rfl) ?_
      refine wm_iald (i := i) X hP hlt2 hE2 (by omega) (by decide) dX7_turn_45 ?_
      refine wm_icmp_ge (x := s1) (y := (ss i)) (tgt := 164) X (by omega) (by omega) dX7_turn_46 (by decide) (fun hc46 => ?_) (fun hc46 => ?_)
      · refine lv_aload_n X.1 X.2.1 dX7_turn_164 rfl (lv_at hl 0 rfl) ?_
        refine lv_iload_n X.1 X.2.1 dX7_turn_165 rfl (lv_at hl 1 rfl) ?_
        refine lv_aload_n X.1 X.2.1 dX7_turn_166 rfl (lv_at hl 0 rfl) ?_
        refine wm_get X hP hlt0 hE0 rfl wm_inX7 6 (by decide) wq5_28 rfl dX7_turn_167 ?_
        refine lv_iload_n X.1 X.2.1 dX7_turn_170 rfl (lv_at hl 2 rfl) ?_
        refine wm_iald (i := i) X hP hlt2 hE2 (by omega) (by decide) dX7_turn_171 ?_
        refine lv_aload_n X.1 X.2.1 dX7_turn_172 rfl (lv_at hl 0 rfl) ?_
        refine wm_get X hP hlt0 hE0 rfl wm_inX7 8 (by decide) wq5_30 rfl dX7_turn_173 ?_
        refine lv_iload_n X.1 X.2.1 dX7_turn_176 rfl (lv_at hl 2 rfl) ?_
        refine wm_iald (i := i) X hP hlt4 hE4 (by omega) (by decide) dX7_turn_177 ?_
        refine lv_aload_n X.1 X.2.1 dX7_turn_178 rfl (lv_at hl 0 rfl) ?_
        refine wm_get X hP hlt0 hE0 rfl wm_inX7 7 (by decide) wq5_29 rfl dX7_turn_179 ?_
        refine lv_iload_n X.1 X.2.1 dX7_turn_182 rfl (lv_at hl 2 rfl) ?_
        refine wm_iald (i := i) X hP hlt3 hE3 (by omega) (by decide) dX7_turn_183 ?_
        refine wm_callVv (k := 4) (As := [.int (nI k), .int (nI (ss i)), .int (nI (se i)), .int (nI (sa i))]) (rest := []) X hP hS hlt0 hE0 rfl (kX7_put l D C b n E5 0 sz fa pl ats aa op fi la wa wc kl be k (ss i) (se i) (sa i) ar ss sa se na1 hlt0 hE0 hlt1 hE1 hlt2 hE2 hlt3 hE3 hlt4 hE4 hlt5 hE5 (by omega)) wq5_208 wq5_210 wqP3_11 wq1_8 wq5_211 (by decide) (by rw [hRe]; exact ⟨Nat.le_of_ble_eq_true rfl, Nat.le_of_ble_eq_true rfl⟩) rfl hl.1 rfl (Nat.le_of_ble_eq_true rfl) (Nat.zero_le _) (Nat.zero_le _) dX7_turn_184 (fun E7 H locs hw hP hS => ?_)
        obtain ⟨ar17, hE1, hE2, hE3, hE4, hq, hp7_0⟩ := hw
        have hE0 := (hq 119 (by decide) (by decide) (by decide) (by decide)).trans hE0
        have hE5 := (hq 125 (by decide) (by decide) (by decide) (by decide)).trans hE5
        have hfr : ∀ j, j ≠ 119 → j ≠ 121 → j ≠ 122 → j ≠ 123 → j ≠ 124 → j ≠ 125 → E7 j = E j := fun j h0 h1 h2 h3 h4 h5 => (hq j h1 h2 h3 h4).trans (hfr j h0 h1 h2 h3 h4 h5)
        exact wm_vret (post := pmturn1 C b E th sz fa pl ats aa op fi la wa wc kl be k i ar ss sa se na) X hr hP hS ⟨ar17, na1, hE0, hE1, hE2, hE3, hE4, hE5, hfr, (show wm_t3 _ (ss i) (ss i) 0 0 na1 from (show s1 = ss i from by omega) ▸ h1), hp7_0⟩ hQ dX7_turn_187
      · refine lv_iconst (v := nI 0) X.1 X.2.1 dX7_turn_49 (by decide) ?_
        refine lv_istore (lv' := [(4, .int (nI 0)), (0, .ref (b + 119)), (1, .int (nI k)), (2, .int (nI i)), (3, .int (nI s1))]) X.1 X.2.1 dX7_turn_50 hl (by decide) rfl (fun ls hl => ?_)
        have L52 : ∀ (fu : Nat) (t1 : Nat) (na2 : Nat → Nat), 24 - t1 < fu → (t1 ≤ ss i) → (wm_t3 (fun s9 l9 t9 => if (ar (192 * i + 8 * t9 + l9)).testBit s9 then 1 <<< t9 else 0) (ss i) s1 t1 0 na2) → ∀ (E8 : Nat → va_E) (H : Heap) (locs : List Loc) (ls : Array Slot), wm_P D b n E8 H → wm_S b s.heap H locs → E8 119 = .inr (7, [.int (nI 0), .ref (b + 120), .int (nI sz), .int (nI fa), .int (nI pl), .ref (b + 121), .ref (b + 122), .ref (b + 123), .ref (b + 124), .ref (b + 125), .ref (b + 126), .ref (b + 127), .int (nI ats), .int (nI aa), .ref (b + 128), .ref (b + 129), .ref (b + 130), .ref (b + 131), .ref (b + 132), .ref (b + 133), .int (nI op), .int (nI be.toNat), .int (nI fi), .int (nI la), .ref (b + 134), .ref (b + 135), .ref (b + 136), .int (nI wa), .ref (b + 137), .ref (b + 138), .ref (b + 139), .int (nI wc), .ref (b + 140), .int (nI kl), .ref (b + 141), .ref (b + 142), .ref (b + 143), .ref (b + 144), .ref (b + 145)]) → E8 121 = wm_I C 1536 ar → E8 122 = wm_I C 8 ss → E8 123 = wm_I C 8 sa → E8 124 = wm_I C 8 se → E8 125 = wm_I C 192 na2 → (∀ j, j ≠ 119 → j ≠ 121 → j ≠ 122 → j ≠ 123 → j ≠ 124 → j ≠ 125 → E8 j = E j) → lv_has ls 7 [(0, .ref (b + 119)), (1, .int (nI k)), (2, .int (nI i)), (3, .int (nI s1)), (4, .int (nI t1))] → W p l e R s m args below meth c H locs 0 0 Q (F0 m 52 ls []) := by
          intro fu
          induction fu with
          | zero => intro t1 na2 hm; exact absurd hm (Nat.not_lt_zero _)
          | succ fu ih52 =>
            intro t1 na2 hm ht1 h2 E8 H locs ls hP hS hE0 hE1 hE2 hE3 hE4 hE5 hfr hl
            refine lv_iload X.1 X.2.1 dX7_turn_52 (lv_at hl 4 rfl) ?_
            refine lv_aload_n X.1 X.2.1 dX7_turn_54 rfl (lv_at hl 0 rfl) ?_
            refine wm_get X hP hlt0 hE0 rfl wm_inX7 6 (by decide) wq5_28 rfl dX7_turn_55 ?_
            refine lv_iload_n X.1 X.2.1 dX7_turn_58 rfl (lv_at hl 2 rfl) ?_
            refine wm_iald (i := i) X hP hlt2 hE2 (by omega) (by decide) dX7_turn_59 ?_
            refine wm_icmp_ge (x := t1) (y := (ss i)) (tgt := 158) X (by omega) (by omega) dX7_turn_60 (by decide) (fun hc60 => ?_) (fun hc60 => ?_)
            · refine lv_iinc (v := nI (s1 + 1)) (lv' := [(3, .int (nI (s1 + 1))), (0, .ref (b + 119)), (1, .int (nI k)), (2, .int (nI i)), (4, .int (nI t1))]) X.1 X.2.1 dX7_turn_158 hl (k := 3) rfl (wm_inc s1) (by decide) rfl (fun ls hl => ?_)
              refine lv_goto (tgt := 39) X.1 X.2.1 dX7_turn_161 (by decide) ?_
              exact ih39 (s1 + 1) na2 (by omega) (by omega) (wm_t3S h2 (by omega)) E8 _ _ _ hP hS hE0 hE1 hE2 hE3 hE4 hE5 hfr (lv_sub hl [1, 2, 3, 0] rfl)
            · refine lv_iconst (v := nI 0) X.1 X.2.1 dX7_turn_63 (by decide) ?_
              refine lv_istore (lv' := [(5, .int (nI 0)), (0, .ref (b + 119)), (1, .int (nI k)), (2, .int (nI i)), (3, .int (nI s1)), (4, .int (nI t1))]) X.1 X.2.1 dX7_turn_64 hl (by decide) rfl (fun ls hl => ?_)
              have L66 : ∀ (fu : Nat) (a1 : Nat) (na3 : Nat → Nat), 8 - a1 < fu → (a1 ≤ 8) → (wm_t3 (fun s9 l9 t9 => if (ar (192 * i + 8 * t9 + l9)).testBit s9 then 1 <<< t9 else 0) (ss i) s1 t1 a1 na3) → ∀ (E10 : Nat → va_E) (H : Heap) (locs : List Loc) (ls : Array Slot), wm_P D b n E10 H → wm_S b s.heap H locs → E10 119 = .inr (7, [.int (nI 0), .ref (b + 120), .int (nI sz), .int (nI fa), .int (nI pl), .ref (b + 121), .ref (b + 122), .ref (b + 123), .ref (b + 124), .ref (b + 125), .ref (b + 126), .ref (b + 127), .int (nI ats), .int (nI aa), .ref (b + 128), .ref (b + 129), .ref (b + 130), .ref (b + 131), .ref (b + 132), .ref (b + 133), .int (nI op), .int (nI be.toNat), .int (nI fi), .int (nI la), .ref (b + 134), .ref (b + 135), .ref (b + 136), .int (nI wa), .ref (b + 137), .ref (b + 138), .ref (b + 139), .int (nI wc), .ref (b + 140), .int (nI kl), .ref (b + 141), .ref (b + 142), .ref (b + 143), .ref (b + 144), .ref (b + 145)]) → E10 121 = wm_I C 1536 ar → E10 122 = wm_I C 8 ss → E10 123 = wm_I C 8 sa → E10 124 = wm_I C 8 se → E10 125 = wm_I C 192 na3 → (∀ j, j ≠ 119 → j ≠ 121 → j ≠ 122 → j ≠ 123 → j ≠ 124 → j ≠ 125 → E10 j = E j) → lv_has ls 7 [(0, .ref (b + 119)), (1, .int (nI k)), (2, .int (nI i)), (3, .int (nI s1)), (4, .int (nI t1)), (5, .int (nI a1))] → W p l e R s m args below meth c H locs 0 0 Q (F0 m 66 ls []) := by
                intro fu
                induction fu with
                | zero => intro a1 na3 hm; exact absurd hm (Nat.not_lt_zero _)
                | succ fu ih66 =>
                  intro a1 na3 hm ha1 h3 E10 H locs ls hP hS hE0 hE1 hE2 hE3 hE4 hE5 hfr hl
                  refine lv_iload X.1 X.2.1 dX7_turn_66 (lv_at hl 5 rfl) ?_
                  refine lv_bipush (v := nI 8) X.1 X.2.1 dX7_turn_68 (by decide) ?_
                  refine wm_icmp_ge (x := a1) (y := 8) (tgt := 152) X (by omega) (by decide) dX7_turn_70 (by decide) (fun hc70 => ?_) (fun hc70 => ?_)
                  · refine lv_iinc (v := nI (t1 + 1)) (lv' := [(4, .int (nI (t1 + 1))), (0, .ref (b + 119)), (1, .int (nI k)), (2, .int (nI i)), (3, .int (nI s1)), (5, .int (nI a1))]) X.1 X.2.1 dX7_turn_152 hl (k := 4) rfl (wm_inc t1) (by decide) rfl (fun ls hl => ?_)
                    refine lv_goto (tgt := 52) X.1 X.2.1 dX7_turn_155 (by decide) ?_
                    exact ih52 (t1 + 1) na3 (by omega) (by omega) (wm_t3T h3 hc70) E10 _ _ _ hP hS hE0 hE1 hE2 hE3 hE4 hE5 hfr (lv_sub hl [1, 2, 3, 4, 0] rfl)
                  · refine lv_aload_n X.1 X.2.1 dX7_turn_73 rfl (lv_at hl 0 rfl) ?_
                    refine lv_iload_n X.1 X.2.1 dX7_turn_74 rfl (lv_at hl 2 rfl) ?_
                    refine lv_iload X.1 X.2.1 dX7_turn_75 (lv_at hl 4 rfl) ?_
                    refine lv_iload X.1 X.2.1 dX7_turn_77 (lv_at hl 5 rfl) ?_
                    refine wm_callVi (k := 3) (As := [.int (nI i), .int (nI t1), .int (nI a1)]) (rest := []) X hP hS hlt0 hE0 rfl (kX7_arcsOf l D C b n E10 0 sz fa pl ats aa op fi la wa wc kl be i t1 a1 ar hlt0 hE0 hlt1 hE1 (by omega) (by omega) (by omega)) wq5_236 wq5_238 wqP3_13 wq1_8 wq5_239 (by decide) (by rw [hRe]; exact ⟨Nat.le_of_ble_eq_true rfl, Nat.le_of_ble_eq_true rfl⟩) rfl hl.1 rfl (Nat.le_of_ble_eq_true rfl) (Nat.zero_le _) (Nat.zero_le _) dX7_turn_79 (fun r12 E12 H locs hw hP hS => ?_)
                    obtain ⟨hrt, hEe⟩ := hw
                    subst hrt
                    subst hEe
                    refine lv_iload_n X.1 X.2.1 dX7_turn_82 rfl (lv_at hl 3 rfl) ?_
                    refine wm_ishr (x := (ar (192 * i + 8 * t1 + a1))) (y := s1) X (hgi a1 t1 hc70 hc60) (by omega) dX7_turn_83 ?_
                    refine lv_iconst (v := nI 1) X.1 X.2.1 dX7_turn_84 (by decide) ?_
                    refine wm_iand (x := ((ar (192 * i + 8 * t1 + a1)) >>> s1)) (y := 1) X dX7_turn_85 ?_
                    refine lv_iconst (v := nI 1) X.1 X.2.1 dX7_turn_86 (by decide) ?_
                    refine wm_icmp_ne (x := (((ar (192 * i + 8 * t1 + a1)) >>> s1) &&& 1)) (y := 1) (tgt := 94) X (Nat.lt_trans (wm_and1_lt _) (by decide)) (by decide) dX7_turn_87 (by decide) (fun hc87 => ?_) (fun hc87 => ?_)
                    · refine lv_iconst (v := nI 0) X.1 X.2.1 dX7_turn_94 (by decide) ?_
                      refine lv_istore (lv' := [(6, .int (nI 0)), (0, .ref (b + 119)), (1, .int (nI k)), (2, .int (nI i)), (3, .int (nI s1)), (4, .int (nI t1)), (5, .int (nI a1))]) X.1 X.2.1 dX7_turn_95 hl (by decide) rfl (fun ls hl => ?_)
                      refine lv_aload_n X.1 X.2.1 dX7_turn_97 rfl (lv_at hl 1 rfl) ?_
                      refine wm_get X hP hlt0 hE0 rfl wm_inX7 9 (by decide) wq5_31 rfl dX7_turn_98 ?_
                      refine lv_bipush (v := nI 8) X.1 X.2.1 dX7_turn_101 (by decide) ?_
                      refine lv_iload_n X.1 X.2.1 dX7_turn_103 rfl (lv_at hl 4 rfl) ?_
                      refine wm_imul (x := 8) (y := s1) X dX7_turn_104 ?_
                      refine lv_iload X.1 X.2.1 dX7_turn_105 (lv_at hl 6 rfl) ?_
                      refine wm_iadd (x := (8 * s1)) (y := a1) X dX7_turn_107 ?_
                      refine lv_iload X.1 X.2.1 dX7_turn_108 (lv_at hl 0 rfl) ?_
                      refine lv_if_eq (tgt := 133) X.1 X.2.1 dX7_turn_110 (by decide) (fun _ => ?_) (fun h => by exfalso; revert h; decide)
                      refine lv_aload_n X.1 X.2.1 dX7_turn_133 rfl (lv_at hl 1 rfl) ?_
                      refine wm_get X hP hlt0 hE0 rfl wm_inX7 9 (by decide) wq5_31 rfl dX7_turn_134 ?_
                      refine lv_bipush (v := nI 8) X.1 X.2.1 dX7_turn_137 (by decide) ?_
                      refine lv_iload_n X.1 X.2.1 dX7_turn_139 rfl (lv_at hl 4 rfl) ?_
                      refine wm_imul (x := 8) (y := s1) X dX7_turn_140 ?_
                      refine lv_iload X.1 X.2.1 dX7_turn_141 (lv_at hl 6 rfl) ?_
                      refine wm_iadd (x := (8 * s1)) (y := a1) X dX7_turn_143 ?_
                      refine wm_iald (i := ((8 * s1) + a1)) X hP hlt5 hE5 (by omega) (by decide) dX7_turn_144 ?_
                      refine wm_iast (i := ((8 * s1) + a1)) (x := (na3 ((8 * s1) + a1))) X hP hS hlt5 hE5 (by omega) (by decide) dX7_turn_145 (fun H locs E14 hP hS hE5 hq => ?_)
                      have hE0 := (hq 119 (by decide)).trans hE0
                      have hE1 := (hq 121 (by decide)).trans hE1
                      have hE2 := (hq 122 (by decide)).trans hE2
                      have hE3 := (hq 123 (by decide)).trans hE3
                      have hE4 := (hq 124 (by decide)).trans hE4
                      have hfr : ∀ j, j ≠ 119 → j ≠ 121 → j ≠ 122 → j ≠ 123 → j ≠ 124 → j ≠ 125 → E14 j = E j := fun j h0 h1 h2 h3 h4 h5 => (hq j h5).trans (hfr j h0 h1 h2 h3 h4 h5)
                      refine lv_iinc (v := nI (a1 + 1)) (lv' := [(5, .int (nI (a1 + 1))), (6, .int (nI 0)), (0, .ref (b + 119)), (1, .int (nI k)), (2, .int (nI i)), (3, .int (nI s1)), (4, .int (nI t1))]) X.1 X.2.1 dX7_turn_146 hl (k := 6) rfl (wm_inc a1) (by decide) rfl (fun ls hl => ?_)
                      refine lv_goto (tgt := 66) X.1 X.2.1 dX7_turn_149 (by decide) ?_
                      exact ih66 (a1 + 1) (va_up na3 ((8 * s1) + a1) (na3 ((8 * s1) + a1))) (by omega) (by omega) (wm_t3L h3 hc70 (by omega) (by rw [show (if (ar (192 * i + 8 * t1 + a1)).testBit s1 then 1 <<< t1 else 0) = 0 from if_neg (by rw [wm_sh0 hc87]; decide)]; exact (Nat.or_zero _).symm)) E14 _ _ _ hP hS hE0 hE1 hE2 hE3 hE4 hE5 hfr (lv_sub hl [2, 3, 4, 5, 6, 0] rfl)
                    · refine lv_iconst (v := nI 1) X.1 X.2.1 dX7_turn_90 (by decide) ?_
                      refine lv_goto (tgt := 95) X.1 X.2.1 dX7_turn_91 (by decide) ?_
                      refine lv_istore (lv' := [(6, .int (nI 1)), (0, .ref (b + 119)), (1, .int (nI k)), (2, .int (nI i)), (3, .int (nI s1)), (4, .int (nI t1)), (5, .int (nI a1))]) X.1 X.2.1 dX7_turn_95 hl (by decide) rfl (fun ls hl => ?_)
                      refine lv_aload_n X.1 X.2.1 dX7_turn_97 rfl (lv_at hl 1 rfl) ?_
                      refine wm_get X hP hlt0 hE0 rfl wm_inX7 9 (by decide) wq5_31 rfl dX7_turn_98 ?_
                      refine lv_bipush (v := nI 8) X.1 X.2.1 dX7_turn_101 (by decide) ?_
                      refine lv_iload_n X.1 X.2.1 dX7_turn_103 rfl (lv_at hl 4 rfl) ?_
                      refine wm_imul (x := 8) (y := s1) X dX7_turn_104 ?_
                      refine lv_iload X.1 X.2.1 dX7_turn_105 (lv_at hl 6 rfl) ?_
                      refine wm_iadd (x := (8 * s1)) (y := a1) X dX7_turn_107 ?_
                      refine lv_iload X.1 X.2.1 dX7_turn_108 (lv_at hl 0 rfl) ?_
                      refine lv_if_eq (tgt := 133) X.1 X.2.1 dX7_turn_110 (by decide) (fun h => by exfalso; revert h; decide) (fun _ => ?_)
                      refine lv_aload_n X.1 X.2.1 dX7_turn_113 rfl (lv_at hl 1 rfl) ?_
                      refine wm_get X hP hlt0 hE0 rfl wm_inX7 9 (by decide) wq5_31 rfl dX7_turn_114 ?_
                      refine lv_bipush (v := nI 8) X.1 X.2.1 dX7_turn_117 (by decide) ?_
                      refine lv_iload_n X.1 X.2.1 dX7_turn_119 rfl (lv_at hl 4 rfl) ?_
                      refine wm_imul (x := 8) (y := s1) X dX7_turn_120 ?_
                      refine lv_iload X.1 X.2.1 dX7_turn_121 (lv_at hl 6 rfl) ?_
                      refine wm_iadd (x := (8 * s1)) (y := a1) X dX7_turn_123 ?_
                      refine wm_iald (i := ((8 * s1) + a1)) X hP hlt5 hE5 (by omega) (by decide) dX7_turn_124 ?_
                      refine lv_iconst (v := nI 1) X.1 X.2.1 dX7_turn_125 (by decide) ?_
                      refine lv_iload X.1 X.2.1 dX7_turn_126 (lv_at hl 5 rfl) ?_
                      refine wm_ishl (x := 1) (y := t1) X (by omega) dX7_turn_128 ?_
                      refine wm_ior (x := (na3 ((8 * s1) + a1))) (y := (1 <<< t1)) X dX7_turn_129 ?_
                      refine lv_goto (tgt := 145) X.1 X.2.1 dX7_turn_130 (by decide) ?_
                      refine wm_iast (i := ((8 * s1) + a1)) (x := ((na3 ((8 * s1) + a1)) ||| (1 <<< t1))) X hP hS hlt5 hE5 (by omega) (by decide) dX7_turn_145 (fun H locs E15 hP hS hE5 hq => ?_)
                      have hE0 := (hq 119 (by decide)).trans hE0
                      have hE1 := (hq 121 (by decide)).trans hE1
                      have hE2 := (hq 122 (by decide)).trans hE2
                      have hE3 := (hq 123 (by decide)).trans hE3
                      have hE4 := (hq 124 (by decide)).trans hE4
                      have hfr : ∀ j, j ≠ 119 → j ≠ 121 → j ≠ 122 → j ≠ 123 → j ≠ 124 → j ≠ 125 → E15 j = E j := fun j h0 h1 h2 h3 h4 h5 => (hq j h5).trans (hfr j h0 h1 h2 h3 h4 h5)
                      refine lv_iinc (v := nI (a1 + 1)) (lv' := [(5, .int (nI (a1 + 1))), (6, .int (nI 1)), (0, .ref (b + 119)), (1, .int (nI k)), (2, .int (nI i)), (3, .int (nI s1)), (4, .int (nI t1))]) X.1 X.2.1 dX7_turn_146 hl (k := 6) rfl (wm_inc a1) (by decide) rfl (fun ls hl => ?_)
                      refine lv_goto (tgt := 66) X.1 X.2.1 dX7_turn_149 (by decide) ?_
                      exact ih66 (a1 + 1) (va_up na3 ((8 * s1) + a1) ((na3 ((8 * s1) + a1)) ||| (1 <<< t1))) (by omega) (by omega) (wm_t3L h3 hc70 (by omega) (by rw [show (if (ar (192 * i + 8 * t1 + a1)).testBit s1 then 1 <<< t1 else 0) = 1 <<< t1 from if_pos (wm_sh1 hc87)])) E15 _ _ _ hP hS hE0 hE1 hE2 hE3 hE4 hE5 hfr (lv_sub hl [2, 3, 4, 5, 6, 0] rfl)
              exact L66 (8 - 0 + 1) 0 na2 (Nat.lt_succ_self _) (by omega) h2 E8 _ _ _ hP hS hE0 hE1 hE2 hE3 hE4 hE5 hfr (lv_sub hl [1, 2, 3, 4, 5, 0] rfl)
        exact L52 (24 - 0 + 1) 0 na1 (Nat.lt_succ_self _) (by omega) h1 E5 _ _ _ hP hS hE0 hE1 hE2 hE3 hE4 hE5 hfr (lv_sub hl [1, 2, 3, 4, 0] rfl)
  exact L39 (24 - 0 + 1) 0 na14 (Nat.lt_succ_self _) (by omega) (wm_t30 hp4_0) E4 _ _ _ hP hS hE0 hE1 hE2 hE3 hE4 hE5 hfr (lv_sub hl [1, 2, 3, 0] rfl)
def pmeitherX (C : Nat → ClassId) (b : Nat) (E : Nat → va_E) (th sz fa pl ats aa op fi la wa wc kl : Nat) (be : Bool) (x y z : Int32) : Int32 → (Nat → va_E) → Prop := fun r E' => r = nI 0 ∧ E' 119 = .inr (7, [.int (nI 1), .ref (b + 120), .int (nI sz), .int (nI fa), .int (nI pl), .ref (b + 121), .ref (b + 122), .ref (b + 123), .ref (b + 124), .ref (b + 125), .ref (b + 126), .ref (b + 127), .int (nI ats), .int (nI aa), .ref (b + 128), .ref (b + 129), .ref (b + 130), .ref (b + 131), .ref (b + 132), .ref (b + 133), .int (nI op), .int (nI be.toNat), .int (nI fi), .int (nI la), .ref (b + 134), .ref (b + 135), .ref (b + 136), .int (nI wa), .ref (b + 137), .ref (b + 138), .ref (b + 139), .int (nI wc), .ref (b + 140), .int (nI kl), .ref (b + 141), .ref (b + 142), .ref (b + 143), .ref (b + 144), .ref (b + 145)]) ∧ (∀ j, j ≠ 119 → E' j = E j)
set_option maxHeartbeats 4000000 in
set_option maxRecDepth 100000 in
theorem kmeitherX (l : Launch) (D : va_G) (C : Nat → ClassId) (b n : Nat) (E : Nat → va_E) (th sz fa pl ats aa op fi la wa wc kl : Nat) (be : Bool) (x y z : Int32) (hlt0 : 119 < n) (hE0 : E 119 = .inr (7, [.int (nI th), .ref (b + 120), .int (nI sz), .int (nI fa), .int (nI pl), .ref (b + 121), .ref (b + 122), .ref (b + 123), .ref (b + 124), .ref (b + 125), .ref (b + 126), .ref (b + 127), .int (nI ats), .int (nI aa), .ref (b + 128), .ref (b + 129), .ref (b + 130), .ref (b + 131), .ref (b + 132), .ref (b + 133), .int (nI op), .int (nI be.toNat), .int (nI fi), .int (nI la), .ref (b + 134), .ref (b + 135), .ref (b + 136), .int (nI wa), .ref (b + 137), .ref (b + 138), .ref (b + 139), .int (nI wc), .ref (b + 140), .int (nI kl), .ref (b + 141), .ref (b + 142), .ref (b + 143), .ref (b + 144), .ref (b + 145)])) (hk : ¬ (0 ≤ x ∧ x < nI 8)) : Met l yX7_either (wm_ws yX7_either cX7_either 8 (some .int)) { frames := 1, cells := 0, slots := 0, locals := 21 } (va_Pc [.ref (b + 119), .int x, .int y, .int z] (wm_G D C b n E)) (va_Qi (pmeitherX C b E th sz fa pl ats aa op fi la wa wc kl be x y z) (fun E' t => wm_P D b n E' t.heap) (wm_A b)) 0 0 (wm_A b) := by
  refine wm_ofW (by decide) (Nat.le_of_ble_eq_true rfl) (fun p e s m below meth c ls R args Q hRe hQ X hr hnm hP hS hl => ?_)
  have hl : lv_has ls 8 [(0, .ref (b + 119)), (1, .int x), (2, .int y), (3, .int z)] := hl
  have hfr : ∀ j, j ≠ 119 → E j = E j := fun _ _ => rfl
  refine lv_aload_n X.1 X.2.1 dX7_either_0 rfl (lv_at hl 0 rfl) ?_
  refine lv_aload_n X.1 X.2.1 dX7_either_1 rfl (lv_at hl 0 rfl) ?_
  refine lv_iload_n X.1 X.2.1 dX7_either_2 rfl (lv_at hl 1 rfl) ?_
  refine wm_callVi (k := 1) (As := [.int x]) (rest := [.ref (b + 119)]) X hP hS hlt0 hE0 rfl (knoMachX l D C b n E x (by omega)) wq5_157 wq5_159 wqP2_15 wq1_8 wq5_160 (by decide) (by rw [hRe]; exact ⟨Nat.le_of_ble_eq_true rfl, Nat.le_of_ble_eq_true rfl⟩) rfl hl.1 rfl (Nat.le_of_ble_eq_true rfl) (Nat.zero_le _) (Nat.zero_le _) dX7_either_3 (fun r1 E1 H locs hw hP hS => ?_)
  obtain ⟨hrt, hEe⟩ := hw
  subst hrt
  subst hEe
  refine wm_ifz_ne (x := true) (tgt := 25) X dX7_either_6 (by decide) (fun _ => ?_) (fun h => by exfalso; revert h; decide)
  refine lv_iconst (v := nI 1) X.1 X.2.1 dX7_either_25 (by decide) ?_
  refine lv_goto (tgt := 30) X.1 X.2.1 dX7_either_26 (by decide) ?_
  refine wm_put (v := .int (nI 1)) X hP hS hlt0 hE0 rfl wm_inX7 tyX7 tyX7_ok nmX7 0 (by decide) wq5_22 rfl rfl rfl (fs1 := [.int (nI 1), .ref (b + 120), .int (nI sz), .int (nI fa), .int (nI pl), .ref (b + 121), .ref (b + 122), .ref (b + 123), .ref (b + 124), .ref (b + 125), .ref (b + 126), .ref (b + 127), .int (nI ats), .int (nI aa), .ref (b + 128), .ref (b + 129), .ref (b + 130), .ref (b + 131), .ref (b + 132), .ref (b + 133), .int (nI op), .int (nI be.toNat), .int (nI fi), .int (nI la), .ref (b + 134), .ref (b + 135), .ref (b + 136), .int (nI wa), .ref (b + 137), .ref (b + 138), .ref (b + 139), .int (nI wc), .ref (b + 140), .int (nI kl), .ref (b + 141), .ref (b + 142), .ref (b + 143), .ref (b + 144), .ref (b + 145)]) rfl (Nat.le_of_ble_eq_true rfl) dX7_either_30 (fun H locs E2 hP hS hE0 hq => ?_)
  have hfr : ∀ j, j ≠ 119 → E2 j = E j := fun j h0 => (hq j h0).trans (hfr j h0)
  refine lv_aload_n X.1 X.2.1 dX7_either_33 rfl (lv_at hl 0 rfl) ?_
  refine wm_get X hP hlt0 hE0 rfl wm_inX7 0 (by decide) wq5_22 rfl dX7_either_34 ?_
  refine lv_if_le (tgt := 42) X.1 X.2.1 dX7_either_37 (by decide) (fun h => by exfalso; revert h; decide) (fun _ => ?_)
  refine lv_iconst (v := nI 0) X.1 X.2.1 dX7_either_40 (by decide) ?_
  exact wm_iret (post := pmeitherX C b E th sz fa pl ats aa op fi la wa wc kl be x y z) X hr hP hS ⟨rfl, hE0, hfr⟩ hQ dX7_either_41
def pmeitherY (C : Nat → ClassId) (b : Nat) (E : Nat → va_E) (th sz fa pl ats aa op fi la wa wc kl : Nat) (be : Bool) (k : Nat) (y z : Int32) : Int32 → (Nat → va_E) → Prop := fun r E' => r = nI 0 ∧ E' 119 = .inr (7, [.int (nI 1), .ref (b + 120), .int (nI sz), .int (nI fa), .int (nI pl), .ref (b + 121), .ref (b + 122), .ref (b + 123), .ref (b + 124), .ref (b + 125), .ref (b + 126), .ref (b + 127), .int (nI ats), .int (nI aa), .ref (b + 128), .ref (b + 129), .ref (b + 130), .ref (b + 131), .ref (b + 132), .ref (b + 133), .int (nI op), .int (nI be.toNat), .int (nI fi), .int (nI la), .ref (b + 134), .ref (b + 135), .ref (b + 136), .int (nI wa), .ref (b + 137), .ref (b + 138), .ref (b + 139), .int (nI wc), .ref (b + 140), .int (nI kl), .ref (b + 141), .ref (b + 142), .ref (b + 143), .ref (b + 144), .ref (b + 145)]) ∧ (∀ j, j ≠ 119 → E' j = E j)
set_option maxHeartbeats 4000000 in
set_option maxRecDepth 100000 in
theorem kmeitherY (l : Launch) (D : va_G) (C : Nat → ClassId) (b n : Nat) (E : Nat → va_E) (th sz fa pl ats aa op fi la wa wc kl : Nat) (be : Bool) (k : Nat) (y z : Int32) (hlt0 : 119 < n) (hE0 : E 119 = .inr (7, [.int (nI th), .ref (b + 120), .int (nI sz), .int (nI fa), .int (nI pl), .ref (b + 121), .ref (b + 122), .ref (b + 123), .ref (b + 124), .ref (b + 125), .ref (b + 126), .ref (b + 127), .int (nI ats), .int (nI aa), .ref (b + 128), .ref (b + 129), .ref (b + 130), .ref (b + 131), .ref (b + 132), .ref (b + 133), .int (nI op), .int (nI be.toNat), .int (nI fi), .int (nI la), .ref (b + 134), .ref (b + 135), .ref (b + 136), .int (nI wa), .ref (b + 137), .ref (b + 138), .ref (b + 139), .int (nI wc), .ref (b + 140), .int (nI kl), .ref (b + 141), .ref (b + 142), .ref (b + 143), .ref (b + 144), .ref (b + 145)])) (hkk : k < 8) (hk : ¬ (0 ≤ y ∧ y < nI 8)) : Met l yX7_either (wm_ws yX7_either cX7_either 8 (some .int)) { frames := 1, cells := 0, slots := 0, locals := 21 } (va_Pc [.ref (b + 119), .int (nI k), .int y, .int z] (wm_G D C b n E)) (va_Qi (pmeitherY C b E th sz fa pl ats aa op fi la wa wc kl be k y z) (fun E' t => wm_P D b n E' t.heap) (wm_A b)) 0 0 (wm_A b) := by
  refine wm_ofW (by decide) (Nat.le_of_ble_eq_true rfl) (fun p e s m below meth c ls R args Q hRe hQ X hr hnm hP hS hl => ?_)
  have hl : lv_has ls 8 [(0, .ref (b + 119)), (1, .int (nI k)), (2, .int y), (3, .int z)] := hl
  have hfr : ∀ j, j ≠ 119 → E j = E j := fun _ _ => rfl
  refine lv_aload_n X.1 X.2.1 dX7_either_0 rfl (lv_at hl 0 rfl) ?_
  refine lv_aload_n X.1 X.2.1 dX7_either_1 rfl (lv_at hl 0 rfl) ?_
  refine lv_iload_n X.1 X.2.1 dX7_either_2 rfl (lv_at hl 1 rfl) ?_
  refine wm_callVi (k := 1) (As := [.int (nI k)]) (rest := [.ref (b + 119)]) X hP hS hlt0 hE0 rfl (knoMach l D C b n E k (by omega)) wq5_157 wq5_159 wqP2_15 wq1_8 wq5_160 (by decide) (by rw [hRe]; exact ⟨Nat.le_of_ble_eq_true rfl, Nat.le_of_ble_eq_true rfl⟩) rfl hl.1 rfl (Nat.le_of_ble_eq_true rfl) (Nat.zero_le _) (Nat.zero_le _) dX7_either_3 (fun r1 E1 H locs hw hP hS => ?_)
  obtain ⟨hrt, hEe⟩ := hw
  subst hrt
  subst hEe
  refine wm_ifz_ne (x := false) (tgt := 25) X dX7_either_6 (by decide) (fun h => by exfalso; revert h; decide) (fun _ => ?_)
  refine lv_aload_n X.1 X.2.1 dX7_either_9 rfl (lv_at hl 0 rfl) ?_
  refine lv_iload_n X.1 X.2.1 dX7_either_10 rfl (lv_at hl 2 rfl) ?_
  refine wm_callVi (k := 1) (As := [.int y]) (rest := [.ref (b + 119)]) X hP hS hlt0 hE0 rfl (knoMachX l D C b n E y (by omega)) wq5_157 wq5_159 wqP2_15 wq1_8 wq5_160 (by decide) (by rw [hRe]; exact ⟨Nat.le_of_ble_eq_true rfl, Nat.le_of_ble_eq_true rfl⟩) rfl hl.1 rfl (Nat.le_of_ble_eq_true rfl) (Nat.zero_le _) (Nat.zero_le _) dX7_either_11 (fun r2 E2 H locs hw hP hS => ?_)
  obtain ⟨hrt, hEe⟩ := hw
  subst hrt
  subst hEe
  refine wm_ifz_ne (x := true) (tgt := 25) X dX7_either_14 (by decide) (fun _ => ?_) (fun h => by exfalso; revert h; decide)
  refine lv_iconst (v := nI 1) X.1 X.2.1 dX7_either_25 (by decide) ?_
  refine lv_goto (tgt := 30) X.1 X.2.1 dX7_either_26 (by decide) ?_
  refine wm_put (v := .int (nI 1)) X hP hS hlt0 hE0 rfl wm_inX7 tyX7 tyX7_ok nmX7 0 (by decide) wq5_22 rfl rfl rfl (fs1 := [.int (nI 1), .ref (b + 120), .int (nI sz), .int (nI fa), .int (nI pl), .ref (b + 121), .ref (b + 122), .ref (b + 123), .ref (b + 124), .ref (b + 125), .ref (b + 126), .ref (b + 127), .int (nI ats), .int (nI aa), .ref (b + 128), .ref (b + 129), .ref (b + 130), .ref (b + 131), .ref (b + 132), .ref (b + 133), .int (nI op), .int (nI be.toNat), .int (nI fi), .int (nI la), .ref (b + 134), .ref (b + 135), .ref (b + 136), .int (nI wa), .ref (b + 137), .ref (b + 138), .ref (b + 139), .int (nI wc), .ref (b + 140), .int (nI kl), .ref (b + 141), .ref (b + 142), .ref (b + 143), .ref (b + 144), .ref (b + 145)]) rfl (Nat.le_of_ble_eq_true rfl) dX7_either_30 (fun H locs E3 hP hS hE0 hq => ?_)
  have hfr : ∀ j, j ≠ 119 → E3 j = E j := fun j h0 => (hq j h0).trans (hfr j h0)
  refine lv_aload_n X.1 X.2.1 dX7_either_33 rfl (lv_at hl 0 rfl) ?_
  refine wm_get X hP hlt0 hE0 rfl wm_inX7 0 (by decide) wq5_22 rfl dX7_either_34 ?_
  refine lv_if_le (tgt := 42) X.1 X.2.1 dX7_either_37 (by decide) (fun h => by exfalso; revert h; decide) (fun _ => ?_)
  refine lv_iconst (v := nI 0) X.1 X.2.1 dX7_either_40 (by decide) ?_
  exact wm_iret (post := pmeitherY C b E th sz fa pl ats aa op fi la wa wc kl be k y z) X hr hP hS ⟨rfl, hE0, hfr⟩ hQ dX7_either_41
def pmeitherZ (C : Nat → ClassId) (b : Nat) (E : Nat → va_E) (th sz fa pl ats aa op fi la wa wc kl : Nat) (be : Bool) (k i : Nat) (z : Int32) : Int32 → (Nat → va_E) → Prop := fun r E' => r = nI 0 ∧ E' 119 = .inr (7, [.int (nI 1), .ref (b + 120), .int (nI sz), .int (nI fa), .int (nI pl), .ref (b + 121), .ref (b + 122), .ref (b + 123), .ref (b + 124), .ref (b + 125), .ref (b + 126), .ref (b + 127), .int (nI ats), .int (nI aa), .ref (b + 128), .ref (b + 129), .ref (b + 130), .ref (b + 131), .ref (b + 132), .ref (b + 133), .int (nI op), .int (nI be.toNat), .int (nI fi), .int (nI la), .ref (b + 134), .ref (b + 135), .ref (b + 136), .int (nI wa), .ref (b + 137), .ref (b + 138), .ref (b + 139), .int (nI wc), .ref (b + 140), .int (nI kl), .ref (b + 141), .ref (b + 142), .ref (b + 143), .ref (b + 144), .ref (b + 145)]) ∧ (∀ j, j ≠ 119 → E' j = E j)
set_option maxHeartbeats 4000000 in
set_option maxRecDepth 100000 in
theorem kmeitherZ (l : Launch) (D : va_G) (C : Nat → ClassId) (b n : Nat) (E : Nat → va_E) (th sz fa pl ats aa op fi la wa wc kl : Nat) (be : Bool) (k i : Nat) (z : Int32) (hlt0 : 119 < n) (hE0 : E 119 = .inr (7, [.int (nI th), .ref (b + 120), .int (nI sz), .int (nI fa), .int (nI pl), .ref (b + 121), .ref (b + 122), .ref (b + 123), .ref (b + 124), .ref (b + 125), .ref (b + 126), .ref (b + 127), .int (nI ats), .int (nI aa), .ref (b + 128), .ref (b + 129), .ref (b + 130), .ref (b + 131), .ref (b + 132), .ref (b + 133), .int (nI op), .int (nI be.toNat), .int (nI fi), .int (nI la), .ref (b + 134), .ref (b + 135), .ref (b + 136), .int (nI wa), .ref (b + 137), .ref (b + 138), .ref (b + 139), .int (nI wc), .ref (b + 140), .int (nI kl), .ref (b + 141), .ref (b + 142), .ref (b + 143), .ref (b + 144), .ref (b + 145)])) (hkk : k < 8) (hii : i < 8) (hk : ¬ (0 ≤ z ∧ z < nI 8)) : Met l yX7_either (wm_ws yX7_either cX7_either 8 (some .int)) { frames := 1, cells := 0, slots := 0, locals := 21 } (va_Pc [.ref (b + 119), .int (nI k), .int (nI i), .int z] (wm_G D C b n E)) (va_Qi (pmeitherZ C b E th sz fa pl ats aa op fi la wa wc kl be k i z) (fun E' t => wm_P D b n E' t.heap) (wm_A b)) 0 0 (wm_A b) := by
  refine wm_ofW (by decide) (Nat.le_of_ble_eq_true rfl) (fun p e s m below meth c ls R args Q hRe hQ X hr hnm hP hS hl => ?_)
  have hl : lv_has ls 8 [(0, .ref (b + 119)), (1, .int (nI k)), (2, .int (nI i)), (3, .int z)] := hl
  have hfr : ∀ j, j ≠ 119 → E j = E j := fun _ _ => rfl
  refine lv_aload_n X.1 X.2.1 dX7_either_0 rfl (lv_at hl 0 rfl) ?_
  refine lv_aload_n X.1 X.2.1 dX7_either_1 rfl (lv_at hl 0 rfl) ?_
  refine lv_iload_n X.1 X.2.1 dX7_either_2 rfl (lv_at hl 1 rfl) ?_
  refine wm_callVi (k := 1) (As := [.int (nI k)]) (rest := [.ref (b + 119)]) X hP hS hlt0 hE0 rfl (knoMach l D C b n E k (by omega)) wq5_157 wq5_159 wqP2_15 wq1_8 wq5_160 (by decide) (by rw [hRe]; exact ⟨Nat.le_of_ble_eq_true rfl, Nat.le_of_ble_eq_true rfl⟩) rfl hl.1 rfl (Nat.le_of_ble_eq_true rfl) (Nat.zero_le _) (Nat.zero_le _) dX7_either_3 (fun r1 E1 H locs hw hP hS => ?_)
  obtain ⟨hrt, hEe⟩ := hw
  subst hrt
  subst hEe
  refine wm_ifz_ne (x := false) (tgt := 25) X dX7_either_6 (by decide) (fun h => by exfalso; revert h; decide) (fun _ => ?_)
  refine lv_aload_n X.1 X.2.1 dX7_either_9 rfl (lv_at hl 0 rfl) ?_
  refine lv_iload_n X.1 X.2.1 dX7_either_10 rfl (lv_at hl 2 rfl) ?_
  refine wm_callVi (k := 1) (As := [.int (nI i)]) (rest := [.ref (b + 119)]) X hP hS hlt0 hE0 rfl (knoMach l D C b n E i (by omega)) wq5_157 wq5_159 wqP2_15 wq1_8 wq5_160 (by decide) (by rw [hRe]; exact ⟨Nat.le_of_ble_eq_true rfl, Nat.le_of_ble_eq_true rfl⟩) rfl hl.1 rfl (Nat.le_of_ble_eq_true rfl) (Nat.zero_le _) (Nat.zero_le _) dX7_either_11 (fun r2 E2 H locs hw hP hS => ?_)
  obtain ⟨hrt, hEe⟩ := hw
  subst hrt
  subst hEe
  refine wm_ifz_ne (x := false) (tgt := 25) X dX7_either_14 (by decide) (fun h => by exfalso; revert h; decide) (fun _ => ?_)
  refine lv_aload_n X.1 X.2.1 dX7_either_17 rfl (lv_at hl 0 rfl) ?_
  refine lv_iload_n X.1 X.2.1 dX7_either_18 rfl (lv_at hl 3 rfl) ?_
  refine wm_callVi (k := 1) (As := [.int z]) (rest := [.ref (b + 119)]) X hP hS hlt0 hE0 rfl (knoMachX l D C b n E z (by omega)) wq5_157 wq5_159 wqP2_15 wq1_8 wq5_160 (by decide) (by rw [hRe]; exact ⟨Nat.le_of_ble_eq_true rfl, Nat.le_of_ble_eq_true rfl⟩) rfl hl.1 rfl (Nat.le_of_ble_eq_true rfl) (Nat.zero_le _) (Nat.zero_le _) dX7_either_19 (fun r3 E3 H locs hw hP hS => ?_)
  obtain ⟨hrt, hEe⟩ := hw
  subst hrt
  subst hEe
  refine wm_ifz_eq (x := true) (tgt := 29) X dX7_either_22 (by decide) (fun h => by exfalso; revert h; decide) (fun _ => ?_)
  refine lv_iconst (v := nI 1) X.1 X.2.1 dX7_either_25 (by decide) ?_
  refine lv_goto (tgt := 30) X.1 X.2.1 dX7_either_26 (by decide) ?_
  refine wm_put (v := .int (nI 1)) X hP hS hlt0 hE0 rfl wm_inX7 tyX7 tyX7_ok nmX7 0 (by decide) wq5_22 rfl rfl rfl (fs1 := [.int (nI 1), .ref (b + 120), .int (nI sz), .int (nI fa), .int (nI pl), .ref (b + 121), .ref (b + 122), .ref (b + 123), .ref (b + 124), .ref (b + 125), .ref (b + 126), .ref (b + 127), .int (nI ats), .int (nI aa), .ref (b + 128), .ref (b + 129), .ref (b + 130), .ref (b + 131), .ref (b + 132), .ref (b + 133), .int (nI op), .int (nI be.toNat), .int (nI fi), .int (nI la), .ref (b + 134), .ref (b + 135), .ref (b + 136), .int (nI wa), .ref (b + 137), .ref (b + 138), .ref (b + 139), .int (nI wc), .ref (b + 140), .int (nI kl), .ref (b + 141), .ref (b + 142), .ref (b + 143), .ref (b + 144), .ref (b + 145)]) rfl (Nat.le_of_ble_eq_true rfl) dX7_either_30 (fun H locs E4 hP hS hE0 hq => ?_)
  have hfr : ∀ j, j ≠ 119 → E4 j = E j := fun j h0 => (hq j h0).trans (hfr j h0)
  refine lv_aload_n X.1 X.2.1 dX7_either_33 rfl (lv_at hl 0 rfl) ?_
  refine wm_get X hP hlt0 hE0 rfl wm_inX7 0 (by decide) wq5_22 rfl dX7_either_34 ?_
  refine lv_if_le (tgt := 42) X.1 X.2.1 dX7_either_37 (by decide) (fun h => by exfalso; revert h; decide) (fun _ => ?_)
  refine lv_iconst (v := nI 0) X.1 X.2.1 dX7_either_40 (by decide) ?_
  exact wm_iret (post := pmeitherZ C b E th sz fa pl ats aa op fi la wa wc kl be k i z) X hr hP hS ⟨rfl, hE0, hfr⟩ hQ dX7_either_41
def pmbothX (C : Nat → ClassId) (b : Nat) (E : Nat → va_E) (th sz fa pl ats aa op fi la wa wc kl : Nat) (be : Bool) (x y z : Int32) : Int32 → (Nat → va_E) → Prop := fun r E' => r = nI 0 ∧ E' 119 = .inr (7, [.int (nI 1), .ref (b + 120), .int (nI sz), .int (nI fa), .int (nI pl), .ref (b + 121), .ref (b + 122), .ref (b + 123), .ref (b + 124), .ref (b + 125), .ref (b + 126), .ref (b + 127), .int (nI ats), .int (nI aa), .ref (b + 128), .ref (b + 129), .ref (b + 130), .ref (b + 131), .ref (b + 132), .ref (b + 133), .int (nI op), .int (nI be.toNat), .int (nI fi), .int (nI la), .ref (b + 134), .ref (b + 135), .ref (b + 136), .int (nI wa), .ref (b + 137), .ref (b + 138), .ref (b + 139), .int (nI wc), .ref (b + 140), .int (nI kl), .ref (b + 141), .ref (b + 142), .ref (b + 143), .ref (b + 144), .ref (b + 145)]) ∧ (∀ j, j ≠ 119 → E' j = E j)
set_option maxHeartbeats 4000000 in
set_option maxRecDepth 100000 in
theorem kmbothX (l : Launch) (D : va_G) (C : Nat → ClassId) (b n : Nat) (E : Nat → va_E) (th sz fa pl ats aa op fi la wa wc kl : Nat) (be : Bool) (x y z : Int32) (hlt0 : 119 < n) (hE0 : E 119 = .inr (7, [.int (nI th), .ref (b + 120), .int (nI sz), .int (nI fa), .int (nI pl), .ref (b + 121), .ref (b + 122), .ref (b + 123), .ref (b + 124), .ref (b + 125), .ref (b + 126), .ref (b + 127), .int (nI ats), .int (nI aa), .ref (b + 128), .ref (b + 129), .ref (b + 130), .ref (b + 131), .ref (b + 132), .ref (b + 133), .int (nI op), .int (nI be.toNat), .int (nI fi), .int (nI la), .ref (b + 134), .ref (b + 135), .ref (b + 136), .int (nI wa), .ref (b + 137), .ref (b + 138), .ref (b + 139), .int (nI wc), .ref (b + 140), .int (nI kl), .ref (b + 141), .ref (b + 142), .ref (b + 143), .ref (b + 144), .ref (b + 145)])) (hk : ¬ (0 ≤ x ∧ x < nI 8)) : Met l yX7_both (wm_ws yX7_both cX7_both 8 (some .int)) { frames := 1, cells := 0, slots := 0, locals := 21 } (va_Pc [.ref (b + 119), .int x, .int y, .int z] (wm_G D C b n E)) (va_Qi (pmbothX C b E th sz fa pl ats aa op fi la wa wc kl be x y z) (fun E' t => wm_P D b n E' t.heap) (wm_A b)) 0 0 (wm_A b) := by
  refine wm_ofW (by decide) (Nat.le_of_ble_eq_true rfl) (fun p e s m below meth c ls R args Q hRe hQ X hr hnm hP hS hl => ?_)
  have hl : lv_has ls 8 [(0, .ref (b + 119)), (1, .int x), (2, .int y), (3, .int z)] := hl
  have hfr : ∀ j, j ≠ 119 → E j = E j := fun _ _ => rfl
  refine lv_aload_n X.1 X.2.1 dX7_both_0 rfl (lv_at hl 0 rfl) ?_
  refine lv_aload_n X.1 X.2.1 dX7_both_1 rfl (lv_at hl 0 rfl) ?_
  refine lv_iload_n X.1 X.2.1 dX7_both_2 rfl (lv_at hl 1 rfl) ?_
  refine wm_callVi (k := 1) (As := [.int x]) (rest := [.ref (b + 119)]) X hP hS hlt0 hE0 rfl (knoMachX l D C b n E x (by omega)) wq5_157 wq5_159 wqP2_15 wq1_8 wq5_160 (by decide) (by rw [hRe]; exact ⟨Nat.le_of_ble_eq_true rfl, Nat.le_of_ble_eq_true rfl⟩) rfl hl.1 rfl (Nat.le_of_ble_eq_true rfl) (Nat.zero_le _) (Nat.zero_le _) dX7_both_3 (fun r1 E1 H locs hw hP hS => ?_)
  obtain ⟨hrt, hEe⟩ := hw
  subst hrt
  subst hEe
  refine wm_ifz_ne (x := true) (tgt := 25) X dX7_both_6 (by decide) (fun _ => ?_) (fun h => by exfalso; revert h; decide)
  refine lv_iconst (v := nI 1) X.1 X.2.1 dX7_both_25 (by decide) ?_
  refine lv_goto (tgt := 30) X.1 X.2.1 dX7_both_26 (by decide) ?_
  refine wm_put (v := .int (nI 1)) X hP hS hlt0 hE0 rfl wm_inX7 tyX7 tyX7_ok nmX7 0 (by decide) wq5_22 rfl rfl rfl (fs1 := [.int (nI 1), .ref (b + 120), .int (nI sz), .int (nI fa), .int (nI pl), .ref (b + 121), .ref (b + 122), .ref (b + 123), .ref (b + 124), .ref (b + 125), .ref (b + 126), .ref (b + 127), .int (nI ats), .int (nI aa), .ref (b + 128), .ref (b + 129), .ref (b + 130), .ref (b + 131), .ref (b + 132), .ref (b + 133), .int (nI op), .int (nI be.toNat), .int (nI fi), .int (nI la), .ref (b + 134), .ref (b + 135), .ref (b + 136), .int (nI wa), .ref (b + 137), .ref (b + 138), .ref (b + 139), .int (nI wc), .ref (b + 140), .int (nI kl), .ref (b + 141), .ref (b + 142), .ref (b + 143), .ref (b + 144), .ref (b + 145)]) rfl (Nat.le_of_ble_eq_true rfl) dX7_both_30 (fun H locs E2 hP hS hE0 hq => ?_)
  have hfr : ∀ j, j ≠ 119 → E2 j = E j := fun j h0 => (hq j h0).trans (hfr j h0)
  refine lv_aload_n X.1 X.2.1 dX7_both_33 rfl (lv_at hl 0 rfl) ?_
  refine wm_get X hP hlt0 hE0 rfl wm_inX7 0 (by decide) wq5_22 rfl dX7_both_34 ?_
  refine lv_if_le (tgt := 42) X.1 X.2.1 dX7_both_37 (by decide) (fun h => by exfalso; revert h; decide) (fun _ => ?_)
  refine lv_iconst (v := nI 0) X.1 X.2.1 dX7_both_40 (by decide) ?_
  exact wm_iret (post := pmbothX C b E th sz fa pl ats aa op fi la wa wc kl be x y z) X hr hP hS ⟨rfl, hE0, hfr⟩ hQ dX7_both_41
def pmbothY (C : Nat → ClassId) (b : Nat) (E : Nat → va_E) (th sz fa pl ats aa op fi la wa wc kl : Nat) (be : Bool) (k : Nat) (y z : Int32) : Int32 → (Nat → va_E) → Prop := fun r E' => r = nI 0 ∧ E' 119 = .inr (7, [.int (nI 1), .ref (b + 120), .int (nI sz), .int (nI fa), .int (nI pl), .ref (b + 121), .ref (b + 122), .ref (b + 123), .ref (b + 124), .ref (b + 125), .ref (b + 126), .ref (b + 127), .int (nI ats), .int (nI aa), .ref (b + 128), .ref (b + 129), .ref (b + 130), .ref (b + 131), .ref (b + 132), .ref (b + 133), .int (nI op), .int (nI be.toNat), .int (nI fi), .int (nI la), .ref (b + 134), .ref (b + 135), .ref (b + 136), .int (nI wa), .ref (b + 137), .ref (b + 138), .ref (b + 139), .int (nI wc), .ref (b + 140), .int (nI kl), .ref (b + 141), .ref (b + 142), .ref (b + 143), .ref (b + 144), .ref (b + 145)]) ∧ (∀ j, j ≠ 119 → E' j = E j)
set_option maxHeartbeats 4000000 in
set_option maxRecDepth 100000 in
theorem kmbothY (l : Launch) (D : va_G) (C : Nat → ClassId) (b n : Nat) (E : Nat → va_E) (th sz fa pl ats aa op fi la wa wc kl : Nat) (be : Bool) (k : Nat) (y z : Int32) (hlt0 : 119 < n) (hE0 : E 119 = .inr (7, [.int (nI th), .ref (b + 120), .int (nI sz), .int (nI fa), .int (nI pl), .ref (b + 121), .ref (b + 122), .ref (b + 123), .ref (b + 124), .ref (b + 125), .ref (b + 126), .ref (b + 127), .int (nI ats), .int (nI aa), .ref (b + 128), .ref (b + 129), .ref (b + 130), .ref (b + 131), .ref (b + 132), .ref (b + 133), .int (nI op), .int (nI be.toNat), .int (nI fi), .int (nI la), .ref (b + 134), .ref (b + 135), .ref (b + 136), .int (nI wa), .ref (b + 137), .ref (b + 138), .ref (b + 139), .int (nI wc), .ref (b + 140), .int (nI kl), .ref (b + 141), .ref (b + 142), .ref (b + 143), .ref (b + 144), .ref (b + 145)])) (hkk : k < 8) (hk : ¬ (0 ≤ y ∧ y < nI 8)) : Met l yX7_both (wm_ws yX7_both cX7_both 8 (some .int)) { frames := 1, cells := 0, slots := 0, locals := 21 } (va_Pc [.ref (b + 119), .int (nI k), .int y, .int z] (wm_G D C b n E)) (va_Qi (pmbothY C b E th sz fa pl ats aa op fi la wa wc kl be k y z) (fun E' t => wm_P D b n E' t.heap) (wm_A b)) 0 0 (wm_A b) := by
  refine wm_ofW (by decide) (Nat.le_of_ble_eq_true rfl) (fun p e s m below meth c ls R args Q hRe hQ X hr hnm hP hS hl => ?_)
  have hl : lv_has ls 8 [(0, .ref (b + 119)), (1, .int (nI k)), (2, .int y), (3, .int z)] := hl
  have hfr : ∀ j, j ≠ 119 → E j = E j := fun _ _ => rfl
  refine lv_aload_n X.1 X.2.1 dX7_both_0 rfl (lv_at hl 0 rfl) ?_
  refine lv_aload_n X.1 X.2.1 dX7_both_1 rfl (lv_at hl 0 rfl) ?_
  refine lv_iload_n X.1 X.2.1 dX7_both_2 rfl (lv_at hl 1 rfl) ?_
  refine wm_callVi (k := 1) (As := [.int (nI k)]) (rest := [.ref (b + 119)]) X hP hS hlt0 hE0 rfl (knoMach l D C b n E k (by omega)) wq5_157 wq5_159 wqP2_15 wq1_8 wq5_160 (by decide) (by rw [hRe]; exact ⟨Nat.le_of_ble_eq_true rfl, Nat.le_of_ble_eq_true rfl⟩) rfl hl.1 rfl (Nat.le_of_ble_eq_true rfl) (Nat.zero_le _) (Nat.zero_le _) dX7_both_3 (fun r1 E1 H locs hw hP hS => ?_)
  obtain ⟨hrt, hEe⟩ := hw
  subst hrt
  subst hEe
  refine wm_ifz_ne (x := false) (tgt := 25) X dX7_both_6 (by decide) (fun h => by exfalso; revert h; decide) (fun _ => ?_)
  refine lv_aload_n X.1 X.2.1 dX7_both_9 rfl (lv_at hl 0 rfl) ?_
  refine lv_iload_n X.1 X.2.1 dX7_both_10 rfl (lv_at hl 2 rfl) ?_
  refine wm_callVi (k := 1) (As := [.int y]) (rest := [.ref (b + 119)]) X hP hS hlt0 hE0 rfl (knoMachX l D C b n E y (by omega)) wq5_157 wq5_159 wqP2_15 wq1_8 wq5_160 (by decide) (by rw [hRe]; exact ⟨Nat.le_of_ble_eq_true rfl, Nat.le_of_ble_eq_true rfl⟩) rfl hl.1 rfl (Nat.le_of_ble_eq_true rfl) (Nat.zero_le _) (Nat.zero_le _) dX7_both_11 (fun r2 E2 H locs hw hP hS => ?_)
  obtain ⟨hrt, hEe⟩ := hw
  subst hrt
  subst hEe
  refine wm_ifz_ne (x := true) (tgt := 25) X dX7_both_14 (by decide) (fun _ => ?_) (fun h => by exfalso; revert h; decide)
  refine lv_iconst (v := nI 1) X.1 X.2.1 dX7_both_25 (by decide) ?_
  refine lv_goto (tgt := 30) X.1 X.2.1 dX7_both_26 (by decide) ?_
  refine wm_put (v := .int (nI 1)) X hP hS hlt0 hE0 rfl wm_inX7 tyX7 tyX7_ok nmX7 0 (by decide) wq5_22 rfl rfl rfl (fs1 := [.int (nI 1), .ref (b + 120), .int (nI sz), .int (nI fa), .int (nI pl), .ref (b + 121), .ref (b + 122), .ref (b + 123), .ref (b + 124), .ref (b + 125), .ref (b + 126), .ref (b + 127), .int (nI ats), .int (nI aa), .ref (b + 128), .ref (b + 129), .ref (b + 130), .ref (b + 131), .ref (b + 132), .ref (b + 133), .int (nI op), .int (nI be.toNat), .int (nI fi), .int (nI la), .ref (b + 134), .ref (b + 135), .ref (b + 136), .int (nI wa), .ref (b + 137), .ref (b + 138), .ref (b + 139), .int (nI wc), .ref (b + 140), .int (nI kl), .ref (b + 141), .ref (b + 142), .ref (b + 143), .ref (b + 144), .ref (b + 145)]) rfl (Nat.le_of_ble_eq_true rfl) dX7_both_30 (fun H locs E3 hP hS hE0 hq => ?_)
  have hfr : ∀ j, j ≠ 119 → E3 j = E j := fun j h0 => (hq j h0).trans (hfr j h0)
  refine lv_aload_n X.1 X.2.1 dX7_both_33 rfl (lv_at hl 0 rfl) ?_
  refine wm_get X hP hlt0 hE0 rfl wm_inX7 0 (by decide) wq5_22 rfl dX7_both_34 ?_
  refine lv_if_le (tgt := 42) X.1 X.2.1 dX7_both_37 (by decide) (fun h => by exfalso; revert h; decide) (fun _ => ?_)
  refine lv_iconst (v := nI 0) X.1 X.2.1 dX7_both_40 (by decide) ?_
  exact wm_iret (post := pmbothY C b E th sz fa pl ats aa op fi la wa wc kl be k y z) X hr hP hS ⟨rfl, hE0, hfr⟩ hQ dX7_both_41
def pmbothZ (C : Nat → ClassId) (b : Nat) (E : Nat → va_E) (th sz fa pl ats aa op fi la wa wc kl : Nat) (be : Bool) (k i : Nat) (z : Int32) : Int32 → (Nat → va_E) → Prop := fun r E' => r = nI 0 ∧ E' 119 = .inr (7, [.int (nI 1), .ref (b + 120), .int (nI sz), .int (nI fa), .int (nI pl), .ref (b + 121), .ref (b + 122), .ref (b + 123), .ref (b + 124), .ref (b + 125), .ref (b + 126), .ref (b + 127), .int (nI ats), .int (nI aa), .ref (b + 128), .ref (b + 129), .ref (b + 130), .ref (b + 131), .ref (b + 132), .ref (b + 133), .int (nI op), .int (nI be.toNat), .int (nI fi), .int (nI la), .ref (b + 134), .ref (b + 135), .ref (b + 136), .int (nI wa), .ref (b + 137), .ref (b + 138), .ref (b + 139), .int (nI wc), .ref (b + 140), .int (nI kl), .ref (b + 141), .ref (b + 142), .ref (b + 143), .ref (b + 144), .ref (b + 145)]) ∧ (∀ j, j ≠ 119 → E' j = E j)
set_option maxHeartbeats 4000000 in
set_option maxRecDepth 100000 in
theorem kmbothZ (l : Launch) (D : va_G) (C : Nat → ClassId) (b n : Nat) (E : Nat → va_E) (th sz fa pl ats aa op fi la wa wc kl : Nat) (be : Bool) (k i : Nat) (z : Int32) (hlt0 : 119 < n) (hE0 : E 119 = .inr (7, [.int (nI th), .ref (b + 120), .int (nI sz), .int (nI fa), .int (nI pl), .ref (b + 121), .ref (b + 122), .ref (b + 123), .ref (b + 124), .ref (b + 125), .ref (b + 126), .ref (b + 127), .int (nI ats), .int (nI aa), .ref (b + 128), .ref (b + 129), .ref (b + 130), .ref (b + 131), .ref (b + 132), .ref (b + 133), .int (nI op), .int (nI be.toNat), .int (nI fi), .int (nI la), .ref (b + 134), .ref (b + 135), .ref (b + 136), .int (nI wa), .ref (b + 137), .ref (b + 138), .ref (b + 139), .int (nI wc), .ref (b + 140), .int (nI kl), .ref (b + 141), .ref (b + 142), .ref (b + 143), .ref (b + 144), .ref (b + 145)])) (hkk : k < 8) (hii : i < 8) (hk : ¬ (0 ≤ z ∧ z < nI 8)) : Met l yX7_both (wm_ws yX7_both cX7_both 8 (some .int)) { frames := 1, cells := 0, slots := 0, locals := 21 } (va_Pc [.ref (b + 119), .int (nI k), .int (nI i), .int z] (wm_G D C b n E)) (va_Qi (pmbothZ C b E th sz fa pl ats aa op fi la wa wc kl be k i z) (fun E' t => wm_P D b n E' t.heap) (wm_A b)) 0 0 (wm_A b) := by
  refine wm_ofW (by decide) (Nat.le_of_ble_eq_true rfl) (fun p e s m below meth c ls R args Q hRe hQ X hr hnm hP hS hl => ?_)
  have hl : lv_has ls 8 [(0, .ref (b + 119)), (1, .int (nI k)), (2, .int (nI i)), (3, .int z)] := hl
  have hfr : ∀ j, j ≠ 119 → E j = E j := fun _ _ => rfl
  refine lv_aload_n X.1 X.2.1 dX7_both_0 rfl (lv_at hl 0 rfl) ?_
  refine lv_aload_n X.1 X.2.1 dX7_both_1 rfl (lv_at hl 0 rfl) ?_
  refine lv_iload_n X.1 X.2.1 dX7_both_2 rfl (lv_at hl 1 rfl) ?_
  refine wm_callVi (k := 1) (As := [.int (nI k)]) (rest := [.ref (b + 119)]) X hP hS hlt0 hE0 rfl (knoMach l D C b n E k (by omega)) wq5_157 wq5_159 wqP2_15 wq1_8 wq5_160 (by decide) (by rw [hRe]; exact ⟨Nat.le_of_ble_eq_true rfl, Nat.le_of_ble_eq_true rfl⟩) rfl hl.1 rfl (Nat.le_of_ble_eq_true rfl) (Nat.zero_le _) (Nat.zero_le _) dX7_both_3 (fun r1 E1 H locs hw hP hS => ?_)
  obtain ⟨hrt, hEe⟩ := hw
  subst hrt
  subst hEe
  refine wm_ifz_ne (x := false) (tgt := 25) X dX7_both_6 (by decide) (fun h => by exfalso; revert h; decide) (fun _ => ?_)
  refine lv_aload_n X.1 X.2.1 dX7_both_9 rfl (lv_at hl 0 rfl) ?_
  refine lv_iload_n X.1 X.2.1 dX7_both_10 rfl (lv_at hl 2 rfl) ?_
  refine wm_callVi (k := 1) (As := [.int (nI i)]) (rest := [.ref (b + 119)]) X hP hS hlt0 hE0 rfl (knoMach l D C b n E i (by omega)) wq5_157 wq5_159 wqP2_15 wq1_8 wq5_160 (by decide) (by rw [hRe]; exact ⟨Nat.le_of_ble_eq_true rfl, Nat.le_of_ble_eq_true rfl⟩) rfl hl.1 rfl (Nat.le_of_ble_eq_true rfl) (Nat.zero_le _) (Nat.zero_le _) dX7_both_11 (fun r2 E2 H locs hw hP hS => ?_)
  obtain ⟨hrt, hEe⟩ := hw
  subst hrt
  subst hEe
  refine wm_ifz_ne (x := false) (tgt := 25) X dX7_both_14 (by decide) (fun h => by exfalso; revert h; decide) (fun _ => ?_)
  refine lv_aload_n X.1 X.2.1 dX7_both_17 rfl (lv_at hl 0 rfl) ?_
  refine lv_iload_n X.1 X.2.1 dX7_both_18 rfl (lv_at hl 3 rfl) ?_
  refine wm_callVi (k := 1) (As := [.int z]) (rest := [.ref (b + 119)]) X hP hS hlt0 hE0 rfl (knoMachX l D C b n E z (by omega)) wq5_157 wq5_159 wqP2_15 wq1_8 wq5_160 (by decide) (by rw [hRe]; exact ⟨Nat.le_of_ble_eq_true rfl, Nat.le_of_ble_eq_true rfl⟩) rfl hl.1 rfl (Nat.le_of_ble_eq_true rfl) (Nat.zero_le _) (Nat.zero_le _) dX7_both_19 (fun r3 E3 H locs hw hP hS => ?_)
  obtain ⟨hrt, hEe⟩ := hw
  subst hrt
  subst hEe
  refine wm_ifz_eq (x := true) (tgt := 29) X dX7_both_22 (by decide) (fun h => by exfalso; revert h; decide) (fun _ => ?_)
  refine lv_iconst (v := nI 1) X.1 X.2.1 dX7_both_25 (by decide) ?_
  refine lv_goto (tgt := 30) X.1 X.2.1 dX7_both_26 (by decide) ?_
  refine wm_put (v := .int (nI 1)) X hP hS hlt0 hE0 rfl wm_inX7 tyX7 tyX7_ok nmX7 0 (by decide) wq5_22 rfl rfl rfl (fs1 := [.int (nI 1), .ref (b + 120), .int (nI sz), .int (nI fa), .int (nI pl), .ref (b + 121), .ref (b + 122), .ref (b + 123), .ref (b + 124), .ref (b + 125), .ref (b + 126), .ref (b + 127), .int (nI ats), .int (nI aa), .ref (b + 128), .ref (b + 129), .ref (b + 130), .ref (b + 131), .ref (b + 132), .ref (b + 133), .int (nI op), .int (nI be.toNat), .int (nI fi), .int (nI la), .ref (b + 134), .ref (b + 135), .ref (b + 136), .int (nI wa), .ref (b + 137), .ref (b + 138), .ref (b + 139), .int (nI wc), .ref (b + 140), .int (nI kl), .ref (b + 141), .ref (b + 142), .ref (b + 143), .ref (b + 144), .ref (b + 145)]) rfl (Nat.le_of_ble_eq_true rfl) dX7_both_30 (fun H locs E4 hP hS hE0 hq => ?_)
  have hfr : ∀ j, j ≠ 119 → E4 j = E j := fun j h0 => (hq j h0).trans (hfr j h0)
  refine lv_aload_n X.1 X.2.1 dX7_both_33 rfl (lv_at hl 0 rfl) ?_
  refine wm_get X hP hlt0 hE0 rfl wm_inX7 0 (by decide) wq5_22 rfl dX7_both_34 ?_
  refine lv_if_le (tgt := 42) X.1 X.2.1 dX7_both_37 (by decide) (fun h => by exfalso; revert h; decide) (fun _ => ?_)
  refine lv_iconst (v := nI 0) X.1 X.2.1 dX7_both_40 (by decide) ?_
  exact wm_iret (post := pmbothZ C b E th sz fa pl ats aa op fi la wa wc kl be k i z) X hr hP hS ⟨rfl, hE0, hfr⟩ hQ dX7_both_41
def pmeither0 (C : Nat → ClassId) (b : Nat) (E : Nat → va_E) (th sz fa pl ats aa op fi la wa wc kl : Nat) (be : Bool) (k i jj : Nat) (ss : Nat → Nat) : Int32 → (Nat → va_E) → Prop := fun r E' => r = nI 4294967295 ∧ E' 119 = .inr (7, [.int (nI 0), .ref (b + 120), .int (nI sz), .int (nI fa), .int (nI pl), .ref (b + 121), .ref (b + 122), .ref (b + 123), .ref (b + 124), .ref (b + 125), .ref (b + 126), .ref (b + 127), .int (nI ats), .int (nI aa), .ref (b + 128), .ref (b + 129), .ref (b + 130), .ref (b + 131), .ref (b + 132), .ref (b + 133), .int (nI op), .int (nI be.toNat), .int (nI fi), .int (nI la), .ref (b + 134), .ref (b + 135), .ref (b + 136), .int (nI wa), .ref (b + 137), .ref (b + 138), .ref (b + 139), .int (nI wc), .ref (b + 140), .int (nI kl), .ref (b + 141), .ref (b + 142), .ref (b + 143), .ref (b + 144), .ref (b + 145)]) ∧ (∀ j, j ≠ 119 → E' j = E j)
set_option maxHeartbeats 4000000 in
set_option maxRecDepth 100000 in
theorem kmeither0 (l : Launch) (D : va_G) (C : Nat → ClassId) (b n : Nat) (E : Nat → va_E) (th sz fa pl ats aa op fi la wa wc kl : Nat) (be : Bool) (k i jj : Nat) (ss : Nat → Nat) (hlt0 : 119 < n) (hE0 : E 119 = .inr (7, [.int (nI th), .ref (b + 120), .int (nI sz), .int (nI fa), .int (nI pl), .ref (b + 121), .ref (b + 122), .ref (b + 123), .ref (b + 124), .ref (b + 125), .ref (b + 126), .ref (b + 127), .int (nI ats), .int (nI aa), .ref (b + 128), .ref (b + 129), .ref (b + 130), .ref (b + 131), .ref (b + 132), .ref (b + 133), .int (nI op), .int (nI be.toNat), .int (nI fi), .int (nI la), .ref (b + 134), .ref (b + 135), .ref (b + 136), .int (nI wa), .ref (b + 137), .ref (b + 138), .ref (b + 139), .int (nI wc), .ref (b + 140), .int (nI kl), .ref (b + 141), .ref (b + 142), .ref (b + 143), .ref (b + 144), .ref (b + 145)])) (hlt1 : 122 < n) (hE1 : E 122 = wm_I C 8 ss) (hkk : k < 8) (hii : i < 8) (hjj : jj < 8) (hsi : ss i ≤ 24) (hsj : ss jj ≤ 24) (hb : 24 < ss i + ss jj) : Met l yX7_either (wm_ws yX7_either cX7_either 8 (some .int)) { frames := 1, cells := 0, slots := 0, locals := 21 } (va_Pc [.ref (b + 119), .int (nI k), .int (nI i), .int (nI jj)] (wm_G D C b n E)) (va_Qi (pmeither0 C b E th sz fa pl ats aa op fi la wa wc kl be k i jj ss) (fun E' t => wm_P D b n E' t.heap) (wm_A b)) 0 0 (wm_A b) := by
  refine wm_ofW (by decide) (Nat.le_of_ble_eq_true rfl) (fun p e s m below meth c ls R args Q hRe hQ X hr hnm hP hS hl => ?_)
  have hl : lv_has ls 8 [(0, .ref (b + 119)), (1, .int (nI k)), (2, .int (nI i)), (3, .int (nI jj))] := hl
  have hfr : ∀ j, j ≠ 119 → E j = E j := fun _ _ => rfl
  refine lv_aload_n X.1 X.2.1 dX7_either_0 rfl (lv_at hl 0 rfl) ?_
  refine lv_aload_n X.1 X.2.1 dX7_either_1 rfl (lv_at hl 0 rfl) ?_
  refine lv_iload_n X.1 X.2.1 dX7_either_2 rfl (lv_at hl 1 rfl) ?_
  refine wm_callVi (k := 1) (As := [.int (nI k)]) (rest := [.ref (b + 119)]) X hP hS hlt0 hE0 rfl (knoMach l D C b n E k (by omega)) wq5_157 wq5_159 wqP2_15 wq1_8 wq5_160 (by decide) (by rw [hRe]; exact ⟨Nat.le_of_ble_eq_true rfl, Nat.le_of_ble_eq_true rfl⟩) rfl hl.1 rfl (Nat.le_of_ble_eq_true rfl) (Nat.zero_le _) (Nat.zero_le _) dX7_either_3 (fun r1 E1 H locs hw hP hS => ?_)
  obtain ⟨hrt, hEe⟩ := hw
  subst hrt
  subst hEe
  refine wm_ifz_ne (x := false) (tgt := 25) X dX7_either_6 (by decide) (fun h => by exfalso; revert h; decide) (fun _ => ?_)
  refine lv_aload_n X.1 X.2.1 dX7_either_9 rfl (lv_at hl 0 rfl) ?_
  refine lv_iload_n X.1 X.2.1 dX7_either_10 rfl (lv_at hl 2 rfl) ?_
  refine wm_callVi (k := 1) (As := [.int (nI i)]) (rest := [.ref (b + 119)]) X hP hS hlt0 hE0 rfl (knoMach l D C b n E i (by omega)) wq5_157 wq5_159 wqP2_15 wq1_8 wq5_160 (by decide) (by rw [hRe]; exact ⟨Nat.le_of_ble_eq_true rfl, Nat.le_of_ble_eq_true rfl⟩) rfl hl.1 rfl (Nat.le_of_ble_eq_true rfl) (Nat.zero_le _) (Nat.zero_le _) dX7_either_11 (fun r2 E2 H locs hw hP hS => ?_)
  obtain ⟨hrt, hEe⟩ := hw
  subst hrt
  subst hEe
  refine wm_ifz_ne (x := false) (tgt := 25) X dX7_either_14 (by decide) (fun h => by exfalso; revert h; decide) (fun _ => ?_)
  refine lv_aload_n X.1 X.2.1 dX7_either_17 rfl (lv_at hl 0 rfl) ?_
  refine lv_iload_n X.1 X.2.1 dX7_either_18 rfl (lv_at hl 3 rfl) ?_
  refine wm_callVi (k := 1) (As := [.int (nI jj)]) (rest := [.ref (b + 119)]) X hP hS hlt0 hE0 rfl (knoMach l D C b n E jj (by omega)) wq5_157 wq5_159 wqP2_15 wq1_8 wq5_160 (by decide) (by rw [hRe]; exact ⟨Nat.le_of_ble_eq_true rfl, Nat.le_of_ble_eq_true rfl⟩) rfl hl.1 rfl (Nat.le_of_ble_eq_true rfl) (Nat.zero_le _) (Nat.zero_le _) dX7_either_19 (fun r3 E3 H locs hw hP hS => ?_)
  obtain ⟨hrt, hEe⟩ := hw
  subst hrt
  subst hEe
  refine wm_ifz_eq (x := false) (tgt := 29) X dX7_either_22 (by decide) (fun _ => ?_) (fun h => by exfalso; revert h; decide)
  refine lv_iconst (v := nI 0) X.1 X.2.1 dX7_either_29 (by decide) ?_
  refine wm_put (v := .int (nI 0)) X hP hS hlt0 hE0 rfl wm_inX7 tyX7 tyX7_ok nmX7 0 (by decide) wq5_22 rfl rfl rfl (fs1 := [.int (nI 0), .ref (b + 120), .int (nI sz), .int (nI fa), .int (nI pl), .ref (b + 121), .ref (b + 122), .ref (b + 123), .ref (b + 124), .ref (b + 125), .ref (b + 126), .ref (b + 127), .int (nI ats), .int (nI aa), .ref (b + 128), .ref (b + 129), .ref (b + 130), .ref (b + 131), .ref (b + 132), .ref (b + 133), .int (nI op), .int (nI be.toNat), .int (nI fi), .int (nI la), .ref (b + 134), .ref (b + 135), .ref (b + 136), .int (nI wa), .ref (b + 137), .ref (b + 138), .ref (b + 139), .int (nI wc), .ref (b + 140), .int (nI kl), .ref (b + 141), .ref (b + 142), .ref (b + 143), .ref (b + 144), .ref (b + 145)]) rfl (Nat.le_of_ble_eq_true rfl) dX7_either_30 (fun H locs E4 hP hS hE0 hq => ?_)
  have hE1 := (hq 122 (by decide)).trans hE1
  have hfr : ∀ j, j ≠ 119 → E4 j = E j := fun j h0 => (hq j h0).trans (hfr j h0)
  refine lv_aload_n X.1 X.2.1 dX7_either_33 rfl (lv_at hl 0 rfl) ?_
  refine wm_get X hP hlt0 hE0 rfl wm_inX7 0 (by decide) wq5_22 rfl dX7_either_34 ?_
  refine lv_if_le (tgt := 42) X.1 X.2.1 dX7_either_37 (by decide) (fun _ => ?_) (fun h => by exfalso; revert h; decide)
  refine lv_aload_n X.1 X.2.1 dX7_either_42 rfl (lv_at hl 0 rfl) ?_
  refine wm_get X hP hlt0 hE0 rfl wm_inX7 6 (by decide) wq5_28 rfl dX7_either_43 ?_
  refine lv_iload_n X.1 X.2.1 dX7_either_46 rfl (lv_at hl 2 rfl) ?_
  refine wm_iald (i := i) X hP hlt1 hE1 (by omega) (by decide) dX7_either_47 ?_
  refine lv_istore (lv' := [(4, .int (nI (ss i))), (0, .ref (b + 119)), (1, .int (nI k)), (2, .int (nI i)), (3, .int (nI jj))]) X.1 X.2.1 dX7_either_48 hl (by decide) rfl (fun ls hl => ?_)
  refine lv_iload X.1 X.2.1 dX7_either_50 (lv_at hl 0 rfl) ?_
  refine lv_aload_n X.1 X.2.1 dX7_either_52 rfl (lv_at hl 1 rfl) ?_
  refine wm_get X hP hlt0 hE0 rfl wm_inX7 6 (by decide) wq5_28 rfl dX7_either_53 ?_
  refine lv_iload_n X.1 X.2.1 dX7_either_56 rfl (lv_at hl 4 rfl) ?_
  refine wm_iald (i := jj) X hP hlt1 hE1 (by omega) (by decide) dX7_either_57 ?_
  refine wm_iadd (x := (ss i)) (y := (ss jj)) X dX7_either_58 ?_
  refine lv_istore (lv' := [(5, .int (nI ((ss i) + (ss jj)))), (4, .int (nI (ss i))), (0, .ref (b + 119)), (1, .int (nI k)), (2, .int (nI i)), (3, .int (nI jj))]) X.1 X.2.1 dX7_either_59 hl (by decide) rfl (fun ls hl => ?_)
  refine lv_iload X.1 X.2.1 dX7_either_61 (lv_at hl 0 rfl) ?_
  refine lv_bipush (v := nI 24) X.1 X.2.1 dX7_either_63 (by decide) ?_
  refine wm_icmp_le (x := ((ss i) + (ss jj))) (y := 24) (tgt := 70) X (by omega) (by decide) dX7_either_65 (by decide) (fun hc65 => ?_) (fun hc65 => ?_)
  · exact absurd hc65 (by omega)
  · refine lv_iconst (v := nI 4294967295) X.1 X.2.1 dX7_either_68 (by decide) ?_
    exact wm_iret (post := pmeither0 C b E th sz fa pl ats aa op fi la wa wc kl be k i jj ss) X hr hP hS ⟨rfl, hE0, hfr⟩ hQ dX7_either_69
def pmboth0 (C : Nat → ClassId) (b : Nat) (E : Nat → va_E) (th sz fa pl ats aa op fi la wa wc kl : Nat) (be : Bool) (k i jj : Nat) (ss : Nat → Nat) : Int32 → (Nat → va_E) → Prop := fun r E' => r = nI 4294967295 ∧ E' 119 = .inr (7, [.int (nI 0), .ref (b + 120), .int (nI sz), .int (nI fa), .int (nI pl), .ref (b + 121), .ref (b + 122), .ref (b + 123), .ref (b + 124), .ref (b + 125), .ref (b + 126), .ref (b + 127), .int (nI ats), .int (nI aa), .ref (b + 128), .ref (b + 129), .ref (b + 130), .ref (b + 131), .ref (b + 132), .ref (b + 133), .int (nI op), .int (nI be.toNat), .int (nI fi), .int (nI la), .ref (b + 134), .ref (b + 135), .ref (b + 136), .int (nI wa), .ref (b + 137), .ref (b + 138), .ref (b + 139), .int (nI wc), .ref (b + 140), .int (nI kl), .ref (b + 141), .ref (b + 142), .ref (b + 143), .ref (b + 144), .ref (b + 145)]) ∧ (∀ j, j ≠ 119 → E' j = E j)
set_option maxHeartbeats 4000000 in
set_option maxRecDepth 100000 in
theorem kmboth0 (l : Launch) (D : va_G) (C : Nat → ClassId) (b n : Nat) (E : Nat → va_E) (th sz fa pl ats aa op fi la wa wc kl : Nat) (be : Bool) (k i jj : Nat) (ss : Nat → Nat) (hlt0 : 119 < n) (hE0 : E 119 = .inr (7, [.int (nI th), .ref (b + 120), .int (nI sz), .int (nI fa), .int (nI pl), .ref (b + 121), .ref (b + 122), .ref (b + 123), .ref (b + 124), .ref (b + 125), .ref (b + 126), .ref (b + 127), .int (nI ats), .int (nI aa), .ref (b + 128), .ref (b + 129), .ref (b + 130), .ref (b + 131), .ref (b + 132), .ref (b + 133), .int (nI op), .int (nI be.toNat), .int (nI fi), .int (nI la), .ref (b + 134), .ref (b + 135), .ref (b + 136), .int (nI wa), .ref (b + 137), .ref (b + 138), .ref (b + 139), .int (nI wc), .ref (b + 140), .int (nI kl), .ref (b + 141), .ref (b + 142), .ref (b + 143), .ref (b + 144), .ref (b + 145)])) (hlt1 : 122 < n) (hE1 : E 122 = wm_I C 8 ss) (hkk : k < 8) (hii : i < 8) (hjj : jj < 8) (hsi : ss i ≤ 24) (hsj : ss jj ≤ 24) (hb : 24 < ss i * ss jj) (hb2 : ss i * ss jj < 2 ^ 31) : Met l yX7_both (wm_ws yX7_both cX7_both 8 (some .int)) { frames := 1, cells := 0, slots := 0, locals := 21 } (va_Pc [.ref (b + 119), .int (nI k), .int (nI i), .int (nI jj)] (wm_G D C b n E)) (va_Qi (pmboth0 C b E th sz fa pl ats aa op fi la wa wc kl be k i jj ss) (fun E' t => wm_P D b n E' t.heap) (wm_A b)) 0 0 (wm_A b) := by
  refine wm_ofW (by decide) (Nat.le_of_ble_eq_true rfl) (fun p e s m below meth c ls R args Q hRe hQ X hr hnm hP hS hl => ?_)
  have hl : lv_has ls 8 [(0, .ref (b + 119)), (1, .int (nI k)), (2, .int (nI i)), (3, .int (nI jj))] := hl
  have hfr : ∀ j, j ≠ 119 → E j = E j := fun _ _ => rfl
  refine lv_aload_n X.1 X.2.1 dX7_both_0 rfl (lv_at hl 0 rfl) ?_
  refine lv_aload_n X.1 X.2.1 dX7_both_1 rfl (lv_at hl 0 rfl) ?_
  refine lv_iload_n X.1 X.2.1 dX7_both_2 rfl (lv_at hl 1 rfl) ?_
  refine wm_callVi (k := 1) (As := [.int (nI k)]) (rest := [.ref (b + 119)]) X hP hS hlt0 hE0 rfl (knoMach l D C b n E k (by omega)) wq5_157 wq5_159 wqP2_15 wq1_8 wq5_160 (by decide) (by rw [hRe]; exact ⟨Nat.le_of_ble_eq_true rfl, Nat.le_of_ble_eq_true rfl⟩) rfl hl.1 rfl (Nat.le_of_ble_eq_true rfl) (Nat.zero_le _) (Nat.zero_le _) dX7_both_3 (fun r1 E1 H locs hw hP hS => ?_)
  obtain ⟨hrt, hEe⟩ := hw
  subst hrt
  subst hEe
  refine wm_ifz_ne (x := false) (tgt := 25) X dX7_both_6 (by decide) (fun h => by exfalso; revert h; decide) (fun _ => ?_)
  refine lv_aload_n X.1 X.2.1 dX7_both_9 rfl (lv_at hl 0 rfl) ?_
  refine lv_iload_n X.1 X.2.1 dX7_both_10 rfl (lv_at hl 2 rfl) ?_
  refine wm_callVi (k := 1) (As := [.int (nI i)]) (rest := [.ref (b + 119)]) X hP hS hlt0 hE0 rfl (knoMach l D C b n E i (by omega)) wq5_157 wq5_159 wqP2_15 wq1_8 wq5_160 (by decide) (by rw [hRe]; exact ⟨Nat.le_of_ble_eq_true rfl, Nat.le_of_ble_eq_true rfl⟩) rfl hl.1 rfl (Nat.le_of_ble_eq_true rfl) (Nat.zero_le _) (Nat.zero_le _) dX7_both_11 (fun r2 E2 H locs hw hP hS => ?_)
  obtain ⟨hrt, hEe⟩ := hw
  subst hrt
  subst hEe
  refine wm_ifz_ne (x := false) (tgt := 25) X dX7_both_14 (by decide) (fun h => by exfalso; revert h; decide) (fun _ => ?_)
  refine lv_aload_n X.1 X.2.1 dX7_both_17 rfl (lv_at hl 0 rfl) ?_
  refine lv_iload_n X.1 X.2.1 dX7_both_18 rfl (lv_at hl 3 rfl) ?_
  refine wm_callVi (k := 1) (As := [.int (nI jj)]) (rest := [.ref (b + 119)]) X hP hS hlt0 hE0 rfl (knoMach l D C b n E jj (by omega)) wq5_157 wq5_159 wqP2_15 wq1_8 wq5_160 (by decide) (by rw [hRe]; exact ⟨Nat.le_of_ble_eq_true rfl, Nat.le_of_ble_eq_true rfl⟩) rfl hl.1 rfl (Nat.le_of_ble_eq_true rfl) (Nat.zero_le _) (Nat.zero_le _) dX7_both_19 (fun r3 E3 H locs hw hP hS => ?_)
  obtain ⟨hrt, hEe⟩ := hw
  subst hrt
  subst hEe
  refine wm_ifz_eq (x := false) (tgt := 29) X dX7_both_22 (by decide) (fun _ => ?_) (fun h => by exfalso; revert h; decide)
  refine lv_iconst (v := nI 0) X.1 X.2.1 dX7_both_29 (by decide) ?_
  refine wm_put (v := .int (nI 0)) X hP hS hlt0 hE0 rfl wm_inX7 tyX7 tyX7_ok nmX7 0 (by decide) wq5_22 rfl rfl rfl (fs1 := [.int (nI 0), .ref (b + 120), .int (nI sz), .int (nI fa), .int (nI pl), .ref (b + 121), .ref (b + 122), .ref (b + 123), .ref (b + 124), .ref (b + 125), .ref (b + 126), .ref (b + 127), .int (nI ats), .int (nI aa), .ref (b + 128), .ref (b + 129), .ref (b + 130), .ref (b + 131), .ref (b + 132), .ref (b + 133), .int (nI op), .int (nI be.toNat), .int (nI fi), .int (nI la), .ref (b + 134), .ref (b + 135), .ref (b + 136), .int (nI wa), .ref (b + 137), .ref (b + 138), .ref (b + 139), .int (nI wc), .ref (b + 140), .int (nI kl), .ref (b + 141), .ref (b + 142), .ref (b + 143), .ref (b + 144), .ref (b + 145)]) rfl (Nat.le_of_ble_eq_true rfl) dX7_both_30 (fun H locs E4 hP hS hE0 hq => ?_)
  have hE1 := (hq 122 (by decide)).trans hE1
  have hfr : ∀ j, j ≠ 119 → E4 j = E j := fun j h0 => (hq j h0).trans (hfr j h0)
  refine lv_aload_n X.1 X.2.1 dX7_both_33 rfl (lv_at hl 0 rfl) ?_
  refine wm_get X hP hlt0 hE0 rfl wm_inX7 0 (by decide) wq5_22 rfl dX7_both_34 ?_
  refine lv_if_le (tgt := 42) X.1 X.2.1 dX7_both_37 (by decide) (fun _ => ?_) (fun h => by exfalso; revert h; decide)
  refine lv_aload_n X.1 X.2.1 dX7_both_42 rfl (lv_at hl 0 rfl) ?_
  refine wm_get X hP hlt0 hE0 rfl wm_inX7 6 (by decide) wq5_28 rfl dX7_both_43 ?_
  refine lv_iload_n X.1 X.2.1 dX7_both_46 rfl (lv_at hl 3 rfl) ?_
  refine wm_iald (i := jj) X hP hlt1 hE1 (by omega) (by decide) dX7_both_47 ?_
  refine lv_istore (lv' := [(4, .int (nI (ss jj))), (0, .ref (b + 119)), (1, .int (nI k)), (2, .int (nI i)), (3, .int (nI jj))]) X.1 X.2.1 dX7_both_48 hl (by decide) rfl (fun ls hl => ?_)
  refine lv_aload_n X.1 X.2.1 dX7_both_50 rfl (lv_at hl 1 rfl) ?_
  refine wm_get X hP hlt0 hE0 rfl wm_inX7 6 (by decide) wq5_28 rfl dX7_both_51 ?_
  refine lv_iload_n X.1 X.2.1 dX7_both_54 rfl (lv_at hl 3 rfl) ?_
  refine wm_iald (i := i) X hP hlt1 hE1 (by omega) (by decide) dX7_both_55 ?_
  refine lv_iload X.1 X.2.1 dX7_both_56 (lv_at hl 0 rfl) ?_
  refine wm_imul (x := (ss i)) (y := (ss jj)) X dX7_both_58 ?_
  refine lv_istore (lv' := [(5, .int (nI ((ss i) * (ss jj)))), (4, .int (nI (ss jj))), (0, .ref (b + 119)), (1, .int (nI k)), (2, .int (nI i)), (3, .int (nI jj))]) X.1 X.2.1 dX7_both_59 hl (by decide) rfl (fun ls hl => ?_)
  refine lv_iload X.1 X.2.1 dX7_both_61 (lv_at hl 0 rfl) ?_
  refine lv_bipush (v := nI 24) X.1 X.2.1 dX7_both_63 (by decide) ?_
  refine wm_icmp_le (x := ((ss i) * (ss jj))) (y := 24) (tgt := 70) X (by omega) (by decide) dX7_both_65 (by decide) (fun hc65 => ?_) (fun hc65 => ?_)
  · exact absurd hc65 (by omega)
  · refine lv_iconst (v := nI 4294967295) X.1 X.2.1 dX7_both_68 (by decide) ?_
    exact wm_iret (post := pmboth0 C b E th sz fa pl ats aa op fi la wa wc kl be k i jj ss) X hr hP hS ⟨rfl, hE0, hfr⟩ hQ dX7_both_69
def pmeither1 (C : Nat → ClassId) (b : Nat) (E : Nat → va_E) (th sz fa pl ats aa op fi la wa wc kl : Nat) (be : Bool) (k i jj : Nat) (ar ss sa se na : Nat → Nat) : Int32 → (Nat → va_E) → Prop := fun r E' => ∃ (ar1 : Nat → Nat) (na1 : Nat → Nat), r = nI (ss i + ss jj) ∧ E' 119 = .inr (7, [.int (nI 0), .ref (b + 120), .int (nI sz), .int (nI fa), .int (nI pl), .ref (b + 121), .ref (b + 122), .ref (b + 123), .ref (b + 124), .ref (b + 125), .ref (b + 126), .ref (b + 127), .int (nI ats), .int (nI aa), .ref (b + 128), .ref (b + 129), .ref (b + 130), .ref (b + 131), .ref (b + 132), .ref (b + 133), .int (nI op), .int (nI be.toNat), .int (nI fi), .int (nI la), .ref (b + 134), .ref (b + 135), .ref (b + 136), .int (nI wa), .ref (b + 137), .ref (b + 138), .ref (b + 139), .int (nI wc), .ref (b + 140), .int (nI kl), .ref (b + 141), .ref (b + 142), .ref (b + 143), .ref (b + 144), .ref (b + 145)]) ∧ E' 121 = wm_I C 1536 ar1 ∧ E' 122 = wm_I C 8 (va_up ss k (ss i + ss jj)) ∧ E' 123 = wm_I C 8 (va_up sa k (sa i ||| sa jj <<< ss i)) ∧ E' 124 = wm_I C 8 (va_up se k (se i ||| se jj <<< ss i)) ∧ E' 125 = wm_I C 192 na1 ∧ (∀ j, j ≠ 119 → j ≠ 121 → j ≠ 122 → j ≠ 123 → j ≠ 124 → j ≠ 125 → E' j = E j) ∧ wm_t2 (fun s9 l9 => if s9 < ss i then ar (192 * i + 8 * s9 + l9) else ar (192 * jj + 8 * (s9 - ss i) + l9) <<< ss i) (ss i + ss jj) 0 na1 ∧ wm_cp (192 * k) 192 na1 ar ar1
set_option maxHeartbeats 4000000 in
set_option maxRecDepth 100000 in
theorem kmeither1 (l : Launch) (D : va_G) (C : Nat → ClassId) (b n : Nat) (E : Nat → va_E) (th sz fa pl ats aa op fi la wa wc kl : Nat) (be : Bool) (k i jj : Nat) (ar ss sa se na : Nat → Nat) (hlt0 : 119 < n) (hE0 : E 119 = .inr (7, [.int (nI th), .ref (b + 120), .int (nI sz), .int (nI fa), .int (nI pl), .ref (b + 121), .ref (b + 122), .ref (b + 123), .ref (b + 124), .ref (b + 125), .ref (b + 126), .ref (b + 127), .int (nI ats), .int (nI aa), .ref (b + 128), .ref (b + 129), .ref (b + 130), .ref (b + 131), .ref (b + 132), .ref (b + 133), .int (nI op), .int (nI be.toNat), .int (nI fi), .int (nI la), .ref (b + 134), .ref (b + 135), .ref (b + 136), .int (nI wa), .ref (b + 137), .ref (b + 138), .ref (b + 139), .int (nI wc), .ref (b + 140), .int (nI kl), .ref (b + 141), .ref (b + 142), .ref (b + 143), .ref (b + 144), .ref (b + 145)])) (hlt1 : 121 < n) (hE1 : E 121 = wm_I C 1536 ar) (hlt2 : 122 < n) (hE2 : E 122 = wm_I C 8 ss) (hlt3 : 123 < n) (hE3 : E 123 = wm_I C 8 sa) (hlt4 : 124 < n) (hE4 : E 124 = wm_I C 8 se) (hlt5 : 125 < n) (hE5 : E 125 = wm_I C 192 na) (hkk : k < 8) (hii : i < 8) (hjj : jj < 8) (hsi : ss i ≤ 24) (hsj : ss jj ≤ 24) (hb : ss i + ss jj ≤ 24) : Met l yX7_either (wm_ws yX7_either cX7_either 8 (some .int)) { frames := 1, cells := 0, slots := 0, locals := 25 } (va_Pc [.ref (b + 119), .int (nI k), .int (nI i), .int (nI jj)] (wm_G D C b n E)) (va_Qi (pmeither1 C b E th sz fa pl ats aa op fi la wa wc kl be k i jj ar ss sa se na) (fun E' t => wm_P D b n E' t.heap) (wm_A b)) 0 0 (wm_A b) := by
  refine wm_ofW (by decide) (Nat.le_of_ble_eq_true rfl) (fun p e s m below meth c ls R args Q hRe hQ X hr hnm hP hS hl => ?_)
  have hl : lv_has ls 8 [(0, .ref (b + 119)), (1, .int (nI k)), (2, .int (nI i)), (3, .int (nI jj))] := hl
  have hfr : ∀ j, j ≠ 119 → j ≠ 121 → j ≠ 122 → j ≠ 123 → j ≠ 124 → j ≠ 125 → E j = E j := fun _ _ _ _ _ _ _ => rfl
  refine lv_aload_n X.1 X.2.1 dX7_either_0 rfl (lv_at hl 0 rfl) ?_
  refine lv_aload_n X.1 X.2.1 dX7_either_1 rfl (lv_at hl 0 rfl) ?_
  refine lv_iload_n X.1 X.2.1 dX7_either_2 rfl (lv_at hl 1 rfl) ?_
  refine wm_callVi (k := 1) (As := [.int (nI k)]) (rest := [.ref (b + 119)]) X hP hS hlt0 hE0 rfl (knoMach l D C b n E k (by omega)) wq5_157 wq5_159 wqP2_15 wq1_8 wq5_160 (by decide) (by rw [hRe]; exact ⟨Nat.le_of_ble_eq_true rfl, Nat.le_of_ble_eq_true rfl⟩) rfl hl.1 rfl (Nat.le_of_ble_eq_true rfl) (Nat.zero_le _) (Nat.zero_le _) dX7_either_3 (fun r1 E1 H locs hw hP hS => ?_)
  obtain ⟨hrt, hEe⟩ := hw
  subst hrt
  subst hEe
  refine wm_ifz_ne (x := false) (tgt := 25) X dX7_either_6 (by decide) (fun h => by exfalso; revert h; decide) (fun _ => ?_)
  refine lv_aload_n X.1 X.2.1 dX7_either_9 rfl (lv_at hl 0 rfl) ?_
  refine lv_iload_n X.1 X.2.1 dX7_either_10 rfl (lv_at hl 2 rfl) ?_
  refine wm_callVi (k := 1) (As := [.int (nI i)]) (rest := [.ref (b + 119)]) X hP hS hlt0 hE0 rfl (knoMach l D C b n E i (by omega)) wq5_157 wq5_159 wqP2_15 wq1_8 wq5_160 (by decide) (by rw [hRe]; exact ⟨Nat.le_of_ble_eq_true rfl, Nat.le_of_ble_eq_true rfl⟩) rfl hl.1 rfl (Nat.le_of_ble_eq_true rfl) (Nat.zero_le _) (Nat.zero_le _) dX7_either_11 (fun r2 E2 H locs hw hP hS => ?_)
  obtain ⟨hrt, hEe⟩ := hw
  subst hrt
  subst hEe
  refine wm_ifz_ne (x := false) (tgt := 25) X dX7_either_14 (by decide) (fun h => by exfalso; revert h; decide) (fun _ => ?_)
  refine lv_aload_n X.1 X.2.1 dX7_either_17 rfl (lv_at hl 0 rfl) ?_
  refine lv_iload_n X.1 X.2.1 dX7_either_18 rfl (lv_at hl 3 rfl) ?_
  refine wm_callVi (k := 1) (As := [.int (nI jj)]) (rest := [.ref (b + 119)]) X hP hS hlt0 hE0 rfl (knoMach l D C b n E jj (by omega)) wq5_157 wq5_159 wqP2_15 wq1_8 wq5_160 (by decide) (by rw [hRe]; exact ⟨Nat.le_of_ble_eq_true rfl, Nat.le_of_ble_eq_true rfl⟩) rfl hl.1 rfl (Nat.le_of_ble_eq_true rfl) (Nat.zero_le _) (Nat.zero_le _) dX7_either_19 (fun r3 E3 H locs hw hP hS => ?_)
  obtain ⟨hrt, hEe⟩ := hw
  subst hrt
  subst hEe
  refine wm_ifz_eq (x := false) (tgt := 29) X dX7_either_22 (by decide) (fun _ => ?_) (fun h => by exfalso; revert h; decide)
  refine lv_iconst (v := nI 0) X.1 X.2.1 dX7_either_29 (by decide) ?_
  refine wm_put (v := .int (nI 0)) X hP hS hlt0 hE0 rfl wm_inX7 tyX7 tyX7_ok nmX7 0 (by decide) wq5_22 rfl rfl rfl (fs1 := [.int (nI 0), .ref (b + 120), .int (nI sz), .int (nI fa), .int (nI pl), .ref (b + 121), .ref (b + 122), .ref (b + 123), .ref (b + 124), .ref (b + 125), .ref (b + 126), .ref (b + 127), .int (nI ats), .int (nI aa), .ref (b + 128), .ref (b + 129), .ref (b + 130), .ref (b + 131), .ref (b + 132), .ref (b + 133), .int (nI op), .int (nI be.toNat), .int (nI fi), .int (nI la), .ref (b + 134), .ref (b + 135), .ref (b + 136), .int (nI wa), .ref (b + 137), .ref (b + 138), .ref (b + 139), .int (nI wc), .ref (b + 140), .int (nI kl), .ref (b + 141), .ref (b + 142), .ref (b + 143), .ref (b + 144), .ref (b + 145)]) rfl (Nat.le_of_ble_eq_true rfl) dX7_either_30 (fun H locs E4 hP hS hE0 hq => ?_)
  have hE1 := (hq 121 (by decide)).trans hE1
  have hE2 := (hq 122 (by decide)).trans hE2
  have hE3 := (hq 123 (by decide)).trans hE3
  have hE4 := (hq 124 (by decide)).trans hE4
  have hE5 := (hq 125 (by decide)).trans hE5
  have hfr : ∀ j, j ≠ 119 → j ≠ 121 → j ≠ 122 → j ≠ 123 → j ≠ 124 → j ≠ 125 → E4 j = E j := fun j h0 h1 h2 h3 h4 h5 => (hq j h0).trans (hfr j h0 h1 h2 h3 h4 h5)
  refine lv_aload_n X.1 X.2.1 dX7_either_33 rfl (lv_at hl 0 rfl) ?_
  refine wm_get X hP hlt0 hE0 rfl wm_inX7 0 (by decide) wq5_22 rfl dX7_either_34 ?_
  refine lv_if_le (tgt := 42) X.1 X.2.1 dX7_either_37 (by decide) (fun _ => ?_) (fun h => by exfalso; revert h; decide)
  refine lv_aload_n X.1 X.2.1 dX7_either_42 rfl (lv_at hl 0 rfl) ?_
  refine wm_get X hP hlt0 hE0 rfl wm_inX7 6 (by decide) wq5_28 rfl dX7_either_43 ?_
  refine lv_iload_n X.1 X.2.1 dX7_either_46 rfl (lv_at hl 2 rfl) ?_
  refine wm_iald (i := i) X hP hlt2 hE2 (by omega) (by decide) dX7_either_47 ?_
  refine lv_istore (lv' := [(4, .int (nI (ss i))), (0, .ref (b + 119)), (1, .int (nI k)), (2, .int (nI i)), (3, .int (nI jj))]) X.1 X.2.1 dX7_either_48 hl (by decide) rfl (fun ls hl => ?_)
  refine lv_iload X.1 X.2.1 dX7_either_50 (lv_at hl 0 rfl) ?_
  refine lv_aload_n X.1 X.2.1 dX7_either_52 rfl (lv_at hl 1 rfl) ?_
  refine wm_get X hP hlt0 hE0 rfl wm_inX7 6 (by decide) wq5_28 rfl dX7_either_53 ?_
  refine lv_iload_n X.1 X.2.1 dX7_either_56 rfl (lv_at hl 4 rfl) ?_
  refine wm_iald (i := jj) X hP hlt2 hE2 (by omega) (by decide) dX7_either_57 ?_
  refine wm_iadd (x := (ss i)) (y := (ss jj)) X dX7_either_58 ?_
  refine lv_istore (lv' := [(5, .int (nI ((ss i) + (ss jj)))), (4, .int (nI (ss i))), (0, .ref (b + 119)), (1, .int (nI k)), (2, .int (nI i)), (3, .int (nI jj))]) X.1 X.2.1 dX7_either_59 hl (by decide) rfl (fun ls hl => ?_)
  refine lv_iload X.1 X.2.1 dX7_either_61 (lv_at hl 0 rfl) ?_
  refine lv_bipush (v := nI 24) X.1 X.2.1 dX7_either_63 (by decide) ?_
  refine wm_icmp_le (x := ((ss i) + (ss jj))) (y := 24) (tgt := 70) X (by omega) (by decide) dX7_either_65 (by decide) (fun hc65 => ?_) (fun hc65 => ?_)
  · refine lv_aload_n X.1 X.2.1 dX7_either_70 rfl (lv_at hl 2 rfl) ?_
    refine wm_callVv (k := 0) (As := []) (rest := []) X hP hS hlt0 hE0 rfl (kX7_clearNew l D C b n E4 0 sz fa pl ats aa op fi la wa wc kl be na hlt0 hE0 hlt5 hE5) wq5_204 wq5_206 wqP3_10 wq1_8 wq5_207 (by decide) (by rw [hRe]; exact ⟨Nat.le_of_ble_eq_true rfl, Nat.le_of_ble_eq_true rfl⟩) rfl hl.1 rfl (Nat.le_of_ble_eq_true rfl) (Nat.zero_le _) (Nat.zero_le _) dX7_either_71 (fun E6 H locs hw hP hS => ?_)
    obtain ⟨na16, hE5, hq, hp6_0⟩ := hw
    have hE0 := (hq 119 (by decide)).trans hE0
    have hE1 := (hq 121 (by decide)).trans hE1
    have hE2 := (hq 122 (by decide)).trans hE2
    have hE3 := (hq 123 (by decide)).trans hE3
    have hE4 := (hq 124 (by decide)).trans hE4
    have hfr : ∀ j, j ≠ 119 → j ≠ 121 → j ≠ 122 → j ≠ 123 → j ≠ 124 → j ≠ 125 → E6 j = E j := fun j h0 h1 h2 h3 h4 h5 => (hq j h5).trans (hfr j h0 h1 h2 h3 h4 h5)
    refine lv_iconst (v := nI 0) X.1 X.2.1 dX7_either_74 (by decide) ?_
    refine lv_istore (lv' := [(6, .int (nI 0)), (5, .int (nI ((ss i) + (ss jj)))), (4, .int (nI (ss i))), (0, .ref (b + 119)), (1, .int (nI k)), (2, .int (nI i)), (3, .int (nI jj))]) X.1 X.2.1 dX7_either_75 hl (by decide) rfl (fun ls hl => ?_)
    have L77 : ∀ (fu : Nat) (s1 : Nat) (na1 : Nat → Nat), 24 - s1 < fu → (s1 ≤ ss i + ss jj) → (wm_t2 (fun s9 l9 => if s9 < ss i then ar (192 * i + 8 * s9 + l9) else ar (192 * jj + 8 * (s9 - ss i) + l9) <<< ss i) s1 0 na1) → ∀ (E7 : Nat → va_E) (H : Heap) (locs : List Loc) (ls : Array Slot), wm_P D b n E7 H → wm_S b s.heap H locs → E7 119 = .inr (7, [.int (nI 0), .ref (b + 120), .int (nI sz), .int (nI fa), .int (nI pl), .ref (b + 121), .ref (b + 122), .ref (b + 123), .ref (b + 124), .ref (b + 125), .ref (b + 126), .ref (b + 127), .int (nI ats), .int (nI aa), .ref (b + 128), .ref (b + 129), .ref (b + 130), .ref (b + 131), .ref (b + 132), .ref (b + 133), .int (nI op), .int (nI be.toNat), .int (nI fi), .int (nI la), .ref (b + 134), .ref (b + 135), .ref (b + 136), .int (nI wa), .ref (b + 137), .ref (b + 138), .ref (b + 139), .int (nI wc), .ref (b + 140), .int (nI kl), .ref (b + 141), .ref (b + 142), .ref (b + 143), .ref (b + 144), .ref (b + 145)]) → E7 121 = wm_I C 1536 ar → E7 122 = wm_I C 8 ss → E7 123 = wm_I C 8 sa → E7 124 = wm_I C 8 se → E7 125 = wm_I C 192 na1 → (∀ j, j ≠ 119 → j ≠ 121 → j ≠ 122 → j ≠ 123 → j ≠ 124 → j ≠ 125 → E7 j = E j) → lv_has ls 8 [(0, .ref (b + 119)), (1, .int (nI k)), (2, .int (nI i)), (3, .int (nI jj)), (4, .int (nI (ss i))), (5, .int (nI (ss i + ss jj))), (6, .int (nI s1))] → W p l e R s m args below meth c H locs 0 0 Q (F0 m 77 ls []) := by
      intro fu
      induction fu with
      | zero => intro s1 na1 hm; exact absurd hm (Nat.not_lt_zero _)
      | succ fu ih77 =>
        intro s1 na1 hm hs1 h1 E7 H locs ls hP hS hE0 hE1 hE2 hE3 hE4 hE5 hfr hl
        refine lv_iload X.1 X.2.1 dX7_either_77 (lv_at hl 6 rfl) ?_
        refine lv_iload X.1 X.2.1 dX7_either_79 (lv_at hl 5 rfl) ?_
        refine wm_icmp_ge (x := s1) (y := (ss i + ss jj)) (tgt := 153) X (by omega) (by omega) dX7_either_81 (by decide) (fun hc81 => ?_) (fun hc81 => ?_)
        · refine lv_aload_n X.1 X.2.1 dX7_either_153 rfl (lv_at hl 0 rfl) ?_
          refine lv_iload_n X.1 X.2.1 dX7_either_154 rfl (lv_at hl 1 rfl) ?_
          refine lv_iload X.1 X.2.1 dX7_either_155 (lv_at hl 5 rfl) ?_
          refine lv_aload_n X.1 X.2.1 dX7_either_157 rfl (lv_at hl 0 rfl) ?_
          refine wm_get X hP hlt0 hE0 rfl wm_inX7 7 (by decide) wq5_29 rfl dX7_either_158 ?_
          refine lv_iload_n X.1 X.2.1 dX7_either_161 rfl (lv_at hl 2 rfl) ?_
          refine wm_iald (i := i) X hP hlt3 hE3 (by omega) (by decide) dX7_either_162 ?_
          refine lv_aload_n X.1 X.2.1 dX7_either_163 rfl (lv_at hl 0 rfl) ?_
          refine wm_get X hP hlt0 hE0 rfl wm_inX7 7 (by decide) wq5_29 rfl dX7_either_164 ?_
          refine lv_iload_n X.1 X.2.1 dX7_either_167 rfl (lv_at hl 3 rfl) ?_
          refine wm_iald (i := jj) X hP hlt3 hE3 (by omega) (by decide) dX7_either_168 ?_
          refine lv_iload X.1 X.2.1 dX7_either_169 (lv_at hl 4 rfl) ?_
          refine wm_ishl (x := (sa jj)) (y := (ss i)) X (by omega) dX7_either_171 ?_
          refine wm_ior (x := (sa i)) (y := ((sa jj) <<< (ss i))) X dX7_either_172 ?_
          refine lv_aload_n X.1 X.2.1 dX7_either_173 rfl (lv_at hl 0 rfl) ?_
          refine wm_get X hP hlt0 hE0 rfl wm_inX7 8 (by decide) wq5_30 rfl dX7_either_174 ?_
          refine lv_iload_n X.1 X.2.1 dX7_either_177 rfl (lv_at hl 2 rfl) ?_
          refine wm_iald (i := i) X hP hlt4 hE4 (by omega) (by decide) dX7_either_178 ?_
          refine lv_aload_n X.1 X.2.1 dX7_either_179 rfl (lv_at hl 0 rfl) ?_
          refine wm_get X hP hlt0 hE0 rfl wm_inX7 8 (by decide) wq5_30 rfl dX7_either_180 ?_
          refine lv_iload_n X.1 X.2.1 dX7_either_183 rfl (lv_at hl 3 rfl) ?_
          refine wm_iald (i := jj) X hP hlt4 hE4 (by omega) (by decide) dX7_either_184 ?_
          refine lv_iload X.1 X.2.1 dX7_either_185 (lv_at hl 4 rfl) ?_
          refine wm_ishl (x := (se jj)) (y := (ss i)) X (by omega) dX7_either_187 ?_
          refine wm_ior (x := (se i)) (y := ((se jj) <<< (ss i))) X dX7_either_188 ?_
          refine wm_callVv (k := 4) (As := [.int (nI k), .int (nI (ss i + ss jj)), .int (nI ((sa i) ||| ((sa jj) <<< (ss i)))), .int (nI ((se i) ||| ((se jj) <<< (ss i))))]) (rest := []) X hP hS hlt0 hE0 rfl (kX7_put l D C b n E7 0 sz fa pl ats aa op fi la wa wc kl be k (ss i + ss jj) ((sa i) ||| ((sa jj) <<< (ss i))) ((se i) ||| ((se jj) <<< (ss i))) ar ss sa se na1 hlt0 hE0 hlt1 hE1 hlt2 hE2 hlt3 hE3 hlt4 hE4 hlt5 hE5 (by omega)) wq5_208 wq5_210 wqP3_11 wq1_8 wq5_211 (by decide) (by rw [hRe]; exact ⟨Nat.le_of_ble_eq_true rfl, Nat.le_of_ble_eq_true rfl⟩) rfl hl.1 rfl (Nat.le_of_ble_eq_true rfl) (Nat.zero_le _) (Nat.zero_le _) dX7_either_189 (fun E9 H locs hw hP hS => ?_)
          obtain ⟨ar19, hE1, hE2, hE3, hE4, hq, hp9_0⟩ := hw
          have hE0 := (hq 119 (by decide) (by decide) (by decide) (by decide)).trans hE0
          have hE5 := (hq 125 (by decide) (by decide) (by decide) (by decide)).trans hE5
          have hfr : ∀ j, j ≠ 119 → j ≠ 121 → j ≠ 122 → j ≠ 123 → j ≠ 124 → j ≠ 125 → E9 j = E j := fun j h0 h1 h2 h3 h4 h5 => (hq j h1 h2 h3 h4).trans (hfr j h0 h1 h2 h3 h4 h5)
          refine lv_iload X.1 X.2.1 dX7_either_192 (lv_at hl 5 rfl) ?_
          exact wm_iret (post := pmeither1 C b E th sz fa pl ats aa op fi la wa wc kl be k i jj ar ss sa se na) X hr hP hS ⟨ar19, na1, rfl, hE0, hE1, hE2, hE3, hE4, hE5, hfr, (show wm_t2 _ (ss i + ss jj) 0 na1 from (show s1 = ss i + ss jj from by omega) ▸ h1), hp9_0⟩ hQ dX7_either_194
        · refine lv_iconst (v := nI 0) X.1 X.2.1 dX7_either_84 (by decide) ?_
          refine lv_istore (lv' := [(7, .int (nI 0)), (0, .ref (b + 119)), (1, .int (nI k)), (2, .int (nI i)), (3, .int (nI jj)), (4, .int (nI (ss i))), (5, .int (nI (ss i + ss jj))), (6, .int (nI s1))]) X.1 X.2.1 dX7_either_85 hl (by decide) rfl (fun ls hl => ?_)
          have L87 : ∀ (fu : Nat) (a1 : Nat) (na2 : Nat → Nat), 8 - a1 < fu → (a1 ≤ 8) → (wm_t2 (fun s9 l9 => if s9 < ss i then ar (192 * i + 8 * s9 + l9) else ar (192 * jj + 8 * (s9 - ss i) + l9) <<< ss i) s1 a1 na2) → ∀ (E10 : Nat → va_E) (H : Heap) (locs : List Loc) (ls : Array Slot), wm_P D b n E10 H → wm_S b s.heap H locs → E10 119 = .inr (7, [.int (nI 0), .ref (b + 120), .int (nI sz), .int (nI fa), .int (nI pl), .ref (b + 121), .ref (b + 122), .ref (b + 123), .ref (b + 124), .ref (b + 125), .ref (b + 126), .ref (b + 127), .int (nI ats), .int (nI aa), .ref (b + 128), .ref (b + 129), .ref (b + 130), .ref (b + 131), .ref (b + 132), .ref (b + 133), .int (nI op), .int (nI be.toNat), .int (nI fi), .int (nI la), .ref (b + 134), .ref (b + 135), .ref (b + 136), .int (nI wa), .ref (b + 137), .ref (b + 138), .ref (b + 139), .int (nI wc), .ref (b + 140), .int (nI kl), .ref (b + 141), .ref (b + 142), .ref (b + 143), .ref (b + 144), .ref (b + 145)]) → E10 121 = wm_I C 1536 ar → E10 122 = wm_I C 8 ss → E10 123 = wm_I C 8 sa → E10 124 = wm_I C 8 se → E10 125 = wm_I C 192 na2 → (∀ j, j ≠ 119 → j ≠ 121 → j ≠ 122 → j ≠ 123 → j ≠ 124 → j ≠ 125 → E10 j = E j) → lv_has ls 8 [(0, .ref (b + 119)), (1, .int (nI k)), (2, .int (nI i)), (3, .int (nI jj)), (4, .int (nI (ss i))), (5, .int (nI (ss i + ss jj))), (6, .int (nI s1)), (7, .int (nI a1))] → W p l e R s m args below meth c H locs 0 0 Q (F0 m 87 ls []) := by
            intro fu
            induction fu with
            | zero => intro a1 na2 hm; exact absurd hm (Nat.not_lt_zero _)
            | succ fu ih87 =>
              intro a1 na2 hm ha1 h2 E10 H locs ls hP hS hE0 hE1 hE2 hE3 hE4 hE5 hfr hl
              refine lv_iload X.1 X.2.1 dX7_either_87 (lv_at hl 7 rfl) ?_
              refine lv_bipush (v := nI 8) X.1 X.2.1 dX7_either_89 (by decide) ?_
              refine wm_icmp_ge (x := a1) (y := 8) (tgt := 147) X (by omega) (by decide) dX7_either_91 (by decide) (fun hc91 => ?_) (fun hc91 => ?_)
              · refine lv_iinc (v := nI (s1 + 1)) (lv' := [(6, .int (nI (s1 + 1))), (0, .ref (b + 119)), (1, .int (nI k)), (2, .int (nI i)), (3, .int (nI jj)), (4, .int (nI (ss i))), (5, .int (nI (ss i + ss jj))), (7, .int (nI a1))]) X.1 X.2.1 dX7_either_147 hl (k := 6) rfl (wm_inc s1) (by decide) rfl (fun ls hl => ?_)
                refine lv_goto (tgt := 77) X.1 X.2.1 dX7_either_150 (by decide) ?_
                exact ih77 (s1 + 1) na2 (by omega) (by omega) (wm_t2S h2 hc91) E10 _ _ _ hP hS hE0 hE1 hE2 hE3 hE4 hE5 hfr (lv_sub hl [1, 2, 3, 4, 5, 6, 0] rfl)
              · refine lv_aload_n X.1 X.2.1 dX7_either_94 rfl (lv_at hl 0 rfl) ?_
                refine wm_get X hP hlt0 hE0 rfl wm_inX7 9 (by decide) wq5_31 rfl dX7_either_95 ?_
                refine lv_bipush (v := nI 8) X.1 X.2.1 dX7_either_98 (by decide) ?_
                refine lv_iload X.1 X.2.1 dX7_either_100 (lv_at hl 6 rfl) ?_
                refine wm_imul (x := 8) (y := s1) X dX7_either_102 ?_
                refine lv_iload X.1 X.2.1 dX7_either_103 (lv_at hl 7 rfl) ?_
                refine wm_iadd (x := (8 * s1)) (y := a1) X dX7_either_105 ?_
                refine lv_iload X.1 X.2.1 dX7_either_106 (lv_at hl 6 rfl) ?_
                refine lv_iload X.1 X.2.1 dX7_either_108 (lv_at hl 4 rfl) ?_
                refine wm_icmp_ge (x := s1) (y := (ss i)) (tgt := 125) X (by omega) (by omega) dX7_either_110 (by decide) (fun hc110 => ?_) (fun hc110 => ?_)
                · refine lv_aload_n X.1 X.2.1 dX7_either_125 rfl (lv_at hl 0 rfl) ?_
                  refine lv_iload_n X.1 X.2.1 dX7_either_126 rfl (lv_at hl 3 rfl) ?_
                  refine lv_iload X.1 X.2.1 dX7_either_127 (lv_at hl 6 rfl) ?_
                  refine lv_iload X.1 X.2.1 dX7_either_129 (lv_at hl 4 rfl) ?_
                  refine wm_isub (x := s1) (y := (ss i)) X (by omega) dX7_either_131 ?_
                  refine lv_iload X.1 X.2.1 dX7_either_132 (lv_at hl 7 rfl) ?_
                  refine wm_callVi (k := 3) (As := [.int (nI jj), .int (nI (s1 - (ss i))), .int (nI a1)]) (rest := [.int (nI ((8 * s1) + a1)), .ref (b + 125)]) X hP hS hlt0 hE0 rfl (kX7_arcsOf l D C b n E10 0 sz fa pl ats aa op fi la wa wc kl be jj (s1 - (ss i)) a1 ar hlt0 hE0 hlt1 hE1 (by omega) (by omega) (by omega)) wq5_236 wq5_238 wqP3_13 wq1_8 wq5_239 (by decide) (by rw [hRe]; exact ⟨Nat.le_of_ble_eq_true rfl, Nat.le_of_ble_eq_true rfl⟩) rfl hl.1 rfl (Nat.le_of_ble_eq_true rfl) (Nat.zero_le _) (Nat.zero_le _) dX7_either_134 (fun r13 E13 H locs hw hP hS => ?_)
                  obtain ⟨hrt, hEe⟩ := hw
                  subst hrt
                  subst hEe
                  refine lv_iload X.1 X.2.1 dX7_either_137 (lv_at hl 4 rfl) ?_
                  refine wm_ishl (x := (ar (192 * jj + 8 * (s1 - (ss i)) + a1))) (y := (ss i)) X (by omega) dX7_either_139 ?_
                  refine wm_iast (i := ((8 * s1) + a1)) (x := ((ar (192 * jj + 8 * (s1 - (ss i)) + a1)) <<< (ss i))) X hP hS hlt5 hE5 (by omega) (by decide) dX7_either_140 (fun H locs E14 hP hS hE5 hq => ?_)
                  have hE0 := (hq 119 (by decide)).trans hE0
                  have hE1 := (hq 121 (by decide)).trans hE1
                  have hE2 := (hq 122 (by decide)).trans hE2
                  have hE3 := (hq 123 (by decide)).trans hE3
                  have hE4 := (hq 124 (by decide)).trans hE4
                  have hfr : ∀ j, j ≠ 119 → j ≠ 121 → j ≠ 122 → j ≠ 123 → j ≠ 124 → j ≠ 125 → E14 j = E j := fun j h0 h1 h2 h3 h4 h5 => (hq j h5).trans (hfr j h0 h1 h2 h3 h4 h5)
                  refine lv_iinc (v := nI (a1 + 1)) (lv' := [(7, .int (nI (a1 + 1))), (0, .ref (b + 119)), (1, .int (nI k)), (2, .int (nI i)), (3, .int (nI jj)), (4, .int (nI (ss i))), (5, .int (nI (ss i + ss jj))), (6, .int (nI s1))]) X.1 X.2.1 dX7_either_141 hl (k := 7) rfl (wm_inc a1) (by decide) rfl (fun ls hl => ?_)
                  refine lv_goto (tgt := 87) X.1 X.2.1 dX7_either_144 (by decide) ?_
                  exact ih87 (a1 + 1) (va_up na2 ((8 * s1) + a1) ((ar (192 * jj + 8 * (s1 - (ss i)) + a1)) <<< (ss i))) (by omega) (by omega) (wm_t2L h2 hc91 (if_neg (Nat.not_lt.mpr hc110)).symm) E14 _ _ _ hP hS hE0 hE1 hE2 hE3 hE4 hE5 hfr (lv_sub hl [1, 2, 3, 4, 5, 6, 7, 0] rfl)
                · refine lv_aload_n X.1 X.2.1 dX7_either_113 rfl (lv_at hl 0 rfl) ?_
                  refine lv_iload_n X.1 X.2.1 dX7_either_114 rfl (lv_at hl 2 rfl) ?_
                  refine lv_iload X.1 X.2.1 dX7_either_115 (lv_at hl 6 rfl) ?_
                  refine lv_iload X.1 X.2.1 dX7_either_117 (lv_at hl 7 rfl) ?_
                  refine wm_callVi (k := 3) (As := [.int (nI i), .int (nI s1), .int (nI a1)]) (rest := [.int (nI ((8 * s1) + a1)), .ref (b + 125)]) X hP hS hlt0 hE0 rfl (kX7_arcsOf l D C b n E10 0 sz fa pl ats aa op fi la wa wc kl be i s1 a1 ar hlt0 hE0 hlt1 hE1 (by omega) (by omega) (by omega)) wq5_236 wq5_238 wqP3_13 wq1_8 wq5_239 (by decide) (by rw [hRe]; exact ⟨Nat.le_of_ble_eq_true rfl, Nat.le_of_ble_eq_true rfl⟩) rfl hl.1 rfl (Nat.le_of_ble_eq_true rfl) (Nat.zero_le _) (Nat.zero_le _) dX7_either_119 (fun r15 E15 H locs hw hP hS => ?_)
                  obtain ⟨hrt, hEe⟩ := hw
                  subst hrt
                  subst hEe
                  refine lv_goto (tgt := 140) X.1 X.2.1 dX7_either_122 (by decide) ?_
                  refine wm_iast (i := ((8 * s1) + a1)) (x := (ar (192 * i + 8 * s1 + a1))) X hP hS hlt5 hE5 (by omega) (by decide) dX7_either_140 (fun H locs E16 hP hS hE5 hq => ?_)
                  have hE0 := (hq 119 (by decide)).trans hE0
                  have hE1 := (hq 121 (by decide)).trans hE1
                  have hE2 := (hq 122 (by decide)).trans hE2
                  have hE3 := (hq 123 (by decide)).trans hE3
                  have hE4 := (hq 124 (by decide)).trans hE4
                  have hfr : ∀ j, j ≠ 119 → j ≠ 121 → j ≠ 122 → j ≠ 123 → j ≠ 124 → j ≠ 125 → E16 j = E j := fun j h0 h1 h2 h3 h4 h5 => (hq j h5).trans (hfr j h0 h1 h2 h3 h4 h5)
                  refine lv_iinc (v := nI (a1 + 1)) (lv' := [(7, .int (nI (a1 + 1))), (0, .ref (b + 119)), (1, .int (nI k)), (2, .int (nI i)), (3, .int (nI jj)), (4, .int (nI (ss i))), (5, .int (nI (ss i + ss jj))), (6, .int (nI s1))]) X.1 X.2.1 dX7_either_141 hl (k := 7) rfl (wm_inc a1) (by decide) rfl (fun ls hl => ?_)
                  refine lv_goto (tgt := 87) X.1 X.2.1 dX7_either_144 (by decide) ?_
                  exact ih87 (a1 + 1) (va_up na2 ((8 * s1) + a1) (ar (192 * i + 8 * s1 + a1))) (by omega) (by omega) (wm_t2L h2 hc91 (if_pos hc110).symm) E16 _ _ _ hP hS hE0 hE1 hE2 hE3 hE4 hE5 hfr (lv_sub hl [1, 2, 3, 4, 5, 6, 7, 0] rfl)
          exact L87 (8 - 0 + 1) 0 na1 (Nat.lt_succ_self _) (by omega) h1 E7 _ _ _ hP hS hE0 hE1 hE2 hE3 hE4 hE5 hfr (lv_sub hl [1, 2, 3, 4, 5, 6, 7, 0] rfl)
    exact L77 (24 - 0 + 1) 0 na16 (Nat.lt_succ_self _) (by omega) wm_t20 E6 _ _ _ hP hS hE0 hE1 hE2 hE3 hE4 hE5 hfr (lv_sub hl [3, 4, 5, 6, 2, 1, 0] rfl)
  · exact absurd hc65 (by omega)
def pX7_pairs (C : Nat → ClassId) (b : Nat) (E : Nat → va_E) (S1 S2 k : Nat) : Int32 → (Nat → va_E) → Prop := fun r E' => ∃ (r1 : Nat), r = nI r1 ∧ E = E' ∧ (∃ c9, 24 ≤ c9 * k ∧ c9 ≤ 24 ∧ (∀ x, x < c9 → x * k < 24) ∧ r1 = wm_or c9 (fun x => if S1.testBit x then S2 <<< (x * k) else 0))
set_option maxHeartbeats 4000000 in
set_option maxRecDepth 100000 in
theorem kX7_pairs (l : Launch) (D : va_G) (C : Nat → ClassId) (b n : Nat) (E : Nat → va_E) (S1 S2 k : Nat) (hk : 1 ≤ k ∧ k ≤ 24) (hS1 : S1 < 2 ^ 31) : Met l yX7_pairs (wm_ws yX7_pairs cX7_pairs 5 (some .int)) { frames := 0, cells := 0, slots := 0, locals := 0 } (va_Pc [.int (nI S1), .int (nI S2), .int (nI k)] (wm_G D C b n E)) (va_Qi (pX7_pairs C b E S1 S2 k) (fun E' t => wm_P D b n E' t.heap) (wm_A b)) 0 0 (wm_A b) := by
  refine wm_ofW (by decide) (Nat.le_of_ble_eq_true rfl) (fun p e s m below meth c ls R args Q hRe hQ X hr hnm hP hS hl => ?_)
  have hl : lv_has ls 5 [(0, .int (nI S1)), (1, .int (nI S2)), (2, .int (nI k))] := hl
  refine lv_iconst (v := nI 0) X.1 X.2.1 dX7_pairs_0 (by decide) ?_
  refine lv_istore_n (lv' := [(3, .int (nI 0)), (0, .int (nI S1)), (1, .int (nI S2)), (2, .int (nI k))]) X.1 X.2.1 dX7_pairs_1 rfl hl (by decide) rfl (fun ls hl => ?_)
  refine lv_iconst (v := nI 0) X.1 X.2.1 dX7_pairs_2 (by decide) ?_
  refine lv_istore (lv' := [(4, .int (nI 0)), (3, .int (nI 0)), (0, .int (nI S1)), (1, .int (nI S2)), (2, .int (nI k))]) X.1 X.2.1 dX7_pairs_3 hl (by decide) rfl (fun ls hl => ?_)
  have L5 : ∀ (fu : Nat) (a : Nat) (i : Nat), 25 - i < fu → (i ≤ 24) → (∀ x, x < i → x * k < 24) → (a = wm_or i (fun x => if S1.testBit x then S2 <<< (x * k) else 0)) → ∀ (H : Heap) (locs : List Loc) (ls : Array Slot), wm_P D b n E H → wm_S b s.heap H locs → lv_has ls 5 [(0, .int (nI S1)), (1, .int (nI S2)), (2, .int (nI k)), (3, .int (nI a)), (4, .int (nI i))] → W p l e R s m args below meth c H locs 0 0 Q (F0 m 5 ls []) := by
    intro fu
    induction fu with
    | zero => intro a i hm; exact absurd hm (Nat.not_lt_zero _)
    | succ fu ih5 =>
      intro a i hm hi hlo ha H locs ls hP hS  hl
      have hik : i ≤ i * k := Nat.le_mul_of_pos_right i hk.1
      have hik2 : i * k ≤ 24 * 24 := Nat.mul_le_mul hi hk.2
      refine lv_iload X.1 X.2.1 dX7_pairs_5 (lv_at hl 4 rfl) ?_
      refine lv_iload_n X.1 X.2.1 dX7_pairs_7 rfl (lv_at hl 2 rfl) ?_
      refine wm_imul (x := i) (y := k) X dX7_pairs_8 ?_
      refine lv_bipush (v := nI 24) X.1 X.2.1 dX7_pairs_9 (by decide) ?_
      refine wm_icmp_ge (x := (i * k)) (y := 24) (tgt := 43) X (by omega) (by decide) dX7_pairs_11 (by decide) (fun hc11 => ?_) (fun hc11 => ?_)
      · refine lv_iload_n X.1 X.2.1 dX7_pairs_43 rfl (lv_at hl 3 rfl) ?_
        exact wm_iret (post := pX7_pairs C b E S1 S2 k) X hr hP hS ⟨a, rfl, rfl, ⟨i, hc11, hi, hlo, ha⟩⟩ hQ dX7_pairs_44
      · refine lv_iload_n X.1 X.2.1 dX7_pairs_14 rfl (lv_at hl 0 rfl) ?_
        refine lv_iload X.1 X.2.1 dX7_pairs_15 (lv_at hl 4 rfl) ?_
        refine wm_ishr (x := S1) (y := i) X (by omega) (by omega) dX7_pairs_17 ?_
        refine lv_iconst (v := nI 1) X.1 X.2.1 dX7_pairs_18 (by decide) ?_
        refine wm_iand (x := (S1 >>> i)) (y := 1) X dX7_pairs_19 ?_
        refine lv_iconst (v := nI 1) X.1 X.2.1 dX7_pairs_20 (by decide) ?_
        refine wm_icmp_ne (x := ((S1 >>> i) &&& 1)) (y := 1) (tgt := 35) X (Nat.lt_trans (wm_and1_lt _) (by decide)) (by decide) dX7_pairs_21 (by decide) (fun hc21 => ?_) (fun hc21 => ?_)
        · refine lv_iload_n X.1 X.2.1 dX7_pairs_35 rfl (lv_at hl 3 rfl) ?_
          refine lv_istore_n (lv' := [(3, .int (nI a)), (0, .int (nI S1)), (1, .int (nI S2)), (2, .int (nI k)), (4, .int (nI i))]) X.1 X.2.1 dX7_pairs_36 rfl hl (by decide) rfl (fun ls hl => ?_)
          refine lv_iinc (v := nI (i + 1)) (lv' := [(4, .int (nI (i + 1))), (3, .int (nI a)), (0, .int (nI S1)), (1, .int (nI S2)), (2, .int (nI k))]) X.1 X.2.1 dX7_pairs_37 hl (k := 4) rfl (wm_inc i) (by decide) rfl (fun ls hl => ?_)
          refine lv_goto (tgt := 5) X.1 X.2.1 dX7_pairs_40 (by decide) ?_
          exact ih5 a (i + 1) (by omega) (by omega) (wm_lowk hlo hc11) (wm_pr_f ha (if_neg (by rw [wm_sh0 hc21]; decide))) _ _ _ hP hS  (lv_sub hl [2, 3, 4, 1, 0] rfl)
        · refine lv_iload_n X.1 X.2.1 dX7_pairs_24 rfl (lv_at hl 3 rfl) ?_
          refine lv_iload_n X.1 X.2.1 dX7_pairs_25 rfl (lv_at hl 1 rfl) ?_
          refine lv_iload X.1 X.2.1 dX7_pairs_26 (lv_at hl 4 rfl) ?_
          refine lv_iload_n X.1 X.2.1 dX7_pairs_28 rfl (lv_at hl 2 rfl) ?_
          refine wm_imul (x := i) (y := k) X dX7_pairs_29 ?_
          refine wm_ishl (x := S2) (y := (i * k)) X (by omega) dX7_pairs_30 ?_
          refine wm_ior (x := a) (y := (S2 <<< (i * k))) X dX7_pairs_31 ?_
          refine lv_goto (tgt := 36) X.1 X.2.1 dX7_pairs_32 (by decide) ?_
          refine lv_istore_n (lv' := [(3, .int (nI (a ||| (S2 <<< (i * k))))), (0, .int (nI S1)), (1, .int (nI S2)), (2, .int (nI k)), (4, .int (nI i))]) X.1 X.2.1 dX7_pairs_36 rfl hl (by decide) rfl (fun ls hl => ?_)
          refine lv_iinc (v := nI (i + 1)) (lv' := [(4, .int (nI (i + 1))), (3, .int (nI (a ||| (S2 <<< (i * k))))), (0, .int (nI S1)), (1, .int (nI S2)), (2, .int (nI k))]) X.1 X.2.1 dX7_pairs_37 hl (k := 4) rfl (wm_inc i) (by decide) rfl (fun ls hl => ?_)
          refine lv_goto (tgt := 5) X.1 X.2.1 dX7_pairs_40 (by decide) ?_
          exact ih5 (a ||| (S2 <<< (i * k))) (i + 1) (by omega) (by omega) (wm_lowk hlo hc11) (wm_pr_t ha _ (if_pos (wm_sh1 hc21))) _ _ _ hP hS  (lv_sub hl [2, 3, 4, 1, 0] rfl)
  exact L5 (25 - 0 + 1) 0 0 (Nat.lt_succ_self _) (by omega) (fun x h => absurd h (Nat.not_lt_zero _)) rfl _ _ _ hP hS  (lv_sub hl [2, 3, 4, 1, 0] rfl)
def pmboth1 (C : Nat → ClassId) (b : Nat) (E : Nat → va_E) (th sz fa pl ats aa op fi la wa wc kl : Nat) (be : Bool) (k i jj : Nat) (ar ss sa se na : Nat → Nat) : Int32 → (Nat → va_E) → Prop := fun r E' => ∃ (ar1 : Nat → Nat) (na1 : Nat → Nat) (s2 : Nat) (e2 : Nat), r = nI (ss i * ss jj) ∧ E' 119 = .inr (7, [.int (nI 0), .ref (b + 120), .int (nI sz), .int (nI fa), .int (nI pl), .ref (b + 121), .ref (b + 122), .ref (b + 123), .ref (b + 124), .ref (b + 125), .ref (b + 126), .ref (b + 127), .int (nI ats), .int (nI aa), .ref (b + 128), .ref (b + 129), .ref (b + 130), .ref (b + 131), .ref (b + 132), .ref (b + 133), .int (nI op), .int (nI be.toNat), .int (nI fi), .int (nI la), .ref (b + 134), .ref (b + 135), .ref (b + 136), .int (nI wa), .ref (b + 137), .ref (b + 138), .ref (b + 139), .int (nI wc), .ref (b + 140), .int (nI kl), .ref (b + 141), .ref (b + 142), .ref (b + 143), .ref (b + 144), .ref (b + 145)]) ∧ E' 121 = wm_I C 1536 ar1 ∧ E' 122 = wm_I C 8 (va_up ss k (ss i * ss jj)) ∧ E' 123 = wm_I C 8 (va_up sa k s2) ∧ E' 124 = wm_I C 8 (va_up se k e2) ∧ E' 125 = wm_I C 192 na1 ∧ (∀ j, j ≠ 119 → j ≠ 121 → j ≠ 122 → j ≠ 123 → j ≠ 124 → j ≠ 125 → E' j = E j) ∧ s2 = wm_pm (sa i) (sa jj) (ss jj) ∧ e2 = wm_pm (se i) (se jj) (ss jj) ∧ wm_t2 (fun s9 l9 => wm_pm (ar (192 * i + 8 * (s9 / ss jj) + l9)) (ar (192 * jj + 8 * (s9 % ss jj) + l9)) (ss jj)) (ss i * ss jj) 0 na1 ∧ wm_cp (192 * k) 192 na1 ar ar1
set_option maxHeartbeats 4000000 in
set_option maxRecDepth 100000 in
theorem kmboth1 (l : Launch) (D : va_G) (C : Nat → ClassId) (b n : Nat) (E : Nat → va_E) (th sz fa pl ats aa op fi la wa wc kl : Nat) (be : Bool) (k i jj : Nat) (ar ss sa se na : Nat → Nat) (hlt0 : 119 < n) (hE0 : E 119 = .inr (7, [.int (nI th), .ref (b + 120), .int (nI sz), .int (nI fa), .int (nI pl), .ref (b + 121), .ref (b + 122), .ref (b + 123), .ref (b + 124), .ref (b + 125), .ref (b + 126), .ref (b + 127), .int (nI ats), .int (nI aa), .ref (b + 128), .ref (b + 129), .ref (b + 130), .ref (b + 131), .ref (b + 132), .ref (b + 133), .int (nI op), .int (nI be.toNat), .int (nI fi), .int (nI la), .ref (b + 134), .ref (b + 135), .ref (b + 136), .int (nI wa), .ref (b + 137), .ref (b + 138), .ref (b + 139), .int (nI wc), .ref (b + 140), .int (nI kl), .ref (b + 141), .ref (b + 142), .ref (b + 143), .ref (b + 144), .ref (b + 145)])) (hlt1 : 121 < n) (hE1 : E 121 = wm_I C 1536 ar) (hlt2 : 122 < n) (hE2 : E 122 = wm_I C 8 ss) (hlt3 : 123 < n) (hE3 : E 123 = wm_I C 8 sa) (hlt4 : 124 < n) (hE4 : E 124 = wm_I C 8 se) (hlt5 : 125 < n) (hE5 : E 125 = wm_I C 192 na) (hkk : k < 8) (hii : i < 8) (hjj : jj < 8) (hsi : ss i ≤ 24) (hsj : ss jj ≤ 24) (hsp : 1 ≤ ss jj) (hsip : 1 ≤ ss i) (hb : ss i * ss jj ≤ 24) (hsa : sa i < 2 ^ 31) (hse : se i < 2 ^ 31) (hgi : ∀ a x, a < 8 → x < ss i → ar (192 * i + 8 * x + a) < 2 ^ 31) : Met l yX7_both (wm_ws yX7_both cX7_both 8 (some .int)) { frames := 1, cells := 0, slots := 0, locals := 25 } (va_Pc [.ref (b + 119), .int (nI k), .int (nI i), .int (nI jj)] (wm_G D C b n E)) (va_Qi (pmboth1 C b E th sz fa pl ats aa op fi la wa wc kl be k i jj ar ss sa se na) (fun E' t => wm_P D b n E' t.heap) (wm_A b)) 0 0 (wm_A b) := by
  refine wm_ofW (by decide) (Nat.le_of_ble_eq_true rfl) (fun p e s m below meth c ls R args Q hRe hQ X hr hnm hP hS hl => ?_)
  have hl : lv_has ls 8 [(0, .ref (b + 119)), (1, .int (nI k)), (2, .int (nI i)), (3, .int (nI jj))] := hl
  have hfr : ∀ j, j ≠ 119 → j ≠ 121 → j ≠ 122 → j ≠ 123 → j ≠ 124 → j ≠ 125 → E j = E j := fun _ _ _ _ _ _ _ => rfl
  refine lv_aload_n X.1 X.2.1 dX7_both_0 rfl (lv_at hl 0 rfl) ?_
  refine lv_aload_n X.1 X.2.1 dX7_both_1 rfl (lv_at hl 0 rfl) ?_
  refine lv_iload_n X.1 X.2.1 dX7_both_2 rfl (lv_at hl 1 rfl) ?_
  refine wm_callVi (k := 1) (As := [.int (nI k)]) (rest := [.ref (b + 119)]) X hP hS hlt0 hE0 rfl (knoMach l D C b n E k (by omega)) wq5_157 wq5_159 wqP2_15 wq1_8 wq5_160 (by decide) (by rw [hRe]; exact ⟨Nat.le_of_ble_eq_true rfl, Nat.le_of_ble_eq_true rfl⟩) rfl hl.1 rfl (Nat.le_of_ble_eq_true rfl) (Nat.zero_le _) (Nat.zero_le _) dX7_both_3 (fun r1 E1 H locs hw hP hS => ?_)
  obtain ⟨hrt, hEe⟩ := hw
  subst hrt
  subst hEe
  refine wm_ifz_ne (x := false) (tgt := 25) X dX7_both_6 (by decide) (fun h => by exfalso; revert h; decide) (fun _ => ?_)
  refine lv_aload_n X.1 X.2.1 dX7_both_9 rfl (lv_at hl 0 rfl) ?_
  refine lv_iload_n X.1 X.2.1 dX7_both_10 rfl (lv_at hl 2 rfl) ?_
  refine wm_callVi (k := 1) (As := [.int (nI i)]) (rest := [.ref (b + 119)]) X hP hS hlt0 hE0 rfl (knoMach l D C b n E i (by omega)) wq5_157 wq5_159 wqP2_15 wq1_8 wq5_160 (by decide) (by rw [hRe]; exact ⟨Nat.le_of_ble_eq_true rfl, Nat.le_of_ble_eq_true rfl⟩) rfl hl.1 rfl (Nat.le_of_ble_eq_true rfl) (Nat.zero_le _) (Nat.zero_le _) dX7_both_11 (fun r2 E2 H locs hw hP hS => ?_)
  obtain ⟨hrt, hEe⟩ := hw
  subst hrt
  subst hEe
  refine wm_ifz_ne (x := false) (tgt := 25) X dX7_both_14 (by decide) (fun h => by exfalso; revert h; decide) (fun _ => ?_)
  refine lv_aload_n X.1 X.2.1 dX7_both_17 rfl (lv_at hl 0 rfl) ?_
  refine lv_iload_n X.1 X.2.1 dX7_both_18 rfl (lv_at hl 3 rfl) ?_
  refine wm_callVi (k := 1) (As := [.int (nI jj)]) (rest := [.ref (b + 119)]) X hP hS hlt0 hE0 rfl (knoMach l D C b n E jj (by omega)) wq5_157 wq5_159 wqP2_15 wq1_8 wq5_160 (by decide) (by rw [hRe]; exact ⟨Nat.le_of_ble_eq_true rfl, Nat.le_of_ble_eq_true rfl⟩) rfl hl.1 rfl (Nat.le_of_ble_eq_true rfl) (Nat.zero_le _) (Nat.zero_le _) dX7_both_19 (fun r3 E3 H locs hw hP hS => ?_)
  obtain ⟨hrt, hEe⟩ := hw
  subst hrt
  subst hEe
  refine wm_ifz_eq (x := false) (tgt := 29) X dX7_both_22 (by decide) (fun _ => ?_) (fun h => by exfalso; revert h; decide)
  refine lv_iconst (v := nI 0) X.1 X.2.1 dX7_both_29 (by decide) ?_
  refine wm_put (v := .int (nI 0)) X hP hS hlt0 hE0 rfl wm_inX7 tyX7 tyX7_ok nmX7 0 (by decide) wq5_22 rfl rfl rfl (fs1 := [.int (nI 0), .ref (b + 120), .int (nI sz), .int (nI fa), .int (nI pl), .ref (b + 121), .ref (b + 122), .ref (b + 123), .ref (b + 124), .ref (b + 125), .ref (b + 126), .ref (b + 127), .int (nI ats), .int (nI aa), .ref (b + 128), .ref (b + 129), .ref (b + 130), .ref (b + 131), .ref (b + 132), .ref (b + 133), .int (nI op), .int (nI be.toNat), .int (nI fi), .int (nI la), .ref (b + 134), .ref (b + 135), .ref (b + 136), .int (nI wa), .ref (b + 137), .ref (b + 138), .ref (b + 139), .int (nI wc), .ref (b + 140), .int (nI kl), .ref (b + 141), .ref (b + 142), .ref (b + 143), .ref (b + 144), .ref (b + 145)]) rfl (Nat.le_of_ble_eq_true rfl) dX7_both_30 (fun H locs E4 hP hS hE0 hq => ?_)
  have hE1 := (hq 121 (by decide)).trans hE1
  have hE2 := (hq 122 (by decide)).trans hE2
  have hE3 := (hq 123 (by decide)).trans hE3
  have hE4 := (hq 124 (by decide)).trans hE4
  have hE5 := (hq 125 (by decide)).trans hE5
  have hfr : ∀ j, j ≠ 119 → j ≠ 121 → j ≠ 122 → j ≠ 123 → j ≠ 124 → j ≠ 125 → E4 j = E j := fun j h0 h1 h2 h3 h4 h5 => (hq j h0).trans (hfr j h0 h1 h2 h3 h4 h5)
  refine lv_aload_n X.1 X.2.1 dX7_both_33 rfl (lv_at hl 0 rfl) ?_
  refine wm_get X hP hlt0 hE0 rfl wm_inX7 0 (by decide) wq5_22 rfl dX7_both_34 ?_
  refine lv_if_le (tgt := 42) X.1 X.2.1 dX7_both_37 (by decide) (fun _ => ?_) (fun h => by exfalso; revert h; decide)
  refine lv_aload_n X.1 X.2.1 dX7_both_42 rfl (lv_at hl 0 rfl) ?_
  refine wm_get X hP hlt0 hE0 rfl wm_inX7 6 (by decide) wq5_28 rfl dX7_both_43 ?_
  refine lv_iload_n X.1 X.2.1 dX7_both_46 rfl (lv_at hl 3 rfl) ?_
  refine wm_iald (i := jj) X hP hlt2 hE2 (by omega) (by decide) dX7_both_47 ?_
  refine lv_istore (lv' := [(4, .int (nI (ss jj))), (0, .ref (b + 119)), (1, .int (nI k)), (2, .int (nI i)), (3, .int (nI jj))]) X.1 X.2.1 dX7_both_48 hl (by decide) rfl (fun ls hl => ?_)
  refine lv_aload_n X.1 X.2.1 dX7_both_50 rfl (lv_at hl 1 rfl) ?_
  refine wm_get X hP hlt0 hE0 rfl wm_inX7 6 (by decide) wq5_28 rfl dX7_both_51 ?_
  refine lv_iload_n X.1 X.2.1 dX7_both_54 rfl (lv_at hl 3 rfl) ?_
  refine wm_iald (i := i) X hP hlt2 hE2 (by omega) (by decide) dX7_both_55 ?_
  refine lv_iload X.1 X.2.1 dX7_both_56 (lv_at hl 0 rfl) ?_
  refine wm_imul (x := (ss i)) (y := (ss jj)) X dX7_both_58 ?_
  refine lv_istore (lv' := [(5, .int (nI ((ss i) * (ss jj)))), (4, .int (nI (ss jj))), (0, .ref (b + 119)), (1, .int (nI k)), (2, .int (nI i)), (3, .int (nI jj))]) X.1 X.2.1 dX7_both_59 hl (by decide) rfl (fun ls hl => ?_)
  refine lv_iload X.1 X.2.1 dX7_both_61 (lv_at hl 0 rfl) ?_
  refine lv_bipush (v := nI 24) X.1 X.2.1 dX7_both_63 (by decide) ?_
  refine wm_icmp_le (x := ((ss i) * (ss jj))) (y := 24) (tgt := 70) X (by omega) (by decide) dX7_both_65 (by decide) (fun hc65 => ?_) (fun hc65 => ?_)
  · refine lv_aload_n X.1 X.2.1 dX7_both_70 rfl (lv_at hl 2 rfl) ?_
    refine wm_callVv (k := 0) (As := []) (rest := []) X hP hS hlt0 hE0 rfl (kX7_clearNew l D C b n E4 0 sz fa pl ats aa op fi la wa wc kl be na hlt0 hE0 hlt5 hE5) wq5_204 wq5_206 wqP3_10 wq1_8 wq5_207 (by decide) (by rw [hRe]; exact ⟨Nat.le_of_ble_eq_true rfl, Nat.le_of_ble_eq_true rfl⟩) rfl hl.1 rfl (Nat.le_of_ble_eq_true rfl) (Nat.zero_le _) (Nat.zero_le _) dX7_both_71 (fun E6 H locs hw hP hS => ?_)
    obtain ⟨na16, hE5, hq, hp6_0⟩ := hw
    have hE0 := (hq 119 (by decide)).trans hE0
    have hE1 := (hq 121 (by decide)).trans hE1
    have hE2 := (hq 122 (by decide)).trans hE2
    have hE3 := (hq 123 (by decide)).trans hE3
    have hE4 := (hq 124 (by decide)).trans hE4
    have hfr : ∀ j, j ≠ 119 → j ≠ 121 → j ≠ 122 → j ≠ 123 → j ≠ 124 → j ≠ 125 → E6 j = E j := fun j h0 h1 h2 h3 h4 h5 => (hq j h5).trans (hfr j h0 h1 h2 h3 h4 h5)
    refine lv_iconst (v := nI 0) X.1 X.2.1 dX7_both_74 (by decide) ?_
    refine lv_istore (lv' := [(6, .int (nI 0)), (5, .int (nI ((ss i) * (ss jj)))), (4, .int (nI (ss jj))), (0, .ref (b + 119)), (1, .int (nI k)), (2, .int (nI i)), (3, .int (nI jj))]) X.1 X.2.1 dX7_both_75 hl (by decide) rfl (fun ls hl => ?_)
    have L77 : ∀ (fu : Nat) (s1 : Nat) (na1 : Nat → Nat), 24 - s1 < fu → (s1 ≤ ss i * ss jj) → (wm_t2 (fun s9 l9 => wm_pm (ar (192 * i + 8 * (s9 / ss jj) + l9)) (ar (192 * jj + 8 * (s9 % ss jj) + l9)) (ss jj)) s1 0 na1) → ∀ (E7 : Nat → va_E) (H : Heap) (locs : List Loc) (ls : Array Slot), wm_P D b n E7 H → wm_S b s.heap H locs → E7 119 = .inr (7, [.int (nI 0), .ref (b + 120), .int (nI sz), .int (nI fa), .int (nI pl), .ref (b + 121), .ref (b + 122), .ref (b + 123), .ref (b + 124), .ref (b + 125), .ref (b + 126), .ref (b + 127), .int (nI ats), .int (nI aa), .ref (b + 128), .ref (b + 129), .ref (b + 130), .ref (b + 131), .ref (b + 132), .ref (b + 133), .int (nI op), .int (nI be.toNat), .int (nI fi), .int (nI la), .ref (b + 134), .ref (b + 135), .ref (b + 136), .int (nI wa), .ref (b + 137), .ref (b + 138), .ref (b + 139), .int (nI wc), .ref (b + 140), .int (nI kl), .ref (b + 141), .ref (b + 142), .ref (b + 143), .ref (b + 144), .ref (b + 145)]) → E7 121 = wm_I C 1536 ar → E7 122 = wm_I C 8 ss → E7 123 = wm_I C 8 sa → E7 124 = wm_I C 8 se → E7 125 = wm_I C 192 na1 → (∀ j, j ≠ 119 → j ≠ 121 → j ≠ 122 → j ≠ 123 → j ≠ 124 → j ≠ 125 → E7 j = E j) → lv_has ls 8 [(0, .ref (b + 119)), (1, .int (nI k)), (2, .int (nI i)), (3, .int (nI jj)), (4, .int (nI (ss jj))), (5, .int (nI (ss i * ss jj))), (6, .int (nI s1))] → W p l e R s m args below meth c H locs 0 0 Q (F0 m 77 ls []) := by
      intro fu
      induction fu with
      | zero => intro s1 na1 hm; exact absurd hm (Nat.not_lt_zero _)
      | succ fu ih77 =>
        intro s1 na1 hm hs1 h1 E7 H locs ls hP hS hE0 hE1 hE2 hE3 hE4 hE5 hfr hl
        refine lv_iload X.1 X.2.1 dX7_both_77 (lv_at hl 6 rfl) ?_
        refine lv_iload X.1 X.2.1 dX7_both_79 (lv_at hl 5 rfl) ?_
        refine wm_icmp_ge (x := s1) (y := (ss i * ss jj)) (tgt := 148) X (by omega) (by omega) dX7_both_81 (by decide) (fun hc81 => ?_) (fun hc81 => ?_)
        · refine lv_aload_n X.1 X.2.1 dX7_both_148 rfl (lv_at hl 0 rfl) ?_
          refine lv_iload_n X.1 X.2.1 dX7_both_149 rfl (lv_at hl 1 rfl) ?_
          refine lv_iload X.1 X.2.1 dX7_both_150 (lv_at hl 5 rfl) ?_
          refine lv_aload_n X.1 X.2.1 dX7_both_152 rfl (lv_at hl 0 rfl) ?_
          refine wm_get X hP hlt0 hE0 rfl wm_inX7 7 (by decide) wq5_29 rfl dX7_both_153 ?_
          refine lv_iload_n X.1 X.2.1 dX7_both_156 rfl (lv_at hl 2 rfl) ?_
          refine wm_iald (i := i) X hP hlt3 hE3 (by omega) (by decide) dX7_both_157 ?_
          refine lv_aload_n X.1 X.2.1 dX7_both_158 rfl (lv_at hl 0 rfl) ?_
          refine wm_get X hP hlt0 hE0 rfl wm_inX7 7 (by decide) wq5_29 rfl dX7_both_159 ?_
          refine lv_iload_n X.1 X.2.1 dX7_both_162 rfl (lv_at hl 3 rfl) ?_
          refine wm_iald (i := jj) X hP hlt3 hE3 (by omega) (by decide) dX7_both_163 ?_
          refine lv_iload X.1 X.2.1 dX7_both_164 (lv_at hl 4 rfl) ?_
          refine wm_callSi (k := 3) (As := [.int (nI (sa i)), .int (nI (sa jj)), .int (nI (ss jj))]) (rest := [.int (nI (ss i * ss jj)), .int (nI k), .ref (b + 119)]) X hP hS  (kX7_pairs l D C b n E7 (sa i) (sa jj) (ss jj) (by omega) (by omega)) wq6_20 wq6_21 wq1_8 wq6_22 (by decide) (by rw [hRe]; exact ⟨Nat.le_of_ble_eq_true rfl, Nat.le_of_ble_eq_true rfl⟩) rfl hl.1 rfl (Nat.le_of_ble_eq_true rfl) (Nat.zero_le _) (Nat.zero_le _) dX7_both_166 (fun r9 E9 H locs hw hP hS => ?_)
          obtain ⟨r19, hrt, hEe, hp9_0⟩ := hw
          subst hrt
          subst hEe
          have hpa := wm_pm_of hp9_0
          refine lv_aload_n X.1 X.2.1 dX7_both_169 rfl (lv_at hl 0 rfl) ?_
          refine wm_get X hP hlt0 hE0 rfl wm_inX7 8 (by decide) wq5_30 rfl dX7_both_170 ?_
          refine lv_iload_n X.1 X.2.1 dX7_both_173 rfl (lv_at hl 2 rfl) ?_
          refine wm_iald (i := i) X hP hlt4 hE4 (by omega) (by decide) dX7_both_174 ?_
          refine lv_aload_n X.1 X.2.1 dX7_both_175 rfl (lv_at hl 0 rfl) ?_
          refine wm_get X hP hlt0 hE0 rfl wm_inX7 8 (by decide) wq5_30 rfl dX7_both_176 ?_
          refine lv_iload_n X.1 X.2.1 dX7_both_179 rfl (lv_at hl 3 rfl) ?_
          refine wm_iald (i := jj) X hP hlt4 hE4 (by omega) (by decide) dX7_both_180 ?_
          refine lv_iload X.1 X.2.1 dX7_both_181 (lv_at hl 4 rfl) ?_
          refine wm_callSi (k := 3) (As := [.int (nI (se i)), .int (nI (se jj)), .int (nI (ss jj))]) (rest := [.int (nI r19), .int (nI (ss i * ss jj)), .int (nI k), .ref (b + 119)]) X hP hS  (kX7_pairs l D C b n E7 (se i) (se jj) (ss jj) (by omega) (by omega)) wq6_20 wq6_21 wq1_8 wq6_22 (by decide) (by rw [hRe]; exact ⟨Nat.le_of_ble_eq_true rfl, Nat.le_of_ble_eq_true rfl⟩) rfl hl.1 rfl (Nat.le_of_ble_eq_true rfl) (Nat.zero_le _) (Nat.zero_le _) dX7_both_183 (fun r10 E10 H locs hw hP hS => ?_)
          obtain ⟨r110, hrt, hEe, hp10_0⟩ := hw
          subst hrt
          subst hEe
          have hpe := wm_pm_of hp10_0
          refine wm_callVv (k := 4) (As := [.int (nI k), .int (nI (ss i * ss jj)), .int (nI r19), .int (nI r110)]) (rest := []) X hP hS hlt0 hE0 rfl (kX7_put l D C b n E7 0 sz fa pl ats aa op fi la wa wc kl be k (ss i * ss jj) r19 r110 ar ss sa se na1 hlt0 hE0 hlt1 hE1 hlt2 hE2 hlt3 hE3 hlt4 hE4 hlt5 hE5 (by omega)) wq5_208 wq5_210 wqP3_11 wq1_8 wq5_211 (by decide) (by rw [hRe]; exact ⟨Nat.le_of_ble_eq_true rfl, Nat.le_of_ble_eq_true rfl⟩) rfl hl.1 rfl (Nat.le_of_ble_eq_true rfl) (Nat.zero_le _) (Nat.zero_le _) dX7_both_186 (fun E11 H locs hw hP hS => ?_)
          obtain ⟨ar111, hE1, hE2, hE3, hE4, hq, hp11_0⟩ := hw
          have hE0 := (hq 119 (by decide) (by decide) (by decide) (by decide)).trans hE0
          have hE5 := (hq 125 (by decide) (by decide) (by decide) (by decide)).trans hE5
          have hfr : ∀ j, j ≠ 119 → j ≠ 121 → j ≠ 122 → j ≠ 123 → j ≠ 124 → j ≠ 125 → E11 j = E j := fun j h0 h1 h2 h3 h4 h5 => (hq j h1 h2 h3 h4).trans (hfr j h0 h1 h2 h3 h4 h5)
          refine lv_iload X.1 X.2.1 dX7_both_189 (lv_at hl 5 rfl) ?_
          exact wm_iret (post := pmboth1 C b E th sz fa pl ats aa op fi la wa wc kl be k i jj ar ss sa se na) X hr hP hS ⟨ar111, na1, r19, r110, rfl, hE0, hE1, hE2, hE3, hE4, hE5, hfr, hpa, hpe, (show wm_t2 _ (ss i * ss jj) 0 na1 from (show s1 = ss i * ss jj from by omega) ▸ h1), hp11_0⟩ hQ dX7_both_191
        · refine lv_iconst (v := nI 0) X.1 X.2.1 dX7_both_84 (by decide) ?_
          refine lv_istore (lv' := [(7, .int (nI 0)), (0, .ref (b + 119)), (1, .int (nI k)), (2, .int (nI i)), (3, .int (nI jj)), (4, .int (nI (ss jj))), (5, .int (nI (ss i * ss jj))), (6, .int (nI s1))]) X.1 X.2.1 dX7_both_85 hl (by decide) rfl (fun ls hl => ?_)
          have L87 : ∀ (fu : Nat) (a1 : Nat) (na2 : Nat → Nat), 8 - a1 < fu → (a1 ≤ 8) → (wm_t2 (fun s9 l9 => wm_pm (ar (192 * i + 8 * (s9 / ss jj) + l9)) (ar (192 * jj + 8 * (s9 % ss jj) + l9)) (ss jj)) s1 a1 na2) → ∀ (E12 : Nat → va_E) (H : Heap) (locs : List Loc) (ls : Array Slot), wm_P D b n E12 H → wm_S b s.heap H locs → E12 119 = .inr (7, [.int (nI 0), .ref (b + 120), .int (nI sz), .int (nI fa), .int (nI pl), .ref (b + 121), .ref (b + 122), .ref (b + 123), .ref (b + 124), .ref (b + 125), .ref (b + 126), .ref (b + 127), .int (nI ats), .int (nI aa), .ref (b + 128), .ref (b + 129), .ref (b + 130), .ref (b + 131), .ref (b + 132), .ref (b + 133), .int (nI op), .int (nI be.toNat), .int (nI fi), .int (nI la), .ref (b + 134), .ref (b + 135), .ref (b + 136), .int (nI wa), .ref (b + 137), .ref (b + 138), .ref (b + 139), .int (nI wc), .ref (b + 140), .int (nI kl), .ref (b + 141), .ref (b + 142), .ref (b + 143), .ref (b + 144), .ref (b + 145)]) → E12 121 = wm_I C 1536 ar → E12 122 = wm_I C 8 ss → E12 123 = wm_I C 8 sa → E12 124 = wm_I C 8 se → E12 125 = wm_I C 192 na2 → (∀ j, j ≠ 119 → j ≠ 121 → j ≠ 122 → j ≠ 123 → j ≠ 124 → j ≠ 125 → E12 j = E j) → lv_has ls 8 [(0, .ref (b + 119)), (1, .int (nI k)), (2, .int (nI i)), (3, .int (nI jj)), (4, .int (nI (ss jj))), (5, .int (nI (ss i * ss jj))), (6, .int (nI s1)), (7, .int (nI a1))] → W p l e R s m args below meth c H locs 0 0 Q (F0 m 87 ls []) := by
            intro fu
            induction fu with
            | zero => intro a1 na2 hm; exact absurd hm (Nat.not_lt_zero _)
            | succ fu ih87 =>
              intro a1 na2 hm ha1 h2 E12 H locs ls hP hS hE0 hE1 hE2 hE3 hE4 hE5 hfr hl
              have hdv : s1 / ss jj < ss i := Nat.div_lt_of_lt_mul (by rw [Nat.mul_comm]; exact hc81)
              have hmd : s1 % ss jj < ss jj := Nat.mod_lt _ (by omega)
              refine lv_iload X.1 X.2.1 dX7_both_87 (lv_at hl 7 rfl) ?_
              refine lv_bipush (v := nI 8) X.1 X.2.1 dX7_both_89 (by decide) ?_
              refine wm_icmp_ge (x := a1) (y := 8) (tgt := 142) X (by omega) (by decide) dX7_both_91 (by decide) (fun hc91 => ?_) (fun hc91 => ?_)
              · refine lv_iinc (v := nI (s1 + 1)) (lv' := [(6, .int (nI (s1 + 1))), (0, .ref (b + 119)), (1, .int (nI k)), (2, .int (nI i)), (3, .int (nI jj)), (4, .int (nI (ss jj))), (5, .int (nI (ss i * ss jj))), (7, .int (nI a1))]) X.1 X.2.1 dX7_both_142 hl (k := 6) rfl (wm_inc s1) (by decide) rfl (fun ls hl => ?_)
                refine lv_goto (tgt := 77) X.1 X.2.1 dX7_both_145 (by decide) ?_
                exact ih77 (s1 + 1) na2 (by omega) (by omega) (wm_t2S h2 hc91) E12 _ _ _ hP hS hE0 hE1 hE2 hE3 hE4 hE5 hfr (lv_sub hl [1, 2, 3, 4, 5, 6, 0] rfl)
              · refine lv_aload_n X.1 X.2.1 dX7_both_94 rfl (lv_at hl 0 rfl) ?_
                refine wm_get X hP hlt0 hE0 rfl wm_inX7 9 (by decide) wq5_31 rfl dX7_both_95 ?_
                refine lv_bipush (v := nI 8) X.1 X.2.1 dX7_both_98 (by decide) ?_
                refine lv_iload X.1 X.2.1 dX7_both_100 (lv_at hl 6 rfl) ?_
                refine wm_imul (x := 8) (y := s1) X dX7_both_102 ?_
                refine lv_iload X.1 X.2.1 dX7_both_103 (lv_at hl 7 rfl) ?_
                refine wm_iadd (x := (8 * s1)) (y := a1) X dX7_both_105 ?_
                refine lv_aload_n X.1 X.2.1 dX7_both_106 rfl (lv_at hl 0 rfl) ?_
                refine lv_iload_n X.1 X.2.1 dX7_both_107 rfl (lv_at hl 2 rfl) ?_
                refine lv_iload X.1 X.2.1 dX7_both_108 (lv_at hl 6 rfl) ?_
                refine lv_iload X.1 X.2.1 dX7_both_110 (lv_at hl 4 rfl) ?_
                refine wm_idiv (x := s1) (y := (ss jj)) X (by omega) (by omega) (by omega) dX7_both_112 ?_
                refine lv_iload X.1 X.2.1 dX7_both_113 (lv_at hl 7 rfl) ?_
                refine wm_callVi (k := 3) (As := [.int (nI i), .int (nI (s1 / (ss jj))), .int (nI a1)]) (rest := [.int (nI ((8 * s1) + a1)), .ref (b + 125)]) X hP hS hlt0 hE0 rfl (kX7_arcsOf l D C b n E12 0 sz fa pl ats aa op fi la wa wc kl be i (s1 / (ss jj)) a1 ar hlt0 hE0 hlt1 hE1 (by omega) (by omega) (by omega)) wq5_236 wq5_238 wqP3_13 wq1_8 wq5_239 (by decide) (by rw [hRe]; exact ⟨Nat.le_of_ble_eq_true rfl, Nat.le_of_ble_eq_true rfl⟩) rfl hl.1 rfl (Nat.le_of_ble_eq_true rfl) (Nat.zero_le _) (Nat.zero_le _) dX7_both_115 (fun r14 E14 H locs hw hP hS => ?_)
                obtain ⟨hrt, hEe⟩ := hw
                subst hrt
                subst hEe
                refine lv_aload_n X.1 X.2.1 dX7_both_118 rfl (lv_at hl 0 rfl) ?_
                refine lv_iload_n X.1 X.2.1 dX7_both_119 rfl (lv_at hl 3 rfl) ?_
                refine lv_iload X.1 X.2.1 dX7_both_120 (lv_at hl 6 rfl) ?_
                refine lv_iload X.1 X.2.1 dX7_both_122 (lv_at hl 4 rfl) ?_
                refine wm_irem (x := s1) (y := (ss jj)) X (by omega) (by omega) (by omega) dX7_both_124 ?_
                refine lv_iload X.1 X.2.1 dX7_both_125 (lv_at hl 7 rfl) ?_
                refine wm_callVi (k := 3) (As := [.int (nI jj), .int (nI (s1 % (ss jj))), .int (nI a1)]) (rest := [.int (nI (ar (192 * i + 8 * (s1 / (ss jj)) + a1))), .int (nI ((8 * s1) + a1)), .ref (b + 125)]) X hP hS hlt0 hE0 rfl (kX7_arcsOf l D C b n E12 0 sz fa pl ats aa op fi la wa wc kl be jj (s1 % (ss jj)) a1 ar hlt0 hE0 hlt1 hE1 (by omega) (by omega) (by omega)) wq5_236 wq5_238 wqP3_13 wq1_8 wq5_239 (by decide) (by rw [hRe]; exact ⟨Nat.le_of_ble_eq_true rfl, Nat.le_of_ble_eq_true rfl⟩) rfl hl.1 rfl (Nat.le_of_ble_eq_true rfl) (Nat.zero_le _) (Nat.zero_le _) dX7_both_127 (fun r15 E15 H locs hw hP hS => ?_)
                obtain ⟨hrt, hEe⟩ := hw
                subst hrt
                subst hEe
                refine lv_iload X.1 X.2.1 dX7_both_130 (lv_at hl 4 rfl) ?_
                refine wm_callSi (k := 3) (As := [.int (nI (ar (192 * i + 8 * (s1 / (ss jj)) + a1))), .int (nI (ar (192 * jj + 8 * (s1 % (ss jj)) + a1))), .int (nI (ss jj))]) (rest := [.int (nI ((8 * s1) + a1)), .ref (b + 125)]) X hP hS  (kX7_pairs l D C b n E12 (ar (192 * i + 8 * (s1 / (ss jj)) + a1)) (ar (192 * jj + 8 * (s1 % (ss jj)) + a1)) (ss jj) (by omega) (hgi a1 (s1 / ss jj) hc91 hdv)) wq6_20 wq6_21 wq1_8 wq6_22 (by decide) (by rw [hRe]; exact ⟨Nat.le_of_ble_eq_true rfl, Nat.le_of_ble_eq_true rfl⟩) rfl hl.1 rfl (Nat.le_of_ble_eq_true rfl) (Nat.zero_le _) (Nat.zero_le _) dX7_both_132 (fun r16 E16 H locs hw hP hS => ?_)
                obtain ⟨r116, hrt, hEe, hp16_0⟩ := hw
                subst hrt
                subst hEe
                have hpm := wm_pm_of hp16_0
                refine wm_iast (i := ((8 * s1) + a1)) (x := r116) X hP hS hlt5 hE5 (by omega) (by decide) dX7_both_135 (fun H locs E17 hP hS hE5 hq => ?_)
                have hE0 := (hq 119 (by decide)).trans hE0
                have hE1 := (hq 121 (by decide)).trans hE1
                have hE2 := (hq 122 (by decide)).trans hE2
                have hE3 := (hq 123 (by decide)).trans hE3
                have hE4 := (hq 124 (by decide)).trans hE4
                have hfr : ∀ j, j ≠ 119 → j ≠ 121 → j ≠ 122 → j ≠ 123 → j ≠ 124 → j ≠ 125 → E17 j = E j := fun j h0 h1 h2 h3 h4 h5 => (hq j h5).trans (hfr j h0 h1 h2 h3 h4 h5)
                refine lv_iinc (v := nI (a1 + 1)) (lv' := [(7, .int (nI (a1 + 1))), (0, .ref (b + 119)), (1, .int (nI k)), (2, .int (nI i)), (3, .int (nI jj)), (4, .int (nI (ss jj))), (5, .int (nI (ss i * ss jj))), (6, .int (nI s1))]) X.1 X.2.1 dX7_both_136 hl (k := 7) rfl (wm_inc a1) (by decide) rfl (fun ls hl => ?_)
                refine lv_goto (tgt := 87) X.1 X.2.1 dX7_both_139 (by decide) ?_
                exact ih87 (a1 + 1) (va_up na2 ((8 * s1) + a1) r116) (by omega) (by omega) (wm_t2L h2 hc91 hpm) E17 _ _ _ hP hS hE0 hE1 hE2 hE3 hE4 hE5 hfr (lv_sub hl [1, 2, 3, 4, 5, 6, 7, 0] rfl)
          exact L87 (8 - 0 + 1) 0 na1 (Nat.lt_succ_self _) (by omega) h1 E7 _ _ _ hP hS hE0 hE1 hE2 hE3 hE4 hE5 hfr (lv_sub hl [1, 2, 3, 4, 5, 6, 7, 0] rfl)
    exact L77 (24 - 0 + 1) 0 na16 (Nat.lt_succ_self _) (by omega) wm_t20 E6 _ _ _ hP hS hE0 hE1 hE2 hE3 hE4 hE5 hfr (lv_sub hl [3, 4, 5, 6, 2, 1, 0] rfl)
  · exact absurd hc65 (by omega)
