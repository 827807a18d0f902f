def pX7_before (C : Nat → ClassId) (b : Nat) (E : Nat → va_E) (th sz fa pl ats aa op fi la wa wc kl : Nat) (be : Bool) (k S lr : Nat) (ar ss : Nat → Nat) : Int32 → (Nat → va_E) → Prop := fun r E' => r = nI (wm_bf ar k (ss k) lr S) ∧ E = E'
set_option maxHeartbeats 4000000 in
set_option maxRecDepth 100000 in
theorem kX7_before (l : Launch) (D : va_G) (C : Nat → ClassId) (b n : Nat) (E : Nat → va_E) (th sz fa pl ats aa op fi la wa wc kl : Nat) (be : Bool) (k S lr : Nat) (ar ss : Nat → Nat) (hlt0 : 119 < n) (hE0 : E 119 = .inr (7, [.int (nI th), .ref (b + 120), .int (nI sz), .int (nI fa), .int (nI pl), .ref (b + 121), .ref (b + 122), .ref (b + 123), .ref (b + 124), .ref (b + 125), .ref (b + 126), .ref (b + 127), .int (nI ats), .int (nI aa), .ref (b + 128), .ref (b + 129), .ref (b + 130), .ref (b + 131), .ref (b + 132), .ref (b + 133), .int (nI op), .int (nI be.toNat), .int (nI fi), .int (nI la), .ref (b + 134), .ref (b + 135), .ref (b + 136), .int (nI wa), .ref (b + 137), .ref (b + 138), .ref (b + 139), .int (nI wc), .ref (b + 140), .int (nI kl), .ref (b + 141), .ref (b + 142), .ref (b + 143), .ref (b + 144), .ref (b + 145)])) (hlt1 : 121 < n) (hE1 : E 121 = wm_I C 1536 ar) (hlt2 : 122 < n) (hE2 : E 122 = wm_I C 8 ss) (hkk : k < 8) (hsk : ss k ≤ 24) (hS : S < 2 ^ 31) (hlr : lr < 8) : Met l yX7_before (wm_ws yX7_before cX7_before 6 (some .int)) { frames := 1, cells := 0, slots := 0, locals := 23 } (va_Pc [.ref (b + 119), .int (nI k), .int (nI S), .int (nI lr)] (wm_G D C b n E)) (va_Qi (pX7_before C b E th sz fa pl ats aa op fi la wa wc kl be k S lr ar ss) (fun E' t => wm_P D b n E' t.heap) (wm_A b)) 0 0 (wm_A b) := by
  refine wm_ofW (by decide) (Nat.le_of_ble_eq_true rfl) (fun p e s m below meth c ls R args Q hRe hQ X hr hnm hP hS hl => ?_)
  have hl : lv_has ls 6 [(0, .ref (b + 119)), (1, .int (nI k)), (2, .int (nI S)), (3, .int (nI lr))] := hl
  refine lv_iconst (v := nI 0) X.1 X.2.1 dX7_before_0 (by decide) ?_
  refine lv_istore (lv' := [(4, .int (nI 0)), (0, .ref (b + 119)), (1, .int (nI k)), (2, .int (nI S)), (3, .int (nI lr))]) X.1 X.2.1 dX7_before_1 hl (by decide) rfl (fun ls hl => ?_)
  refine lv_iconst (v := nI 0) X.1 X.2.1 dX7_before_3 (by decide) ?_
  refine lv_istore (lv' := [(5, .int (nI 0)), (4, .int (nI 0)), (0, .ref (b + 119)), (1, .int (nI k)), (2, .int (nI S)), (3, .int (nI lr))]) X.1 X.2.1 dX7_before_4 hl (by decide) rfl (fun ls hl => ?_)
  have L6 : ∀ (fu : Nat) (a : Nat) (i : Nat), 24 - i < fu → (i ≤ ss k) → (a = wm_or i (fun x => if ar (192 * k + 8 * x + lr) &&& S ≠ 0 then 1 <<< x else 0)) → ∀ (H : Heap) (locs : List Loc) (ls : Array Slot), wm_P D b n E H → wm_S b s.heap H locs → E 119 = .inr (7, [.int (nI th), .ref (b + 120), .int (nI sz), .int (nI fa), .int (nI pl), .ref (b + 121), .ref (b + 122), .ref (b + 123), .ref (b + 124), .ref (b + 125), .ref (b + 126), .ref (b + 127), .int (nI ats), .int (nI aa), .ref (b + 128), .ref (b + 129), .ref (b + 130), .ref (b + 131), .ref (b + 132), .ref (b + 133), .int (nI op), .int (nI be.toNat), .int (nI fi), .int (nI la), .ref (b + 134), .ref (b + 135), .ref (b + 136), .int (nI wa), .ref (b + 137), .ref (b + 138), .ref (b + 139), .int (nI wc), .ref (b + 140), .int (nI kl), .ref (b + 141), .ref (b + 142), .ref (b + 143), .ref (b + 144), .ref (b + 145)]) → E 121 = wm_I C 1536 ar → E 122 = wm_I C 8 ss → lv_has ls 6 [(0, .ref (b + 119)), (1, .int (nI k)), (2, .int (nI S)), (3, .int (nI lr)), (4, .int (nI a)), (5, .int (nI i))] → W p l e R s m args below meth c H locs 0 0 Q (F0 m 6 ls []) := by
    intro fu
    induction fu with
    | zero => intro a i hm; exact absurd hm (Nat.not_lt_zero _)
    | succ fu ih6 =>
      intro a i hm hi ha H locs ls hP hS hE0 hE1 hE2 hl
      refine lv_iload X.1 X.2.1 dX7_before_6 (lv_at hl 5 rfl) ?_
      refine lv_aload_n X.1 X.2.1 dX7_before_8 rfl (lv_at hl 0 rfl) ?_
      refine wm_get X hP hlt0 hE0 rfl wm_inX7 6 (by decide) wq5_28 rfl dX7_before_9 ?_
      refine lv_iload_n X.1 X.2.1 dX7_before_12 rfl (lv_at hl 1 rfl) ?_
      refine wm_iald (i := k) X hP hlt2 hE2 (by omega) (by decide) dX7_before_13 ?_
      refine wm_icmp_ge (x := i) (y := (ss k)) (tgt := 50) X (by omega) (by omega) dX7_before_14 (by decide) (fun hc14 => ?_) (fun hc14 => ?_)
      · refine lv_iload X.1 X.2.1 dX7_before_50 (lv_at hl 4 rfl) ?_
        exact wm_iret (post := pX7_before C b E th sz fa pl ats aa op fi la wa wc kl be k S lr ar ss) X hr hP hS ⟨(congrArg nI (ha.trans (show wm_or i _ = wm_or (ss k) _ from (show i = ss k from by omega) ▸ rfl))), rfl⟩ hQ dX7_before_52
      · refine lv_aload_n X.1 X.2.1 dX7_before_17 rfl (lv_at hl 0 rfl) ?_
        refine lv_iload_n X.1 X.2.1 dX7_before_18 rfl (lv_at hl 1 rfl) ?_
        refine lv_iload X.1 X.2.1 dX7_before_19 (lv_at hl 5 rfl) ?_
        refine lv_iload_n X.1 X.2.1 dX7_before_21 rfl (lv_at hl 3 rfl) ?_
        refine wm_callVi (k := 3) (As := [.int (nI k), .int (nI i), .int (nI lr)]) (rest := []) X hP hS hlt0 hE0 rfl (kX7_arcsOf l D C b n E th sz fa pl ats aa op fi la wa wc kl be k i lr ar hlt0 hE0 hlt1 hE1 (by omega) (by omega) (by omega)) wq5_236 wq5_238 wqP3_13 wq1_8 wq5_239 (by decide) (by rw [hRe]; exact ⟨Nat.le_of_ble_eq_true rfl, Nat.le_of_ble_eq_true rfl⟩) rfl hl.1 rfl (Nat.le_of_ble_eq_true rfl) (Nat.zero_le _) (Nat.zero_le _) dX7_before_22 (fun r2 E2 H locs hw hP hS => ?_)
        obtain ⟨hrt, hEe⟩ := hw
        subst hrt
        subst hEe
        refine lv_iload_n X.1 X.2.1 dX7_before_25 rfl (lv_at hl 2 rfl) ?_
        refine wm_iand (x := (ar (192 * k + 8 * i + lr))) (y := S) X dX7_before_26 ?_
        refine wm_if_eq (x := ((ar (192 * k + 8 * i + lr)) &&& S)) (tgt := 40) X (Nat.lt_of_le_of_lt Nat.and_le_right (by omega)) dX7_before_27 (by decide) (fun hc27 => ?_) (fun hc27 => ?_)
        · refine lv_iload X.1 X.2.1 dX7_before_40 (lv_at hl 4 rfl) ?_
          refine lv_istore (lv' := [(4, .int (nI a)), (0, .ref (b + 119)), (1, .int (nI k)), (2, .int (nI S)), (3, .int (nI lr)), (5, .int (nI i))]) X.1 X.2.1 dX7_before_42 hl (by decide) rfl (fun ls hl => ?_)
          refine lv_iinc (v := nI (i + 1)) (lv' := [(5, .int (nI (i + 1))), (4, .int (nI a)), (0, .ref (b + 119)), (1, .int (nI k)), (2, .int (nI S)), (3, .int (nI lr))]) X.1 X.2.1 dX7_before_44 hl (k := 5) rfl (wm_inc i) (by decide) rfl (fun ls hl => ?_)
          refine lv_goto (tgt := 6) X.1 X.2.1 dX7_before_47 (by decide) ?_
          exact ih6 a (i + 1) (by omega) (by omega) (wm_pr_f ha (if_neg (fun q => q hc27))) _ _ _ hP hS hE0 hE1 hE2 (lv_sub hl [2, 3, 4, 5, 1, 0] rfl)
        · refine lv_iload X.1 X.2.1 dX7_before_30 (lv_at hl 4 rfl) ?_
          refine lv_iconst (v := nI 1) X.1 X.2.1 dX7_before_32 (by decide) ?_
          refine lv_iload X.1 X.2.1 dX7_before_33 (lv_at hl 5 rfl) ?_
          refine wm_ishl (x := 1) (y := i) X (by omega) dX7_before_35 ?_
          refine wm_ior (x := a) (y := (1 <<< i)) X dX7_before_36 ?_
          refine lv_goto (tgt := 42) X.1 X.2.1 dX7_before_37 (by decide) ?_
          refine lv_istore (lv' := [(4, .int (nI (a ||| (1 <<< i)))), (0, .ref (b + 119)), (1, .int (nI k)), (2, .int (nI S)), (3, .int (nI lr)), (5, .int (nI i))]) X.1 X.2.1 dX7_before_42 hl (by decide) rfl (fun ls hl => ?_)
          refine lv_iinc (v := nI (i + 1)) (lv' := [(5, .int (nI (i + 1))), (4, .int (nI (a ||| (1 <<< i)))), (0, .ref (b + 119)), (1, .int (nI k)), (2, .int (nI S)), (3, .int (nI lr))]) X.1 X.2.1 dX7_before_44 hl (k := 5) rfl (wm_inc i) (by decide) rfl (fun ls hl => ?_)
          refine lv_goto (tgt := 6) X.1 X.2.1 dX7_before_47 (by decide) ?_
          exact ih6 (a ||| (1 <<< i)) (i + 1) (by omega) (by omega) (wm_pr_t ha _ (if_pos hc27)) _ _ _ hP hS hE0 hE1 hE2 (lv_sub hl [2, 3, 4, 5, 1, 0] rfl)
  exact L6 (24 - 0 + 1) 0 0 (Nat.lt_succ_self _) (by omega) rfl _ _ _ hP hS hE0 hE1 hE2 (lv_sub hl [2, 3, 4, 5, 1, 0] rfl)
def pX7_unmark (C : Nat → ClassId) (b : Nat) (E : Nat → va_E) (th sz fa pl ats aa op fi la wa wc kl : Nat) (be : Bool) (mk : Nat → Bool) : (Nat → va_E) → Prop := fun E' => ∃ (mk1 : Nat → Bool), E' 145 = wm_Z C 2048 mk1 ∧ (∀ j, j ≠ 145 → E' j = E j) ∧ (∀ S, S < 2048 → mk1 S = false)
set_option maxHeartbeats 4000000 in
set_option maxRecDepth 100000 in
theorem kX7_unmark (l : Launch) (D : va_G) (C : Nat → ClassId) (b n : Nat) (E : Nat → va_E) (th sz fa pl ats aa op fi la wa wc kl : Nat) (be : Bool) (mk : Nat → Bool) (hlt0 : 119 < n) (hE0 : E 119 = .inr (7, [.int (nI th), .ref (b + 120), .int (nI sz), .int (nI fa), .int (nI pl), .ref (b + 121), .ref (b + 122), .ref (b + 123), .ref (b + 124), .ref (b + 125), .ref (b + 126), .ref (b + 127), .int (nI ats), .int (nI aa), .ref (b + 128), .ref (b + 129), .ref (b + 130), .ref (b + 131), .ref (b + 132), .ref (b + 133), .int (nI op), .int (nI be.toNat), .int (nI fi), .int (nI la), .ref (b + 134), .ref (b + 135), .ref (b + 136), .int (nI wa), .ref (b + 137), .ref (b + 138), .ref (b + 139), .int (nI wc), .ref (b + 140), .int (nI kl), .ref (b + 141), .ref (b + 142), .ref (b + 143), .ref (b + 144), .ref (b + 145)])) (hlt1 : 145 < n) (hE1 : E 145 = wm_Z C 2048 mk) : Met l yX7_unmark (wm_ws yX7_unmark cX7_unmark 2 none) { frames := 0, cells := 0, slots := 0, locals := 0 } (va_Pc [.ref (b + 119)] (wm_G D C b n E)) (va_Qv (pX7_unmark C b E th sz fa pl ats aa op fi la wa wc kl be mk) (fun E' t => wm_P D b n E' t.heap) (wm_A b)) 0 0 (wm_A b) := by
  refine wm_ofW (by decide) (Nat.le_of_ble_eq_true rfl) (fun p e s m below meth c ls R args Q hRe hQ X hr hnm hP hS hl => ?_)
  have hl : lv_has ls 2 [(0, .ref (b + 119))] := hl
  have hfr : ∀ j, j ≠ 145 → E j = E j := fun _ _ => rfl
  refine lv_iconst (v := nI 0) X.1 X.2.1 dX7_unmark_0 (by decide) ?_
  refine lv_istore_n (lv' := [(1, .int (nI 0)), (0, .ref (b + 119))]) X.1 X.2.1 dX7_unmark_1 rfl hl (by decide) rfl (fun ls hl => ?_)
  have L2 : ∀ (fu : Nat) (i : Nat) (mk1 : Nat → Bool), 2048 - i < fu → (i ≤ 2048) → (∀ S, S < i → mk1 S = false) → ∀ (E1 : Nat → va_E) (H : Heap) (locs : List Loc) (ls : Array Slot), wm_P D b n E1 H → wm_S b s.heap H locs → E1 119 = .inr (7, [.int (nI th), .ref (b + 120), .int (nI sz), .int (nI fa), .int (nI pl), .ref (b + 121), .ref (b + 122), .ref (b + 123), .ref (b + 124), .ref (b + 125), .ref (b + 126), .ref (b + 127), .int (nI ats), .int (nI aa), .ref (b + 128), .ref (b + 129), .ref (b + 130), .ref (b + 131), .ref (b + 132), .ref (b + 133), .int (nI op), .int (nI be.toNat), .int (nI fi), .int (nI la), .ref (b + 134), .ref (b + 135), .ref (b + 136), .int (nI wa), .ref (b + 137), .ref (b + 138), .ref (b + 139), .int (nI wc), .ref (b + 140), .int (nI kl), .ref (b + 141), .ref (b + 142), .ref (b + 143), .ref (b + 144), .ref (b + 145)]) → E1 145 = wm_Z C 2048 mk1 → (∀ j, j ≠ 145 → E1 j = E j) → lv_has ls 2 [(0, .ref (b + 119)), (1, .int (nI i))] → W p l e R s m args below meth c H locs 0 0 Q (F0 m 2 ls []) := by
    intro fu
    induction fu with
    | zero => intro i mk1 hm; exact absurd hm (Nat.not_lt_zero _)
    | succ fu ih2 =>
      intro i mk1 hm hi h1 E1 H locs ls hP hS hE0 hE1 hfr hl
      refine lv_iload_n X.1 X.2.1 dX7_unmark_2 rfl (lv_at hl 1 rfl) ?_
      refine lv_sipush (v := nI 2048) X.1 X.2.1 dX7_unmark_3 (by decide) ?_
      refine wm_icmp_ge (x := i) (y := 2048) (tgt := 22) X (by omega) (by decide) dX7_unmark_6 (by decide) (fun hc6 => ?_) (fun hc6 => ?_)
      · exact wm_vret (post := pX7_unmark C b E th sz fa pl ats aa op fi la wa wc kl be mk) X hr hP hS ⟨mk1, hE1, hfr, (fun S h => h1 S (by omega))⟩ hQ dX7_unmark_22
      · refine lv_aload_n X.1 X.2.1 dX7_unmark_9 rfl (lv_at hl 0 rfl) ?_
        refine wm_get X hP hlt0 hE0 rfl wm_inX7 38 (by decide) wq5_60 rfl dX7_unmark_10 ?_
        refine lv_iload_n X.1 X.2.1 dX7_unmark_13 rfl (lv_at hl 1 rfl) ?_
        refine lv_iconst (v := nI 0) X.1 X.2.1 dX7_unmark_14 (by decide) ?_
        refine wm_zast (i := i) (x := false) X hP hS hlt1 hE1 (by omega) (by decide) dX7_unmark_15 (fun H locs E3 hP hS hE1 hq => ?_)
        have hE0 := (hq 119 (by decide)).trans hE0
        have hfr : ∀ j, j ≠ 145 → E3 j = E j := fun j h0 => (hq j h0).trans (hfr j h0)
        refine lv_iinc (v := nI (i + 1)) (lv' := [(1, .int (nI (i + 1))), (0, .ref (b + 119))]) X.1 X.2.1 dX7_unmark_16 hl (k := 1) rfl (wm_inc i) (by decide) rfl (fun ls hl => ?_)
        refine lv_goto (tgt := 2) X.1 X.2.1 dX7_unmark_19 (by decide) ?_
        exact ih2 (i + 1) (va_up mk1 i false) (by omega) (by omega) (wm_fillb h1) E3 _ _ _ hP hS hE0 hE1 hfr (lv_sub hl [1, 0] rfl)
  exact L2 (2048 - 0 + 1) 0 mk (Nat.lt_succ_self _) (by omega) (fun S h => absurd h (Nat.not_lt_zero _)) E _ _ _ hP hS hE0 hE1 hfr (lv_sub hl [1, 0] rfl)
def pX7_visit (C : Nat → ClassId) (b : Nat) (E : Nat → va_E) (th sz fa pl ats aa op fi la wa wc kl : Nat) (be : Bool) (t S : Nat) (L : List Nat) (mk : Nat → Bool) (li : Nat → Nat) : Int32 → (Nat → va_E) → Prop := fun r E' => ∃ (mk1 : Nat → Bool) (li1 : Nat → Nat), r = nI ((wm_vis L S).length) ∧ E' t = wm_I C 2048 li1 ∧ E' 145 = wm_Z C 2048 mk1 ∧ (∀ j, j ≠ t → j ≠ 145 → E' j = E j) ∧ wm_ml (wm_vis L S) 2048 mk1 li1
set_option maxHeartbeats 4000000 in
set_option maxRecDepth 100000 in
theorem kX7_visit (l : Launch) (D : va_G) (C : Nat → ClassId) (b n : Nat) (E : Nat → va_E) (th sz fa pl ats aa op fi la wa wc kl : Nat) (be : Bool) (t S : Nat) (L : List Nat) (mk : Nat → Bool) (li : Nat → Nat) (hlt0 : 119 < n) (hE0 : E 119 = .inr (7, [.int (nI th), .ref (b + 120), .int (nI sz), .int (nI fa), .int (nI pl), .ref (b + 121), .ref (b + 122), .ref (b + 123), .ref (b + 124), .ref (b + 125), .ref (b + 126), .ref (b + 127), .int (nI ats), .int (nI aa), .ref (b + 128), .ref (b + 129), .ref (b + 130), .ref (b + 131), .ref (b + 132), .ref (b + 133), .int (nI op), .int (nI be.toNat), .int (nI fi), .int (nI la), .ref (b + 134), .ref (b + 135), .ref (b + 136), .int (nI wa), .ref (b + 137), .ref (b + 138), .ref (b + 139), .int (nI wc), .ref (b + 140), .int (nI kl), .ref (b + 141), .ref (b + 142), .ref (b + 143), .ref (b + 144), .ref (b + 145)])) (hlt1 : t < n) (hE1 : E t = wm_I C 2048 li) (hlt2 : 145 < n) (hE2 : E 145 = wm_Z C 2048 mk) (ht : t = 143 ∨ t = 144) (hSc : S < 2048) (hml : wm_ml L 2048 mk li) : Met l yX7_visit (wm_ws yX7_visit cX7_visit 4 (some .int)) { frames := 0, cells := 0, slots := 0, locals := 0 } (va_Pc [.ref (b + 119), .ref (b + t), .int (nI L.length), .int (nI S)] (wm_G D C b n E)) (va_Qi (pX7_visit C b E th sz fa pl ats aa op fi la wa wc kl be t S L mk li) (fun E' t => wm_P D b n E' t.heap) (wm_A b)) 0 0 (wm_A b) := by
  refine wm_ofW (by decide) (Nat.le_of_ble_eq_true rfl) (fun p e s m below meth c ls R args Q hRe hQ X hr hnm hP hS hl => ?_)
  have hl : lv_has ls 4 [(0, .ref (b + 119)), (1, .ref (b + t)), (2, .int (nI L.length)), (3, .int (nI S))] := hl
  have hfr : ∀ j, j ≠ t → j ≠ 145 → E j = E j := fun _ _ _ => rfl
  have hlen := wm_ml_len hml
  refine lv_aload_n X.1 X.2.1 dX7_visit_0 rfl (lv_at hl 0 rfl) ?_
  refine wm_get X hP hlt0 hE0 rfl wm_inX7 38 (by decide) wq5_60 rfl dX7_visit_1 ?_
  refine lv_iload_n X.1 X.2.1 dX7_visit_4 rfl (lv_at hl 3 rfl) ?_
  refine wm_zald (i := S) X hP hlt2 hE2 (by omega) (by decide) dX7_visit_5 ?_
  refine wm_ifz_eq (x := (mk S)) (tgt := 11) X dX7_visit_6 (by decide) (fun hc6 => ?_) (fun hc6 => ?_)
  · have hnw := (wm_ml_new hml hSc hc6).2.1
    refine lv_aload_n X.1 X.2.1 dX7_visit_11 rfl (lv_at hl 0 rfl) ?_
    refine wm_get X hP hlt0 hE0 rfl wm_inX7 38 (by decide) wq5_60 rfl dX7_visit_12 ?_
    refine lv_iload_n X.1 X.2.1 dX7_visit_15 rfl (lv_at hl 3 rfl) ?_
    refine lv_iconst (v := nI 1) X.1 X.2.1 dX7_visit_16 (by decide) ?_
    refine wm_zast (i := S) (x := true) X hP hS hlt2 hE2 (by omega) (by decide) dX7_visit_17 (fun H locs E2 hP hS hE2 hq => ?_)
    have hE0 := (hq 119 (by decide)).trans hE0
    have hE1 := (hq t (by omega)).trans hE1
    have hfr : ∀ j, j ≠ t → j ≠ 145 → E2 j = E j := fun j h0 h1 => (hq j h1).trans (hfr j h0 h1)
    refine lv_aload_n X.1 X.2.1 dX7_visit_18 rfl (lv_at hl 1 rfl) ?_
    refine lv_iload_n X.1 X.2.1 dX7_visit_19 rfl (lv_at hl 2 rfl) ?_
    refine lv_iload_n X.1 X.2.1 dX7_visit_20 rfl (lv_at hl 3 rfl) ?_
    refine wm_iast (i := L.length) (x := S) X hP hS hlt1 hE1 (by omega) (by decide) dX7_visit_21 (fun H locs E3 hP hS hE1 hq => ?_)
    have hE0 := (hq 119 (by omega)).trans hE0
    have hE2 := (hq 145 (by omega)).trans hE2
    have hfr : ∀ j, j ≠ t → j ≠ 145 → E3 j = E j := fun j h0 h1 => (hq j h0).trans (hfr j h0 h1)
    refine lv_iload_n X.1 X.2.1 dX7_visit_22 rfl (lv_at hl 2 rfl) ?_
    refine lv_iconst (v := nI 1) X.1 X.2.1 dX7_visit_23 (by decide) ?_
    refine wm_iadd (x := L.length) (y := 1) X dX7_visit_24 ?_
    have hv := wm_ml_new hml hSc hc6
    exact wm_iret (post := pX7_visit C b E th sz fa pl ats aa op fi la wa wc kl be t S L mk li) X hr hP hS ⟨(va_up mk S true), (va_up li L.length S), (by rw [hv.1, List.length_append]; rfl), hE1, hE2, hfr, (by rw [hv.1]; exact hv.2.2)⟩ hQ dX7_visit_25
  · refine lv_iload_n X.1 X.2.1 dX7_visit_9 rfl (lv_at hl 2 rfl) ?_
    have hv := wm_ml_old hml hSc hc6
    have hmk : va_up mk S true = mk := by rw [← hc6]; exact (wm_up_idb mk S).symm
    exact wm_iret (post := pX7_visit C b E th sz fa pl ats aa op fi la wa wc kl be t S L mk li) X hr hP hS ⟨mk, li, (by rw [hv.1]), hE1, hE2, hfr, (by rw [hv.1]; exact hml)⟩ hQ dX7_visit_10
def pX7_findSets (C : Nat → ClassId) (b : Nat) (E : Nat → va_E) (th sz fa pl ats aa op fi la wa wc kl : Nat) (be : Bool) (k : Nat) (ar ss sa fn : Nat → Nat) (mk : Nat → Bool) : Int32 → (Nat → va_E) → Prop := fun r E' => ∃ (mk1 : Nat → Bool) (fn1 : Nat → Nat), r = nI ((wm_bfs (fun S a => wm_af ar k (ss k) a S) 2049 0 [sa k]).length) ∧ E' 143 = wm_I C 2048 fn1 ∧ E' 145 = wm_Z C 2048 mk1 ∧ (∀ j, j ≠ 143 → j ≠ 145 → E' j = E j) ∧ wm_ml (wm_bfs (fun S a => wm_af ar k (ss k) a S) 2049 0 [sa k]) 2048 mk1 fn1
set_option maxHeartbeats 4000000 in
set_option maxRecDepth 100000 in
theorem kX7_findSets (l : Launch) (D : va_G) (C : Nat → ClassId) (b n : Nat) (E : Nat → va_E) (th sz fa pl ats aa op fi la wa wc kl : Nat) (be : Bool) (k : Nat) (ar ss sa fn : Nat → Nat) (mk : Nat → Bool) (hlt0 : 119 < n) (hE0 : E 119 = .inr (7, [.int (nI th), .ref (b + 120), .int (nI sz), .int (nI fa), .int (nI pl), .ref (b + 121), .ref (b + 122), .ref (b + 123), .ref (b + 124), .ref (b + 125), .ref (b + 126), .ref (b + 127), .int (nI ats), .int (nI aa), .ref (b + 128), .ref (b + 129), .ref (b + 130), .ref (b + 131), .ref (b + 132), .ref (b + 133), .int (nI op), .int (nI be.toNat), .int (nI fi), .int (nI la), .ref (b + 134), .ref (b + 135), .ref (b + 136), .int (nI wa), .ref (b + 137), .ref (b + 138), .ref (b + 139), .int (nI wc), .ref (b + 140), .int (nI kl), .ref (b + 141), .ref (b + 142), .ref (b + 143), .ref (b + 144), .ref (b + 145)])) (hlt1 : 121 < n) (hE1 : E 121 = wm_I C 1536 ar) (hlt2 : 122 < n) (hE2 : E 122 = wm_I C 8 ss) (hlt3 : 123 < n) (hE3 : E 123 = wm_I C 8 sa) (hlt4 : 143 < n) (hE4 : E 143 = wm_I C 2048 fn) (hlt5 : 145 < n) (hE5 : E 145 = wm_Z C 2048 mk) (hkk : k < 8) (hsk : ss k ≤ 11) (hsa : sa k < 2 ^ ss k) (hg : ∀ a x, a < 8 → x < ss k → ar (192 * k + 8 * x + a) < 2 ^ ss k) : Met l yX7_findSets (wm_ws yX7_findSets cX7_findSets 5 (some .int)) { frames := 2, cells := 0, slots := 0, locals := 48 } (va_Pc [.ref (b + 119), .int (nI k)] (wm_G D C b n E)) (va_Qi (pX7_findSets C b E th sz fa pl ats aa op fi la wa wc kl be k ar ss sa fn mk) (fun E' t => wm_P D b n E' t.heap) (wm_A b)) 0 0 (wm_A b) := by
  refine wm_ofW (by decide) (Nat.le_of_ble_eq_true rfl) (fun p e s m below meth c ls R args Q hRe hQ X hr hnm hP hS hl => ?_)
  have hl : lv_has ls 5 [(0, .ref (b + 119)), (1, .int (nI k))] := hl
  have hfr : ∀ j, j ≠ 143 → j ≠ 145 → E j = E j := fun _ _ _ => rfl
  have h2c : 2 ^ ss k ≤ 2048 := Nat.pow_le_pow_right (show 0 < 2 by decide) hsk
  refine lv_aload_n X.1 X.2.1 dX7_findSets_0 rfl (lv_at hl 0 rfl) ?_
  refine wm_callVv (k := 0) (As := []) (rest := []) X hP hS hlt0 hE0 rfl (kX7_unmark l D C b n E th sz fa pl ats aa op fi la wa wc kl be mk hlt0 hE0 hlt5 hE5) wq6_71 wq6_73 wqP4_4 wq1_8 wq6_74 (by decide) (by rw [hRe]; exact ⟨Nat.le_of_ble_eq_true rfl, Nat.le_of_ble_eq_true rfl⟩) rfl hl.1 rfl (Nat.le_of_ble_eq_true rfl) (Nat.zero_le _) (Nat.zero_le _) dX7_findSets_1 (fun E1 H locs hw hP hS => ?_)
  obtain ⟨mk11, hE5, hq, hp1_0⟩ := hw
  have hE0 := (hq 119 (by decide)).trans hE0
  have hE1 := (hq 121 (by decide)).trans hE1
  have hE2 := (hq 122 (by decide)).trans hE2
  have hE3 := (hq 123 (by decide)).trans hE3
  have hE4 := (hq 143 (by decide)).trans hE4
  have hfr : ∀ j, j ≠ 143 → j ≠ 145 → E1 j = E j := fun j h0 h1 => (hq j h1).trans (hfr j h0 h1)
  have hcl := hp1_0
  refine lv_aload_n X.1 X.2.1 dX7_findSets_4 rfl (lv_at hl 0 rfl) ?_
  refine lv_aload_n X.1 X.2.1 dX7_findSets_5 rfl (lv_at hl 0 rfl) ?_
  refine wm_get X hP hlt0 hE0 rfl wm_inX7 36 (by decide) wq5_58 rfl dX7_findSets_6 ?_
  refine lv_iconst (v := nI 0) X.1 X.2.1 dX7_findSets_9 (by decide) ?_
  refine lv_aload_n X.1 X.2.1 dX7_findSets_10 rfl (lv_at hl 0 rfl) ?_
  refine wm_get X hP hlt0 hE0 rfl wm_inX7 7 (by decide) wq5_29 rfl dX7_findSets_11 ?_
  refine lv_iload_n X.1 X.2.1 dX7_findSets_14 rfl (lv_at hl 1 rfl) ?_
  refine wm_iald (i := k) X hP hlt3 hE3 (by omega) (by decide) dX7_findSets_15 ?_
  refine wm_callVi (k := 3) (As := [.ref (b + 143), .int (nI (([] : List Nat).length)), .int (nI (sa k))]) (rest := []) X hP hS hlt0 hE0 rfl (kX7_visit l D C b n E1 th sz fa pl ats aa op fi la wa wc kl be 143 (sa k) ([] : List Nat) mk11 fn hlt0 hE0 hlt4 hE4 hlt5 hE5 (Or.inl rfl) (by omega) (wm_ml0 hcl)) wq6_75 wq6_77 wqP4_5 wq1_8 wq6_78 (by decide) (by rw [hRe]; exact ⟨Nat.le_of_ble_eq_true rfl, Nat.le_of_ble_eq_true rfl⟩) rfl hl.1 rfl (Nat.le_of_ble_eq_true rfl) (Nat.zero_le _) (Nat.zero_le _) dX7_findSets_16 (fun r2 E2 H locs hw hP hS => ?_)
  obtain ⟨mk12, li12, hrt, hE4, hE5, hq, hp2_0⟩ := hw
  subst hrt
  have hE0 := (hq 119 (by decide) (by decide)).trans hE0
  have hE1 := (hq 121 (by decide) (by decide)).trans hE1
  have hE2 := (hq 122 (by decide) (by decide)).trans hE2
  have hE3 := (hq 123 (by decide) (by decide)).trans hE3
  have hfr : ∀ j, j ≠ 143 → j ≠ 145 → E2 j = E j := fun j h0 h1 => (hq j h0 h1).trans (hfr j h0 h1)
  refine lv_istore_n (lv' := [(2, .int (nI ([sa k].length))), (0, .ref (b + 119)), (1, .int (nI k))]) X.1 X.2.1 dX7_findSets_19 rfl hl (by decide) rfl (fun ls hl => ?_)
  refine lv_iconst (v := nI 0) X.1 X.2.1 dX7_findSets_20 (by decide) ?_
  refine lv_istore_n (lv' := [(3, .int (nI 0)), (2, .int (nI ([sa k].length))), (0, .ref (b + 119)), (1, .int (nI k))]) X.1 X.2.1 dX7_findSets_21 rfl hl (by decide) rfl (fun ls hl => ?_)
  have L22 : ∀ (fu : Nat) (i : Nat) (L : List Nat) (mk2 : Nat → Bool) (fn2 : Nat → Nat), 2049 - i < fu → (i ≤ L.length) → (wm_ml L 2048 mk2 fn2) → (wm_bfs (fun S a => wm_af ar k (ss k) a S) (2049 - i) i L = (wm_bfs (fun S a => wm_af ar k (ss k) a S) 2049 0 [sa k])) → ∀ (E3 : Nat → va_E) (H : Heap) (locs : List Loc) (ls : Array Slot), wm_P D b n E3 H → wm_S b s.heap H locs → E3 119 = .inr (7, [.int (nI th), .ref (b + 120), .int (nI sz), .int (nI fa), .int (nI pl), .ref (b + 121), .ref (b + 122), .ref (b + 123), .ref (b + 124), .ref (b + 125), .ref (b + 126), .ref (b + 127), .int (nI ats), .int (nI aa), .ref (b + 128), .ref (b + 129), .ref (b + 130), .ref (b + 131), .ref (b + 132), .ref (b + 133), .int (nI op), .int (nI be.toNat), .int (nI fi), .int (nI la), .ref (b + 134), .ref (b + 135), .ref (b + 136), .int (nI wa), .ref (b + 137), .ref (b + 138), .ref (b + 139), .int (nI wc), .ref (b + 140), .int (nI kl), .ref (b + 141), .ref (b + 142), .ref (b + 143), .ref (b + 144), .ref (b + 145)]) → E3 121 = wm_I C 1536 ar → E3 122 = wm_I C 8 ss → E3 123 = wm_I C 8 sa → E3 143 = wm_I C 2048 fn2 → E3 145 = wm_Z C 2048 mk2 → (∀ j, j ≠ 143 → j ≠ 145 → E3 j = E j) → lv_has ls 5 [(0, .ref (b + 119)), (1, .int (nI k)), (2, .int (nI L.length)), (3, .int (nI i))] → W p l e R s m args below meth c H locs 0 0 Q (F0 m 22 ls []) := by
    intro fu
    induction fu with
    | zero => intro i L mk2 fn2 hm; exact absurd hm (Nat.not_lt_zero _)
    | succ fu ih22 =>
      intro i L mk2 fn2 hm hi hml hbf E3 H locs ls hP hS hE0 hE1 hE2 hE3 hE4 hE5 hfr hl
      have hlen := wm_ml_len hml
      refine lv_iload_n X.1 X.2.1 dX7_findSets_22 rfl (lv_at hl 3 rfl) ?_
      refine lv_iload_n X.1 X.2.1 dX7_findSets_23 rfl (lv_at hl 2 rfl) ?_
      refine wm_icmp_ge (x := i) (y := L.length) (tgt := 72) X (by omega) (by omega) dX7_findSets_24 (by decide) (fun hc24 => ?_) (fun hc24 => ?_)
      · refine lv_iload_n X.1 X.2.1 dX7_findSets_72 rfl (lv_at hl 2 rfl) ?_
        have hfin : L = (wm_bfs (fun S a => wm_af ar k (ss k) a S) 2049 0 [sa k]) := by rw [← hbf]; exact (wm_bfs_e hc24).symm
        exact wm_iret (post := pX7_findSets C b E th sz fa pl ats aa op fi la wa wc kl be k ar ss sa fn mk) X hr hP hS ⟨mk2, fn2, (by rw [← hfin]), hE4, hE5, hfr, (by rw [← hfin]; exact hml)⟩ hQ dX7_findSets_73
      · refine lv_iconst (v := nI 0) X.1 X.2.1 dX7_findSets_27 (by decide) ?_
        refine lv_istore (lv' := [(4, .int (nI 0)), (0, .ref (b + 119)), (1, .int (nI k)), (2, .int (nI L.length)), (3, .int (nI i))]) X.1 X.2.1 dX7_findSets_28 hl (by decide) rfl (fun ls hl => ?_)
        have L30 : ∀ (fu : Nat) (a : Nat) (mk3 : Nat → Bool) (fn3 : Nat → Nat), 8 - a < fu → (a ≤ 8) → (wm_ml (wm_vf (fun a => wm_af ar k (ss k) a (L.getD i 0)) a L) 2048 mk3 fn3) → ∀ (E5 : Nat → va_E) (H : Heap) (locs : List Loc) (ls : Array Slot), wm_P D b n E5 H → wm_S b s.heap H locs → E5 119 = .inr (7, [.int (nI th), .ref (b + 120), .int (nI sz), .int (nI fa), .int (nI pl), .ref (b + 121), .ref (b + 122), .ref (b + 123), .ref (b + 124), .ref (b + 125), .ref (b + 126), .ref (b + 127), .int (nI ats), .int (nI aa), .ref (b + 128), .ref (b + 129), .ref (b + 130), .ref (b + 131), .ref (b + 132), .ref (b + 133), .int (nI op), .int (nI be.toNat), .int (nI fi), .int (nI la), .ref (b + 134), .ref (b + 135), .ref (b + 136), .int (nI wa), .ref (b + 137), .ref (b + 138), .ref (b + 139), .int (nI wc), .ref (b + 140), .int (nI kl), .ref (b + 141), .ref (b + 142), .ref (b + 143), .ref (b + 144), .ref (b + 145)]) → E5 121 = wm_I C 1536 ar → E5 122 = wm_I C 8 ss → E5 123 = wm_I C 8 sa → E5 143 = wm_I C 2048 fn3 → E5 145 = wm_Z C 2048 mk3 → (∀ j, j ≠ 143 → j ≠ 145 → E5 j = E j) → lv_has ls 5 [(0, .ref (b + 119)), (1, .int (nI k)), (2, .int (nI ((wm_vf (fun a => wm_af ar k (ss k) a (L.getD i 0)) a L).length))), (3, .int (nI i)), (4, .int (nI a))] → W p l e R s m args below meth c H locs 0 0 Q (F0 m 30 ls []) := by
          intro fu
          induction fu with
          | zero => intro a mk3 fn3 hm; exact absurd hm (Nat.not_lt_zero _)
          | succ fu ih30 =>
            intro a mk3 fn3 hm ha hml2 E5 H locs ls hP hS hE0 hE1 hE2 hE3 hE4 hE5 hfr hl
            have hlen2 := wm_ml_len hml2
            have hpre := wm_vf_pre (fun a => wm_af ar k (ss k) a (L.getD i 0)) L a
            refine lv_iload X.1 X.2.1 dX7_findSets_30 (lv_at hl 4 rfl) ?_
            refine lv_bipush (v := nI 8) X.1 X.2.1 dX7_findSets_32 (by decide) ?_
            refine wm_icmp_ge (x := a) (y := 8) (tgt := 66) X (by omega) (by decide) dX7_findSets_34 (by decide) (fun hc34 => ?_) (fun hc34 => ?_)
            · refine lv_iinc (v := nI (i + 1)) (lv' := [(3, .int (nI (i + 1))), (0, .ref (b + 119)), (1, .int (nI k)), (2, .int (nI ((wm_vf (fun a => wm_af ar k (ss k) a (L.getD i 0)) a L).length))), (4, .int (nI a))]) X.1 X.2.1 dX7_findSets_66 hl (k := 3) rfl (wm_inc i) (by decide) rfl (fun ls hl => ?_)
              refine lv_goto (tgt := 22) X.1 X.2.1 dX7_findSets_69 (by decide) ?_
              have ha8 : a = 8 := by omega
              have hpre := wm_vf_pre (fun a => wm_af ar k (ss k) a (L.getD i 0)) L a
              exact ih22 (i + 1) (wm_vf (fun a => wm_af ar k (ss k) a (L.getD i 0)) a L) mk3 fn3 (by omega) (by omega) hml2 (by rw [ha8, ← hbf, show 2049 - i = 2049 - (i + 1) + 1 by omega, wm_bfs_s hc24]) E5 _ _ _ hP hS hE0 hE1 hE2 hE3 hE4 hE5 hfr (lv_sub hl [1, 2, 3, 0] rfl)
            · refine lv_aload_n X.1 X.2.1 dX7_findSets_37 rfl (lv_at hl 0 rfl) ?_
              refine lv_aload_n X.1 X.2.1 dX7_findSets_38 rfl (lv_at hl 0 rfl) ?_
              refine wm_get X hP hlt0 hE0 rfl wm_inX7 36 (by decide) wq5_58 rfl dX7_findSets_39 ?_
              refine lv_iload_n X.1 X.2.1 dX7_findSets_42 rfl (lv_at hl 2 rfl) ?_
              refine lv_aload_n X.1 X.2.1 dX7_findSets_43 rfl (lv_at hl 0 rfl) ?_
              refine lv_iload_n X.1 X.2.1 dX7_findSets_44 rfl (lv_at hl 1 rfl) ?_
              refine lv_aload_n X.1 X.2.1 dX7_findSets_45 rfl (lv_at hl 0 rfl) ?_
              refine wm_get X hP hlt0 hE0 rfl wm_inX7 36 (by decide) wq5_58 rfl dX7_findSets_46 ?_
              refine lv_iload_n X.1 X.2.1 dX7_findSets_49 rfl (lv_at hl 3 rfl) ?_
              refine wm_iald (i := i) X hP hlt4 hE4 (by omega) (by decide) dX7_findSets_50 ?_
              have hmi : fn3 i = L.getD i 0 := (hml2.2.1 i (by omega)).trans (hpre.2 i hc24)
              have hin := wm_bit_ml hml hc24
              rw [show fn3 i = L.getD i 0 from hmi]
              refine lv_iload X.1 X.2.1 dX7_findSets_51 (lv_at hl 4 rfl) ?_
              refine wm_callVi (k := 3) (As := [.int (nI k), .int (nI (L.getD i 0)), .int (nI a)]) (rest := [.int (nI ((wm_vf (fun a => wm_af ar k (ss k) a (L.getD i 0)) a L).length)), .ref (b + 143), .ref (b + 119)]) X hP hS hlt0 hE0 rfl (kX7_after l D C b n E5 th sz fa pl ats aa op fi la wa wc kl be k (L.getD i 0) a ar ss hlt0 hE0 hlt1 hE1 hlt2 hE2 (by omega) (by omega) (by omega) (by omega)) wq6_27 wq6_29 wqP3_14 wq1_8 wq6_30 (by decide) (by rw [hRe]; exact ⟨Nat.le_of_ble_eq_true rfl, Nat.le_of_ble_eq_true rfl⟩) rfl hl.1 rfl (Nat.le_of_ble_eq_true rfl) (Nat.zero_le _) (Nat.zero_le _) dX7_findSets_53 (fun r7 E7 H locs hw hP hS => ?_)
              obtain ⟨hrt, hEe⟩ := hw
              subst hrt
              subst hEe
              refine wm_callVi (k := 3) (As := [.ref (b + 143), .int (nI ((wm_vf (fun a => wm_af ar k (ss k) a (L.getD i 0)) a L).length)), .int (nI (wm_af ar k (ss k) a (L.getD i 0)))]) (rest := []) X hP hS hlt0 hE0 rfl (kX7_visit l D C b n E5 th sz fa pl ats aa op fi la wa wc kl be 143 (wm_af ar k (ss k) a (L.getD i 0)) (wm_vf (fun a => wm_af ar k (ss k) a (L.getD i 0)) a L) mk3 fn3 hlt0 hE0 hlt4 hE4 hlt5 hE5 (Or.inl rfl) (Nat.lt_of_lt_of_le (wm_af_lt (fun x hx => hg a x (by omega) hx)) h2c) hml2) wq6_75 wq6_77 wqP4_5 wq1_8 wq6_78 (by decide) (by rw [hRe]; exact ⟨Nat.le_of_ble_eq_true rfl, Nat.le_of_ble_eq_true rfl⟩) rfl hl.1 rfl (Nat.le_of_ble_eq_true rfl) (Nat.zero_le _) (Nat.zero_le _) dX7_findSets_56 (fun r8 E8 H locs hw hP hS => ?_)
              obtain ⟨mk18, li18, hrt, hE4, hE5, hq, hp8_0⟩ := hw
              subst hrt
              have hE0 := (hq 119 (by decide) (by decide)).trans hE0
              have hE1 := (hq 121 (by decide) (by decide)).trans hE1
              have hE2 := (hq 122 (by decide) (by decide)).trans hE2
              have hE3 := (hq 123 (by decide) (by decide)).trans hE3
              have hfr : ∀ j, j ≠ 143 → j ≠ 145 → E8 j = E j := fun j h0 h1 => (hq j h0 h1).trans (hfr j h0 h1)
              refine lv_istore_n (lv' := [(2, .int (nI ((wm_vf (fun a => wm_af ar k (ss k) a (L.getD i 0)) (a + 1) L).length))), (0, .ref (b + 119)), (1, .int (nI k)), (3, .int (nI i)), (4, .int (nI a))]) X.1 X.2.1 dX7_findSets_59 rfl hl (by decide) rfl (fun ls hl => ?_)
              refine lv_iinc (v := nI (a + 1)) (lv' := [(4, .int (nI (a + 1))), (2, .int (nI ((wm_vf (fun a => wm_af ar k (ss k) a (L.getD i 0)) (a + 1) L).length))), (0, .ref (b + 119)), (1, .int (nI k)), (3, .int (nI i))]) X.1 X.2.1 dX7_findSets_60 hl (k := 4) rfl (wm_inc a) (by decide) rfl (fun ls hl => ?_)
              refine lv_goto (tgt := 30) X.1 X.2.1 dX7_findSets_63 (by decide) ?_
              exact ih30 (a + 1) mk18 li18 (by omega) (by omega) hp8_0 E8 _ _ _ hP hS hE0 hE1 hE2 hE3 hE4 hE5 hfr (lv_sub hl [2, 3, 1, 4, 0] rfl)
        exact L30 (8 - 0 + 1) 0 mk2 fn2 (Nat.lt_succ_self _) (by omega) hml E3 _ _ _ hP hS hE0 hE1 hE2 hE3 hE4 hE5 hfr (lv_sub hl [1, 2, 3, 4, 0] rfl)
  exact L22 (2049 - 0 + 1) 0 ([sa k]) mk12 li12 (Nat.lt_succ_self _) (Nat.zero_le _) hp2_0 rfl E2 _ _ _ hP hS hE0 hE1 hE2 hE3 hE4 hE5 hfr (lv_sub hl [2, 3, 1, 0] rfl)
def pmsetsX (C : Nat → ClassId) (b : Nat) (E : Nat → va_E) (th sz fa pl ats aa op fi la wa wc kl : Nat) (be : Bool) (x : Int32) : Int32 → (Nat → va_E) → Prop := fun r E' => r = nI 0 ∧ E' 119 = .inr (7, [.int (nI 1), .ref (b + 120), .int (nI sz), .int (nI fa), .int (nI pl), .ref (b + 121), .ref (b + 122), .ref (b + 123), .ref (b + 124), .ref (b + 125), .ref (b + 126), .ref (b + 127), .int (nI ats), .int (nI aa), .ref (b + 128), .ref (b + 129), .ref (b + 130), .ref (b + 131), .ref (b + 132), .ref (b + 133), .int (nI op), .int (nI be.toNat), .int (nI fi), .int (nI la), .ref (b + 134), .ref (b + 135), .ref (b + 136), .int (nI wa), .ref (b + 137), .ref (b + 138), .ref (b + 139), .int (nI wc), .ref (b + 140), .int (nI kl), .ref (b + 141), .ref (b + 142), .ref (b + 143), .ref (b + 144), .ref (b + 145)]) ∧ (∀ j, j ≠ 119 → E' j = E j)
set_option maxHeartbeats 4000000 in
set_option maxRecDepth 100000 in
theorem kmsetsX (l : Launch) (D : va_G) (C : Nat → ClassId) (b n : Nat) (E : Nat → va_E) (th sz fa pl ats aa op fi la wa wc kl : Nat) (be : Bool) (x : Int32) (hlt0 : 119 < n) (hE0 : E 119 = .inr (7, [.int (nI th), .ref (b + 120), .int (nI sz), .int (nI fa), .int (nI pl), .ref (b + 121), .ref (b + 122), .ref (b + 123), .ref (b + 124), .ref (b + 125), .ref (b + 126), .ref (b + 127), .int (nI ats), .int (nI aa), .ref (b + 128), .ref (b + 129), .ref (b + 130), .ref (b + 131), .ref (b + 132), .ref (b + 133), .int (nI op), .int (nI be.toNat), .int (nI fi), .int (nI la), .ref (b + 134), .ref (b + 135), .ref (b + 136), .int (nI wa), .ref (b + 137), .ref (b + 138), .ref (b + 139), .int (nI wc), .ref (b + 140), .int (nI kl), .ref (b + 141), .ref (b + 142), .ref (b + 143), .ref (b + 144), .ref (b + 145)])) (hk : ¬ (0 ≤ x ∧ x < nI 8)) : Met l yX7_sets (wm_ws yX7_sets cX7_sets 2 (some .int)) { frames := 1, cells := 0, slots := 0, locals := 21 } (va_Pc [.ref (b + 119), .int x] (wm_G D C b n E)) (va_Qi (pmsetsX C b E th sz fa pl ats aa op fi la wa wc kl be x) (fun E' t => wm_P D b n E' t.heap) (wm_A b)) 0 0 (wm_A b) := by
  refine wm_ofW (by decide) (Nat.le_of_ble_eq_true rfl) (fun p e s m below meth c ls R args Q hRe hQ X hr hnm hP hS hl => ?_)
  have hl : lv_has ls 2 [(0, .ref (b + 119)), (1, .int x)] := hl
  have hfr : ∀ j, j ≠ 119 → E j = E j := fun _ _ => rfl
  refine lv_aload_n X.1 X.2.1 dX7_sets_0 rfl (lv_at hl 0 rfl) ?_
  refine lv_aload_n X.1 X.2.1 dX7_sets_1 rfl (lv_at hl 0 rfl) ?_
  refine lv_iload_n X.1 X.2.1 dX7_sets_2 rfl (lv_at hl 1 rfl) ?_
  refine wm_callVi (k := 1) (As := [.int x]) (rest := [.ref (b + 119)]) X hP hS hlt0 hE0 rfl (knoMachX l D C b n E x (by omega)) wq5_157 wq5_159 wqP2_15 wq1_8 wq5_160 (by decide) (by rw [hRe]; exact ⟨Nat.le_of_ble_eq_true rfl, Nat.le_of_ble_eq_true rfl⟩) rfl hl.1 rfl (Nat.le_of_ble_eq_true rfl) (Nat.zero_le _) (Nat.zero_le _) dX7_sets_3 (fun r1 E1 H locs hw hP hS => ?_)
  obtain ⟨hrt, hEe⟩ := hw
  subst hrt
  subst hEe
  refine wm_ifz_eq (x := true) (tgt := 13) X dX7_sets_6 (by decide) (fun h => by exfalso; revert h; decide) (fun _ => ?_)
  refine lv_iconst (v := nI 1) X.1 X.2.1 dX7_sets_9 (by decide) ?_
  refine lv_goto (tgt := 26) X.1 X.2.1 dX7_sets_10 (by decide) ?_
  refine wm_put (v := .int (nI 1)) X hP hS hlt0 hE0 rfl wm_inX7 tyX7 tyX7_ok nmX7 0 (by decide) wq5_22 rfl rfl rfl (fs1 := [.int (nI 1), .ref (b + 120), .int (nI sz), .int (nI fa), .int (nI pl), .ref (b + 121), .ref (b + 122), .ref (b + 123), .ref (b + 124), .ref (b + 125), .ref (b + 126), .ref (b + 127), .int (nI ats), .int (nI aa), .ref (b + 128), .ref (b + 129), .ref (b + 130), .ref (b + 131), .ref (b + 132), .ref (b + 133), .int (nI op), .int (nI be.toNat), .int (nI fi), .int (nI la), .ref (b + 134), .ref (b + 135), .ref (b + 136), .int (nI wa), .ref (b + 137), .ref (b + 138), .ref (b + 139), .int (nI wc), .ref (b + 140), .int (nI kl), .ref (b + 141), .ref (b + 142), .ref (b + 143), .ref (b + 144), .ref (b + 145)]) rfl (Nat.le_of_ble_eq_true rfl) dX7_sets_26 (fun H locs E2 hP hS hE0 hq => ?_)
  have hfr : ∀ j, j ≠ 119 → E2 j = E j := fun j h0 => (hq j h0).trans (hfr j h0)
  refine lv_aload_n X.1 X.2.1 dX7_sets_29 rfl (lv_at hl 0 rfl) ?_
  refine wm_get X hP hlt0 hE0 rfl wm_inX7 0 (by decide) wq5_22 rfl dX7_sets_30 ?_
  refine lv_if_le (tgt := 40) X.1 X.2.1 dX7_sets_33 (by decide) (fun h => by exfalso; revert h; decide) (fun _ => ?_)
  refine lv_iconst (v := nI 0) X.1 X.2.1 dX7_sets_36 (by decide) ?_
  refine lv_goto (tgt := 45) X.1 X.2.1 dX7_sets_37 (by decide) ?_
  exact wm_iret (post := pmsetsX C b E th sz fa pl ats aa op fi la wa wc kl be x) X hr hP hS ⟨rfl, hE0, hfr⟩ hQ dX7_sets_45
def pmsetsA (C : Nat → ClassId) (b : Nat) (E : Nat → va_E) (th sz fa pl ats aa op fi la wa wc kl : Nat) (be : Bool) (k : Nat) (ss : Nat → Nat) : Int32 → (Nat → va_E) → Prop := fun r E' => r = nI 0 ∧ E' 119 = .inr (7, [.int (nI 2), .ref (b + 120), .int (nI sz), .int (nI fa), .int (nI pl), .ref (b + 121), .ref (b + 122), .ref (b + 123), .ref (b + 124), .ref (b + 125), .ref (b + 126), .ref (b + 127), .int (nI ats), .int (nI aa), .ref (b + 128), .ref (b + 129), .ref (b + 130), .ref (b + 131), .ref (b + 132), .ref (b + 133), .int (nI op), .int (nI be.toNat), .int (nI fi), .int (nI la), .ref (b + 134), .ref (b + 135), .ref (b + 136), .int (nI wa), .ref (b + 137), .ref (b + 138), .ref (b + 139), .int (nI wc), .ref (b + 140), .int (nI kl), .ref (b + 141), .ref (b + 142), .ref (b + 143), .ref (b + 144), .ref (b + 145)]) ∧ (∀ j, j ≠ 119 → E' j = E j)
set_option maxHeartbeats 4000000 in
set_option maxRecDepth 100000 in
theorem kmsetsA (l : Launch) (D : va_G) (C : Nat → ClassId) (b n : Nat) (E : Nat → va_E) (th sz fa pl ats aa op fi la wa wc kl : Nat) (be : Bool) (k : Nat) (ss : Nat → Nat) (hlt0 : 119 < n) (hE0 : E 119 = .inr (7, [.int (nI th), .ref (b + 120), .int (nI sz), .int (nI fa), .int (nI pl), .ref (b + 121), .ref (b + 122), .ref (b + 123), .ref (b + 124), .ref (b + 125), .ref (b + 126), .ref (b + 127), .int (nI ats), .int (nI aa), .ref (b + 128), .ref (b + 129), .ref (b + 130), .ref (b + 131), .ref (b + 132), .ref (b + 133), .int (nI op), .int (nI be.toNat), .int (nI fi), .int (nI la), .ref (b + 134), .ref (b + 135), .ref (b + 136), .int (nI wa), .ref (b + 137), .ref (b + 138), .ref (b + 139), .int (nI wc), .ref (b + 140), .int (nI kl), .ref (b + 141), .ref (b + 142), .ref (b + 143), .ref (b + 144), .ref (b + 145)])) (hlt1 : 122 < n) (hE1 : E 122 = wm_I C 8 ss) (hkk : k < 8) (hsk : 11 < ss k) (hs2 : ss k ≤ 24) : Met l yX7_sets (wm_ws yX7_sets cX7_sets 2 (some .int)) { frames := 1, cells := 0, slots := 0, locals := 21 } (va_Pc [.ref (b + 119), .int (nI k)] (wm_G D C b n E)) (va_Qi (pmsetsA C b E th sz fa pl ats aa op fi la wa wc kl be k ss) (fun E' t => wm_P D b n E' t.heap) (wm_A b)) 0 0 (wm_A b) := by
  refine wm_ofW (by decide) (Nat.le_of_ble_eq_true rfl) (fun p e s m below meth c ls R args Q hRe hQ X hr hnm hP hS hl => ?_)
  have hl : lv_has ls 2 [(0, .ref (b + 119)), (1, .int (nI k))] := hl
  have hfr : ∀ j, j ≠ 119 → E j = E j := fun _ _ => rfl
  refine lv_aload_n X.1 X.2.1 dX7_sets_0 rfl (lv_at hl 0 rfl) ?_
  refine lv_aload_n X.1 X.2.1 dX7_sets_1 rfl (lv_at hl 0 rfl) ?_
  refine lv_iload_n X.1 X.2.1 dX7_sets_2 rfl (lv_at hl 1 rfl) ?_
  refine wm_callVi (k := 1) (As := [.int (nI k)]) (rest := [.ref (b + 119)]) X hP hS hlt0 hE0 rfl (knoMach l D C b n E k (by omega)) wq5_157 wq5_159 wqP2_15 wq1_8 wq5_160 (by decide) (by rw [hRe]; exact ⟨Nat.le_of_ble_eq_true rfl, Nat.le_of_ble_eq_true rfl⟩) rfl hl.1 rfl (Nat.le_of_ble_eq_true rfl) (Nat.zero_le _) (Nat.zero_le _) dX7_sets_3 (fun r1 E1 H locs hw hP hS => ?_)
  obtain ⟨hrt, hEe⟩ := hw
  subst hrt
  subst hEe
  refine wm_ifz_eq (x := false) (tgt := 13) X dX7_sets_6 (by decide) (fun _ => ?_) (fun h => by exfalso; revert h; decide)
  refine lv_aload_n X.1 X.2.1 dX7_sets_13 rfl (lv_at hl 0 rfl) ?_
  refine lv_iload_n X.1 X.2.1 dX7_sets_14 rfl (lv_at hl 1 rfl) ?_
  refine wm_callVi (k := 1) (As := [.int (nI k)]) (rest := [.ref (b + 119)]) X hP hS hlt0 hE0 rfl (kX7_isGreat l D C b n E th sz fa pl ats aa op fi la wa wc kl be k ss hlt0 hE0 hlt1 hE1 (by omega) hs2) wq6_59 wq6_61 wqP4_2 wq1_8 wq6_62 (by decide) (by rw [hRe]; exact ⟨Nat.le_of_ble_eq_true rfl, Nat.le_of_ble_eq_true rfl⟩) rfl hl.1 rfl (Nat.le_of_ble_eq_true rfl) (Nat.zero_le _) (Nat.zero_le _) dX7_sets_15 (fun r2 E2 H locs hw hP hS => ?_)
  obtain ⟨hrt, hEe⟩ := hw
  subst hrt
  subst hEe
  refine wm_ifz_eq (x := (decide (11 < ss k))) (tgt := 25) X dX7_sets_18 (by decide) (fun hc18 => ?_) (fun hc18 => ?_)
  · exact absurd hc18 (by rw [decide_eq_true hsk]; decide)
  · refine lv_iconst (v := nI 2) X.1 X.2.1 dX7_sets_21 (by decide) ?_
    refine lv_goto (tgt := 26) X.1 X.2.1 dX7_sets_22 (by decide) ?_
    refine wm_put (v := .int (nI 2)) X hP hS hlt0 hE0 rfl wm_inX7 tyX7 tyX7_ok nmX7 0 (by decide) wq5_22 rfl rfl rfl (fs1 := [.int (nI 2), .ref (b + 120), .int (nI sz), .int (nI fa), .int (nI pl), .ref (b + 121), .ref (b + 122), .ref (b + 123), .ref (b + 124), .ref (b + 125), .ref (b + 126), .ref (b + 127), .int (nI ats), .int (nI aa), .ref (b + 128), .ref (b + 129), .ref (b + 130), .ref (b + 131), .ref (b + 132), .ref (b + 133), .int (nI op), .int (nI be.toNat), .int (nI fi), .int (nI la), .ref (b + 134), .ref (b + 135), .ref (b + 136), .int (nI wa), .ref (b + 137), .ref (b + 138), .ref (b + 139), .int (nI wc), .ref (b + 140), .int (nI kl), .ref (b + 141), .ref (b + 142), .ref (b + 143), .ref (b + 144), .ref (b + 145)]) rfl (Nat.le_of_ble_eq_true rfl) dX7_sets_26 (fun H locs E4 hP hS hE0 hq => ?_)
    have hE1 := (hq 122 (by decide)).trans hE1
    have hfr : ∀ j, j ≠ 119 → E4 j = E j := fun j h0 => (hq j h0).trans (hfr j h0)
    refine lv_aload_n X.1 X.2.1 dX7_sets_29 rfl (lv_at hl 0 rfl) ?_
    refine wm_get X hP hlt0 hE0 rfl wm_inX7 0 (by decide) wq5_22 rfl dX7_sets_30 ?_
    refine lv_if_le (tgt := 40) X.1 X.2.1 dX7_sets_33 (by decide) (fun h => by exfalso; revert h; decide) (fun _ => ?_)
    refine lv_iconst (v := nI 0) X.1 X.2.1 dX7_sets_36 (by decide) ?_
    refine lv_goto (tgt := 45) X.1 X.2.1 dX7_sets_37 (by decide) ?_
    exact wm_iret (post := pmsetsA C b E th sz fa pl ats aa op fi la wa wc kl be k ss) X hr hP hS ⟨rfl, hE0, hfr⟩ hQ dX7_sets_45
def pmsets1 (C : Nat → ClassId) (b : Nat) (E : Nat → va_E) (th sz fa pl ats aa op fi la wa wc kl : Nat) (be : Bool) (k : Nat) (ar ss sa fn : Nat → Nat) (mk : Nat → Bool) : Int32 → (Nat → va_E) → Prop := fun r E' => ∃ (mk1 : Nat → Bool) (fn1 : Nat → Nat), r = nI ((wm_bfs (fun S a => wm_af ar k (ss k) a S) 2049 0 [sa k]).length) ∧ E' 119 = .inr (7, [.int (nI 0), .ref (b + 120), .int (nI sz), .int (nI fa), .int (nI pl), .ref (b + 121), .ref (b + 122), .ref (b + 123), .ref (b + 124), .ref (b + 125), .ref (b + 126), .ref (b + 127), .int (nI ats), .int (nI aa), .ref (b + 128), .ref (b + 129), .ref (b + 130), .ref (b + 131), .ref (b + 132), .ref (b + 133), .int (nI op), .int (nI be.toNat), .int (nI fi), .int (nI la), .ref (b + 134), .ref (b + 135), .ref (b + 136), .int (nI wa), .ref (b + 137), .ref (b + 138), .ref (b + 139), .int (nI wc), .ref (b + 140), .int (nI kl), .ref (b + 141), .ref (b + 142), .ref (b + 143), .ref (b + 144), .ref (b + 145)]) ∧ E' 143 = wm_I C 2048 fn1 ∧ E' 145 = wm_Z C 2048 mk1 ∧ (∀ j, j ≠ 119 → j ≠ 143 → j ≠ 145 → E' j = E j)
set_option maxHeartbeats 4000000 in
set_option maxRecDepth 100000 in
theorem kmsets1 (l : Launch) (D : va_G) (C : Nat → ClassId) (b n : Nat) (E : Nat → va_E) (th sz fa pl ats aa op fi la wa wc kl : Nat) (be : Bool) (k : Nat) (ar ss sa fn : Nat → Nat) (mk : Nat → Bool) (hlt0 : 119 < n) (hE0 : E 119 = .inr (7, [.int (nI th), .ref (b + 120), .int (nI sz), .int (nI fa), .int (nI pl), .ref (b + 121), .ref (b + 122), .ref (b + 123), .ref (b + 124), .ref (b + 125), .ref (b + 126), .ref (b + 127), .int (nI ats), .int (nI aa), .ref (b + 128), .ref (b + 129), .ref (b + 130), .ref (b + 131), .ref (b + 132), .ref (b + 133), .int (nI op), .int (nI be.toNat), .int (nI fi), .int (nI la), .ref (b + 134), .ref (b + 135), .ref (b + 136), .int (nI wa), .ref (b + 137), .ref (b + 138), .ref (b + 139), .int (nI wc), .ref (b + 140), .int (nI kl), .ref (b + 141), .ref (b + 142), .ref (b + 143), .ref (b + 144), .ref (b + 145)])) (hlt1 : 121 < n) (hE1 : E 121 = wm_I C 1536 ar) (hlt2 : 122 < n) (hE2 : E 122 = wm_I C 8 ss) (hlt3 : 123 < n) (hE3 : E 123 = wm_I C 8 sa) (hlt4 : 143 < n) (hE4 : E 143 = wm_I C 2048 fn) (hlt5 : 145 < n) (hE5 : E 145 = wm_Z C 2048 mk) (hkk : k < 8) (hsk : ss k ≤ 11) (hsa : sa k < 2 ^ ss k) (hg : ∀ a x, a < 8 → x < ss k → ar (192 * k + 8 * x + a) < 2 ^ ss k) : Met l yX7_sets (wm_ws yX7_sets cX7_sets 2 (some .int)) { frames := 3, cells := 0, slots := 0, locals := 72 } (va_Pc [.ref (b + 119), .int (nI k)] (wm_G D C b n E)) (va_Qi (pmsets1 C b E th sz fa pl ats aa op fi la wa wc kl be k ar ss sa fn mk) (fun E' t => wm_P D b n E' t.heap) (wm_A b)) 0 0 (wm_A b) := by
  refine wm_ofW (by decide) (Nat.le_of_ble_eq_true rfl) (fun p e s m below meth c ls R args Q hRe hQ X hr hnm hP hS hl => ?_)
  have hl : lv_has ls 2 [(0, .ref (b + 119)), (1, .int (nI k))] := hl
  have hfr : ∀ j, j ≠ 119 → j ≠ 143 → j ≠ 145 → E j = E j := fun _ _ _ _ => rfl
  refine lv_aload_n X.1 X.2.1 dX7_sets_0 rfl (lv_at hl 0 rfl) ?_
  refine lv_aload_n X.1 X.2.1 dX7_sets_1 rfl (lv_at hl 0 rfl) ?_
  refine lv_iload_n X.1 X.2.1 dX7_sets_2 rfl (lv_at hl 1 rfl) ?_
  refine wm_callVi (k := 1) (As := [.int (nI k)]) (rest := [.ref (b + 119)]) X hP hS hlt0 hE0 rfl (knoMach l D C b n E k (by omega)) wq5_157 wq5_159 wqP2_15 wq1_8 wq5_160 (by decide) (by rw [hRe]; exact ⟨Nat.le_of_ble_eq_true rfl, Nat.le_of_ble_eq_true rfl⟩) rfl hl.1 rfl (Nat.le_of_ble_eq_true rfl) (Nat.zero_le _) (Nat.zero_le _) dX7_sets_3 (fun r1 E1 H locs hw hP hS => ?_)
  obtain ⟨hrt, hEe⟩ := hw
  subst hrt
  subst hEe
  refine wm_ifz_eq (x := false) (tgt := 13) X dX7_sets_6 (by decide) (fun _ => ?_) (fun h => by exfalso; revert h; decide)
  refine lv_aload_n X.1 X.2.1 dX7_sets_13 rfl (lv_at hl 0 rfl) ?_
  refine lv_iload_n X.1 X.2.1 dX7_sets_14 rfl (lv_at hl 1 rfl) ?_
  refine wm_callVi (k := 1) (As := [.int (nI k)]) (rest := [.ref (b + 119)]) X hP hS hlt0 hE0 rfl (kX7_isGreat l D C b n E th sz fa pl ats aa op fi la wa wc kl be k ss hlt0 hE0 hlt2 hE2 (by omega) (by omega)) wq6_59 wq6_61 wqP4_2 wq1_8 wq6_62 (by decide) (by rw [hRe]; exact ⟨Nat.le_of_ble_eq_true rfl, Nat.le_of_ble_eq_true rfl⟩) rfl hl.1 rfl (Nat.le_of_ble_eq_true rfl) (Nat.zero_le _) (Nat.zero_le _) dX7_sets_15 (fun r2 E2 H locs hw hP hS => ?_)
  obtain ⟨hrt, hEe⟩ := hw
  subst hrt
  subst hEe
  refine wm_ifz_eq (x := (decide (11 < ss k))) (tgt := 25) X dX7_sets_18 (by decide) (fun hc18 => ?_) (fun hc18 => ?_)
  · refine lv_iconst (v := nI 0) X.1 X.2.1 dX7_sets_25 (by decide) ?_
    refine wm_put (v := .int (nI 0)) X hP hS hlt0 hE0 rfl wm_inX7 tyX7 tyX7_ok nmX7 0 (by decide) wq5_22 rfl rfl rfl (fs1 := [.int (nI 0), .ref (b + 120), .int (nI sz), .int (nI fa), .int (nI pl), .ref (b + 121), .ref (b + 122), .ref (b + 123), .ref (b + 124), .ref (b + 125), .ref (b + 126), .ref (b + 127), .int (nI ats), .int (nI aa), .ref (b + 128), .ref (b + 129), .ref (b + 130), .ref (b + 131), .ref (b + 132), .ref (b + 133), .int (nI op), .int (nI be.toNat), .int (nI fi), .int (nI la), .ref (b + 134), .ref (b + 135), .ref (b + 136), .int (nI wa), .ref (b + 137), .ref (b + 138), .ref (b + 139), .int (nI wc), .ref (b + 140), .int (nI kl), .ref (b + 141), .ref (b + 142), .ref (b + 143), .ref (b + 144), .ref (b + 145)]) rfl (Nat.le_of_ble_eq_true rfl) dX7_sets_26 (fun H locs E4 hP hS hE0 hq => ?_)
    have hE1 := (hq 121 (by decide)).trans hE1
    have hE2 := (hq 122 (by decide)).trans hE2
    have hE3 := (hq 123 (by decide)).trans hE3
    have hE4 := (hq 143 (by decide)).trans hE4
    have hE5 := (hq 145 (by decide)).trans hE5
    have hfr : ∀ j, j ≠ 119 → j ≠ 143 → j ≠ 145 → E4 j = E j := fun j h0 h1 h2 => (hq j h0).trans (hfr j h0 h1 h2)
    refine lv_aload_n X.1 X.2.1 dX7_sets_29 rfl (lv_at hl 0 rfl) ?_
    refine wm_get X hP hlt0 hE0 rfl wm_inX7 0 (by decide) wq5_22 rfl dX7_sets_30 ?_
    refine lv_if_le (tgt := 40) X.1 X.2.1 dX7_sets_33 (by decide) (fun _ => ?_) (fun h => by exfalso; revert h; decide)
    refine lv_aload_n X.1 X.2.1 dX7_sets_40 rfl (lv_at hl 0 rfl) ?_
    refine lv_iload_n X.1 X.2.1 dX7_sets_41 rfl (lv_at hl 1 rfl) ?_
    refine wm_callVi (k := 1) (As := [.int (nI k)]) (rest := []) X hP hS hlt0 hE0 rfl (kX7_findSets l D C b n E4 0 sz fa pl ats aa op fi la wa wc kl be k ar ss sa fn mk hlt0 hE0 hlt1 hE1 hlt2 hE2 hlt3 hE3 hlt4 hE4 hlt5 hE5 (by omega) (by omega) (by omega) hg) wq6_67 wq6_69 wqP4_3 wq1_8 wq6_70 (by decide) (by rw [hRe]; exact ⟨Nat.le_of_ble_eq_true rfl, Nat.le_of_ble_eq_true rfl⟩) rfl hl.1 rfl (Nat.le_of_ble_eq_true rfl) (Nat.zero_le _) (Nat.zero_le _) dX7_sets_42 (fun r5 E5 H locs hw hP hS => ?_)
    obtain ⟨mk15, fn15, hrt, hE4, hE5, hq, hp5_0⟩ := hw
    subst hrt
    have hE0 := (hq 119 (by decide) (by decide)).trans hE0
    have hE1 := (hq 121 (by decide) (by decide)).trans hE1
    have hE2 := (hq 122 (by decide) (by decide)).trans hE2
    have hE3 := (hq 123 (by decide) (by decide)).trans hE3
    have hfr : ∀ j, j ≠ 119 → j ≠ 143 → j ≠ 145 → E5 j = E j := fun j h0 h1 h2 => (hq j h1 h2).trans (hfr j h0 h1 h2)
    exact wm_iret (post := pmsets1 C b E th sz fa pl ats aa op fi la wa wc kl be k ar ss sa fn mk) X hr hP hS ⟨mk15, fn15, rfl, hE0, hE4, hE5, hfr⟩ hQ dX7_sets_45
  · exact absurd hc18 (by rw [decide_eq_false (show ¬ 11 < ss k by omega)]; decide)
def pmrestsX (C : Nat → ClassId) (b : Nat) (E : Nat → va_E) (th sz fa pl ats aa op fi la wa wc kl : Nat) (be : Bool) (x : Int32) : Int32 → (Nat → va_E) → Prop := fun r E' => r = nI 0 ∧ E' 119 = .inr (7, [.int (nI 1), .ref (b + 120), .int (nI sz), .int (nI fa), .int (nI pl), .ref (b + 121), .ref (b + 122), .ref (b + 123), .ref (b + 124), .ref (b + 125), .ref (b + 126), .ref (b + 127), .int (nI ats), .int (nI aa), .ref (b + 128), .ref (b + 129), .ref (b + 130), .ref (b + 131), .ref (b + 132), .ref (b + 133), .int (nI op), .int (nI be.toNat), .int (nI fi), .int (nI la), .ref (b + 134), .ref (b + 135), .ref (b + 136), .int (nI wa), .ref (b + 137), .ref (b + 138), .ref (b + 139), .int (nI wc), .ref (b + 140), .int (nI kl), .ref (b + 141), .ref (b + 142), .ref (b + 143), .ref (b + 144), .ref (b + 145)]) ∧ (∀ j, j ≠ 119 → E' j = E j)
set_option maxHeartbeats 4000000 in
set_option maxRecDepth 100000 in
theorem kmrestsX (l : Launch) (D : va_G) (C : Nat → ClassId) (b n : Nat) (E : Nat → va_E) (th sz fa pl ats aa op fi la wa wc kl : Nat) (be : Bool) (x : Int32) (hlt0 : 119 < n) (hE0 : E 119 = .inr (7, [.int (nI th), .ref (b + 120), .int (nI sz), .int (nI fa), .int (nI pl), .ref (b + 121), .ref (b + 122), .ref (b + 123), .ref (b + 124), .ref (b + 125), .ref (b + 126), .ref (b + 127), .int (nI ats), .int (nI aa), .ref (b + 128), .ref (b + 129), .ref (b + 130), .ref (b + 131), .ref (b + 132), .ref (b + 133), .int (nI op), .int (nI be.toNat), .int (nI fi), .int (nI la), .ref (b + 134), .ref (b + 135), .ref (b + 136), .int (nI wa), .ref (b + 137), .ref (b + 138), .ref (b + 139), .int (nI wc), .ref (b + 140), .int (nI kl), .ref (b + 141), .ref (b + 142), .ref (b + 143), .ref (b + 144), .ref (b + 145)])) (hk : ¬ (0 ≤ x ∧ x < nI 8)) : Met l yX7_rests (wm_ws yX7_rests cX7_rests 8 (some .int)) { frames := 1, cells := 0, slots := 0, locals := 21 } (va_Pc [.ref (b + 119), .int x] (wm_G D C b n E)) (va_Qi (pmrestsX C b E th sz fa pl ats aa op fi la wa wc kl be x) (fun E' t => wm_P D b n E' t.heap) (wm_A b)) 0 0 (wm_A b) := by
  refine wm_ofW (by decide) (Nat.le_of_ble_eq_true rfl) (fun p e s m below meth c ls R args Q hRe hQ X hr hnm hP hS hl => ?_)
  have hl : lv_has ls 8 [(0, .ref (b + 119)), (1, .int x)] := hl
  have hfr : ∀ j, j ≠ 119 → E j = E j := fun _ _ => rfl
  refine lv_aload_n X.1 X.2.1 dX7_rests_0 rfl (lv_at hl 0 rfl) ?_
  refine lv_aload_n X.1 X.2.1 dX7_rests_1 rfl (lv_at hl 0 rfl) ?_
  refine lv_iload_n X.1 X.2.1 dX7_rests_2 rfl (lv_at hl 1 rfl) ?_
  refine wm_callVi (k := 1) (As := [.int x]) (rest := [.ref (b + 119)]) X hP hS hlt0 hE0 rfl (knoMachX l D C b n E x (by omega)) wq5_157 wq5_159 wqP2_15 wq1_8 wq5_160 (by decide) (by rw [hRe]; exact ⟨Nat.le_of_ble_eq_true rfl, Nat.le_of_ble_eq_true rfl⟩) rfl hl.1 rfl (Nat.le_of_ble_eq_true rfl) (Nat.zero_le _) (Nat.zero_le _) dX7_rests_3 (fun r1 E1 H locs hw hP hS => ?_)
  obtain ⟨hrt, hEe⟩ := hw
  subst hrt
  subst hEe
  refine wm_ifz_eq (x := true) (tgt := 13) X dX7_rests_6 (by decide) (fun h => by exfalso; revert h; decide) (fun _ => ?_)
  refine lv_iconst (v := nI 1) X.1 X.2.1 dX7_rests_9 (by decide) ?_
  refine lv_goto (tgt := 26) X.1 X.2.1 dX7_rests_10 (by decide) ?_
  refine wm_put (v := .int (nI 1)) X hP hS hlt0 hE0 rfl wm_inX7 tyX7 tyX7_ok nmX7 0 (by decide) wq5_22 rfl rfl rfl (fs1 := [.int (nI 1), .ref (b + 120), .int (nI sz), .int (nI fa), .int (nI pl), .ref (b + 121), .ref (b + 122), .ref (b + 123), .ref (b + 124), .ref (b + 125), .ref (b + 126), .ref (b + 127), .int (nI ats), .int (nI aa), .ref (b + 128), .ref (b + 129), .ref (b + 130), .ref (b + 131), .ref (b + 132), .ref (b + 133), .int (nI op), .int (nI be.toNat), .int (nI fi), .int (nI la), .ref (b + 134), .ref (b + 135), .ref (b + 136), .int (nI wa), .ref (b + 137), .ref (b + 138), .ref (b + 139), .int (nI wc), .ref (b + 140), .int (nI kl), .ref (b + 141), .ref (b + 142), .ref (b + 143), .ref (b + 144), .ref (b + 145)]) rfl (Nat.le_of_ble_eq_true rfl) dX7_rests_26 (fun H locs E2 hP hS hE0 hq => ?_)
  have hfr : ∀ j, j ≠ 119 → E2 j = E j := fun j h0 => (hq j h0).trans (hfr j h0)
  refine lv_aload_n X.1 X.2.1 dX7_rests_29 rfl (lv_at hl 0 rfl) ?_
  refine wm_get X hP hlt0 hE0 rfl wm_inX7 0 (by decide) wq5_22 rfl dX7_rests_30 ?_
  refine lv_if_le (tgt := 38) X.1 X.2.1 dX7_rests_33 (by decide) (fun h => by exfalso; revert h; decide) (fun _ => ?_)
  refine lv_iconst (v := nI 0) X.1 X.2.1 dX7_rests_36 (by decide) ?_
  exact wm_iret (post := pmrestsX C b E th sz fa pl ats aa op fi la wa wc kl be x) X hr hP hS ⟨rfl, hE0, hfr⟩ hQ dX7_rests_37
def pmrestsA (C : Nat → ClassId) (b : Nat) (E : Nat → va_E) (th sz fa pl ats aa op fi la wa wc kl : Nat) (be : Bool) (k : Nat) (ss : Nat → Nat) : Int32 → (Nat → va_E) → Prop := fun r E' => r = nI 0 ∧ E' 119 = .inr (7, [.int (nI 2), .ref (b + 120), .int (nI sz), .int (nI fa), .int (nI pl), .ref (b + 121), .ref (b + 122), .ref (b + 123), .ref (b + 124), .ref (b + 125), .ref (b + 126), .ref (b + 127), .int (nI ats), .int (nI aa), .ref (b + 128), .ref (b + 129), .ref (b + 130), .ref (b + 131), .ref (b + 132), .ref (b + 133), .int (nI op), .int (nI be.toNat), .int (nI fi), .int (nI la), .ref (b + 134), .ref (b + 135), .ref (b + 136), .int (nI wa), .ref (b + 137), .ref (b + 138), .ref (b + 139), .int (nI wc), .ref (b + 140), .int (nI kl), .ref (b + 141), .ref (b + 142), .ref (b + 143), .ref (b + 144), .ref (b + 145)]) ∧ (∀ j, j ≠ 119 → E' j = E j)
set_option maxHeartbeats 4000000 in
set_option maxRecDepth 100000 in
theorem kmrestsA (l : Launch) (D : va_G) (C : Nat → ClassId) (b n : Nat) (E : Nat → va_E) (th sz fa pl ats aa op fi la wa wc kl : Nat) (be : Bool) (k : Nat) (ss : Nat → Nat) (hlt0 : 119 < n) (hE0 : E 119 = .inr (7, [.int (nI th), .ref (b + 120), .int (nI sz), .int (nI fa), .int (nI pl), .ref (b + 121), .ref (b + 122), .ref (b + 123), .ref (b + 124), .ref (b + 125), .ref (b + 126), .ref (b + 127), .int (nI ats), .int (nI aa), .ref (b + 128), .ref (b + 129), .ref (b + 130), .ref (b + 131), .ref (b + 132), .ref (b + 133), .int (nI op), .int (nI be.toNat), .int (nI fi), .int (nI la), .ref (b + 134), .ref (b + 135), .ref (b + 136), .int (nI wa), .ref (b + 137), .ref (b + 138), .ref (b + 139), .int (nI wc), .ref (b + 140), .int (nI kl), .ref (b + 141), .ref (b + 142), .ref (b + 143), .ref (b + 144), .ref (b + 145)])) (hlt1 : 122 < n) (hE1 : E 122 = wm_I C 8 ss) (hkk : k < 8) (hsk : 11 < ss k) (hs2 : ss k ≤ 24) : Met l yX7_rests (wm_ws yX7_rests cX7_rests 8 (some .int)) { frames := 1, cells := 0, slots := 0, locals := 21 } (va_Pc [.ref (b + 119), .int (nI k)] (wm_G D C b n E)) (va_Qi (pmrestsA C b E th sz fa pl ats aa op fi la wa wc kl be k ss) (fun E' t => wm_P D b n E' t.heap) (wm_A b)) 0 0 (wm_A b) := by
  refine wm_ofW (by decide) (Nat.le_of_ble_eq_true rfl) (fun p e s m below meth c ls R args Q hRe hQ X hr hnm hP hS hl => ?_)
  have hl : lv_has ls 8 [(0, .ref (b + 119)), (1, .int (nI k))] := hl
  have hfr : ∀ j, j ≠ 119 → E j = E j := fun _ _ => rfl
  refine lv_aload_n X.1 X.2.1 dX7_rests_0 rfl (lv_at hl 0 rfl) ?_
  refine lv_aload_n X.1 X.2.1 dX7_rests_1 rfl (lv_at hl 0 rfl) ?_
  refine lv_iload_n X.1 X.2.1 dX7_rests_2 rfl (lv_at hl 1 rfl) ?_
  refine wm_callVi (k := 1) (As := [.int (nI k)]) (rest := [.ref (b + 119)]) X hP hS hlt0 hE0 rfl (knoMach l D C b n E k (by omega)) wq5_157 wq5_159 wqP2_15 wq1_8 wq5_160 (by decide) (by rw [hRe]; exact ⟨Nat.le_of_ble_eq_true rfl, Nat.le_of_ble_eq_true rfl⟩) rfl hl.1 rfl (Nat.le_of_ble_eq_true rfl) (Nat.zero_le _) (Nat.zero_le _) dX7_rests_3 (fun r1 E1 H locs hw hP hS => ?_)
  obtain ⟨hrt, hEe⟩ := hw
  subst hrt
  subst hEe
  refine wm_ifz_eq (x := false) (tgt := 13) X dX7_rests_6 (by decide) (fun _ => ?_) (fun h => by exfalso; revert h; decide)
  refine lv_aload_n X.1 X.2.1 dX7_rests_13 rfl (lv_at hl 0 rfl) ?_
  refine lv_iload_n X.1 X.2.1 dX7_rests_14 rfl (lv_at hl 1 rfl) ?_
  refine wm_callVi (k := 1) (As := [.int (nI k)]) (rest := [.ref (b + 119)]) X hP hS hlt0 hE0 rfl (kX7_isGreat l D C b n E th sz fa pl ats aa op fi la wa wc kl be k ss hlt0 hE0 hlt1 hE1 (by omega) hs2) wq6_59 wq6_61 wqP4_2 wq1_8 wq6_62 (by decide) (by rw [hRe]; exact ⟨Nat.le_of_ble_eq_true rfl, Nat.le_of_ble_eq_true rfl⟩) rfl hl.1 rfl (Nat.le_of_ble_eq_true rfl) (Nat.zero_le _) (Nat.zero_le _) dX7_rests_15 (fun r2 E2 H locs hw hP hS => ?_)
  obtain ⟨hrt, hEe⟩ := hw
  subst hrt
  subst hEe
  refine wm_ifz_eq (x := (decide (11 < ss k))) (tgt := 25) X dX7_rests_18 (by decide) (fun hc18 => ?_) (fun hc18 => ?_)
  · exact absurd hc18 (by rw [decide_eq_true hsk]; decide)
  · refine lv_iconst (v := nI 2) X.1 X.2.1 dX7_rests_21 (by decide) ?_
    refine lv_goto (tgt := 26) X.1 X.2.1 dX7_rests_22 (by decide) ?_
    refine wm_put (v := .int (nI 2)) X hP hS hlt0 hE0 rfl wm_inX7 tyX7 tyX7_ok nmX7 0 (by decide) wq5_22 rfl rfl rfl (fs1 := [.int (nI 2), .ref (b + 120), .int (nI sz), .int (nI fa), .int (nI pl), .ref (b + 121), .ref (b + 122), .ref (b + 123), .ref (b + 124), .ref (b + 125), .ref (b + 126), .ref (b + 127), .int (nI ats), .int (nI aa), .ref (b + 128), .ref (b + 129), .ref (b + 130), .ref (b + 131), .ref (b + 132), .ref (b + 133), .int (nI op), .int (nI be.toNat), .int (nI fi), .int (nI la), .ref (b + 134), .ref (b + 135), .ref (b + 136), .int (nI wa), .ref (b + 137), .ref (b + 138), .ref (b + 139), .int (nI wc), .ref (b + 140), .int (nI kl), .ref (b + 141), .ref (b + 142), .ref (b + 143), .ref (b + 144), .ref (b + 145)]) rfl (Nat.le_of_ble_eq_true rfl) dX7_rests_26 (fun H locs E4 hP hS hE0 hq => ?_)
    have hE1 := (hq 122 (by decide)).trans hE1
    have hfr : ∀ j, j ≠ 119 → E4 j = E j := fun j h0 => (hq j h0).trans (hfr j h0)
    refine lv_aload_n X.1 X.2.1 dX7_rests_29 rfl (lv_at hl 0 rfl) ?_
    refine wm_get X hP hlt0 hE0 rfl wm_inX7 0 (by decide) wq5_22 rfl dX7_rests_30 ?_
    refine lv_if_le (tgt := 38) X.1 X.2.1 dX7_rests_33 (by decide) (fun h => by exfalso; revert h; decide) (fun _ => ?_)
    refine lv_iconst (v := nI 0) X.1 X.2.1 dX7_rests_36 (by decide) ?_
    exact wm_iret (post := pmrestsA C b E th sz fa pl ats aa op fi la wa wc kl be k ss) X hr hP hS ⟨rfl, hE0, hfr⟩ hQ dX7_rests_37
def pmwordsX (C : Nat → ClassId) (b : Nat) (E : Nat → va_E) (th sz fa pl ats aa op fi la wa wc kl : Nat) (be : Bool) (x y : Int32) : Int64 → (Nat → va_E) → Prop := fun r E' => r = lN 0 ∧ E' 119 = .inr (7, [.int (nI 1), .ref (b + 120), .int (nI sz), .int (nI fa), .int (nI pl), .ref (b + 121), .ref (b + 122), .ref (b + 123), .ref (b + 124), .ref (b + 125), .ref (b + 126), .ref (b + 127), .int (nI ats), .int (nI aa), .ref (b + 128), .ref (b + 129), .ref (b + 130), .ref (b + 131), .ref (b + 132), .ref (b + 133), .int (nI op), .int (nI be.toNat), .int (nI fi), .int (nI la), .ref (b + 134), .ref (b + 135), .ref (b + 136), .int (nI wa), .ref (b + 137), .ref (b + 138), .ref (b + 139), .int (nI wc), .ref (b + 140), .int (nI kl), .ref (b + 141), .ref (b + 142), .ref (b + 143), .ref (b + 144), .ref (b + 145)]) ∧ (∀ j, j ≠ 119 → E' j = E j)
set_option maxHeartbeats 4000000 in
set_option maxRecDepth 100000 in
theorem kmwordsX (l : Launch) (D : va_G) (C : Nat → ClassId) (b n : Nat) (E : Nat → va_E) (th sz fa pl ats aa op fi la wa wc kl : Nat) (be : Bool) (x y : Int32) (hlt0 : 119 < n) (hE0 : E 119 = .inr (7, [.int (nI th), .ref (b + 120), .int (nI sz), .int (nI fa), .int (nI pl), .ref (b + 121), .ref (b + 122), .ref (b + 123), .ref (b + 124), .ref (b + 125), .ref (b + 126), .ref (b + 127), .int (nI ats), .int (nI aa), .ref (b + 128), .ref (b + 129), .ref (b + 130), .ref (b + 131), .ref (b + 132), .ref (b + 133), .int (nI op), .int (nI be.toNat), .int (nI fi), .int (nI la), .ref (b + 134), .ref (b + 135), .ref (b + 136), .int (nI wa), .ref (b + 137), .ref (b + 138), .ref (b + 139), .int (nI wc), .ref (b + 140), .int (nI kl), .ref (b + 141), .ref (b + 142), .ref (b + 143), .ref (b + 144), .ref (b + 145)])) (hk : ¬ (0 ≤ x ∧ x < nI 8)) : Met l yX7_words (wm_ws yX7_words cX7_words 7 (some .long)) { frames := 1, cells := 0, slots := 0, locals := 21 } (va_Pc [.ref (b + 119), .int x, .int y] (wm_G D C b n E)) (va_Ql (pmwordsX C b E th sz fa pl ats aa op fi la wa wc kl be x y) (fun E' t => wm_P D b n E' t.heap) (wm_A b)) 0 0 (wm_A b) := by
  refine wm_ofW (by decide) (Nat.le_of_ble_eq_true rfl) (fun p e s m below meth c ls R args Q hRe hQ X hr hnm hP hS hl => ?_)
  have hl : lv_has ls 7 [(0, .ref (b + 119)), (1, .int x), (2, .int y)] := hl
  have hfr : ∀ j, j ≠ 119 → E j = E j := fun _ _ => rfl
  refine lv_aload_n X.1 X.2.1 dX7_words_0 rfl (lv_at hl 0 rfl) ?_
  refine lv_aload_n X.1 X.2.1 dX7_words_1 rfl (lv_at hl 0 rfl) ?_
  refine lv_iload_n X.1 X.2.1 dX7_words_2 rfl (lv_at hl 1 rfl) ?_
  refine wm_callVi (k := 1) (As := [.int x]) (rest := [.ref (b + 119)]) X hP hS hlt0 hE0 rfl (knoMachX l D C b n E x (by omega)) wq5_157 wq5_159 wqP2_15 wq1_8 wq5_160 (by decide) (by rw [hRe]; exact ⟨Nat.le_of_ble_eq_true rfl, Nat.le_of_ble_eq_true rfl⟩) rfl hl.1 rfl (Nat.le_of_ble_eq_true rfl) (Nat.zero_le _) (Nat.zero_le _) dX7_words_3 (fun r1 E1 H locs hw hP hS => ?_)
  obtain ⟨hrt, hEe⟩ := hw
  subst hrt
  subst hEe
  refine wm_ifz_eq (x := true) (tgt := 13) X dX7_words_6 (by decide) (fun h => by exfalso; revert h; decide) (fun _ => ?_)
  refine lv_iconst (v := nI 1) X.1 X.2.1 dX7_words_9 (by decide) ?_
  refine lv_goto (tgt := 36) X.1 X.2.1 dX7_words_10 (by decide) ?_
  refine wm_put (v := .int (nI 1)) X hP hS hlt0 hE0 rfl wm_inX7 tyX7 tyX7_ok nmX7 0 (by decide) wq5_22 rfl rfl rfl (fs1 := [.int (nI 1), .ref (b + 120), .int (nI sz), .int (nI fa), .int (nI pl), .ref (b + 121), .ref (b + 122), .ref (b + 123), .ref (b + 124), .ref (b + 125), .ref (b + 126), .ref (b + 127), .int (nI ats), .int (nI aa), .ref (b + 128), .ref (b + 129), .ref (b + 130), .ref (b + 131), .ref (b + 132), .ref (b + 133), .int (nI op), .int (nI be.toNat), .int (nI fi), .int (nI la), .ref (b + 134), .ref (b + 135), .ref (b + 136), .int (nI wa), .ref (b + 137), .ref (b + 138), .ref (b + 139), .int (nI wc), .ref (b + 140), .int (nI kl), .ref (b + 141), .ref (b + 142), .ref (b + 143), .ref (b + 144), .ref (b + 145)]) rfl (Nat.le_of_ble_eq_true rfl) dX7_words_36 (fun H locs E2 hP hS hE0 hq => ?_)
  have hfr : ∀ j, j ≠ 119 → E2 j = E j := fun j h0 => (hq j h0).trans (hfr j h0)
  refine lv_aload_n X.1 X.2.1 dX7_words_39 rfl (lv_at hl 0 rfl) ?_
  refine wm_get X hP hlt0 hE0 rfl wm_inX7 0 (by decide) wq5_22 rfl dX7_words_40 ?_
  refine lv_if_le (tgt := 48) X.1 X.2.1 dX7_words_43 (by decide) (fun h => by exfalso; revert h; decide) (fun _ => ?_)
  refine lv_lconst (v := lN 0) X.1 X.2.1 dX7_words_46 (by decide) ?_
  exact wm_lret (post := pmwordsX C b E th sz fa pl ats aa op fi la wa wc kl be x y) X hr hP hS ⟨rfl, hE0, hfr⟩ hQ dX7_words_47
def pmwordsA (C : Nat → ClassId) (b : Nat) (E : Nat → va_E) (th sz fa pl ats aa op fi la wa wc kl : Nat) (be : Bool) (k : Nat) (y : Int32) (ss : Nat → Nat) : Int64 → (Nat → va_E) → Prop := fun r E' => r = lN 0 ∧ E' 119 = .inr (7, [.int (nI 2), .ref (b + 120), .int (nI sz), .int (nI fa), .int (nI pl), .ref (b + 121), .ref (b + 122), .ref (b + 123), .ref (b + 124), .ref (b + 125), .ref (b + 126), .ref (b + 127), .int (nI ats), .int (nI aa), .ref (b + 128), .ref (b + 129), .ref (b + 130), .ref (b + 131), .ref (b + 132), .ref (b + 133), .int (nI op), .int (nI be.toNat), .int (nI fi), .int (nI la), .ref (b + 134), .ref (b + 135), .ref (b + 136), .int (nI wa), .ref (b + 137), .ref (b + 138), .ref (b + 139), .int (nI wc), .ref (b + 140), .int (nI kl), .ref (b + 141), .ref (b + 142), .ref (b + 143), .ref (b + 144), .ref (b + 145)]) ∧ (∀ j, j ≠ 119 → E' j = E j)
set_option maxHeartbeats 4000000 in
set_option maxRecDepth 100000 in
theorem kmwordsA (l : Launch) (D : va_G) (C : Nat → ClassId) (b n : Nat) (E : Nat → va_E) (th sz fa pl ats aa op fi la wa wc kl : Nat) (be : Bool) (k : Nat) (y : Int32) (ss : Nat → Nat) (hlt0 : 119 < n) (hE0 : E 119 = .inr (7, [.int (nI th), .ref (b + 120), .int (nI sz), .int (nI fa), .int (nI pl), .ref (b + 121), .ref (b + 122), .ref (b + 123), .ref (b + 124), .ref (b + 125), .ref (b + 126), .ref (b + 127), .int (nI ats), .int (nI aa), .ref (b + 128), .ref (b + 129), .ref (b + 130), .ref (b + 131), .ref (b + 132), .ref (b + 133), .int (nI op), .int (nI be.toNat), .int (nI fi), .int (nI la), .ref (b + 134), .ref (b + 135), .ref (b + 136), .int (nI wa), .ref (b + 137), .ref (b + 138), .ref (b + 139), .int (nI wc), .ref (b + 140), .int (nI kl), .ref (b + 141), .ref (b + 142), .ref (b + 143), .ref (b + 144), .ref (b + 145)])) (hlt1 : 122 < n) (hE1 : E 122 = wm_I C 8 ss) (hkk : k < 8) (hsk : 11 < ss k) (hs2 : ss k ≤ 24) : Met l yX7_words (wm_ws yX7_words cX7_words 7 (some .long)) { frames := 1, cells := 0, slots := 0, locals := 21 } (va_Pc [.ref (b + 119), .int (nI k), .int y] (wm_G D C b n E)) (va_Ql (pmwordsA C b E th sz fa pl ats aa op fi la wa wc kl be k y ss) (fun E' t => wm_P D b n E' t.heap) (wm_A b)) 0 0 (wm_A b) := by
  refine wm_ofW (by decide) (Nat.le_of_ble_eq_true rfl) (fun p e s m below meth c ls R args Q hRe hQ X hr hnm hP hS hl => ?_)
  have hl : lv_has ls 7 [(0, .ref (b + 119)), (1, .int (nI k)), (2, .int y)] := hl
  have hfr : ∀ j, j ≠ 119 → E j = E j := fun _ _ => rfl
  refine lv_aload_n X.1 X.2.1 dX7_words_0 rfl (lv_at hl 0 rfl) ?_
  refine lv_aload_n X.1 X.2.1 dX7_words_1 rfl (lv_at hl 0 rfl) ?_
  refine lv_iload_n X.1 X.2.1 dX7_words_2 rfl (lv_at hl 1 rfl) ?_
  refine wm_callVi (k := 1) (As := [.int (nI k)]) (rest := [.ref (b + 119)]) X hP hS hlt0 hE0 rfl (knoMach l D C b n E k (by omega)) wq5_157 wq5_159 wqP2_15 wq1_8 wq5_160 (by decide) (by rw [hRe]; exact ⟨Nat.le_of_ble_eq_true rfl, Nat.le_of_ble_eq_true rfl⟩) rfl hl.1 rfl (Nat.le_of_ble_eq_true rfl) (Nat.zero_le _) (Nat.zero_le _) dX7_words_3 (fun r1 E1 H locs hw hP hS => ?_)
  obtain ⟨hrt, hEe⟩ := hw
  subst hrt
  subst hEe
  refine wm_ifz_eq (x := false) (tgt := 13) X dX7_words_6 (by decide) (fun _ => ?_) (fun h => by exfalso; revert h; decide)
  refine lv_aload_n X.1 X.2.1 dX7_words_13 rfl (lv_at hl 0 rfl) ?_
  refine lv_iload_n X.1 X.2.1 dX7_words_14 rfl (lv_at hl 1 rfl) ?_
  refine wm_callVi (k := 1) (As := [.int (nI k)]) (rest := [.ref (b + 119)]) X hP hS hlt0 hE0 rfl (kX7_isGreat l D C b n E th sz fa pl ats aa op fi la wa wc kl be k ss hlt0 hE0 hlt1 hE1 (by omega) hs2) wq6_59 wq6_61 wqP4_2 wq1_8 wq6_62 (by decide) (by rw [hRe]; exact ⟨Nat.le_of_ble_eq_true rfl, Nat.le_of_ble_eq_true rfl⟩) rfl hl.1 rfl (Nat.le_of_ble_eq_true rfl) (Nat.zero_le _) (Nat.zero_le _) dX7_words_15 (fun r2 E2 H locs hw hP hS => ?_)
  obtain ⟨hrt, hEe⟩ := hw
  subst hrt
  subst hEe
  refine wm_ifz_ne (x := (decide (11 < ss k))) (tgt := 31) X dX7_words_18 (by decide) (fun hc18 => ?_) (fun hc18 => ?_)
  · refine lv_iconst (v := nI 2) X.1 X.2.1 dX7_words_31 (by decide) ?_
    refine lv_goto (tgt := 36) X.1 X.2.1 dX7_words_32 (by decide) ?_
    refine wm_put (v := .int (nI 2)) X hP hS hlt0 hE0 rfl wm_inX7 tyX7 tyX7_ok nmX7 0 (by decide) wq5_22 rfl rfl rfl (fs1 := [.int (nI 2), .ref (b + 120), .int (nI sz), .int (nI fa), .int (nI pl), .ref (b + 121), .ref (b + 122), .ref (b + 123), .ref (b + 124), .ref (b + 125), .ref (b + 126), .ref (b + 127), .int (nI ats), .int (nI aa), .ref (b + 128), .ref (b + 129), .ref (b + 130), .ref (b + 131), .ref (b + 132), .ref (b + 133), .int (nI op), .int (nI be.toNat), .int (nI fi), .int (nI la), .ref (b + 134), .ref (b + 135), .ref (b + 136), .int (nI wa), .ref (b + 137), .ref (b + 138), .ref (b + 139), .int (nI wc), .ref (b + 140), .int (nI kl), .ref (b + 141), .ref (b + 142), .ref (b + 143), .ref (b + 144), .ref (b + 145)]) rfl (Nat.le_of_ble_eq_true rfl) dX7_words_36 (fun H locs E4 hP hS hE0 hq => ?_)
    have hE1 := (hq 122 (by decide)).trans hE1
    have hfr : ∀ j, j ≠ 119 → E4 j = E j := fun j h0 => (hq j h0).trans (hfr j h0)
    refine lv_aload_n X.1 X.2.1 dX7_words_39 rfl (lv_at hl 0 rfl) ?_
    refine wm_get X hP hlt0 hE0 rfl wm_inX7 0 (by decide) wq5_22 rfl dX7_words_40 ?_
    refine lv_if_le (tgt := 48) X.1 X.2.1 dX7_words_43 (by decide) (fun h => by exfalso; revert h; decide) (fun _ => ?_)
    refine lv_lconst (v := lN 0) X.1 X.2.1 dX7_words_46 (by decide) ?_
    exact wm_lret (post := pmwordsA C b E th sz fa pl ats aa op fi la wa wc kl be k y ss) X hr hP hS ⟨rfl, hE0, hfr⟩ hQ dX7_words_47
  · exact absurd hc18 (by rw [decide_eq_true hsk]; decide)
def pmwordsB (C : Nat → ClassId) (b : Nat) (E : Nat → va_E) (th sz fa pl ats aa op fi la wa wc kl : Nat) (be : Bool) (k : Nat) (y : Int32) (ss : Nat → Nat) : Int64 → (Nat → va_E) → Prop := fun r E' => r = lN 0 ∧ E' 119 = .inr (7, [.int (nI 2), .ref (b + 120), .int (nI sz), .int (nI fa), .int (nI pl), .ref (b + 121), .ref (b + 122), .ref (b + 123), .ref (b + 124), .ref (b + 125), .ref (b + 126), .ref (b + 127), .int (nI ats), .int (nI aa), .ref (b + 128), .ref (b + 129), .ref (b + 130), .ref (b + 131), .ref (b + 132), .ref (b + 133), .int (nI op), .int (nI be.toNat), .int (nI fi), .int (nI la), .ref (b + 134), .ref (b + 135), .ref (b + 136), .int (nI wa), .ref (b + 137), .ref (b + 138), .ref (b + 139), .int (nI wc), .ref (b + 140), .int (nI kl), .ref (b + 141), .ref (b + 142), .ref (b + 143), .ref (b + 144), .ref (b + 145)]) ∧ (∀ j, j ≠ 119 → E' j = E j)
set_option maxHeartbeats 4000000 in
set_option maxRecDepth 100000 in
theorem kmwordsB (l : Launch) (D : va_G) (C : Nat → ClassId) (b n : Nat) (E : Nat → va_E) (th sz fa pl ats aa op fi la wa wc kl : Nat) (be : Bool) (k : Nat) (y : Int32) (ss : Nat → Nat) (hlt0 : 119 < n) (hE0 : E 119 = .inr (7, [.int (nI th), .ref (b + 120), .int (nI sz), .int (nI fa), .int (nI pl), .ref (b + 121), .ref (b + 122), .ref (b + 123), .ref (b + 124), .ref (b + 125), .ref (b + 126), .ref (b + 127), .int (nI ats), .int (nI aa), .ref (b + 128), .ref (b + 129), .ref (b + 130), .ref (b + 131), .ref (b + 132), .ref (b + 133), .int (nI op), .int (nI be.toNat), .int (nI fi), .int (nI la), .ref (b + 134), .ref (b + 135), .ref (b + 136), .int (nI wa), .ref (b + 137), .ref (b + 138), .ref (b + 139), .int (nI wc), .ref (b + 140), .int (nI kl), .ref (b + 141), .ref (b + 142), .ref (b + 143), .ref (b + 144), .ref (b + 145)])) (hlt1 : 122 < n) (hE1 : E 122 = wm_I C 8 ss) (hkk : k < 8) (hsk : ss k ≤ 11) (hk : ¬ (0 ≤ y ∧ y ≤ nI 20)) : Met l yX7_words (wm_ws yX7_words cX7_words 7 (some .long)) { frames := 1, cells := 0, slots := 0, locals := 21 } (va_Pc [.ref (b + 119), .int (nI k), .int y] (wm_G D C b n E)) (va_Ql (pmwordsB C b E th sz fa pl ats aa op fi la wa wc kl be k y ss) (fun E' t => wm_P D b n E' t.heap) (wm_A b)) 0 0 (wm_A b) := by
  refine wm_ofW (by decide) (Nat.le_of_ble_eq_true rfl) (fun p e s m below meth c ls R args Q hRe hQ X hr hnm hP hS hl => ?_)
  have hl : lv_has ls 7 [(0, .ref (b + 119)), (1, .int (nI k)), (2, .int y)] := hl
  have hfr : ∀ j, j ≠ 119 → E j = E j := fun _ _ => rfl
  refine lv_aload_n X.1 X.2.1 dX7_words_0 rfl (lv_at hl 0 rfl) ?_
  refine lv_aload_n X.1 X.2.1 dX7_words_1 rfl (lv_at hl 0 rfl) ?_
  refine lv_iload_n X.1 X.2.1 dX7_words_2 rfl (lv_at hl 1 rfl) ?_
  refine wm_callVi (k := 1) (As := [.int (nI k)]) (rest := [.ref (b + 119)]) X hP hS hlt0 hE0 rfl (knoMach l D C b n E k (by omega)) wq5_157 wq5_159 wqP2_15 wq1_8 wq5_160 (by decide) (by rw [hRe]; exact ⟨Nat.le_of_ble_eq_true rfl, Nat.le_of_ble_eq_true rfl⟩) rfl hl.1 rfl (Nat.le_of_ble_eq_true rfl) (Nat.zero_le _) (Nat.zero_le _) dX7_words_3 (fun r1 E1 H locs hw hP hS => ?_)
  obtain ⟨hrt, hEe⟩ := hw
  subst hrt
  subst hEe
  refine wm_ifz_eq (x := false) (tgt := 13) X dX7_words_6 (by decide) (fun _ => ?_) (fun h => by exfalso; revert h; decide)
  refine lv_aload_n X.1 X.2.1 dX7_words_13 rfl (lv_at hl 0 rfl) ?_
  refine lv_iload_n X.1 X.2.1 dX7_words_14 rfl (lv_at hl 1 rfl) ?_
  refine wm_callVi (k := 1) (As := [.int (nI k)]) (rest := [.ref (b + 119)]) X hP hS hlt0 hE0 rfl (kX7_isGreat l D C b n E th sz fa pl ats aa op fi la wa wc kl be k ss hlt0 hE0 hlt1 hE1 (by omega) (by omega)) wq6_59 wq6_61 wqP4_2 wq1_8 wq6_62 (by decide) (by rw [hRe]; exact ⟨Nat.le_of_ble_eq_true rfl, Nat.le_of_ble_eq_true rfl⟩) rfl hl.1 rfl (Nat.le_of_ble_eq_true rfl) (Nat.zero_le _) (Nat.zero_le _) dX7_words_15 (fun r2 E2 H locs hw hP hS => ?_)
  obtain ⟨hrt, hEe⟩ := hw
  subst hrt
  subst hEe
  refine wm_ifz_ne (x := (decide (11 < ss k))) (tgt := 31) X dX7_words_18 (by decide) (fun hc18 => ?_) (fun hc18 => ?_)
  · exact absurd hc18 (by rw [decide_eq_false (show ¬ 11 < ss k by omega)]; decide)
  · refine lv_iload_n X.1 X.2.1 dX7_words_21 rfl (lv_at hl 2 rfl) ?_
    refine lv_if_lt (tgt := 31) X.1 X.2.1 dX7_words_22 (by decide) (fun hc22 => ?_) (fun hc22 => ?_)
    · refine lv_iconst (v := nI 2) X.1 X.2.1 dX7_words_31 (by decide) ?_
      refine lv_goto (tgt := 36) X.1 X.2.1 dX7_words_32 (by decide) ?_
      refine wm_put (v := .int (nI 2)) X hP hS hlt0 hE0 rfl wm_inX7 tyX7 tyX7_ok nmX7 0 (by decide) wq5_22 rfl rfl rfl (fs1 := [.int (nI 2), .ref (b + 120), .int (nI sz), .int (nI fa), .int (nI pl), .ref (b + 121), .ref (b + 122), .ref (b + 123), .ref (b + 124), .ref (b + 125), .ref (b + 126), .ref (b + 127), .int (nI ats), .int (nI aa), .ref (b + 128), .ref (b + 129), .ref (b + 130), .ref (b + 131), .ref (b + 132), .ref (b + 133), .int (nI op), .int (nI be.toNat), .int (nI fi), .int (nI la), .ref (b + 134), .ref (b + 135), .ref (b + 136), .int (nI wa), .ref (b + 137), .ref (b + 138), .ref (b + 139), .int (nI wc), .ref (b + 140), .int (nI kl), .ref (b + 141), .ref (b + 142), .ref (b + 143), .ref (b + 144), .ref (b + 145)]) rfl (Nat.le_of_ble_eq_true rfl) dX7_words_36 (fun H locs E5 hP hS hE0 hq => ?_)
      have hE1 := (hq 122 (by decide)).trans hE1
      have hfr : ∀ j, j ≠ 119 → E5 j = E j := fun j h0 => (hq j h0).trans (hfr j h0)
      refine lv_aload_n X.1 X.2.1 dX7_words_39 rfl (lv_at hl 0 rfl) ?_
      refine wm_get X hP hlt0 hE0 rfl wm_inX7 0 (by decide) wq5_22 rfl dX7_words_40 ?_
      refine lv_if_le (tgt := 48) X.1 X.2.1 dX7_words_43 (by decide) (fun h => by exfalso; revert h; decide) (fun _ => ?_)
      refine lv_lconst (v := lN 0) X.1 X.2.1 dX7_words_46 (by decide) ?_
      exact wm_lret (post := pmwordsB C b E th sz fa pl ats aa op fi la wa wc kl be k y ss) X hr hP hS ⟨rfl, hE0, hfr⟩ hQ dX7_words_47
    · refine lv_iload_n X.1 X.2.1 dX7_words_25 rfl (lv_at hl 2 rfl) ?_
      refine lv_bipush (v := nI 20) X.1 X.2.1 dX7_words_26 (by decide) ?_
      refine lv_icmp_le (tgt := 35) X.1 X.2.1 dX7_words_28 (by decide) (fun hc28 => ?_) (fun hc28 => ?_)
      · exact absurd hc28 (fun q => hk ⟨Int32.not_lt.mp hc22, q⟩)
      · refine lv_iconst (v := nI 2) X.1 X.2.1 dX7_words_31 (by decide) ?_
        refine lv_goto (tgt := 36) X.1 X.2.1 dX7_words_32 (by decide) ?_
        refine wm_put (v := .int (nI 2)) X hP hS hlt0 hE0 rfl wm_inX7 tyX7 tyX7_ok nmX7 0 (by decide) wq5_22 rfl rfl rfl (fs1 := [.int (nI 2), .ref (b + 120), .int (nI sz), .int (nI fa), .int (nI pl), .ref (b + 121), .ref (b + 122), .ref (b + 123), .ref (b + 124), .ref (b + 125), .ref (b + 126), .ref (b + 127), .int (nI ats), .int (nI aa), .ref (b + 128), .ref (b + 129), .ref (b + 130), .ref (b + 131), .ref (b + 132), .ref (b + 133), .int (nI op), .int (nI be.toNat), .int (nI fi), .int (nI la), .ref (b + 134), .ref (b + 135), .ref (b + 136), .int (nI wa), .ref (b + 137), .ref (b + 138), .ref (b + 139), .int (nI wc), .ref (b + 140), .int (nI kl), .ref (b + 141), .ref (b + 142), .ref (b + 143), .ref (b + 144), .ref (b + 145)]) rfl (Nat.le_of_ble_eq_true rfl) dX7_words_36 (fun H locs E7 hP hS hE0 hq => ?_)
        have hE1 := (hq 122 (by decide)).trans hE1
        have hfr : ∀ j, j ≠ 119 → E7 j = E j := fun j h0 => (hq j h0).trans (hfr j h0)
        refine lv_aload_n X.1 X.2.1 dX7_words_39 rfl (lv_at hl 0 rfl) ?_
        refine wm_get X hP hlt0 hE0 rfl wm_inX7 0 (by decide) wq5_22 rfl dX7_words_40 ?_
        refine lv_if_le (tgt := 48) X.1 X.2.1 dX7_words_43 (by decide) (fun h => by exfalso; revert h; decide) (fun _ => ?_)
        refine lv_lconst (v := lN 0) X.1 X.2.1 dX7_words_46 (by decide) ?_
        exact wm_lret (post := pmwordsB C b E th sz fa pl ats aa op fi la wa wc kl be k y ss) X hr hP hS ⟨rfl, hE0, hfr⟩ hQ dX7_words_47
