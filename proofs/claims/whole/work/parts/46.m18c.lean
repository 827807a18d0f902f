def pmwords1 (C : Nat → ClassId) (b : Nat) (E : Nat → va_E) (th sz fa pl ats aa op fi la wa wc kl : Nat) (be : Bool) (k len : Nat) (ar ss sa se e1 e2 : Nat → Nat) : Int64 → (Nat → va_E) → Prop := fun r E' => ∃ (f1 : Nat → Nat) (f2 : Nat → Nat), r = lN (wm_cwr (fun S a => wm_af ar k (ss k) a S) (List.range 2048) (sa k) (se k) len) ∧ E' 119 = .inr (7, [.int (nI 0), .ref (b + 120), .int (nI sz), .int (nI fa), .int (nI pl), .ref (b + 121), .ref (b + 122), .ref (b + 123), .ref (b + 124), .ref (b + 125), .ref (b + 126), .ref (b + 127), .int (nI ats), .int (nI aa), .ref (b + 128), .ref (b + 129), .ref (b + 130), .ref (b + 131), .ref (b + 132), .ref (b + 133), .int (nI op), .int (nI be.toNat), .int (nI fi), .int (nI la), .ref (b + 134), .ref (b + 135), .ref (b + 136), .int (nI wa), .ref (b + 137), .ref (b + 138), .ref (b + 139), .int (nI wc), .ref (b + 140), .int (nI kl), .ref (b + 141), .ref (b + 142), .ref (b + 143), .ref (b + 144), .ref (b + 145)]) ∧ E' 141 = wm_J C 2048 f1 ∧ E' 142 = wm_J C 2048 f2 ∧ (∀ j, j ≠ 119 → j ≠ 141 → j ≠ 142 → E' j = E j)
set_option maxHeartbeats 4000000 in
set_option maxRecDepth 100000 in
theorem kmwords1 (l : Launch) (D : va_G) (C : Nat → ClassId) (b n : Nat) (E : Nat → va_E) (th sz fa pl ats aa op fi la wa wc kl : Nat) (be : Bool) (k len : Nat) (ar ss sa se e1 e2 : Nat → Nat) (hlt0 : 119 < n) (hE0 : E 119 = .inr (7, [.int (nI th), .ref (b + 120), .int (nI sz), .int (nI fa), .int (nI pl), .ref (b + 121), .ref (b + 122), .ref (b + 123), .ref (b + 124), .ref (b + 125), .ref (b + 126), .ref (b + 127), .int (nI ats), .int (nI aa), .ref (b + 128), .ref (b + 129), .ref (b + 130), .ref (b + 131), .ref (b + 132), .ref (b + 133), .int (nI op), .int (nI be.toNat), .int (nI fi), .int (nI la), .ref (b + 134), .ref (b + 135), .ref (b + 136), .int (nI wa), .ref (b + 137), .ref (b + 138), .ref (b + 139), .int (nI wc), .ref (b + 140), .int (nI kl), .ref (b + 141), .ref (b + 142), .ref (b + 143), .ref (b + 144), .ref (b + 145)])) (hlt1 : 121 < n) (hE1 : E 121 = wm_I C 1536 ar) (hlt2 : 122 < n) (hE2 : E 122 = wm_I C 8 ss) (hlt3 : 123 < n) (hE3 : E 123 = wm_I C 8 sa) (hlt4 : 124 < n) (hE4 : E 124 = wm_I C 8 se) (hlt5 : 141 < n) (hE5 : E 141 = wm_J C 2048 e1) (hlt6 : 142 < n) (hE6 : E 142 = wm_J C 2048 e2) (hkk : k < 8) (hsk : ss k ≤ 11) (hsa : sa k < 2 ^ ss k) (hg : ∀ a x, a < 8 → x < ss k → ar (192 * k + 8 * x + a) < 2 ^ ss k) (hse : se k < 2 ^ ss k) (hlen : len ≤ 20) : Met l yX7_words (wm_ws yX7_words cX7_words 7 (some .long)) { frames := 2, cells := 0, slots := 0, locals := 48 } (va_Pc [.ref (b + 119), .int (nI k), .int (nI len)] (wm_G D C b n E)) (va_Ql (pmwords1 C b E th sz fa pl ats aa op fi la wa wc kl be k len ar ss sa se e1 e2) (fun E' t => wm_P D b n E' t.heap) (wm_A b)) 0 0 (wm_A b) := by
  refine wm_ofW (by decide) (Nat.le_of_ble_eq_true rfl) (fun p e s m below meth c ls R args Q hRe hQ X hr hnm hP hS hl => ?_)
  have hl : lv_has ls 7 [(0, .ref (b + 119)), (1, .int (nI k)), (2, .int (nI len))] := hl
  have hfr : ∀ j, j ≠ 119 → j ≠ 141 → j ≠ 142 → E j = E j := fun _ _ _ _ => rfl
  have h2c : 2 ^ ss k ≤ 2048 := Nat.pow_le_pow_right (show 0 < 2 by decide) hsk
  refine lv_aload_n X.1 X.2.1 dX7_words_0 rfl (lv_at hl 0 rfl) ?_
  refine lv_aload_n X.1 X.2.1 dX7_words_1 rfl (lv_at hl 0 rfl) ?_
  refine lv_iload_n X.1 X.2.1 dX7_words_2 rfl (lv_at hl 1 rfl) ?_
  refine wm_callVi (k := 1) (As := [.int (nI k)]) (rest := [.ref (b + 119)]) X hP hS hlt0 hE0 rfl (knoMach l D C b n E k (by omega)) wq5_157 wq5_159 wqP2_15 wq1_8 wq5_160 (by decide) (by rw [hRe]; exact ⟨Nat.le_of_ble_eq_true rfl, Nat.le_of_ble_eq_true rfl⟩) rfl hl.1 rfl (Nat.le_of_ble_eq_true rfl) (Nat.zero_le _) (Nat.zero_le _) dX7_words_3 (fun r1 E1 H locs hw hP hS => ?_)
  obtain ⟨hrt, hEe⟩ := hw
  subst hrt
  subst hEe
  refine wm_ifz_eq (x := false) (tgt := 13) X dX7_words_6 (by decide) (fun _ => ?_) (fun h => by exfalso; revert h; decide)
  refine lv_aload_n X.1 X.2.1 dX7_words_13 rfl (lv_at hl 0 rfl) ?_
  refine lv_iload_n X.1 X.2.1 dX7_words_14 rfl (lv_at hl 1 rfl) ?_
  refine wm_callVi (k := 1) (As := [.int (nI k)]) (rest := [.ref (b + 119)]) X hP hS hlt0 hE0 rfl (kX7_isGreat l D C b n E th sz fa pl ats aa op fi la wa wc kl be k ss hlt0 hE0 hlt2 hE2 (by omega) (by omega)) wq6_59 wq6_61 wqP4_2 wq1_8 wq6_62 (by decide) (by rw [hRe]; exact ⟨Nat.le_of_ble_eq_true rfl, Nat.le_of_ble_eq_true rfl⟩) rfl hl.1 rfl (Nat.le_of_ble_eq_true rfl) (Nat.zero_le _) (Nat.zero_le _) dX7_words_15 (fun r2 E2 H locs hw hP hS => ?_)
  obtain ⟨hrt, hEe⟩ := hw
  subst hrt
  subst hEe
  refine wm_ifz_ne (x := (decide (11 < ss k))) (tgt := 31) X dX7_words_18 (by decide) (fun hc18 => ?_) (fun hc18 => ?_)
  · exact absurd hc18 (by rw [decide_eq_false (show ¬ 11 < ss k by omega)]; decide)
  · refine lv_iload_n X.1 X.2.1 dX7_words_21 rfl (lv_at hl 2 rfl) ?_
    refine wm_if_lt (x := len) (tgt := 31) X (by omega) dX7_words_22 (by decide) ?_
    refine lv_iload_n X.1 X.2.1 dX7_words_25 rfl (lv_at hl 2 rfl) ?_
    refine lv_bipush (v := nI 20) X.1 X.2.1 dX7_words_26 (by decide) ?_
    refine wm_icmp_le (x := len) (y := 20) (tgt := 35) X (by omega) (by decide) dX7_words_28 (by decide) (fun hc28 => ?_) (fun hc28 => ?_)
    · refine lv_iconst (v := nI 0) X.1 X.2.1 dX7_words_35 (by decide) ?_
      refine wm_put (v := .int (nI 0)) X hP hS hlt0 hE0 rfl wm_inX7 tyX7 tyX7_ok nmX7 0 (by decide) wq5_22 rfl rfl rfl (fs1 := [.int (nI 0), .ref (b + 120), .int (nI sz), .int (nI fa), .int (nI pl), .ref (b + 121), .ref (b + 122), .ref (b + 123), .ref (b + 124), .ref (b + 125), .ref (b + 126), .ref (b + 127), .int (nI ats), .int (nI aa), .ref (b + 128), .ref (b + 129), .ref (b + 130), .ref (b + 131), .ref (b + 132), .ref (b + 133), .int (nI op), .int (nI be.toNat), .int (nI fi), .int (nI la), .ref (b + 134), .ref (b + 135), .ref (b + 136), .int (nI wa), .ref (b + 137), .ref (b + 138), .ref (b + 139), .int (nI wc), .ref (b + 140), .int (nI kl), .ref (b + 141), .ref (b + 142), .ref (b + 143), .ref (b + 144), .ref (b + 145)]) rfl (Nat.le_of_ble_eq_true rfl) dX7_words_36 (fun H locs E5 hP hS hE0 hq => ?_)
      have hE1 := (hq 121 (by decide)).trans hE1
      have hE2 := (hq 122 (by decide)).trans hE2
      have hE3 := (hq 123 (by decide)).trans hE3
      have hE4 := (hq 124 (by decide)).trans hE4
      have hE5 := (hq 141 (by decide)).trans hE5
      have hE6 := (hq 142 (by decide)).trans hE6
      have hfr : ∀ j, j ≠ 119 → j ≠ 141 → j ≠ 142 → E5 j = E j := fun j h0 h1 h2 => (hq j h0).trans (hfr j h0 h1 h2)
      refine lv_aload_n X.1 X.2.1 dX7_words_39 rfl (lv_at hl 0 rfl) ?_
      refine wm_get X hP hlt0 hE0 rfl wm_inX7 0 (by decide) wq5_22 rfl dX7_words_40 ?_
      refine lv_if_le (tgt := 48) X.1 X.2.1 dX7_words_43 (by decide) (fun _ => ?_) (fun h => by exfalso; revert h; decide)
      refine lv_iconst (v := nI 0) X.1 X.2.1 dX7_words_48 (by decide) ?_
      refine lv_istore_n (lv' := [(3, .int (nI 0)), (0, .ref (b + 119)), (1, .int (nI k)), (2, .int (nI len))]) X.1 X.2.1 dX7_words_49 rfl hl (by decide) rfl (fun ls hl => ?_)
      have L50 : ∀ (fu : Nat) (i : Nat) (f1 : Nat → Nat), 2048 - i < fu → (i ≤ 2048) → (∀ S, S < i → f1 S = if S = sa k then 1 else 0) → ∀ (E6 : Nat → va_E) (H : Heap) (locs : List Loc) (ls : Array Slot), wm_P D b n E6 H → wm_S b s.heap H locs → E6 119 = .inr (7, [.int (nI 0), .ref (b + 120), .int (nI sz), .int (nI fa), .int (nI pl), .ref (b + 121), .ref (b + 122), .ref (b + 123), .ref (b + 124), .ref (b + 125), .ref (b + 126), .ref (b + 127), .int (nI ats), .int (nI aa), .ref (b + 128), .ref (b + 129), .ref (b + 130), .ref (b + 131), .ref (b + 132), .ref (b + 133), .int (nI op), .int (nI be.toNat), .int (nI fi), .int (nI la), .ref (b + 134), .ref (b + 135), .ref (b + 136), .int (nI wa), .ref (b + 137), .ref (b + 138), .ref (b + 139), .int (nI wc), .ref (b + 140), .int (nI kl), .ref (b + 141), .ref (b + 142), .ref (b + 143), .ref (b + 144), .ref (b + 145)]) → E6 121 = wm_I C 1536 ar → E6 122 = wm_I C 8 ss → E6 123 = wm_I C 8 sa → E6 124 = wm_I C 8 se → E6 141 = wm_J C 2048 f1 → E6 142 = wm_J C 2048 e2 → (∀ j, j ≠ 119 → j ≠ 141 → j ≠ 142 → E6 j = E j) → lv_has ls 7 [(0, .ref (b + 119)), (1, .int (nI k)), (2, .int (nI len)), (3, .int (nI i))] → W p l e R s m args below meth c H locs 0 0 Q (F0 m 50 ls []) := by
        intro fu
        induction fu with
        | zero => intro i f1 hm; exact absurd hm (Nat.not_lt_zero _)
        | succ fu ih50 =>
          intro i f1 hm hi h1 E6 H locs ls hP hS hE0 hE1 hE2 hE3 hE4 hE5 hE6 hfr hl
          refine lv_iload_n X.1 X.2.1 dX7_words_50 rfl (lv_at hl 3 rfl) ?_
          refine lv_sipush (v := nI 2048) X.1 X.2.1 dX7_words_51 (by decide) ?_
          refine wm_icmp_ge (x := i) (y := 2048) (tgt := 84) X (by omega) (by decide) dX7_words_54 (by decide) (fun hc54 => ?_) (fun hc54 => ?_)
          · refine lv_iconst (v := nI 0) X.1 X.2.1 dX7_words_84 (by decide) ?_
            refine lv_istore_n (lv' := [(3, .int (nI 0)), (0, .ref (b + 119)), (1, .int (nI k)), (2, .int (nI len))]) X.1 X.2.1 dX7_words_85 rfl hl (by decide) rfl (fun ls hl => ?_)
            have L86 : ∀ (fu : Nat) (t : Nat) (f1 : Nat → Nat) (f2 : Nat → Nat), 20 - t < fu → (t ≤ len) → (∀ S, S < 2048 → f1 S = wm_cw (fun S a => wm_af ar k (ss k) a S) (List.range 2048) (sa k) t S) → ∀ (E8 : Nat → va_E) (H : Heap) (locs : List Loc) (ls : Array Slot), wm_P D b n E8 H → wm_S b s.heap H locs → E8 119 = .inr (7, [.int (nI 0), .ref (b + 120), .int (nI sz), .int (nI fa), .int (nI pl), .ref (b + 121), .ref (b + 122), .ref (b + 123), .ref (b + 124), .ref (b + 125), .ref (b + 126), .ref (b + 127), .int (nI ats), .int (nI aa), .ref (b + 128), .ref (b + 129), .ref (b + 130), .ref (b + 131), .ref (b + 132), .ref (b + 133), .int (nI op), .int (nI be.toNat), .int (nI fi), .int (nI la), .ref (b + 134), .ref (b + 135), .ref (b + 136), .int (nI wa), .ref (b + 137), .ref (b + 138), .ref (b + 139), .int (nI wc), .ref (b + 140), .int (nI kl), .ref (b + 141), .ref (b + 142), .ref (b + 143), .ref (b + 144), .ref (b + 145)]) → E8 121 = wm_I C 1536 ar → E8 122 = wm_I C 8 ss → E8 123 = wm_I C 8 sa → E8 124 = wm_I C 8 se → E8 141 = wm_J C 2048 f1 → E8 142 = wm_J C 2048 f2 → (∀ j, j ≠ 119 → j ≠ 141 → j ≠ 142 → E8 j = E j) → lv_has ls 7 [(0, .ref (b + 119)), (1, .int (nI k)), (2, .int (nI len)), (3, .int (nI t))] → W p l e R s m args below meth c H locs 0 0 Q (F0 m 86 ls []) := by
              intro fu
              induction fu with
              | zero => intro t f1 f2 hm; exact absurd hm (Nat.not_lt_zero _)
              | succ fu ih86 =>
                intro t f1 f2 hm htl hcw E8 H locs ls hP hS hE0 hE1 hE2 hE3 hE4 hE5 hE6 hfr hl
                have hcb : ∀ S, S < 2048 → f1 S < 2 ^ 63 := fun S hS => by rw [hcw S hS]; have := wm_cw_lt (F := (fun S a => wm_af ar k (ss k) a S)) (L := (List.range 2048)) (s0 := sa k) (t := t) (j := S) List.nodup_range (by omega) (by rw [wm_rgl]; exact hS); rwa [wm_rgD hS] at this
                refine lv_iload_n X.1 X.2.1 dX7_words_86 rfl (lv_at hl 3 rfl) ?_
                refine lv_iload_n X.1 X.2.1 dX7_words_87 rfl (lv_at hl 2 rfl) ?_
                refine wm_icmp_ge (x := t) (y := len) (tgt := 231) X (by omega) (by omega) dX7_words_88 (by decide) (fun hc88 => ?_) (fun hc88 => ?_)
                · have htl2 : t = len := by omega
                  have hcwl : ∀ S, S < 2048 → f1 S = wm_cw (fun S a => wm_af ar k (ss k) a S) (List.range 2048) (sa k) len S := fun S hS => by rw [hcw S hS, htl2]
                  refine lv_lconst (v := lN 0) X.1 X.2.1 dX7_words_231 (by decide) ?_
                  refine lv_lstore_n (lv' := [(3, .long (lN 0)), (0, .ref (b + 119)), (1, .int (nI k)), (2, .int (nI len))]) X.1 X.2.1 dX7_words_232 rfl hl (by decide) rfl (fun ls hl => ?_)
                  refine lv_iconst (v := nI 0) X.1 X.2.1 dX7_words_233 (by decide) ?_
                  refine lv_istore (lv' := [(5, .int (nI 0)), (3, .long (lN 0)), (0, .ref (b + 119)), (1, .int (nI k)), (2, .int (nI len))]) X.1 X.2.1 dX7_words_234 hl (by decide) rfl (fun ls hl => ?_)
                  have L236 : ∀ (fu : Nat) (q : Nat) (i : Nat), 2048 - i < fu → (i ≤ 2048) → (q = wm_sum i (fun j => if (List.range 2048).getD j 0 &&& se k ≠ 0 then wm_cw (fun S a => wm_af ar k (ss k) a S) (List.range 2048) (sa k) len ((List.range 2048).getD j 0) else 0)) → ∀ (E10 : Nat → va_E) (H : Heap) (locs : List Loc) (ls : Array Slot), wm_P D b n E10 H → wm_S b s.heap H locs → E10 119 = .inr (7, [.int (nI 0), .ref (b + 120), .int (nI sz), .int (nI fa), .int (nI pl), .ref (b + 121), .ref (b + 122), .ref (b + 123), .ref (b + 124), .ref (b + 125), .ref (b + 126), .ref (b + 127), .int (nI ats), .int (nI aa), .ref (b + 128), .ref (b + 129), .ref (b + 130), .ref (b + 131), .ref (b + 132), .ref (b + 133), .int (nI op), .int (nI be.toNat), .int (nI fi), .int (nI la), .ref (b + 134), .ref (b + 135), .ref (b + 136), .int (nI wa), .ref (b + 137), .ref (b + 138), .ref (b + 139), .int (nI wc), .ref (b + 140), .int (nI kl), .ref (b + 141), .ref (b + 142), .ref (b + 143), .ref (b + 144), .ref (b + 145)]) → E10 121 = wm_I C 1536 ar → E10 122 = wm_I C 8 ss → E10 123 = wm_I C 8 sa → E10 124 = wm_I C 8 se → E10 141 = wm_J C 2048 f1 → E10 142 = wm_J C 2048 f2 → (∀ j, j ≠ 119 → j ≠ 141 → j ≠ 142 → E10 j = E j) → lv_has ls 7 [(0, .ref (b + 119)), (1, .int (nI k)), (2, .int (nI len)), (3, .long (lN q)), (5, .int (nI i))] → W p l e R s m args below meth c H locs 0 0 Q (F0 m 236 ls []) := by
                    intro fu
                    induction fu with
                    | zero => intro q i hm; exact absurd hm (Nat.not_lt_zero _)
                    | succ fu ih236 =>
                      intro q i hm hi8 hq8 E10 H locs ls hP hS hE0 hE1 hE2 hE3 hE4 hE5 hE6 hfr hl
                      refine lv_iload X.1 X.2.1 dX7_words_236 (lv_at hl 4 rfl) ?_
                      refine lv_sipush (v := nI 2048) X.1 X.2.1 dX7_words_238 (by decide) ?_
                      refine wm_icmp_ge (x := i) (y := 2048) (tgt := 276) X (by omega) (by decide) dX7_words_241 (by decide) (fun hc241 => ?_) (fun hc241 => ?_)
                      · refine lv_lload_n X.1 X.2.1 dX7_words_276 rfl (lv_at hl 3 rfl) ?_
                        have hi9 : i = 2048 := by omega
                        exact wm_lret (post := pmwords1 C b E th sz fa pl ats aa op fi la wa wc kl be k len ar ss sa se e1 e2) X hr hP hS ⟨f1, f2, (congrArg lN (by rw [hq8, hi9]; unfold wm_cwr; rw [wm_rgl])), hE0, hE5, hE6, hfr⟩ hQ dX7_words_277
                      · refine lv_iload X.1 X.2.1 dX7_words_244 (lv_at hl 4 rfl) ?_
                        refine lv_aload_n X.1 X.2.1 dX7_words_246 rfl (lv_at hl 0 rfl) ?_
                        refine wm_get X hP hlt0 hE0 rfl wm_inX7 8 (by decide) wq5_30 rfl dX7_words_247 ?_
                        refine lv_iload_n X.1 X.2.1 dX7_words_250 rfl (lv_at hl 1 rfl) ?_
                        refine wm_iald (i := k) X hP hlt4 hE4 (by omega) (by decide) dX7_words_251 ?_
                        refine wm_iand (x := i) (y := (se k)) X dX7_words_252 ?_
                        refine wm_if_eq (x := (i &&& (se k))) (tgt := 268) X (Nat.lt_of_le_of_lt Nat.and_le_left (by omega)) dX7_words_253 (by decide) (fun hc253 => ?_) (fun hc253 => ?_)
                        · refine lv_lload_n X.1 X.2.1 dX7_words_268 rfl (lv_at hl 3 rfl) ?_
                          refine lv_lstore_n (lv' := [(3, .long (lN q)), (0, .ref (b + 119)), (1, .int (nI k)), (2, .int (nI len)), (5, .int (nI i))]) X.1 X.2.1 dX7_words_269 rfl hl (by decide) rfl (fun ls hl => ?_)
                          refine lv_iinc (v := nI (i + 1)) (lv' := [(5, .int (nI (i + 1))), (3, .long (lN q)), (0, .ref (b + 119)), (1, .int (nI k)), (2, .int (nI len))]) X.1 X.2.1 dX7_words_270 hl (k := 4) rfl (wm_inc i) (by decide) rfl (fun ls hl => ?_)
                          refine lv_goto (tgt := 236) X.1 X.2.1 dX7_words_273 (by decide) ?_
                          exact ih236 q (i + 1) (by omega) (by omega) (by rw [wm_sum_s, ← hq8, wm_rgD hc241, if_neg (fun z => z hc253), Nat.add_zero]) E10 _ _ _ hP hS hE0 hE1 hE2 hE3 hE4 hE5 hE6 hfr (lv_sub hl [2, 3, 4, 1, 0] rfl)
                        · refine lv_lload_n X.1 X.2.1 dX7_words_256 rfl (lv_at hl 3 rfl) ?_
                          refine lv_aload_n X.1 X.2.1 dX7_words_257 rfl (lv_at hl 0 rfl) ?_
                          refine wm_get X hP hlt0 hE0 rfl wm_inX7 34 (by decide) wq5_56 rfl dX7_words_258 ?_
                          refine lv_iload X.1 X.2.1 dX7_words_261 (lv_at hl 4 rfl) ?_
                          refine wm_lald (i := i) X hP hlt5 hE5 (by omega) (by decide) dX7_words_263 ?_
                          refine wm_ladd (x := q) (y := (f1 i)) X dX7_words_264 ?_
                          refine lv_goto (tgt := 269) X.1 X.2.1 dX7_words_265 (by decide) ?_
                          refine lv_lstore_n (lv' := [(3, .long (lN (q + (f1 i)))), (0, .ref (b + 119)), (1, .int (nI k)), (2, .int (nI len)), (5, .int (nI i))]) X.1 X.2.1 dX7_words_269 rfl hl (by decide) rfl (fun ls hl => ?_)
                          refine lv_iinc (v := nI (i + 1)) (lv' := [(5, .int (nI (i + 1))), (3, .long (lN (q + (f1 i)))), (0, .ref (b + 119)), (1, .int (nI k)), (2, .int (nI len))]) X.1 X.2.1 dX7_words_270 hl (k := 4) rfl (wm_inc i) (by decide) rfl (fun ls hl => ?_)
                          refine lv_goto (tgt := 236) X.1 X.2.1 dX7_words_273 (by decide) ?_
                          exact ih236 (q + (f1 i)) (i + 1) (by omega) (by omega) (by rw [wm_sum_s, ← hq8, wm_rgD hc241, if_pos hc253, hcwl i hc241]) E10 _ _ _ hP hS hE0 hE1 hE2 hE3 hE4 hE5 hE6 hfr (lv_sub hl [2, 3, 4, 1, 0] rfl)
                  exact L236 (2048 - 0 + 1) 0 0 (Nat.lt_succ_self _) (by omega) rfl E8 _ _ _ hP hS hE0 hE1 hE2 hE3 hE4 hE5 hE6 hfr (lv_sub hl [2, 3, 4, 1, 0] rfl)
                · refine lv_iconst (v := nI 0) X.1 X.2.1 dX7_words_91 (by decide) ?_
                  refine lv_istore (lv' := [(4, .int (nI 0)), (0, .ref (b + 119)), (1, .int (nI k)), (2, .int (nI len)), (3, .int (nI t))]) X.1 X.2.1 dX7_words_92 hl (by decide) rfl (fun ls hl => ?_)
                  have L94 : ∀ (fu : Nat) (i : Nat) (f3 : Nat → Nat), 2048 - i < fu → (i ≤ 2048) → (∀ S, S < i → f3 S = 0) → ∀ (E13 : Nat → va_E) (H : Heap) (locs : List Loc) (ls : Array Slot), wm_P D b n E13 H → wm_S b s.heap H locs → E13 119 = .inr (7, [.int (nI 0), .ref (b + 120), .int (nI sz), .int (nI fa), .int (nI pl), .ref (b + 121), .ref (b + 122), .ref (b + 123), .ref (b + 124), .ref (b + 125), .ref (b + 126), .ref (b + 127), .int (nI ats), .int (nI aa), .ref (b + 128), .ref (b + 129), .ref (b + 130), .ref (b + 131), .ref (b + 132), .ref (b + 133), .int (nI op), .int (nI be.toNat), .int (nI fi), .int (nI la), .ref (b + 134), .ref (b + 135), .ref (b + 136), .int (nI wa), .ref (b + 137), .ref (b + 138), .ref (b + 139), .int (nI wc), .ref (b + 140), .int (nI kl), .ref (b + 141), .ref (b + 142), .ref (b + 143), .ref (b + 144), .ref (b + 145)]) → E13 121 = wm_I C 1536 ar → E13 122 = wm_I C 8 ss → E13 123 = wm_I C 8 sa → E13 124 = wm_I C 8 se → E13 141 = wm_J C 2048 f1 → E13 142 = wm_J C 2048 f3 → (∀ j, j ≠ 119 → j ≠ 141 → j ≠ 142 → E13 j = E j) → lv_has ls 7 [(0, .ref (b + 119)), (1, .int (nI k)), (2, .int (nI len)), (3, .int (nI t)), (4, .int (nI i))] → W p l e R s m args below meth c H locs 0 0 Q (F0 m 94 ls []) := by
                    intro fu
                    induction fu with
                    | zero => intro i f3 hm; exact absurd hm (Nat.not_lt_zero _)
                    | succ fu ih94 =>
                      intro i f3 hm hi3 h3 E13 H locs ls hP hS hE0 hE1 hE2 hE3 hE4 hE5 hE6 hfr hl
                      refine lv_iload X.1 X.2.1 dX7_words_94 (lv_at hl 4 rfl) ?_
                      refine lv_sipush (v := nI 2048) X.1 X.2.1 dX7_words_96 (by decide) ?_
                      refine wm_icmp_ge (x := i) (y := 2048) (tgt := 116) X (by omega) (by decide) dX7_words_99 (by decide) (fun hc99 => ?_) (fun hc99 => ?_)
                      · refine lv_iconst (v := nI 0) X.1 X.2.1 dX7_words_116 (by decide) ?_
                        refine lv_istore (lv' := [(4, .int (nI 0)), (0, .ref (b + 119)), (1, .int (nI k)), (2, .int (nI len)), (3, .int (nI t))]) X.1 X.2.1 dX7_words_117 hl (by decide) rfl (fun ls hl => ?_)
                        have L119 : ∀ (fu : Nat) (s1 : Nat) (f4 : Nat → Nat), 2048 - s1 < fu → (s1 ≤ 2048) → (wm_al (fun S a => wm_af ar k (ss k) a S) (List.range 2048) f1 2048 s1 0 f4) → ∀ (E15 : Nat → va_E) (H : Heap) (locs : List Loc) (ls : Array Slot), wm_P D b n E15 H → wm_S b s.heap H locs → E15 119 = .inr (7, [.int (nI 0), .ref (b + 120), .int (nI sz), .int (nI fa), .int (nI pl), .ref (b + 121), .ref (b + 122), .ref (b + 123), .ref (b + 124), .ref (b + 125), .ref (b + 126), .ref (b + 127), .int (nI ats), .int (nI aa), .ref (b + 128), .ref (b + 129), .ref (b + 130), .ref (b + 131), .ref (b + 132), .ref (b + 133), .int (nI op), .int (nI be.toNat), .int (nI fi), .int (nI la), .ref (b + 134), .ref (b + 135), .ref (b + 136), .int (nI wa), .ref (b + 137), .ref (b + 138), .ref (b + 139), .int (nI wc), .ref (b + 140), .int (nI kl), .ref (b + 141), .ref (b + 142), .ref (b + 143), .ref (b + 144), .ref (b + 145)]) → E15 121 = wm_I C 1536 ar → E15 122 = wm_I C 8 ss → E15 123 = wm_I C 8 sa → E15 124 = wm_I C 8 se → E15 141 = wm_J C 2048 f1 → E15 142 = wm_J C 2048 f4 → (∀ j, j ≠ 119 → j ≠ 141 → j ≠ 142 → E15 j = E j) → lv_has ls 7 [(0, .ref (b + 119)), (1, .int (nI k)), (2, .int (nI len)), (3, .int (nI t)), (4, .int (nI s1))] → W p l e R s m args below meth c H locs 0 0 Q (F0 m 119 ls []) := by
                          intro fu
                          induction fu with
                          | zero => intro s1 f4 hm; exact absurd hm (Nat.not_lt_zero _)
                          | succ fu ih119 =>
                            intro s1 f4 hm hs1 h4 E15 H locs ls hP hS hE0 hE1 hE2 hE3 hE4 hE5 hE6 hfr hl
                            refine lv_iload X.1 X.2.1 dX7_words_119 (lv_at hl 4 rfl) ?_
                            refine lv_sipush (v := nI 2048) X.1 X.2.1 dX7_words_121 (by decide) ?_
                            refine wm_icmp_ge (x := s1) (y := 2048) (tgt := 194) X (by omega) (by decide) dX7_words_124 (by decide) (fun hc124 => ?_) (fun hc124 => ?_)
                            · have hal : wm_al (fun S a => wm_af ar k (ss k) a S) (List.range 2048) f1 2048 2048 0 f4 := (show s1 = 2048 from by omega) ▸ h4
                              refine lv_iconst (v := nI 0) X.1 X.2.1 dX7_words_194 (by decide) ?_
                              refine lv_istore (lv' := [(4, .int (nI 0)), (0, .ref (b + 119)), (1, .int (nI k)), (2, .int (nI len)), (3, .int (nI t))]) X.1 X.2.1 dX7_words_195 hl (by decide) rfl (fun ls hl => ?_)
                              have L197 : ∀ (fu : Nat) (i : Nat) (f7 : Nat → Nat), 2048 - i < fu → (i ≤ 2048) → (∀ S, S < i → f7 S = f4 S) → ∀ (E17 : Nat → va_E) (H : Heap) (locs : List Loc) (ls : Array Slot), wm_P D b n E17 H → wm_S b s.heap H locs → E17 119 = .inr (7, [.int (nI 0), .ref (b + 120), .int (nI sz), .int (nI fa), .int (nI pl), .ref (b + 121), .ref (b + 122), .ref (b + 123), .ref (b + 124), .ref (b + 125), .ref (b + 126), .ref (b + 127), .int (nI ats), .int (nI aa), .ref (b + 128), .ref (b + 129), .ref (b + 130), .ref (b + 131), .ref (b + 132), .ref (b + 133), .int (nI op), .int (nI be.toNat), .int (nI fi), .int (nI la), .ref (b + 134), .ref (b + 135), .ref (b + 136), .int (nI wa), .ref (b + 137), .ref (b + 138), .ref (b + 139), .int (nI wc), .ref (b + 140), .int (nI kl), .ref (b + 141), .ref (b + 142), .ref (b + 143), .ref (b + 144), .ref (b + 145)]) → E17 121 = wm_I C 1536 ar → E17 122 = wm_I C 8 ss → E17 123 = wm_I C 8 sa → E17 124 = wm_I C 8 se → E17 141 = wm_J C 2048 f7 → E17 142 = wm_J C 2048 f4 → (∀ j, j ≠ 119 → j ≠ 141 → j ≠ 142 → E17 j = E j) → lv_has ls 7 [(0, .ref (b + 119)), (1, .int (nI k)), (2, .int (nI len)), (3, .int (nI t)), (4, .int (nI i))] → W p l e R s m args below meth c H locs 0 0 Q (F0 m 197 ls []) := by
                                intro fu
                                induction fu with
                                | zero => intro i f7 hm; exact absurd hm (Nat.not_lt_zero _)
                                | succ fu ih197 =>
                                  intro i f7 hm hi7 h7 E17 H locs ls hP hS hE0 hE1 hE2 hE3 hE4 hE5 hE6 hfr hl
                                  refine lv_iload X.1 X.2.1 dX7_words_197 (lv_at hl 4 rfl) ?_
                                  refine lv_sipush (v := nI 2048) X.1 X.2.1 dX7_words_199 (by decide) ?_
                                  refine wm_icmp_ge (x := i) (y := 2048) (tgt := 225) X (by omega) (by decide) dX7_words_202 (by decide) (fun hc202 => ?_) (fun hc202 => ?_)
                                  · refine lv_iinc (v := nI (t + 1)) (lv' := [(3, .int (nI (t + 1))), (0, .ref (b + 119)), (1, .int (nI k)), (2, .int (nI len)), (4, .int (nI i))]) X.1 X.2.1 dX7_words_225 hl (k := 3) rfl (wm_inc t) (by decide) rfl (fun ls hl => ?_)
                                    refine lv_goto (tgt := 86) X.1 X.2.1 dX7_words_228 (by decide) ?_
                                    exact ih86 (t + 1) f7 f4 (by omega) (by omega) (fun S hS => by rw [h7 S (by omega)]; exact wm_cw1 hcw (fun j hj => by rw [wm_rgl] at hj; rw [wm_rgD hj]; exact hj) (by rw [wm_rgl]; exact hal) S hS) E17 _ _ _ hP hS hE0 hE1 hE2 hE3 hE4 hE5 hE6 hfr (lv_sub hl [1, 2, 3, 0] rfl)
                                  · refine lv_aload_n X.1 X.2.1 dX7_words_205 rfl (lv_at hl 0 rfl) ?_
                                    refine wm_get X hP hlt0 hE0 rfl wm_inX7 34 (by decide) wq5_56 rfl dX7_words_206 ?_
                                    refine lv_iload X.1 X.2.1 dX7_words_209 (lv_at hl 4 rfl) ?_
                                    refine lv_aload_n X.1 X.2.1 dX7_words_211 rfl (lv_at hl 0 rfl) ?_
                                    refine wm_get X hP hlt0 hE0 rfl wm_inX7 35 (by decide) wq5_57 rfl dX7_words_212 ?_
                                    refine lv_iload X.1 X.2.1 dX7_words_215 (lv_at hl 4 rfl) ?_
                                    refine wm_lald (i := i) X hP hlt6 hE6 (by omega) (by decide) dX7_words_217 ?_
                                    refine wm_last (i := i) (x := (f4 i)) X hP hS hlt5 hE5 (by omega) (by decide) dX7_words_218 (fun H locs E19 hP hS hE5 hq => ?_)
                                    have hE0 := (hq 119 (by decide)).trans hE0
                                    have hE1 := (hq 121 (by decide)).trans hE1
                                    have hE2 := (hq 122 (by decide)).trans hE2
                                    have hE3 := (hq 123 (by decide)).trans hE3
                                    have hE4 := (hq 124 (by decide)).trans hE4
                                    have hE6 := (hq 142 (by decide)).trans hE6
                                    have hfr : ∀ j, j ≠ 119 → j ≠ 141 → j ≠ 142 → E19 j = E j := fun j h0 h1 h2 => (hq j h1).trans (hfr j h0 h1 h2)
                                    refine lv_iinc (v := nI (i + 1)) (lv' := [(4, .int (nI (i + 1))), (0, .ref (b + 119)), (1, .int (nI k)), (2, .int (nI len)), (3, .int (nI t))]) X.1 X.2.1 dX7_words_219 hl (k := 4) rfl (wm_inc i) (by decide) rfl (fun ls hl => ?_)
                                    refine lv_goto (tgt := 197) X.1 X.2.1 dX7_words_222 (by decide) ?_
                                    exact ih197 (i + 1) (va_up f7 i (f4 i)) (by omega) (by omega) (wm_put1 h7 rfl) E19 _ _ _ hP hS hE0 hE1 hE2 hE3 hE4 hE5 hE6 hfr (lv_sub hl [1, 2, 3, 4, 0] rfl)
                              exact L197 (2048 - 0 + 1) 0 f1 (Nat.lt_succ_self _) (by omega) (fun S h => absurd h (Nat.not_lt_zero _)) E15 _ _ _ hP hS hE0 hE1 hE2 hE3 hE4 hE5 hE6 hfr (lv_sub hl [1, 2, 3, 4, 0] rfl)
                            · refine lv_iconst (v := nI 0) X.1 X.2.1 dX7_words_127 (by decide) ?_
                              refine lv_istore (lv' := [(5, .int (nI 0)), (0, .ref (b + 119)), (1, .int (nI k)), (2, .int (nI len)), (3, .int (nI t)), (4, .int (nI s1))]) X.1 X.2.1 dX7_words_128 hl (by decide) rfl (fun ls hl => ?_)
                              have L130 : ∀ (fu : Nat) (a1 : Nat) (f5 : Nat → Nat), 8 - a1 < fu → (a1 ≤ 8) → (wm_al (fun S a => wm_af ar k (ss k) a S) (List.range 2048) f1 2048 s1 a1 f5) → ∀ (E20 : Nat → va_E) (H : Heap) (locs : List Loc) (ls : Array Slot), wm_P D b n E20 H → wm_S b s.heap H locs → E20 119 = .inr (7, [.int (nI 0), .ref (b + 120), .int (nI sz), .int (nI fa), .int (nI pl), .ref (b + 121), .ref (b + 122), .ref (b + 123), .ref (b + 124), .ref (b + 125), .ref (b + 126), .ref (b + 127), .int (nI ats), .int (nI aa), .ref (b + 128), .ref (b + 129), .ref (b + 130), .ref (b + 131), .ref (b + 132), .ref (b + 133), .int (nI op), .int (nI be.toNat), .int (nI fi), .int (nI la), .ref (b + 134), .ref (b + 135), .ref (b + 136), .int (nI wa), .ref (b + 137), .ref (b + 138), .ref (b + 139), .int (nI wc), .ref (b + 140), .int (nI kl), .ref (b + 141), .ref (b + 142), .ref (b + 143), .ref (b + 144), .ref (b + 145)]) → E20 121 = wm_I C 1536 ar → E20 122 = wm_I C 8 ss → E20 123 = wm_I C 8 sa → E20 124 = wm_I C 8 se → E20 141 = wm_J C 2048 f1 → E20 142 = wm_J C 2048 f5 → (∀ j, j ≠ 119 → j ≠ 141 → j ≠ 142 → E20 j = E j) → lv_has ls 7 [(0, .ref (b + 119)), (1, .int (nI k)), (2, .int (nI len)), (3, .int (nI t)), (4, .int (nI s1)), (5, .int (nI a1))] → W p l e R s m args below meth c H locs 0 0 Q (F0 m 130 ls []) := by
                                intro fu
                                induction fu with
                                | zero => intro a1 f5 hm; exact absurd hm (Nat.not_lt_zero _)
                                | succ fu ih130 =>
                                  intro a1 f5 hm ha1 h5 E20 H locs ls hP hS hE0 hE1 hE2 hE3 hE4 hE5 hE6 hfr hl
                                  refine lv_iload X.1 X.2.1 dX7_words_130 (lv_at hl 5 rfl) ?_
                                  refine lv_bipush (v := nI 8) X.1 X.2.1 dX7_words_132 (by decide) ?_
                                  refine wm_icmp_ge (x := a1) (y := 8) (tgt := 188) X (by omega) (by decide) dX7_words_134 (by decide) (fun hc134 => ?_) (fun hc134 => ?_)
                                  · refine lv_iinc (v := nI (s1 + 1)) (lv' := [(4, .int (nI (s1 + 1))), (0, .ref (b + 119)), (1, .int (nI k)), (2, .int (nI len)), (3, .int (nI t)), (5, .int (nI a1))]) X.1 X.2.1 dX7_words_188 hl (k := 4) rfl (wm_inc s1) (by decide) rfl (fun ls hl => ?_)
                                    refine lv_goto (tgt := 119) X.1 X.2.1 dX7_words_191 (by decide) ?_
                                    exact ih119 (s1 + 1) f5 (by omega) (by omega) (wm_al8 ((show a1 = 8 from by omega) ▸ h5)) E20 _ _ _ hP hS hE0 hE1 hE2 hE3 hE4 hE5 hE6 hfr (lv_sub hl [1, 2, 3, 4, 0] rfl)
                                  · refine lv_aload_n X.1 X.2.1 dX7_words_137 rfl (lv_at hl 0 rfl) ?_
                                    refine wm_get X hP hlt0 hE0 rfl wm_inX7 34 (by decide) wq5_56 rfl dX7_words_138 ?_
                                    refine lv_iload X.1 X.2.1 dX7_words_141 (lv_at hl 4 rfl) ?_
                                    refine wm_lald (i := s1) X hP hlt5 hE5 (by omega) (by decide) dX7_words_143 ?_
                                    refine lv_lconst (v := lN 0) X.1 X.2.1 dX7_words_144 (by decide) ?_
                                    refine W.lcmp X.1 X.2.1 dX7_words_145 ?_
                                    refine wm_ifc_le (x := (f1 s1)) (y := 0) (tgt := 188) X (hcb s1 hc124) (by decide) dX7_words_146 (by decide) (fun hc146 => ?_) (fun hc146 => ?_)
                                    · refine lv_iinc (v := nI (s1 + 1)) (lv' := [(4, .int (nI (s1 + 1))), (0, .ref (b + 119)), (1, .int (nI k)), (2, .int (nI len)), (3, .int (nI t)), (5, .int (nI a1))]) X.1 X.2.1 dX7_words_188 hl (k := 4) rfl (wm_inc s1) (by decide) rfl (fun ls hl => ?_)
                                      refine lv_goto (tgt := 119) X.1 X.2.1 dX7_words_191 (by decide) ?_
                                      exact ih119 (s1 + 1) f5 (by omega) (by omega) (wm_alz ((wm_al_nz h5 (by rw [wm_rgD hc124]; exact Nat.le_zero.mp hc146))) (by rw [wm_rgD hc124]; exact Nat.le_zero.mp hc146)) E20 _ _ _ hP hS hE0 hE1 hE2 hE3 hE4 hE5 hE6 hfr (lv_sub hl [1, 2, 3, 4, 0] rfl)
                                    · refine lv_aload_n X.1 X.2.1 dX7_words_149 rfl (lv_at hl 0 rfl) ?_
                                      refine lv_iload_n X.1 X.2.1 dX7_words_150 rfl (lv_at hl 1 rfl) ?_
                                      refine lv_iload X.1 X.2.1 dX7_words_151 (lv_at hl 4 rfl) ?_
                                      refine lv_iload X.1 X.2.1 dX7_words_153 (lv_at hl 5 rfl) ?_
                                      refine wm_callVi (k := 3) (As := [.int (nI k), .int (nI s1), .int (nI a1)]) (rest := []) X hP hS hlt0 hE0 rfl (kX7_after l D C b n E20 0 sz fa pl ats aa op fi la wa wc kl be k s1 a1 ar ss hlt0 hE0 hlt1 hE1 hlt2 hE2 (by omega) (by omega) (by omega) (by omega)) wq6_27 wq6_29 wqP3_14 wq1_8 wq6_30 (by decide) (by rw [hRe]; exact ⟨Nat.le_of_ble_eq_true rfl, Nat.le_of_ble_eq_true rfl⟩) rfl hl.1 rfl (Nat.le_of_ble_eq_true rfl) (Nat.zero_le _) (Nat.zero_le _) dX7_words_155 (fun r23 E23 H locs hw hP hS => ?_)
                                      obtain ⟨hrt, hEe⟩ := hw
                                      subst hrt
                                      subst hEe
                                      have hFF : wm_af ar k (ss k) a1 s1 < 2048 := Nat.lt_of_lt_of_le (wm_af_lt (fun x hx => hg a1 x hc134 hx)) h2c
                                      refine lv_istore (lv' := [(6, .int (nI (wm_af ar k (ss k) a1 s1))), (0, .ref (b + 119)), (1, .int (nI k)), (2, .int (nI len)), (3, .int (nI t)), (4, .int (nI s1)), (5, .int (nI a1))]) X.1 X.2.1 dX7_words_158 hl (by decide) rfl (fun ls hl => ?_)
                                      refine lv_aload_n X.1 X.2.1 dX7_words_160 rfl (lv_at hl 1 rfl) ?_
                                      refine wm_get X hP hlt0 hE0 rfl wm_inX7 35 (by decide) wq5_57 rfl dX7_words_161 ?_
                                      refine lv_iload X.1 X.2.1 dX7_words_164 (lv_at hl 0 rfl) ?_
                                      refine lv_aload_n X.1 X.2.1 dX7_words_166 rfl (lv_at hl 1 rfl) ?_
                                      refine wm_get X hP hlt0 hE0 rfl wm_inX7 35 (by decide) wq5_57 rfl dX7_words_167 ?_
                                      refine lv_iload X.1 X.2.1 dX7_words_170 (lv_at hl 0 rfl) ?_
                                      refine wm_lald (i := (wm_af ar k (ss k) a1 s1)) X hP hlt6 hE6 (by omega) (by decide) dX7_words_172 ?_
                                      refine lv_aload_n X.1 X.2.1 dX7_words_173 rfl (lv_at hl 1 rfl) ?_
                                      refine wm_get X hP hlt0 hE0 rfl wm_inX7 34 (by decide) wq5_56 rfl dX7_words_174 ?_
                                      refine lv_iload X.1 X.2.1 dX7_words_177 (lv_at hl 5 rfl) ?_
                                      refine wm_lald (i := s1) X hP hlt5 hE5 (by omega) (by decide) dX7_words_179 ?_
                                      refine wm_ladd (x := (f5 (wm_af ar k (ss k) a1 s1))) (y := (f1 s1)) X dX7_words_180 ?_
                                      refine wm_last (i := (wm_af ar k (ss k) a1 s1)) (x := ((f5 (wm_af ar k (ss k) a1 s1)) + (f1 s1))) X hP hS hlt6 hE6 (by omega) (by decide) dX7_words_181 (fun H locs E24 hP hS hE6 hq => ?_)
                                      have hE0 := (hq 119 (by decide)).trans hE0
                                      have hE1 := (hq 121 (by decide)).trans hE1
                                      have hE2 := (hq 122 (by decide)).trans hE2
                                      have hE3 := (hq 123 (by decide)).trans hE3
                                      have hE4 := (hq 124 (by decide)).trans hE4
                                      have hE5 := (hq 141 (by decide)).trans hE5
                                      have hfr : ∀ j, j ≠ 119 → j ≠ 141 → j ≠ 142 → E24 j = E j := fun j h0 h1 h2 => (hq j h2).trans (hfr j h0 h1 h2)
                                      refine lv_iinc (v := nI (a1 + 1)) (lv' := [(5, .int (nI (a1 + 1))), (6, .int (nI (wm_af ar k (ss k) a1 s1))), (0, .ref (b + 119)), (1, .int (nI k)), (2, .int (nI len)), (3, .int (nI t)), (4, .int (nI s1))]) X.1 X.2.1 dX7_words_182 hl (k := 6) rfl (wm_inc a1) (by decide) rfl (fun ls hl => ?_)
                                      refine lv_goto (tgt := 130) X.1 X.2.1 dX7_words_185 (by decide) ?_
                                      exact ih130 (a1 + 1) (va_up f5 (wm_af ar k (ss k) a1 s1) ((f5 (wm_af ar k (ss k) a1 s1)) + (f1 s1))) (by omega) (by omega) (wm_al1r h5 hc124 hFF) E24 _ _ _ hP hS hE0 hE1 hE2 hE3 hE4 hE5 hE6 hfr (lv_sub hl [2, 3, 4, 5, 6, 0] rfl)
                              exact L130 (8 - 0 + 1) 0 f4 (Nat.lt_succ_self _) (by omega) h4 E15 _ _ _ hP hS hE0 hE1 hE2 hE3 hE4 hE5 hE6 hfr (lv_sub hl [1, 2, 3, 4, 5, 0] rfl)
                        exact L119 (2048 - 0 + 1) 0 f3 (Nat.lt_succ_self _) (by omega) (wm_al0 (fun j _ hj => h3 j (by omega))) E13 _ _ _ hP hS hE0 hE1 hE2 hE3 hE4 hE5 hE6 hfr (lv_sub hl [1, 2, 3, 4, 0] rfl)
                      · refine lv_aload_n X.1 X.2.1 dX7_words_102 rfl (lv_at hl 0 rfl) ?_
                        refine wm_get X hP hlt0 hE0 rfl wm_inX7 35 (by decide) wq5_57 rfl dX7_words_103 ?_
                        refine lv_iload X.1 X.2.1 dX7_words_106 (lv_at hl 4 rfl) ?_
                        refine lv_lconst (v := lN 0) X.1 X.2.1 dX7_words_108 (by decide) ?_
                        refine wm_last (i := i) (x := 0) X hP hS hlt6 hE6 (by omega) (by decide) dX7_words_109 (fun H locs E25 hP hS hE6 hq => ?_)
                        have hE0 := (hq 119 (by decide)).trans hE0
                        have hE1 := (hq 121 (by decide)).trans hE1
                        have hE2 := (hq 122 (by decide)).trans hE2
                        have hE3 := (hq 123 (by decide)).trans hE3
                        have hE4 := (hq 124 (by decide)).trans hE4
                        have hE5 := (hq 141 (by decide)).trans hE5
                        have hfr : ∀ j, j ≠ 119 → j ≠ 141 → j ≠ 142 → E25 j = E j := fun j h0 h1 h2 => (hq j h2).trans (hfr j h0 h1 h2)
                        refine lv_iinc (v := nI (i + 1)) (lv' := [(4, .int (nI (i + 1))), (0, .ref (b + 119)), (1, .int (nI k)), (2, .int (nI len)), (3, .int (nI t))]) X.1 X.2.1 dX7_words_110 hl (k := 4) rfl (wm_inc i) (by decide) rfl (fun ls hl => ?_)
                        refine lv_goto (tgt := 94) X.1 X.2.1 dX7_words_113 (by decide) ?_
                        exact ih94 (i + 1) (va_up f3 i 0) (by omega) (by omega) (wm_put1 h3 rfl) E25 _ _ _ hP hS hE0 hE1 hE2 hE3 hE4 hE5 hE6 hfr (lv_sub hl [1, 2, 3, 4, 0] rfl)
                  exact L94 (2048 - 0 + 1) 0 f2 (Nat.lt_succ_self _) (by omega) (fun S h => absurd h (Nat.not_lt_zero _)) E8 _ _ _ hP hS hE0 hE1 hE2 hE3 hE4 hE5 hE6 hfr (lv_sub hl [1, 2, 3, 4, 0] rfl)
            exact L86 (20 - 0 + 1) 0 f1 e2 (Nat.lt_succ_self _) (by omega) (fun S hS => by rw [h1 S (by omega)]; rfl) E6 _ _ _ hP hS hE0 hE1 hE2 hE3 hE4 hE5 hE6 hfr (lv_sub hl [1, 2, 3, 0] rfl)
          · refine lv_aload_n X.1 X.2.1 dX7_words_57 rfl (lv_at hl 0 rfl) ?_
            refine wm_get X hP hlt0 hE0 rfl wm_inX7 34 (by decide) wq5_56 rfl dX7_words_58 ?_
            refine lv_iload_n X.1 X.2.1 dX7_words_61 rfl (lv_at hl 3 rfl) ?_
            refine lv_iload_n X.1 X.2.1 dX7_words_62 rfl (lv_at hl 3 rfl) ?_
            refine lv_aload_n X.1 X.2.1 dX7_words_63 rfl (lv_at hl 0 rfl) ?_
            refine wm_get X hP hlt0 hE0 rfl wm_inX7 7 (by decide) wq5_29 rfl dX7_words_64 ?_
            refine lv_iload_n X.1 X.2.1 dX7_words_67 rfl (lv_at hl 1 rfl) ?_
            refine wm_iald (i := k) X hP hlt3 hE3 (by omega) (by decide) dX7_words_68 ?_
            refine wm_icmp_ne (x := i) (y := (sa k)) (tgt := 76) X (by omega) (by omega) dX7_words_69 (by decide) (fun hc69 => ?_) (fun hc69 => ?_)
            · refine lv_lconst (v := lN 0) X.1 X.2.1 dX7_words_76 (by decide) ?_
              refine wm_last (i := i) (x := 0) X hP hS hlt5 hE5 (by omega) (by decide) dX7_words_77 (fun H locs E27 hP hS hE5 hq => ?_)
              have hE0 := (hq 119 (by decide)).trans hE0
              have hE1 := (hq 121 (by decide)).trans hE1
              have hE2 := (hq 122 (by decide)).trans hE2
              have hE3 := (hq 123 (by decide)).trans hE3
              have hE4 := (hq 124 (by decide)).trans hE4
              have hE6 := (hq 142 (by decide)).trans hE6
              have hfr : ∀ j, j ≠ 119 → j ≠ 141 → j ≠ 142 → E27 j = E j := fun j h0 h1 h2 => (hq j h1).trans (hfr j h0 h1 h2)
              refine lv_iinc (v := nI (i + 1)) (lv' := [(3, .int (nI (i + 1))), (0, .ref (b + 119)), (1, .int (nI k)), (2, .int (nI len))]) X.1 X.2.1 dX7_words_78 hl (k := 3) rfl (wm_inc i) (by decide) rfl (fun ls hl => ?_)
              refine lv_goto (tgt := 50) X.1 X.2.1 dX7_words_81 (by decide) ?_
              exact ih50 (i + 1) (va_up f1 i 0) (by omega) (by omega) (wm_put1 h1 (if_neg hc69).symm) E27 _ _ _ hP hS hE0 hE1 hE2 hE3 hE4 hE5 hE6 hfr (lv_sub hl [1, 2, 3, 0] rfl)
            · refine lv_lconst (v := lN 1) X.1 X.2.1 dX7_words_72 (by decide) ?_
              refine lv_goto (tgt := 77) X.1 X.2.1 dX7_words_73 (by decide) ?_
              refine wm_last (i := i) (x := 1) X hP hS hlt5 hE5 (by omega) (by decide) dX7_words_77 (fun H locs E28 hP hS hE5 hq => ?_)
              have hE0 := (hq 119 (by decide)).trans hE0
              have hE1 := (hq 121 (by decide)).trans hE1
              have hE2 := (hq 122 (by decide)).trans hE2
              have hE3 := (hq 123 (by decide)).trans hE3
              have hE4 := (hq 124 (by decide)).trans hE4
              have hE6 := (hq 142 (by decide)).trans hE6
              have hfr : ∀ j, j ≠ 119 → j ≠ 141 → j ≠ 142 → E28 j = E j := fun j h0 h1 h2 => (hq j h1).trans (hfr j h0 h1 h2)
              refine lv_iinc (v := nI (i + 1)) (lv' := [(3, .int (nI (i + 1))), (0, .ref (b + 119)), (1, .int (nI k)), (2, .int (nI len))]) X.1 X.2.1 dX7_words_78 hl (k := 3) rfl (wm_inc i) (by decide) rfl (fun ls hl => ?_)
              refine lv_goto (tgt := 50) X.1 X.2.1 dX7_words_81 (by decide) ?_
              exact ih50 (i + 1) (va_up f1 i 1) (by omega) (by omega) (wm_put1 h1 (if_pos hc69).symm) E28 _ _ _ hP hS hE0 hE1 hE2 hE3 hE4 hE5 hE6 hfr (lv_sub hl [1, 2, 3, 0] rfl)
      exact L50 (2048 - 0 + 1) 0 e1 (Nat.lt_succ_self _) (by omega) (fun S h => absurd h (Nat.not_lt_zero _)) E5 _ _ _ hP hS hE0 hE1 hE2 hE3 hE4 hE5 hE6 hfr (lv_sub hl [1, 2, 3, 0] rfl)
    · exact absurd hc28 (by omega)
