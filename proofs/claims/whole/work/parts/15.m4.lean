def pX4_fillSteps (C : Nat → ClassId) (b : Nat) (E : Nat → va_E) (sc mc t tg cn st en : Nat) (sp g : Nat → Nat) : (Nat → va_E) → Prop := fun E' => ∃ (sp1 : Nat → Nat), E' 93 = .inr (4, [.ref (b + 94), .ref (b + 95), .ref (b + 96), .ref (b + 97), .ref (b + 98), .ref (b + 99), .int (nI (2 ^ cn)), .int (nI mc)]) ∧ E' 94 = wm_I C 16384 sp1 ∧ (∀ j, j ≠ 93 → j ≠ 94 → E' j = E j) ∧ wm_spt cn 8 0 g sp1
set_option maxHeartbeats 4000000 in
set_option maxRecDepth 100000 in
theorem kX4_fillSteps (l : Launch) (D : va_G) (C : Nat → ClassId) (b n : Nat) (E : Nat → va_E) (sc mc t tg cn st en : Nat) (sp g : Nat → Nat) (hlt0 : 93 < n) (hE0 : E 93 = .inr (4, [.ref (b + 94), .ref (b + 95), .ref (b + 96), .ref (b + 97), .ref (b + 98), .ref (b + 99), .int (nI sc), .int (nI mc)])) (hlt1 : 94 < n) (hE1 : E 94 = wm_I C 16384 sp) (hlt2 : t < n) (hE2 : E t = .inr (2, [.ref (b + tg), .int (nI cn), .int (nI st), .int (nI en)])) (hlt3 : tg < n) (hE3 : E tg = wm_I C 192 g) (hmt : t < 4 ∨ 103 ≤ t) (hmg : tg < 4 ∨ 103 ≤ tg) (hne : t ≠ tg) (hc : cn ≤ 11) : Met l yX4_fillSteps (wm_ws yX4_fillSteps cX4_fillSteps 6 none) { frames := 1, cells := 0, slots := 0, locals := 22 } (va_Pc [.ref (b + 93), .ref (b + t)] (wm_G D C b n E)) (va_Qv (pX4_fillSteps C b E sc mc t tg cn st en sp g) (fun E' t => wm_P D b n E' t.heap) (wm_A b)) 0 0 (wm_A b) := by
  refine wm_ofW (by decide) (Nat.le_of_ble_eq_true rfl) (fun p e s m below meth c ls R args Q hRe hQ X hr hnm hP hS hl => ?_)
  have hl : lv_has ls 6 [(0, .ref (b + 93)), (1, .ref (b + t))] := hl
  have hfr : ∀ j, j ≠ 93 → j ≠ 94 → E j = E j := fun _ _ _ => rfl
  have h2c : 2 ^ cn ≤ 2048 := Nat.pow_le_pow_right (show 0 < 2 by decide) hc
  have h2p : 0 < 2 ^ cn := Nat.two_pow_pos cn
  refine lv_aload_n X.1 X.2.1 dX4_fillSteps_0 rfl (lv_at hl 0 rfl) ?_
  refine lv_iconst (v := nI 1) X.1 X.2.1 dX4_fillSteps_1 (by decide) ?_
  refine lv_aload_n X.1 X.2.1 dX4_fillSteps_2 rfl (lv_at hl 1 rfl) ?_
  refine wm_get X hP hlt2 hE2 rfl wm_inX2 1 (by decide) wq1_43 rfl dX4_fillSteps_3 ?_
  refine wm_ishl (x := 1) (y := cn) X (by omega) dX4_fillSteps_6 ?_
  rw [show 1 <<< cn = 2 ^ cn from Nat.one_shiftLeft cn]
  refine wm_put (v := .int (nI (2 ^ cn))) X hP hS hlt0 hE0 rfl wm_inX4 tyX4 tyX4_ok nmX4 6 (by decide) wq1_160 rfl rfl rfl (fs1 := [.ref (b + 94), .ref (b + 95), .ref (b + 96), .ref (b + 97), .ref (b + 98), .ref (b + 99), .int (nI (2 ^ cn)), .int (nI mc)]) rfl (Nat.le_of_ble_eq_true rfl) dX4_fillSteps_7 (fun H locs E1 hP hS hE0 hq => ?_)
  have hE1 := (hq 94 (by decide)).trans hE1
  have hE2 := (hq t (by omega)).trans hE2
  have hE3 := (hq tg (by omega)).trans hE3
  have hfr : ∀ j, j ≠ 93 → j ≠ 94 → E1 j = E j := fun j h0 h1 => (hq j h0).trans (hfr j h0 h1)
  refine lv_iconst (v := nI 0) X.1 X.2.1 dX4_fillSteps_10 (by decide) ?_
  refine lv_istore_n (lv' := [(2, .int (nI 0)), (0, .ref (b + 93)), (1, .ref (b + t))]) X.1 X.2.1 dX4_fillSteps_11 rfl hl (by decide) rfl (fun ls hl => ?_)
  have L12 : ∀ (fu : Nat) (L : Nat) (sp1 : Nat → Nat), 8 - L < fu → (L ≤ 8) → (wm_spt cn L 0 g sp1) → ∀ (E2 : Nat → va_E) (H : Heap) (locs : List Loc) (ls : Array Slot), wm_P D b n E2 H → wm_S b s.heap H locs → E2 93 = .inr (4, [.ref (b + 94), .ref (b + 95), .ref (b + 96), .ref (b + 97), .ref (b + 98), .ref (b + 99), .int (nI (2 ^ cn)), .int (nI mc)]) → E2 94 = wm_I C 16384 sp1 → E2 t = .inr (2, [.ref (b + tg), .int (nI cn), .int (nI st), .int (nI en)]) → E2 tg = wm_I C 192 g → (∀ j, j ≠ 93 → j ≠ 94 → E2 j = E j) → lv_has ls 6 [(0, .ref (b + 93)), (1, .ref (b + t)), (2, .int (nI L))] → W p l e R s m args below meth c H locs 0 0 Q (F0 m 12 ls []) := by
    intro fu
    induction fu with
    | zero => intro L sp1 hm; exact absurd hm (Nat.not_lt_zero _)
    | succ fu ih12 =>
      intro L sp1 hm hL h1 E2 H locs ls hP hS hE0 hE1 hE2 hE3 hfr hl
      refine lv_iload_n X.1 X.2.1 dX4_fillSteps_12 rfl (lv_at hl 2 rfl) ?_
      refine lv_bipush (v := nI 8) X.1 X.2.1 dX4_fillSteps_13 (by decide) ?_
      refine wm_icmp_ge (x := L) (y := 8) (tgt := 93) X (by omega) (by decide) dX4_fillSteps_15 (by decide) (fun hc15 => ?_) (fun hc15 => ?_)
      · exact wm_vret (post := pX4_fillSteps C b E sc mc t tg cn st en sp g) X hr hP hS ⟨sp1, hE0, hE1, hfr, (show wm_spt cn 8 0 g sp1 from (show L = 8 from by omega) ▸ h1)⟩ hQ dX4_fillSteps_93
      · refine lv_iload_n X.1 X.2.1 dX4_fillSteps_18 rfl (lv_at hl 2 rfl) ?_
        refine lv_sipush (v := nI 2048) X.1 X.2.1 dX4_fillSteps_19 (by decide) ?_
        refine wm_imul (x := L) (y := 2048) X dX4_fillSteps_22 ?_
        refine lv_istore_n (lv' := [(3, .int (nI (L * 2048))), (0, .ref (b + 93)), (1, .ref (b + t)), (2, .int (nI L))]) X.1 X.2.1 dX4_fillSteps_23 rfl hl (by decide) rfl (fun ls hl => ?_)
        refine lv_aload_n X.1 X.2.1 dX4_fillSteps_24 rfl (lv_at hl 1 rfl) ?_
        refine wm_get X hP hlt0 hE0 rfl wm_inX4 0 (by decide) wq1_154 rfl dX4_fillSteps_25 ?_
        refine lv_iload_n X.1 X.2.1 dX4_fillSteps_28 rfl (lv_at hl 0 rfl) ?_
        refine lv_iconst (v := nI 0) X.1 X.2.1 dX4_fillSteps_29 (by decide) ?_
        refine wm_iast (i := (L * 2048)) (x := 0) X hP hS hlt1 hE1 (by omega) (by decide) dX4_fillSteps_30 (fun H locs E4 hP hS hE1 hq => ?_)
        have hE0 := (hq 93 (by decide)).trans hE0
        have hE2 := (hq t (by omega)).trans hE2
        have hE3 := (hq tg (by omega)).trans hE3
        have hfr : ∀ j, j ≠ 93 → j ≠ 94 → E4 j = E j := fun j h0 h1 => (hq j h1).trans (hfr j h0 h1)
        refine lv_iconst (v := nI 1) X.1 X.2.1 dX4_fillSteps_31 (by decide) ?_
        refine lv_istore (lv' := [(4, .int (nI 1)), (3, .int (nI (L * 2048))), (0, .ref (b + 93)), (1, .ref (b + t)), (2, .int (nI L))]) X.1 X.2.1 dX4_fillSteps_32 hl (by decide) rfl (fun ls hl => ?_)
        have L34 : ∀ (fu : Nat) (S0 : Nat) (sp2 : Nat → Nat), 2 ^ cn - S0 < fu → (S0 ≤ 2 ^ cn) → (1 ≤ S0) → (wm_spt cn L S0 g sp2) → ∀ (E5 : Nat → va_E) (H : Heap) (locs : List Loc) (ls : Array Slot), wm_P D b n E5 H → wm_S b s.heap H locs → E5 93 = .inr (4, [.ref (b + 94), .ref (b + 95), .ref (b + 96), .ref (b + 97), .ref (b + 98), .ref (b + 99), .int (nI (2 ^ cn)), .int (nI mc)]) → E5 94 = wm_I C 16384 sp2 → E5 t = .inr (2, [.ref (b + tg), .int (nI cn), .int (nI st), .int (nI en)]) → E5 tg = wm_I C 192 g → (∀ j, j ≠ 93 → j ≠ 94 → E5 j = E j) → lv_has ls 6 [(0, .ref (b + 93)), (1, .ref (b + t)), (2, .int (nI L)), (3, .int (nI (L * 2048))), (4, .int (nI S0))] → W p l e R s m args below meth c H locs 0 0 Q (F0 m 34 ls []) := by
          intro fu
          induction fu with
          | zero => intro S0 sp2 hm; exact absurd hm (Nat.not_lt_zero _)
          | succ fu ih34 =>
            intro S0 sp2 hm hS0 hS1 h2 E5 H locs ls hP hS hE0 hE1 hE2 hE3 hfr hl
            refine lv_iload X.1 X.2.1 dX4_fillSteps_34 (lv_at hl 4 rfl) ?_
            refine lv_aload_n X.1 X.2.1 dX4_fillSteps_36 rfl (lv_at hl 0 rfl) ?_
            refine wm_get X hP hlt0 hE0 rfl wm_inX4 6 (by decide) wq1_160 rfl dX4_fillSteps_37 ?_
            refine wm_icmp_ge (x := S0) (y := (2 ^ cn)) (tgt := 87) X (by omega) (by omega) dX4_fillSteps_40 (by decide) (fun hc40 => ?_) (fun hc40 => ?_)
            · refine lv_iinc (v := nI (L + 1)) (lv' := [(2, .int (nI (L + 1))), (0, .ref (b + 93)), (1, .ref (b + t)), (3, .int (nI (L * 2048))), (4, .int (nI S0))]) X.1 X.2.1 dX4_fillSteps_87 hl (k := 2) rfl (wm_inc L) (by decide) rfl (fun ls hl => ?_)
              refine lv_goto (tgt := 12) X.1 X.2.1 dX4_fillSteps_90 (by decide) ?_
              exact ih12 (L + 1) sp2 (by omega) (by omega) (wm_sptL h2 hc40) E5 _ _ _ hP hS hE0 hE1 hE2 hE3 hfr (lv_sub hl [1, 2, 0] rfl)
            · refine lv_iload X.1 X.2.1 dX4_fillSteps_43 (lv_at hl 4 rfl) ?_
              refine wm_callSi (k := 1) (As := [.int (nI S0)]) (rest := []) X hP hS  (kntz l D C b n E5 S0 (by omega)) wq3_116 wq3_98 wq1_16 wq3_99 (by decide) (by rw [hRe]; exact ⟨Nat.le_of_ble_eq_true rfl, Nat.le_of_ble_eq_true rfl⟩) rfl hl.1 rfl (Nat.le_of_ble_eq_true rfl) (Nat.zero_le _) (Nat.zero_le _) dX4_fillSteps_45 (fun r7 E7 H locs hw hP hS => ?_)
              obtain ⟨r17, hrt, hEe, hp7_0, hp7_1, hp7_2⟩ := hw
              subst hrt
              subst hEe
              have hbk := hp7_2 (by omega)
              have hlow := hp7_1
              have hbc := wm_bit_lt hbk hc40
              refine lv_istore (lv' := [(5, .int (nI r17)), (0, .ref (b + 93)), (1, .ref (b + t)), (2, .int (nI L)), (3, .int (nI (L * 2048))), (4, .int (nI S0))]) X.1 X.2.1 dX4_fillSteps_48 hl (by decide) rfl (fun ls hl => ?_)
              refine lv_aload_n X.1 X.2.1 dX4_fillSteps_50 rfl (lv_at hl 1 rfl) ?_
              refine wm_get X hP hlt0 hE0 rfl wm_inX4 0 (by decide) wq1_154 rfl dX4_fillSteps_51 ?_
              refine lv_iload_n X.1 X.2.1 dX4_fillSteps_54 rfl (lv_at hl 4 rfl) ?_
              refine lv_iload X.1 X.2.1 dX4_fillSteps_55 (lv_at hl 5 rfl) ?_
              refine wm_iadd (x := (L * 2048)) (y := S0) X dX4_fillSteps_57 ?_
              refine lv_aload_n X.1 X.2.1 dX4_fillSteps_58 rfl (lv_at hl 1 rfl) ?_
              refine wm_get X hP hlt0 hE0 rfl wm_inX4 0 (by decide) wq1_154 rfl dX4_fillSteps_59 ?_
              refine lv_iload_n X.1 X.2.1 dX4_fillSteps_62 rfl (lv_at hl 4 rfl) ?_
              refine lv_iload X.1 X.2.1 dX4_fillSteps_63 (lv_at hl 5 rfl) ?_
              refine lv_iload X.1 X.2.1 dX4_fillSteps_65 (lv_at hl 5 rfl) ?_
              refine lv_iconst (v := nI 1) X.1 X.2.1 dX4_fillSteps_67 (by decide) ?_
              refine wm_isub (x := S0) (y := 1) X (by omega) dX4_fillSteps_68 ?_
              refine wm_iand (x := S0) (y := (S0 - 1)) X dX4_fillSteps_69 ?_
              refine wm_iadd (x := (L * 2048)) (y := (S0 &&& (S0 - 1))) X dX4_fillSteps_70 ?_
              have hal : S0 &&& (S0 - 1) ≤ S0 - 1 := Nat.and_le_right
              refine wm_iald (i := ((L * 2048) + (S0 &&& (S0 - 1)))) X hP hlt1 hE1 (by omega) (by decide) dX4_fillSteps_71 ?_
              refine lv_aload_n X.1 X.2.1 dX4_fillSteps_72 rfl (lv_at hl 2 rfl) ?_
              refine lv_iload X.1 X.2.1 dX4_fillSteps_73 (lv_at hl 0 rfl) ?_
              refine lv_iload_n X.1 X.2.1 dX4_fillSteps_75 rfl (lv_at hl 3 rfl) ?_
              refine wm_callVi (k := 2) (As := [.int (nI r17), .int (nI L)]) (rest := [.int (nI (sp2 ((L * 2048) + (S0 &&& (S0 - 1))))), .int (nI ((L * 2048) + S0)), .ref (b + 94)]) X hP hS hlt2 hE2 rfl (kX2_goalsOf l D C b n E5 t tg cn st en r17 L g hlt2 hE2 hlt3 hE3 (by omega)) wq3_117 wq3_9 wq3_10 wq1_2 wq3_11 (by decide) (by rw [hRe]; exact ⟨Nat.le_of_ble_eq_true rfl, Nat.le_of_ble_eq_true rfl⟩) rfl hl.1 rfl (Nat.le_of_ble_eq_true rfl) (Nat.zero_le _) (Nat.zero_le _) dX4_fillSteps_76 (fun r8 E8 H locs hw hP hS => ?_)
              obtain ⟨hrt, hEe⟩ := hw
              subst hrt
              subst hEe
              refine wm_ior (x := (sp2 ((L * 2048) + (S0 &&& (S0 - 1))))) (y := (g (L * 24 + r17))) X dX4_fillSteps_79 ?_
              refine wm_iast (i := ((L * 2048) + S0)) (x := ((sp2 ((L * 2048) + (S0 &&& (S0 - 1)))) ||| (g (L * 24 + r17)))) X hP hS hlt1 hE1 (by omega) (by decide) dX4_fillSteps_80 (fun H locs E9 hP hS hE1 hq => ?_)
              have hE0 := (hq 93 (by decide)).trans hE0
              have hE2 := (hq t (by omega)).trans hE2
              have hE3 := (hq tg (by omega)).trans hE3
              have hfr : ∀ j, j ≠ 93 → j ≠ 94 → E9 j = E j := fun j h0 h1 => (hq j h1).trans (hfr j h0 h1)
              refine lv_iinc (v := nI (S0 + 1)) (lv' := [(4, .int (nI (S0 + 1))), (5, .int (nI r17)), (0, .ref (b + 93)), (1, .ref (b + t)), (2, .int (nI L)), (3, .int (nI (L * 2048)))]) X.1 X.2.1 dX4_fillSteps_81 hl (k := 5) rfl (wm_inc S0) (by decide) rfl (fun ls hl => ?_)
              refine lv_goto (tgt := 34) X.1 X.2.1 dX4_fillSteps_84 (by decide) ?_
              exact ih34 (S0 + 1) (va_up sp2 ((L * 2048) + S0) ((sp2 ((L * 2048) + (S0 &&& (S0 - 1)))) ||| (g (L * 24 + r17)))) (by omega) (by omega) (by omega) (wm_spt1 h2 h2c hc15 hc40 (by omega) hbk hlow) E9 _ _ _ hP hS hE0 hE1 hE2 hE3 hfr (lv_sub hl [2, 3, 4, 5, 0] rfl)
        exact L34 (2 ^ cn - 1 + 1) 1 (va_up sp1 (L * 2048) 0) (Nat.lt_succ_self _) (by omega) (by omega) (wm_sptz h1 h2c) E4 _ _ _ hP hS hE0 hE1 hE2 hE3 hfr (lv_sub hl [2, 3, 4, 1, 0] rfl)
  exact L12 (8 - 0 + 1) 0 sp (Nat.lt_succ_self _) (by omega) wm_spt0 E1 _ _ _ hP hS hE0 hE1 hE2 hE3 hfr (lv_sub hl [1, 2, 0] rfl)
def pX4_stepFrom (C : Nat → ClassId) (b : Nat) (E : Nat → va_E) (sc mc S lr : Nat) (sp : Nat → Nat) : Int32 → (Nat → va_E) → Prop := fun r E' => r = nI (sp (lr * 2048 + S)) ∧ E = E'
set_option maxHeartbeats 4000000 in
set_option maxRecDepth 100000 in
theorem kX4_stepFrom (l : Launch) (D : va_G) (C : Nat → ClassId) (b n : Nat) (E : Nat → va_E) (sc mc S lr : Nat) (sp : Nat → Nat) (hlt0 : 93 < n) (hE0 : E 93 = .inr (4, [.ref (b + 94), .ref (b + 95), .ref (b + 96), .ref (b + 97), .ref (b + 98), .ref (b + 99), .int (nI sc), .int (nI mc)])) (hlt1 : 94 < n) (hE1 : E 94 = wm_I C 16384 sp) (hi : lr * 2048 + S < 16384) : Met l yX4_stepFrom (wm_ws yX4_stepFrom cX4_stepFrom 3 (some .int)) { frames := 0, cells := 0, slots := 0, locals := 0 } (va_Pc [.ref (b + 93), .int (nI S), .int (nI lr)] (wm_G D C b n E)) (va_Qi (pX4_stepFrom C b E sc mc S lr sp) (fun E' t => wm_P D b n E' t.heap) (wm_A b)) 0 0 (wm_A b) := by
  refine wm_ofW (by decide) (Nat.le_of_ble_eq_true rfl) (fun p e s m below meth c ls R args Q hRe hQ X hr hnm hP hS hl => ?_)
  have hl : lv_has ls 3 [(0, .ref (b + 93)), (1, .int (nI S)), (2, .int (nI lr))] := hl
  refine lv_aload_n X.1 X.2.1 dX4_stepFrom_0 rfl (lv_at hl 0 rfl) ?_
  refine wm_get X hP hlt0 hE0 rfl wm_inX4 0 (by decide) wq1_154 rfl dX4_stepFrom_1 ?_
  refine lv_iload_n X.1 X.2.1 dX4_stepFrom_4 rfl (lv_at hl 2 rfl) ?_
  refine lv_sipush (v := nI 2048) X.1 X.2.1 dX4_stepFrom_5 (by decide) ?_
  refine wm_imul (x := lr) (y := 2048) X dX4_stepFrom_8 ?_
  refine lv_iload_n X.1 X.2.1 dX4_stepFrom_9 rfl (lv_at hl 1 rfl) ?_
  refine wm_iadd (x := (lr * 2048)) (y := S) X dX4_stepFrom_10 ?_
  refine wm_iald (i := ((lr * 2048) + S)) X hP hlt1 hE1 (by omega) (by decide) dX4_stepFrom_11 ?_
  exact wm_iret (post := pX4_stepFrom C b E sc mc S lr sp) X hr hP hS ⟨rfl, rfl⟩ hQ dX4_stepFrom_12
def pX4_clearMarks (C : Nat → ClassId) (b : Nat) (E : Nat → va_E) (sc mc : Nat) (mk : Nat → Bool) : (Nat → va_E) → Prop := fun E' => ∃ (mk1 : Nat → Bool), E' 95 = wm_Z C 2048 mk1 ∧ (∀ j, j ≠ 95 → E' j = E j) ∧ (∀ S, S < sc → mk1 S = false)
set_option maxHeartbeats 4000000 in
set_option maxRecDepth 100000 in
theorem kX4_clearMarks (l : Launch) (D : va_G) (C : Nat → ClassId) (b n : Nat) (E : Nat → va_E) (sc mc : Nat) (mk : Nat → Bool) (hlt0 : 93 < n) (hE0 : E 93 = .inr (4, [.ref (b + 94), .ref (b + 95), .ref (b + 96), .ref (b + 97), .ref (b + 98), .ref (b + 99), .int (nI sc), .int (nI mc)])) (hlt1 : 95 < n) (hE1 : E 95 = wm_Z C 2048 mk) (hsc : sc ≤ 2048) : Met l yX4_clearMarks (wm_ws yX4_clearMarks cX4_clearMarks 2 none) { frames := 0, cells := 0, slots := 0, locals := 0 } (va_Pc [.ref (b + 93)] (wm_G D C b n E)) (va_Qv (pX4_clearMarks C b E sc mc mk) (fun E' t => wm_P D b n E' t.heap) (wm_A b)) 0 0 (wm_A b) := by
  refine wm_ofW (by decide) (Nat.le_of_ble_eq_true rfl) (fun p e s m below meth c ls R args Q hRe hQ X hr hnm hP hS hl => ?_)
  have hl : lv_has ls 2 [(0, .ref (b + 93))] := hl
  have hfr : ∀ j, j ≠ 95 → E j = E j := fun _ _ => rfl
  refine lv_iconst (v := nI 0) X.1 X.2.1 dX4_clearMarks_0 (by decide) ?_
  refine lv_istore_n (lv' := [(1, .int (nI 0)), (0, .ref (b + 93))]) X.1 X.2.1 dX4_clearMarks_1 rfl hl (by decide) rfl (fun ls hl => ?_)
  have L2 : ∀ (fu : Nat) (i : Nat) (mk1 : Nat → Bool), sc - i < fu → (i ≤ sc) → (∀ S, S < i → mk1 S = false) → ∀ (E1 : Nat → va_E) (H : Heap) (locs : List Loc) (ls : Array Slot), wm_P D b n E1 H → wm_S b s.heap H locs → E1 93 = .inr (4, [.ref (b + 94), .ref (b + 95), .ref (b + 96), .ref (b + 97), .ref (b + 98), .ref (b + 99), .int (nI sc), .int (nI mc)]) → E1 95 = wm_Z C 2048 mk1 → (∀ j, j ≠ 95 → E1 j = E j) → lv_has ls 2 [(0, .ref (b + 93)), (1, .int (nI i))] → W p l e R s m args below meth c H locs 0 0 Q (F0 m 2 ls []) := by
    intro fu
    induction fu with
    | zero => intro i mk1 hm; exact absurd hm (Nat.not_lt_zero _)
    | succ fu ih2 =>
      intro i mk1 hm hi h1 E1 H locs ls hP hS hE0 hE1 hfr hl
      refine lv_iload_n X.1 X.2.1 dX4_clearMarks_2 rfl (lv_at hl 1 rfl) ?_
      refine lv_aload_n X.1 X.2.1 dX4_clearMarks_3 rfl (lv_at hl 0 rfl) ?_
      refine wm_get X hP hlt0 hE0 rfl wm_inX4 6 (by decide) wq1_160 rfl dX4_clearMarks_4 ?_
      refine wm_icmp_ge (x := i) (y := sc) (tgt := 23) X (by omega) (by omega) dX4_clearMarks_7 (by decide) (fun hc7 => ?_) (fun hc7 => ?_)
      · exact wm_vret (post := pX4_clearMarks C b E sc mc mk) X hr hP hS ⟨mk1, hE1, hfr, (fun S h => h1 S (by omega))⟩ hQ dX4_clearMarks_23
      · refine lv_aload_n X.1 X.2.1 dX4_clearMarks_10 rfl (lv_at hl 0 rfl) ?_
        refine wm_get X hP hlt0 hE0 rfl wm_inX4 1 (by decide) wq1_155 rfl dX4_clearMarks_11 ?_
        refine lv_iload_n X.1 X.2.1 dX4_clearMarks_14 rfl (lv_at hl 1 rfl) ?_
        refine lv_iconst (v := nI 0) X.1 X.2.1 dX4_clearMarks_15 (by decide) ?_
        refine wm_zast (i := i) (x := false) X hP hS hlt1 hE1 (by omega) (by decide) dX4_clearMarks_16 (fun H locs E3 hP hS hE1 hq => ?_)
        have hE0 := (hq 93 (by decide)).trans hE0
        have hfr : ∀ j, j ≠ 95 → E3 j = E j := fun j h0 => (hq j h0).trans (hfr j h0)
        refine lv_iinc (v := nI (i + 1)) (lv' := [(1, .int (nI (i + 1))), (0, .ref (b + 93))]) X.1 X.2.1 dX4_clearMarks_17 hl (k := 1) rfl (wm_inc i) (by decide) rfl (fun ls hl => ?_)
        refine lv_goto (tgt := 2) X.1 X.2.1 dX4_clearMarks_20 (by decide) ?_
        exact ih2 (i + 1) (va_up mk1 i false) (by omega) (by omega) (wm_fillb h1) E3 _ _ _ hP hS hE0 hE1 hfr (lv_sub hl [1, 0] rfl)
  exact L2 (sc - 0 + 1) 0 mk (Nat.lt_succ_self _) (by omega) (fun S h => absurd h (Nat.not_lt_zero _)) E _ _ _ hP hS hE0 hE1 hfr (lv_sub hl [1, 0] rfl)
def pX4_markNew (C : Nat → ClassId) (b : Nat) (E : Nat → va_E) (sc mc S : Nat) (mk : Nat → Bool) : Int32 → (Nat → va_E) → Prop := fun r E' => r = nI (!mk S).toNat ∧ E' 95 = wm_Z C 2048 (va_up mk S true) ∧ (∀ j, j ≠ 95 → E' j = E j)
set_option maxHeartbeats 4000000 in
set_option maxRecDepth 100000 in
theorem kX4_markNew (l : Launch) (D : va_G) (C : Nat → ClassId) (b n : Nat) (E : Nat → va_E) (sc mc S : Nat) (mk : Nat → Bool) (hlt0 : 93 < n) (hE0 : E 93 = .inr (4, [.ref (b + 94), .ref (b + 95), .ref (b + 96), .ref (b + 97), .ref (b + 98), .ref (b + 99), .int (nI sc), .int (nI mc)])) (hlt1 : 95 < n) (hE1 : E 95 = wm_Z C 2048 mk) (hSb : S < 2048) : Met l yX4_markNew (wm_ws yX4_markNew cX4_markNew 3 (some .boolean)) { frames := 0, cells := 0, slots := 0, locals := 0 } (va_Pc [.ref (b + 93), .int (nI S)] (wm_G D C b n E)) (va_Qi (pX4_markNew C b E sc mc S mk) (fun E' t => wm_P D b n E' t.heap) (wm_A b)) 0 0 (wm_A b) := by
  refine wm_ofW (by decide) (Nat.le_of_ble_eq_true rfl) (fun p e s m below meth c ls R args Q hRe hQ X hr hnm hP hS hl => ?_)
  have hl : lv_has ls 3 [(0, .ref (b + 93)), (1, .int (nI S))] := hl
  have hfr : ∀ j, j ≠ 95 → E j = E j := fun _ _ => rfl
  refine lv_aload_n X.1 X.2.1 dX4_markNew_0 rfl (lv_at hl 0 rfl) ?_
  refine wm_get X hP hlt0 hE0 rfl wm_inX4 1 (by decide) wq1_155 rfl dX4_markNew_1 ?_
  refine lv_iload_n X.1 X.2.1 dX4_markNew_4 rfl (lv_at hl 1 rfl) ?_
  refine wm_zald (i := S) X hP hlt1 hE1 (by omega) (by decide) dX4_markNew_5 ?_
  refine wm_ifz_ne (x := (mk S)) (tgt := 13) X dX4_markNew_6 (by decide) (fun hc6 => ?_) (fun hc6 => ?_)
  · refine lv_iconst (v := nI 0) X.1 X.2.1 dX4_markNew_13 (by decide) ?_
    refine lv_istore_n (lv' := [(2, .int (nI 0)), (0, .ref (b + 93)), (1, .int (nI S))]) X.1 X.2.1 dX4_markNew_14 rfl hl (by decide) rfl (fun ls hl => ?_)
    refine lv_aload_n X.1 X.2.1 dX4_markNew_15 rfl (lv_at hl 1 rfl) ?_
    refine wm_get X hP hlt0 hE0 rfl wm_inX4 1 (by decide) wq1_155 rfl dX4_markNew_16 ?_
    refine lv_iload_n X.1 X.2.1 dX4_markNew_19 rfl (lv_at hl 2 rfl) ?_
    refine lv_iconst (v := nI 1) X.1 X.2.1 dX4_markNew_20 (by decide) ?_
    refine wm_zast (i := S) (x := true) X hP hS hlt1 hE1 (by omega) (by decide) dX4_markNew_21 (fun H locs E2 hP hS hE1 hq => ?_)
    have hE0 := (hq 93 (by decide)).trans hE0
    have hfr : ∀ j, j ≠ 95 → E2 j = E j := fun j h0 => (hq j h0).trans (hfr j h0)
    refine lv_iload_n X.1 X.2.1 dX4_markNew_22 rfl (lv_at hl 0 rfl) ?_
    exact wm_zret (v := false) (post := pX4_markNew C b E sc mc S mk) X hr hP hS ⟨(by rw [hc6]; rfl), hE1, hfr⟩ hQ dX4_markNew_23
  · refine lv_iconst (v := nI 1) X.1 X.2.1 dX4_markNew_9 (by decide) ?_
    refine lv_goto (tgt := 14) X.1 X.2.1 dX4_markNew_10 (by decide) ?_
    refine lv_istore_n (lv' := [(2, .int (nI 1)), (0, .ref (b + 93)), (1, .int (nI S))]) X.1 X.2.1 dX4_markNew_14 rfl hl (by decide) rfl (fun ls hl => ?_)
    refine lv_aload_n X.1 X.2.1 dX4_markNew_15 rfl (lv_at hl 1 rfl) ?_
    refine wm_get X hP hlt0 hE0 rfl wm_inX4 1 (by decide) wq1_155 rfl dX4_markNew_16 ?_
    refine lv_iload_n X.1 X.2.1 dX4_markNew_19 rfl (lv_at hl 2 rfl) ?_
    refine lv_iconst (v := nI 1) X.1 X.2.1 dX4_markNew_20 (by decide) ?_
    refine wm_zast (i := S) (x := true) X hP hS hlt1 hE1 (by omega) (by decide) dX4_markNew_21 (fun H locs E3 hP hS hE1 hq => ?_)
    have hE0 := (hq 93 (by decide)).trans hE0
    have hfr : ∀ j, j ≠ 95 → E3 j = E j := fun j h0 => (hq j h0).trans (hfr j h0)
    refine lv_iload_n X.1 X.2.1 dX4_markNew_22 rfl (lv_at hl 0 rfl) ?_
    exact wm_zret (v := true) (post := pX4_markNew C b E sc mc S mk) X hr hP hS ⟨(by rw [hc6]; rfl), hE1, hfr⟩ hQ dX4_markNew_23
def pX4_meet (C : Nat → ClassId) (b : Nat) (E : Nat → va_E) (sc S : Nat) (L : List Nat) (mk : Nat → Bool) (mt : Nat → Nat) : (Nat → va_E) → Prop := fun E' => ∃ (mk1 : Nat → Bool) (mt1 : Nat → Nat), E' 93 = .inr (4, [.ref (b + 94), .ref (b + 95), .ref (b + 96), .ref (b + 97), .ref (b + 98), .ref (b + 99), .int (nI sc), .int (nI ((wm_vis L S).length))]) ∧ E' 95 = wm_Z C 2048 mk1 ∧ E' 96 = wm_I C 2048 mt1 ∧ (∀ j, j ≠ 93 → j ≠ 95 → j ≠ 96 → E' j = E j) ∧ wm_ml (wm_vis L S) sc mk1 mt1
set_option maxHeartbeats 4000000 in
set_option maxRecDepth 100000 in
theorem kX4_meet (l : Launch) (D : va_G) (C : Nat → ClassId) (b n : Nat) (E : Nat → va_E) (sc S : Nat) (L : List Nat) (mk : Nat → Bool) (mt : Nat → Nat) (hlt0 : 93 < n) (hE0 : E 93 = .inr (4, [.ref (b + 94), .ref (b + 95), .ref (b + 96), .ref (b + 97), .ref (b + 98), .ref (b + 99), .int (nI sc), .int (nI L.length)])) (hlt1 : 95 < n) (hE1 : E 95 = wm_Z C 2048 mk) (hlt2 : 96 < n) (hE2 : E 96 = wm_I C 2048 mt) (hsc : sc ≤ 2048) (hSc : S < sc) (hml : wm_ml L sc mk mt) : Met l yX4_meet (wm_ws yX4_meet cX4_meet 2 none) { frames := 1, cells := 0, slots := 0, locals := 22 } (va_Pc [.ref (b + 93), .int (nI S)] (wm_G D C b n E)) (va_Qv (pX4_meet C b E sc S L mk mt) (fun E' t => wm_P D b n E' t.heap) (wm_A b)) 0 0 (wm_A b) := by
  refine wm_ofW (by decide) (Nat.le_of_ble_eq_true rfl) (fun p e s m below meth c ls R args Q hRe hQ X hr hnm hP hS hl => ?_)
  have hl : lv_has ls 2 [(0, .ref (b + 93)), (1, .int (nI S))] := hl
  have hfr : ∀ j, j ≠ 93 → j ≠ 95 → j ≠ 96 → E j = E j := fun _ _ _ _ => rfl
  have hlen := wm_ml_len hml
  refine lv_aload_n X.1 X.2.1 dX4_meet_0 rfl (lv_at hl 0 rfl) ?_
  refine lv_iload_n X.1 X.2.1 dX4_meet_1 rfl (lv_at hl 1 rfl) ?_
  refine wm_callVi (k := 1) (As := [.int (nI S)]) (rest := []) X hP hS hlt0 hE0 rfl (kX4_markNew l D C b n E sc L.length S mk hlt0 hE0 hlt1 hE1 (by omega)) wq4_210 wq4_212 wqP2_10 wq1_6 wq4_213 (by decide) (by rw [hRe]; exact ⟨Nat.le_of_ble_eq_true rfl, Nat.le_of_ble_eq_true rfl⟩) rfl hl.1 rfl (Nat.le_of_ble_eq_true rfl) (Nat.zero_le _) (Nat.zero_le _) dX4_meet_2 (fun r1 E1 H locs hw hP hS => ?_)
  obtain ⟨hrt, hE1, hq⟩ := hw
  subst hrt
  have hE0 := (hq 93 (by decide)).trans hE0
  have hE2 := (hq 96 (by decide)).trans hE2
  have hfr : ∀ j, j ≠ 93 → j ≠ 95 → j ≠ 96 → E1 j = E j := fun j h0 h1 h2 => (hq j h1).trans (hfr j h0 h1 h2)
  refine wm_ifz_eq (x := (!mk S)) (tgt := 38) X dX4_meet_5 (by decide) (fun hc5 => ?_) (fun hc5 => ?_)
  · have hv := wm_ml_old hml hSc (by simpa using hc5)
    exact wm_vret (post := pX4_meet C b E sc S L mk mt) X hr hP hS ⟨(va_up mk S true), mt, (by rw [hv.1]; exact hE0), hE1, hE2, hfr, (by rw [hv.1]; exact hv.2)⟩ hQ dX4_meet_38
  · refine lv_aload_n X.1 X.2.1 dX4_meet_8 rfl (lv_at hl 0 rfl) ?_
    refine wm_get X hP hlt0 hE0 rfl wm_inX4 7 (by decide) wq1_162 rfl dX4_meet_9 ?_
    refine lv_sipush (v := nI 2048) X.1 X.2.1 dX4_meet_12 (by decide) ?_
    refine wm_icmp_ge (x := L.length) (y := 2048) (tgt := 38) X (by omega) (by decide) dX4_meet_15 (by decide) (fun hc15 => ?_) (fun hc15 => ?_)
    · exact absurd hc15 (by have := (wm_ml_new hml hSc (by simpa using hc5)).2.1; omega)
    · refine lv_aload_n X.1 X.2.1 dX4_meet_18 rfl (lv_at hl 0 rfl) ?_
      refine wm_get X hP hlt0 hE0 rfl wm_inX4 2 (by decide) wq1_156 rfl dX4_meet_19 ?_
      refine lv_aload_n X.1 X.2.1 dX4_meet_22 rfl (lv_at hl 0 rfl) ?_
      refine wm_get X hP hlt0 hE0 rfl wm_inX4 7 (by decide) wq1_162 rfl dX4_meet_23 ?_
      refine lv_iload_n X.1 X.2.1 dX4_meet_26 rfl (lv_at hl 1 rfl) ?_
      refine wm_iast (i := L.length) (x := S) X hP hS hlt2 hE2 (by omega) (by decide) dX4_meet_27 (fun H locs E4 hP hS hE2 hq => ?_)
      have hE0 := (hq 93 (by decide)).trans hE0
      have hE1 := (hq 95 (by decide)).trans hE1
      have hfr : ∀ j, j ≠ 93 → j ≠ 95 → j ≠ 96 → E4 j = E j := fun j h0 h1 h2 => (hq j h2).trans (hfr j h0 h1 h2)
      refine lv_aload_n X.1 X.2.1 dX4_meet_28 rfl (lv_at hl 0 rfl) ?_
      refine lv_dup X.1 X.2.1 dX4_meet_29 rfl ?_
      refine wm_get X hP hlt0 hE0 rfl wm_inX4 7 (by decide) wq1_162 rfl dX4_meet_30 ?_
      refine lv_iconst (v := nI 1) X.1 X.2.1 dX4_meet_33 (by decide) ?_
      refine wm_iadd (x := L.length) (y := 1) X dX4_meet_34 ?_
      refine wm_put (v := .int (nI (L.length + 1))) X hP hS hlt0 hE0 rfl wm_inX4 tyX4 tyX4_ok nmX4 7 (by decide) wq1_162 rfl rfl rfl (fs1 := [.ref (b + 94), .ref (b + 95), .ref (b + 96), .ref (b + 97), .ref (b + 98), .ref (b + 99), .int (nI sc), .int (nI (L.length + 1))]) rfl (Nat.le_of_ble_eq_true rfl) dX4_meet_35 (fun H locs E5 hP hS hE0 hq => ?_)
      have hE1 := (hq 95 (by decide)).trans hE1
      have hE2 := (hq 96 (by decide)).trans hE2
      have hfr : ∀ j, j ≠ 93 → j ≠ 95 → j ≠ 96 → E5 j = E j := fun j h0 h1 h2 => (hq j h0).trans (hfr j h0 h1 h2)
      have hv := wm_ml_new hml hSc (by simpa using hc5)
      exact wm_vret (post := pX4_meet C b E sc S L mk mt) X hr hP hS ⟨(va_up mk S true), (va_up mt L.length S), (by rw [hv.1, List.length_append]; exact hE0), hE1, hE2, hfr, (by rw [hv.1]; exact hv.2.2)⟩ hQ dX4_meet_38
def pX4_meetAll (C : Nat → ClassId) (b : Nat) (E : Nat → va_E) (sc mc t tg cn st en : Nat) (sp : Nat → Nat) (mk : Nat → Bool) (mt g : Nat → Nat) : (Nat → va_E) → Prop := fun E' => ∃ (sp1 : Nat → Nat) (mk1 : Nat → Bool) (mt1 : Nat → Nat), E' 93 = .inr (4, [.ref (b + 94), .ref (b + 95), .ref (b + 96), .ref (b + 97), .ref (b + 98), .ref (b + 99), .int (nI (2 ^ cn)), .int (nI ((wm_sets g cn st).length))]) ∧ E' 94 = wm_I C 16384 sp1 ∧ E' 95 = wm_Z C 2048 mk1 ∧ E' 96 = wm_I C 2048 mt1 ∧ (∀ j, j ≠ 93 → j ≠ 94 → j ≠ 95 → j ≠ 96 → E' j = E j) ∧ wm_spt cn 8 0 g sp1 ∧ wm_ml (wm_sets g cn st) (2 ^ cn) mk1 mt1
set_option maxHeartbeats 4000000 in
set_option maxRecDepth 100000 in
theorem kX4_meetAll (l : Launch) (D : va_G) (C : Nat → ClassId) (b n : Nat) (E : Nat → va_E) (sc mc t tg cn st en : Nat) (sp : Nat → Nat) (mk : Nat → Bool) (mt g : Nat → Nat) (hlt0 : 93 < n) (hE0 : E 93 = .inr (4, [.ref (b + 94), .ref (b + 95), .ref (b + 96), .ref (b + 97), .ref (b + 98), .ref (b + 99), .int (nI sc), .int (nI mc)])) (hlt1 : 94 < n) (hE1 : E 94 = wm_I C 16384 sp) (hlt2 : 95 < n) (hE2 : E 95 = wm_Z C 2048 mk) (hlt3 : 96 < n) (hE3 : E 96 = wm_I C 2048 mt) (hlt4 : t < n) (hE4 : E t = .inr (2, [.ref (b + tg), .int (nI cn), .int (nI st), .int (nI en)])) (hlt5 : tg < n) (hE5 : E tg = wm_I C 192 g) (hmt : t < 4 ∨ 103 ≤ t) (hmg : tg < 4 ∨ 103 ≤ tg) (hne : t ≠ tg) (hc : cn ≤ 11) (hst : st < 2 ^ cn) (hg : ∀ a x, a < 8 → x < cn → g (a * 24 + x) < 2 ^ cn) : Met l yX4_meetAll (wm_ws yX4_meetAll cX4_meetAll 4 none) { frames := 2, cells := 0, slots := 0, locals := 47 } (va_Pc [.ref (b + 93), .ref (b + t)] (wm_G D C b n E)) (va_Qv (pX4_meetAll C b E sc mc t tg cn st en sp mk mt g) (fun E' t => wm_P D b n E' t.heap) (wm_A b)) 0 0 (wm_A b) := by
  refine wm_ofW (by decide) (Nat.le_of_ble_eq_true rfl) (fun p e s m below meth c ls R args Q hRe hQ X hr hnm hP hS hl => ?_)
  have hl : lv_has ls 4 [(0, .ref (b + 93)), (1, .ref (b + t))] := hl
  have hfr : ∀ j, j ≠ 93 → j ≠ 94 → j ≠ 95 → j ≠ 96 → E j = E j := fun _ _ _ _ _ => rfl
  have h2c : 2 ^ cn ≤ 2048 := Nat.pow_le_pow_right (show 0 < 2 by decide) hc
  have h2p : 0 < 2 ^ cn := Nat.two_pow_pos cn
  refine lv_aload_n X.1 X.2.1 dX4_meetAll_0 rfl (lv_at hl 0 rfl) ?_
  refine lv_aload_n X.1 X.2.1 dX4_meetAll_1 rfl (lv_at hl 1 rfl) ?_
  refine wm_callVv (k := 1) (As := [.ref (b + t)]) (rest := []) X hP hS hlt0 hE0 rfl (kX4_fillSteps l D C b n E sc mc t tg cn st en sp g hlt0 hE0 hlt1 hE1 hlt4 hE4 hlt5 hE5 (by omega) (by omega) (by omega) (by omega)) wq4_201 wq3_113 wq3_114 wq1_6 wq3_115 (by decide) (by rw [hRe]; exact ⟨Nat.le_of_ble_eq_true rfl, Nat.le_of_ble_eq_true rfl⟩) rfl hl.1 rfl (Nat.le_of_ble_eq_true rfl) (Nat.zero_le _) (Nat.zero_le _) dX4_meetAll_2 (fun E1 H locs hw hP hS => ?_)
  obtain ⟨sp11, hE0, hE1, hq, hp1_0⟩ := hw
  have hE2 := (hq 95 (by decide) (by decide)).trans hE2
  have hE3 := (hq 96 (by decide) (by decide)).trans hE3
  have hE4 := (hq t (by omega) (by omega)).trans hE4
  have hE5 := (hq tg (by omega) (by omega)).trans hE5
  have hfr : ∀ j, j ≠ 93 → j ≠ 94 → j ≠ 95 → j ≠ 96 → E1 j = E j := fun j h0 h1 h2 h3 => (hq j h0 h1).trans (hfr j h0 h1 h2 h3)
  have hsp := hp1_0
  refine lv_aload_n X.1 X.2.1 dX4_meetAll_5 rfl (lv_at hl 0 rfl) ?_
  refine wm_callVv (k := 0) (As := []) (rest := []) X hP hS hlt0 hE0 rfl (kX4_clearMarks l D C b n E1 (2 ^ cn) mc mk hlt0 hE0 hlt2 hE2 (by omega)) wq4_202 wq4_204 wqP2_8 wq1_6 wq4_205 (by decide) (by rw [hRe]; exact ⟨Nat.le_of_ble_eq_true rfl, Nat.le_of_ble_eq_true rfl⟩) rfl hl.1 rfl (Nat.le_of_ble_eq_true rfl) (Nat.zero_le _) (Nat.zero_le _) dX4_meetAll_6 (fun E2 H locs hw hP hS => ?_)
  obtain ⟨mk12, hE2, hq, hp2_0⟩ := hw
  have hE0 := (hq 93 (by decide)).trans hE0
  have hE1 := (hq 94 (by decide)).trans hE1
  have hE3 := (hq 96 (by decide)).trans hE3
  have hE4 := (hq t (by omega)).trans hE4
  have hE5 := (hq tg (by omega)).trans hE5
  have hfr : ∀ j, j ≠ 93 → j ≠ 94 → j ≠ 95 → j ≠ 96 → E2 j = E j := fun j h0 h1 h2 h3 => (hq j h2).trans (hfr j h0 h1 h2 h3)
  have hcl := hp2_0
  refine lv_aload_n X.1 X.2.1 dX4_meetAll_9 rfl (lv_at hl 0 rfl) ?_
  refine lv_iconst (v := nI 0) X.1 X.2.1 dX4_meetAll_10 (by decide) ?_
  refine wm_put (v := .int (nI 0)) X hP hS hlt0 hE0 rfl wm_inX4 tyX4 tyX4_ok nmX4 7 (by decide) wq1_162 rfl rfl rfl (fs1 := [.ref (b + 94), .ref (b + 95), .ref (b + 96), .ref (b + 97), .ref (b + 98), .ref (b + 99), .int (nI (2 ^ cn)), .int (nI 0)]) rfl (Nat.le_of_ble_eq_true rfl) dX4_meetAll_11 (fun H locs E3 hP hS hE0 hq => ?_)
  have hE1 := (hq 94 (by decide)).trans hE1
  have hE2 := (hq 95 (by decide)).trans hE2
  have hE3 := (hq 96 (by decide)).trans hE3
  have hE4 := (hq t (by omega)).trans hE4
  have hE5 := (hq tg (by omega)).trans hE5
  have hfr : ∀ j, j ≠ 93 → j ≠ 94 → j ≠ 95 → j ≠ 96 → E3 j = E j := fun j h0 h1 h2 h3 => (hq j h0).trans (hfr j h0 h1 h2 h3)
  refine lv_aload_n X.1 X.2.1 dX4_meetAll_14 rfl (lv_at hl 0 rfl) ?_
  refine lv_aload_n X.1 X.2.1 dX4_meetAll_15 rfl (lv_at hl 1 rfl) ?_
  refine wm_get X hP hlt4 hE4 rfl wm_inX2 2 (by decide) wq1_48 rfl dX4_meetAll_16 ?_
  refine wm_callVv (k := 1) (As := [.int (nI st)]) (rest := []) X hP hS hlt0 hE0 rfl (kX4_meet l D C b n E3 (2 ^ cn) st ([] : List Nat) mk12 mt hlt0 hE0 hlt2 hE2 hlt3 hE3 (by omega) hst (wm_ml0 hcl)) wq4_206 wq4_208 wqP2_9 wq1_6 wq4_209 (by decide) (by rw [hRe]; exact ⟨Nat.le_of_ble_eq_true rfl, Nat.le_of_ble_eq_true rfl⟩) rfl hl.1 rfl (Nat.le_of_ble_eq_true rfl) (Nat.zero_le _) (Nat.zero_le _) dX4_meetAll_19 (fun E4 H locs hw hP hS => ?_)
  obtain ⟨mk14, mt14, hE0, hE2, hE3, hq, hp4_0⟩ := hw
  have hE1 := (hq 94 (by decide) (by decide) (by decide)).trans hE1
  have hE4 := (hq t (by omega) (by omega) (by omega)).trans hE4
  have hE5 := (hq tg (by omega) (by omega) (by omega)).trans hE5
  have hfr : ∀ j, j ≠ 93 → j ≠ 94 → j ≠ 95 → j ≠ 96 → E4 j = E j := fun j h0 h1 h2 h3 => (hq j h0 h2 h3).trans (hfr j h0 h1 h2 h3)
  refine lv_iconst (v := nI 0) X.1 X.2.1 dX4_meetAll_22 (by decide) ?_
  refine lv_istore_n (lv' := [(2, .int (nI 0)), (0, .ref (b + 93)), (1, .ref (b + t))]) X.1 X.2.1 dX4_meetAll_23 rfl hl (by decide) rfl (fun ls hl => ?_)
  have L24 : ∀ (fu : Nat) (i : Nat) (L : List Nat) (mk2 : Nat → Bool) (mt2 : Nat → Nat), 2049 - i < fu → (i ≤ L.length) → (wm_ml L (2 ^ cn) mk2 mt2) → (wm_bfs (fun S a => wm_st g cn a S) (2049 - i) i L = (wm_sets g cn st)) → ∀ (E5 : Nat → va_E) (H : Heap) (locs : List Loc) (ls : Array Slot), wm_P D b n E5 H → wm_S b s.heap H locs → E5 93 = .inr (4, [.ref (b + 94), .ref (b + 95), .ref (b + 96), .ref (b + 97), .ref (b + 98), .ref (b + 99), .int (nI (2 ^ cn)), .int (nI L.length)]) → E5 94 = wm_I C 16384 sp11 → E5 95 = wm_Z C 2048 mk2 → E5 96 = wm_I C 2048 mt2 → E5 t = .inr (2, [.ref (b + tg), .int (nI cn), .int (nI st), .int (nI en)]) → E5 tg = wm_I C 192 g → (∀ j, j ≠ 93 → j ≠ 94 → j ≠ 95 → j ≠ 96 → E5 j = E j) → lv_has ls 4 [(0, .ref (b + 93)), (1, .ref (b + t)), (2, .int (nI i))] → W p l e R s m args below meth c H locs 0 0 Q (F0 m 24 ls []) := by
    intro fu
    induction fu with
    | zero => intro i L mk2 mt2 hm; exact absurd hm (Nat.not_lt_zero _)
    | succ fu ih24 =>
      intro i L mk2 mt2 hm hi hml hbf E5 H locs ls hP hS hE0 hE1 hE2 hE3 hE4 hE5 hfr hl
      have hlen := wm_ml_len hml
      refine lv_iload_n X.1 X.2.1 dX4_meetAll_24 rfl (lv_at hl 2 rfl) ?_
      refine lv_aload_n X.1 X.2.1 dX4_meetAll_25 rfl (lv_at hl 0 rfl) ?_
      refine wm_get X hP hlt0 hE0 rfl wm_inX4 7 (by decide) wq1_162 rfl dX4_meetAll_26 ?_
      refine wm_icmp_ge (x := i) (y := L.length) (tgt := 74) X (by omega) (by omega) dX4_meetAll_29 (by decide) (fun hc29 => ?_) (fun hc29 => ?_)
      · have hfin : L = (wm_sets g cn st) := by rw [← hbf]; exact (wm_bfs_e hc29).symm
        exact wm_vret (post := pX4_meetAll C b E sc mc t tg cn st en sp mk mt g) X hr hP hS ⟨sp11, mk2, mt2, (by rw [← hfin]; exact hE0), hE1, hE2, hE3, hfr, hsp, (by rw [← hfin]; exact hml)⟩ hQ dX4_meetAll_74
      · refine lv_iload_n X.1 X.2.1 dX4_meetAll_32 rfl (lv_at hl 2 rfl) ?_
        refine lv_sipush (v := nI 2048) X.1 X.2.1 dX4_meetAll_33 (by decide) ?_
        refine wm_icmp_ge (x := i) (y := 2048) (tgt := 74) X (by omega) (by decide) dX4_meetAll_36 (by decide) (fun hc36 => ?_) (fun hc36 => ?_)
        · exact absurd hc36 (by omega)
        · refine lv_iconst (v := nI 0) X.1 X.2.1 dX4_meetAll_39 (by decide) ?_
          refine lv_istore_n (lv' := [(3, .int (nI 0)), (0, .ref (b + 93)), (1, .ref (b + t)), (2, .int (nI i))]) X.1 X.2.1 dX4_meetAll_40 rfl hl (by decide) rfl (fun ls hl => ?_)
          have L41 : ∀ (fu : Nat) (a : Nat) (mk3 : Nat → Bool) (mt3 : Nat → Nat), 8 - a < fu → (a ≤ 8) → (wm_ml (wm_vf (fun a => wm_st g cn a (L.getD i 0)) a L) (2 ^ cn) mk3 mt3) → ∀ (E8 : Nat → va_E) (H : Heap) (locs : List Loc) (ls : Array Slot), wm_P D b n E8 H → wm_S b s.heap H locs → E8 93 = .inr (4, [.ref (b + 94), .ref (b + 95), .ref (b + 96), .ref (b + 97), .ref (b + 98), .ref (b + 99), .int (nI (2 ^ cn)), .int (nI ((wm_vf (fun a => wm_st g cn a (L.getD i 0)) a L).length))]) → E8 94 = wm_I C 16384 sp11 → E8 95 = wm_Z C 2048 mk3 → E8 96 = wm_I C 2048 mt3 → E8 t = .inr (2, [.ref (b + tg), .int (nI cn), .int (nI st), .int (nI en)]) → E8 tg = wm_I C 192 g → (∀ j, j ≠ 93 → j ≠ 94 → j ≠ 95 → j ≠ 96 → E8 j = E j) → lv_has ls 4 [(0, .ref (b + 93)), (1, .ref (b + t)), (2, .int (nI i)), (3, .int (nI a))] → W p l e R s m args below meth c H locs 0 0 Q (F0 m 41 ls []) := by
            intro fu
            induction fu with
            | zero => intro a mk3 mt3 hm; exact absurd hm (Nat.not_lt_zero _)
            | succ fu ih41 =>
              intro a mk3 mt3 hm ha hml2 E8 H locs ls hP hS hE0 hE1 hE2 hE3 hE4 hE5 hfr hl
              have hlen2 := wm_ml_len hml2
              have hpre := wm_vf_pre (fun a => wm_st g cn a (L.getD i 0)) L a
              refine lv_iload_n X.1 X.2.1 dX4_meetAll_41 rfl (lv_at hl 3 rfl) ?_
              refine lv_bipush (v := nI 8) X.1 X.2.1 dX4_meetAll_42 (by decide) ?_
              refine wm_icmp_ge (x := a) (y := 8) (tgt := 68) X (by omega) (by decide) dX4_meetAll_44 (by decide) (fun hc44 => ?_) (fun hc44 => ?_)
              · refine lv_iinc (v := nI (i + 1)) (lv' := [(2, .int (nI (i + 1))), (0, .ref (b + 93)), (1, .ref (b + t)), (3, .int (nI a))]) X.1 X.2.1 dX4_meetAll_68 hl (k := 2) rfl (wm_inc i) (by decide) rfl (fun ls hl => ?_)
                refine lv_goto (tgt := 24) X.1 X.2.1 dX4_meetAll_71 (by decide) ?_
                have ha8 : a = 8 := by omega
                have hpre := wm_vf_pre (fun a => wm_st g cn a (L.getD i 0)) L a
                exact ih24 (i + 1) (wm_vf (fun a => wm_st g cn a (L.getD i 0)) a L) mk3 mt3 (by omega) (by omega) hml2 (by rw [ha8, ← hbf, show 2049 - i = 2049 - (i + 1) + 1 by omega, wm_bfs_s hc29]) E8 _ _ _ hP hS hE0 hE1 hE2 hE3 hE4 hE5 hfr (lv_sub hl [1, 2, 0] rfl)
              · refine lv_aload_n X.1 X.2.1 dX4_meetAll_47 rfl (lv_at hl 0 rfl) ?_
                refine lv_aload_n X.1 X.2.1 dX4_meetAll_48 rfl (lv_at hl 0 rfl) ?_
                refine lv_aload_n X.1 X.2.1 dX4_meetAll_49 rfl (lv_at hl 0 rfl) ?_
                refine wm_get X hP hlt0 hE0 rfl wm_inX4 2 (by decide) wq1_156 rfl dX4_meetAll_50 ?_
                refine lv_iload_n X.1 X.2.1 dX4_meetAll_53 rfl (lv_at hl 2 rfl) ?_
                refine wm_iald (i := i) X hP hlt3 hE3 (by omega) (by decide) dX4_meetAll_54 ?_
                have hmi : mt3 i = L.getD i 0 := (hml2.2.1 i (by omega)).trans (hpre.2 i hc29)
                have hin : L.getD i 0 < 2 ^ cn := hml.2.2.2 _ (by rw [List.getD_eq_getElem?_getD, List.getElem?_eq_getElem hc29]; exact List.getElem_mem hc29)
                have hmi2 : mt3 i < 2 ^ cn := by rw [hmi]; exact hin
                refine lv_iload_n X.1 X.2.1 dX4_meetAll_55 rfl (lv_at hl 3 rfl) ?_
                refine wm_callVi (k := 2) (As := [.int (nI (mt3 i)), .int (nI a)]) (rest := [.ref (b + 93)]) X hP hS hlt0 hE0 rfl (kX4_stepFrom l D C b n E8 (2 ^ cn) ((wm_vf (fun a => wm_st g cn a (L.getD i 0)) a L).length) (mt3 i) a sp11 hlt0 hE0 hlt1 hE1 (by omega)) wq4_214 wq4_170 wq4_171 wq1_6 wq4_172 (by decide) (by rw [hRe]; exact ⟨Nat.le_of_ble_eq_true rfl, Nat.le_of_ble_eq_true rfl⟩) rfl hl.1 rfl (Nat.le_of_ble_eq_true rfl) (Nat.zero_le _) (Nat.zero_le _) dX4_meetAll_56 (fun r10 E10 H locs hw hP hS => ?_)
                obtain ⟨hrt, hEe⟩ := hw
                subst hrt
                subst hEe
                have hstep : sp11 (a * 2048 + mt3 i) = wm_st g cn a (L.getD i 0) := by rw [hsp a (mt3 i) (by omega) hmi2 (by omega), hmi]
                refine wm_callVv (k := 1) (As := [.int (nI (sp11 (a * 2048 + (mt3 i))))]) (rest := []) X hP hS hlt0 hE0 rfl (kX4_meet l D C b n E8 (2 ^ cn) (sp11 (a * 2048 + (mt3 i))) (wm_vf (fun a => wm_st g cn a (L.getD i 0)) a L) mk3 mt3 hlt0 hE0 hlt2 hE2 hlt3 hE3 (by omega) (by rw [hstep]; exact wm_st_lt (fun x hx => hg a x (by omega) hx)) hml2) wq4_206 wq4_208 wqP2_9 wq1_6 wq4_209 (by decide) (by rw [hRe]; exact ⟨Nat.le_of_ble_eq_true rfl, Nat.le_of_ble_eq_true rfl⟩) rfl hl.1 rfl (Nat.le_of_ble_eq_true rfl) (Nat.zero_le _) (Nat.zero_le _) dX4_meetAll_59 (fun E11 H locs hw hP hS => ?_)
                obtain ⟨mk111, mt111, hE0, hE2, hE3, hq, hp11_0⟩ := hw
                have hE1 := (hq 94 (by decide) (by decide) (by decide)).trans hE1
                have hE4 := (hq t (by omega) (by omega) (by omega)).trans hE4
                have hE5 := (hq tg (by omega) (by omega) (by omega)).trans hE5
                have hfr : ∀ j, j ≠ 93 → j ≠ 94 → j ≠ 95 → j ≠ 96 → E11 j = E j := fun j h0 h1 h2 h3 => (hq j h0 h2 h3).trans (hfr j h0 h1 h2 h3)
                have heq : wm_vis (wm_vf (fun a => wm_st g cn a (L.getD i 0)) a L) (sp11 (a * 2048 + mt3 i)) = wm_vf (fun a => wm_st g cn a (L.getD i 0)) (a + 1) L := by rw [hstep]; rfl
                rw [heq] at hE0 hp11_0
                refine lv_iinc (v := nI (a + 1)) (lv' := [(3, .int (nI (a + 1))), (0, .ref (b + 93)), (1, .ref (b + t)), (2, .int (nI i))]) X.1 X.2.1 dX4_meetAll_62 hl (k := 3) rfl (wm_inc a) (by decide) rfl (fun ls hl => ?_)
                refine lv_goto (tgt := 41) X.1 X.2.1 dX4_meetAll_65 (by decide) ?_
                exact ih41 (a + 1) mk111 mt111 (by omega) (by omega) hp11_0 E11 _ _ _ hP hS hE0 hE1 hE2 hE3 hE4 hE5 hfr (lv_sub hl [1, 2, 3, 0] rfl)
          exact L41 (8 - 0 + 1) 0 mk2 mt2 (Nat.lt_succ_self _) (by omega) hml E5 _ _ _ hP hS hE0 hE1 hE2 hE3 hE4 hE5 hfr (lv_sub hl [1, 2, 3, 0] rfl)
  exact L24 (2049 - 0 + 1) 0 ([st]) mk14 mt14 (Nat.lt_succ_self _) (Nat.zero_le _) hp4_0 rfl E4 _ _ _ hP hS hE0 hE1 hE2 hE3 hE4 hE5 hfr (lv_sub hl [1, 2, 0] rfl)
