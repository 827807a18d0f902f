def pX7_step (C : Nat → ClassId) (b : Nat) (E : Nat → va_E) (th sz fa pl ats aa op fi la wa wc kl : Nat) (be : Bool) (z : wm_pst) (tx ml fo pF pL rF rL : Nat → Nat) (pB rB : Nat → Bool) : (Nat → va_E) → Prop := fun E' => ∃ (fa1 : Nat) (pl1 : Nat) (ats1 : Nat) (aa1 : Nat) (op1 : Nat) (be1 : Bool) (fi1 : Nat) (la1 : Nat) (ml1 : Nat → Nat) (fo1 : Nat → Nat) (pB1 : Nat → Bool) (pF1 : Nat → Nat) (pL1 : Nat → Nat) (rB1 : Nat → Bool) (rF1 : Nat → Nat) (rL1 : Nat → Nat), E' 119 = .inr (7, [.int (nI th), .ref (b + 120), .int (nI sz), .int (nI fa1), .int (nI pl1), .ref (b + 121), .ref (b + 122), .ref (b + 123), .ref (b + 124), .ref (b + 125), .ref (b + 126), .ref (b + 127), .int (nI ats1), .int (nI aa1), .ref (b + 128), .ref (b + 129), .ref (b + 130), .ref (b + 131), .ref (b + 132), .ref (b + 133), .int (nI op1), .int (nI be1.toNat), .int (nI fi1), .int (nI la1), .ref (b + 134), .ref (b + 135), .ref (b + 136), .int (nI wa), .ref (b + 137), .ref (b + 138), .ref (b + 139), .int (nI wc), .ref (b + 140), .int (nI kl), .ref (b + 141), .ref (b + 142), .ref (b + 143), .ref (b + 144), .ref (b + 145)]) ∧ E' 126 = wm_I C 24 ml1 ∧ E' 127 = wm_I C 24 fo1 ∧ E' 128 = wm_Z C 22 pB1 ∧ E' 129 = wm_I C 22 pF1 ∧ E' 130 = wm_I C 22 pL1 ∧ E' 131 = wm_Z C 22 rB1 ∧ E' 132 = wm_I C 22 rF1 ∧ E' 133 = wm_I C 22 rL1 ∧ (∀ j, j ≠ 119 → j ≠ 126 → j ≠ 127 → j ≠ 128 → j ≠ 129 → j ≠ 130 → j ≠ 131 → j ≠ 132 → j ≠ 133 → E' j = E j) ∧ ((fa1 = 0 ∧ pl1 = pl ∧ wm_ok tx sz (wm_go tx (sz - aa) aa z) aa aa1 ats1 op1 ml1 fo1 pF1 pL1 rF1 rL1 pB1 rB1) ∨ (fa1 ≠ 0 ∧ fa1 ≤ 4 ∧ wm_kd (wm_go tx (sz - aa) aa z) = fa1 ∧ wm_pl (wm_go tx (sz - aa) aa z) = pl1)) ∧ op1 ≤ 20
set_option maxHeartbeats 4000000 in
set_option maxRecDepth 100000 in
theorem kX7_step (l : Launch) (D : va_G) (C : Nat → ClassId) (b n : Nat) (E : Nat → va_E) (th sz fa pl ats aa op fi la wa wc kl : Nat) (be : Bool) (z : wm_pst) (tx ml fo pF pL rF rL : Nat → Nat) (pB rB : Nat → Bool) (hlt0 : 119 < n) (hE0 : E 119 = .inr (7, [.int (nI th), .ref (b + 120), .int (nI sz), .int (nI fa), .int (nI pl), .ref (b + 121), .ref (b + 122), .ref (b + 123), .ref (b + 124), .ref (b + 125), .ref (b + 126), .ref (b + 127), .int (nI ats), .int (nI aa), .ref (b + 128), .ref (b + 129), .ref (b + 130), .ref (b + 131), .ref (b + 132), .ref (b + 133), .int (nI op), .int (nI be.toNat), .int (nI fi), .int (nI la), .ref (b + 134), .ref (b + 135), .ref (b + 136), .int (nI wa), .ref (b + 137), .ref (b + 138), .ref (b + 139), .int (nI wc), .ref (b + 140), .int (nI kl), .ref (b + 141), .ref (b + 142), .ref (b + 143), .ref (b + 144), .ref (b + 145)])) (hlt1 : 120 < n) (hE1 : E 120 = wm_I C 200 tx) (hlt2 : 126 < n) (hE2 : E 126 = wm_I C 24 ml) (hlt3 : 127 < n) (hE3 : E 127 = wm_I C 24 fo) (hlt4 : 128 < n) (hE4 : E 128 = wm_Z C 22 pB) (hlt5 : 129 < n) (hE5 : E 129 = wm_I C 22 pF) (hlt6 : 130 < n) (hE6 : E 130 = wm_I C 22 pL) (hlt7 : 131 < n) (hE7 : E 131 = wm_Z C 22 rB) (hlt8 : 132 < n) (hE8 : E 132 = wm_I C 22 rF) (hlt9 : 133 < n) (hE9 : E 133 = wm_I C 22 rL) (hf : fa = 0) (hsz : sz ≤ 200) (haa : aa < sz) (htx : ∀ i, tx i < 256) (hrel : wm_rel z ats op ml fo pF pL rF rL pB rB) (hnx : z.2.2.2.1 op = true → ¬ wm_sgn (wm_ba tx sz aa)) : Met l yX7_step (wm_ws yX7_step cX7_step 4 none) { frames := 2, cells := 0, slots := 0, locals := 48 } (va_Pc [.ref (b + 119)] (wm_G D C b n E)) (va_Qv (pX7_step C b E th sz fa pl ats aa op fi la wa wc kl be z tx ml fo pF pL rF rL pB rB) (fun E' t => wm_P D b n E' t.heap) (wm_A b)) 0 0 (wm_A b) := by
  refine wm_ofW (by decide) (Nat.le_of_ble_eq_true rfl) (fun p e s m below meth c ls R args Q hRe hQ X hr hnm hP hS hl => ?_)
  have hl : lv_has ls 4 [(0, .ref (b + 119))] := hl
  have hfr : ∀ j, j ≠ 119 → j ≠ 126 → j ≠ 127 → j ≠ 128 → j ≠ 129 → j ≠ 130 → j ≠ 131 → j ≠ 132 → j ≠ 133 → E j = E j := fun _ _ _ _ _ _ _ _ _ _ => rfl
  have hr1 := hrel.1.1
  have hr2 := hrel.1.2.1
  have hr4 := hrel.1.2.2.2.1
  have hr5 := hrel.1.2.2.2.2.1
  have hx9 := htx aa
  have hpw : 2 ^ z.1.2.1 ≤ 2 ^ 24 := Nat.pow_le_pow_right (by decide) hr4
  have hrlv : ∀ i, i ≤ op → rL i < 2 ^ 24 := fun i hi => Nat.lt_of_lt_of_le (wm_rl_lt hrel hi) hpw
  have hplv : ∀ i, i ≤ op → pL i < 2 ^ 24 := fun i hi => Nat.lt_of_lt_of_le (wm_pl_lt hrel hi) hpw
  refine lv_aload_n X.1 X.2.1 dX7_step_0 rfl (lv_at hl 0 rfl) ?_
  refine lv_aload_n X.1 X.2.1 dX7_step_1 rfl (lv_at hl 0 rfl) ?_
  refine wm_get X hP hlt0 hE0 rfl wm_inX7 13 (by decide) wq5_35 rfl dX7_step_2 ?_
  refine wm_callVi (k := 1) (As := [.int (nI aa)]) (rest := []) X hP hS hlt0 hE0 rfl (kX7_byteAt l D C b n E th sz fa pl ats aa op fi la wa wc kl be aa tx hlt0 hE0 hlt1 hE1 (by omega) (by omega)) wq5_173 wq5_175 wqP3_3 wq1_8 wq5_176 (by decide) (by rw [hRe]; exact ⟨Nat.le_of_ble_eq_true rfl, Nat.le_of_ble_eq_true rfl⟩) rfl hl.1 rfl (Nat.le_of_ble_eq_true rfl) (Nat.zero_le _) (Nat.zero_le _) dX7_step_5 (fun r1 E1 H locs hw hP hS => ?_)
  obtain ⟨hrt, hEe⟩ := hw
  subst hrt
  subst hEe
  rw [show wm_ba tx sz aa = tx aa from if_pos haa]
  refine lv_istore_n (lv' := [(1, .int (nI (tx aa))), (0, .ref (b + 119))]) X.1 X.2.1 dX7_step_8 rfl hl (by decide) rfl (fun ls hl => ?_)
  refine lv_iload_n X.1 X.2.1 dX7_step_9 rfl (lv_at hl 0 rfl) ?_
  refine wm_callSi (k := 1) (As := [.int (nI (tx aa))]) (rest := []) X hP hS  (kX7_isLetter l D C b n E (tx aa) (Or.inl hx9)) wq5_177 wq5_178 wq1_8 wq5_179 (by decide) (by rw [hRe]; exact ⟨Nat.le_of_ble_eq_true rfl, Nat.le_of_ble_eq_true rfl⟩) rfl hl.1 rfl (Nat.le_of_ble_eq_true rfl) (Nat.zero_le _) (Nat.zero_le _) dX7_step_10 (fun r2 E2 H locs hw hP hS => ?_)
  obtain ⟨hrt, hEe⟩ := hw
  subst hrt
  subst hEe
  refine wm_ifz_ne (x := (decide (97 ≤ (tx aa) ∧ (tx aa) ≤ 104))) (tgt := 28) X dX7_step_13 (by decide) (fun hc13 => ?_) (fun hc13 => ?_)
  · refine lv_iconst (v := nI 1) X.1 X.2.1 dX7_step_28 (by decide) ?_
    refine lv_goto (tgt := 33) X.1 X.2.1 dX7_step_29 (by decide) ?_
    refine lv_istore_n (lv' := [(2, .int (nI 1)), (1, .int (nI (tx aa))), (0, .ref (b + 119))]) X.1 X.2.1 dX7_step_33 rfl hl (by decide) rfl (fun ls hl => ?_)
    refine lv_iload_n X.1 X.2.1 dX7_step_34 rfl (lv_at hl 0 rfl) ?_
    refine lv_if_eq (tgt := 59) X.1 X.2.1 dX7_step_35 (by decide) (fun h => by exfalso; revert h; decide) (fun _ => ?_)
    refine lv_aload_n X.1 X.2.1 dX7_step_38 rfl (lv_at hl 2 rfl) ?_
    refine wm_get X hP hlt0 hE0 rfl wm_inX7 12 (by decide) wq5_34 rfl dX7_step_39 ?_
    refine lv_bipush (v := nI 23) X.1 X.2.1 dX7_step_42 (by decide) ?_
    refine wm_icmp_ne (x := ats) (y := 23) (tgt := 59) X (by omega) (by decide) dX7_step_44 (by decide) (fun hc44 => ?_) (fun hc44 => ?_)
    · have hat9 : ats < 23 := by omega
      have hsh : 1 <<< (ats + 1) < 2 ^ 31 := wm_s31b (by omega)
      have hrlb : rL op < 2 ^ 31 := by have := hrlv op (Nat.le_refl _); omega
      refine lv_iload_n X.1 X.2.1 dX7_step_59 rfl (lv_at hl 1 rfl) ?_
      refine lv_bipush (v := nI 91) X.1 X.2.1 dX7_step_60 (by decide) ?_
      refine wm_icmp_ne (x := (tx aa)) (y := 91) (tgt := 99) X (by omega) (by decide) dX7_step_62 (by decide) (fun hc62 => ?_) (fun hc62 => ?_)
      · refine lv_iload_n X.1 X.2.1 dX7_step_99 rfl (lv_at hl 0 rfl) ?_
        refine lv_if_eq (tgt := 142) X.1 X.2.1 dX7_step_100 (by decide) (fun h => by exfalso; revert h; decide) (fun _ => ?_)
        refine lv_aload_n X.1 X.2.1 dX7_step_103 rfl (lv_at hl 2 rfl) ?_
        refine lv_dup X.1 X.2.1 dX7_step_104 rfl ?_
        refine wm_get X hP hlt0 hE0 rfl wm_inX7 13 (by decide) wq5_35 rfl dX7_step_105 ?_
        refine lv_iconst (v := nI 1) X.1 X.2.1 dX7_step_108 (by decide) ?_
        refine wm_iadd (x := aa) (y := 1) X dX7_step_109 ?_
        refine wm_put (v := .int (nI (aa + 1))) X hP hS hlt0 hE0 rfl wm_inX7 tyX7 tyX7_ok nmX7 13 (by decide) wq5_35 rfl rfl rfl (fs1 := [.int (nI th), .ref (b + 120), .int (nI sz), .int (nI fa), .int (nI pl), .ref (b + 121), .ref (b + 122), .ref (b + 123), .ref (b + 124), .ref (b + 125), .ref (b + 126), .ref (b + 127), .int (nI ats), .int (nI (aa + 1)), .ref (b + 128), .ref (b + 129), .ref (b + 130), .ref (b + 131), .ref (b + 132), .ref (b + 133), .int (nI op), .int (nI be.toNat), .int (nI fi), .int (nI la), .ref (b + 134), .ref (b + 135), .ref (b + 136), .int (nI wa), .ref (b + 137), .ref (b + 138), .ref (b + 139), .int (nI wc), .ref (b + 140), .int (nI kl), .ref (b + 141), .ref (b + 142), .ref (b + 143), .ref (b + 144), .ref (b + 145)]) rfl (Nat.le_of_ble_eq_true rfl) dX7_step_110 (fun H locs E6 hP hS hE0 hq => ?_)
        have hE1 := (hq 120 (by decide)).trans hE1
        have hE2 := (hq 126 (by decide)).trans hE2
        have hE3 := (hq 127 (by decide)).trans hE3
        have hE4 := (hq 128 (by decide)).trans hE4
        have hE5 := (hq 129 (by decide)).trans hE5
        have hE6 := (hq 130 (by decide)).trans hE6
        have hE7 := (hq 131 (by decide)).trans hE7
        have hE8 := (hq 132 (by decide)).trans hE8
        have hE9 := (hq 133 (by decide)).trans hE9
        have hfr : ∀ j, j ≠ 119 → j ≠ 126 → j ≠ 127 → j ≠ 128 → j ≠ 129 → j ≠ 130 → j ≠ 131 → j ≠ 132 → j ≠ 133 → E6 j = E j := fun j h0 h1 h2 h3 h4 h5 h6 h7 h8 => (hq j h0).trans (hfr j h0 h1 h2 h3 h4 h5 h6 h7 h8)
        refine lv_aload_n X.1 X.2.1 dX7_step_113 rfl (lv_at hl 2 rfl) ?_
        refine lv_iload_n X.1 X.2.1 dX7_step_114 rfl (lv_at hl 1 rfl) ?_
        refine lv_bipush (v := nI 46) X.1 X.2.1 dX7_step_115 (by decide) ?_
        refine wm_icmp_ne (x := (tx aa)) (y := 46) (tgt := 126) X (by omega) (by decide) dX7_step_117 (by decide) (fun hc117 => ?_) (fun hc117 => ?_)
        · refine lv_iconst (v := nI 1) X.1 X.2.1 dX7_step_126 (by decide) ?_
          refine lv_iload_n X.1 X.2.1 dX7_step_127 rfl (lv_at hl 1 rfl) ?_
          refine lv_bipush (v := nI 97) X.1 X.2.1 dX7_step_128 (by decide) ?_
          refine wm_isub (x := (tx aa)) (y := 97) X (by have h9 := of_decide_eq_true hc13; omega) dX7_step_130 ?_
          refine wm_ishl (x := 1) (y := ((tx aa) - 97)) X (by have h9 := of_decide_eq_true hc13; omega) dX7_step_131 ?_
          refine wm_callVv (k := 1) (As := [.int (nI (1 <<< ((tx aa) - 97)))]) (rest := []) X hP hS hlt0 hE0 rfl (kX7_atom l D C b n E6 th sz fa pl ats (aa + 1) op fi la wa wc kl be (1 <<< ((tx aa) - 97)) ml fo hlt0 hE0 hlt2 hE2 hlt3 hE3 (by omega)) wq5_188 wq5_190 wqP3_6 wq1_8 wq5_191 (by decide) (by rw [hRe]; exact ⟨Nat.le_of_ble_eq_true rfl, Nat.le_of_ble_eq_true rfl⟩) rfl hl.1 rfl (Nat.le_of_ble_eq_true rfl) (Nat.zero_le _) (Nat.zero_le _) dX7_step_132 (fun E8 H locs hw hP hS => ?_)
          obtain ⟨hE0, hE2, hE3, hq⟩ := hw
          have hE1 := (hq 120 (by decide) (by decide) (by decide)).trans hE1
          have hE4 := (hq 128 (by decide) (by decide) (by decide)).trans hE4
          have hE5 := (hq 129 (by decide) (by decide) (by decide)).trans hE5
          have hE6 := (hq 130 (by decide) (by decide) (by decide)).trans hE6
          have hE7 := (hq 131 (by decide) (by decide) (by decide)).trans hE7
          have hE8 := (hq 132 (by decide) (by decide) (by decide)).trans hE8
          have hE9 := (hq 133 (by decide) (by decide) (by decide)).trans hE9
          have hfr : ∀ j, j ≠ 119 → j ≠ 126 → j ≠ 127 → j ≠ 128 → j ≠ 129 → j ≠ 130 → j ≠ 131 → j ≠ 132 → j ≠ 133 → E8 j = E j := fun j h0 h1 h2 h3 h4 h5 h6 h7 h8 => (hq j h0 h1 h2).trans (hfr j h0 h1 h2 h3 h4 h5 h6 h7 h8)
          refine lv_aload_n X.1 X.2.1 dX7_step_135 rfl (lv_at hl 2 rfl) ?_
          refine wm_callVv (k := 0) (As := []) (rest := []) X hP hS hlt0 hE0 rfl (kX7_take l D C b n E8 th sz fa pl (ats + 1) (aa + 1) op (1 <<< (ats + 1)) (1 <<< (ats + 1)) wa wc kl false tx (va_up fo (ats + 1) 0) rF rL rB hlt0 hE0 hlt1 hE1 hlt3 hE3 hlt7 hE7 hlt8 hE8 hlt9 hE9 (by omega) hsz (by omega) htx hsh hrlb) wq5_192 wq5_194 wqP3_7 wq1_8 wq5_195 (by decide) (by rw [hRe]; exact ⟨Nat.le_of_ble_eq_true rfl, Nat.le_of_ble_eq_true rfl⟩) rfl hl.1 rfl (Nat.le_of_ble_eq_true rfl) (Nat.zero_le _) (Nat.zero_le _) dX7_step_136 (fun E9 H locs hw hP hS => ?_)
          obtain ⟨hE0, hE3, hE7, hE8, hE9, hq⟩ := hw
          have hE1 := (hq 120 (by decide) (by decide) (by decide) (by decide) (by decide)).trans hE1
          have hE2 := (hq 126 (by decide) (by decide) (by decide) (by decide) (by decide)).trans hE2
          have hE4 := (hq 128 (by decide) (by decide) (by decide) (by decide) (by decide)).trans hE4
          have hE5 := (hq 129 (by decide) (by decide) (by decide) (by decide) (by decide)).trans hE5
          have hE6 := (hq 130 (by decide) (by decide) (by decide) (by decide) (by decide)).trans hE6
          have hfr : ∀ j, j ≠ 119 → j ≠ 126 → j ≠ 127 → j ≠ 128 → j ≠ 129 → j ≠ 130 → j ≠ 131 → j ≠ 132 → j ≠ 133 → E9 j = E j := fun j h0 h1 h2 h3 h4 h5 h6 h7 h8 => (hq j h0 h2 h6 h7 h8).trans (hfr j h0 h1 h2 h3 h4 h5 h6 h7 h8)
          have hq9 := wm_stA hrel hat9 haa (v := 1 <<< (tx aa - 97)) (Or.inl ⟨of_decide_eq_true hc13, rfl⟩)
          have hokT := wm_okT (a0 := aa) hq9.1 (by omega) (by omega) hq9.2
          refine lv_goto (tgt := 315) X.1 X.2.1 dX7_step_139 (by decide) ?_
          exact wm_vret (post := pX7_step C b E th sz fa pl ats aa op fi la wa wc kl be z tx ml fo pF pL rF rL pB rB) X hr hP hS ⟨fa, pl, (ats + 1), ((wm_sg tx sz (1 <<< (ats + 1)) (1 <<< (ats + 1)) (sz - (aa + 1)) (aa + 1) false (va_up fo (ats + 1) 0)).1), op, ((wm_sg tx sz (1 <<< (ats + 1)) (1 <<< (ats + 1)) (sz - (aa + 1)) (aa + 1) false (va_up fo (ats + 1) 0)).2.1), (1 <<< (ats + 1)), (1 <<< (ats + 1)), (va_up ml (ats + 1) (1 <<< ((tx aa) - 97))), (wm_ld (wm_sg tx sz (1 <<< (ats + 1)) (1 <<< (ats + 1)) (sz - (aa + 1)) (aa + 1) false (va_up fo (ats + 1) 0)).2.2 24 (rL op) (1 <<< (ats + 1))), pB, pF, pL, (va_up rB op (rB op && (wm_sg tx sz (1 <<< (ats + 1)) (1 <<< (ats + 1)) (sz - (aa + 1)) (aa + 1) false (va_up fo (ats + 1) 0)).2.1)), (va_up rF op (if rB op then rF op ||| (1 <<< (ats + 1)) else rF op)), (va_up rL op (if (wm_sg tx sz (1 <<< (ats + 1)) (1 <<< (ats + 1)) (sz - (aa + 1)) (aa + 1) false (va_up fo (ats + 1) 0)).2.1 then rL op ||| (1 <<< (ats + 1)) else (1 <<< (ats + 1)))), hE0, hE2, hE3, hE4, hE5, hE6, hE7, hE8, hE9, hfr, (Or.inl ⟨hf, rfl, hokT⟩), (by omega)⟩ hQ dX7_step_315
        · exfalso; have h9 := of_decide_eq_true hc13; omega
      · exfalso; have h9 := of_decide_eq_true hc13; omega
    · refine lv_aload_n X.1 X.2.1 dX7_step_47 rfl (lv_at hl 2 rfl) ?_
      refine lv_iconst (v := nI 2) X.1 X.2.1 dX7_step_48 (by decide) ?_
      refine lv_aload_n X.1 X.2.1 dX7_step_49 rfl (lv_at hl 2 rfl) ?_
      refine wm_get X hP hlt0 hE0 rfl wm_inX7 13 (by decide) wq5_35 rfl dX7_step_50 ?_
      refine wm_callVv (k := 2) (As := [.int (nI 2), .int (nI aa)]) (rest := []) X hP hS hlt0 hE0 rfl (kfail1 l D C b n E th sz fa pl ats aa op fi la wa wc kl be 2 aa hlt0 hE0 hf) wq5_180 wq5_182 wqP3_4 wq1_8 wq5_183 (by decide) (by rw [hRe]; exact ⟨Nat.le_of_ble_eq_true rfl, Nat.le_of_ble_eq_true rfl⟩) rfl hl.1 rfl (Nat.le_of_ble_eq_true rfl) (Nat.zero_le _) (Nat.zero_le _) dX7_step_53 (fun E10 H locs hw hP hS => ?_)
      obtain ⟨hE0, hq⟩ := hw
      have hE1 := (hq 120 (by decide)).trans hE1
      have hE2 := (hq 126 (by decide)).trans hE2
      have hE3 := (hq 127 (by decide)).trans hE3
      have hE4 := (hq 128 (by decide)).trans hE4
      have hE5 := (hq 129 (by decide)).trans hE5
      have hE6 := (hq 130 (by decide)).trans hE6
      have hE7 := (hq 131 (by decide)).trans hE7
      have hE8 := (hq 132 (by decide)).trans hE8
      have hE9 := (hq 133 (by decide)).trans hE9
      have hfr : ∀ j, j ≠ 119 → j ≠ 126 → j ≠ 127 → j ≠ 128 → j ≠ 129 → j ≠ 130 → j ≠ 131 → j ≠ 132 → j ≠ 133 → E10 j = E j := fun j h0 h1 h2 h3 h4 h5 h6 h7 h8 => (hq j h0).trans (hfr j h0 h1 h2 h3 h4 h5 h6 h7 h8)
      refine lv_goto (tgt := 315) X.1 X.2.1 dX7_step_56 (by decide) ?_
      have hF := wm_stF2 hrel hc44 haa (Or.inl (of_decide_eq_true hc13))
      exact wm_vret (post := pX7_step C b E th sz fa pl ats aa op fi la wa wc kl be z tx ml fo pF pL rF rL pB rB) X hr hP hS ⟨2, aa, ats, aa, op, be, fi, la, ml, fo, pB, pF, pL, rB, rF, rL, hE0, hE2, hE3, hE4, hE5, hE6, hE7, hE8, hE9, hfr, (Or.inr ⟨by decide, by decide, hF.1, hF.2⟩), (by omega)⟩ hQ dX7_step_315
  · refine lv_iload_n X.1 X.2.1 dX7_step_16 rfl (lv_at hl 0 rfl) ?_
    refine lv_bipush (v := nI 46) X.1 X.2.1 dX7_step_17 (by decide) ?_
    refine wm_icmp_eq (x := (tx aa)) (y := 46) (tgt := 28) X (by omega) (by decide) dX7_step_19 (by decide) (fun hc19 => ?_) (fun hc19 => ?_)
    · refine lv_iconst (v := nI 1) X.1 X.2.1 dX7_step_28 (by decide) ?_
      refine lv_goto (tgt := 33) X.1 X.2.1 dX7_step_29 (by decide) ?_
      refine lv_istore_n (lv' := [(2, .int (nI 1)), (1, .int (nI (tx aa))), (0, .ref (b + 119))]) X.1 X.2.1 dX7_step_33 rfl hl (by decide) rfl (fun ls hl => ?_)
      refine lv_iload_n X.1 X.2.1 dX7_step_34 rfl (lv_at hl 0 rfl) ?_
      refine lv_if_eq (tgt := 59) X.1 X.2.1 dX7_step_35 (by decide) (fun h => by exfalso; revert h; decide) (fun _ => ?_)
      refine lv_aload_n X.1 X.2.1 dX7_step_38 rfl (lv_at hl 2 rfl) ?_
      refine wm_get X hP hlt0 hE0 rfl wm_inX7 12 (by decide) wq5_34 rfl dX7_step_39 ?_
      refine lv_bipush (v := nI 23) X.1 X.2.1 dX7_step_42 (by decide) ?_
      refine wm_icmp_ne (x := ats) (y := 23) (tgt := 59) X (by omega) (by decide) dX7_step_44 (by decide) (fun hc44 => ?_) (fun hc44 => ?_)
      · have hat9 : ats < 23 := by omega
        have hsh : 1 <<< (ats + 1) < 2 ^ 31 := wm_s31b (by omega)
        have hrlb : rL op < 2 ^ 31 := by have := hrlv op (Nat.le_refl _); omega
        refine lv_iload_n X.1 X.2.1 dX7_step_59 rfl (lv_at hl 1 rfl) ?_
        refine lv_bipush (v := nI 91) X.1 X.2.1 dX7_step_60 (by decide) ?_
        refine wm_icmp_ne (x := (tx aa)) (y := 91) (tgt := 99) X (by omega) (by decide) dX7_step_62 (by decide) (fun hc62 => ?_) (fun hc62 => ?_)
        · refine lv_iload_n X.1 X.2.1 dX7_step_99 rfl (lv_at hl 0 rfl) ?_
          refine lv_if_eq (tgt := 142) X.1 X.2.1 dX7_step_100 (by decide) (fun h => by exfalso; revert h; decide) (fun _ => ?_)
          refine lv_aload_n X.1 X.2.1 dX7_step_103 rfl (lv_at hl 2 rfl) ?_
          refine lv_dup X.1 X.2.1 dX7_step_104 rfl ?_
          refine wm_get X hP hlt0 hE0 rfl wm_inX7 13 (by decide) wq5_35 rfl dX7_step_105 ?_
          refine lv_iconst (v := nI 1) X.1 X.2.1 dX7_step_108 (by decide) ?_
          refine wm_iadd (x := aa) (y := 1) X dX7_step_109 ?_
          refine wm_put (v := .int (nI (aa + 1))) X hP hS hlt0 hE0 rfl wm_inX7 tyX7 tyX7_ok nmX7 13 (by decide) wq5_35 rfl rfl rfl (fs1 := [.int (nI th), .ref (b + 120), .int (nI sz), .int (nI fa), .int (nI pl), .ref (b + 121), .ref (b + 122), .ref (b + 123), .ref (b + 124), .ref (b + 125), .ref (b + 126), .ref (b + 127), .int (nI ats), .int (nI (aa + 1)), .ref (b + 128), .ref (b + 129), .ref (b + 130), .ref (b + 131), .ref (b + 132), .ref (b + 133), .int (nI op), .int (nI be.toNat), .int (nI fi), .int (nI la), .ref (b + 134), .ref (b + 135), .ref (b + 136), .int (nI wa), .ref (b + 137), .ref (b + 138), .ref (b + 139), .int (nI wc), .ref (b + 140), .int (nI kl), .ref (b + 141), .ref (b + 142), .ref (b + 143), .ref (b + 144), .ref (b + 145)]) rfl (Nat.le_of_ble_eq_true rfl) dX7_step_110 (fun H locs E14 hP hS hE0 hq => ?_)
          have hE1 := (hq 120 (by decide)).trans hE1
          have hE2 := (hq 126 (by decide)).trans hE2
          have hE3 := (hq 127 (by decide)).trans hE3
          have hE4 := (hq 128 (by decide)).trans hE4
          have hE5 := (hq 129 (by decide)).trans hE5
          have hE6 := (hq 130 (by decide)).trans hE6
          have hE7 := (hq 131 (by decide)).trans hE7
          have hE8 := (hq 132 (by decide)).trans hE8
          have hE9 := (hq 133 (by decide)).trans hE9
          have hfr : ∀ j, j ≠ 119 → j ≠ 126 → j ≠ 127 → j ≠ 128 → j ≠ 129 → j ≠ 130 → j ≠ 131 → j ≠ 132 → j ≠ 133 → E14 j = E j := fun j h0 h1 h2 h3 h4 h5 h6 h7 h8 => (hq j h0).trans (hfr j h0 h1 h2 h3 h4 h5 h6 h7 h8)
          refine lv_aload_n X.1 X.2.1 dX7_step_113 rfl (lv_at hl 2 rfl) ?_
          refine lv_iload_n X.1 X.2.1 dX7_step_114 rfl (lv_at hl 1 rfl) ?_
          refine lv_bipush (v := nI 46) X.1 X.2.1 dX7_step_115 (by decide) ?_
          refine wm_icmp_ne (x := (tx aa)) (y := 46) (tgt := 126) X (by omega) (by decide) dX7_step_117 (by decide) (fun hc117 => ?_) (fun hc117 => ?_)
          · exfalso; omega
          · refine lv_sipush (v := nI 255) X.1 X.2.1 dX7_step_120 (by decide) ?_
            refine lv_goto (tgt := 132) X.1 X.2.1 dX7_step_123 (by decide) ?_
            refine wm_callVv (k := 1) (As := [.int (nI 255)]) (rest := []) X hP hS hlt0 hE0 rfl (kX7_atom l D C b n E14 th sz fa pl ats (aa + 1) op fi la wa wc kl be 255 ml fo hlt0 hE0 hlt2 hE2 hlt3 hE3 (by omega)) wq5_188 wq5_190 wqP3_6 wq1_8 wq5_191 (by decide) (by rw [hRe]; exact ⟨Nat.le_of_ble_eq_true rfl, Nat.le_of_ble_eq_true rfl⟩) rfl hl.1 rfl (Nat.le_of_ble_eq_true rfl) (Nat.zero_le _) (Nat.zero_le _) dX7_step_132 (fun E16 H locs hw hP hS => ?_)
            obtain ⟨hE0, hE2, hE3, hq⟩ := hw
            have hE1 := (hq 120 (by decide) (by decide) (by decide)).trans hE1
            have hE4 := (hq 128 (by decide) (by decide) (by decide)).trans hE4
            have hE5 := (hq 129 (by decide) (by decide) (by decide)).trans hE5
            have hE6 := (hq 130 (by decide) (by decide) (by decide)).trans hE6
            have hE7 := (hq 131 (by decide) (by decide) (by decide)).trans hE7
            have hE8 := (hq 132 (by decide) (by decide) (by decide)).trans hE8
            have hE9 := (hq 133 (by decide) (by decide) (by decide)).trans hE9
            have hfr : ∀ j, j ≠ 119 → j ≠ 126 → j ≠ 127 → j ≠ 128 → j ≠ 129 → j ≠ 130 → j ≠ 131 → j ≠ 132 → j ≠ 133 → E16 j = E j := fun j h0 h1 h2 h3 h4 h5 h6 h7 h8 => (hq j h0 h1 h2).trans (hfr j h0 h1 h2 h3 h4 h5 h6 h7 h8)
            refine lv_aload_n X.1 X.2.1 dX7_step_135 rfl (lv_at hl 2 rfl) ?_
            refine wm_callVv (k := 0) (As := []) (rest := []) X hP hS hlt0 hE0 rfl (kX7_take l D C b n E16 th sz fa pl (ats + 1) (aa + 1) op (1 <<< (ats + 1)) (1 <<< (ats + 1)) wa wc kl false tx (va_up fo (ats + 1) 0) rF rL rB hlt0 hE0 hlt1 hE1 hlt3 hE3 hlt7 hE7 hlt8 hE8 hlt9 hE9 (by omega) hsz (by omega) htx hsh hrlb) wq5_192 wq5_194 wqP3_7 wq1_8 wq5_195 (by decide) (by rw [hRe]; exact ⟨Nat.le_of_ble_eq_true rfl, Nat.le_of_ble_eq_true rfl⟩) rfl hl.1 rfl (Nat.le_of_ble_eq_true rfl) (Nat.zero_le _) (Nat.zero_le _) dX7_step_136 (fun E17 H locs hw hP hS => ?_)
            obtain ⟨hE0, hE3, hE7, hE8, hE9, hq⟩ := hw
            have hE1 := (hq 120 (by decide) (by decide) (by decide) (by decide) (by decide)).trans hE1
            have hE2 := (hq 126 (by decide) (by decide) (by decide) (by decide) (by decide)).trans hE2
            have hE4 := (hq 128 (by decide) (by decide) (by decide) (by decide) (by decide)).trans hE4
            have hE5 := (hq 129 (by decide) (by decide) (by decide) (by decide) (by decide)).trans hE5
            have hE6 := (hq 130 (by decide) (by decide) (by decide) (by decide) (by decide)).trans hE6
            have hfr : ∀ j, j ≠ 119 → j ≠ 126 → j ≠ 127 → j ≠ 128 → j ≠ 129 → j ≠ 130 → j ≠ 131 → j ≠ 132 → j ≠ 133 → E17 j = E j := fun j h0 h1 h2 h3 h4 h5 h6 h7 h8 => (hq j h0 h2 h6 h7 h8).trans (hfr j h0 h1 h2 h3 h4 h5 h6 h7 h8)
            have hq9 := wm_stA hrel hat9 haa (v := 255) (Or.inr ⟨by omega, rfl⟩)
            have hokT := wm_okT (a0 := aa) hq9.1 (by omega) (by omega) hq9.2
            refine lv_goto (tgt := 315) X.1 X.2.1 dX7_step_139 (by decide) ?_
            exact wm_vret (post := pX7_step C b E th sz fa pl ats aa op fi la wa wc kl be z tx ml fo pF pL rF rL pB rB) X hr hP hS ⟨fa, pl, (ats + 1), ((wm_sg tx sz (1 <<< (ats + 1)) (1 <<< (ats + 1)) (sz - (aa + 1)) (aa + 1) false (va_up fo (ats + 1) 0)).1), op, ((wm_sg tx sz (1 <<< (ats + 1)) (1 <<< (ats + 1)) (sz - (aa + 1)) (aa + 1) false (va_up fo (ats + 1) 0)).2.1), (1 <<< (ats + 1)), (1 <<< (ats + 1)), (va_up ml (ats + 1) 255), (wm_ld (wm_sg tx sz (1 <<< (ats + 1)) (1 <<< (ats + 1)) (sz - (aa + 1)) (aa + 1) false (va_up fo (ats + 1) 0)).2.2 24 (rL op) (1 <<< (ats + 1))), pB, pF, pL, (va_up rB op (rB op && (wm_sg tx sz (1 <<< (ats + 1)) (1 <<< (ats + 1)) (sz - (aa + 1)) (aa + 1) false (va_up fo (ats + 1) 0)).2.1)), (va_up rF op (if rB op then rF op ||| (1 <<< (ats + 1)) else rF op)), (va_up rL op (if (wm_sg tx sz (1 <<< (ats + 1)) (1 <<< (ats + 1)) (sz - (aa + 1)) (aa + 1) false (va_up fo (ats + 1) 0)).2.1 then rL op ||| (1 <<< (ats + 1)) else (1 <<< (ats + 1)))), hE0, hE2, hE3, hE4, hE5, hE6, hE7, hE8, hE9, hfr, (Or.inl ⟨hf, rfl, hokT⟩), (by omega)⟩ hQ dX7_step_315
        · exfalso; omega
      · refine lv_aload_n X.1 X.2.1 dX7_step_47 rfl (lv_at hl 2 rfl) ?_
        refine lv_iconst (v := nI 2) X.1 X.2.1 dX7_step_48 (by decide) ?_
        refine lv_aload_n X.1 X.2.1 dX7_step_49 rfl (lv_at hl 2 rfl) ?_
        refine wm_get X hP hlt0 hE0 rfl wm_inX7 13 (by decide) wq5_35 rfl dX7_step_50 ?_
        refine wm_callVv (k := 2) (As := [.int (nI 2), .int (nI aa)]) (rest := []) X hP hS hlt0 hE0 rfl (kfail1 l D C b n E th sz fa pl ats aa op fi la wa wc kl be 2 aa hlt0 hE0 hf) wq5_180 wq5_182 wqP3_4 wq1_8 wq5_183 (by decide) (by rw [hRe]; exact ⟨Nat.le_of_ble_eq_true rfl, Nat.le_of_ble_eq_true rfl⟩) rfl hl.1 rfl (Nat.le_of_ble_eq_true rfl) (Nat.zero_le _) (Nat.zero_le _) dX7_step_53 (fun E18 H locs hw hP hS => ?_)
        obtain ⟨hE0, hq⟩ := hw
        have hE1 := (hq 120 (by decide)).trans hE1
        have hE2 := (hq 126 (by decide)).trans hE2
        have hE3 := (hq 127 (by decide)).trans hE3
        have hE4 := (hq 128 (by decide)).trans hE4
        have hE5 := (hq 129 (by decide)).trans hE5
        have hE6 := (hq 130 (by decide)).trans hE6
        have hE7 := (hq 131 (by decide)).trans hE7
        have hE8 := (hq 132 (by decide)).trans hE8
        have hE9 := (hq 133 (by decide)).trans hE9
        have hfr : ∀ j, j ≠ 119 → j ≠ 126 → j ≠ 127 → j ≠ 128 → j ≠ 129 → j ≠ 130 → j ≠ 131 → j ≠ 132 → j ≠ 133 → E18 j = E j := fun j h0 h1 h2 h3 h4 h5 h6 h7 h8 => (hq j h0).trans (hfr j h0 h1 h2 h3 h4 h5 h6 h7 h8)
        refine lv_goto (tgt := 315) X.1 X.2.1 dX7_step_56 (by decide) ?_
        have hF := wm_stF2 hrel hc44 haa (Or.inr (Or.inl hc19))
        exact wm_vret (post := pX7_step C b E th sz fa pl ats aa op fi la wa wc kl be z tx ml fo pF pL rF rL pB rB) X hr hP hS ⟨2, aa, ats, aa, op, be, fi, la, ml, fo, pB, pF, pL, rB, rF, rL, hE0, hE2, hE3, hE4, hE5, hE6, hE7, hE8, hE9, hfr, (Or.inr ⟨by decide, by decide, hF.1, hF.2⟩), (by omega)⟩ hQ dX7_step_315
    · refine lv_iload_n X.1 X.2.1 dX7_step_22 rfl (lv_at hl 0 rfl) ?_
      refine lv_bipush (v := nI 91) X.1 X.2.1 dX7_step_23 (by decide) ?_
      refine wm_icmp_ne (x := (tx aa)) (y := 91) (tgt := 32) X (by omega) (by decide) dX7_step_25 (by decide) (fun hc25 => ?_) (fun hc25 => ?_)
      · refine lv_iconst (v := nI 0) X.1 X.2.1 dX7_step_32 (by decide) ?_
        refine lv_istore_n (lv' := [(2, .int (nI 0)), (1, .int (nI (tx aa))), (0, .ref (b + 119))]) X.1 X.2.1 dX7_step_33 rfl hl (by decide) rfl (fun ls hl => ?_)
        refine lv_iload_n X.1 X.2.1 dX7_step_34 rfl (lv_at hl 0 rfl) ?_
        refine lv_if_eq (tgt := 59) X.1 X.2.1 dX7_step_35 (by decide) (fun _ => ?_) (fun h => by exfalso; revert h; decide)
        refine lv_iload_n X.1 X.2.1 dX7_step_59 rfl (lv_at hl 1 rfl) ?_
        refine lv_bipush (v := nI 91) X.1 X.2.1 dX7_step_60 (by decide) ?_
        refine wm_icmp_ne (x := (tx aa)) (y := 91) (tgt := 99) X (by omega) (by decide) dX7_step_62 (by decide) (fun hc62 => ?_) (fun hc62 => ?_)
        · refine lv_iload_n X.1 X.2.1 dX7_step_99 rfl (lv_at hl 0 rfl) ?_
          refine lv_if_eq (tgt := 142) X.1 X.2.1 dX7_step_100 (by decide) (fun _ => ?_) (fun h => by exfalso; revert h; decide)
          refine lv_iload_n X.1 X.2.1 dX7_step_142 rfl (lv_at hl 1 rfl) ?_
          refine lv_bipush (v := nI 40) X.1 X.2.1 dX7_step_143 (by decide) ?_
          refine wm_icmp_ne (x := (tx aa)) (y := 40) (tgt := 196) X (by omega) (by decide) dX7_step_145 (by decide) (fun hc145 => ?_) (fun hc145 => ?_)
          · refine lv_iload_n X.1 X.2.1 dX7_step_196 rfl (lv_at hl 1 rfl) ?_
            refine lv_bipush (v := nI 41) X.1 X.2.1 dX7_step_197 (by decide) ?_
            refine wm_icmp_ne (x := (tx aa)) (y := 41) (tgt := 279) X (by omega) (by decide) dX7_step_199 (by decide) (fun hc199 => ?_) (fun hc199 => ?_)
            · refine lv_iload_n X.1 X.2.1 dX7_step_279 rfl (lv_at hl 1 rfl) ?_
              refine lv_bipush (v := nI 124) X.1 X.2.1 dX7_step_280 (by decide) ?_
              refine wm_icmp_ne (x := (tx aa)) (y := 124) (tgt := 306) X (by omega) (by decide) dX7_step_282 (by decide) (fun hc282 => ?_) (fun hc282 => ?_)
              · refine lv_aload_n X.1 X.2.1 dX7_step_306 rfl (lv_at hl 2 rfl) ?_
                refine lv_iconst (v := nI 1) X.1 X.2.1 dX7_step_307 (by decide) ?_
                refine lv_aload_n X.1 X.2.1 dX7_step_308 rfl (lv_at hl 2 rfl) ?_
                refine wm_get X hP hlt0 hE0 rfl wm_inX7 13 (by decide) wq5_35 rfl dX7_step_309 ?_
                refine wm_callVv (k := 2) (As := [.int (nI 1), .int (nI aa)]) (rest := []) X hP hS hlt0 hE0 rfl (kfail1 l D C b n E th sz fa pl ats aa op fi la wa wc kl be 1 aa hlt0 hE0 hf) wq5_180 wq5_182 wqP3_4 wq1_8 wq5_183 (by decide) (by rw [hRe]; exact ⟨Nat.le_of_ble_eq_true rfl, Nat.le_of_ble_eq_true rfl⟩) rfl hl.1 rfl (Nat.le_of_ble_eq_true rfl) (Nat.zero_le _) (Nat.zero_le _) dX7_step_312 (fun E24 H locs hw hP hS => ?_)
                obtain ⟨hE0, hq⟩ := hw
                have hE1 := (hq 120 (by decide)).trans hE1
                have hE2 := (hq 126 (by decide)).trans hE2
                have hE3 := (hq 127 (by decide)).trans hE3
                have hE4 := (hq 128 (by decide)).trans hE4
                have hE5 := (hq 129 (by decide)).trans hE5
                have hE6 := (hq 130 (by decide)).trans hE6
                have hE7 := (hq 131 (by decide)).trans hE7
                have hE8 := (hq 132 (by decide)).trans hE8
                have hE9 := (hq 133 (by decide)).trans hE9
                have hfr : ∀ j, j ≠ 119 → j ≠ 126 → j ≠ 127 → j ≠ 128 → j ≠ 129 → j ≠ 130 → j ≠ 131 → j ≠ 132 → j ≠ 133 → E24 j = E j := fun j h0 h1 h2 h3 h4 h5 h6 h7 h8 => (hq j h0).trans (hfr j h0 h1 h2 h3 h4 h5 h6 h7 h8)
                have hF := wm_stF hrel haa (of_decide_eq_false hc13) hc19 hc25 hc145 hc282 (fun q => absurd q hc199) hnx
                exact wm_vret (post := pX7_step C b E th sz fa pl ats aa op fi la wa wc kl be z tx ml fo pF pL rF rL pB rB) X hr hP hS ⟨1, aa, ats, aa, op, be, fi, la, ml, fo, pB, pF, pL, rB, rF, rL, hE0, hE2, hE3, hE4, hE5, hE6, hE7, hE8, hE9, hfr, (Or.inr ⟨by decide, by decide, hF.1, hF.2⟩), (by omega)⟩ hQ dX7_step_315
              · refine lv_aload_n X.1 X.2.1 dX7_step_285 rfl (lv_at hl 2 rfl) ?_
                refine wm_callVv (k := 0) (As := []) (rest := []) X hP hS hlt0 hE0 rfl (kX7_endRow l D C b n E th sz fa pl ats aa op fi la wa wc kl be pB rB pF pL rF rL hlt0 hE0 hlt4 hE4 hlt5 hE5 hlt6 hE6 hlt7 hE7 hlt8 hE8 hlt9 hE9 (by omega)) wq5_200 wq5_202 wqP3_9 wq1_8 wq5_203 (by decide) (by rw [hRe]; exact ⟨Nat.le_of_ble_eq_true rfl, Nat.le_of_ble_eq_true rfl⟩) rfl hl.1 rfl (Nat.le_of_ble_eq_true rfl) (Nat.zero_le _) (Nat.zero_le _) dX7_step_286 (fun E25 H locs hw hP hS => ?_)
                obtain ⟨hE4, hE5, hE6, hq⟩ := hw
                have hE0 := (hq 119 (by decide) (by decide) (by decide)).trans hE0
                have hE1 := (hq 120 (by decide) (by decide) (by decide)).trans hE1
                have hE2 := (hq 126 (by decide) (by decide) (by decide)).trans hE2
                have hE3 := (hq 127 (by decide) (by decide) (by decide)).trans hE3
                have hE7 := (hq 131 (by decide) (by decide) (by decide)).trans hE7
                have hE8 := (hq 132 (by decide) (by decide) (by decide)).trans hE8
                have hE9 := (hq 133 (by decide) (by decide) (by decide)).trans hE9
                have hfr : ∀ j, j ≠ 119 → j ≠ 126 → j ≠ 127 → j ≠ 128 → j ≠ 129 → j ≠ 130 → j ≠ 131 → j ≠ 132 → j ≠ 133 → E25 j = E j := fun j h0 h1 h2 h3 h4 h5 h6 h7 h8 => (hq j h3 h4 h5).trans (hfr j h0 h1 h2 h3 h4 h5 h6 h7 h8)
                refine lv_aload_n X.1 X.2.1 dX7_step_289 rfl (lv_at hl 2 rfl) ?_
                refine wm_callVv (k := 0) (As := []) (rest := []) X hP hS hlt0 hE0 rfl (kX7_beginRow l D C b n E25 th sz fa pl ats aa op fi la wa wc kl be rB rF rL hlt0 hE0 hlt7 hE7 hlt8 hE8 hlt9 hE9 (by omega)) wq5_165 wq5_167 wqP3_1 wq1_8 wq5_168 (by decide) (by rw [hRe]; exact ⟨Nat.le_of_ble_eq_true rfl, Nat.le_of_ble_eq_true rfl⟩) rfl hl.1 rfl (Nat.le_of_ble_eq_true rfl) (Nat.zero_le _) (Nat.zero_le _) dX7_step_290 (fun E26 H locs hw hP hS => ?_)
                obtain ⟨hE7, hE8, hE9, hq⟩ := hw
                have hE0 := (hq 119 (by decide) (by decide) (by decide)).trans hE0
                have hE1 := (hq 120 (by decide) (by decide) (by decide)).trans hE1
                have hE2 := (hq 126 (by decide) (by decide) (by decide)).trans hE2
                have hE3 := (hq 127 (by decide) (by decide) (by decide)).trans hE3
                have hE4 := (hq 128 (by decide) (by decide) (by decide)).trans hE4
                have hE5 := (hq 129 (by decide) (by decide) (by decide)).trans hE5
                have hE6 := (hq 130 (by decide) (by decide) (by decide)).trans hE6
                have hfr : ∀ j, j ≠ 119 → j ≠ 126 → j ≠ 127 → j ≠ 128 → j ≠ 129 → j ≠ 130 → j ≠ 131 → j ≠ 132 → j ≠ 133 → E26 j = E j := fun j h0 h1 h2 h3 h4 h5 h6 h7 h8 => (hq j h6 h7 h8).trans (hfr j h0 h1 h2 h3 h4 h5 h6 h7 h8)
                refine lv_aload_n X.1 X.2.1 dX7_step_293 rfl (lv_at hl 2 rfl) ?_
                refine lv_dup X.1 X.2.1 dX7_step_294 rfl ?_
                refine wm_get X hP hlt0 hE0 rfl wm_inX7 13 (by decide) wq5_35 rfl dX7_step_295 ?_
                refine lv_iconst (v := nI 1) X.1 X.2.1 dX7_step_298 (by decide) ?_
                refine wm_iadd (x := aa) (y := 1) X dX7_step_299 ?_
                refine wm_put (v := .int (nI (aa + 1))) X hP hS hlt0 hE0 rfl wm_inX7 tyX7 tyX7_ok nmX7 13 (by decide) wq5_35 rfl rfl rfl (fs1 := [.int (nI th), .ref (b + 120), .int (nI sz), .int (nI fa), .int (nI pl), .ref (b + 121), .ref (b + 122), .ref (b + 123), .ref (b + 124), .ref (b + 125), .ref (b + 126), .ref (b + 127), .int (nI ats), .int (nI (aa + 1)), .ref (b + 128), .ref (b + 129), .ref (b + 130), .ref (b + 131), .ref (b + 132), .ref (b + 133), .int (nI op), .int (nI be.toNat), .int (nI fi), .int (nI la), .ref (b + 134), .ref (b + 135), .ref (b + 136), .int (nI wa), .ref (b + 137), .ref (b + 138), .ref (b + 139), .int (nI wc), .ref (b + 140), .int (nI kl), .ref (b + 141), .ref (b + 142), .ref (b + 143), .ref (b + 144), .ref (b + 145)]) rfl (Nat.le_of_ble_eq_true rfl) dX7_step_300 (fun H locs E27 hP hS hE0 hq => ?_)
                have hE1 := (hq 120 (by decide)).trans hE1
                have hE2 := (hq 126 (by decide)).trans hE2
                have hE3 := (hq 127 (by decide)).trans hE3
                have hE4 := (hq 128 (by decide)).trans hE4
                have hE5 := (hq 129 (by decide)).trans hE5
                have hE6 := (hq 130 (by decide)).trans hE6
                have hE7 := (hq 131 (by decide)).trans hE7
                have hE8 := (hq 132 (by decide)).trans hE8
                have hE9 := (hq 133 (by decide)).trans hE9
                have hfr : ∀ j, j ≠ 119 → j ≠ 126 → j ≠ 127 → j ≠ 128 → j ≠ 129 → j ≠ 130 → j ≠ 131 → j ≠ 132 → j ≠ 133 → E27 j = E j := fun j h0 h1 h2 h3 h4 h5 h6 h7 h8 => (hq j h0).trans (hfr j h0 h1 h2 h3 h4 h5 h6 h7 h8)
                refine lv_goto (tgt := 315) X.1 X.2.1 dX7_step_303 (by decide) ?_
                exact wm_vret (post := pX7_step C b E th sz fa pl ats aa op fi la wa wc kl be z tx ml fo pF pL rF rL pB rB) X hr hP hS ⟨fa, pl, ats, (aa + 1), op, be, fi, la, ml, fo, (va_up pB op (pB op || rB op)), (va_up pF op (pF op ||| rF op)), (va_up pL op (pL op ||| rL op)), (va_up rB op true), (va_up rF op 0), (va_up rL op 0), hE0, hE2, hE3, hE4, hE5, hE6, hE7, hE8, hE9, hfr, (Or.inl ⟨hf, rfl, wm_stP hrel haa hc282⟩), (by omega)⟩ hQ dX7_step_315
            · refine lv_aload_n X.1 X.2.1 dX7_step_202 rfl (lv_at hl 2 rfl) ?_
              refine wm_get X hP hlt0 hE0 rfl wm_inX7 20 (by decide) wq5_42 rfl dX7_step_203 ?_
              refine wm_if_le (x := op) (tgt := 279) X (by omega) dX7_step_206 (by decide) (fun hc206 => ?_) (fun hc206 => ?_)
              · refine lv_iload_n X.1 X.2.1 dX7_step_279 rfl (lv_at hl 1 rfl) ?_
                refine lv_bipush (v := nI 124) X.1 X.2.1 dX7_step_280 (by decide) ?_
                refine wm_icmp_ne (x := (tx aa)) (y := 124) (tgt := 306) X (by omega) (by decide) dX7_step_282 (by decide) (fun hc282 => ?_) (fun hc282 => ?_)
                · refine lv_aload_n X.1 X.2.1 dX7_step_306 rfl (lv_at hl 2 rfl) ?_
                  refine lv_iconst (v := nI 1) X.1 X.2.1 dX7_step_307 (by decide) ?_
                  refine lv_aload_n X.1 X.2.1 dX7_step_308 rfl (lv_at hl 2 rfl) ?_
                  refine wm_get X hP hlt0 hE0 rfl wm_inX7 13 (by decide) wq5_35 rfl dX7_step_309 ?_
                  refine wm_callVv (k := 2) (As := [.int (nI 1), .int (nI aa)]) (rest := []) X hP hS hlt0 hE0 rfl (kfail1 l D C b n E th sz fa pl ats aa op fi la wa wc kl be 1 aa hlt0 hE0 hf) wq5_180 wq5_182 wqP3_4 wq1_8 wq5_183 (by decide) (by rw [hRe]; exact ⟨Nat.le_of_ble_eq_true rfl, Nat.le_of_ble_eq_true rfl⟩) rfl hl.1 rfl (Nat.le_of_ble_eq_true rfl) (Nat.zero_le _) (Nat.zero_le _) dX7_step_312 (fun E30 H locs hw hP hS => ?_)
                  obtain ⟨hE0, hq⟩ := hw
                  have hE1 := (hq 120 (by decide)).trans hE1
                  have hE2 := (hq 126 (by decide)).trans hE2
                  have hE3 := (hq 127 (by decide)).trans hE3
                  have hE4 := (hq 128 (by decide)).trans hE4
                  have hE5 := (hq 129 (by decide)).trans hE5
                  have hE6 := (hq 130 (by decide)).trans hE6
                  have hE7 := (hq 131 (by decide)).trans hE7
                  have hE8 := (hq 132 (by decide)).trans hE8
                  have hE9 := (hq 133 (by decide)).trans hE9
                  have hfr : ∀ j, j ≠ 119 → j ≠ 126 → j ≠ 127 → j ≠ 128 → j ≠ 129 → j ≠ 130 → j ≠ 131 → j ≠ 132 → j ≠ 133 → E30 j = E j := fun j h0 h1 h2 h3 h4 h5 h6 h7 h8 => (hq j h0).trans (hfr j h0 h1 h2 h3 h4 h5 h6 h7 h8)
                  have hF := wm_stF hrel haa (of_decide_eq_false hc13) hc19 hc25 hc145 hc282 (fun _ => hc206) hnx
                  exact wm_vret (post := pX7_step C b E th sz fa pl ats aa op fi la wa wc kl be z tx ml fo pF pL rF rL pB rB) X hr hP hS ⟨1, aa, ats, aa, op, be, fi, la, ml, fo, pB, pF, pL, rB, rF, rL, hE0, hE2, hE3, hE4, hE5, hE6, hE7, hE8, hE9, hfr, (Or.inr ⟨by decide, by decide, hF.1, hF.2⟩), (by omega)⟩ hQ dX7_step_315
                · exfalso; omega
              · have hop1 : op - 1 + 1 = op := by omega
                refine lv_aload_n X.1 X.2.1 dX7_step_209 rfl (lv_at hl 2 rfl) ?_
                refine wm_callVv (k := 0) (As := []) (rest := []) X hP hS hlt0 hE0 rfl (kX7_endRow l D C b n E th sz fa pl ats aa op fi la wa wc kl be pB rB pF pL rF rL hlt0 hE0 hlt4 hE4 hlt5 hE5 hlt6 hE6 hlt7 hE7 hlt8 hE8 hlt9 hE9 (by omega)) wq5_200 wq5_202 wqP3_9 wq1_8 wq5_203 (by decide) (by rw [hRe]; exact ⟨Nat.le_of_ble_eq_true rfl, Nat.le_of_ble_eq_true rfl⟩) rfl hl.1 rfl (Nat.le_of_ble_eq_true rfl) (Nat.zero_le _) (Nat.zero_le _) dX7_step_210 (fun E31 H locs hw hP hS => ?_)
                obtain ⟨hE4, hE5, hE6, hq⟩ := hw
                have hE0 := (hq 119 (by decide) (by decide) (by decide)).trans hE0
                have hE1 := (hq 120 (by decide) (by decide) (by decide)).trans hE1
                have hE2 := (hq 126 (by decide) (by decide) (by decide)).trans hE2
                have hE3 := (hq 127 (by decide) (by decide) (by decide)).trans hE3
                have hE7 := (hq 131 (by decide) (by decide) (by decide)).trans hE7
                have hE8 := (hq 132 (by decide) (by decide) (by decide)).trans hE8
                have hE9 := (hq 133 (by decide) (by decide) (by decide)).trans hE9
                have hfr : ∀ j, j ≠ 119 → j ≠ 126 → j ≠ 127 → j ≠ 128 → j ≠ 129 → j ≠ 130 → j ≠ 131 → j ≠ 132 → j ≠ 133 → E31 j = E j := fun j h0 h1 h2 h3 h4 h5 h6 h7 h8 => (hq j h3 h4 h5).trans (hfr j h0 h1 h2 h3 h4 h5 h6 h7 h8)
                refine lv_aload_n X.1 X.2.1 dX7_step_213 rfl (lv_at hl 2 rfl) ?_
                refine lv_aload_n X.1 X.2.1 dX7_step_214 rfl (lv_at hl 2 rfl) ?_
                refine wm_get X hP hlt0 hE0 rfl wm_inX7 14 (by decide) wq5_36 rfl dX7_step_215 ?_
                refine lv_aload_n X.1 X.2.1 dX7_step_218 rfl (lv_at hl 2 rfl) ?_
                refine wm_get X hP hlt0 hE0 rfl wm_inX7 20 (by decide) wq5_42 rfl dX7_step_219 ?_
                refine wm_zald (i := op) X hP hlt4 hE4 (by omega) (by decide) dX7_step_222 ?_
                rw [show (va_up pB op (pB op || rB op)) op = (pB op || rB op) from va_up_self _ _ _]
                refine wm_put (v := .int (nI (pB op || rB op).toNat)) X hP hS hlt0 hE0 rfl wm_inX7 tyX7 tyX7_ok nmX7 21 (by decide) wq5_43 rfl (wm_nz (pB op || rB op)) (wm_fz (pB op || rB op)) (fs1 := [.int (nI th), .ref (b + 120), .int (nI sz), .int (nI fa), .int (nI pl), .ref (b + 121), .ref (b + 122), .ref (b + 123), .ref (b + 124), .ref (b + 125), .ref (b + 126), .ref (b + 127), .int (nI ats), .int (nI aa), .ref (b + 128), .ref (b + 129), .ref (b + 130), .ref (b + 131), .ref (b + 132), .ref (b + 133), .int (nI op), .int (nI (pB op || rB op).toNat), .int (nI fi), .int (nI la), .ref (b + 134), .ref (b + 135), .ref (b + 136), .int (nI wa), .ref (b + 137), .ref (b + 138), .ref (b + 139), .int (nI wc), .ref (b + 140), .int (nI kl), .ref (b + 141), .ref (b + 142), .ref (b + 143), .ref (b + 144), .ref (b + 145)]) rfl (Nat.le_of_ble_eq_true rfl) dX7_step_223 (fun H locs E32 hP hS hE0 hq => ?_)
                have hE1 := (hq 120 (by decide)).trans hE1
                have hE2 := (hq 126 (by decide)).trans hE2
                have hE3 := (hq 127 (by decide)).trans hE3
                have hE4 := (hq 128 (by decide)).trans hE4
                have hE5 := (hq 129 (by decide)).trans hE5
                have hE6 := (hq 130 (by decide)).trans hE6
                have hE7 := (hq 131 (by decide)).trans hE7
                have hE8 := (hq 132 (by decide)).trans hE8
                have hE9 := (hq 133 (by decide)).trans hE9
                have hfr : ∀ j, j ≠ 119 → j ≠ 126 → j ≠ 127 → j ≠ 128 → j ≠ 129 → j ≠ 130 → j ≠ 131 → j ≠ 132 → j ≠ 133 → E32 j = E j := fun j h0 h1 h2 h3 h4 h5 h6 h7 h8 => (hq j h0).trans (hfr j h0 h1 h2 h3 h4 h5 h6 h7 h8)
                refine lv_aload_n X.1 X.2.1 dX7_step_226 rfl (lv_at hl 2 rfl) ?_
                refine lv_aload_n X.1 X.2.1 dX7_step_227 rfl (lv_at hl 2 rfl) ?_
                refine wm_get X hP hlt0 hE0 rfl wm_inX7 15 (by decide) wq5_37 rfl dX7_step_228 ?_
                refine lv_aload_n X.1 X.2.1 dX7_step_231 rfl (lv_at hl 2 rfl) ?_
                refine wm_get X hP hlt0 hE0 rfl wm_inX7 20 (by decide) wq5_42 rfl dX7_step_232 ?_
                refine wm_iald (i := op) X hP hlt5 hE5 (by omega) (by decide) dX7_step_235 ?_
                rw [show (va_up pF op (pF op ||| rF op)) op = pF op ||| rF op from va_up_self _ _ _]
                refine wm_put (v := .int (nI (pF op ||| rF op))) X hP hS hlt0 hE0 rfl wm_inX7 tyX7 tyX7_ok nmX7 22 (by decide) wq5_44 rfl rfl rfl (fs1 := [.int (nI th), .ref (b + 120), .int (nI sz), .int (nI fa), .int (nI pl), .ref (b + 121), .ref (b + 122), .ref (b + 123), .ref (b + 124), .ref (b + 125), .ref (b + 126), .ref (b + 127), .int (nI ats), .int (nI aa), .ref (b + 128), .ref (b + 129), .ref (b + 130), .ref (b + 131), .ref (b + 132), .ref (b + 133), .int (nI op), .int (nI (pB op || rB op).toNat), .int (nI (pF op ||| rF op)), .int (nI la), .ref (b + 134), .ref (b + 135), .ref (b + 136), .int (nI wa), .ref (b + 137), .ref (b + 138), .ref (b + 139), .int (nI wc), .ref (b + 140), .int (nI kl), .ref (b + 141), .ref (b + 142), .ref (b + 143), .ref (b + 144), .ref (b + 145)]) rfl (Nat.le_of_ble_eq_true rfl) dX7_step_236 (fun H locs E33 hP hS hE0 hq => ?_)
                have hE1 := (hq 120 (by decide)).trans hE1
                have hE2 := (hq 126 (by decide)).trans hE2
                have hE3 := (hq 127 (by decide)).trans hE3
                have hE4 := (hq 128 (by decide)).trans hE4
                have hE5 := (hq 129 (by decide)).trans hE5
                have hE6 := (hq 130 (by decide)).trans hE6
                have hE7 := (hq 131 (by decide)).trans hE7
                have hE8 := (hq 132 (by decide)).trans hE8
                have hE9 := (hq 133 (by decide)).trans hE9
                have hfr : ∀ j, j ≠ 119 → j ≠ 126 → j ≠ 127 → j ≠ 128 → j ≠ 129 → j ≠ 130 → j ≠ 131 → j ≠ 132 → j ≠ 133 → E33 j = E j := fun j h0 h1 h2 h3 h4 h5 h6 h7 h8 => (hq j h0).trans (hfr j h0 h1 h2 h3 h4 h5 h6 h7 h8)
                refine lv_aload_n X.1 X.2.1 dX7_step_239 rfl (lv_at hl 2 rfl) ?_
                refine lv_aload_n X.1 X.2.1 dX7_step_240 rfl (lv_at hl 2 rfl) ?_
                refine wm_get X hP hlt0 hE0 rfl wm_inX7 16 (by decide) wq5_38 rfl dX7_step_241 ?_
                refine lv_aload_n X.1 X.2.1 dX7_step_244 rfl (lv_at hl 2 rfl) ?_
                refine wm_get X hP hlt0 hE0 rfl wm_inX7 20 (by decide) wq5_42 rfl dX7_step_245 ?_
                refine wm_iald (i := op) X hP hlt6 hE6 (by omega) (by decide) dX7_step_248 ?_
                rw [show (va_up pL op (pL op ||| rL op)) op = pL op ||| rL op from va_up_self _ _ _]
                refine wm_put (v := .int (nI (pL op ||| rL op))) X hP hS hlt0 hE0 rfl wm_inX7 tyX7 tyX7_ok nmX7 23 (by decide) wq5_45 rfl rfl rfl (fs1 := [.int (nI th), .ref (b + 120), .int (nI sz), .int (nI fa), .int (nI pl), .ref (b + 121), .ref (b + 122), .ref (b + 123), .ref (b + 124), .ref (b + 125), .ref (b + 126), .ref (b + 127), .int (nI ats), .int (nI aa), .ref (b + 128), .ref (b + 129), .ref (b + 130), .ref (b + 131), .ref (b + 132), .ref (b + 133), .int (nI op), .int (nI (pB op || rB op).toNat), .int (nI (pF op ||| rF op)), .int (nI (pL op ||| rL op)), .ref (b + 134), .ref (b + 135), .ref (b + 136), .int (nI wa), .ref (b + 137), .ref (b + 138), .ref (b + 139), .int (nI wc), .ref (b + 140), .int (nI kl), .ref (b + 141), .ref (b + 142), .ref (b + 143), .ref (b + 144), .ref (b + 145)]) rfl (Nat.le_of_ble_eq_true rfl) dX7_step_249 (fun H locs E34 hP hS hE0 hq => ?_)
                have hE1 := (hq 120 (by decide)).trans hE1
                have hE2 := (hq 126 (by decide)).trans hE2
                have hE3 := (hq 127 (by decide)).trans hE3
                have hE4 := (hq 128 (by decide)).trans hE4
                have hE5 := (hq 129 (by decide)).trans hE5
                have hE6 := (hq 130 (by decide)).trans hE6
                have hE7 := (hq 131 (by decide)).trans hE7
                have hE8 := (hq 132 (by decide)).trans hE8
                have hE9 := (hq 133 (by decide)).trans hE9
                have hfr : ∀ j, j ≠ 119 → j ≠ 126 → j ≠ 127 → j ≠ 128 → j ≠ 129 → j ≠ 130 → j ≠ 131 → j ≠ 132 → j ≠ 133 → E34 j = E j := fun j h0 h1 h2 h3 h4 h5 h6 h7 h8 => (hq j h0).trans (hfr j h0 h1 h2 h3 h4 h5 h6 h7 h8)
                refine lv_aload_n X.1 X.2.1 dX7_step_252 rfl (lv_at hl 2 rfl) ?_
                refine lv_dup X.1 X.2.1 dX7_step_253 rfl ?_
                refine wm_get X hP hlt0 hE0 rfl wm_inX7 20 (by decide) wq5_42 rfl dX7_step_254 ?_
                refine lv_iconst (v := nI 1) X.1 X.2.1 dX7_step_257 (by decide) ?_
                refine wm_isub (x := op) (y := 1) X (by omega) dX7_step_258 ?_
                refine wm_put (v := .int (nI (op - 1))) X hP hS hlt0 hE0 rfl wm_inX7 tyX7 tyX7_ok nmX7 20 (by decide) wq5_42 rfl rfl rfl (fs1 := [.int (nI th), .ref (b + 120), .int (nI sz), .int (nI fa), .int (nI pl), .ref (b + 121), .ref (b + 122), .ref (b + 123), .ref (b + 124), .ref (b + 125), .ref (b + 126), .ref (b + 127), .int (nI ats), .int (nI aa), .ref (b + 128), .ref (b + 129), .ref (b + 130), .ref (b + 131), .ref (b + 132), .ref (b + 133), .int (nI (op - 1)), .int (nI (pB op || rB op).toNat), .int (nI (pF op ||| rF op)), .int (nI (pL op ||| rL op)), .ref (b + 134), .ref (b + 135), .ref (b + 136), .int (nI wa), .ref (b + 137), .ref (b + 138), .ref (b + 139), .int (nI wc), .ref (b + 140), .int (nI kl), .ref (b + 141), .ref (b + 142), .ref (b + 143), .ref (b + 144), .ref (b + 145)]) rfl (Nat.le_of_ble_eq_true rfl) dX7_step_259 (fun H locs E35 hP hS hE0 hq => ?_)
                have hE1 := (hq 120 (by decide)).trans hE1
                have hE2 := (hq 126 (by decide)).trans hE2
                have hE3 := (hq 127 (by decide)).trans hE3
                have hE4 := (hq 128 (by decide)).trans hE4
                have hE5 := (hq 129 (by decide)).trans hE5
                have hE6 := (hq 130 (by decide)).trans hE6
                have hE7 := (hq 131 (by decide)).trans hE7
                have hE8 := (hq 132 (by decide)).trans hE8
                have hE9 := (hq 133 (by decide)).trans hE9
                have hfr : ∀ j, j ≠ 119 → j ≠ 126 → j ≠ 127 → j ≠ 128 → j ≠ 129 → j ≠ 130 → j ≠ 131 → j ≠ 132 → j ≠ 133 → E35 j = E j := fun j h0 h1 h2 h3 h4 h5 h6 h7 h8 => (hq j h0).trans (hfr j h0 h1 h2 h3 h4 h5 h6 h7 h8)
                refine lv_aload_n X.1 X.2.1 dX7_step_262 rfl (lv_at hl 2 rfl) ?_
                refine lv_dup X.1 X.2.1 dX7_step_263 rfl ?_
                refine wm_get X hP hlt0 hE0 rfl wm_inX7 13 (by decide) wq5_35 rfl dX7_step_264 ?_
                refine lv_iconst (v := nI 1) X.1 X.2.1 dX7_step_267 (by decide) ?_
                refine wm_iadd (x := aa) (y := 1) X dX7_step_268 ?_
                refine wm_put (v := .int (nI (aa + 1))) X hP hS hlt0 hE0 rfl wm_inX7 tyX7 tyX7_ok nmX7 13 (by decide) wq5_35 rfl rfl rfl (fs1 := [.int (nI th), .ref (b + 120), .int (nI sz), .int (nI fa), .int (nI pl), .ref (b + 121), .ref (b + 122), .ref (b + 123), .ref (b + 124), .ref (b + 125), .ref (b + 126), .ref (b + 127), .int (nI ats), .int (nI (aa + 1)), .ref (b + 128), .ref (b + 129), .ref (b + 130), .ref (b + 131), .ref (b + 132), .ref (b + 133), .int (nI (op - 1)), .int (nI (pB op || rB op).toNat), .int (nI (pF op ||| rF op)), .int (nI (pL op ||| rL op)), .ref (b + 134), .ref (b + 135), .ref (b + 136), .int (nI wa), .ref (b + 137), .ref (b + 138), .ref (b + 139), .int (nI wc), .ref (b + 140), .int (nI kl), .ref (b + 141), .ref (b + 142), .ref (b + 143), .ref (b + 144), .ref (b + 145)]) rfl (Nat.le_of_ble_eq_true rfl) dX7_step_269 (fun H locs E36 hP hS hE0 hq => ?_)
                have hE1 := (hq 120 (by decide)).trans hE1
                have hE2 := (hq 126 (by decide)).trans hE2
                have hE3 := (hq 127 (by decide)).trans hE3
                have hE4 := (hq 128 (by decide)).trans hE4
                have hE5 := (hq 129 (by decide)).trans hE5
                have hE6 := (hq 130 (by decide)).trans hE6
                have hE7 := (hq 131 (by decide)).trans hE7
                have hE8 := (hq 132 (by decide)).trans hE8
                have hE9 := (hq 133 (by decide)).trans hE9
                have hfr : ∀ j, j ≠ 119 → j ≠ 126 → j ≠ 127 → j ≠ 128 → j ≠ 129 → j ≠ 130 → j ≠ 131 → j ≠ 132 → j ≠ 133 → E36 j = E j := fun j h0 h1 h2 h3 h4 h5 h6 h7 h8 => (hq j h0).trans (hfr j h0 h1 h2 h3 h4 h5 h6 h7 h8)
                refine lv_aload_n X.1 X.2.1 dX7_step_272 rfl (lv_at hl 2 rfl) ?_
                refine wm_callVv (k := 0) (As := []) (rest := []) X hP hS hlt0 hE0 rfl (kX7_take l D C b n E36 th sz fa pl ats (aa + 1) (op - 1) (pF op ||| rF op) (pL op ||| rL op) wa wc kl (pB op || rB op) tx fo rF rL rB hlt0 hE0 hlt1 hE1 hlt3 hE3 hlt7 hE7 hlt8 hE8 hlt9 hE9 (by omega) hsz (by omega) htx (Nat.lt_trans (Nat.or_lt_two_pow (hplv op (Nat.le_refl _)) (hrlv op (Nat.le_refl _))) (by decide)) (by have := hrlv (op - 1) (by omega); omega)) wq5_192 wq5_194 wqP3_7 wq1_8 wq5_195 (by decide) (by rw [hRe]; exact ⟨Nat.le_of_ble_eq_true rfl, Nat.le_of_ble_eq_true rfl⟩) rfl hl.1 rfl (Nat.le_of_ble_eq_true rfl) (Nat.zero_le _) (Nat.zero_le _) dX7_step_273 (fun E37 H locs hw hP hS => ?_)
                obtain ⟨hE0, hE3, hE7, hE8, hE9, hq⟩ := hw
                have hE1 := (hq 120 (by decide) (by decide) (by decide) (by decide) (by decide)).trans hE1
                have hE2 := (hq 126 (by decide) (by decide) (by decide) (by decide) (by decide)).trans hE2
                have hE4 := (hq 128 (by decide) (by decide) (by decide) (by decide) (by decide)).trans hE4
                have hE5 := (hq 129 (by decide) (by decide) (by decide) (by decide) (by decide)).trans hE5
                have hE6 := (hq 130 (by decide) (by decide) (by decide) (by decide) (by decide)).trans hE6
                have hfr : ∀ j, j ≠ 119 → j ≠ 126 → j ≠ 127 → j ≠ 128 → j ≠ 129 → j ≠ 130 → j ≠ 131 → j ≠ 132 → j ≠ 133 → E37 j = E j := fun j h0 h1 h2 h3 h4 h5 h6 h7 h8 => (hq j h0 h2 h6 h7 h8).trans (hfr j h0 h1 h2 h3 h4 h5 h6 h7 h8)
                have hcl := wm_stC (op := op - 1) (by rw [hop1]; exact hrel) haa hc199
                rw [hop1] at hcl
                obtain ⟨zc, hc1, hc2⟩ := hcl
                have hokT := wm_okT (a0 := aa) hc1 (by omega) (by omega) hc2
                refine lv_goto (tgt := 315) X.1 X.2.1 dX7_step_276 (by decide) ?_
                exact wm_vret (post := pX7_step C b E th sz fa pl ats aa op fi la wa wc kl be z tx ml fo pF pL rF rL pB rB) X hr hP hS ⟨fa, pl, ats, ((wm_sg tx sz (pL op ||| rL op) (pF op ||| rF op) (sz - (aa + 1)) (aa + 1) (pB op || rB op) fo).1), (op - 1), ((wm_sg tx sz (pL op ||| rL op) (pF op ||| rF op) (sz - (aa + 1)) (aa + 1) (pB op || rB op) fo).2.1), (pF op ||| rF op), (pL op ||| rL op), ml, (wm_ld (wm_sg tx sz (pL op ||| rL op) (pF op ||| rF op) (sz - (aa + 1)) (aa + 1) (pB op || rB op) fo).2.2 24 (rL (op - 1)) (pF op ||| rF op)), (va_up pB op (pB op || rB op)), (va_up pF op (pF op ||| rF op)), (va_up pL op (pL op ||| rL op)), (va_up rB (op - 1) (rB (op - 1) && (wm_sg tx sz (pL op ||| rL op) (pF op ||| rF op) (sz - (aa + 1)) (aa + 1) (pB op || rB op) fo).2.1)), (va_up rF (op - 1) (if rB (op - 1) then rF (op - 1) ||| (pF op ||| rF op) else rF (op - 1))), (va_up rL (op - 1) (if (wm_sg tx sz (pL op ||| rL op) (pF op ||| rF op) (sz - (aa + 1)) (aa + 1) (pB op || rB op) fo).2.1 then rL (op - 1) ||| (pL op ||| rL op) else (pL op ||| rL op))), hE0, hE2, hE3, hE4, hE5, hE6, hE7, hE8, hE9, hfr, (Or.inl ⟨hf, rfl, hokT⟩), (by omega)⟩ hQ dX7_step_315
          · refine lv_aload_n X.1 X.2.1 dX7_step_148 rfl (lv_at hl 2 rfl) ?_
            refine wm_get X hP hlt0 hE0 rfl wm_inX7 20 (by decide) wq5_42 rfl dX7_step_149 ?_
            refine lv_bipush (v := nI 20) X.1 X.2.1 dX7_step_152 (by decide) ?_
            refine wm_icmp_ne (x := op) (y := 20) (tgt := 169) X (by omega) (by decide) dX7_step_154 (by decide) (fun hc154 => ?_) (fun hc154 => ?_)
            · refine lv_aload_n X.1 X.2.1 dX7_step_169 rfl (lv_at hl 2 rfl) ?_
              refine lv_dup X.1 X.2.1 dX7_step_170 rfl ?_
              refine wm_get X hP hlt0 hE0 rfl wm_inX7 20 (by decide) wq5_42 rfl dX7_step_171 ?_
              refine lv_iconst (v := nI 1) X.1 X.2.1 dX7_step_174 (by decide) ?_
              refine wm_iadd (x := op) (y := 1) X dX7_step_175 ?_
              refine wm_put (v := .int (nI (op + 1))) X hP hS hlt0 hE0 rfl wm_inX7 tyX7 tyX7_ok nmX7 20 (by decide) wq5_42 rfl rfl rfl (fs1 := [.int (nI th), .ref (b + 120), .int (nI sz), .int (nI fa), .int (nI pl), .ref (b + 121), .ref (b + 122), .ref (b + 123), .ref (b + 124), .ref (b + 125), .ref (b + 126), .ref (b + 127), .int (nI ats), .int (nI aa), .ref (b + 128), .ref (b + 129), .ref (b + 130), .ref (b + 131), .ref (b + 132), .ref (b + 133), .int (nI (op + 1)), .int (nI be.toNat), .int (nI fi), .int (nI la), .ref (b + 134), .ref (b + 135), .ref (b + 136), .int (nI wa), .ref (b + 137), .ref (b + 138), .ref (b + 139), .int (nI wc), .ref (b + 140), .int (nI kl), .ref (b + 141), .ref (b + 142), .ref (b + 143), .ref (b + 144), .ref (b + 145)]) rfl (Nat.le_of_ble_eq_true rfl) dX7_step_176 (fun H locs E39 hP hS hE0 hq => ?_)
              have hE1 := (hq 120 (by decide)).trans hE1
              have hE2 := (hq 126 (by decide)).trans hE2
              have hE3 := (hq 127 (by decide)).trans hE3
              have hE4 := (hq 128 (by decide)).trans hE4
              have hE5 := (hq 129 (by decide)).trans hE5
              have hE6 := (hq 130 (by decide)).trans hE6
              have hE7 := (hq 131 (by decide)).trans hE7
              have hE8 := (hq 132 (by decide)).trans hE8
              have hE9 := (hq 133 (by decide)).trans hE9
              have hfr : ∀ j, j ≠ 119 → j ≠ 126 → j ≠ 127 → j ≠ 128 → j ≠ 129 → j ≠ 130 → j ≠ 131 → j ≠ 132 → j ≠ 133 → E39 j = E j := fun j h0 h1 h2 h3 h4 h5 h6 h7 h8 => (hq j h0).trans (hfr j h0 h1 h2 h3 h4 h5 h6 h7 h8)
              refine lv_aload_n X.1 X.2.1 dX7_step_179 rfl (lv_at hl 2 rfl) ?_
              refine wm_callVv (k := 0) (As := []) (rest := []) X hP hS hlt0 hE0 rfl (kX7_beginParts l D C b n E39 th sz fa pl ats aa (op + 1) fi la wa wc kl be pB rB pF pL rF rL hlt0 hE0 hlt4 hE4 hlt5 hE5 hlt6 hE6 hlt7 hE7 hlt8 hE8 hlt9 hE9 (by omega)) wq5_161 wq5_163 wqP3_0 wq1_8 wq5_164 (by decide) (by rw [hRe]; exact ⟨Nat.le_of_ble_eq_true rfl, Nat.le_of_ble_eq_true rfl⟩) rfl hl.1 rfl (Nat.le_of_ble_eq_true rfl) (Nat.zero_le _) (Nat.zero_le _) dX7_step_180 (fun E40 H locs hw hP hS => ?_)
              obtain ⟨hE4, hE5, hE6, hE7, hE8, hE9, hq⟩ := hw
              have hE0 := (hq 119 (by decide) (by decide) (by decide) (by decide) (by decide) (by decide)).trans hE0
              have hE1 := (hq 120 (by decide) (by decide) (by decide) (by decide) (by decide) (by decide)).trans hE1
              have hE2 := (hq 126 (by decide) (by decide) (by decide) (by decide) (by decide) (by decide)).trans hE2
              have hE3 := (hq 127 (by decide) (by decide) (by decide) (by decide) (by decide) (by decide)).trans hE3
              have hfr : ∀ j, j ≠ 119 → j ≠ 126 → j ≠ 127 → j ≠ 128 → j ≠ 129 → j ≠ 130 → j ≠ 131 → j ≠ 132 → j ≠ 133 → E40 j = E j := fun j h0 h1 h2 h3 h4 h5 h6 h7 h8 => (hq j h3 h4 h5 h6 h7 h8).trans (hfr j h0 h1 h2 h3 h4 h5 h6 h7 h8)
              refine lv_aload_n X.1 X.2.1 dX7_step_183 rfl (lv_at hl 2 rfl) ?_
              refine lv_dup X.1 X.2.1 dX7_step_184 rfl ?_
              refine wm_get X hP hlt0 hE0 rfl wm_inX7 13 (by decide) wq5_35 rfl dX7_step_185 ?_
              refine lv_iconst (v := nI 1) X.1 X.2.1 dX7_step_188 (by decide) ?_
              refine wm_iadd (x := aa) (y := 1) X dX7_step_189 ?_
              refine wm_put (v := .int (nI (aa + 1))) X hP hS hlt0 hE0 rfl wm_inX7 tyX7 tyX7_ok nmX7 13 (by decide) wq5_35 rfl rfl rfl (fs1 := [.int (nI th), .ref (b + 120), .int (nI sz), .int (nI fa), .int (nI pl), .ref (b + 121), .ref (b + 122), .ref (b + 123), .ref (b + 124), .ref (b + 125), .ref (b + 126), .ref (b + 127), .int (nI ats), .int (nI (aa + 1)), .ref (b + 128), .ref (b + 129), .ref (b + 130), .ref (b + 131), .ref (b + 132), .ref (b + 133), .int (nI (op + 1)), .int (nI be.toNat), .int (nI fi), .int (nI la), .ref (b + 134), .ref (b + 135), .ref (b + 136), .int (nI wa), .ref (b + 137), .ref (b + 138), .ref (b + 139), .int (nI wc), .ref (b + 140), .int (nI kl), .ref (b + 141), .ref (b + 142), .ref (b + 143), .ref (b + 144), .ref (b + 145)]) rfl (Nat.le_of_ble_eq_true rfl) dX7_step_190 (fun H locs E41 hP hS hE0 hq => ?_)
              have hE1 := (hq 120 (by decide)).trans hE1
              have hE2 := (hq 126 (by decide)).trans hE2
              have hE3 := (hq 127 (by decide)).trans hE3
              have hE4 := (hq 128 (by decide)).trans hE4
              have hE5 := (hq 129 (by decide)).trans hE5
              have hE6 := (hq 130 (by decide)).trans hE6
              have hE7 := (hq 131 (by decide)).trans hE7
              have hE8 := (hq 132 (by decide)).trans hE8
              have hE9 := (hq 133 (by decide)).trans hE9
              have hfr : ∀ j, j ≠ 119 → j ≠ 126 → j ≠ 127 → j ≠ 128 → j ≠ 129 → j ≠ 130 → j ≠ 131 → j ≠ 132 → j ≠ 133 → E41 j = E j := fun j h0 h1 h2 h3 h4 h5 h6 h7 h8 => (hq j h0).trans (hfr j h0 h1 h2 h3 h4 h5 h6 h7 h8)
              refine lv_goto (tgt := 315) X.1 X.2.1 dX7_step_193 (by decide) ?_
              exact wm_vret (post := pX7_step C b E th sz fa pl ats aa op fi la wa wc kl be z tx ml fo pF pL rF rL pB rB) X hr hP hS ⟨fa, pl, ats, (aa + 1), (op + 1), be, fi, la, ml, fo, (va_up pB (op + 1) false), (va_up pF (op + 1) 0), (va_up pL (op + 1) 0), (va_up rB (op + 1) true), (va_up rF (op + 1) 0), (va_up rL (op + 1) 0), hE0, hE2, hE3, hE4, hE5, hE6, hE7, hE8, hE9, hfr, (Or.inl ⟨hf, rfl, wm_stO hrel (by omega) haa hc145⟩), (by omega)⟩ hQ dX7_step_315
            · refine lv_aload_n X.1 X.2.1 dX7_step_157 rfl (lv_at hl 2 rfl) ?_
              refine lv_iconst (v := nI 3) X.1 X.2.1 dX7_step_158 (by decide) ?_
              refine lv_aload_n X.1 X.2.1 dX7_step_159 rfl (lv_at hl 2 rfl) ?_
              refine wm_get X hP hlt0 hE0 rfl wm_inX7 13 (by decide) wq5_35 rfl dX7_step_160 ?_
              refine wm_callVv (k := 2) (As := [.int (nI 3), .int (nI aa)]) (rest := []) X hP hS hlt0 hE0 rfl (kfail1 l D C b n E th sz fa pl ats aa op fi la wa wc kl be 3 aa hlt0 hE0 hf) wq5_180 wq5_182 wqP3_4 wq1_8 wq5_183 (by decide) (by rw [hRe]; exact ⟨Nat.le_of_ble_eq_true rfl, Nat.le_of_ble_eq_true rfl⟩) rfl hl.1 rfl (Nat.le_of_ble_eq_true rfl) (Nat.zero_le _) (Nat.zero_le _) dX7_step_163 (fun E42 H locs hw hP hS => ?_)
              obtain ⟨hE0, hq⟩ := hw
              have hE1 := (hq 120 (by decide)).trans hE1
              have hE2 := (hq 126 (by decide)).trans hE2
              have hE3 := (hq 127 (by decide)).trans hE3
              have hE4 := (hq 128 (by decide)).trans hE4
              have hE5 := (hq 129 (by decide)).trans hE5
              have hE6 := (hq 130 (by decide)).trans hE6
              have hE7 := (hq 131 (by decide)).trans hE7
              have hE8 := (hq 132 (by decide)).trans hE8
              have hE9 := (hq 133 (by decide)).trans hE9
              have hfr : ∀ j, j ≠ 119 → j ≠ 126 → j ≠ 127 → j ≠ 128 → j ≠ 129 → j ≠ 130 → j ≠ 131 → j ≠ 132 → j ≠ 133 → E42 j = E j := fun j h0 h1 h2 h3 h4 h5 h6 h7 h8 => (hq j h0).trans (hfr j h0 h1 h2 h3 h4 h5 h6 h7 h8)
              refine lv_goto (tgt := 315) X.1 X.2.1 dX7_step_166 (by decide) ?_
              have hF := wm_stF3 hrel hc154 haa hc145
              exact wm_vret (post := pX7_step C b E th sz fa pl ats aa op fi la wa wc kl be z tx ml fo pF pL rF rL pB rB) X hr hP hS ⟨3, aa, ats, aa, op, be, fi, la, ml, fo, pB, pF, pL, rB, rF, rL, hE0, hE2, hE3, hE4, hE5, hE6, hE7, hE8, hE9, hfr, (Or.inr ⟨by decide, by decide, hF.1, hF.2⟩), (by omega)⟩ hQ dX7_step_315
        · exfalso; omega
      · refine lv_iconst (v := nI 1) X.1 X.2.1 dX7_step_28 (by decide) ?_
        refine lv_goto (tgt := 33) X.1 X.2.1 dX7_step_29 (by decide) ?_
        refine lv_istore_n (lv' := [(2, .int (nI 1)), (1, .int (nI (tx aa))), (0, .ref (b + 119))]) X.1 X.2.1 dX7_step_33 rfl hl (by decide) rfl (fun ls hl => ?_)
        refine lv_iload_n X.1 X.2.1 dX7_step_34 rfl (lv_at hl 0 rfl) ?_
        refine lv_if_eq (tgt := 59) X.1 X.2.1 dX7_step_35 (by decide) (fun h => by exfalso; revert h; decide) (fun _ => ?_)
        refine lv_aload_n X.1 X.2.1 dX7_step_38 rfl (lv_at hl 2 rfl) ?_
        refine wm_get X hP hlt0 hE0 rfl wm_inX7 12 (by decide) wq5_34 rfl dX7_step_39 ?_
        refine lv_bipush (v := nI 23) X.1 X.2.1 dX7_step_42 (by decide) ?_
        refine wm_icmp_ne (x := ats) (y := 23) (tgt := 59) X (by omega) (by decide) dX7_step_44 (by decide) (fun hc44 => ?_) (fun hc44 => ?_)
        · have hat9 : ats < 23 := by omega
          have hsh : 1 <<< (ats + 1) < 2 ^ 31 := wm_s31b (by omega)
          have hrlb : rL op < 2 ^ 31 := by have := hrlv op (Nat.le_refl _); omega
          refine lv_iload_n X.1 X.2.1 dX7_step_59 rfl (lv_at hl 1 rfl) ?_
          refine lv_bipush (v := nI 91) X.1 X.2.1 dX7_step_60 (by decide) ?_
          refine wm_icmp_ne (x := (tx aa)) (y := 91) (tgt := 99) X (by omega) (by decide) dX7_step_62 (by decide) (fun hc62 => ?_) (fun hc62 => ?_)
          · exfalso; omega
          · refine lv_aload_n X.1 X.2.1 dX7_step_65 rfl (lv_at hl 2 rfl) ?_
            refine lv_dup X.1 X.2.1 dX7_step_66 rfl ?_
            refine wm_get X hP hlt0 hE0 rfl wm_inX7 13 (by decide) wq5_35 rfl dX7_step_67 ?_
            refine lv_iconst (v := nI 1) X.1 X.2.1 dX7_step_70 (by decide) ?_
            refine wm_iadd (x := aa) (y := 1) X dX7_step_71 ?_
            refine wm_put (v := .int (nI (aa + 1))) X hP hS hlt0 hE0 rfl wm_inX7 tyX7 tyX7_ok nmX7 13 (by decide) wq5_35 rfl rfl rfl (fs1 := [.int (nI th), .ref (b + 120), .int (nI sz), .int (nI fa), .int (nI pl), .ref (b + 121), .ref (b + 122), .ref (b + 123), .ref (b + 124), .ref (b + 125), .ref (b + 126), .ref (b + 127), .int (nI ats), .int (nI (aa + 1)), .ref (b + 128), .ref (b + 129), .ref (b + 130), .ref (b + 131), .ref (b + 132), .ref (b + 133), .int (nI op), .int (nI be.toNat), .int (nI fi), .int (nI la), .ref (b + 134), .ref (b + 135), .ref (b + 136), .int (nI wa), .ref (b + 137), .ref (b + 138), .ref (b + 139), .int (nI wc), .ref (b + 140), .int (nI kl), .ref (b + 141), .ref (b + 142), .ref (b + 143), .ref (b + 144), .ref (b + 145)]) rfl (Nat.le_of_ble_eq_true rfl) dX7_step_72 (fun H locs E45 hP hS hE0 hq => ?_)
            have hE1 := (hq 120 (by decide)).trans hE1
            have hE2 := (hq 126 (by decide)).trans hE2
            have hE3 := (hq 127 (by decide)).trans hE3
            have hE4 := (hq 128 (by decide)).trans hE4
            have hE5 := (hq 129 (by decide)).trans hE5
            have hE6 := (hq 130 (by decide)).trans hE6
            have hE7 := (hq 131 (by decide)).trans hE7
            have hE8 := (hq 132 (by decide)).trans hE8
            have hE9 := (hq 133 (by decide)).trans hE9
            have hfr : ∀ j, j ≠ 119 → j ≠ 126 → j ≠ 127 → j ≠ 128 → j ≠ 129 → j ≠ 130 → j ≠ 131 → j ≠ 132 → j ≠ 133 → E45 j = E j := fun j h0 h1 h2 h3 h4 h5 h6 h7 h8 => (hq j h0).trans (hfr j h0 h1 h2 h3 h4 h5 h6 h7 h8)
            refine lv_aload_n X.1 X.2.1 dX7_step_75 rfl (lv_at hl 2 rfl) ?_
            refine wm_callVi (k := 0) (As := []) (rest := []) X hP hS hlt0 hE0 rfl (kX7_brackets l D C b n E45 th sz fa pl ats (aa + 1) op fi la wa wc kl be z.1.2.2.2.2 (wm_z1b z) tx hlt0 hE0 hlt1 hE1 hf hsz (by omega) htx) wq5_184 wq5_186 wqP3_5 wq1_8 wq5_187 (by decide) (by rw [hRe]; exact ⟨Nat.le_of_ble_eq_true rfl, Nat.le_of_ble_eq_true rfl⟩) rfl hl.1 rfl (Nat.le_of_ble_eq_true rfl) (Nat.zero_le _) (Nat.zero_le _) dX7_step_76 (fun r46 E46 H locs hw hP hS => ?_)
            obtain ⟨fa146, pl146, aa146, r146, hrt, hE0, hq, hp46_0⟩ := hw
            subst hrt
            have hE1 := (hq 120 (by decide)).trans hE1
            have hE2 := (hq 126 (by decide)).trans hE2
            have hE3 := (hq 127 (by decide)).trans hE3
            have hE4 := (hq 128 (by decide)).trans hE4
            have hE5 := (hq 129 (by decide)).trans hE5
            have hE6 := (hq 130 (by decide)).trans hE6
            have hE7 := (hq 131 (by decide)).trans hE7
            have hE8 := (hq 132 (by decide)).trans hE8
            have hE9 := (hq 133 (by decide)).trans hE9
            have hfr : ∀ j, j ≠ 119 → j ≠ 126 → j ≠ 127 → j ≠ 128 → j ≠ 129 → j ≠ 130 → j ≠ 131 → j ≠ 132 → j ≠ 133 → E46 j = E j := fun j h0 h1 h2 h3 h4 h5 h6 h7 h8 => (hq j h0).trans (hfr j h0 h1 h2 h3 h4 h5 h6 h7 h8)
            have hrB := wm_stB0 hrel hat9 haa (by omega)
            have hbk := hp46_0
            have hfb : fa146 ≤ 4 := hbk.elim (fun q => by omega) (fun q => q.2.1)
            refine lv_istore_n (lv' := [(3, .int (nI r146)), (2, .int (nI 1)), (1, .int (nI (tx aa))), (0, .ref (b + 119))]) X.1 X.2.1 dX7_step_79 rfl hl (by decide) rfl (fun ls hl => ?_)
            refine lv_aload_n X.1 X.2.1 dX7_step_80 rfl (lv_at hl 3 rfl) ?_
            refine wm_get X hP hlt0 hE0 rfl wm_inX7 3 (by decide) wq5_25 rfl dX7_step_81 ?_
            refine wm_if_ne (x := fa146) (tgt := 96) X (by omega) dX7_step_84 (by decide) (fun hc84 => ?_) (fun hc84 => ?_)
            · have hbk := hbk.resolve_left (fun q => hc84 q.1)
              refine lv_goto (tgt := 315) X.1 X.2.1 dX7_step_96 (by decide) ?_
              exact wm_vret (post := pX7_step C b E th sz fa pl ats aa op fi la wa wc kl be z tx ml fo pF pL rF rL pB rB) X hr hP hS ⟨fa146, pl146, ats, aa146, op, be, fi, la, ml, fo, pB, pF, pL, rB, rF, rL, hE0, hE2, hE3, hE4, hE5, hE6, hE7, hE8, hE9, hfr, (Or.inr ⟨hc84, hbk.2.1, by rw [← hrB]; exact hbk.2.2.1, by rw [← hrB]; exact hbk.2.2.2⟩), (by omega)⟩ hQ dX7_step_315
            · obtain ⟨hfz, hpz, ha1, ha2, hr9, ntb, rsb, hrun9⟩ := hbk.resolve_right (fun q => q.1 hc84)
              refine lv_aload_n X.1 X.2.1 dX7_step_87 rfl (lv_at hl 3 rfl) ?_
              refine lv_iload_n X.1 X.2.1 dX7_step_88 rfl (lv_at hl 0 rfl) ?_
              refine wm_callVv (k := 1) (As := [.int (nI r146)]) (rest := []) X hP hS hlt0 hE0 rfl (kX7_atom l D C b n E46 th sz fa146 pl146 ats aa146 op fi la wa wc kl be r146 ml fo hlt0 hE0 hlt2 hE2 hlt3 hE3 (by omega)) wq5_188 wq5_190 wqP3_6 wq1_8 wq5_191 (by decide) (by rw [hRe]; exact ⟨Nat.le_of_ble_eq_true rfl, Nat.le_of_ble_eq_true rfl⟩) rfl hl.1 rfl (Nat.le_of_ble_eq_true rfl) (Nat.zero_le _) (Nat.zero_le _) dX7_step_89 (fun E48 H locs hw hP hS => ?_)
              obtain ⟨hE0, hE2, hE3, hq⟩ := hw
              have hE1 := (hq 120 (by decide) (by decide) (by decide)).trans hE1
              have hE4 := (hq 128 (by decide) (by decide) (by decide)).trans hE4
              have hE5 := (hq 129 (by decide) (by decide) (by decide)).trans hE5
              have hE6 := (hq 130 (by decide) (by decide) (by decide)).trans hE6
              have hE7 := (hq 131 (by decide) (by decide) (by decide)).trans hE7
              have hE8 := (hq 132 (by decide) (by decide) (by decide)).trans hE8
              have hE9 := (hq 133 (by decide) (by decide) (by decide)).trans hE9
              have hfr : ∀ j, j ≠ 119 → j ≠ 126 → j ≠ 127 → j ≠ 128 → j ≠ 129 → j ≠ 130 → j ≠ 131 → j ≠ 132 → j ≠ 133 → E48 j = E j := fun j h0 h1 h2 h3 h4 h5 h6 h7 h8 => (hq j h0 h1 h2).trans (hfr j h0 h1 h2 h3 h4 h5 h6 h7 h8)
              refine lv_aload_n X.1 X.2.1 dX7_step_92 rfl (lv_at hl 3 rfl) ?_
              refine wm_callVv (k := 0) (As := []) (rest := []) X hP hS hlt0 hE0 rfl (kX7_take l D C b n E48 th sz fa146 pl146 (ats + 1) aa146 op (1 <<< (ats + 1)) (1 <<< (ats + 1)) wa wc kl false tx (va_up fo (ats + 1) 0) rF rL rB hlt0 hE0 hlt1 hE1 hlt3 hE3 hlt7 hE7 hlt8 hE8 hlt9 hE9 (by omega) hsz (by omega) htx hsh hrlb) wq5_192 wq5_194 wqP3_7 wq1_8 wq5_195 (by decide) (by rw [hRe]; exact ⟨Nat.le_of_ble_eq_true rfl, Nat.le_of_ble_eq_true rfl⟩) rfl hl.1 rfl (Nat.le_of_ble_eq_true rfl) (Nat.zero_le _) (Nat.zero_le _) dX7_step_93 (fun E49 H locs hw hP hS => ?_)
              obtain ⟨hE0, hE3, hE7, hE8, hE9, hq⟩ := hw
              have hE1 := (hq 120 (by decide) (by decide) (by decide) (by decide) (by decide)).trans hE1
              have hE2 := (hq 126 (by decide) (by decide) (by decide) (by decide) (by decide)).trans hE2
              have hE4 := (hq 128 (by decide) (by decide) (by decide) (by decide) (by decide)).trans hE4
              have hE5 := (hq 129 (by decide) (by decide) (by decide) (by decide) (by decide)).trans hE5
              have hE6 := (hq 130 (by decide) (by decide) (by decide) (by decide) (by decide)).trans hE6
              have hfr : ∀ j, j ≠ 119 → j ≠ 126 → j ≠ 127 → j ≠ 128 → j ≠ 129 → j ≠ 130 → j ≠ 131 → j ≠ 132 → j ≠ 133 → E49 j = E j := fun j h0 h1 h2 h3 h4 h5 h6 h7 h8 => (hq j h0 h2 h6 h7 h8).trans (hfr j h0 h1 h2 h3 h4 h5 h6 h7 h8)
              have hokT := wm_okT (a0 := aa) (hrun9.trans hrB) (by omega) ha2 (wm_relT_as hrel (by omega))
              refine lv_goto (tgt := 315) X.1 X.2.1 dX7_step_96 (by decide) ?_
              exact wm_vret (post := pX7_step C b E th sz fa pl ats aa op fi la wa wc kl be z tx ml fo pF pL rF rL pB rB) X hr hP hS ⟨fa146, pl146, (ats + 1), ((wm_sg tx sz (1 <<< (ats + 1)) (1 <<< (ats + 1)) (sz - aa146) aa146 false (va_up fo (ats + 1) 0)).1), op, ((wm_sg tx sz (1 <<< (ats + 1)) (1 <<< (ats + 1)) (sz - aa146) aa146 false (va_up fo (ats + 1) 0)).2.1), (1 <<< (ats + 1)), (1 <<< (ats + 1)), (va_up ml (ats + 1) r146), (wm_ld (wm_sg tx sz (1 <<< (ats + 1)) (1 <<< (ats + 1)) (sz - aa146) aa146 false (va_up fo (ats + 1) 0)).2.2 24 (rL op) (1 <<< (ats + 1))), pB, pF, pL, (va_up rB op (rB op && (wm_sg tx sz (1 <<< (ats + 1)) (1 <<< (ats + 1)) (sz - aa146) aa146 false (va_up fo (ats + 1) 0)).2.1)), (va_up rF op (if rB op then rF op ||| (1 <<< (ats + 1)) else rF op)), (va_up rL op (if (wm_sg tx sz (1 <<< (ats + 1)) (1 <<< (ats + 1)) (sz - aa146) aa146 false (va_up fo (ats + 1) 0)).2.1 then rL op ||| (1 <<< (ats + 1)) else (1 <<< (ats + 1)))), hE0, hE2, hE3, hE4, hE5, hE6, hE7, hE8, hE9, hfr, (Or.inl ⟨hfz, hpz, hokT⟩), (by omega)⟩ hQ dX7_step_315
        · refine lv_aload_n X.1 X.2.1 dX7_step_47 rfl (lv_at hl 2 rfl) ?_
          refine lv_iconst (v := nI 2) X.1 X.2.1 dX7_step_48 (by decide) ?_
          refine lv_aload_n X.1 X.2.1 dX7_step_49 rfl (lv_at hl 2 rfl) ?_
          refine wm_get X hP hlt0 hE0 rfl wm_inX7 13 (by decide) wq5_35 rfl dX7_step_50 ?_
          refine wm_callVv (k := 2) (As := [.int (nI 2), .int (nI aa)]) (rest := []) X hP hS hlt0 hE0 rfl (kfail1 l D C b n E th sz fa pl ats aa op fi la wa wc kl be 2 aa hlt0 hE0 hf) wq5_180 wq5_182 wqP3_4 wq1_8 wq5_183 (by decide) (by rw [hRe]; exact ⟨Nat.le_of_ble_eq_true rfl, Nat.le_of_ble_eq_true rfl⟩) rfl hl.1 rfl (Nat.le_of_ble_eq_true rfl) (Nat.zero_le _) (Nat.zero_le _) dX7_step_53 (fun E50 H locs hw hP hS => ?_)
          obtain ⟨hE0, hq⟩ := hw
          have hE1 := (hq 120 (by decide)).trans hE1
          have hE2 := (hq 126 (by decide)).trans hE2
          have hE3 := (hq 127 (by decide)).trans hE3
          have hE4 := (hq 128 (by decide)).trans hE4
          have hE5 := (hq 129 (by decide)).trans hE5
          have hE6 := (hq 130 (by decide)).trans hE6
          have hE7 := (hq 131 (by decide)).trans hE7
          have hE8 := (hq 132 (by decide)).trans hE8
          have hE9 := (hq 133 (by decide)).trans hE9
          have hfr : ∀ j, j ≠ 119 → j ≠ 126 → j ≠ 127 → j ≠ 128 → j ≠ 129 → j ≠ 130 → j ≠ 131 → j ≠ 132 → j ≠ 133 → E50 j = E j := fun j h0 h1 h2 h3 h4 h5 h6 h7 h8 => (hq j h0).trans (hfr j h0 h1 h2 h3 h4 h5 h6 h7 h8)
          refine lv_goto (tgt := 315) X.1 X.2.1 dX7_step_56 (by decide) ?_
          have hF := wm_stF2 hrel hc44 haa (Or.inr (Or.inr hc25))
          exact wm_vret (post := pX7_step C b E th sz fa pl ats aa op fi la wa wc kl be z tx ml fo pF pL rF rL pB rB) X hr hP hS ⟨2, aa, ats, aa, op, be, fi, la, ml, fo, pB, pF, pL, rB, rF, rL, hE0, hE2, hE3, hE4, hE5, hE6, hE7, hE8, hE9, hfr, (Or.inr ⟨by decide, by decide, hF.1, hF.2⟩), (by omega)⟩ hQ dX7_step_315
