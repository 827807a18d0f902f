def pX7_brackets (C : Nat → ClassId) (b : Nat) (E : Nat → va_E) (th sz fa pl ats aa op fi la wa wc kl : Nat) (be : Bool) (rs0 : Nat) (z0 : wm_pst) (tx : Nat → Nat) : Int32 → (Nat → va_E) → Prop := fun r E' => ∃ (fa1 : Nat) (pl1 : Nat) (aa1 : Nat) (r1 : Nat), r = nI r1 ∧ E' 119 = .inr (7, [.int (nI th), .ref (b + 120), .int (nI sz), .int (nI fa1), .int (nI pl1), .ref (b + 121), .ref (b + 122), .ref (b + 123), .ref (b + 124), .ref (b + 125), .ref (b + 126), .ref (b + 127), .int (nI ats), .int (nI aa1), .ref (b + 128), .ref (b + 129), .ref (b + 130), .ref (b + 131), .ref (b + 132), .ref (b + 133), .int (nI op), .int (nI be.toNat), .int (nI fi), .int (nI la), .ref (b + 134), .ref (b + 135), .ref (b + 136), .int (nI wa), .ref (b + 137), .ref (b + 138), .ref (b + 139), .int (nI wc), .ref (b + 140), .int (nI kl), .ref (b + 141), .ref (b + 142), .ref (b + 143), .ref (b + 144), .ref (b + 145)]) ∧ (∀ j, j ≠ 119 → E' j = E j) ∧ ((fa1 = 0 ∧ pl1 = pl ∧ aa < aa1 ∧ aa1 ≤ sz ∧ r1 < 256 ∧ ∃ nt rs, wm_go tx (sz - aa1) aa1 (wm_zi z0 0 nt rs r1) = (wm_go tx (sz - aa) aa (wm_zi z0 1 false rs0 0))) ∨ (fa1 ≠ 0 ∧ fa1 ≤ 4 ∧ wm_kd (wm_go tx (sz - aa) aa (wm_zi z0 1 false rs0 0)) = fa1 ∧ wm_pl (wm_go tx (sz - aa) aa (wm_zi z0 1 false rs0 0)) = pl1))
set_option maxHeartbeats 4000000 in
set_option maxRecDepth 100000 in
theorem kX7_brackets (l : Launch) (D : va_G) (C : Nat → ClassId) (b n : Nat) (E : Nat → va_E) (th sz fa pl ats aa op fi la wa wc kl : Nat) (be : Bool) (rs0 : Nat) (z0 : wm_pst) (tx : Nat → Nat) (hlt0 : 119 < n) (hE0 : E 119 = .inr (7, [.int (nI th), .ref (b + 120), .int (nI sz), .int (nI fa), .int (nI pl), .ref (b + 121), .ref (b + 122), .ref (b + 123), .ref (b + 124), .ref (b + 125), .ref (b + 126), .ref (b + 127), .int (nI ats), .int (nI aa), .ref (b + 128), .ref (b + 129), .ref (b + 130), .ref (b + 131), .ref (b + 132), .ref (b + 133), .int (nI op), .int (nI be.toNat), .int (nI fi), .int (nI la), .ref (b + 134), .ref (b + 135), .ref (b + 136), .int (nI wa), .ref (b + 137), .ref (b + 138), .ref (b + 139), .int (nI wc), .ref (b + 140), .int (nI kl), .ref (b + 141), .ref (b + 142), .ref (b + 143), .ref (b + 144), .ref (b + 145)])) (hlt1 : 120 < n) (hE1 : E 120 = wm_I C 200 tx) (hf : fa = 0) (hsz : sz ≤ 200) (haa0 : aa ≤ sz) (htx : ∀ i, tx i < 256) : Met l yX7_brackets (wm_ws yX7_brackets cX7_brackets 7 (some .int)) { frames := 1, cells := 0, slots := 0, locals := 22 } (va_Pc [.ref (b + 119)] (wm_G D C b n E)) (va_Qi (pX7_brackets C b E th sz fa pl ats aa op fi la wa wc kl be rs0 z0 tx) (fun E' t => wm_P D b n E' t.heap) (wm_A b)) 0 0 (wm_A b) := by
  refine wm_ofW (by decide) (Nat.le_of_ble_eq_true rfl) (fun p e s m below meth c ls R args Q hRe hQ X hr hnm hP hS hl => ?_)
  have hl : lv_has ls 7 [(0, .ref (b + 119))] := hl
  have hfr : ∀ j, j ≠ 119 → E j = E j := fun _ _ => rfl
  refine lv_aload_n X.1 X.2.1 dX7_brackets_0 rfl (lv_at hl 0 rfl) ?_
  refine lv_aload_n X.1 X.2.1 dX7_brackets_1 rfl (lv_at hl 0 rfl) ?_
  refine wm_get X hP hlt0 hE0 rfl wm_inX7 13 (by decide) wq5_35 rfl dX7_brackets_2 ?_
  refine wm_callVi (k := 1) (As := [.int (nI aa)]) (rest := []) X hP hS hlt0 hE0 rfl (kX7_byteAt l D C b n E th sz fa pl ats aa op fi la wa wc kl be aa tx hlt0 hE0 hlt1 hE1 (by omega) (by omega)) wq5_173 wq5_175 wqP3_3 wq1_8 wq5_176 (by decide) (by rw [hRe]; exact ⟨Nat.le_of_ble_eq_true rfl, Nat.le_of_ble_eq_true rfl⟩) rfl hl.1 rfl (Nat.le_of_ble_eq_true rfl) (Nat.zero_le _) (Nat.zero_le _) dX7_brackets_5 (fun r1 E1 H locs hw hP hS => ?_)
  obtain ⟨hrt, hEe⟩ := hw
  subst hrt
  subst hEe
  refine lv_bipush (v := nI 94) X.1 X.2.1 dX7_brackets_8 (by decide) ?_
  refine wm_icmp_ne (x := (wm_ba tx sz aa)) (y := 94) (tgt := 17) X (wm_ba_32 htx) (by decide) dX7_brackets_10 (by decide) (fun hc10 => ?_) (fun hc10 => ?_)
  · refine lv_iconst (v := nI 0) X.1 X.2.1 dX7_brackets_17 (by decide) ?_
    refine lv_istore_n (lv' := [(1, .int (nI 0)), (0, .ref (b + 119))]) X.1 X.2.1 dX7_brackets_18 rfl hl (by decide) rfl (fun ls hl => ?_)
    refine lv_aload_n X.1 X.2.1 dX7_brackets_19 rfl (lv_at hl 1 rfl) ?_
    refine lv_iload_n X.1 X.2.1 dX7_brackets_20 rfl (lv_at hl 0 rfl) ?_
    refine lv_if_eq (tgt := 33) X.1 X.2.1 dX7_brackets_21 (by decide) (fun _ => ?_) (fun h => by exfalso; revert h; decide)
    refine lv_aload_n X.1 X.2.1 dX7_brackets_33 rfl (lv_at hl 1 rfl) ?_
    refine wm_get X hP hlt0 hE0 rfl wm_inX7 13 (by decide) wq5_35 rfl dX7_brackets_34 ?_
    refine wm_put (v := .int (nI aa)) X hP hS hlt0 hE0 rfl wm_inX7 tyX7 tyX7_ok nmX7 13 (by decide) wq5_35 rfl rfl rfl (fs1 := [.int (nI th), .ref (b + 120), .int (nI sz), .int (nI fa), .int (nI pl), .ref (b + 121), .ref (b + 122), .ref (b + 123), .ref (b + 124), .ref (b + 125), .ref (b + 126), .ref (b + 127), .int (nI ats), .int (nI aa), .ref (b + 128), .ref (b + 129), .ref (b + 130), .ref (b + 131), .ref (b + 132), .ref (b + 133), .int (nI op), .int (nI be.toNat), .int (nI fi), .int (nI la), .ref (b + 134), .ref (b + 135), .ref (b + 136), .int (nI wa), .ref (b + 137), .ref (b + 138), .ref (b + 139), .int (nI wc), .ref (b + 140), .int (nI kl), .ref (b + 141), .ref (b + 142), .ref (b + 143), .ref (b + 144), .ref (b + 145)]) rfl (Nat.le_of_ble_eq_true rfl) dX7_brackets_37 (fun H locs E3 hP hS hE0 hq => ?_)
    have hE1 := (hq 120 (by decide)).trans hE1
    have hfr : ∀ j, j ≠ 119 → E3 j = E j := fun j h0 => (hq j h0).trans (hfr j h0)
    have hrun0 : wm_go tx (sz - aa) aa (wm_zi z0 1 false rs0 0) = (wm_go tx (sz - aa) aa (wm_zi z0 1 false rs0 0)) := rfl
    refine lv_iconst (v := nI 0) X.1 X.2.1 dX7_brackets_40 (by decide) ?_
    refine lv_istore_n (lv' := [(2, .int (nI 0)), (1, .int (nI 0)), (0, .ref (b + 119))]) X.1 X.2.1 dX7_brackets_41 rfl hl (by decide) rfl (fun ls hl => ?_)
    refine lv_iconst (v := nI 0) X.1 X.2.1 dX7_brackets_42 (by decide) ?_
    refine lv_istore_n (lv' := [(3, .int (nI 0)), (2, .int (nI 0)), (1, .int (nI 0)), (0, .ref (b + 119))]) X.1 X.2.1 dX7_brackets_43 rfl hl (by decide) rfl (fun ls hl => ?_)
    have L44 : ∀ (fu : Nat) (aa1 : Nat) (S1 : Nat) (an : Bool) (md : Nat) (rs : Nat), sz - aa1 < fu → (aa ≤ aa1 ∧ aa1 ≤ sz) → (S1 < 256) → ((an = false ∧ md = 1 ∧ wm_ba tx sz aa1 ≠ 94) ∨ (an = true ∧ aa < aa1 ∧ (md = 5 ∨ (md = 3 ∧ wm_ba tx sz aa1 ≠ 45)))) → (wm_go tx (sz - aa1) aa1 (wm_zi z0 md false rs S1) = (wm_go tx (sz - aa) aa (wm_zi z0 1 false rs0 0))) → ∀ (E4 : Nat → va_E) (H : Heap) (locs : List Loc) (ls : Array Slot), wm_P D b n E4 H → wm_S b s.heap H locs → E4 119 = .inr (7, [.int (nI th), .ref (b + 120), .int (nI sz), .int (nI fa), .int (nI pl), .ref (b + 121), .ref (b + 122), .ref (b + 123), .ref (b + 124), .ref (b + 125), .ref (b + 126), .ref (b + 127), .int (nI ats), .int (nI aa1), .ref (b + 128), .ref (b + 129), .ref (b + 130), .ref (b + 131), .ref (b + 132), .ref (b + 133), .int (nI op), .int (nI be.toNat), .int (nI fi), .int (nI la), .ref (b + 134), .ref (b + 135), .ref (b + 136), .int (nI wa), .ref (b + 137), .ref (b + 138), .ref (b + 139), .int (nI wc), .ref (b + 140), .int (nI kl), .ref (b + 141), .ref (b + 142), .ref (b + 143), .ref (b + 144), .ref (b + 145)]) → E4 120 = wm_I C 200 tx → (∀ j, j ≠ 119 → E4 j = E j) → lv_has ls 7 [(0, .ref (b + 119)), (1, .int (nI false.toNat)), (2, .int (nI S1)), (3, .int (nI an.toNat))] → W p l e R s m args below meth c H locs 0 0 Q (F0 m 44 ls []) := by
      intro fu
      induction fu with
      | zero => intro aa1 S1 an md rs hm; exact absurd hm (Nat.not_lt_zero _)
      | succ fu ih44 =>
        intro aa1 S1 an md rs hm haa hS1 hmo hrun E4 H locs ls hP hS hE0 hE1 hfr hl
        have hbl := wm_ba_lt (sz := sz) (i := aa1) htx
        refine lv_aload_n X.1 X.2.1 dX7_brackets_44 rfl (lv_at hl 0 rfl) ?_
        refine wm_get X hP hlt0 hE0 rfl wm_inX7 3 (by decide) wq5_25 rfl dX7_brackets_45 ?_
        refine wm_if_ne (x := fa) (tgt := 223) X (by omega) dX7_brackets_48 (by decide) (fun hc48 => ?_) (fun hc48 => ?_)
        · exact absurd hc48 (fun q => q hf)
        · refine lv_iload_n X.1 X.2.1 dX7_brackets_51 rfl (lv_at hl 3 rfl) ?_
          refine wm_ifz_eq (x := an) (tgt := 68) X dX7_brackets_52 (by decide) (fun hc52 => ?_) (fun hc52 => ?_)
          · refine lv_aload_n X.1 X.2.1 dX7_brackets_68 rfl (lv_at hl 0 rfl) ?_
            refine lv_aload_n X.1 X.2.1 dX7_brackets_69 rfl (lv_at hl 0 rfl) ?_
            refine wm_get X hP hlt0 hE0 rfl wm_inX7 13 (by decide) wq5_35 rfl dX7_brackets_70 ?_
            refine wm_callVi (k := 1) (As := [.int (nI aa1)]) (rest := []) X hP hS hlt0 hE0 rfl (kX7_byteAt l D C b n E4 th sz fa pl ats aa1 op fi la wa wc kl be aa1 tx hlt0 hE0 hlt1 hE1 (by omega) (by omega)) wq5_173 wq5_175 wqP3_3 wq1_8 wq5_176 (by decide) (by rw [hRe]; exact ⟨Nat.le_of_ble_eq_true rfl, Nat.le_of_ble_eq_true rfl⟩) rfl hl.1 rfl (Nat.le_of_ble_eq_true rfl) (Nat.zero_le _) (Nat.zero_le _) dX7_brackets_73 (fun r7 E7 H locs hw hP hS => ?_)
            obtain ⟨hrt, hEe⟩ := hw
            subst hrt
            subst hEe
            refine lv_istore (lv' := [(4, .int (nI (wm_ba tx sz aa1))), (0, .ref (b + 119)), (1, .int (nI false.toNat)), (2, .int (nI S1)), (3, .int (nI an.toNat))]) X.1 X.2.1 dX7_brackets_76 hl (by decide) rfl (fun ls hl => ?_)
            refine lv_iload X.1 X.2.1 dX7_brackets_78 (lv_at hl 0 rfl) ?_
            refine wm_callSi (k := 1) (As := [.int (nI (wm_ba tx sz aa1))]) (rest := []) X hP hS  (kX7_isLetter l D C b n E4 (wm_ba tx sz aa1) (wm_ba_lt htx)) wq5_177 wq5_178 wq1_8 wq5_179 (by decide) (by rw [hRe]; exact ⟨Nat.le_of_ble_eq_true rfl, Nat.le_of_ble_eq_true rfl⟩) rfl hl.1 rfl (Nat.le_of_ble_eq_true rfl) (Nat.zero_le _) (Nat.zero_le _) dX7_brackets_80 (fun r8 E8 H locs hw hP hS => ?_)
            obtain ⟨hrt, hEe⟩ := hw
            subst hrt
            subst hEe
            refine wm_ifz_ne (x := (decide (97 ≤ (wm_ba tx sz aa1) ∧ (wm_ba tx sz aa1) ≤ 104))) (tgt := 97) X dX7_brackets_83 (by decide) (fun hc83 => ?_) (fun hc83 => ?_)
            · have hlt9 := of_decide_eq_true hc83
              have hfl : aa1 < sz ∧ tx aa1 = wm_ba tx sz aa1 := wm_ba_lt2 (by omega)
              have hrun1 := wm_gs tx hrun hfl.1 (by rw [hfl.2]; exact wm_bl1 z0 (by omega) (by omega) hlt9)
              refine lv_aload_n X.1 X.2.1 dX7_brackets_97 rfl (lv_at hl 1 rfl) ?_
              refine lv_dup X.1 X.2.1 dX7_brackets_98 rfl ?_
              refine wm_get X hP hlt0 hE0 rfl wm_inX7 13 (by decide) wq5_35 rfl dX7_brackets_99 ?_
              refine lv_iconst (v := nI 1) X.1 X.2.1 dX7_brackets_102 (by decide) ?_
              refine wm_iadd (x := aa1) (y := 1) X dX7_brackets_103 ?_
              refine wm_put (v := .int (nI (aa1 + 1))) X hP hS hlt0 hE0 rfl wm_inX7 tyX7 tyX7_ok nmX7 13 (by decide) wq5_35 rfl rfl rfl (fs1 := [.int (nI th), .ref (b + 120), .int (nI sz), .int (nI fa), .int (nI pl), .ref (b + 121), .ref (b + 122), .ref (b + 123), .ref (b + 124), .ref (b + 125), .ref (b + 126), .ref (b + 127), .int (nI ats), .int (nI (aa1 + 1)), .ref (b + 128), .ref (b + 129), .ref (b + 130), .ref (b + 131), .ref (b + 132), .ref (b + 133), .int (nI op), .int (nI be.toNat), .int (nI fi), .int (nI la), .ref (b + 134), .ref (b + 135), .ref (b + 136), .int (nI wa), .ref (b + 137), .ref (b + 138), .ref (b + 139), .int (nI wc), .ref (b + 140), .int (nI kl), .ref (b + 141), .ref (b + 142), .ref (b + 143), .ref (b + 144), .ref (b + 145)]) rfl (Nat.le_of_ble_eq_true rfl) dX7_brackets_104 (fun H locs E10 hP hS hE0 hq => ?_)
              have hE1 := (hq 120 (by decide)).trans hE1
              have hfr : ∀ j, j ≠ 119 → E10 j = E j := fun j h0 => (hq j h0).trans (hfr j h0)
              refine lv_iload X.1 X.2.1 dX7_brackets_107 (lv_at hl 0 rfl) ?_
              refine lv_istore (lv' := [(5, .int (nI (wm_ba tx sz aa1))), (4, .int (nI (wm_ba tx sz aa1))), (0, .ref (b + 119)), (1, .int (nI false.toNat)), (2, .int (nI S1)), (3, .int (nI an.toNat))]) X.1 X.2.1 dX7_brackets_109 hl (by decide) rfl (fun ls hl => ?_)
              refine lv_aload_n X.1 X.2.1 dX7_brackets_111 rfl (lv_at hl 2 rfl) ?_
              refine lv_aload_n X.1 X.2.1 dX7_brackets_112 rfl (lv_at hl 2 rfl) ?_
              refine wm_get X hP hlt0 hE0 rfl wm_inX7 13 (by decide) wq5_35 rfl dX7_brackets_113 ?_
              refine wm_callVi (k := 1) (As := [.int (nI (aa1 + 1))]) (rest := []) X hP hS hlt0 hE0 rfl (kX7_byteAt l D C b n E10 th sz fa pl ats (aa1 + 1) op fi la wa wc kl be (aa1 + 1) tx hlt0 hE0 hlt1 hE1 (by omega) (by omega)) wq5_173 wq5_175 wqP3_3 wq1_8 wq5_176 (by decide) (by rw [hRe]; exact ⟨Nat.le_of_ble_eq_true rfl, Nat.le_of_ble_eq_true rfl⟩) rfl hl.1 rfl (Nat.le_of_ble_eq_true rfl) (Nat.zero_le _) (Nat.zero_le _) dX7_brackets_116 (fun r11 E11 H locs hw hP hS => ?_)
              obtain ⟨hrt, hEe⟩ := hw
              subst hrt
              subst hEe
              refine lv_bipush (v := nI 45) X.1 X.2.1 dX7_brackets_119 (by decide) ?_
              refine wm_icmp_ne (x := (wm_ba tx sz (aa1 + 1))) (y := 45) (tgt := 191) X (wm_ba_32 htx) (by decide) dX7_brackets_121 (by decide) (fun hc121 => ?_) (fun hc121 => ?_)
              · refine lv_iload X.1 X.2.1 dX7_brackets_191 (lv_at hl 1 rfl) ?_
                refine lv_istore (lv' := [(6, .int (nI (wm_ba tx sz aa1))), (5, .int (nI (wm_ba tx sz aa1))), (4, .int (nI (wm_ba tx sz aa1))), (0, .ref (b + 119)), (1, .int (nI false.toNat)), (2, .int (nI S1)), (3, .int (nI an.toNat))]) X.1 X.2.1 dX7_brackets_193 hl (by decide) rfl (fun ls hl => ?_)
                have L195 : ∀ (fu : Nat) (cc : Nat) (S2 : Nat), 105 - cc < fu → (wm_ba tx sz aa1 ≤ cc) → (cc ≤ wm_ba tx sz aa1 + 1) → (S2 = wm_rg S1 (wm_ba tx sz aa1 - 97) (cc - 97)) → ∀ (E13 : Nat → va_E) (H : Heap) (locs : List Loc) (ls : Array Slot), wm_P D b n E13 H → wm_S b s.heap H locs → E13 119 = .inr (7, [.int (nI th), .ref (b + 120), .int (nI sz), .int (nI fa), .int (nI pl), .ref (b + 121), .ref (b + 122), .ref (b + 123), .ref (b + 124), .ref (b + 125), .ref (b + 126), .ref (b + 127), .int (nI ats), .int (nI (aa1 + 1)), .ref (b + 128), .ref (b + 129), .ref (b + 130), .ref (b + 131), .ref (b + 132), .ref (b + 133), .int (nI op), .int (nI be.toNat), .int (nI fi), .int (nI la), .ref (b + 134), .ref (b + 135), .ref (b + 136), .int (nI wa), .ref (b + 137), .ref (b + 138), .ref (b + 139), .int (nI wc), .ref (b + 140), .int (nI kl), .ref (b + 141), .ref (b + 142), .ref (b + 143), .ref (b + 144), .ref (b + 145)]) → E13 120 = wm_I C 200 tx → (∀ j, j ≠ 119 → E13 j = E j) → lv_has ls 7 [(0, .ref (b + 119)), (1, .int (nI false.toNat)), (2, .int (nI S2)), (4, .int (nI (wm_ba tx sz aa1))), (5, .int (nI (wm_ba tx sz aa1))), (6, .int (nI cc))] → W p l e R s m args below meth c H locs 0 0 Q (F0 m 195 ls []) := by
                  intro fu
                  induction fu with
                  | zero => intro cc S2 hm; exact absurd hm (Nat.not_lt_zero _)
                  | succ fu ih195 =>
                    intro cc S2 hm hcc1 hcc2 hS2 E13 H locs ls hP hS hE0 hE1 hfr hl
                    refine lv_iload X.1 X.2.1 dX7_brackets_195 (lv_at hl 5 rfl) ?_
                    refine lv_iload X.1 X.2.1 dX7_brackets_197 (lv_at hl 4 rfl) ?_
                    refine wm_icmp_gt (x := cc) (y := (wm_ba tx sz aa1)) (tgt := 218) X (by omega) (by omega) dX7_brackets_199 (by decide) (fun hc199 => ?_) (fun hc199 => ?_)
                    · refine lv_iconst (v := nI 1) X.1 X.2.1 dX7_brackets_218 (by decide) ?_
                      refine lv_istore_n (lv' := [(3, .int (nI 1)), (0, .ref (b + 119)), (1, .int (nI false.toNat)), (2, .int (nI S2)), (4, .int (nI (wm_ba tx sz aa1))), (5, .int (nI (wm_ba tx sz aa1))), (6, .int (nI cc))]) X.1 X.2.1 dX7_brackets_219 rfl hl (by decide) rfl (fun ls hl => ?_)
                      refine lv_goto (tgt := 44) X.1 X.2.1 dX7_brackets_220 (by decide) ?_
                      have hcc : cc = wm_ba tx sz aa1 + 1 := by omega
                      have hS3 : S2 = S1 ||| 1 <<< (wm_ba tx sz aa1 - 97) := by rw [hS2, hcc, show wm_ba tx sz aa1 + 1 - 97 = wm_ba tx sz aa1 - 97 + 1 by omega]; exact wm_rgy
                      exact ih44 (aa1 + 1) S2 true 3 ((wm_ba tx sz aa1) - 97) (by omega) (by omega) (by rw [hS2]; exact wm_rg_b8 hS1 (by omega)) (Or.inr ⟨rfl, by omega, Or.inr ⟨rfl, hc121⟩⟩) (by rw [hS3]; exact hrun1) E13 _ _ _ hP hS hE0 hE1 hfr (lv_sub hl [1, 2, 3, 0] rfl)
                    · refine lv_iload_n X.1 X.2.1 dX7_brackets_202 rfl (lv_at hl 2 rfl) ?_
                      refine lv_iconst (v := nI 1) X.1 X.2.1 dX7_brackets_203 (by decide) ?_
                      refine lv_iload X.1 X.2.1 dX7_brackets_204 (lv_at hl 5 rfl) ?_
                      refine lv_bipush (v := nI 97) X.1 X.2.1 dX7_brackets_206 (by decide) ?_
                      refine wm_isub (x := cc) (y := 97) X (by omega) dX7_brackets_208 ?_
                      refine wm_ishl (x := 1) (y := (cc - 97)) X (by omega) dX7_brackets_209 ?_
                      refine wm_ior (x := S2) (y := (1 <<< (cc - 97))) X dX7_brackets_210 ?_
                      refine lv_istore_n (lv' := [(2, .int (nI (S2 ||| (1 <<< (cc - 97))))), (0, .ref (b + 119)), (1, .int (nI false.toNat)), (4, .int (nI (wm_ba tx sz aa1))), (5, .int (nI (wm_ba tx sz aa1))), (6, .int (nI cc))]) X.1 X.2.1 dX7_brackets_211 rfl hl (by decide) rfl (fun ls hl => ?_)
                      refine lv_iinc (v := nI (cc + 1)) (lv' := [(6, .int (nI (cc + 1))), (2, .int (nI (S2 ||| (1 <<< (cc - 97))))), (0, .ref (b + 119)), (1, .int (nI false.toNat)), (4, .int (nI (wm_ba tx sz aa1))), (5, .int (nI (wm_ba tx sz aa1)))]) X.1 X.2.1 dX7_brackets_212 hl (k := 5) rfl (wm_inc cc) (by decide) rfl (fun ls hl => ?_)
                      refine lv_goto (tgt := 195) X.1 X.2.1 dX7_brackets_215 (by decide) ?_
                      exact ih195 (cc + 1) (S2 ||| (1 <<< (cc - 97))) (by omega) (by omega) (by omega) (by rw [hS2, show cc + 1 - 97 = cc - 97 + 1 by omega]; exact wm_rg1 (by omega)) E13 _ _ _ hP hS hE0 hE1 hfr (lv_sub hl [2, 3, 1, 4, 5, 0] rfl)
                exact L195 (105 - (wm_ba tx sz aa1) + 1) (wm_ba tx sz aa1) S1 (Nat.lt_succ_self _) (Nat.le_refl _) (by omega) (wm_rg0 _ _) E10 _ _ _ hP hS hE0 hE1 hfr (lv_sub hl [3, 4, 5, 2, 1, 0] rfl)
              · have hd9 := wm_ba_in hc121 (by decide)
                have hrun2 := wm_gs tx hrun1 hd9.1 (by rw [hd9.2]; exact wm_bl4 z0)
                refine lv_aload_n X.1 X.2.1 dX7_brackets_124 rfl (lv_at hl 2 rfl) ?_
                refine lv_dup X.1 X.2.1 dX7_brackets_125 rfl ?_
                refine wm_get X hP hlt0 hE0 rfl wm_inX7 13 (by decide) wq5_35 rfl dX7_brackets_126 ?_
                refine lv_iconst (v := nI 1) X.1 X.2.1 dX7_brackets_129 (by decide) ?_
                refine wm_iadd (x := (aa1 + 1)) (y := 1) X dX7_brackets_130 ?_
                refine wm_put (v := .int (nI ((aa1 + 1) + 1))) X hP hS hlt0 hE0 rfl wm_inX7 tyX7 tyX7_ok nmX7 13 (by decide) wq5_35 rfl rfl rfl (fs1 := [.int (nI th), .ref (b + 120), .int (nI sz), .int (nI fa), .int (nI pl), .ref (b + 121), .ref (b + 122), .ref (b + 123), .ref (b + 124), .ref (b + 125), .ref (b + 126), .ref (b + 127), .int (nI ats), .int (nI ((aa1 + 1) + 1)), .ref (b + 128), .ref (b + 129), .ref (b + 130), .ref (b + 131), .ref (b + 132), .ref (b + 133), .int (nI op), .int (nI be.toNat), .int (nI fi), .int (nI la), .ref (b + 134), .ref (b + 135), .ref (b + 136), .int (nI wa), .ref (b + 137), .ref (b + 138), .ref (b + 139), .int (nI wc), .ref (b + 140), .int (nI kl), .ref (b + 141), .ref (b + 142), .ref (b + 143), .ref (b + 144), .ref (b + 145)]) rfl (Nat.le_of_ble_eq_true rfl) dX7_brackets_131 (fun H locs E15 hP hS hE0 hq => ?_)
                have hE1 := (hq 120 (by decide)).trans hE1
                have hfr : ∀ j, j ≠ 119 → E15 j = E j := fun j h0 => (hq j h0).trans (hfr j h0)
                refine lv_aload_n X.1 X.2.1 dX7_brackets_134 rfl (lv_at hl 2 rfl) ?_
                refine lv_aload_n X.1 X.2.1 dX7_brackets_135 rfl (lv_at hl 2 rfl) ?_
                refine wm_get X hP hlt0 hE0 rfl wm_inX7 13 (by decide) wq5_35 rfl dX7_brackets_136 ?_
                refine wm_callVi (k := 1) (As := [.int (nI ((aa1 + 1) + 1))]) (rest := []) X hP hS hlt0 hE0 rfl (kX7_byteAt l D C b n E15 th sz fa pl ats ((aa1 + 1) + 1) op fi la wa wc kl be ((aa1 + 1) + 1) tx hlt0 hE0 hlt1 hE1 (by omega) (by omega)) wq5_173 wq5_175 wqP3_3 wq1_8 wq5_176 (by decide) (by rw [hRe]; exact ⟨Nat.le_of_ble_eq_true rfl, Nat.le_of_ble_eq_true rfl⟩) rfl hl.1 rfl (Nat.le_of_ble_eq_true rfl) (Nat.zero_le _) (Nat.zero_le _) dX7_brackets_139 (fun r16 E16 H locs hw hP hS => ?_)
                obtain ⟨hrt, hEe⟩ := hw
                subst hrt
                subst hEe
                refine lv_istore (lv' := [(5, .int (nI (wm_ba tx sz ((aa1 + 1) + 1)))), (4, .int (nI (wm_ba tx sz aa1))), (0, .ref (b + 119)), (1, .int (nI false.toNat)), (2, .int (nI S1)), (3, .int (nI an.toNat))]) X.1 X.2.1 dX7_brackets_142 hl (by decide) rfl (fun ls hl => ?_)
                refine lv_iload X.1 X.2.1 dX7_brackets_144 (lv_at hl 0 rfl) ?_
                refine wm_callSi (k := 1) (As := [.int (nI (wm_ba tx sz ((aa1 + 1) + 1)))]) (rest := []) X hP hS  (kX7_isLetter l D C b n E15 (wm_ba tx sz ((aa1 + 1) + 1)) (wm_ba_lt htx)) wq5_177 wq5_178 wq1_8 wq5_179 (by decide) (by rw [hRe]; exact ⟨Nat.le_of_ble_eq_true rfl, Nat.le_of_ble_eq_true rfl⟩) rfl hl.1 rfl (Nat.le_of_ble_eq_true rfl) (Nat.zero_le _) (Nat.zero_le _) dX7_brackets_146 (fun r17 E17 H locs hw hP hS => ?_)
                obtain ⟨hrt, hEe⟩ := hw
                subst hrt
                subst hEe
                refine wm_ifz_ne (x := (decide (97 ≤ (wm_ba tx sz ((aa1 + 1) + 1)) ∧ (wm_ba tx sz ((aa1 + 1) + 1)) ≤ 104))) (tgt := 163) X dX7_brackets_149 (by decide) (fun hc149 => ?_) (fun hc149 => ?_)
                · have hlt8 := of_decide_eq_true hc149
                  have htl : aa1 + 1 + 1 < sz ∧ tx (aa1 + 1 + 1) = wm_ba tx sz (aa1 + 1 + 1) := wm_ba_lt2 (by omega)
                  refine lv_iload X.1 X.2.1 dX7_brackets_163 (lv_at hl 0 rfl) ?_
                  refine lv_iload X.1 X.2.1 dX7_brackets_165 (lv_at hl 1 rfl) ?_
                  refine wm_icmp_ge (x := (wm_ba tx sz ((aa1 + 1) + 1))) (y := (wm_ba tx sz aa1)) (tgt := 181) X (by have := of_decide_eq_true hc149; omega) (by have := of_decide_eq_true hc83; omega) dX7_brackets_167 (by decide) (fun hc167 => ?_) (fun hc167 => ?_)
                  · have hrun3 := wm_gs tx hrun2 htl.1 (by rw [htl.2]; exact wm_bl2 z0 hlt8 (by omega))
                    refine lv_aload_n X.1 X.2.1 dX7_brackets_181 rfl (lv_at hl 2 rfl) ?_
                    refine lv_dup X.1 X.2.1 dX7_brackets_182 rfl ?_
                    refine wm_get X hP hlt0 hE0 rfl wm_inX7 13 (by decide) wq5_35 rfl dX7_brackets_183 ?_
                    refine lv_iconst (v := nI 1) X.1 X.2.1 dX7_brackets_186 (by decide) ?_
                    refine wm_iadd (x := ((aa1 + 1) + 1)) (y := 1) X dX7_brackets_187 ?_
                    refine wm_put (v := .int (nI (((aa1 + 1) + 1) + 1))) X hP hS hlt0 hE0 rfl wm_inX7 tyX7 tyX7_ok nmX7 13 (by decide) wq5_35 rfl rfl rfl (fs1 := [.int (nI th), .ref (b + 120), .int (nI sz), .int (nI fa), .int (nI pl), .ref (b + 121), .ref (b + 122), .ref (b + 123), .ref (b + 124), .ref (b + 125), .ref (b + 126), .ref (b + 127), .int (nI ats), .int (nI (((aa1 + 1) + 1) + 1)), .ref (b + 128), .ref (b + 129), .ref (b + 130), .ref (b + 131), .ref (b + 132), .ref (b + 133), .int (nI op), .int (nI be.toNat), .int (nI fi), .int (nI la), .ref (b + 134), .ref (b + 135), .ref (b + 136), .int (nI wa), .ref (b + 137), .ref (b + 138), .ref (b + 139), .int (nI wc), .ref (b + 140), .int (nI kl), .ref (b + 141), .ref (b + 142), .ref (b + 143), .ref (b + 144), .ref (b + 145)]) rfl (Nat.le_of_ble_eq_true rfl) dX7_brackets_188 (fun H locs E20 hP hS hE0 hq => ?_)
                    have hE1 := (hq 120 (by decide)).trans hE1
                    have hfr : ∀ j, j ≠ 119 → E20 j = E j := fun j h0 => (hq j h0).trans (hfr j h0)
                    refine lv_iload X.1 X.2.1 dX7_brackets_191 (lv_at hl 1 rfl) ?_
                    refine lv_istore (lv' := [(6, .int (nI (wm_ba tx sz aa1))), (5, .int (nI (wm_ba tx sz ((aa1 + 1) + 1)))), (4, .int (nI (wm_ba tx sz aa1))), (0, .ref (b + 119)), (1, .int (nI false.toNat)), (2, .int (nI S1)), (3, .int (nI an.toNat))]) X.1 X.2.1 dX7_brackets_193 hl (by decide) rfl (fun ls hl => ?_)
                    have L195 : ∀ (fu : Nat) (cc : Nat) (S2 : Nat), 105 - cc < fu → (wm_ba tx sz aa1 ≤ cc) → (cc ≤ wm_ba tx sz ((aa1 + 1) + 1) + 1) → (S2 = wm_rg S1 (wm_ba tx sz aa1 - 97) (cc - 97)) → ∀ (E21 : Nat → va_E) (H : Heap) (locs : List Loc) (ls : Array Slot), wm_P D b n E21 H → wm_S b s.heap H locs → E21 119 = .inr (7, [.int (nI th), .ref (b + 120), .int (nI sz), .int (nI fa), .int (nI pl), .ref (b + 121), .ref (b + 122), .ref (b + 123), .ref (b + 124), .ref (b + 125), .ref (b + 126), .ref (b + 127), .int (nI ats), .int (nI (((aa1 + 1) + 1) + 1)), .ref (b + 128), .ref (b + 129), .ref (b + 130), .ref (b + 131), .ref (b + 132), .ref (b + 133), .int (nI op), .int (nI be.toNat), .int (nI fi), .int (nI la), .ref (b + 134), .ref (b + 135), .ref (b + 136), .int (nI wa), .ref (b + 137), .ref (b + 138), .ref (b + 139), .int (nI wc), .ref (b + 140), .int (nI kl), .ref (b + 141), .ref (b + 142), .ref (b + 143), .ref (b + 144), .ref (b + 145)]) → E21 120 = wm_I C 200 tx → (∀ j, j ≠ 119 → E21 j = E j) → lv_has ls 7 [(0, .ref (b + 119)), (1, .int (nI false.toNat)), (2, .int (nI S2)), (4, .int (nI (wm_ba tx sz aa1))), (5, .int (nI (wm_ba tx sz ((aa1 + 1) + 1)))), (6, .int (nI cc))] → W p l e R s m args below meth c H locs 0 0 Q (F0 m 195 ls []) := by
                      intro fu
                      induction fu with
                      | zero => intro cc S2 hm; exact absurd hm (Nat.not_lt_zero _)
                      | succ fu ih195 =>
                        intro cc S2 hm hcc1 hcc2 hS2 E21 H locs ls hP hS hE0 hE1 hfr hl
                        refine lv_iload X.1 X.2.1 dX7_brackets_195 (lv_at hl 5 rfl) ?_
                        refine lv_iload X.1 X.2.1 dX7_brackets_197 (lv_at hl 4 rfl) ?_
                        refine wm_icmp_gt (x := cc) (y := (wm_ba tx sz ((aa1 + 1) + 1))) (tgt := 218) X (by omega) (by omega) dX7_brackets_199 (by decide) (fun hc199 => ?_) (fun hc199 => ?_)
                        · refine lv_iconst (v := nI 1) X.1 X.2.1 dX7_brackets_218 (by decide) ?_
                          refine lv_istore_n (lv' := [(3, .int (nI 1)), (0, .ref (b + 119)), (1, .int (nI false.toNat)), (2, .int (nI S2)), (4, .int (nI (wm_ba tx sz aa1))), (5, .int (nI (wm_ba tx sz ((aa1 + 1) + 1)))), (6, .int (nI cc))]) X.1 X.2.1 dX7_brackets_219 rfl hl (by decide) rfl (fun ls hl => ?_)
                          refine lv_goto (tgt := 44) X.1 X.2.1 dX7_brackets_220 (by decide) ?_
                          have hcc : cc = wm_ba tx sz (aa1 + 1 + 1) + 1 := by omega
                          have hS3 : S2 = wm_rg (S1 ||| 1 <<< (wm_ba tx sz aa1 - 97)) (wm_ba tx sz aa1 - 97) (wm_ba tx sz (aa1 + 1 + 1) - 97 + 1) := by rw [hS2, hcc, wm_rgx (by omega), show wm_ba tx sz (aa1 + 1 + 1) + 1 - 97 = wm_ba tx sz (aa1 + 1 + 1) - 97 + 1 by omega]
                          exact ih44 (((aa1 + 1) + 1) + 1) S2 true 5 ((wm_ba tx sz aa1) - 97) (by omega) (by omega) (by rw [hS2]; exact wm_rg_b8 hS1 (by omega)) (Or.inr ⟨rfl, by omega, Or.inl rfl⟩) (by rw [hS3]; exact hrun3) E21 _ _ _ hP hS hE0 hE1 hfr (lv_sub hl [1, 2, 3, 0] rfl)
                        · refine lv_iload_n X.1 X.2.1 dX7_brackets_202 rfl (lv_at hl 2 rfl) ?_
                          refine lv_iconst (v := nI 1) X.1 X.2.1 dX7_brackets_203 (by decide) ?_
                          refine lv_iload X.1 X.2.1 dX7_brackets_204 (lv_at hl 5 rfl) ?_
                          refine lv_bipush (v := nI 97) X.1 X.2.1 dX7_brackets_206 (by decide) ?_
                          refine wm_isub (x := cc) (y := 97) X (by omega) dX7_brackets_208 ?_
                          refine wm_ishl (x := 1) (y := (cc - 97)) X (by omega) dX7_brackets_209 ?_
                          refine wm_ior (x := S2) (y := (1 <<< (cc - 97))) X dX7_brackets_210 ?_
                          refine lv_istore_n (lv' := [(2, .int (nI (S2 ||| (1 <<< (cc - 97))))), (0, .ref (b + 119)), (1, .int (nI false.toNat)), (4, .int (nI (wm_ba tx sz aa1))), (5, .int (nI (wm_ba tx sz ((aa1 + 1) + 1)))), (6, .int (nI cc))]) X.1 X.2.1 dX7_brackets_211 rfl hl (by decide) rfl (fun ls hl => ?_)
                          refine lv_iinc (v := nI (cc + 1)) (lv' := [(6, .int (nI (cc + 1))), (2, .int (nI (S2 ||| (1 <<< (cc - 97))))), (0, .ref (b + 119)), (1, .int (nI false.toNat)), (4, .int (nI (wm_ba tx sz aa1))), (5, .int (nI (wm_ba tx sz ((aa1 + 1) + 1))))]) X.1 X.2.1 dX7_brackets_212 hl (k := 5) rfl (wm_inc cc) (by decide) rfl (fun ls hl => ?_)
                          refine lv_goto (tgt := 195) X.1 X.2.1 dX7_brackets_215 (by decide) ?_
                          exact ih195 (cc + 1) (S2 ||| (1 <<< (cc - 97))) (by omega) (by omega) (by omega) (by rw [hS2, show cc + 1 - 97 = cc - 97 + 1 by omega]; exact wm_rg1 (by omega)) E21 _ _ _ hP hS hE0 hE1 hfr (lv_sub hl [2, 3, 1, 4, 5, 0] rfl)
                    exact L195 (105 - (wm_ba tx sz aa1) + 1) (wm_ba tx sz aa1) S1 (Nat.lt_succ_self _) (Nat.le_refl _) (by omega) (wm_rg0 _ _) E20 _ _ _ hP hS hE0 hE1 hfr (lv_sub hl [3, 4, 5, 2, 1, 0] rfl)
                  · refine lv_aload_n X.1 X.2.1 dX7_brackets_170 rfl (lv_at hl 2 rfl) ?_
                    refine lv_iconst (v := nI 4) X.1 X.2.1 dX7_brackets_171 (by decide) ?_
                    refine lv_aload_n X.1 X.2.1 dX7_brackets_172 rfl (lv_at hl 2 rfl) ?_
                    refine wm_get X hP hlt0 hE0 rfl wm_inX7 13 (by decide) wq5_35 rfl dX7_brackets_173 ?_
                    refine wm_callVv (k := 2) (As := [.int (nI 4), .int (nI ((aa1 + 1) + 1))]) (rest := []) X hP hS hlt0 hE0 rfl (kfail1 l D C b n E15 th sz fa pl ats ((aa1 + 1) + 1) op fi la wa wc kl be 4 ((aa1 + 1) + 1) hlt0 hE0 hf) wq5_180 wq5_182 wqP3_4 wq1_8 wq5_183 (by decide) (by rw [hRe]; exact ⟨Nat.le_of_ble_eq_true rfl, Nat.le_of_ble_eq_true rfl⟩) rfl hl.1 rfl (Nat.le_of_ble_eq_true rfl) (Nat.zero_le _) (Nat.zero_le _) dX7_brackets_176 (fun E23 H locs hw hP hS => ?_)
                    obtain ⟨hE0, hq⟩ := hw
                    have hE1 := (hq 120 (by decide)).trans hE1
                    have hfr : ∀ j, j ≠ 119 → E23 j = E j := fun j h0 => (hq j h0).trans (hfr j h0)
                    refine lv_iconst (v := nI 0) X.1 X.2.1 dX7_brackets_179 (by decide) ?_
                    have hb9 := wm_bl2f z0 (nt := false) (S := S1 ||| 1 <<< (wm_ba tx sz aa1 - 97)) (rs := wm_ba tx sz aa1 - 97) hlt8 (by omega)
                    rw [← htl.2] at hb9
                    have hgf := wm_gf tx hrun2 htl.1 hb9 (by decide)
                    exact wm_iret (post := pX7_brackets C b E th sz fa pl ats aa op fi la wa wc kl be rs0 z0 tx) X hr hP hS ⟨4, (aa1 + 1 + 1), (aa1 + 1 + 1), 0, rfl, hE0, hfr, (Or.inr ⟨by decide, by decide, hgf.1, hgf.2⟩)⟩ hQ dX7_brackets_180
                · refine lv_aload_n X.1 X.2.1 dX7_brackets_152 rfl (lv_at hl 2 rfl) ?_
                  refine lv_iconst (v := nI 1) X.1 X.2.1 dX7_brackets_153 (by decide) ?_
                  refine lv_aload_n X.1 X.2.1 dX7_brackets_154 rfl (lv_at hl 2 rfl) ?_
                  refine wm_get X hP hlt0 hE0 rfl wm_inX7 13 (by decide) wq5_35 rfl dX7_brackets_155 ?_
                  refine wm_callVv (k := 2) (As := [.int (nI 1), .int (nI ((aa1 + 1) + 1))]) (rest := []) X hP hS hlt0 hE0 rfl (kfail1 l D C b n E15 th sz fa pl ats ((aa1 + 1) + 1) op fi la wa wc kl be 1 ((aa1 + 1) + 1) hlt0 hE0 hf) wq5_180 wq5_182 wqP3_4 wq1_8 wq5_183 (by decide) (by rw [hRe]; exact ⟨Nat.le_of_ble_eq_true rfl, Nat.le_of_ble_eq_true rfl⟩) rfl hl.1 rfl (Nat.le_of_ble_eq_true rfl) (Nat.zero_le _) (Nat.zero_le _) dX7_brackets_158 (fun E24 H locs hw hP hS => ?_)
                  obtain ⟨hE0, hq⟩ := hw
                  have hE1 := (hq 120 (by decide)).trans hE1
                  have hfr : ∀ j, j ≠ 119 → E24 j = E j := fun j h0 => (hq j h0).trans (hfr j h0)
                  refine lv_iconst (v := nI 0) X.1 X.2.1 dX7_brackets_161 (by decide) ?_
                  have hg6 := wm_g6 hrun2 (by decide) (of_decide_eq_false hc149) (by omega) (by omega) (by omega)
                  exact wm_iret (post := pX7_brackets C b E th sz fa pl ats aa op fi la wa wc kl be rs0 z0 tx) X hr hP hS ⟨1, (aa1 + 1 + 1), (aa1 + 1 + 1), 0, rfl, hE0, hfr, (Or.inr ⟨by decide, by decide, hg6.1, hg6.2⟩)⟩ hQ dX7_brackets_162
            · refine lv_aload_n X.1 X.2.1 dX7_brackets_86 rfl (lv_at hl 1 rfl) ?_
              refine lv_iconst (v := nI 1) X.1 X.2.1 dX7_brackets_87 (by decide) ?_
              refine lv_aload_n X.1 X.2.1 dX7_brackets_88 rfl (lv_at hl 1 rfl) ?_
              refine wm_get X hP hlt0 hE0 rfl wm_inX7 13 (by decide) wq5_35 rfl dX7_brackets_89 ?_
              refine wm_callVv (k := 2) (As := [.int (nI 1), .int (nI aa1)]) (rest := []) X hP hS hlt0 hE0 rfl (kfail1 l D C b n E4 th sz fa pl ats aa1 op fi la wa wc kl be 1 aa1 hlt0 hE0 hf) wq5_180 wq5_182 wqP3_4 wq1_8 wq5_183 (by decide) (by rw [hRe]; exact ⟨Nat.le_of_ble_eq_true rfl, Nat.le_of_ble_eq_true rfl⟩) rfl hl.1 rfl (Nat.le_of_ble_eq_true rfl) (Nat.zero_le _) (Nat.zero_le _) dX7_brackets_92 (fun E25 H locs hw hP hS => ?_)
              obtain ⟨hE0, hq⟩ := hw
              have hE1 := (hq 120 (by decide)).trans hE1
              have hfr : ∀ j, j ≠ 119 → E25 j = E j := fun j h0 => (hq j h0).trans (hfr j h0)
              refine lv_iconst (v := nI 0) X.1 X.2.1 dX7_brackets_95 (by decide) ?_
              have hg6 := wm_g6 hrun (by omega) (of_decide_eq_false hc83) (by omega) (by omega) (by exact fun q9 => hmo.elim (fun q => by omega) (fun q => absurd (hc52.symm.trans q.1) (by decide)))
              exact wm_iret (post := pX7_brackets C b E th sz fa pl ats aa op fi la wa wc kl be rs0 z0 tx) X hr hP hS ⟨1, aa1, aa1, 0, rfl, hE0, hfr, (Or.inr ⟨by decide, by decide, hg6.1, hg6.2⟩)⟩ hQ dX7_brackets_96
          · refine lv_aload_n X.1 X.2.1 dX7_brackets_55 rfl (lv_at hl 0 rfl) ?_
            refine lv_aload_n X.1 X.2.1 dX7_brackets_56 rfl (lv_at hl 0 rfl) ?_
            refine wm_get X hP hlt0 hE0 rfl wm_inX7 13 (by decide) wq5_35 rfl dX7_brackets_57 ?_
            refine wm_callVi (k := 1) (As := [.int (nI aa1)]) (rest := []) X hP hS hlt0 hE0 rfl (kX7_byteAt l D C b n E4 th sz fa pl ats aa1 op fi la wa wc kl be aa1 tx hlt0 hE0 hlt1 hE1 (by omega) (by omega)) wq5_173 wq5_175 wqP3_3 wq1_8 wq5_176 (by decide) (by rw [hRe]; exact ⟨Nat.le_of_ble_eq_true rfl, Nat.le_of_ble_eq_true rfl⟩) rfl hl.1 rfl (Nat.le_of_ble_eq_true rfl) (Nat.zero_le _) (Nat.zero_le _) dX7_brackets_60 (fun r26 E26 H locs hw hP hS => ?_)
            obtain ⟨hrt, hEe⟩ := hw
            subst hrt
            subst hEe
            refine lv_bipush (v := nI 93) X.1 X.2.1 dX7_brackets_63 (by decide) ?_
            refine wm_icmp_eq (x := (wm_ba tx sz aa1)) (y := 93) (tgt := 223) X (wm_ba_32 htx) (by decide) dX7_brackets_65 (by decide) (fun hc65 => ?_) (fun hc65 => ?_)
            · refine lv_aload_n X.1 X.2.1 dX7_brackets_223 rfl (lv_at hl 0 rfl) ?_
              refine lv_dup X.1 X.2.1 dX7_brackets_224 rfl ?_
              refine wm_get X hP hlt0 hE0 rfl wm_inX7 13 (by decide) wq5_35 rfl dX7_brackets_225 ?_
              refine lv_iconst (v := nI 1) X.1 X.2.1 dX7_brackets_228 (by decide) ?_
              refine wm_iadd (x := aa1) (y := 1) X dX7_brackets_229 ?_
              refine wm_put (v := .int (nI (aa1 + 1))) X hP hS hlt0 hE0 rfl wm_inX7 tyX7 tyX7_ok nmX7 13 (by decide) wq5_35 rfl rfl rfl (fs1 := [.int (nI th), .ref (b + 120), .int (nI sz), .int (nI fa), .int (nI pl), .ref (b + 121), .ref (b + 122), .ref (b + 123), .ref (b + 124), .ref (b + 125), .ref (b + 126), .ref (b + 127), .int (nI ats), .int (nI (aa1 + 1)), .ref (b + 128), .ref (b + 129), .ref (b + 130), .ref (b + 131), .ref (b + 132), .ref (b + 133), .int (nI op), .int (nI be.toNat), .int (nI fi), .int (nI la), .ref (b + 134), .ref (b + 135), .ref (b + 136), .int (nI wa), .ref (b + 137), .ref (b + 138), .ref (b + 139), .int (nI wc), .ref (b + 140), .int (nI kl), .ref (b + 141), .ref (b + 142), .ref (b + 143), .ref (b + 144), .ref (b + 145)]) rfl (Nat.le_of_ble_eq_true rfl) dX7_brackets_230 (fun H locs E28 hP hS hE0 hq => ?_)
              have hE1 := (hq 120 (by decide)).trans hE1
              have hfr : ∀ j, j ≠ 119 → E28 j = E j := fun j h0 => (hq j h0).trans (hfr j h0)
              refine lv_iload_n X.1 X.2.1 dX7_brackets_233 rfl (lv_at hl 1 rfl) ?_
              refine wm_ifz_eq (x := false) (tgt := 247) X dX7_brackets_234 (by decide) (fun _ => ?_) (fun h => by exfalso; revert h; decide)
              refine lv_iload_n X.1 X.2.1 dX7_brackets_247 rfl (lv_at hl 2 rfl) ?_
              have h93 := wm_ba_in hc65 (by decide)
              have hrun4 := wm_gs tx hrun h93.1 (by rw [h93.2]; exact wm_bl5 z0 (hmo.elim (fun q => absurd (q.1.symm.trans hc52) (by decide)) (fun q => by omega)))
              exact wm_iret (post := pX7_brackets C b E th sz fa pl ats aa op fi la wa wc kl be rs0 z0 tx) X hr hP hS ⟨fa, pl, (aa1 + 1), S1, rfl, hE0, hfr, (Or.inl ⟨hf, rfl, by omega, by omega, hS1, false, rs, hrun4⟩)⟩ hQ dX7_brackets_248
            · refine lv_aload_n X.1 X.2.1 dX7_brackets_68 rfl (lv_at hl 0 rfl) ?_
              refine lv_aload_n X.1 X.2.1 dX7_brackets_69 rfl (lv_at hl 0 rfl) ?_
              refine wm_get X hP hlt0 hE0 rfl wm_inX7 13 (by decide) wq5_35 rfl dX7_brackets_70 ?_
              refine wm_callVi (k := 1) (As := [.int (nI aa1)]) (rest := []) X hP hS hlt0 hE0 rfl (kX7_byteAt l D C b n E4 th sz fa pl ats aa1 op fi la wa wc kl be aa1 tx hlt0 hE0 hlt1 hE1 (by omega) (by omega)) wq5_173 wq5_175 wqP3_3 wq1_8 wq5_176 (by decide) (by rw [hRe]; exact ⟨Nat.le_of_ble_eq_true rfl, Nat.le_of_ble_eq_true rfl⟩) rfl hl.1 rfl (Nat.le_of_ble_eq_true rfl) (Nat.zero_le _) (Nat.zero_le _) dX7_brackets_73 (fun r29 E29 H locs hw hP hS => ?_)
              obtain ⟨hrt, hEe⟩ := hw
              subst hrt
              subst hEe
              refine lv_istore (lv' := [(4, .int (nI (wm_ba tx sz aa1))), (0, .ref (b + 119)), (1, .int (nI false.toNat)), (2, .int (nI S1)), (3, .int (nI an.toNat))]) X.1 X.2.1 dX7_brackets_76 hl (by decide) rfl (fun ls hl => ?_)
              refine lv_iload X.1 X.2.1 dX7_brackets_78 (lv_at hl 0 rfl) ?_
              refine wm_callSi (k := 1) (As := [.int (nI (wm_ba tx sz aa1))]) (rest := []) X hP hS  (kX7_isLetter l D C b n E4 (wm_ba tx sz aa1) (wm_ba_lt htx)) wq5_177 wq5_178 wq1_8 wq5_179 (by decide) (by rw [hRe]; exact ⟨Nat.le_of_ble_eq_true rfl, Nat.le_of_ble_eq_true rfl⟩) rfl hl.1 rfl (Nat.le_of_ble_eq_true rfl) (Nat.zero_le _) (Nat.zero_le _) dX7_brackets_80 (fun r30 E30 H locs hw hP hS => ?_)
              obtain ⟨hrt, hEe⟩ := hw
              subst hrt
              subst hEe
              refine wm_ifz_ne (x := (decide (97 ≤ (wm_ba tx sz aa1) ∧ (wm_ba tx sz aa1) ≤ 104))) (tgt := 97) X dX7_brackets_83 (by decide) (fun hc83 => ?_) (fun hc83 => ?_)
              · have hlt9 := of_decide_eq_true hc83
                have hfl : aa1 < sz ∧ tx aa1 = wm_ba tx sz aa1 := wm_ba_lt2 (by omega)
                have hrun1 := wm_gs tx hrun hfl.1 (by rw [hfl.2]; exact wm_bl1 z0 (by omega) (by omega) hlt9)
                refine lv_aload_n X.1 X.2.1 dX7_brackets_97 rfl (lv_at hl 1 rfl) ?_
                refine lv_dup X.1 X.2.1 dX7_brackets_98 rfl ?_
                refine wm_get X hP hlt0 hE0 rfl wm_inX7 13 (by decide) wq5_35 rfl dX7_brackets_99 ?_
                refine lv_iconst (v := nI 1) X.1 X.2.1 dX7_brackets_102 (by decide) ?_
                refine wm_iadd (x := aa1) (y := 1) X dX7_brackets_103 ?_
                refine wm_put (v := .int (nI (aa1 + 1))) X hP hS hlt0 hE0 rfl wm_inX7 tyX7 tyX7_ok nmX7 13 (by decide) wq5_35 rfl rfl rfl (fs1 := [.int (nI th), .ref (b + 120), .int (nI sz), .int (nI fa), .int (nI pl), .ref (b + 121), .ref (b + 122), .ref (b + 123), .ref (b + 124), .ref (b + 125), .ref (b + 126), .ref (b + 127), .int (nI ats), .int (nI (aa1 + 1)), .ref (b + 128), .ref (b + 129), .ref (b + 130), .ref (b + 131), .ref (b + 132), .ref (b + 133), .int (nI op), .int (nI be.toNat), .int (nI fi), .int (nI la), .ref (b + 134), .ref (b + 135), .ref (b + 136), .int (nI wa), .ref (b + 137), .ref (b + 138), .ref (b + 139), .int (nI wc), .ref (b + 140), .int (nI kl), .ref (b + 141), .ref (b + 142), .ref (b + 143), .ref (b + 144), .ref (b + 145)]) rfl (Nat.le_of_ble_eq_true rfl) dX7_brackets_104 (fun H locs E32 hP hS hE0 hq => ?_)
                have hE1 := (hq 120 (by decide)).trans hE1
                have hfr : ∀ j, j ≠ 119 → E32 j = E j := fun j h0 => (hq j h0).trans (hfr j h0)
                refine lv_iload X.1 X.2.1 dX7_brackets_107 (lv_at hl 0 rfl) ?_
                refine lv_istore (lv' := [(5, .int (nI (wm_ba tx sz aa1))), (4, .int (nI (wm_ba tx sz aa1))), (0, .ref (b + 119)), (1, .int (nI false.toNat)), (2, .int (nI S1)), (3, .int (nI an.toNat))]) X.1 X.2.1 dX7_brackets_109 hl (by decide) rfl (fun ls hl => ?_)
                refine lv_aload_n X.1 X.2.1 dX7_brackets_111 rfl (lv_at hl 2 rfl) ?_
                refine lv_aload_n X.1 X.2.1 dX7_brackets_112 rfl (lv_at hl 2 rfl) ?_
                refine wm_get X hP hlt0 hE0 rfl wm_inX7 13 (by decide) wq5_35 rfl dX7_brackets_113 ?_
                refine wm_callVi (k := 1) (As := [.int (nI (aa1 + 1))]) (rest := []) X hP hS hlt0 hE0 rfl (kX7_byteAt l D C b n E32 th sz fa pl ats (aa1 + 1) op fi la wa wc kl be (aa1 + 1) tx hlt0 hE0 hlt1 hE1 (by omega) (by omega)) wq5_173 wq5_175 wqP3_3 wq1_8 wq5_176 (by decide) (by rw [hRe]; exact ⟨Nat.le_of_ble_eq_true rfl, Nat.le_of_ble_eq_true rfl⟩) rfl hl.1 rfl (Nat.le_of_ble_eq_true rfl) (Nat.zero_le _) (Nat.zero_le _) dX7_brackets_116 (fun r33 E33 H locs hw hP hS => ?_)
                obtain ⟨hrt, hEe⟩ := hw
                subst hrt
                subst hEe
                refine lv_bipush (v := nI 45) X.1 X.2.1 dX7_brackets_119 (by decide) ?_
                refine wm_icmp_ne (x := (wm_ba tx sz (aa1 + 1))) (y := 45) (tgt := 191) X (wm_ba_32 htx) (by decide) dX7_brackets_121 (by decide) (fun hc121 => ?_) (fun hc121 => ?_)
                · refine lv_iload X.1 X.2.1 dX7_brackets_191 (lv_at hl 1 rfl) ?_
                  refine lv_istore (lv' := [(6, .int (nI (wm_ba tx sz aa1))), (5, .int (nI (wm_ba tx sz aa1))), (4, .int (nI (wm_ba tx sz aa1))), (0, .ref (b + 119)), (1, .int (nI false.toNat)), (2, .int (nI S1)), (3, .int (nI an.toNat))]) X.1 X.2.1 dX7_brackets_193 hl (by decide) rfl (fun ls hl => ?_)
                  have L195 : ∀ (fu : Nat) (cc : Nat) (S2 : Nat), 105 - cc < fu → (wm_ba tx sz aa1 ≤ cc) → (cc ≤ wm_ba tx sz aa1 + 1) → (S2 = wm_rg S1 (wm_ba tx sz aa1 - 97) (cc - 97)) → ∀ (E35 : Nat → va_E) (H : Heap) (locs : List Loc) (ls : Array Slot), wm_P D b n E35 H → wm_S b s.heap H locs → E35 119 = .inr (7, [.int (nI th), .ref (b + 120), .int (nI sz), .int (nI fa), .int (nI pl), .ref (b + 121), .ref (b + 122), .ref (b + 123), .ref (b + 124), .ref (b + 125), .ref (b + 126), .ref (b + 127), .int (nI ats), .int (nI (aa1 + 1)), .ref (b + 128), .ref (b + 129), .ref (b + 130), .ref (b + 131), .ref (b + 132), .ref (b + 133), .int (nI op), .int (nI be.toNat), .int (nI fi), .int (nI la), .ref (b + 134), .ref (b + 135), .ref (b + 136), .int (nI wa), .ref (b + 137), .ref (b + 138), .ref (b + 139), .int (nI wc), .ref (b + 140), .int (nI kl), .ref (b + 141), .ref (b + 142), .ref (b + 143), .ref (b + 144), .ref (b + 145)]) → E35 120 = wm_I C 200 tx → (∀ j, j ≠ 119 → E35 j = E j) → lv_has ls 7 [(0, .ref (b + 119)), (1, .int (nI false.toNat)), (2, .int (nI S2)), (4, .int (nI (wm_ba tx sz aa1))), (5, .int (nI (wm_ba tx sz aa1))), (6, .int (nI cc))] → W p l e R s m args below meth c H locs 0 0 Q (F0 m 195 ls []) := by
                    intro fu
                    induction fu with
                    | zero => intro cc S2 hm; exact absurd hm (Nat.not_lt_zero _)
                    | succ fu ih195 =>
                      intro cc S2 hm hcc1 hcc2 hS2 E35 H locs ls hP hS hE0 hE1 hfr hl
                      refine lv_iload X.1 X.2.1 dX7_brackets_195 (lv_at hl 5 rfl) ?_
                      refine lv_iload X.1 X.2.1 dX7_brackets_197 (lv_at hl 4 rfl) ?_
                      refine wm_icmp_gt (x := cc) (y := (wm_ba tx sz aa1)) (tgt := 218) X (by omega) (by omega) dX7_brackets_199 (by decide) (fun hc199 => ?_) (fun hc199 => ?_)
                      · refine lv_iconst (v := nI 1) X.1 X.2.1 dX7_brackets_218 (by decide) ?_
                        refine lv_istore_n (lv' := [(3, .int (nI 1)), (0, .ref (b + 119)), (1, .int (nI false.toNat)), (2, .int (nI S2)), (4, .int (nI (wm_ba tx sz aa1))), (5, .int (nI (wm_ba tx sz aa1))), (6, .int (nI cc))]) X.1 X.2.1 dX7_brackets_219 rfl hl (by decide) rfl (fun ls hl => ?_)
                        refine lv_goto (tgt := 44) X.1 X.2.1 dX7_brackets_220 (by decide) ?_
                        have hcc : cc = wm_ba tx sz aa1 + 1 := by omega
                        have hS3 : S2 = S1 ||| 1 <<< (wm_ba tx sz aa1 - 97) := by rw [hS2, hcc, show wm_ba tx sz aa1 + 1 - 97 = wm_ba tx sz aa1 - 97 + 1 by omega]; exact wm_rgy
                        exact ih44 (aa1 + 1) S2 true 3 ((wm_ba tx sz aa1) - 97) (by omega) (by omega) (by rw [hS2]; exact wm_rg_b8 hS1 (by omega)) (Or.inr ⟨rfl, by omega, Or.inr ⟨rfl, hc121⟩⟩) (by rw [hS3]; exact hrun1) E35 _ _ _ hP hS hE0 hE1 hfr (lv_sub hl [1, 2, 3, 0] rfl)
                      · refine lv_iload_n X.1 X.2.1 dX7_brackets_202 rfl (lv_at hl 2 rfl) ?_
                        refine lv_iconst (v := nI 1) X.1 X.2.1 dX7_brackets_203 (by decide) ?_
                        refine lv_iload X.1 X.2.1 dX7_brackets_204 (lv_at hl 5 rfl) ?_
                        refine lv_bipush (v := nI 97) X.1 X.2.1 dX7_brackets_206 (by decide) ?_
                        refine wm_isub (x := cc) (y := 97) X (by omega) dX7_brackets_208 ?_
                        refine wm_ishl (x := 1) (y := (cc - 97)) X (by omega) dX7_brackets_209 ?_
                        refine wm_ior (x := S2) (y := (1 <<< (cc - 97))) X dX7_brackets_210 ?_
                        refine lv_istore_n (lv' := [(2, .int (nI (S2 ||| (1 <<< (cc - 97))))), (0, .ref (b + 119)), (1, .int (nI false.toNat)), (4, .int (nI (wm_ba tx sz aa1))), (5, .int (nI (wm_ba tx sz aa1))), (6, .int (nI cc))]) X.1 X.2.1 dX7_brackets_211 rfl hl (by decide) rfl (fun ls hl => ?_)
                        refine lv_iinc (v := nI (cc + 1)) (lv' := [(6, .int (nI (cc + 1))), (2, .int (nI (S2 ||| (1 <<< (cc - 97))))), (0, .ref (b + 119)), (1, .int (nI false.toNat)), (4, .int (nI (wm_ba tx sz aa1))), (5, .int (nI (wm_ba tx sz aa1)))]) X.1 X.2.1 dX7_brackets_212 hl (k := 5) rfl (wm_inc cc) (by decide) rfl (fun ls hl => ?_)
                        refine lv_goto (tgt := 195) X.1 X.2.1 dX7_brackets_215 (by decide) ?_
                        exact ih195 (cc + 1) (S2 ||| (1 <<< (cc - 97))) (by omega) (by omega) (by omega) (by rw [hS2, show cc + 1 - 97 = cc - 97 + 1 by omega]; exact wm_rg1 (by omega)) E35 _ _ _ hP hS hE0 hE1 hfr (lv_sub hl [2, 3, 1, 4, 5, 0] rfl)
                  exact L195 (105 - (wm_ba tx sz aa1) + 1) (wm_ba tx sz aa1) S1 (Nat.lt_succ_self _) (Nat.le_refl _) (by omega) (wm_rg0 _ _) E32 _ _ _ hP hS hE0 hE1 hfr (lv_sub hl [3, 4, 5, 2, 1, 0] rfl)
                · have hd9 := wm_ba_in hc121 (by decide)
                  have hrun2 := wm_gs tx hrun1 hd9.1 (by rw [hd9.2]; exact wm_bl4 z0)
                  refine lv_aload_n X.1 X.2.1 dX7_brackets_124 rfl (lv_at hl 2 rfl) ?_
                  refine lv_dup X.1 X.2.1 dX7_brackets_125 rfl ?_
                  refine wm_get X hP hlt0 hE0 rfl wm_inX7 13 (by decide) wq5_35 rfl dX7_brackets_126 ?_
                  refine lv_iconst (v := nI 1) X.1 X.2.1 dX7_brackets_129 (by decide) ?_
                  refine wm_iadd (x := (aa1 + 1)) (y := 1) X dX7_brackets_130 ?_
                  refine wm_put (v := .int (nI ((aa1 + 1) + 1))) X hP hS hlt0 hE0 rfl wm_inX7 tyX7 tyX7_ok nmX7 13 (by decide) wq5_35 rfl rfl rfl (fs1 := [.int (nI th), .ref (b + 120), .int (nI sz), .int (nI fa), .int (nI pl), .ref (b + 121), .ref (b + 122), .ref (b + 123), .ref (b + 124), .ref (b + 125), .ref (b + 126), .ref (b + 127), .int (nI ats), .int (nI ((aa1 + 1) + 1)), .ref (b + 128), .ref (b + 129), .ref (b + 130), .ref (b + 131), .ref (b + 132), .ref (b + 133), .int (nI op), .int (nI be.toNat), .int (nI fi), .int (nI la), .ref (b + 134), .ref (b + 135), .ref (b + 136), .int (nI wa), .ref (b + 137), .ref (b + 138), .ref (b + 139), .int (nI wc), .ref (b + 140), .int (nI kl), .ref (b + 141), .ref (b + 142), .ref (b + 143), .ref (b + 144), .ref (b + 145)]) rfl (Nat.le_of_ble_eq_true rfl) dX7_brackets_131 (fun H locs E37 hP hS hE0 hq => ?_)
                  have hE1 := (hq 120 (by decide)).trans hE1
                  have hfr : ∀ j, j ≠ 119 → E37 j = E j := fun j h0 => (hq j h0).trans (hfr j h0)
                  refine lv_aload_n X.1 X.2.1 dX7_brackets_134 rfl (lv_at hl 2 rfl) ?_
                  refine lv_aload_n X.1 X.2.1 dX7_brackets_135 rfl (lv_at hl 2 rfl) ?_
                  refine wm_get X hP hlt0 hE0 rfl wm_inX7 13 (by decide) wq5_35 rfl dX7_brackets_136 ?_
                  refine wm_callVi (k := 1) (As := [.int (nI ((aa1 + 1) + 1))]) (rest := []) X hP hS hlt0 hE0 rfl (kX7_byteAt l D C b n E37 th sz fa pl ats ((aa1 + 1) + 1) op fi la wa wc kl be ((aa1 + 1) + 1) tx hlt0 hE0 hlt1 hE1 (by omega) (by omega)) wq5_173 wq5_175 wqP3_3 wq1_8 wq5_176 (by decide) (by rw [hRe]; exact ⟨Nat.le_of_ble_eq_true rfl, Nat.le_of_ble_eq_true rfl⟩) rfl hl.1 rfl (Nat.le_of_ble_eq_true rfl) (Nat.zero_le _) (Nat.zero_le _) dX7_brackets_139 (fun r38 E38 H locs hw hP hS => ?_)
                  obtain ⟨hrt, hEe⟩ := hw
                  subst hrt
                  subst hEe
                  refine lv_istore (lv' := [(5, .int (nI (wm_ba tx sz ((aa1 + 1) + 1)))), (4, .int (nI (wm_ba tx sz aa1))), (0, .ref (b + 119)), (1, .int (nI false.toNat)), (2, .int (nI S1)), (3, .int (nI an.toNat))]) X.1 X.2.1 dX7_brackets_142 hl (by decide) rfl (fun ls hl => ?_)
                  refine lv_iload X.1 X.2.1 dX7_brackets_144 (lv_at hl 0 rfl) ?_
                  refine wm_callSi (k := 1) (As := [.int (nI (wm_ba tx sz ((aa1 + 1) + 1)))]) (rest := []) X hP hS  (kX7_isLetter l D C b n E37 (wm_ba tx sz ((aa1 + 1) + 1)) (wm_ba_lt htx)) wq5_177 wq5_178 wq1_8 wq5_179 (by decide) (by rw [hRe]; exact ⟨Nat.le_of_ble_eq_true rfl, Nat.le_of_ble_eq_true rfl⟩) rfl hl.1 rfl (Nat.le_of_ble_eq_true rfl) (Nat.zero_le _) (Nat.zero_le _) dX7_brackets_146 (fun r39 E39 H locs hw hP hS => ?_)
                  obtain ⟨hrt, hEe⟩ := hw
                  subst hrt
                  subst hEe
                  refine wm_ifz_ne (x := (decide (97 ≤ (wm_ba tx sz ((aa1 + 1) + 1)) ∧ (wm_ba tx sz ((aa1 + 1) + 1)) ≤ 104))) (tgt := 163) X dX7_brackets_149 (by decide) (fun hc149 => ?_) (fun hc149 => ?_)
                  · have hlt8 := of_decide_eq_true hc149
                    have htl : aa1 + 1 + 1 < sz ∧ tx (aa1 + 1 + 1) = wm_ba tx sz (aa1 + 1 + 1) := wm_ba_lt2 (by omega)
                    refine lv_iload X.1 X.2.1 dX7_brackets_163 (lv_at hl 0 rfl) ?_
                    refine lv_iload X.1 X.2.1 dX7_brackets_165 (lv_at hl 1 rfl) ?_
                    refine wm_icmp_ge (x := (wm_ba tx sz ((aa1 + 1) + 1))) (y := (wm_ba tx sz aa1)) (tgt := 181) X (by have := of_decide_eq_true hc149; omega) (by have := of_decide_eq_true hc83; omega) dX7_brackets_167 (by decide) (fun hc167 => ?_) (fun hc167 => ?_)
                    · have hrun3 := wm_gs tx hrun2 htl.1 (by rw [htl.2]; exact wm_bl2 z0 hlt8 (by omega))
                      refine lv_aload_n X.1 X.2.1 dX7_brackets_181 rfl (lv_at hl 2 rfl) ?_
                      refine lv_dup X.1 X.2.1 dX7_brackets_182 rfl ?_
                      refine wm_get X hP hlt0 hE0 rfl wm_inX7 13 (by decide) wq5_35 rfl dX7_brackets_183 ?_
                      refine lv_iconst (v := nI 1) X.1 X.2.1 dX7_brackets_186 (by decide) ?_
                      refine wm_iadd (x := ((aa1 + 1) + 1)) (y := 1) X dX7_brackets_187 ?_
                      refine wm_put (v := .int (nI (((aa1 + 1) + 1) + 1))) X hP hS hlt0 hE0 rfl wm_inX7 tyX7 tyX7_ok nmX7 13 (by decide) wq5_35 rfl rfl rfl (fs1 := [.int (nI th), .ref (b + 120), .int (nI sz), .int (nI fa), .int (nI pl), .ref (b + 121), .ref (b + 122), .ref (b + 123), .ref (b + 124), .ref (b + 125), .ref (b + 126), .ref (b + 127), .int (nI ats), .int (nI (((aa1 + 1) + 1) + 1)), .ref (b + 128), .ref (b + 129), .ref (b + 130), .ref (b + 131), .ref (b + 132), .ref (b + 133), .int (nI op), .int (nI be.toNat), .int (nI fi), .int (nI la), .ref (b + 134), .ref (b + 135), .ref (b + 136), .int (nI wa), .ref (b + 137), .ref (b + 138), .ref (b + 139), .int (nI wc), .ref (b + 140), .int (nI kl), .ref (b + 141), .ref (b + 142), .ref (b + 143), .ref (b + 144), .ref (b + 145)]) rfl (Nat.le_of_ble_eq_true rfl) dX7_brackets_188 (fun H locs E42 hP hS hE0 hq => ?_)
                      have hE1 := (hq 120 (by decide)).trans hE1
                      have hfr : ∀ j, j ≠ 119 → E42 j = E j := fun j h0 => (hq j h0).trans (hfr j h0)
                      refine lv_iload X.1 X.2.1 dX7_brackets_191 (lv_at hl 1 rfl) ?_
                      refine lv_istore (lv' := [(6, .int (nI (wm_ba tx sz aa1))), (5, .int (nI (wm_ba tx sz ((aa1 + 1) + 1)))), (4, .int (nI (wm_ba tx sz aa1))), (0, .ref (b + 119)), (1, .int (nI false.toNat)), (2, .int (nI S1)), (3, .int (nI an.toNat))]) X.1 X.2.1 dX7_brackets_193 hl (by decide) rfl (fun ls hl => ?_)
                      have L195 : ∀ (fu : Nat) (cc : Nat) (S2 : Nat), 105 - cc < fu → (wm_ba tx sz aa1 ≤ cc) → (cc ≤ wm_ba tx sz ((aa1 + 1) + 1) + 1) → (S2 = wm_rg S1 (wm_ba tx sz aa1 - 97) (cc - 97)) → ∀ (E43 : Nat → va_E) (H : Heap) (locs : List Loc) (ls : Array Slot), wm_P D b n E43 H → wm_S b s.heap H locs → E43 119 = .inr (7, [.int (nI th), .ref (b + 120), .int (nI sz), .int (nI fa), .int (nI pl), .ref (b + 121), .ref (b + 122), .ref (b + 123), .ref (b + 124), .ref (b + 125), .ref (b + 126), .ref (b + 127), .int (nI ats), .int (nI (((aa1 + 1) + 1) + 1)), .ref (b + 128), .ref (b + 129), .ref (b + 130), .ref (b + 131), .ref (b + 132), .ref (b + 133), .int (nI op), .int (nI be.toNat), .int (nI fi), .int (nI la), .ref (b + 134), .ref (b + 135), .ref (b + 136), .int (nI wa), .ref (b + 137), .ref (b + 138), .ref (b + 139), .int (nI wc), .ref (b + 140), .int (nI kl), .ref (b + 141), .ref (b + 142), .ref (b + 143), .ref (b + 144), .ref (b + 145)]) → E43 120 = wm_I C 200 tx → (∀ j, j ≠ 119 → E43 j = E j) → lv_has ls 7 [(0, .ref (b + 119)), (1, .int (nI false.toNat)), (2, .int (nI S2)), (4, .int (nI (wm_ba tx sz aa1))), (5, .int (nI (wm_ba tx sz ((aa1 + 1) + 1)))), (6, .int (nI cc))] → W p l e R s m args below meth c H locs 0 0 Q (F0 m 195 ls []) := by
                        intro fu
                        induction fu with
                        | zero => intro cc S2 hm; exact absurd hm (Nat.not_lt_zero _)
                        | succ fu ih195 =>
                          intro cc S2 hm hcc1 hcc2 hS2 E43 H locs ls hP hS hE0 hE1 hfr hl
                          refine lv_iload X.1 X.2.1 dX7_brackets_195 (lv_at hl 5 rfl) ?_
                          refine lv_iload X.1 X.2.1 dX7_brackets_197 (lv_at hl 4 rfl) ?_
                          refine wm_icmp_gt (x := cc) (y := (wm_ba tx sz ((aa1 + 1) + 1))) (tgt := 218) X (by omega) (by omega) dX7_brackets_199 (by decide) (fun hc199 => ?_) (fun hc199 => ?_)
                          · refine lv_iconst (v := nI 1) X.1 X.2.1 dX7_brackets_218 (by decide) ?_
                            refine lv_istore_n (lv' := [(3, .int (nI 1)), (0, .ref (b + 119)), (1, .int (nI false.toNat)), (2, .int (nI S2)), (4, .int (nI (wm_ba tx sz aa1))), (5, .int (nI (wm_ba tx sz ((aa1 + 1) + 1)))), (6, .int (nI cc))]) X.1 X.2.1 dX7_brackets_219 rfl hl (by decide) rfl (fun ls hl => ?_)
                            refine lv_goto (tgt := 44) X.1 X.2.1 dX7_brackets_220 (by decide) ?_
                            have hcc : cc = wm_ba tx sz (aa1 + 1 + 1) + 1 := by omega
                            have hS3 : S2 = wm_rg (S1 ||| 1 <<< (wm_ba tx sz aa1 - 97)) (wm_ba tx sz aa1 - 97) (wm_ba tx sz (aa1 + 1 + 1) - 97 + 1) := by rw [hS2, hcc, wm_rgx (by omega), show wm_ba tx sz (aa1 + 1 + 1) + 1 - 97 = wm_ba tx sz (aa1 + 1 + 1) - 97 + 1 by omega]
                            exact ih44 (((aa1 + 1) + 1) + 1) S2 true 5 ((wm_ba tx sz aa1) - 97) (by omega) (by omega) (by rw [hS2]; exact wm_rg_b8 hS1 (by omega)) (Or.inr ⟨rfl, by omega, Or.inl rfl⟩) (by rw [hS3]; exact hrun3) E43 _ _ _ hP hS hE0 hE1 hfr (lv_sub hl [1, 2, 3, 0] rfl)
                          · refine lv_iload_n X.1 X.2.1 dX7_brackets_202 rfl (lv_at hl 2 rfl) ?_
                            refine lv_iconst (v := nI 1) X.1 X.2.1 dX7_brackets_203 (by decide) ?_
                            refine lv_iload X.1 X.2.1 dX7_brackets_204 (lv_at hl 5 rfl) ?_
                            refine lv_bipush (v := nI 97) X.1 X.2.1 dX7_brackets_206 (by decide) ?_
                            refine wm_isub (x := cc) (y := 97) X (by omega) dX7_brackets_208 ?_
                            refine wm_ishl (x := 1) (y := (cc - 97)) X (by omega) dX7_brackets_209 ?_
                            refine wm_ior (x := S2) (y := (1 <<< (cc - 97))) X dX7_brackets_210 ?_
                            refine lv_istore_n (lv' := [(2, .int (nI (S2 ||| (1 <<< (cc - 97))))), (0, .ref (b + 119)), (1, .int (nI false.toNat)), (4, .int (nI (wm_ba tx sz aa1))), (5, .int (nI (wm_ba tx sz ((aa1 + 1) + 1)))), (6, .int (nI cc))]) X.1 X.2.1 dX7_brackets_211 rfl hl (by decide) rfl (fun ls hl => ?_)
                            refine lv_iinc (v := nI (cc + 1)) (lv' := [(6, .int (nI (cc + 1))), (2, .int (nI (S2 ||| (1 <<< (cc - 97))))), (0, .ref (b + 119)), (1, .int (nI false.toNat)), (4, .int (nI (wm_ba tx sz aa1))), (5, .int (nI (wm_ba tx sz ((aa1 + 1) + 1))))]) X.1 X.2.1 dX7_brackets_212 hl (k := 5) rfl (wm_inc cc) (by decide) rfl (fun ls hl => ?_)
                            refine lv_goto (tgt := 195) X.1 X.2.1 dX7_brackets_215 (by decide) ?_
                            exact ih195 (cc + 1) (S2 ||| (1 <<< (cc - 97))) (by omega) (by omega) (by omega) (by rw [hS2, show cc + 1 - 97 = cc - 97 + 1 by omega]; exact wm_rg1 (by omega)) E43 _ _ _ hP hS hE0 hE1 hfr (lv_sub hl [2, 3, 1, 4, 5, 0] rfl)
                      exact L195 (105 - (wm_ba tx sz aa1) + 1) (wm_ba tx sz aa1) S1 (Nat.lt_succ_self _) (Nat.le_refl _) (by omega) (wm_rg0 _ _) E42 _ _ _ hP hS hE0 hE1 hfr (lv_sub hl [3, 4, 5, 2, 1, 0] rfl)
                    · refine lv_aload_n X.1 X.2.1 dX7_brackets_170 rfl (lv_at hl 2 rfl) ?_
                      refine lv_iconst (v := nI 4) X.1 X.2.1 dX7_brackets_171 (by decide) ?_
                      refine lv_aload_n X.1 X.2.1 dX7_brackets_172 rfl (lv_at hl 2 rfl) ?_
                      refine wm_get X hP hlt0 hE0 rfl wm_inX7 13 (by decide) wq5_35 rfl dX7_brackets_173 ?_
                      refine wm_callVv (k := 2) (As := [.int (nI 4), .int (nI ((aa1 + 1) + 1))]) (rest := []) X hP hS hlt0 hE0 rfl (kfail1 l D C b n E37 th sz fa pl ats ((aa1 + 1) + 1) op fi la wa wc kl be 4 ((aa1 + 1) + 1) hlt0 hE0 hf) wq5_180 wq5_182 wqP3_4 wq1_8 wq5_183 (by decide) (by rw [hRe]; exact ⟨Nat.le_of_ble_eq_true rfl, Nat.le_of_ble_eq_true rfl⟩) rfl hl.1 rfl (Nat.le_of_ble_eq_true rfl) (Nat.zero_le _) (Nat.zero_le _) dX7_brackets_176 (fun E45 H locs hw hP hS => ?_)
                      obtain ⟨hE0, hq⟩ := hw
                      have hE1 := (hq 120 (by decide)).trans hE1
                      have hfr : ∀ j, j ≠ 119 → E45 j = E j := fun j h0 => (hq j h0).trans (hfr j h0)
                      refine lv_iconst (v := nI 0) X.1 X.2.1 dX7_brackets_179 (by decide) ?_
                      have hb9 := wm_bl2f z0 (nt := false) (S := S1 ||| 1 <<< (wm_ba tx sz aa1 - 97)) (rs := wm_ba tx sz aa1 - 97) hlt8 (by omega)
                      rw [← htl.2] at hb9
                      have hgf := wm_gf tx hrun2 htl.1 hb9 (by decide)
                      exact wm_iret (post := pX7_brackets C b E th sz fa pl ats aa op fi la wa wc kl be rs0 z0 tx) X hr hP hS ⟨4, (aa1 + 1 + 1), (aa1 + 1 + 1), 0, rfl, hE0, hfr, (Or.inr ⟨by decide, by decide, hgf.1, hgf.2⟩)⟩ hQ dX7_brackets_180
                  · refine lv_aload_n X.1 X.2.1 dX7_brackets_152 rfl (lv_at hl 2 rfl) ?_
                    refine lv_iconst (v := nI 1) X.1 X.2.1 dX7_brackets_153 (by decide) ?_
                    refine lv_aload_n X.1 X.2.1 dX7_brackets_154 rfl (lv_at hl 2 rfl) ?_
                    refine wm_get X hP hlt0 hE0 rfl wm_inX7 13 (by decide) wq5_35 rfl dX7_brackets_155 ?_
                    refine wm_callVv (k := 2) (As := [.int (nI 1), .int (nI ((aa1 + 1) + 1))]) (rest := []) X hP hS hlt0 hE0 rfl (kfail1 l D C b n E37 th sz fa pl ats ((aa1 + 1) + 1) op fi la wa wc kl be 1 ((aa1 + 1) + 1) hlt0 hE0 hf) wq5_180 wq5_182 wqP3_4 wq1_8 wq5_183 (by decide) (by rw [hRe]; exact ⟨Nat.le_of_ble_eq_true rfl, Nat.le_of_ble_eq_true rfl⟩) rfl hl.1 rfl (Nat.le_of_ble_eq_true rfl) (Nat.zero_le _) (Nat.zero_le _) dX7_brackets_158 (fun E46 H locs hw hP hS => ?_)
                    obtain ⟨hE0, hq⟩ := hw
                    have hE1 := (hq 120 (by decide)).trans hE1
                    have hfr : ∀ j, j ≠ 119 → E46 j = E j := fun j h0 => (hq j h0).trans (hfr j h0)
                    refine lv_iconst (v := nI 0) X.1 X.2.1 dX7_brackets_161 (by decide) ?_
                    have hg6 := wm_g6 hrun2 (by decide) (of_decide_eq_false hc149) (by omega) (by omega) (by omega)
                    exact wm_iret (post := pX7_brackets C b E th sz fa pl ats aa op fi la wa wc kl be rs0 z0 tx) X hr hP hS ⟨1, (aa1 + 1 + 1), (aa1 + 1 + 1), 0, rfl, hE0, hfr, (Or.inr ⟨by decide, by decide, hg6.1, hg6.2⟩)⟩ hQ dX7_brackets_162
              · refine lv_aload_n X.1 X.2.1 dX7_brackets_86 rfl (lv_at hl 1 rfl) ?_
                refine lv_iconst (v := nI 1) X.1 X.2.1 dX7_brackets_87 (by decide) ?_
                refine lv_aload_n X.1 X.2.1 dX7_brackets_88 rfl (lv_at hl 1 rfl) ?_
                refine wm_get X hP hlt0 hE0 rfl wm_inX7 13 (by decide) wq5_35 rfl dX7_brackets_89 ?_
                refine wm_callVv (k := 2) (As := [.int (nI 1), .int (nI aa1)]) (rest := []) X hP hS hlt0 hE0 rfl (kfail1 l D C b n E4 th sz fa pl ats aa1 op fi la wa wc kl be 1 aa1 hlt0 hE0 hf) wq5_180 wq5_182 wqP3_4 wq1_8 wq5_183 (by decide) (by rw [hRe]; exact ⟨Nat.le_of_ble_eq_true rfl, Nat.le_of_ble_eq_true rfl⟩) rfl hl.1 rfl (Nat.le_of_ble_eq_true rfl) (Nat.zero_le _) (Nat.zero_le _) dX7_brackets_92 (fun E47 H locs hw hP hS => ?_)
                obtain ⟨hE0, hq⟩ := hw
                have hE1 := (hq 120 (by decide)).trans hE1
                have hfr : ∀ j, j ≠ 119 → E47 j = E j := fun j h0 => (hq j h0).trans (hfr j h0)
                refine lv_iconst (v := nI 0) X.1 X.2.1 dX7_brackets_95 (by decide) ?_
                have hg6 := wm_g6 hrun (by omega) (of_decide_eq_false hc83) (by omega) (by omega) (by exact fun q9 => hc65 q9.1)
                exact wm_iret (post := pX7_brackets C b E th sz fa pl ats aa op fi la wa wc kl be rs0 z0 tx) X hr hP hS ⟨1, aa1, aa1, 0, rfl, hE0, hfr, (Or.inr ⟨by decide, by decide, hg6.1, hg6.2⟩)⟩ hQ dX7_brackets_96
    exact L44 (sz - aa + 1) aa 0 false 1 rs0 (Nat.lt_succ_self _) (by omega) (by decide) (Or.inl ⟨rfl, rfl, hc10⟩) hrun0 E3 _ _ _ hP hS hE0 hE1 hfr (lv_sub hl [3, 2, 1, 0] rfl)
  · refine lv_iconst (v := nI 1) X.1 X.2.1 dX7_brackets_13 (by decide) ?_
    refine lv_goto (tgt := 18) X.1 X.2.1 dX7_brackets_14 (by decide) ?_
    refine lv_istore_n (lv' := [(1, .int (nI 1)), (0, .ref (b + 119))]) X.1 X.2.1 dX7_brackets_18 rfl hl (by decide) rfl (fun ls hl => ?_)
    refine lv_aload_n X.1 X.2.1 dX7_brackets_19 rfl (lv_at hl 1 rfl) ?_
    refine lv_iload_n X.1 X.2.1 dX7_brackets_20 rfl (lv_at hl 0 rfl) ?_
    refine lv_if_eq (tgt := 33) X.1 X.2.1 dX7_brackets_21 (by decide) (fun h => by exfalso; revert h; decide) (fun _ => ?_)
    refine lv_aload_n X.1 X.2.1 dX7_brackets_24 rfl (lv_at hl 1 rfl) ?_
    refine wm_get X hP hlt0 hE0 rfl wm_inX7 13 (by decide) wq5_35 rfl dX7_brackets_25 ?_
    refine lv_iconst (v := nI 1) X.1 X.2.1 dX7_brackets_28 (by decide) ?_
    refine wm_iadd (x := aa) (y := 1) X dX7_brackets_29 ?_
    refine lv_goto (tgt := 37) X.1 X.2.1 dX7_brackets_30 (by decide) ?_
    refine wm_put (v := .int (nI (aa + 1))) X hP hS hlt0 hE0 rfl wm_inX7 tyX7 tyX7_ok nmX7 13 (by decide) wq5_35 rfl rfl rfl (fs1 := [.int (nI th), .ref (b + 120), .int (nI sz), .int (nI fa), .int (nI pl), .ref (b + 121), .ref (b + 122), .ref (b + 123), .ref (b + 124), .ref (b + 125), .ref (b + 126), .ref (b + 127), .int (nI ats), .int (nI (aa + 1)), .ref (b + 128), .ref (b + 129), .ref (b + 130), .ref (b + 131), .ref (b + 132), .ref (b + 133), .int (nI op), .int (nI be.toNat), .int (nI fi), .int (nI la), .ref (b + 134), .ref (b + 135), .ref (b + 136), .int (nI wa), .ref (b + 137), .ref (b + 138), .ref (b + 139), .int (nI wc), .ref (b + 140), .int (nI kl), .ref (b + 141), .ref (b + 142), .ref (b + 143), .ref (b + 144), .ref (b + 145)]) rfl (Nat.le_of_ble_eq_true rfl) dX7_brackets_37 (fun H locs E48 hP hS hE0 hq => ?_)
    have hE1 := (hq 120 (by decide)).trans hE1
    have hfr : ∀ j, j ≠ 119 → E48 j = E j := fun j h0 => (hq j h0).trans (hfr j h0)
    have h94 := wm_ba_in hc10 (by decide)
    have hrun0 : wm_go tx (sz - (aa + 1)) (aa + 1) (wm_zi z0 2 true rs0 0) = (wm_go tx (sz - aa) aa (wm_zi z0 1 false rs0 0)) := wm_gs tx rfl h94.1 (by rw [h94.2]; exact wm_bl3 z0)
    refine lv_iconst (v := nI 0) X.1 X.2.1 dX7_brackets_40 (by decide) ?_
    refine lv_istore_n (lv' := [(2, .int (nI 0)), (1, .int (nI 1)), (0, .ref (b + 119))]) X.1 X.2.1 dX7_brackets_41 rfl hl (by decide) rfl (fun ls hl => ?_)
    refine lv_iconst (v := nI 0) X.1 X.2.1 dX7_brackets_42 (by decide) ?_
    refine lv_istore_n (lv' := [(3, .int (nI 0)), (2, .int (nI 0)), (1, .int (nI 1)), (0, .ref (b + 119))]) X.1 X.2.1 dX7_brackets_43 rfl hl (by decide) rfl (fun ls hl => ?_)
    have L44 : ∀ (fu : Nat) (aa1 : Nat) (S1 : Nat) (an : Bool) (md : Nat) (rs : Nat), sz - aa1 < fu → (aa ≤ aa1 ∧ aa1 ≤ sz) → (S1 < 256) → ((an = false ∧ md = 2) ∨ (an = true ∧ aa < aa1 ∧ (md = 5 ∨ (md = 3 ∧ wm_ba tx sz aa1 ≠ 45)))) → (wm_go tx (sz - aa1) aa1 (wm_zi z0 md true rs S1) = (wm_go tx (sz - aa) aa (wm_zi z0 1 false rs0 0))) → ∀ (E49 : Nat → va_E) (H : Heap) (locs : List Loc) (ls : Array Slot), wm_P D b n E49 H → wm_S b s.heap H locs → E49 119 = .inr (7, [.int (nI th), .ref (b + 120), .int (nI sz), .int (nI fa), .int (nI pl), .ref (b + 121), .ref (b + 122), .ref (b + 123), .ref (b + 124), .ref (b + 125), .ref (b + 126), .ref (b + 127), .int (nI ats), .int (nI aa1), .ref (b + 128), .ref (b + 129), .ref (b + 130), .ref (b + 131), .ref (b + 132), .ref (b + 133), .int (nI op), .int (nI be.toNat), .int (nI fi), .int (nI la), .ref (b + 134), .ref (b + 135), .ref (b + 136), .int (nI wa), .ref (b + 137), .ref (b + 138), .ref (b + 139), .int (nI wc), .ref (b + 140), .int (nI kl), .ref (b + 141), .ref (b + 142), .ref (b + 143), .ref (b + 144), .ref (b + 145)]) → E49 120 = wm_I C 200 tx → (∀ j, j ≠ 119 → E49 j = E j) → lv_has ls 7 [(0, .ref (b + 119)), (1, .int (nI true.toNat)), (2, .int (nI S1)), (3, .int (nI an.toNat))] → W p l e R s m args below meth c H locs 0 0 Q (F0 m 44 ls []) := by
      intro fu
      induction fu with
      | zero => intro aa1 S1 an md rs hm; exact absurd hm (Nat.not_lt_zero _)
      | succ fu ih44 =>
        intro aa1 S1 an md rs hm haa hS1 hmo hrun E49 H locs ls hP hS hE0 hE1 hfr hl
        have hbl := wm_ba_lt (sz := sz) (i := aa1) htx
        refine lv_aload_n X.1 X.2.1 dX7_brackets_44 rfl (lv_at hl 0 rfl) ?_
        refine wm_get X hP hlt0 hE0 rfl wm_inX7 3 (by decide) wq5_25 rfl dX7_brackets_45 ?_
        refine wm_if_ne (x := fa) (tgt := 223) X (by omega) dX7_brackets_48 (by decide) (fun hc48 => ?_) (fun hc48 => ?_)
        · exact absurd hc48 (fun q => q hf)
        · refine lv_iload_n X.1 X.2.1 dX7_brackets_51 rfl (lv_at hl 3 rfl) ?_
          refine wm_ifz_eq (x := an) (tgt := 68) X dX7_brackets_52 (by decide) (fun hc52 => ?_) (fun hc52 => ?_)
          · refine lv_aload_n X.1 X.2.1 dX7_brackets_68 rfl (lv_at hl 0 rfl) ?_
            refine lv_aload_n X.1 X.2.1 dX7_brackets_69 rfl (lv_at hl 0 rfl) ?_
            refine wm_get X hP hlt0 hE0 rfl wm_inX7 13 (by decide) wq5_35 rfl dX7_brackets_70 ?_
            refine wm_callVi (k := 1) (As := [.int (nI aa1)]) (rest := []) X hP hS hlt0 hE0 rfl (kX7_byteAt l D C b n E49 th sz fa pl ats aa1 op fi la wa wc kl be aa1 tx hlt0 hE0 hlt1 hE1 (by omega) (by omega)) wq5_173 wq5_175 wqP3_3 wq1_8 wq5_176 (by decide) (by rw [hRe]; exact ⟨Nat.le_of_ble_eq_true rfl, Nat.le_of_ble_eq_true rfl⟩) rfl hl.1 rfl (Nat.le_of_ble_eq_true rfl) (Nat.zero_le _) (Nat.zero_le _) dX7_brackets_73 (fun r52 E52 H locs hw hP hS => ?_)
            obtain ⟨hrt, hEe⟩ := hw
            subst hrt
            subst hEe
            refine lv_istore (lv' := [(4, .int (nI (wm_ba tx sz aa1))), (0, .ref (b + 119)), (1, .int (nI true.toNat)), (2, .int (nI S1)), (3, .int (nI an.toNat))]) X.1 X.2.1 dX7_brackets_76 hl (by decide) rfl (fun ls hl => ?_)
            refine lv_iload X.1 X.2.1 dX7_brackets_78 (lv_at hl 0 rfl) ?_
            refine wm_callSi (k := 1) (As := [.int (nI (wm_ba tx sz aa1))]) (rest := []) X hP hS  (kX7_isLetter l D C b n E49 (wm_ba tx sz aa1) (wm_ba_lt htx)) wq5_177 wq5_178 wq1_8 wq5_179 (by decide) (by rw [hRe]; exact ⟨Nat.le_of_ble_eq_true rfl, Nat.le_of_ble_eq_true rfl⟩) rfl hl.1 rfl (Nat.le_of_ble_eq_true rfl) (Nat.zero_le _) (Nat.zero_le _) dX7_brackets_80 (fun r53 E53 H locs hw hP hS => ?_)
            obtain ⟨hrt, hEe⟩ := hw
            subst hrt
            subst hEe
            refine wm_ifz_ne (x := (decide (97 ≤ (wm_ba tx sz aa1) ∧ (wm_ba tx sz aa1) ≤ 104))) (tgt := 97) X dX7_brackets_83 (by decide) (fun hc83 => ?_) (fun hc83 => ?_)
            · have hlt9 := of_decide_eq_true hc83
              have hfl : aa1 < sz ∧ tx aa1 = wm_ba tx sz aa1 := wm_ba_lt2 (by omega)
              have hrun1 := wm_gs tx hrun hfl.1 (by rw [hfl.2]; exact wm_bl1 z0 (by omega) (by omega) hlt9)
              refine lv_aload_n X.1 X.2.1 dX7_brackets_97 rfl (lv_at hl 1 rfl) ?_
              refine lv_dup X.1 X.2.1 dX7_brackets_98 rfl ?_
              refine wm_get X hP hlt0 hE0 rfl wm_inX7 13 (by decide) wq5_35 rfl dX7_brackets_99 ?_
              refine lv_iconst (v := nI 1) X.1 X.2.1 dX7_brackets_102 (by decide) ?_
              refine wm_iadd (x := aa1) (y := 1) X dX7_brackets_103 ?_
              refine wm_put (v := .int (nI (aa1 + 1))) X hP hS hlt0 hE0 rfl wm_inX7 tyX7 tyX7_ok nmX7 13 (by decide) wq5_35 rfl rfl rfl (fs1 := [.int (nI th), .ref (b + 120), .int (nI sz), .int (nI fa), .int (nI pl), .ref (b + 121), .ref (b + 122), .ref (b + 123), .ref (b + 124), .ref (b + 125), .ref (b + 126), .ref (b + 127), .int (nI ats), .int (nI (aa1 + 1)), .ref (b + 128), .ref (b + 129), .ref (b + 130), .ref (b + 131), .ref (b + 132), .ref (b + 133), .int (nI op), .int (nI be.toNat), .int (nI fi), .int (nI la), .ref (b + 134), .ref (b + 135), .ref (b + 136), .int (nI wa), .ref (b + 137), .ref (b + 138), .ref (b + 139), .int (nI wc), .ref (b + 140), .int (nI kl), .ref (b + 141), .ref (b + 142), .ref (b + 143), .ref (b + 144), .ref (b + 145)]) rfl (Nat.le_of_ble_eq_true rfl) dX7_brackets_104 (fun H locs E55 hP hS hE0 hq => ?_)
              have hE1 := (hq 120 (by decide)).trans hE1
              have hfr : ∀ j, j ≠ 119 → E55 j = E j := fun j h0 => (hq j h0).trans (hfr j h0)
              refine lv_iload X.1 X.2.1 dX7_brackets_107 (lv_at hl 0 rfl) ?_
              refine lv_istore (lv' := [(5, .int (nI (wm_ba tx sz aa1))), (4, .int (nI (wm_ba tx sz aa1))), (0, .ref (b + 119)), (1, .int (nI true.toNat)), (2, .int (nI S1)), (3, .int (nI an.toNat))]) X.1 X.2.1 dX7_brackets_109 hl (by decide) rfl (fun ls hl => ?_)
              refine lv_aload_n X.1 X.2.1 dX7_brackets_111 rfl (lv_at hl 2 rfl) ?_
              refine lv_aload_n X.1 X.2.1 dX7_brackets_112 rfl (lv_at hl 2 rfl) ?_
              refine wm_get X hP hlt0 hE0 rfl wm_inX7 13 (by decide) wq5_35 rfl dX7_brackets_113 ?_
              refine wm_callVi (k := 1) (As := [.int (nI (aa1 + 1))]) (rest := []) X hP hS hlt0 hE0 rfl (kX7_byteAt l D C b n E55 th sz fa pl ats (aa1 + 1) op fi la wa wc kl be (aa1 + 1) tx hlt0 hE0 hlt1 hE1 (by omega) (by omega)) wq5_173 wq5_175 wqP3_3 wq1_8 wq5_176 (by decide) (by rw [hRe]; exact ⟨Nat.le_of_ble_eq_true rfl, Nat.le_of_ble_eq_true rfl⟩) rfl hl.1 rfl (Nat.le_of_ble_eq_true rfl) (Nat.zero_le _) (Nat.zero_le _) dX7_brackets_116 (fun r56 E56 H locs hw hP hS => ?_)
              obtain ⟨hrt, hEe⟩ := hw
              subst hrt
              subst hEe
              refine lv_bipush (v := nI 45) X.1 X.2.1 dX7_brackets_119 (by decide) ?_
              refine wm_icmp_ne (x := (wm_ba tx sz (aa1 + 1))) (y := 45) (tgt := 191) X (wm_ba_32 htx) (by decide) dX7_brackets_121 (by decide) (fun hc121 => ?_) (fun hc121 => ?_)
              · refine lv_iload X.1 X.2.1 dX7_brackets_191 (lv_at hl 1 rfl) ?_
                refine lv_istore (lv' := [(6, .int (nI (wm_ba tx sz aa1))), (5, .int (nI (wm_ba tx sz aa1))), (4, .int (nI (wm_ba tx sz aa1))), (0, .ref (b + 119)), (1, .int (nI true.toNat)), (2, .int (nI S1)), (3, .int (nI an.toNat))]) X.1 X.2.1 dX7_brackets_193 hl (by decide) rfl (fun ls hl => ?_)
                have L195 : ∀ (fu : Nat) (cc : Nat) (S2 : Nat), 105 - cc < fu → (wm_ba tx sz aa1 ≤ cc) → (cc ≤ wm_ba tx sz aa1 + 1) → (S2 = wm_rg S1 (wm_ba tx sz aa1 - 97) (cc - 97)) → ∀ (E58 : Nat → va_E) (H : Heap) (locs : List Loc) (ls : Array Slot), wm_P D b n E58 H → wm_S b s.heap H locs → E58 119 = .inr (7, [.int (nI th), .ref (b + 120), .int (nI sz), .int (nI fa), .int (nI pl), .ref (b + 121), .ref (b + 122), .ref (b + 123), .ref (b + 124), .ref (b + 125), .ref (b + 126), .ref (b + 127), .int (nI ats), .int (nI (aa1 + 1)), .ref (b + 128), .ref (b + 129), .ref (b + 130), .ref (b + 131), .ref (b + 132), .ref (b + 133), .int (nI op), .int (nI be.toNat), .int (nI fi), .int (nI la), .ref (b + 134), .ref (b + 135), .ref (b + 136), .int (nI wa), .ref (b + 137), .ref (b + 138), .ref (b + 139), .int (nI wc), .ref (b + 140), .int (nI kl), .ref (b + 141), .ref (b + 142), .ref (b + 143), .ref (b + 144), .ref (b + 145)]) → E58 120 = wm_I C 200 tx → (∀ j, j ≠ 119 → E58 j = E j) → lv_has ls 7 [(0, .ref (b + 119)), (1, .int (nI true.toNat)), (2, .int (nI S2)), (4, .int (nI (wm_ba tx sz aa1))), (5, .int (nI (wm_ba tx sz aa1))), (6, .int (nI cc))] → W p l e R s m args below meth c H locs 0 0 Q (F0 m 195 ls []) := by
                  intro fu
                  induction fu with
                  | zero => intro cc S2 hm; exact absurd hm (Nat.not_lt_zero _)
                  | succ fu ih195 =>
                    intro cc S2 hm hcc1 hcc2 hS2 E58 H locs ls hP hS hE0 hE1 hfr hl
                    refine lv_iload X.1 X.2.1 dX7_brackets_195 (lv_at hl 5 rfl) ?_
                    refine lv_iload X.1 X.2.1 dX7_brackets_197 (lv_at hl 4 rfl) ?_
                    refine wm_icmp_gt (x := cc) (y := (wm_ba tx sz aa1)) (tgt := 218) X (by omega) (by omega) dX7_brackets_199 (by decide) (fun hc199 => ?_) (fun hc199 => ?_)
                    · refine lv_iconst (v := nI 1) X.1 X.2.1 dX7_brackets_218 (by decide) ?_
                      refine lv_istore_n (lv' := [(3, .int (nI 1)), (0, .ref (b + 119)), (1, .int (nI true.toNat)), (2, .int (nI S2)), (4, .int (nI (wm_ba tx sz aa1))), (5, .int (nI (wm_ba tx sz aa1))), (6, .int (nI cc))]) X.1 X.2.1 dX7_brackets_219 rfl hl (by decide) rfl (fun ls hl => ?_)
                      refine lv_goto (tgt := 44) X.1 X.2.1 dX7_brackets_220 (by decide) ?_
                      have hcc : cc = wm_ba tx sz aa1 + 1 := by omega
                      have hS3 : S2 = S1 ||| 1 <<< (wm_ba tx sz aa1 - 97) := by rw [hS2, hcc, show wm_ba tx sz aa1 + 1 - 97 = wm_ba tx sz aa1 - 97 + 1 by omega]; exact wm_rgy
                      exact ih44 (aa1 + 1) S2 true 3 ((wm_ba tx sz aa1) - 97) (by omega) (by omega) (by rw [hS2]; exact wm_rg_b8 hS1 (by omega)) (Or.inr ⟨rfl, by omega, Or.inr ⟨rfl, hc121⟩⟩) (by rw [hS3]; exact hrun1) E58 _ _ _ hP hS hE0 hE1 hfr (lv_sub hl [1, 2, 3, 0] rfl)
                    · refine lv_iload_n X.1 X.2.1 dX7_brackets_202 rfl (lv_at hl 2 rfl) ?_
                      refine lv_iconst (v := nI 1) X.1 X.2.1 dX7_brackets_203 (by decide) ?_
                      refine lv_iload X.1 X.2.1 dX7_brackets_204 (lv_at hl 5 rfl) ?_
                      refine lv_bipush (v := nI 97) X.1 X.2.1 dX7_brackets_206 (by decide) ?_
                      refine wm_isub (x := cc) (y := 97) X (by omega) dX7_brackets_208 ?_
                      refine wm_ishl (x := 1) (y := (cc - 97)) X (by omega) dX7_brackets_209 ?_
                      refine wm_ior (x := S2) (y := (1 <<< (cc - 97))) X dX7_brackets_210 ?_
                      refine lv_istore_n (lv' := [(2, .int (nI (S2 ||| (1 <<< (cc - 97))))), (0, .ref (b + 119)), (1, .int (nI true.toNat)), (4, .int (nI (wm_ba tx sz aa1))), (5, .int (nI (wm_ba tx sz aa1))), (6, .int (nI cc))]) X.1 X.2.1 dX7_brackets_211 rfl hl (by decide) rfl (fun ls hl => ?_)
                      refine lv_iinc (v := nI (cc + 1)) (lv' := [(6, .int (nI (cc + 1))), (2, .int (nI (S2 ||| (1 <<< (cc - 97))))), (0, .ref (b + 119)), (1, .int (nI true.toNat)), (4, .int (nI (wm_ba tx sz aa1))), (5, .int (nI (wm_ba tx sz aa1)))]) X.1 X.2.1 dX7_brackets_212 hl (k := 5) rfl (wm_inc cc) (by decide) rfl (fun ls hl => ?_)
                      refine lv_goto (tgt := 195) X.1 X.2.1 dX7_brackets_215 (by decide) ?_
                      exact ih195 (cc + 1) (S2 ||| (1 <<< (cc - 97))) (by omega) (by omega) (by omega) (by rw [hS2, show cc + 1 - 97 = cc - 97 + 1 by omega]; exact wm_rg1 (by omega)) E58 _ _ _ hP hS hE0 hE1 hfr (lv_sub hl [2, 3, 1, 4, 5, 0] rfl)
                exact L195 (105 - (wm_ba tx sz aa1) + 1) (wm_ba tx sz aa1) S1 (Nat.lt_succ_self _) (Nat.le_refl _) (by omega) (wm_rg0 _ _) E55 _ _ _ hP hS hE0 hE1 hfr (lv_sub hl [3, 4, 5, 2, 1, 0] rfl)
              · have hd9 := wm_ba_in hc121 (by decide)
                have hrun2 := wm_gs tx hrun1 hd9.1 (by rw [hd9.2]; exact wm_bl4 z0)
                refine lv_aload_n X.1 X.2.1 dX7_brackets_124 rfl (lv_at hl 2 rfl) ?_
                refine lv_dup X.1 X.2.1 dX7_brackets_125 rfl ?_
                refine wm_get X hP hlt0 hE0 rfl wm_inX7 13 (by decide) wq5_35 rfl dX7_brackets_126 ?_
                refine lv_iconst (v := nI 1) X.1 X.2.1 dX7_brackets_129 (by decide) ?_
                refine wm_iadd (x := (aa1 + 1)) (y := 1) X dX7_brackets_130 ?_
                refine wm_put (v := .int (nI ((aa1 + 1) + 1))) X hP hS hlt0 hE0 rfl wm_inX7 tyX7 tyX7_ok nmX7 13 (by decide) wq5_35 rfl rfl rfl (fs1 := [.int (nI th), .ref (b + 120), .int (nI sz), .int (nI fa), .int (nI pl), .ref (b + 121), .ref (b + 122), .ref (b + 123), .ref (b + 124), .ref (b + 125), .ref (b + 126), .ref (b + 127), .int (nI ats), .int (nI ((aa1 + 1) + 1)), .ref (b + 128), .ref (b + 129), .ref (b + 130), .ref (b + 131), .ref (b + 132), .ref (b + 133), .int (nI op), .int (nI be.toNat), .int (nI fi), .int (nI la), .ref (b + 134), .ref (b + 135), .ref (b + 136), .int (nI wa), .ref (b + 137), .ref (b + 138), .ref (b + 139), .int (nI wc), .ref (b + 140), .int (nI kl), .ref (b + 141), .ref (b + 142), .ref (b + 143), .ref (b + 144), .ref (b + 145)]) rfl (Nat.le_of_ble_eq_true rfl) dX7_brackets_131 (fun H locs E60 hP hS hE0 hq => ?_)
                have hE1 := (hq 120 (by decide)).trans hE1
                have hfr : ∀ j, j ≠ 119 → E60 j = E j := fun j h0 => (hq j h0).trans (hfr j h0)
                refine lv_aload_n X.1 X.2.1 dX7_brackets_134 rfl (lv_at hl 2 rfl) ?_
                refine lv_aload_n X.1 X.2.1 dX7_brackets_135 rfl (lv_at hl 2 rfl) ?_
                refine wm_get X hP hlt0 hE0 rfl wm_inX7 13 (by decide) wq5_35 rfl dX7_brackets_136 ?_
                refine wm_callVi (k := 1) (As := [.int (nI ((aa1 + 1) + 1))]) (rest := []) X hP hS hlt0 hE0 rfl (kX7_byteAt l D C b n E60 th sz fa pl ats ((aa1 + 1) + 1) op fi la wa wc kl be ((aa1 + 1) + 1) tx hlt0 hE0 hlt1 hE1 (by omega) (by omega)) wq5_173 wq5_175 wqP3_3 wq1_8 wq5_176 (by decide) (by rw [hRe]; exact ⟨Nat.le_of_ble_eq_true rfl, Nat.le_of_ble_eq_true rfl⟩) rfl hl.1 rfl (Nat.le_of_ble_eq_true rfl) (Nat.zero_le _) (Nat.zero_le _) dX7_brackets_139 (fun r61 E61 H locs hw hP hS => ?_)
                obtain ⟨hrt, hEe⟩ := hw
                subst hrt
                subst hEe
                refine lv_istore (lv' := [(5, .int (nI (wm_ba tx sz ((aa1 + 1) + 1)))), (4, .int (nI (wm_ba tx sz aa1))), (0, .ref (b + 119)), (1, .int (nI true.toNat)), (2, .int (nI S1)), (3, .int (nI an.toNat))]) X.1 X.2.1 dX7_brackets_142 hl (by decide) rfl (fun ls hl => ?_)
                refine lv_iload X.1 X.2.1 dX7_brackets_144 (lv_at hl 0 rfl) ?_
                refine wm_callSi (k := 1) (As := [.int (nI (wm_ba tx sz ((aa1 + 1) + 1)))]) (rest := []) X hP hS  (kX7_isLetter l D C b n E60 (wm_ba tx sz ((aa1 + 1) + 1)) (wm_ba_lt htx)) wq5_177 wq5_178 wq1_8 wq5_179 (by decide) (by rw [hRe]; exact ⟨Nat.le_of_ble_eq_true rfl, Nat.le_of_ble_eq_true rfl⟩) rfl hl.1 rfl (Nat.le_of_ble_eq_true rfl) (Nat.zero_le _) (Nat.zero_le _) dX7_brackets_146 (fun r62 E62 H locs hw hP hS => ?_)
                obtain ⟨hrt, hEe⟩ := hw
                subst hrt
                subst hEe
                refine wm_ifz_ne (x := (decide (97 ≤ (wm_ba tx sz ((aa1 + 1) + 1)) ∧ (wm_ba tx sz ((aa1 + 1) + 1)) ≤ 104))) (tgt := 163) X dX7_brackets_149 (by decide) (fun hc149 => ?_) (fun hc149 => ?_)
                · have hlt8 := of_decide_eq_true hc149
                  have htl : aa1 + 1 + 1 < sz ∧ tx (aa1 + 1 + 1) = wm_ba tx sz (aa1 + 1 + 1) := wm_ba_lt2 (by omega)
                  refine lv_iload X.1 X.2.1 dX7_brackets_163 (lv_at hl 0 rfl) ?_
                  refine lv_iload X.1 X.2.1 dX7_brackets_165 (lv_at hl 1 rfl) ?_
                  refine wm_icmp_ge (x := (wm_ba tx sz ((aa1 + 1) + 1))) (y := (wm_ba tx sz aa1)) (tgt := 181) X (by have := of_decide_eq_true hc149; omega) (by have := of_decide_eq_true hc83; omega) dX7_brackets_167 (by decide) (fun hc167 => ?_) (fun hc167 => ?_)
                  · have hrun3 := wm_gs tx hrun2 htl.1 (by rw [htl.2]; exact wm_bl2 z0 hlt8 (by omega))
                    refine lv_aload_n X.1 X.2.1 dX7_brackets_181 rfl (lv_at hl 2 rfl) ?_
                    refine lv_dup X.1 X.2.1 dX7_brackets_182 rfl ?_
                    refine wm_get X hP hlt0 hE0 rfl wm_inX7 13 (by decide) wq5_35 rfl dX7_brackets_183 ?_
                    refine lv_iconst (v := nI 1) X.1 X.2.1 dX7_brackets_186 (by decide) ?_
                    refine wm_iadd (x := ((aa1 + 1) + 1)) (y := 1) X dX7_brackets_187 ?_
                    refine wm_put (v := .int (nI (((aa1 + 1) + 1) + 1))) X hP hS hlt0 hE0 rfl wm_inX7 tyX7 tyX7_ok nmX7 13 (by decide) wq5_35 rfl rfl rfl (fs1 := [.int (nI th), .ref (b + 120), .int (nI sz), .int (nI fa), .int (nI pl), .ref (b + 121), .ref (b + 122), .ref (b + 123), .ref (b + 124), .ref (b + 125), .ref (b + 126), .ref (b + 127), .int (nI ats), .int (nI (((aa1 + 1) + 1) + 1)), .ref (b + 128), .ref (b + 129), .ref (b + 130), .ref (b + 131), .ref (b + 132), .ref (b + 133), .int (nI op), .int (nI be.toNat), .int (nI fi), .int (nI la), .ref (b + 134), .ref (b + 135), .ref (b + 136), .int (nI wa), .ref (b + 137), .ref (b + 138), .ref (b + 139), .int (nI wc), .ref (b + 140), .int (nI kl), .ref (b + 141), .ref (b + 142), .ref (b + 143), .ref (b + 144), .ref (b + 145)]) rfl (Nat.le_of_ble_eq_true rfl) dX7_brackets_188 (fun H locs E65 hP hS hE0 hq => ?_)
                    have hE1 := (hq 120 (by decide)).trans hE1
                    have hfr : ∀ j, j ≠ 119 → E65 j = E j := fun j h0 => (hq j h0).trans (hfr j h0)
                    refine lv_iload X.1 X.2.1 dX7_brackets_191 (lv_at hl 1 rfl) ?_
                    refine lv_istore (lv' := [(6, .int (nI (wm_ba tx sz aa1))), (5, .int (nI (wm_ba tx sz ((aa1 + 1) + 1)))), (4, .int (nI (wm_ba tx sz aa1))), (0, .ref (b + 119)), (1, .int (nI true.toNat)), (2, .int (nI S1)), (3, .int (nI an.toNat))]) X.1 X.2.1 dX7_brackets_193 hl (by decide) rfl (fun ls hl => ?_)
                    have L195 : ∀ (fu : Nat) (cc : Nat) (S2 : Nat), 105 - cc < fu → (wm_ba tx sz aa1 ≤ cc) → (cc ≤ wm_ba tx sz ((aa1 + 1) + 1) + 1) → (S2 = wm_rg S1 (wm_ba tx sz aa1 - 97) (cc - 97)) → ∀ (E66 : Nat → va_E) (H : Heap) (locs : List Loc) (ls : Array Slot), wm_P D b n E66 H → wm_S b s.heap H locs → E66 119 = .inr (7, [.int (nI th), .ref (b + 120), .int (nI sz), .int (nI fa), .int (nI pl), .ref (b + 121), .ref (b + 122), .ref (b + 123), .ref (b + 124), .ref (b + 125), .ref (b + 126), .ref (b + 127), .int (nI ats), .int (nI (((aa1 + 1) + 1) + 1)), .ref (b + 128), .ref (b + 129), .ref (b + 130), .ref (b + 131), .ref (b + 132), .ref (b + 133), .int (nI op), .int (nI be.toNat), .int (nI fi), .int (nI la), .ref (b + 134), .ref (b + 135), .ref (b + 136), .int (nI wa), .ref (b + 137), .ref (b + 138), .ref (b + 139), .int (nI wc), .ref (b + 140), .int (nI kl), .ref (b + 141), .ref (b + 142), .ref (b + 143), .ref (b + 144), .ref (b + 145)]) → E66 120 = wm_I C 200 tx → (∀ j, j ≠ 119 → E66 j = E j) → lv_has ls 7 [(0, .ref (b + 119)), (1, .int (nI true.toNat)), (2, .int (nI S2)), (4, .int (nI (wm_ba tx sz aa1))), (5, .int (nI (wm_ba tx sz ((aa1 + 1) + 1)))), (6, .int (nI cc))] → W p l e R s m args below meth c H locs 0 0 Q (F0 m 195 ls []) := by
                      intro fu
                      induction fu with
                      | zero => intro cc S2 hm; exact absurd hm (Nat.not_lt_zero _)
                      | succ fu ih195 =>
                        intro cc S2 hm hcc1 hcc2 hS2 E66 H locs ls hP hS hE0 hE1 hfr hl
                        refine lv_iload X.1 X.2.1 dX7_brackets_195 (lv_at hl 5 rfl) ?_
                        refine lv_iload X.1 X.2.1 dX7_brackets_197 (lv_at hl 4 rfl) ?_
                        refine wm_icmp_gt (x := cc) (y := (wm_ba tx sz ((aa1 + 1) + 1))) (tgt := 218) X (by omega) (by omega) dX7_brackets_199 (by decide) (fun hc199 => ?_) (fun hc199 => ?_)
                        · refine lv_iconst (v := nI 1) X.1 X.2.1 dX7_brackets_218 (by decide) ?_
                          refine lv_istore_n (lv' := [(3, .int (nI 1)), (0, .ref (b + 119)), (1, .int (nI true.toNat)), (2, .int (nI S2)), (4, .int (nI (wm_ba tx sz aa1))), (5, .int (nI (wm_ba tx sz ((aa1 + 1) + 1)))), (6, .int (nI cc))]) X.1 X.2.1 dX7_brackets_219 rfl hl (by decide) rfl (fun ls hl => ?_)
                          refine lv_goto (tgt := 44) X.1 X.2.1 dX7_brackets_220 (by decide) ?_
                          have hcc : cc = wm_ba tx sz (aa1 + 1 + 1) + 1 := by omega
                          have hS3 : S2 = wm_rg (S1 ||| 1 <<< (wm_ba tx sz aa1 - 97)) (wm_ba tx sz aa1 - 97) (wm_ba tx sz (aa1 + 1 + 1) - 97 + 1) := by rw [hS2, hcc, wm_rgx (by omega), show wm_ba tx sz (aa1 + 1 + 1) + 1 - 97 = wm_ba tx sz (aa1 + 1 + 1) - 97 + 1 by omega]
                          exact ih44 (((aa1 + 1) + 1) + 1) S2 true 5 ((wm_ba tx sz aa1) - 97) (by omega) (by omega) (by rw [hS2]; exact wm_rg_b8 hS1 (by omega)) (Or.inr ⟨rfl, by omega, Or.inl rfl⟩) (by rw [hS3]; exact hrun3) E66 _ _ _ hP hS hE0 hE1 hfr (lv_sub hl [1, 2, 3, 0] rfl)
                        · refine lv_iload_n X.1 X.2.1 dX7_brackets_202 rfl (lv_at hl 2 rfl) ?_
                          refine lv_iconst (v := nI 1) X.1 X.2.1 dX7_brackets_203 (by decide) ?_
                          refine lv_iload X.1 X.2.1 dX7_brackets_204 (lv_at hl 5 rfl) ?_
                          refine lv_bipush (v := nI 97) X.1 X.2.1 dX7_brackets_206 (by decide) ?_
                          refine wm_isub (x := cc) (y := 97) X (by omega) dX7_brackets_208 ?_
                          refine wm_ishl (x := 1) (y := (cc - 97)) X (by omega) dX7_brackets_209 ?_
                          refine wm_ior (x := S2) (y := (1 <<< (cc - 97))) X dX7_brackets_210 ?_
                          refine lv_istore_n (lv' := [(2, .int (nI (S2 ||| (1 <<< (cc - 97))))), (0, .ref (b + 119)), (1, .int (nI true.toNat)), (4, .int (nI (wm_ba tx sz aa1))), (5, .int (nI (wm_ba tx sz ((aa1 + 1) + 1)))), (6, .int (nI cc))]) X.1 X.2.1 dX7_brackets_211 rfl hl (by decide) rfl (fun ls hl => ?_)
                          refine lv_iinc (v := nI (cc + 1)) (lv' := [(6, .int (nI (cc + 1))), (2, .int (nI (S2 ||| (1 <<< (cc - 97))))), (0, .ref (b + 119)), (1, .int (nI true.toNat)), (4, .int (nI (wm_ba tx sz aa1))), (5, .int (nI (wm_ba tx sz ((aa1 + 1) + 1))))]) X.1 X.2.1 dX7_brackets_212 hl (k := 5) rfl (wm_inc cc) (by decide) rfl (fun ls hl => ?_)
                          refine lv_goto (tgt := 195) X.1 X.2.1 dX7_brackets_215 (by decide) ?_
                          exact ih195 (cc + 1) (S2 ||| (1 <<< (cc - 97))) (by omega) (by omega) (by omega) (by rw [hS2, show cc + 1 - 97 = cc - 97 + 1 by omega]; exact wm_rg1 (by omega)) E66 _ _ _ hP hS hE0 hE1 hfr (lv_sub hl [2, 3, 1, 4, 5, 0] rfl)
                    exact L195 (105 - (wm_ba tx sz aa1) + 1) (wm_ba tx sz aa1) S1 (Nat.lt_succ_self _) (Nat.le_refl _) (by omega) (wm_rg0 _ _) E65 _ _ _ hP hS hE0 hE1 hfr (lv_sub hl [3, 4, 5, 2, 1, 0] rfl)
                  · refine lv_aload_n X.1 X.2.1 dX7_brackets_170 rfl (lv_at hl 2 rfl) ?_
                    refine lv_iconst (v := nI 4) X.1 X.2.1 dX7_brackets_171 (by decide) ?_
                    refine lv_aload_n X.1 X.2.1 dX7_brackets_172 rfl (lv_at hl 2 rfl) ?_
                    refine wm_get X hP hlt0 hE0 rfl wm_inX7 13 (by decide) wq5_35 rfl dX7_brackets_173 ?_
                    refine wm_callVv (k := 2) (As := [.int (nI 4), .int (nI ((aa1 + 1) + 1))]) (rest := []) X hP hS hlt0 hE0 rfl (kfail1 l D C b n E60 th sz fa pl ats ((aa1 + 1) + 1) op fi la wa wc kl be 4 ((aa1 + 1) + 1) hlt0 hE0 hf) wq5_180 wq5_182 wqP3_4 wq1_8 wq5_183 (by decide) (by rw [hRe]; exact ⟨Nat.le_of_ble_eq_true rfl, Nat.le_of_ble_eq_true rfl⟩) rfl hl.1 rfl (Nat.le_of_ble_eq_true rfl) (Nat.zero_le _) (Nat.zero_le _) dX7_brackets_176 (fun E68 H locs hw hP hS => ?_)
                    obtain ⟨hE0, hq⟩ := hw
                    have hE1 := (hq 120 (by decide)).trans hE1
                    have hfr : ∀ j, j ≠ 119 → E68 j = E j := fun j h0 => (hq j h0).trans (hfr j h0)
                    refine lv_iconst (v := nI 0) X.1 X.2.1 dX7_brackets_179 (by decide) ?_
                    have hb9 := wm_bl2f z0 (nt := true) (S := S1 ||| 1 <<< (wm_ba tx sz aa1 - 97)) (rs := wm_ba tx sz aa1 - 97) hlt8 (by omega)
                    rw [← htl.2] at hb9
                    have hgf := wm_gf tx hrun2 htl.1 hb9 (by decide)
                    exact wm_iret (post := pX7_brackets C b E th sz fa pl ats aa op fi la wa wc kl be rs0 z0 tx) X hr hP hS ⟨4, (aa1 + 1 + 1), (aa1 + 1 + 1), 0, rfl, hE0, hfr, (Or.inr ⟨by decide, by decide, hgf.1, hgf.2⟩)⟩ hQ dX7_brackets_180
                · refine lv_aload_n X.1 X.2.1 dX7_brackets_152 rfl (lv_at hl 2 rfl) ?_
                  refine lv_iconst (v := nI 1) X.1 X.2.1 dX7_brackets_153 (by decide) ?_
                  refine lv_aload_n X.1 X.2.1 dX7_brackets_154 rfl (lv_at hl 2 rfl) ?_
                  refine wm_get X hP hlt0 hE0 rfl wm_inX7 13 (by decide) wq5_35 rfl dX7_brackets_155 ?_
                  refine wm_callVv (k := 2) (As := [.int (nI 1), .int (nI ((aa1 + 1) + 1))]) (rest := []) X hP hS hlt0 hE0 rfl (kfail1 l D C b n E60 th sz fa pl ats ((aa1 + 1) + 1) op fi la wa wc kl be 1 ((aa1 + 1) + 1) hlt0 hE0 hf) wq5_180 wq5_182 wqP3_4 wq1_8 wq5_183 (by decide) (by rw [hRe]; exact ⟨Nat.le_of_ble_eq_true rfl, Nat.le_of_ble_eq_true rfl⟩) rfl hl.1 rfl (Nat.le_of_ble_eq_true rfl) (Nat.zero_le _) (Nat.zero_le _) dX7_brackets_158 (fun E69 H locs hw hP hS => ?_)
                  obtain ⟨hE0, hq⟩ := hw
                  have hE1 := (hq 120 (by decide)).trans hE1
                  have hfr : ∀ j, j ≠ 119 → E69 j = E j := fun j h0 => (hq j h0).trans (hfr j h0)
                  refine lv_iconst (v := nI 0) X.1 X.2.1 dX7_brackets_161 (by decide) ?_
                  have hg6 := wm_g6 hrun2 (by decide) (of_decide_eq_false hc149) (by omega) (by omega) (by omega)
                  exact wm_iret (post := pX7_brackets C b E th sz fa pl ats aa op fi la wa wc kl be rs0 z0 tx) X hr hP hS ⟨1, (aa1 + 1 + 1), (aa1 + 1 + 1), 0, rfl, hE0, hfr, (Or.inr ⟨by decide, by decide, hg6.1, hg6.2⟩)⟩ hQ dX7_brackets_162
            · refine lv_aload_n X.1 X.2.1 dX7_brackets_86 rfl (lv_at hl 1 rfl) ?_
              refine lv_iconst (v := nI 1) X.1 X.2.1 dX7_brackets_87 (by decide) ?_
              refine lv_aload_n X.1 X.2.1 dX7_brackets_88 rfl (lv_at hl 1 rfl) ?_
              refine wm_get X hP hlt0 hE0 rfl wm_inX7 13 (by decide) wq5_35 rfl dX7_brackets_89 ?_
              refine wm_callVv (k := 2) (As := [.int (nI 1), .int (nI aa1)]) (rest := []) X hP hS hlt0 hE0 rfl (kfail1 l D C b n E49 th sz fa pl ats aa1 op fi la wa wc kl be 1 aa1 hlt0 hE0 hf) wq5_180 wq5_182 wqP3_4 wq1_8 wq5_183 (by decide) (by rw [hRe]; exact ⟨Nat.le_of_ble_eq_true rfl, Nat.le_of_ble_eq_true rfl⟩) rfl hl.1 rfl (Nat.le_of_ble_eq_true rfl) (Nat.zero_le _) (Nat.zero_le _) dX7_brackets_92 (fun E70 H locs hw hP hS => ?_)
              obtain ⟨hE0, hq⟩ := hw
              have hE1 := (hq 120 (by decide)).trans hE1
              have hfr : ∀ j, j ≠ 119 → E70 j = E j := fun j h0 => (hq j h0).trans (hfr j h0)
              refine lv_iconst (v := nI 0) X.1 X.2.1 dX7_brackets_95 (by decide) ?_
              have hg6 := wm_g6 hrun (by omega) (of_decide_eq_false hc83) (by omega) (by omega) (by exact fun q9 => hmo.elim (fun q => by omega) (fun q => absurd (hc52.symm.trans q.1) (by decide)))
              exact wm_iret (post := pX7_brackets C b E th sz fa pl ats aa op fi la wa wc kl be rs0 z0 tx) X hr hP hS ⟨1, aa1, aa1, 0, rfl, hE0, hfr, (Or.inr ⟨by decide, by decide, hg6.1, hg6.2⟩)⟩ hQ dX7_brackets_96
          · refine lv_aload_n X.1 X.2.1 dX7_brackets_55 rfl (lv_at hl 0 rfl) ?_
            refine lv_aload_n X.1 X.2.1 dX7_brackets_56 rfl (lv_at hl 0 rfl) ?_
            refine wm_get X hP hlt0 hE0 rfl wm_inX7 13 (by decide) wq5_35 rfl dX7_brackets_57 ?_
            refine wm_callVi (k := 1) (As := [.int (nI aa1)]) (rest := []) X hP hS hlt0 hE0 rfl (kX7_byteAt l D C b n E49 th sz fa pl ats aa1 op fi la wa wc kl be aa1 tx hlt0 hE0 hlt1 hE1 (by omega) (by omega)) wq5_173 wq5_175 wqP3_3 wq1_8 wq5_176 (by decide) (by rw [hRe]; exact ⟨Nat.le_of_ble_eq_true rfl, Nat.le_of_ble_eq_true rfl⟩) rfl hl.1 rfl (Nat.le_of_ble_eq_true rfl) (Nat.zero_le _) (Nat.zero_le _) dX7_brackets_60 (fun r71 E71 H locs hw hP hS => ?_)
            obtain ⟨hrt, hEe⟩ := hw
            subst hrt
            subst hEe
            refine lv_bipush (v := nI 93) X.1 X.2.1 dX7_brackets_63 (by decide) ?_
            refine wm_icmp_eq (x := (wm_ba tx sz aa1)) (y := 93) (tgt := 223) X (wm_ba_32 htx) (by decide) dX7_brackets_65 (by decide) (fun hc65 => ?_) (fun hc65 => ?_)
            · refine lv_aload_n X.1 X.2.1 dX7_brackets_223 rfl (lv_at hl 0 rfl) ?_
              refine lv_dup X.1 X.2.1 dX7_brackets_224 rfl ?_
              refine wm_get X hP hlt0 hE0 rfl wm_inX7 13 (by decide) wq5_35 rfl dX7_brackets_225 ?_
              refine lv_iconst (v := nI 1) X.1 X.2.1 dX7_brackets_228 (by decide) ?_
              refine wm_iadd (x := aa1) (y := 1) X dX7_brackets_229 ?_
              refine wm_put (v := .int (nI (aa1 + 1))) X hP hS hlt0 hE0 rfl wm_inX7 tyX7 tyX7_ok nmX7 13 (by decide) wq5_35 rfl rfl rfl (fs1 := [.int (nI th), .ref (b + 120), .int (nI sz), .int (nI fa), .int (nI pl), .ref (b + 121), .ref (b + 122), .ref (b + 123), .ref (b + 124), .ref (b + 125), .ref (b + 126), .ref (b + 127), .int (nI ats), .int (nI (aa1 + 1)), .ref (b + 128), .ref (b + 129), .ref (b + 130), .ref (b + 131), .ref (b + 132), .ref (b + 133), .int (nI op), .int (nI be.toNat), .int (nI fi), .int (nI la), .ref (b + 134), .ref (b + 135), .ref (b + 136), .int (nI wa), .ref (b + 137), .ref (b + 138), .ref (b + 139), .int (nI wc), .ref (b + 140), .int (nI kl), .ref (b + 141), .ref (b + 142), .ref (b + 143), .ref (b + 144), .ref (b + 145)]) rfl (Nat.le_of_ble_eq_true rfl) dX7_brackets_230 (fun H locs E73 hP hS hE0 hq => ?_)
              have hE1 := (hq 120 (by decide)).trans hE1
              have hfr : ∀ j, j ≠ 119 → E73 j = E j := fun j h0 => (hq j h0).trans (hfr j h0)
              refine lv_iload_n X.1 X.2.1 dX7_brackets_233 rfl (lv_at hl 1 rfl) ?_
              refine wm_ifz_eq (x := true) (tgt := 247) X dX7_brackets_234 (by decide) (fun h => by exfalso; revert h; decide) (fun _ => ?_)
              refine lv_sipush (v := nI 255) X.1 X.2.1 dX7_brackets_237 (by decide) ?_
              refine lv_iload_n X.1 X.2.1 dX7_brackets_240 rfl (lv_at hl 2 rfl) ?_
              refine lv_iconst (v := nI 4294967295) X.1 X.2.1 dX7_brackets_241 (by decide) ?_
              refine wm_ixor (x := S1) (y := 4294967295) X dX7_brackets_242 ?_
              refine wm_iand (x := 255) (y := (S1 ^^^ 4294967295)) X dX7_brackets_243 ?_
              refine lv_goto (tgt := 248) X.1 X.2.1 dX7_brackets_244 (by decide) ?_
              have h93 := wm_ba_in hc65 (by decide)
              have hrun4 := wm_gs tx hrun h93.1 (by rw [h93.2]; exact wm_bl5 z0 (hmo.elim (fun q => absurd (q.1.symm.trans hc52) (by decide)) (fun q => by omega)))
              exact wm_iret (post := pX7_brackets C b E th sz fa pl ats aa op fi la wa wc kl be rs0 z0 tx) X hr hP hS ⟨fa, pl, (aa1 + 1), (255 &&& (S1 ^^^ 4294967295)), rfl, hE0, hfr, (Or.inl ⟨hf, rfl, by omega, by omega, (Nat.lt_of_le_of_lt Nat.and_le_left (by decide)), true, rs, (by rw [wm_x255 hS1]; exact hrun4)⟩)⟩ hQ dX7_brackets_248
            · refine lv_aload_n X.1 X.2.1 dX7_brackets_68 rfl (lv_at hl 0 rfl) ?_
              refine lv_aload_n X.1 X.2.1 dX7_brackets_69 rfl (lv_at hl 0 rfl) ?_
              refine wm_get X hP hlt0 hE0 rfl wm_inX7 13 (by decide) wq5_35 rfl dX7_brackets_70 ?_
              refine wm_callVi (k := 1) (As := [.int (nI aa1)]) (rest := []) X hP hS hlt0 hE0 rfl (kX7_byteAt l D C b n E49 th sz fa pl ats aa1 op fi la wa wc kl be aa1 tx hlt0 hE0 hlt1 hE1 (by omega) (by omega)) wq5_173 wq5_175 wqP3_3 wq1_8 wq5_176 (by decide) (by rw [hRe]; exact ⟨Nat.le_of_ble_eq_true rfl, Nat.le_of_ble_eq_true rfl⟩) rfl hl.1 rfl (Nat.le_of_ble_eq_true rfl) (Nat.zero_le _) (Nat.zero_le _) dX7_brackets_73 (fun r74 E74 H locs hw hP hS => ?_)
              obtain ⟨hrt, hEe⟩ := hw
              subst hrt
              subst hEe
              refine lv_istore (lv' := [(4, .int (nI (wm_ba tx sz aa1))), (0, .ref (b + 119)), (1, .int (nI true.toNat)), (2, .int (nI S1)), (3, .int (nI an.toNat))]) X.1 X.2.1 dX7_brackets_76 hl (by decide) rfl (fun ls hl => ?_)
              refine lv_iload X.1 X.2.1 dX7_brackets_78 (lv_at hl 0 rfl) ?_
              refine wm_callSi (k := 1) (As := [.int (nI (wm_ba tx sz aa1))]) (rest := []) X hP hS  (kX7_isLetter l D C b n E49 (wm_ba tx sz aa1) (wm_ba_lt htx)) wq5_177 wq5_178 wq1_8 wq5_179 (by decide) (by rw [hRe]; exact ⟨Nat.le_of_ble_eq_true rfl, Nat.le_of_ble_eq_true rfl⟩) rfl hl.1 rfl (Nat.le_of_ble_eq_true rfl) (Nat.zero_le _) (Nat.zero_le _) dX7_brackets_80 (fun r75 E75 H locs hw hP hS => ?_)
              obtain ⟨hrt, hEe⟩ := hw
              subst hrt
              subst hEe
              refine wm_ifz_ne (x := (decide (97 ≤ (wm_ba tx sz aa1) ∧ (wm_ba tx sz aa1) ≤ 104))) (tgt := 97) X dX7_brackets_83 (by decide) (fun hc83 => ?_) (fun hc83 => ?_)
              · have hlt9 := of_decide_eq_true hc83
                have hfl : aa1 < sz ∧ tx aa1 = wm_ba tx sz aa1 := wm_ba_lt2 (by omega)
                have hrun1 := wm_gs tx hrun hfl.1 (by rw [hfl.2]; exact wm_bl1 z0 (by omega) (by omega) hlt9)
                refine lv_aload_n X.1 X.2.1 dX7_brackets_97 rfl (lv_at hl 1 rfl) ?_
                refine lv_dup X.1 X.2.1 dX7_brackets_98 rfl ?_
                refine wm_get X hP hlt0 hE0 rfl wm_inX7 13 (by decide) wq5_35 rfl dX7_brackets_99 ?_
                refine lv_iconst (v := nI 1) X.1 X.2.1 dX7_brackets_102 (by decide) ?_
                refine wm_iadd (x := aa1) (y := 1) X dX7_brackets_103 ?_
                refine wm_put (v := .int (nI (aa1 + 1))) X hP hS hlt0 hE0 rfl wm_inX7 tyX7 tyX7_ok nmX7 13 (by decide) wq5_35 rfl rfl rfl (fs1 := [.int (nI th), .ref (b + 120), .int (nI sz), .int (nI fa), .int (nI pl), .ref (b + 121), .ref (b + 122), .ref (b + 123), .ref (b + 124), .ref (b + 125), .ref (b + 126), .ref (b + 127), .int (nI ats), .int (nI (aa1 + 1)), .ref (b + 128), .ref (b + 129), .ref (b + 130), .ref (b + 131), .ref (b + 132), .ref (b + 133), .int (nI op), .int (nI be.toNat), .int (nI fi), .int (nI la), .ref (b + 134), .ref (b + 135), .ref (b + 136), .int (nI wa), .ref (b + 137), .ref (b + 138), .ref (b + 139), .int (nI wc), .ref (b + 140), .int (nI kl), .ref (b + 141), .ref (b + 142), .ref (b + 143), .ref (b + 144), .ref (b + 145)]) rfl (Nat.le_of_ble_eq_true rfl) dX7_brackets_104 (fun H locs E77 hP hS hE0 hq => ?_)
                have hE1 := (hq 120 (by decide)).trans hE1
                have hfr : ∀ j, j ≠ 119 → E77 j = E j := fun j h0 => (hq j h0).trans (hfr j h0)
                refine lv_iload X.1 X.2.1 dX7_brackets_107 (lv_at hl 0 rfl) ?_
                refine lv_istore (lv' := [(5, .int (nI (wm_ba tx sz aa1))), (4, .int (nI (wm_ba tx sz aa1))), (0, .ref (b + 119)), (1, .int (nI true.toNat)), (2, .int (nI S1)), (3, .int (nI an.toNat))]) X.1 X.2.1 dX7_brackets_109 hl (by decide) rfl (fun ls hl => ?_)
                refine lv_aload_n X.1 X.2.1 dX7_brackets_111 rfl (lv_at hl 2 rfl) ?_
                refine lv_aload_n X.1 X.2.1 dX7_brackets_112 rfl (lv_at hl 2 rfl) ?_
                refine wm_get X hP hlt0 hE0 rfl wm_inX7 13 (by decide) wq5_35 rfl dX7_brackets_113 ?_
                refine wm_callVi (k := 1) (As := [.int (nI (aa1 + 1))]) (rest := []) X hP hS hlt0 hE0 rfl (kX7_byteAt l D C b n E77 th sz fa pl ats (aa1 + 1) op fi la wa wc kl be (aa1 + 1) tx hlt0 hE0 hlt1 hE1 (by omega) (by omega)) wq5_173 wq5_175 wqP3_3 wq1_8 wq5_176 (by decide) (by rw [hRe]; exact ⟨Nat.le_of_ble_eq_true rfl, Nat.le_of_ble_eq_true rfl⟩) rfl hl.1 rfl (Nat.le_of_ble_eq_true rfl) (Nat.zero_le _) (Nat.zero_le _) dX7_brackets_116 (fun r78 E78 H locs hw hP hS => ?_)
                obtain ⟨hrt, hEe⟩ := hw
                subst hrt
                subst hEe
                refine lv_bipush (v := nI 45) X.1 X.2.1 dX7_brackets_119 (by decide) ?_
                refine wm_icmp_ne (x := (wm_ba tx sz (aa1 + 1))) (y := 45) (tgt := 191) X (wm_ba_32 htx) (by decide) dX7_brackets_121 (by decide) (fun hc121 => ?_) (fun hc121 => ?_)
                · refine lv_iload X.1 X.2.1 dX7_brackets_191 (lv_at hl 1 rfl) ?_
                  refine lv_istore (lv' := [(6, .int (nI (wm_ba tx sz aa1))), (5, .int (nI (wm_ba tx sz aa1))), (4, .int (nI (wm_ba tx sz aa1))), (0, .ref (b + 119)), (1, .int (nI true.toNat)), (2, .int (nI S1)), (3, .int (nI an.toNat))]) X.1 X.2.1 dX7_brackets_193 hl (by decide) rfl (fun ls hl => ?_)
                  have L195 : ∀ (fu : Nat) (cc : Nat) (S2 : Nat), 105 - cc < fu → (wm_ba tx sz aa1 ≤ cc) → (cc ≤ wm_ba tx sz aa1 + 1) → (S2 = wm_rg S1 (wm_ba tx sz aa1 - 97) (cc - 97)) → ∀ (E80 : Nat → va_E) (H : Heap) (locs : List Loc) (ls : Array Slot), wm_P D b n E80 H → wm_S b s.heap H locs → E80 119 = .inr (7, [.int (nI th), .ref (b + 120), .int (nI sz), .int (nI fa), .int (nI pl), .ref (b + 121), .ref (b + 122), .ref (b + 123), .ref (b + 124), .ref (b + 125), .ref (b + 126), .ref (b + 127), .int (nI ats), .int (nI (aa1 + 1)), .ref (b + 128), .ref (b + 129), .ref (b + 130), .ref (b + 131), .ref (b + 132), .ref (b + 133), .int (nI op), .int (nI be.toNat), .int (nI fi), .int (nI la), .ref (b + 134), .ref (b + 135), .ref (b + 136), .int (nI wa), .ref (b + 137), .ref (b + 138), .ref (b + 139), .int (nI wc), .ref (b + 140), .int (nI kl), .ref (b + 141), .ref (b + 142), .ref (b + 143), .ref (b + 144), .ref (b + 145)]) → E80 120 = wm_I C 200 tx → (∀ j, j ≠ 119 → E80 j = E j) → lv_has ls 7 [(0, .ref (b + 119)), (1, .int (nI true.toNat)), (2, .int (nI S2)), (4, .int (nI (wm_ba tx sz aa1))), (5, .int (nI (wm_ba tx sz aa1))), (6, .int (nI cc))] → W p l e R s m args below meth c H locs 0 0 Q (F0 m 195 ls []) := by
                    intro fu
                    induction fu with
                    | zero => intro cc S2 hm; exact absurd hm (Nat.not_lt_zero _)
                    | succ fu ih195 =>
                      intro cc S2 hm hcc1 hcc2 hS2 E80 H locs ls hP hS hE0 hE1 hfr hl
                      refine lv_iload X.1 X.2.1 dX7_brackets_195 (lv_at hl 5 rfl) ?_
                      refine lv_iload X.1 X.2.1 dX7_brackets_197 (lv_at hl 4 rfl) ?_
                      refine wm_icmp_gt (x := cc) (y := (wm_ba tx sz aa1)) (tgt := 218) X (by omega) (by omega) dX7_brackets_199 (by decide) (fun hc199 => ?_) (fun hc199 => ?_)
                      · refine lv_iconst (v := nI 1) X.1 X.2.1 dX7_brackets_218 (by decide) ?_
                        refine lv_istore_n (lv' := [(3, .int (nI 1)), (0, .ref (b + 119)), (1, .int (nI true.toNat)), (2, .int (nI S2)), (4, .int (nI (wm_ba tx sz aa1))), (5, .int (nI (wm_ba tx sz aa1))), (6, .int (nI cc))]) X.1 X.2.1 dX7_brackets_219 rfl hl (by decide) rfl (fun ls hl => ?_)
                        refine lv_goto (tgt := 44) X.1 X.2.1 dX7_brackets_220 (by decide) ?_
                        have hcc : cc = wm_ba tx sz aa1 + 1 := by omega
                        have hS3 : S2 = S1 ||| 1 <<< (wm_ba tx sz aa1 - 97) := by rw [hS2, hcc, show wm_ba tx sz aa1 + 1 - 97 = wm_ba tx sz aa1 - 97 + 1 by omega]; exact wm_rgy
                        exact ih44 (aa1 + 1) S2 true 3 ((wm_ba tx sz aa1) - 97) (by omega) (by omega) (by rw [hS2]; exact wm_rg_b8 hS1 (by omega)) (Or.inr ⟨rfl, by omega, Or.inr ⟨rfl, hc121⟩⟩) (by rw [hS3]; exact hrun1) E80 _ _ _ hP hS hE0 hE1 hfr (lv_sub hl [1, 2, 3, 0] rfl)
                      · refine lv_iload_n X.1 X.2.1 dX7_brackets_202 rfl (lv_at hl 2 rfl) ?_
                        refine lv_iconst (v := nI 1) X.1 X.2.1 dX7_brackets_203 (by decide) ?_
                        refine lv_iload X.1 X.2.1 dX7_brackets_204 (lv_at hl 5 rfl) ?_
                        refine lv_bipush (v := nI 97) X.1 X.2.1 dX7_brackets_206 (by decide) ?_
                        refine wm_isub (x := cc) (y := 97) X (by omega) dX7_brackets_208 ?_
                        refine wm_ishl (x := 1) (y := (cc - 97)) X (by omega) dX7_brackets_209 ?_
                        refine wm_ior (x := S2) (y := (1 <<< (cc - 97))) X dX7_brackets_210 ?_
                        refine lv_istore_n (lv' := [(2, .int (nI (S2 ||| (1 <<< (cc - 97))))), (0, .ref (b + 119)), (1, .int (nI true.toNat)), (4, .int (nI (wm_ba tx sz aa1))), (5, .int (nI (wm_ba tx sz aa1))), (6, .int (nI cc))]) X.1 X.2.1 dX7_brackets_211 rfl hl (by decide) rfl (fun ls hl => ?_)
                        refine lv_iinc (v := nI (cc + 1)) (lv' := [(6, .int (nI (cc + 1))), (2, .int (nI (S2 ||| (1 <<< (cc - 97))))), (0, .ref (b + 119)), (1, .int (nI true.toNat)), (4, .int (nI (wm_ba tx sz aa1))), (5, .int (nI (wm_ba tx sz aa1)))]) X.1 X.2.1 dX7_brackets_212 hl (k := 5) rfl (wm_inc cc) (by decide) rfl (fun ls hl => ?_)
                        refine lv_goto (tgt := 195) X.1 X.2.1 dX7_brackets_215 (by decide) ?_
                        exact ih195 (cc + 1) (S2 ||| (1 <<< (cc - 97))) (by omega) (by omega) (by omega) (by rw [hS2, show cc + 1 - 97 = cc - 97 + 1 by omega]; exact wm_rg1 (by omega)) E80 _ _ _ hP hS hE0 hE1 hfr (lv_sub hl [2, 3, 1, 4, 5, 0] rfl)
                  exact L195 (105 - (wm_ba tx sz aa1) + 1) (wm_ba tx sz aa1) S1 (Nat.lt_succ_self _) (Nat.le_refl _) (by omega) (wm_rg0 _ _) E77 _ _ _ hP hS hE0 hE1 hfr (lv_sub hl [3, 4, 5, 2, 1, 0] rfl)
                · have hd9 := wm_ba_in hc121 (by decide)
                  have hrun2 := wm_gs tx hrun1 hd9.1 (by rw [hd9.2]; exact wm_bl4 z0)
                  refine lv_aload_n X.1 X.2.1 dX7_brackets_124 rfl (lv_at hl 2 rfl) ?_
                  refine lv_dup X.1 X.2.1 dX7_brackets_125 rfl ?_
                  refine wm_get X hP hlt0 hE0 rfl wm_inX7 13 (by decide) wq5_35 rfl dX7_brackets_126 ?_
                  refine lv_iconst (v := nI 1) X.1 X.2.1 dX7_brackets_129 (by decide) ?_
                  refine wm_iadd (x := (aa1 + 1)) (y := 1) X dX7_brackets_130 ?_
                  refine wm_put (v := .int (nI ((aa1 + 1) + 1))) X hP hS hlt0 hE0 rfl wm_inX7 tyX7 tyX7_ok nmX7 13 (by decide) wq5_35 rfl rfl rfl (fs1 := [.int (nI th), .ref (b + 120), .int (nI sz), .int (nI fa), .int (nI pl), .ref (b + 121), .ref (b + 122), .ref (b + 123), .ref (b + 124), .ref (b + 125), .ref (b + 126), .ref (b + 127), .int (nI ats), .int (nI ((aa1 + 1) + 1)), .ref (b + 128), .ref (b + 129), .ref (b + 130), .ref (b + 131), .ref (b + 132), .ref (b + 133), .int (nI op), .int (nI be.toNat), .int (nI fi), .int (nI la), .ref (b + 134), .ref (b + 135), .ref (b + 136), .int (nI wa), .ref (b + 137), .ref (b + 138), .ref (b + 139), .int (nI wc), .ref (b + 140), .int (nI kl), .ref (b + 141), .ref (b + 142), .ref (b + 143), .ref (b + 144), .ref (b + 145)]) rfl (Nat.le_of_ble_eq_true rfl) dX7_brackets_131 (fun H locs E82 hP hS hE0 hq => ?_)
                  have hE1 := (hq 120 (by decide)).trans hE1
                  have hfr : ∀ j, j ≠ 119 → E82 j = E j := fun j h0 => (hq j h0).trans (hfr j h0)
                  refine lv_aload_n X.1 X.2.1 dX7_brackets_134 rfl (lv_at hl 2 rfl) ?_
                  refine lv_aload_n X.1 X.2.1 dX7_brackets_135 rfl (lv_at hl 2 rfl) ?_
                  refine wm_get X hP hlt0 hE0 rfl wm_inX7 13 (by decide) wq5_35 rfl dX7_brackets_136 ?_
                  refine wm_callVi (k := 1) (As := [.int (nI ((aa1 + 1) + 1))]) (rest := []) X hP hS hlt0 hE0 rfl (kX7_byteAt l D C b n E82 th sz fa pl ats ((aa1 + 1) + 1) op fi la wa wc kl be ((aa1 + 1) + 1) tx hlt0 hE0 hlt1 hE1 (by omega) (by omega)) wq5_173 wq5_175 wqP3_3 wq1_8 wq5_176 (by decide) (by rw [hRe]; exact ⟨Nat.le_of_ble_eq_true rfl, Nat.le_of_ble_eq_true rfl⟩) rfl hl.1 rfl (Nat.le_of_ble_eq_true rfl) (Nat.zero_le _) (Nat.zero_le _) dX7_brackets_139 (fun r83 E83 H locs hw hP hS => ?_)
                  obtain ⟨hrt, hEe⟩ := hw
                  subst hrt
                  subst hEe
                  refine lv_istore (lv' := [(5, .int (nI (wm_ba tx sz ((aa1 + 1) + 1)))), (4, .int (nI (wm_ba tx sz aa1))), (0, .ref (b + 119)), (1, .int (nI true.toNat)), (2, .int (nI S1)), (3, .int (nI an.toNat))]) X.1 X.2.1 dX7_brackets_142 hl (by decide) rfl (fun ls hl => ?_)
                  refine lv_iload X.1 X.2.1 dX7_brackets_144 (lv_at hl 0 rfl) ?_
                  refine wm_callSi (k := 1) (As := [.int (nI (wm_ba tx sz ((aa1 + 1) + 1)))]) (rest := []) X hP hS  (kX7_isLetter l D C b n E82 (wm_ba tx sz ((aa1 + 1) + 1)) (wm_ba_lt htx)) wq5_177 wq5_178 wq1_8 wq5_179 (by decide) (by rw [hRe]; exact ⟨Nat.le_of_ble_eq_true rfl, Nat.le_of_ble_eq_true rfl⟩) rfl hl.1 rfl (Nat.le_of_ble_eq_true rfl) (Nat.zero_le _) (Nat.zero_le _) dX7_brackets_146 (fun r84 E84 H locs hw hP hS => ?_)
                  obtain ⟨hrt, hEe⟩ := hw
                  subst hrt
                  subst hEe
                  refine wm_ifz_ne (x := (decide (97 ≤ (wm_ba tx sz ((aa1 + 1) + 1)) ∧ (wm_ba tx sz ((aa1 + 1) + 1)) ≤ 104))) (tgt := 163) X dX7_brackets_149 (by decide) (fun hc149 => ?_) (fun hc149 => ?_)
                  · have hlt8 := of_decide_eq_true hc149
                    have htl : aa1 + 1 + 1 < sz ∧ tx (aa1 + 1 + 1) = wm_ba tx sz (aa1 + 1 + 1) := wm_ba_lt2 (by omega)
                    refine lv_iload X.1 X.2.1 dX7_brackets_163 (lv_at hl 0 rfl) ?_
                    refine lv_iload X.1 X.2.1 dX7_brackets_165 (lv_at hl 1 rfl) ?_
                    refine wm_icmp_ge (x := (wm_ba tx sz ((aa1 + 1) + 1))) (y := (wm_ba tx sz aa1)) (tgt := 181) X (by have := of_decide_eq_true hc149; omega) (by have := of_decide_eq_true hc83; omega) dX7_brackets_167 (by decide) (fun hc167 => ?_) (fun hc167 => ?_)
                    · have hrun3 := wm_gs tx hrun2 htl.1 (by rw [htl.2]; exact wm_bl2 z0 hlt8 (by omega))
                      refine lv_aload_n X.1 X.2.1 dX7_brackets_181 rfl (lv_at hl 2 rfl) ?_
                      refine lv_dup X.1 X.2.1 dX7_brackets_182 rfl ?_
                      refine wm_get X hP hlt0 hE0 rfl wm_inX7 13 (by decide) wq5_35 rfl dX7_brackets_183 ?_
                      refine lv_iconst (v := nI 1) X.1 X.2.1 dX7_brackets_186 (by decide) ?_
                      refine wm_iadd (x := ((aa1 + 1) + 1)) (y := 1) X dX7_brackets_187 ?_
                      refine wm_put (v := .int (nI (((aa1 + 1) + 1) + 1))) X hP hS hlt0 hE0 rfl wm_inX7 tyX7 tyX7_ok nmX7 13 (by decide) wq5_35 rfl rfl rfl (fs1 := [.int (nI th), .ref (b + 120), .int (nI sz), .int (nI fa), .int (nI pl), .ref (b + 121), .ref (b + 122), .ref (b + 123), .ref (b + 124), .ref (b + 125), .ref (b + 126), .ref (b + 127), .int (nI ats), .int (nI (((aa1 + 1) + 1) + 1)), .ref (b + 128), .ref (b + 129), .ref (b + 130), .ref (b + 131), .ref (b + 132), .ref (b + 133), .int (nI op), .int (nI be.toNat), .int (nI fi), .int (nI la), .ref (b + 134), .ref (b + 135), .ref (b + 136), .int (nI wa), .ref (b + 137), .ref (b + 138), .ref (b + 139), .int (nI wc), .ref (b + 140), .int (nI kl), .ref (b + 141), .ref (b + 142), .ref (b + 143), .ref (b + 144), .ref (b + 145)]) rfl (Nat.le_of_ble_eq_true rfl) dX7_brackets_188 (fun H locs E87 hP hS hE0 hq => ?_)
                      have hE1 := (hq 120 (by decide)).trans hE1
                      have hfr : ∀ j, j ≠ 119 → E87 j = E j := fun j h0 => (hq j h0).trans (hfr j h0)
                      refine lv_iload X.1 X.2.1 dX7_brackets_191 (lv_at hl 1 rfl) ?_
                      refine lv_istore (lv' := [(6, .int (nI (wm_ba tx sz aa1))), (5, .int (nI (wm_ba tx sz ((aa1 + 1) + 1)))), (4, .int (nI (wm_ba tx sz aa1))), (0, .ref (b + 119)), (1, .int (nI true.toNat)), (2, .int (nI S1)), (3, .int (nI an.toNat))]) X.1 X.2.1 dX7_brackets_193 hl (by decide) rfl (fun ls hl => ?_)
                      have L195 : ∀ (fu : Nat) (cc : Nat) (S2 : Nat), 105 - cc < fu → (wm_ba tx sz aa1 ≤ cc) → (cc ≤ wm_ba tx sz ((aa1 + 1) + 1) + 1) → (S2 = wm_rg S1 (wm_ba tx sz aa1 - 97) (cc - 97)) → ∀ (E88 : Nat → va_E) (H : Heap) (locs : List Loc) (ls : Array Slot), wm_P D b n E88 H → wm_S b s.heap H locs → E88 119 = .inr (7, [.int (nI th), .ref (b + 120), .int (nI sz), .int (nI fa), .int (nI pl), .ref (b + 121), .ref (b + 122), .ref (b + 123), .ref (b + 124), .ref (b + 125), .ref (b + 126), .ref (b + 127), .int (nI ats), .int (nI (((aa1 + 1) + 1) + 1)), .ref (b + 128), .ref (b + 129), .ref (b + 130), .ref (b + 131), .ref (b + 132), .ref (b + 133), .int (nI op), .int (nI be.toNat), .int (nI fi), .int (nI la), .ref (b + 134), .ref (b + 135), .ref (b + 136), .int (nI wa), .ref (b + 137), .ref (b + 138), .ref (b + 139), .int (nI wc), .ref (b + 140), .int (nI kl), .ref (b + 141), .ref (b + 142), .ref (b + 143), .ref (b + 144), .ref (b + 145)]) → E88 120 = wm_I C 200 tx → (∀ j, j ≠ 119 → E88 j = E j) → lv_has ls 7 [(0, .ref (b + 119)), (1, .int (nI true.toNat)), (2, .int (nI S2)), (4, .int (nI (wm_ba tx sz aa1))), (5, .int (nI (wm_ba tx sz ((aa1 + 1) + 1)))), (6, .int (nI cc))] → W p l e R s m args below meth c H locs 0 0 Q (F0 m 195 ls []) := by
                        intro fu
                        induction fu with
                        | zero => intro cc S2 hm; exact absurd hm (Nat.not_lt_zero _)
                        | succ fu ih195 =>
                          intro cc S2 hm hcc1 hcc2 hS2 E88 H locs ls hP hS hE0 hE1 hfr hl
                          refine lv_iload X.1 X.2.1 dX7_brackets_195 (lv_at hl 5 rfl) ?_
                          refine lv_iload X.1 X.2.1 dX7_brackets_197 (lv_at hl 4 rfl) ?_
                          refine wm_icmp_gt (x := cc) (y := (wm_ba tx sz ((aa1 + 1) + 1))) (tgt := 218) X (by omega) (by omega) dX7_brackets_199 (by decide) (fun hc199 => ?_) (fun hc199 => ?_)
                          · refine lv_iconst (v := nI 1) X.1 X.2.1 dX7_brackets_218 (by decide) ?_
                            refine lv_istore_n (lv' := [(3, .int (nI 1)), (0, .ref (b + 119)), (1, .int (nI true.toNat)), (2, .int (nI S2)), (4, .int (nI (wm_ba tx sz aa1))), (5, .int (nI (wm_ba tx sz ((aa1 + 1) + 1)))), (6, .int (nI cc))]) X.1 X.2.1 dX7_brackets_219 rfl hl (by decide) rfl (fun ls hl => ?_)
                            refine lv_goto (tgt := 44) X.1 X.2.1 dX7_brackets_220 (by decide) ?_
                            have hcc : cc = wm_ba tx sz (aa1 + 1 + 1) + 1 := by omega
                            have hS3 : S2 = wm_rg (S1 ||| 1 <<< (wm_ba tx sz aa1 - 97)) (wm_ba tx sz aa1 - 97) (wm_ba tx sz (aa1 + 1 + 1) - 97 + 1) := by rw [hS2, hcc, wm_rgx (by omega), show wm_ba tx sz (aa1 + 1 + 1) + 1 - 97 = wm_ba tx sz (aa1 + 1 + 1) - 97 + 1 by omega]
                            exact ih44 (((aa1 + 1) + 1) + 1) S2 true 5 ((wm_ba tx sz aa1) - 97) (by omega) (by omega) (by rw [hS2]; exact wm_rg_b8 hS1 (by omega)) (Or.inr ⟨rfl, by omega, Or.inl rfl⟩) (by rw [hS3]; exact hrun3) E88 _ _ _ hP hS hE0 hE1 hfr (lv_sub hl [1, 2, 3, 0] rfl)
                          · refine lv_iload_n X.1 X.2.1 dX7_brackets_202 rfl (lv_at hl 2 rfl) ?_
                            refine lv_iconst (v := nI 1) X.1 X.2.1 dX7_brackets_203 (by decide) ?_
                            refine lv_iload X.1 X.2.1 dX7_brackets_204 (lv_at hl 5 rfl) ?_
                            refine lv_bipush (v := nI 97) X.1 X.2.1 dX7_brackets_206 (by decide) ?_
                            refine wm_isub (x := cc) (y := 97) X (by omega) dX7_brackets_208 ?_
                            refine wm_ishl (x := 1) (y := (cc - 97)) X (by omega) dX7_brackets_209 ?_
                            refine wm_ior (x := S2) (y := (1 <<< (cc - 97))) X dX7_brackets_210 ?_
                            refine lv_istore_n (lv' := [(2, .int (nI (S2 ||| (1 <<< (cc - 97))))), (0, .ref (b + 119)), (1, .int (nI true.toNat)), (4, .int (nI (wm_ba tx sz aa1))), (5, .int (nI (wm_ba tx sz ((aa1 + 1) + 1)))), (6, .int (nI cc))]) X.1 X.2.1 dX7_brackets_211 rfl hl (by decide) rfl (fun ls hl => ?_)
                            refine lv_iinc (v := nI (cc + 1)) (lv' := [(6, .int (nI (cc + 1))), (2, .int (nI (S2 ||| (1 <<< (cc - 97))))), (0, .ref (b + 119)), (1, .int (nI true.toNat)), (4, .int (nI (wm_ba tx sz aa1))), (5, .int (nI (wm_ba tx sz ((aa1 + 1) + 1))))]) X.1 X.2.1 dX7_brackets_212 hl (k := 5) rfl (wm_inc cc) (by decide) rfl (fun ls hl => ?_)
                            refine lv_goto (tgt := 195) X.1 X.2.1 dX7_brackets_215 (by decide) ?_
                            exact ih195 (cc + 1) (S2 ||| (1 <<< (cc - 97))) (by omega) (by omega) (by omega) (by rw [hS2, show cc + 1 - 97 = cc - 97 + 1 by omega]; exact wm_rg1 (by omega)) E88 _ _ _ hP hS hE0 hE1 hfr (lv_sub hl [2, 3, 1, 4, 5, 0] rfl)
                      exact L195 (105 - (wm_ba tx sz aa1) + 1) (wm_ba tx sz aa1) S1 (Nat.lt_succ_self _) (Nat.le_refl _) (by omega) (wm_rg0 _ _) E87 _ _ _ hP hS hE0 hE1 hfr (lv_sub hl [3, 4, 5, 2, 1, 0] rfl)
                    · refine lv_aload_n X.1 X.2.1 dX7_brackets_170 rfl (lv_at hl 2 rfl) ?_
                      refine lv_iconst (v := nI 4) X.1 X.2.1 dX7_brackets_171 (by decide) ?_
                      refine lv_aload_n X.1 X.2.1 dX7_brackets_172 rfl (lv_at hl 2 rfl) ?_
                      refine wm_get X hP hlt0 hE0 rfl wm_inX7 13 (by decide) wq5_35 rfl dX7_brackets_173 ?_
                      refine wm_callVv (k := 2) (As := [.int (nI 4), .int (nI ((aa1 + 1) + 1))]) (rest := []) X hP hS hlt0 hE0 rfl (kfail1 l D C b n E82 th sz fa pl ats ((aa1 + 1) + 1) op fi la wa wc kl be 4 ((aa1 + 1) + 1) hlt0 hE0 hf) wq5_180 wq5_182 wqP3_4 wq1_8 wq5_183 (by decide) (by rw [hRe]; exact ⟨Nat.le_of_ble_eq_true rfl, Nat.le_of_ble_eq_true rfl⟩) rfl hl.1 rfl (Nat.le_of_ble_eq_true rfl) (Nat.zero_le _) (Nat.zero_le _) dX7_brackets_176 (fun E90 H locs hw hP hS => ?_)
                      obtain ⟨hE0, hq⟩ := hw
                      have hE1 := (hq 120 (by decide)).trans hE1
                      have hfr : ∀ j, j ≠ 119 → E90 j = E j := fun j h0 => (hq j h0).trans (hfr j h0)
                      refine lv_iconst (v := nI 0) X.1 X.2.1 dX7_brackets_179 (by decide) ?_
                      have hb9 := wm_bl2f z0 (nt := true) (S := S1 ||| 1 <<< (wm_ba tx sz aa1 - 97)) (rs := wm_ba tx sz aa1 - 97) hlt8 (by omega)
                      rw [← htl.2] at hb9
                      have hgf := wm_gf tx hrun2 htl.1 hb9 (by decide)
                      exact wm_iret (post := pX7_brackets C b E th sz fa pl ats aa op fi la wa wc kl be rs0 z0 tx) X hr hP hS ⟨4, (aa1 + 1 + 1), (aa1 + 1 + 1), 0, rfl, hE0, hfr, (Or.inr ⟨by decide, by decide, hgf.1, hgf.2⟩)⟩ hQ dX7_brackets_180
                  · refine lv_aload_n X.1 X.2.1 dX7_brackets_152 rfl (lv_at hl 2 rfl) ?_
                    refine lv_iconst (v := nI 1) X.1 X.2.1 dX7_brackets_153 (by decide) ?_
                    refine lv_aload_n X.1 X.2.1 dX7_brackets_154 rfl (lv_at hl 2 rfl) ?_
                    refine wm_get X hP hlt0 hE0 rfl wm_inX7 13 (by decide) wq5_35 rfl dX7_brackets_155 ?_
                    refine wm_callVv (k := 2) (As := [.int (nI 1), .int (nI ((aa1 + 1) + 1))]) (rest := []) X hP hS hlt0 hE0 rfl (kfail1 l D C b n E82 th sz fa pl ats ((aa1 + 1) + 1) op fi la wa wc kl be 1 ((aa1 + 1) + 1) hlt0 hE0 hf) wq5_180 wq5_182 wqP3_4 wq1_8 wq5_183 (by decide) (by rw [hRe]; exact ⟨Nat.le_of_ble_eq_true rfl, Nat.le_of_ble_eq_true rfl⟩) rfl hl.1 rfl (Nat.le_of_ble_eq_true rfl) (Nat.zero_le _) (Nat.zero_le _) dX7_brackets_158 (fun E91 H locs hw hP hS => ?_)
                    obtain ⟨hE0, hq⟩ := hw
                    have hE1 := (hq 120 (by decide)).trans hE1
                    have hfr : ∀ j, j ≠ 119 → E91 j = E j := fun j h0 => (hq j h0).trans (hfr j h0)
                    refine lv_iconst (v := nI 0) X.1 X.2.1 dX7_brackets_161 (by decide) ?_
                    have hg6 := wm_g6 hrun2 (by decide) (of_decide_eq_false hc149) (by omega) (by omega) (by omega)
                    exact wm_iret (post := pX7_brackets C b E th sz fa pl ats aa op fi la wa wc kl be rs0 z0 tx) X hr hP hS ⟨1, (aa1 + 1 + 1), (aa1 + 1 + 1), 0, rfl, hE0, hfr, (Or.inr ⟨by decide, by decide, hg6.1, hg6.2⟩)⟩ hQ dX7_brackets_162
              · refine lv_aload_n X.1 X.2.1 dX7_brackets_86 rfl (lv_at hl 1 rfl) ?_
                refine lv_iconst (v := nI 1) X.1 X.2.1 dX7_brackets_87 (by decide) ?_
                refine lv_aload_n X.1 X.2.1 dX7_brackets_88 rfl (lv_at hl 1 rfl) ?_
                refine wm_get X hP hlt0 hE0 rfl wm_inX7 13 (by decide) wq5_35 rfl dX7_brackets_89 ?_
                refine wm_callVv (k := 2) (As := [.int (nI 1), .int (nI aa1)]) (rest := []) X hP hS hlt0 hE0 rfl (kfail1 l D C b n E49 th sz fa pl ats aa1 op fi la wa wc kl be 1 aa1 hlt0 hE0 hf) wq5_180 wq5_182 wqP3_4 wq1_8 wq5_183 (by decide) (by rw [hRe]; exact ⟨Nat.le_of_ble_eq_true rfl, Nat.le_of_ble_eq_true rfl⟩) rfl hl.1 rfl (Nat.le_of_ble_eq_true rfl) (Nat.zero_le _) (Nat.zero_le _) dX7_brackets_92 (fun E92 H locs hw hP hS => ?_)
                obtain ⟨hE0, hq⟩ := hw
                have hE1 := (hq 120 (by decide)).trans hE1
                have hfr : ∀ j, j ≠ 119 → E92 j = E j := fun j h0 => (hq j h0).trans (hfr j h0)
                refine lv_iconst (v := nI 0) X.1 X.2.1 dX7_brackets_95 (by decide) ?_
                have hg6 := wm_g6 hrun (by omega) (of_decide_eq_false hc83) (by omega) (by omega) (by exact fun q9 => hc65 q9.1)
                exact wm_iret (post := pX7_brackets C b E th sz fa pl ats aa op fi la wa wc kl be rs0 z0 tx) X hr hP hS ⟨1, aa1, aa1, 0, rfl, hE0, hfr, (Or.inr ⟨by decide, by decide, hg6.1, hg6.2⟩)⟩ hQ dX7_brackets_96
    exact L44 (sz - (aa + 1) + 1) (aa + 1) 0 false 2 rs0 (Nat.lt_succ_self _) (by omega) (by decide) (Or.inl ⟨rfl, rfl⟩) hrun0 E48 _ _ _ hP hS hE0 hE1 hfr (lv_sub hl [3, 2, 1, 0] rfl)
