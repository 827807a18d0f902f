def pX0_takeInside (C : Nat → ClassId) (b : Nat) (E : Nat → va_E) (fk fp op cn md rs x : Nat) (nt : Bool) (lt : Nat → Nat) : Int32 → (Nat → va_E) → Prop := fun r E' => r = nI ((wm_ti cn md nt rs lt x).1) ∧ E' 5 = .inr (0, [.int (nI fk), .int (nI fp), .ref (b + 6), .ref (b + 7), .ref (b + 8), .int (nI op), .int (nI cn), .int (nI ((wm_ti cn md nt rs lt x).2.1)), .int (nI ((wm_ti cn md nt rs lt x).2.2.1).toNat), .int (nI ((wm_ti cn md nt rs lt x).2.2.2.1))]) ∧ E' 8 = wm_I C 24 ((wm_ti cn md nt rs lt x).2.2.2.2) ∧ (∀ j, j ≠ 5 → j ≠ 8 → E' j = E j)
set_option maxHeartbeats 4000000 in
set_option maxRecDepth 100000 in
theorem kX0_takeInside (l : Launch) (D : va_G) (C : Nat → ClassId) (b n : Nat) (E : Nat → va_E) (fk fp op cn md rs x : Nat) (nt : Bool) (lt : Nat → Nat) (hlt0 : 5 < n) (hE0 : E 5 = .inr (0, [.int (nI fk), .int (nI fp), .ref (b + 6), .ref (b + 7), .ref (b + 8), .int (nI op), .int (nI cn), .int (nI md), .int (nI nt.toNat), .int (nI rs)])) (hlt1 : 8 < n) (hE1 : E 8 = wm_I C 24 lt) (hx : x < 256) (hcn : cn ≤ 24) (hcp : 1 ≤ cn) (hmd : md ≤ 5) (hrs : rs < 8) : Met l yX0_takeInside (wm_ws yX0_takeInside cX0_takeInside 3 (some .int)) { frames := 1, cells := 0, slots := 0, locals := 22 } (va_Pc [.ref (b + 5), .int (wm_sb x)] (wm_G D C b n E)) (va_Qi (pX0_takeInside C b E fk fp op cn md rs x nt lt) (fun E' t => wm_P D b n E' t.heap) (wm_A b)) 0 0 (wm_A b) := by
  refine wm_ofW (by decide) (Nat.le_of_ble_eq_true rfl) (fun p e s m below meth c ls R args Q hRe hQ X hr hnm hP hS hl => ?_)
  have hl : lv_has ls 3 [(0, .ref (b + 5)), (1, .int (wm_sb x))] := hl
  have hfr : ∀ j, j ≠ 5 → j ≠ 8 → E j = E j := fun _ _ _ => rfl
  have hll := wm_lo_lt x
  refine lv_iload_n X.1 X.2.1 dX0_takeInside_0 rfl (lv_at hl 1 rfl) ?_
  refine wm_callNi (k := 1) (As := [.int (wm_sb x)]) (rest := []) X hP hS  (kX6_letterOf l D C b n E x (by omega)) (host := "WordMachines") (by decide) wq2_133 wq1_1 wq2_134 (by decide) (by rw [hRe]; exact ⟨Nat.le_of_ble_eq_true rfl, Nat.le_of_ble_eq_true rfl⟩) rfl hl.1 rfl (Nat.le_of_ble_eq_true rfl) (Nat.zero_le _) (Nat.zero_le _) dX0_takeInside_1 (fun r1 E1 H locs hw hP hS => ?_)
  obtain ⟨hrt, hEe⟩ := hw
  subst hrt
  subst hEe
  refine lv_istore_n (lv' := [(2, .int (nI (wm_lo x))), (0, .ref (b + 5)), (1, .int (wm_sb x))]) X.1 X.2.1 dX0_takeInside_4 rfl hl (by decide) rfl (fun ls hl => ?_)
  refine lv_iload_n X.1 X.2.1 dX0_takeInside_5 rfl (lv_at hl 0 rfl) ?_
  refine lv_iconst (v := nI 4294967295) X.1 X.2.1 dX0_takeInside_6 (by decide) ?_
  refine wm_icmp_eq (x := (wm_lo x)) (y := 4294967295) (tgt := 32) X hll (by decide) dX0_takeInside_7 (by decide) (fun hc7 => ?_) (fun hc7 => ?_)
  · refine lv_iload_n X.1 X.2.1 dX0_takeInside_32 rfl (lv_at hl 2 rfl) ?_
    refine lv_bipush (v := nI 94) X.1 X.2.1 dX0_takeInside_33 (by decide) ?_
    refine lv_icmp_ne (tgt := 58) X.1 X.2.1 dX0_takeInside_35 (by decide) (fun hc35 => ?_) (fun hc35 => ?_)
    · refine lv_iload_n X.1 X.2.1 dX0_takeInside_58 rfl (lv_at hl 2 rfl) ?_
      refine lv_bipush (v := nI 45) X.1 X.2.1 dX0_takeInside_59 (by decide) ?_
      refine lv_icmp_ne (tgt := 79) X.1 X.2.1 dX0_takeInside_61 (by decide) (fun hc61 => ?_) (fun hc61 => ?_)
      · refine lv_iload_n X.1 X.2.1 dX0_takeInside_79 rfl (lv_at hl 2 rfl) ?_
        refine lv_bipush (v := nI 93) X.1 X.2.1 dX0_takeInside_80 (by decide) ?_
        refine lv_icmp_ne (tgt := 107) X.1 X.2.1 dX0_takeInside_82 (by decide) (fun hc82 => ?_) (fun hc82 => ?_)
        · refine lv_iconst (v := nI 1) X.1 X.2.1 dX0_takeInside_107 (by decide) ?_
          have e35 : x ≠ 94 := fun q => hc35 ((wm_sb_eq hx (by decide)).mpr q)
          have e61 : x ≠ 45 := fun q => hc61 ((wm_sb_eq hx (by decide)).mpr q)
          have e82 : x ≠ 93 := fun q => hc82 ((wm_sb_eq hx (by decide)).mpr q)
          have ht : (wm_ti cn md nt rs lt x) = (1, md, nt, rs, lt) := by first | (exfalso; omega) | (unfold wm_ti; (repeat (first | rw [if_pos (by first | omega | assumption)] | rw [if_neg (by first | omega | (intro q; omega))])))
          exact wm_iret (post := pX0_takeInside C b E fk fp op cn md rs x nt lt) X hr hP hS ⟨(by rw [ht]), (by rw [ht]; exact hE0), (by rw [ht]; exact hE1), hfr⟩ hQ dX0_takeInside_108
        · refine lv_aload_n X.1 X.2.1 dX0_takeInside_85 rfl (lv_at hl 1 rfl) ?_
          refine wm_get X hP hlt0 hE0 rfl wm_inX0 7 (by decide) wq1_124 rfl dX0_takeInside_86 ?_
          refine lv_iconst (v := nI 3) X.1 X.2.1 dX0_takeInside_89 (by decide) ?_
          refine wm_icmp_eq (x := md) (y := 3) (tgt := 101) X (by omega) (by decide) dX0_takeInside_90 (by decide) (fun hc90 => ?_) (fun hc90 => ?_)
          · refine lv_aload_n X.1 X.2.1 dX0_takeInside_101 rfl (lv_at hl 1 rfl) ?_
            refine wm_callVv (k := 0) (As := []) (rest := []) X hP hS hlt0 hE0 rfl (kX0_closeBracket l D C b n E fk fp op cn md rs nt lt hlt0 hE0 hlt1 hE1 (by omega) (by omega)) wq2_190 wq2_192 wqP1_15 wq1_3 wq2_193 (by decide) (by rw [hRe]; exact ⟨Nat.le_of_ble_eq_true rfl, Nat.le_of_ble_eq_true rfl⟩) rfl hl.1 rfl (Nat.le_of_ble_eq_true rfl) (Nat.zero_le _) (Nat.zero_le _) dX0_takeInside_102 (fun E7 H locs hw hP hS => ?_)
            obtain ⟨hE0, hE1, hq⟩ := hw
            have hfr : ∀ j, j ≠ 5 → j ≠ 8 → E7 j = E j := fun j h0 h1 => (hq j h0 h1).trans (hfr j h0 h1)
            refine lv_iconst (v := nI 0) X.1 X.2.1 dX0_takeInside_105 (by decide) ?_
            have e35 : x ≠ 94 := fun q => hc35 ((wm_sb_eq hx (by decide)).mpr q)
            have e61 : x ≠ 45 := fun q => hc61 ((wm_sb_eq hx (by decide)).mpr q)
            have e82 : x = 93 := (wm_sb_eq hx (by decide)).mp hc82
            have ht : (wm_ti cn md nt rs lt x) = (0, 0, nt, rs, if nt then va_up lt (cn - 1) (lt (cn - 1) ^^^ 255) else lt) := by first | (exfalso; omega) | (unfold wm_ti; (repeat (first | rw [if_pos (by first | omega | assumption)] | rw [if_neg (by first | omega | (intro q; omega))])))
            exact wm_iret (post := pX0_takeInside C b E fk fp op cn md rs x nt lt) X hr hP hS ⟨(by rw [ht]), (by rw [ht]; exact hE0), (by rw [ht]; exact hE1), hfr⟩ hQ dX0_takeInside_106
          · refine lv_aload_n X.1 X.2.1 dX0_takeInside_93 rfl (lv_at hl 1 rfl) ?_
            refine wm_get X hP hlt0 hE0 rfl wm_inX0 7 (by decide) wq1_124 rfl dX0_takeInside_94 ?_
            refine lv_iconst (v := nI 5) X.1 X.2.1 dX0_takeInside_97 (by decide) ?_
            refine wm_icmp_ne (x := md) (y := 5) (tgt := 107) X (by omega) (by decide) dX0_takeInside_98 (by decide) (fun hc98 => ?_) (fun hc98 => ?_)
            · refine lv_iconst (v := nI 1) X.1 X.2.1 dX0_takeInside_107 (by decide) ?_
              have e35 : x ≠ 94 := fun q => hc35 ((wm_sb_eq hx (by decide)).mpr q)
              have e61 : x ≠ 45 := fun q => hc61 ((wm_sb_eq hx (by decide)).mpr q)
              have e82 : x = 93 := (wm_sb_eq hx (by decide)).mp hc82
              have ht : (wm_ti cn md nt rs lt x) = (1, md, nt, rs, lt) := by first | (exfalso; omega) | (unfold wm_ti; (repeat (first | rw [if_pos (by first | omega | assumption)] | rw [if_neg (by first | omega | (intro q; omega))])))
              exact wm_iret (post := pX0_takeInside C b E fk fp op cn md rs x nt lt) X hr hP hS ⟨(by rw [ht]), (by rw [ht]; exact hE0), (by rw [ht]; exact hE1), hfr⟩ hQ dX0_takeInside_108
            · refine lv_aload_n X.1 X.2.1 dX0_takeInside_101 rfl (lv_at hl 1 rfl) ?_
              refine wm_callVv (k := 0) (As := []) (rest := []) X hP hS hlt0 hE0 rfl (kX0_closeBracket l D C b n E fk fp op cn md rs nt lt hlt0 hE0 hlt1 hE1 (by omega) (by omega)) wq2_190 wq2_192 wqP1_15 wq1_3 wq2_193 (by decide) (by rw [hRe]; exact ⟨Nat.le_of_ble_eq_true rfl, Nat.le_of_ble_eq_true rfl⟩) rfl hl.1 rfl (Nat.le_of_ble_eq_true rfl) (Nat.zero_le _) (Nat.zero_le _) dX0_takeInside_102 (fun E9 H locs hw hP hS => ?_)
              obtain ⟨hE0, hE1, hq⟩ := hw
              have hfr : ∀ j, j ≠ 5 → j ≠ 8 → E9 j = E j := fun j h0 h1 => (hq j h0 h1).trans (hfr j h0 h1)
              refine lv_iconst (v := nI 0) X.1 X.2.1 dX0_takeInside_105 (by decide) ?_
              have e35 : x ≠ 94 := fun q => hc35 ((wm_sb_eq hx (by decide)).mpr q)
              have e61 : x ≠ 45 := fun q => hc61 ((wm_sb_eq hx (by decide)).mpr q)
              have e82 : x = 93 := (wm_sb_eq hx (by decide)).mp hc82
              have ht : (wm_ti cn md nt rs lt x) = (0, 0, nt, rs, if nt then va_up lt (cn - 1) (lt (cn - 1) ^^^ 255) else lt) := by first | (exfalso; omega) | (unfold wm_ti; (repeat (first | rw [if_pos (by first | omega | assumption)] | rw [if_neg (by first | omega | (intro q; omega))])))
              exact wm_iret (post := pX0_takeInside C b E fk fp op cn md rs x nt lt) X hr hP hS ⟨(by rw [ht]), (by rw [ht]; exact hE0), (by rw [ht]; exact hE1), hfr⟩ hQ dX0_takeInside_106
      · refine lv_aload_n X.1 X.2.1 dX0_takeInside_64 rfl (lv_at hl 1 rfl) ?_
        refine wm_get X hP hlt0 hE0 rfl wm_inX0 7 (by decide) wq1_124 rfl dX0_takeInside_65 ?_
        refine lv_iconst (v := nI 3) X.1 X.2.1 dX0_takeInside_68 (by decide) ?_
        refine wm_icmp_ne (x := md) (y := 3) (tgt := 79) X (by omega) (by decide) dX0_takeInside_69 (by decide) (fun hc69 => ?_) (fun hc69 => ?_)
        · refine lv_iload_n X.1 X.2.1 dX0_takeInside_79 rfl (lv_at hl 2 rfl) ?_
          refine lv_bipush (v := nI 93) X.1 X.2.1 dX0_takeInside_80 (by decide) ?_
          refine lv_icmp_ne (tgt := 107) X.1 X.2.1 dX0_takeInside_82 (by decide) (fun hc82 => ?_) (fun hc82 => ?_)
          · refine lv_iconst (v := nI 1) X.1 X.2.1 dX0_takeInside_107 (by decide) ?_
            have e35 : x ≠ 94 := fun q => hc35 ((wm_sb_eq hx (by decide)).mpr q)
            have e61 : x = 45 := (wm_sb_eq hx (by decide)).mp hc61
            have e82 : x ≠ 93 := fun q => hc82 ((wm_sb_eq hx (by decide)).mpr q)
            have ht : (wm_ti cn md nt rs lt x) = (1, md, nt, rs, lt) := by first | (exfalso; omega) | (unfold wm_ti; (repeat (first | rw [if_pos (by first | omega | assumption)] | rw [if_neg (by first | omega | (intro q; omega))])))
            exact wm_iret (post := pX0_takeInside C b E fk fp op cn md rs x nt lt) X hr hP hS ⟨(by rw [ht]), (by rw [ht]; exact hE0), (by rw [ht]; exact hE1), hfr⟩ hQ dX0_takeInside_108
          · refine lv_aload_n X.1 X.2.1 dX0_takeInside_85 rfl (lv_at hl 1 rfl) ?_
            refine wm_get X hP hlt0 hE0 rfl wm_inX0 7 (by decide) wq1_124 rfl dX0_takeInside_86 ?_
            refine lv_iconst (v := nI 3) X.1 X.2.1 dX0_takeInside_89 (by decide) ?_
            refine wm_icmp_eq (x := md) (y := 3) (tgt := 101) X (by omega) (by decide) dX0_takeInside_90 (by decide) (fun hc90 => ?_) (fun hc90 => ?_)
            · refine lv_aload_n X.1 X.2.1 dX0_takeInside_101 rfl (lv_at hl 1 rfl) ?_
              refine wm_callVv (k := 0) (As := []) (rest := []) X hP hS hlt0 hE0 rfl (kX0_closeBracket l D C b n E fk fp op cn md rs nt lt hlt0 hE0 hlt1 hE1 (by omega) (by omega)) wq2_190 wq2_192 wqP1_15 wq1_3 wq2_193 (by decide) (by rw [hRe]; exact ⟨Nat.le_of_ble_eq_true rfl, Nat.le_of_ble_eq_true rfl⟩) rfl hl.1 rfl (Nat.le_of_ble_eq_true rfl) (Nat.zero_le _) (Nat.zero_le _) dX0_takeInside_102 (fun E13 H locs hw hP hS => ?_)
              obtain ⟨hE0, hE1, hq⟩ := hw
              have hfr : ∀ j, j ≠ 5 → j ≠ 8 → E13 j = E j := fun j h0 h1 => (hq j h0 h1).trans (hfr j h0 h1)
              refine lv_iconst (v := nI 0) X.1 X.2.1 dX0_takeInside_105 (by decide) ?_
              have e35 : x ≠ 94 := fun q => hc35 ((wm_sb_eq hx (by decide)).mpr q)
              have e61 : x = 45 := (wm_sb_eq hx (by decide)).mp hc61
              have e82 : x = 93 := (wm_sb_eq hx (by decide)).mp hc82
              have ht : (wm_ti cn md nt rs lt x) = (0, 0, nt, rs, if nt then va_up lt (cn - 1) (lt (cn - 1) ^^^ 255) else lt) := by first | (exfalso; omega) | (unfold wm_ti; (repeat (first | rw [if_pos (by first | omega | assumption)] | rw [if_neg (by first | omega | (intro q; omega))])))
              exact wm_iret (post := pX0_takeInside C b E fk fp op cn md rs x nt lt) X hr hP hS ⟨(by rw [ht]), (by rw [ht]; exact hE0), (by rw [ht]; exact hE1), hfr⟩ hQ dX0_takeInside_106
            · refine lv_aload_n X.1 X.2.1 dX0_takeInside_93 rfl (lv_at hl 1 rfl) ?_
              refine wm_get X hP hlt0 hE0 rfl wm_inX0 7 (by decide) wq1_124 rfl dX0_takeInside_94 ?_
              refine lv_iconst (v := nI 5) X.1 X.2.1 dX0_takeInside_97 (by decide) ?_
              refine wm_icmp_ne (x := md) (y := 5) (tgt := 107) X (by omega) (by decide) dX0_takeInside_98 (by decide) (fun hc98 => ?_) (fun hc98 => ?_)
              · refine lv_iconst (v := nI 1) X.1 X.2.1 dX0_takeInside_107 (by decide) ?_
                have e35 : x ≠ 94 := fun q => hc35 ((wm_sb_eq hx (by decide)).mpr q)
                have e61 : x = 45 := (wm_sb_eq hx (by decide)).mp hc61
                have e82 : x = 93 := (wm_sb_eq hx (by decide)).mp hc82
                have ht : (wm_ti cn md nt rs lt x) = (1, md, nt, rs, lt) := by first | (exfalso; omega) | (unfold wm_ti; (repeat (first | rw [if_pos (by first | omega | assumption)] | rw [if_neg (by first | omega | (intro q; omega))])))
                exact wm_iret (post := pX0_takeInside C b E fk fp op cn md rs x nt lt) X hr hP hS ⟨(by rw [ht]), (by rw [ht]; exact hE0), (by rw [ht]; exact hE1), hfr⟩ hQ dX0_takeInside_108
              · refine lv_aload_n X.1 X.2.1 dX0_takeInside_101 rfl (lv_at hl 1 rfl) ?_
                refine wm_callVv (k := 0) (As := []) (rest := []) X hP hS hlt0 hE0 rfl (kX0_closeBracket l D C b n E fk fp op cn md rs nt lt hlt0 hE0 hlt1 hE1 (by omega) (by omega)) wq2_190 wq2_192 wqP1_15 wq1_3 wq2_193 (by decide) (by rw [hRe]; exact ⟨Nat.le_of_ble_eq_true rfl, Nat.le_of_ble_eq_true rfl⟩) rfl hl.1 rfl (Nat.le_of_ble_eq_true rfl) (Nat.zero_le _) (Nat.zero_le _) dX0_takeInside_102 (fun E15 H locs hw hP hS => ?_)
                obtain ⟨hE0, hE1, hq⟩ := hw
                have hfr : ∀ j, j ≠ 5 → j ≠ 8 → E15 j = E j := fun j h0 h1 => (hq j h0 h1).trans (hfr j h0 h1)
                refine lv_iconst (v := nI 0) X.1 X.2.1 dX0_takeInside_105 (by decide) ?_
                have e35 : x ≠ 94 := fun q => hc35 ((wm_sb_eq hx (by decide)).mpr q)
                have e61 : x = 45 := (wm_sb_eq hx (by decide)).mp hc61
                have e82 : x = 93 := (wm_sb_eq hx (by decide)).mp hc82
                have ht : (wm_ti cn md nt rs lt x) = (0, 0, nt, rs, if nt then va_up lt (cn - 1) (lt (cn - 1) ^^^ 255) else lt) := by first | (exfalso; omega) | (unfold wm_ti; (repeat (first | rw [if_pos (by first | omega | assumption)] | rw [if_neg (by first | omega | (intro q; omega))])))
                exact wm_iret (post := pX0_takeInside C b E fk fp op cn md rs x nt lt) X hr hP hS ⟨(by rw [ht]), (by rw [ht]; exact hE0), (by rw [ht]; exact hE1), hfr⟩ hQ dX0_takeInside_106
        · refine lv_aload_n X.1 X.2.1 dX0_takeInside_72 rfl (lv_at hl 1 rfl) ?_
          refine lv_iconst (v := nI 4) X.1 X.2.1 dX0_takeInside_73 (by decide) ?_
          refine wm_put (v := .int (nI 4)) X hP hS hlt0 hE0 rfl wm_inX0 tyX0 tyX0_ok nmX0 7 (by decide) wq1_124 rfl rfl rfl (fs1 := [.int (nI fk), .int (nI fp), .ref (b + 6), .ref (b + 7), .ref (b + 8), .int (nI op), .int (nI cn), .int (nI 4), .int (nI nt.toNat), .int (nI rs)]) rfl (Nat.le_of_ble_eq_true rfl) dX0_takeInside_74 (fun H locs E16 hP hS hE0 hq => ?_)
          have hE1 := (hq 8 (by decide)).trans hE1
          have hfr : ∀ j, j ≠ 5 → j ≠ 8 → E16 j = E j := fun j h0 h1 => (hq j h0).trans (hfr j h0 h1)
          refine lv_iconst (v := nI 0) X.1 X.2.1 dX0_takeInside_77 (by decide) ?_
          have e35 : x ≠ 94 := fun q => hc35 ((wm_sb_eq hx (by decide)).mpr q)
          have e61 : x = 45 := (wm_sb_eq hx (by decide)).mp hc61
          have ht : (wm_ti cn md nt rs lt x) = (0, 4, nt, rs, lt) := by first | (exfalso; omega) | (unfold wm_ti; (repeat (first | rw [if_pos (by first | omega | assumption)] | rw [if_neg (by first | omega | (intro q; omega))])))
          exact wm_iret (post := pX0_takeInside C b E fk fp op cn md rs x nt lt) X hr hP hS ⟨(by rw [ht]), (by rw [ht]; exact hE0), (by rw [ht]; exact hE1), hfr⟩ hQ dX0_takeInside_78
    · refine lv_aload_n X.1 X.2.1 dX0_takeInside_38 rfl (lv_at hl 1 rfl) ?_
      refine wm_get X hP hlt0 hE0 rfl wm_inX0 7 (by decide) wq1_124 rfl dX0_takeInside_39 ?_
      refine lv_iconst (v := nI 1) X.1 X.2.1 dX0_takeInside_42 (by decide) ?_
      refine wm_icmp_ne (x := md) (y := 1) (tgt := 58) X (by omega) (by decide) dX0_takeInside_43 (by decide) (fun hc43 => ?_) (fun hc43 => ?_)
      · refine lv_iload_n X.1 X.2.1 dX0_takeInside_58 rfl (lv_at hl 2 rfl) ?_
        refine lv_bipush (v := nI 45) X.1 X.2.1 dX0_takeInside_59 (by decide) ?_
        refine lv_icmp_ne (tgt := 79) X.1 X.2.1 dX0_takeInside_61 (by decide) (fun hc61 => ?_) (fun hc61 => ?_)
        · refine lv_iload_n X.1 X.2.1 dX0_takeInside_79 rfl (lv_at hl 2 rfl) ?_
          refine lv_bipush (v := nI 93) X.1 X.2.1 dX0_takeInside_80 (by decide) ?_
          refine lv_icmp_ne (tgt := 107) X.1 X.2.1 dX0_takeInside_82 (by decide) (fun hc82 => ?_) (fun hc82 => ?_)
          · refine lv_iconst (v := nI 1) X.1 X.2.1 dX0_takeInside_107 (by decide) ?_
            have e35 : x = 94 := (wm_sb_eq hx (by decide)).mp hc35
            have e61 : x ≠ 45 := fun q => hc61 ((wm_sb_eq hx (by decide)).mpr q)
            have e82 : x ≠ 93 := fun q => hc82 ((wm_sb_eq hx (by decide)).mpr q)
            have ht : (wm_ti cn md nt rs lt x) = (1, md, nt, rs, lt) := by first | (exfalso; omega) | (unfold wm_ti; (repeat (first | rw [if_pos (by first | omega | assumption)] | rw [if_neg (by first | omega | (intro q; omega))])))
            exact wm_iret (post := pX0_takeInside C b E fk fp op cn md rs x nt lt) X hr hP hS ⟨(by rw [ht]), (by rw [ht]; exact hE0), (by rw [ht]; exact hE1), hfr⟩ hQ dX0_takeInside_108
          · refine lv_aload_n X.1 X.2.1 dX0_takeInside_85 rfl (lv_at hl 1 rfl) ?_
            refine wm_get X hP hlt0 hE0 rfl wm_inX0 7 (by decide) wq1_124 rfl dX0_takeInside_86 ?_
            refine lv_iconst (v := nI 3) X.1 X.2.1 dX0_takeInside_89 (by decide) ?_
            refine wm_icmp_eq (x := md) (y := 3) (tgt := 101) X (by omega) (by decide) dX0_takeInside_90 (by decide) (fun hc90 => ?_) (fun hc90 => ?_)
            · refine lv_aload_n X.1 X.2.1 dX0_takeInside_101 rfl (lv_at hl 1 rfl) ?_
              refine wm_callVv (k := 0) (As := []) (rest := []) X hP hS hlt0 hE0 rfl (kX0_closeBracket l D C b n E fk fp op cn md rs nt lt hlt0 hE0 hlt1 hE1 (by omega) (by omega)) wq2_190 wq2_192 wqP1_15 wq1_3 wq2_193 (by decide) (by rw [hRe]; exact ⟨Nat.le_of_ble_eq_true rfl, Nat.le_of_ble_eq_true rfl⟩) rfl hl.1 rfl (Nat.le_of_ble_eq_true rfl) (Nat.zero_le _) (Nat.zero_le _) dX0_takeInside_102 (fun E21 H locs hw hP hS => ?_)
              obtain ⟨hE0, hE1, hq⟩ := hw
              have hfr : ∀ j, j ≠ 5 → j ≠ 8 → E21 j = E j := fun j h0 h1 => (hq j h0 h1).trans (hfr j h0 h1)
              refine lv_iconst (v := nI 0) X.1 X.2.1 dX0_takeInside_105 (by decide) ?_
              have e35 : x = 94 := (wm_sb_eq hx (by decide)).mp hc35
              have e61 : x ≠ 45 := fun q => hc61 ((wm_sb_eq hx (by decide)).mpr q)
              have e82 : x = 93 := (wm_sb_eq hx (by decide)).mp hc82
              have ht : (wm_ti cn md nt rs lt x) = (0, 0, nt, rs, if nt then va_up lt (cn - 1) (lt (cn - 1) ^^^ 255) else lt) := by first | (exfalso; omega) | (unfold wm_ti; (repeat (first | rw [if_pos (by first | omega | assumption)] | rw [if_neg (by first | omega | (intro q; omega))])))
              exact wm_iret (post := pX0_takeInside C b E fk fp op cn md rs x nt lt) X hr hP hS ⟨(by rw [ht]), (by rw [ht]; exact hE0), (by rw [ht]; exact hE1), hfr⟩ hQ dX0_takeInside_106
            · refine lv_aload_n X.1 X.2.1 dX0_takeInside_93 rfl (lv_at hl 1 rfl) ?_
              refine wm_get X hP hlt0 hE0 rfl wm_inX0 7 (by decide) wq1_124 rfl dX0_takeInside_94 ?_
              refine lv_iconst (v := nI 5) X.1 X.2.1 dX0_takeInside_97 (by decide) ?_
              refine wm_icmp_ne (x := md) (y := 5) (tgt := 107) X (by omega) (by decide) dX0_takeInside_98 (by decide) (fun hc98 => ?_) (fun hc98 => ?_)
              · refine lv_iconst (v := nI 1) X.1 X.2.1 dX0_takeInside_107 (by decide) ?_
                have e35 : x = 94 := (wm_sb_eq hx (by decide)).mp hc35
                have e61 : x ≠ 45 := fun q => hc61 ((wm_sb_eq hx (by decide)).mpr q)
                have e82 : x = 93 := (wm_sb_eq hx (by decide)).mp hc82
                have ht : (wm_ti cn md nt rs lt x) = (1, md, nt, rs, lt) := by first | (exfalso; omega) | (unfold wm_ti; (repeat (first | rw [if_pos (by first | omega | assumption)] | rw [if_neg (by first | omega | (intro q; omega))])))
                exact wm_iret (post := pX0_takeInside C b E fk fp op cn md rs x nt lt) X hr hP hS ⟨(by rw [ht]), (by rw [ht]; exact hE0), (by rw [ht]; exact hE1), hfr⟩ hQ dX0_takeInside_108
              · refine lv_aload_n X.1 X.2.1 dX0_takeInside_101 rfl (lv_at hl 1 rfl) ?_
                refine wm_callVv (k := 0) (As := []) (rest := []) X hP hS hlt0 hE0 rfl (kX0_closeBracket l D C b n E fk fp op cn md rs nt lt hlt0 hE0 hlt1 hE1 (by omega) (by omega)) wq2_190 wq2_192 wqP1_15 wq1_3 wq2_193 (by decide) (by rw [hRe]; exact ⟨Nat.le_of_ble_eq_true rfl, Nat.le_of_ble_eq_true rfl⟩) rfl hl.1 rfl (Nat.le_of_ble_eq_true rfl) (Nat.zero_le _) (Nat.zero_le _) dX0_takeInside_102 (fun E23 H locs hw hP hS => ?_)
                obtain ⟨hE0, hE1, hq⟩ := hw
                have hfr : ∀ j, j ≠ 5 → j ≠ 8 → E23 j = E j := fun j h0 h1 => (hq j h0 h1).trans (hfr j h0 h1)
                refine lv_iconst (v := nI 0) X.1 X.2.1 dX0_takeInside_105 (by decide) ?_
                have e35 : x = 94 := (wm_sb_eq hx (by decide)).mp hc35
                have e61 : x ≠ 45 := fun q => hc61 ((wm_sb_eq hx (by decide)).mpr q)
                have e82 : x = 93 := (wm_sb_eq hx (by decide)).mp hc82
                have ht : (wm_ti cn md nt rs lt x) = (0, 0, nt, rs, if nt then va_up lt (cn - 1) (lt (cn - 1) ^^^ 255) else lt) := by first | (exfalso; omega) | (unfold wm_ti; (repeat (first | rw [if_pos (by first | omega | assumption)] | rw [if_neg (by first | omega | (intro q; omega))])))
                exact wm_iret (post := pX0_takeInside C b E fk fp op cn md rs x nt lt) X hr hP hS ⟨(by rw [ht]), (by rw [ht]; exact hE0), (by rw [ht]; exact hE1), hfr⟩ hQ dX0_takeInside_106
        · refine lv_aload_n X.1 X.2.1 dX0_takeInside_64 rfl (lv_at hl 1 rfl) ?_
          refine wm_get X hP hlt0 hE0 rfl wm_inX0 7 (by decide) wq1_124 rfl dX0_takeInside_65 ?_
          refine lv_iconst (v := nI 3) X.1 X.2.1 dX0_takeInside_68 (by decide) ?_
          refine wm_icmp_ne (x := md) (y := 3) (tgt := 79) X (by omega) (by decide) dX0_takeInside_69 (by decide) (fun hc69 => ?_) (fun hc69 => ?_)
          · refine lv_iload_n X.1 X.2.1 dX0_takeInside_79 rfl (lv_at hl 2 rfl) ?_
            refine lv_bipush (v := nI 93) X.1 X.2.1 dX0_takeInside_80 (by decide) ?_
            refine lv_icmp_ne (tgt := 107) X.1 X.2.1 dX0_takeInside_82 (by decide) (fun hc82 => ?_) (fun hc82 => ?_)
            · refine lv_iconst (v := nI 1) X.1 X.2.1 dX0_takeInside_107 (by decide) ?_
              have e35 : x = 94 := (wm_sb_eq hx (by decide)).mp hc35
              have e61 : x = 45 := (wm_sb_eq hx (by decide)).mp hc61
              have e82 : x ≠ 93 := fun q => hc82 ((wm_sb_eq hx (by decide)).mpr q)
              have ht : (wm_ti cn md nt rs lt x) = (1, md, nt, rs, lt) := by first | (exfalso; omega) | (unfold wm_ti; (repeat (first | rw [if_pos (by first | omega | assumption)] | rw [if_neg (by first | omega | (intro q; omega))])))
              exact wm_iret (post := pX0_takeInside C b E fk fp op cn md rs x nt lt) X hr hP hS ⟨(by rw [ht]), (by rw [ht]; exact hE0), (by rw [ht]; exact hE1), hfr⟩ hQ dX0_takeInside_108
            · refine lv_aload_n X.1 X.2.1 dX0_takeInside_85 rfl (lv_at hl 1 rfl) ?_
              refine wm_get X hP hlt0 hE0 rfl wm_inX0 7 (by decide) wq1_124 rfl dX0_takeInside_86 ?_
              refine lv_iconst (v := nI 3) X.1 X.2.1 dX0_takeInside_89 (by decide) ?_
              refine wm_icmp_eq (x := md) (y := 3) (tgt := 101) X (by omega) (by decide) dX0_takeInside_90 (by decide) (fun hc90 => ?_) (fun hc90 => ?_)
              · refine lv_aload_n X.1 X.2.1 dX0_takeInside_101 rfl (lv_at hl 1 rfl) ?_
                refine wm_callVv (k := 0) (As := []) (rest := []) X hP hS hlt0 hE0 rfl (kX0_closeBracket l D C b n E fk fp op cn md rs nt lt hlt0 hE0 hlt1 hE1 (by omega) (by omega)) wq2_190 wq2_192 wqP1_15 wq1_3 wq2_193 (by decide) (by rw [hRe]; exact ⟨Nat.le_of_ble_eq_true rfl, Nat.le_of_ble_eq_true rfl⟩) rfl hl.1 rfl (Nat.le_of_ble_eq_true rfl) (Nat.zero_le _) (Nat.zero_le _) dX0_takeInside_102 (fun E27 H locs hw hP hS => ?_)
                obtain ⟨hE0, hE1, hq⟩ := hw
                have hfr : ∀ j, j ≠ 5 → j ≠ 8 → E27 j = E j := fun j h0 h1 => (hq j h0 h1).trans (hfr j h0 h1)
                refine lv_iconst (v := nI 0) X.1 X.2.1 dX0_takeInside_105 (by decide) ?_
                have e35 : x = 94 := (wm_sb_eq hx (by decide)).mp hc35
                have e61 : x = 45 := (wm_sb_eq hx (by decide)).mp hc61
                have e82 : x = 93 := (wm_sb_eq hx (by decide)).mp hc82
                have ht : (wm_ti cn md nt rs lt x) = (0, 0, nt, rs, if nt then va_up lt (cn - 1) (lt (cn - 1) ^^^ 255) else lt) := by first | (exfalso; omega) | (unfold wm_ti; (repeat (first | rw [if_pos (by first | omega | assumption)] | rw [if_neg (by first | omega | (intro q; omega))])))
                exact wm_iret (post := pX0_takeInside C b E fk fp op cn md rs x nt lt) X hr hP hS ⟨(by rw [ht]), (by rw [ht]; exact hE0), (by rw [ht]; exact hE1), hfr⟩ hQ dX0_takeInside_106
              · refine lv_aload_n X.1 X.2.1 dX0_takeInside_93 rfl (lv_at hl 1 rfl) ?_
                refine wm_get X hP hlt0 hE0 rfl wm_inX0 7 (by decide) wq1_124 rfl dX0_takeInside_94 ?_
                refine lv_iconst (v := nI 5) X.1 X.2.1 dX0_takeInside_97 (by decide) ?_
                refine wm_icmp_ne (x := md) (y := 5) (tgt := 107) X (by omega) (by decide) dX0_takeInside_98 (by decide) (fun hc98 => ?_) (fun hc98 => ?_)
                · refine lv_iconst (v := nI 1) X.1 X.2.1 dX0_takeInside_107 (by decide) ?_
                  have e35 : x = 94 := (wm_sb_eq hx (by decide)).mp hc35
                  have e61 : x = 45 := (wm_sb_eq hx (by decide)).mp hc61
                  have e82 : x = 93 := (wm_sb_eq hx (by decide)).mp hc82
                  have ht : (wm_ti cn md nt rs lt x) = (1, md, nt, rs, lt) := by first | (exfalso; omega) | (unfold wm_ti; (repeat (first | rw [if_pos (by first | omega | assumption)] | rw [if_neg (by first | omega | (intro q; omega))])))
                  exact wm_iret (post := pX0_takeInside C b E fk fp op cn md rs x nt lt) X hr hP hS ⟨(by rw [ht]), (by rw [ht]; exact hE0), (by rw [ht]; exact hE1), hfr⟩ hQ dX0_takeInside_108
                · refine lv_aload_n X.1 X.2.1 dX0_takeInside_101 rfl (lv_at hl 1 rfl) ?_
                  refine wm_callVv (k := 0) (As := []) (rest := []) X hP hS hlt0 hE0 rfl (kX0_closeBracket l D C b n E fk fp op cn md rs nt lt hlt0 hE0 hlt1 hE1 (by omega) (by omega)) wq2_190 wq2_192 wqP1_15 wq1_3 wq2_193 (by decide) (by rw [hRe]; exact ⟨Nat.le_of_ble_eq_true rfl, Nat.le_of_ble_eq_true rfl⟩) rfl hl.1 rfl (Nat.le_of_ble_eq_true rfl) (Nat.zero_le _) (Nat.zero_le _) dX0_takeInside_102 (fun E29 H locs hw hP hS => ?_)
                  obtain ⟨hE0, hE1, hq⟩ := hw
                  have hfr : ∀ j, j ≠ 5 → j ≠ 8 → E29 j = E j := fun j h0 h1 => (hq j h0 h1).trans (hfr j h0 h1)
                  refine lv_iconst (v := nI 0) X.1 X.2.1 dX0_takeInside_105 (by decide) ?_
                  have e35 : x = 94 := (wm_sb_eq hx (by decide)).mp hc35
                  have e61 : x = 45 := (wm_sb_eq hx (by decide)).mp hc61
                  have e82 : x = 93 := (wm_sb_eq hx (by decide)).mp hc82
                  have ht : (wm_ti cn md nt rs lt x) = (0, 0, nt, rs, if nt then va_up lt (cn - 1) (lt (cn - 1) ^^^ 255) else lt) := by first | (exfalso; omega) | (unfold wm_ti; (repeat (first | rw [if_pos (by first | omega | assumption)] | rw [if_neg (by first | omega | (intro q; omega))])))
                  exact wm_iret (post := pX0_takeInside C b E fk fp op cn md rs x nt lt) X hr hP hS ⟨(by rw [ht]), (by rw [ht]; exact hE0), (by rw [ht]; exact hE1), hfr⟩ hQ dX0_takeInside_106
          · refine lv_aload_n X.1 X.2.1 dX0_takeInside_72 rfl (lv_at hl 1 rfl) ?_
            refine lv_iconst (v := nI 4) X.1 X.2.1 dX0_takeInside_73 (by decide) ?_
            refine wm_put (v := .int (nI 4)) X hP hS hlt0 hE0 rfl wm_inX0 tyX0 tyX0_ok nmX0 7 (by decide) wq1_124 rfl rfl rfl (fs1 := [.int (nI fk), .int (nI fp), .ref (b + 6), .ref (b + 7), .ref (b + 8), .int (nI op), .int (nI cn), .int (nI 4), .int (nI nt.toNat), .int (nI rs)]) rfl (Nat.le_of_ble_eq_true rfl) dX0_takeInside_74 (fun H locs E30 hP hS hE0 hq => ?_)
            have hE1 := (hq 8 (by decide)).trans hE1
            have hfr : ∀ j, j ≠ 5 → j ≠ 8 → E30 j = E j := fun j h0 h1 => (hq j h0).trans (hfr j h0 h1)
            refine lv_iconst (v := nI 0) X.1 X.2.1 dX0_takeInside_77 (by decide) ?_
            have e35 : x = 94 := (wm_sb_eq hx (by decide)).mp hc35
            have e61 : x = 45 := (wm_sb_eq hx (by decide)).mp hc61
            have ht : (wm_ti cn md nt rs lt x) = (0, 4, nt, rs, lt) := by first | (exfalso; omega) | (unfold wm_ti; (repeat (first | rw [if_pos (by first | omega | assumption)] | rw [if_neg (by first | omega | (intro q; omega))])))
            exact wm_iret (post := pX0_takeInside C b E fk fp op cn md rs x nt lt) X hr hP hS ⟨(by rw [ht]), (by rw [ht]; exact hE0), (by rw [ht]; exact hE1), hfr⟩ hQ dX0_takeInside_78
      · refine lv_aload_n X.1 X.2.1 dX0_takeInside_46 rfl (lv_at hl 1 rfl) ?_
        refine lv_iconst (v := nI 1) X.1 X.2.1 dX0_takeInside_47 (by decide) ?_
        refine wm_put (v := .int (nI true.toNat)) X hP hS hlt0 hE0 rfl wm_inX0 tyX0 tyX0_ok nmX0 8 (by decide) wq1_125 rfl (wm_nz true) (wm_fz true) (fs1 := [.int (nI fk), .int (nI fp), .ref (b + 6), .ref (b + 7), .ref (b + 8), .int (nI op), .int (nI cn), .int (nI md), .int (nI true.toNat), .int (nI rs)]) rfl (Nat.le_of_ble_eq_true rfl) dX0_takeInside_48 (fun H locs E31 hP hS hE0 hq => ?_)
        have hE1 := (hq 8 (by decide)).trans hE1
        have hfr : ∀ j, j ≠ 5 → j ≠ 8 → E31 j = E j := fun j h0 h1 => (hq j h0).trans (hfr j h0 h1)
        refine lv_aload_n X.1 X.2.1 dX0_takeInside_51 rfl (lv_at hl 1 rfl) ?_
        refine lv_iconst (v := nI 2) X.1 X.2.1 dX0_takeInside_52 (by decide) ?_
        refine wm_put (v := .int (nI 2)) X hP hS hlt0 hE0 rfl wm_inX0 tyX0 tyX0_ok nmX0 7 (by decide) wq1_124 rfl rfl rfl (fs1 := [.int (nI fk), .int (nI fp), .ref (b + 6), .ref (b + 7), .ref (b + 8), .int (nI op), .int (nI cn), .int (nI 2), .int (nI true.toNat), .int (nI rs)]) rfl (Nat.le_of_ble_eq_true rfl) dX0_takeInside_53 (fun H locs E32 hP hS hE0 hq => ?_)
        have hE1 := (hq 8 (by decide)).trans hE1
        have hfr : ∀ j, j ≠ 5 → j ≠ 8 → E32 j = E j := fun j h0 h1 => (hq j h0).trans (hfr j h0 h1)
        refine lv_iconst (v := nI 0) X.1 X.2.1 dX0_takeInside_56 (by decide) ?_
        have e35 : x = 94 := (wm_sb_eq hx (by decide)).mp hc35
        have ht : (wm_ti cn md nt rs lt x) = (0, 2, true, rs, lt) := by first | (exfalso; omega) | (unfold wm_ti; (repeat (first | rw [if_pos (by first | omega | assumption)] | rw [if_neg (by first | omega | (intro q; omega))])))
        exact wm_iret (post := pX0_takeInside C b E fk fp op cn md rs x nt lt) X hr hP hS ⟨(by rw [ht]), (by rw [ht]; exact hE0), (by rw [ht]; exact hE1), hfr⟩ hQ dX0_takeInside_57
  · obtain ⟨hx1, hx2, hx3⟩ := wm_lo_in hc7
    refine lv_aload_n X.1 X.2.1 dX0_takeInside_10 rfl (lv_at hl 1 rfl) ?_
    refine wm_get X hP hlt0 hE0 rfl wm_inX0 7 (by decide) wq1_124 rfl dX0_takeInside_11 ?_
    refine lv_iconst (v := nI 4) X.1 X.2.1 dX0_takeInside_14 (by decide) ?_
    refine wm_icmp_ne (x := md) (y := 4) (tgt := 26) X (by omega) (by decide) dX0_takeInside_15 (by decide) (fun hc15 => ?_) (fun hc15 => ?_)
    · refine lv_aload_n X.1 X.2.1 dX0_takeInside_26 rfl (lv_at hl 1 rfl) ?_
      refine lv_iload_n X.1 X.2.1 dX0_takeInside_27 rfl (lv_at hl 0 rfl) ?_
      refine wm_callVi (k := 1) (As := [.int (nI (wm_lo x))]) (rest := []) X hP hS hlt0 hE0 rfl (kX0_addLetter l D C b n E fk fp op cn md rs (wm_lo x) nt lt hlt0 hE0 hlt1 hE1 (by omega) (by omega) (by omega)) wq2_186 wq2_188 wqP1_14 wq1_3 wq2_189 (by decide) (by rw [hRe]; exact ⟨Nat.le_of_ble_eq_true rfl, Nat.le_of_ble_eq_true rfl⟩) rfl hl.1 rfl (Nat.le_of_ble_eq_true rfl) (Nat.zero_le _) (Nat.zero_le _) dX0_takeInside_28 (fun r34 E34 H locs hw hP hS => ?_)
      obtain ⟨hrt, hE0, hE1, hq⟩ := hw
      subst hrt
      have hfr : ∀ j, j ≠ 5 → j ≠ 8 → E34 j = E j := fun j h0 h1 => (hq j h0 h1).trans (hfr j h0 h1)
      have ht : (wm_ti cn md nt rs lt x) = (0, 3, nt, wm_lo x, va_up lt (cn - 1) (lt (cn - 1) ||| 1 <<< (wm_lo x))) := by first | (exfalso; omega) | (unfold wm_ti; (repeat (first | rw [if_pos (by first | omega | assumption)] | rw [if_neg (by first | omega | (intro q; omega))])))
      exact wm_iret (post := pX0_takeInside C b E fk fp op cn md rs x nt lt) X hr hP hS ⟨(by rw [ht]), (by rw [ht]; exact hE0), (by rw [ht]; exact hE1), hfr⟩ hQ dX0_takeInside_31
    · rcases Nat.lt_or_ge (wm_lo x) rs with hrg | hrg
      · refine lv_aload_n X.1 X.2.1 dX0_takeInside_18 rfl (lv_at hl 1 rfl) ?_
        refine lv_iload_n X.1 X.2.1 dX0_takeInside_19 rfl (lv_at hl 0 rfl) ?_
        refine wm_callVi (k := 1) (As := [.int (nI (wm_lo x))]) (rest := []) X hP hS hlt0 hE0 rfl (krange0 l D C b n E fk fp op cn md rs (wm_lo x) nt hlt0 hE0 (by omega) (by omega) (by omega)) wq2_182 wq2_184 wqP1_13 wq1_3 wq2_185 (by decide) (by rw [hRe]; exact ⟨Nat.le_of_ble_eq_true rfl, Nat.le_of_ble_eq_true rfl⟩) rfl hl.1 rfl (Nat.le_of_ble_eq_true rfl) (Nat.zero_le _) (Nat.zero_le _) dX0_takeInside_20 (fun r35 E35 H locs hw hP hS => ?_)
        obtain ⟨hrt, hEe⟩ := hw
        subst hrt
        subst hEe
        refine lv_goto (tgt := 31) X.1 X.2.1 dX0_takeInside_23 (by decide) ?_
        have ht : (wm_ti cn md nt rs lt x) = (4, md, nt, rs, lt) := by first | (exfalso; omega) | (unfold wm_ti; (repeat (first | rw [if_pos (by first | omega | assumption)] | rw [if_neg (by first | omega | (intro q; omega))])))
        exact wm_iret (post := pX0_takeInside C b E fk fp op cn md rs x nt lt) X hr hP hS ⟨(by rw [ht]), (by rw [ht]; exact hE0), (by rw [ht]; exact hE1), hfr⟩ hQ dX0_takeInside_31
      · refine lv_aload_n X.1 X.2.1 dX0_takeInside_18 rfl (lv_at hl 1 rfl) ?_
        refine lv_iload_n X.1 X.2.1 dX0_takeInside_19 rfl (lv_at hl 0 rfl) ?_
        refine wm_callVi (k := 1) (As := [.int (nI (wm_lo x))]) (rest := []) X hP hS hlt0 hE0 rfl (krange1 l D C b n E fk fp op cn md rs (wm_lo x) nt lt hlt0 hE0 hlt1 hE1 (by omega) (by omega) (by omega) (by omega)) wq2_182 wq2_184 wqP1_13 wq1_3 wq2_185 (by decide) (by rw [hRe]; exact ⟨Nat.le_of_ble_eq_true rfl, Nat.le_of_ble_eq_true rfl⟩) rfl hl.1 rfl (Nat.le_of_ble_eq_true rfl) (Nat.zero_le _) (Nat.zero_le _) dX0_takeInside_20 (fun r36 E36 H locs hw hP hS => ?_)
        obtain ⟨hrt, hE0, hE1, hq⟩ := hw
        subst hrt
        have hfr : ∀ j, j ≠ 5 → j ≠ 8 → E36 j = E j := fun j h0 h1 => (hq j h0 h1).trans (hfr j h0 h1)
        refine lv_goto (tgt := 31) X.1 X.2.1 dX0_takeInside_23 (by decide) ?_
        have ht : (wm_ti cn md nt rs lt x) = (0, 5, nt, rs, va_up lt (cn - 1) (wm_rg (lt (cn - 1)) rs ((wm_lo x) + 1))) := by first | (exfalso; omega) | (unfold wm_ti; (repeat (first | rw [if_pos (by first | omega | assumption)] | rw [if_neg (by first | omega | (intro q; omega))])))
        exact wm_iret (post := pX0_takeInside C b E fk fp op cn md rs x nt lt) X hr hP hS ⟨(by rw [ht]), (by rw [ht]; exact hE0), (by rw [ht]; exact hE1), hfr⟩ hQ dX0_takeInside_31
def ptA1 (C : Nat → ClassId) (b : Nat) (E : Nat → va_E) (fk fp op cn md rs x pf pl rf rl qf ql : Nat) (nt h pb rb qb : Bool) (fl lt : Nat → Nat) : Int32 → (Nat → va_E) → Prop := fun r E' => r = nI 0 ∧ E' 5 = .inr (0, [.int (nI fk), .int (nI fp), .ref (b + 6), .ref (b + 7), .ref (b + 8), .int (nI op), .int (nI (cn + 1)), .int (nI md), .int (nI nt.toNat), .int (nI rs)]) ∧ E' 7 = wm_I C 24 (wm_lk (va_up fl cn 0) cn rl qf) ∧ E' 8 = wm_I C 24 (va_up lt cn (1 <<< wm_lo x)) ∧ E' (9 + 4 * op) = .inr (1, [.ref (b + (10 + 4 * op)), .ref (b + (11 + 4 * op)), .ref (b + (12 + 4 * op)), .int (nI true.toNat)]) ∧ E' (10 + 4 * op) = .inr (3, [.int (nI pb.toNat), .int (nI pf), .int (nI pl)]) ∧ E' (11 + 4 * op) = .inr (3, [.int (nI (rb && qb).toNat), .int (nI (rf ||| (if rb then qf else 0))), .int (nI (ql ||| (if qb then rl else 0)))]) ∧ E' (12 + 4 * op) = .inr (3, [.int (nI false.toNat), .int (nI (1 <<< cn)), .int (nI (1 <<< cn))]) ∧ (∀ j, j ≠ 5 → j ≠ 7 → j ≠ 8 → j ≠ 9 + 4 * op → j ≠ 10 + 4 * op → j ≠ 11 + 4 * op → j ≠ 12 + 4 * op → E' j = E j)
set_option maxHeartbeats 4000000 in
set_option maxRecDepth 100000 in
theorem ktA1 (l : Launch) (D : va_G) (C : Nat → ClassId) (b n : Nat) (E : Nat → va_E) (fk fp op cn md rs x pf pl rf rl qf ql : Nat) (nt h pb rb qb : Bool) (fl lt : Nat → Nat) (hlt0 : 5 < n) (hE0 : E 5 = .inr (0, [.int (nI fk), .int (nI fp), .ref (b + 6), .ref (b + 7), .ref (b + 8), .int (nI op), .int (nI cn), .int (nI md), .int (nI nt.toNat), .int (nI rs)])) (hlt1 : 6 < n) (hE1 : E 6 = wm_Q C 5 21 (fun i => some (b + (9 + 4 * i)))) (hlt2 : 7 < n) (hE2 : E 7 = wm_I C 24 fl) (hlt3 : 8 < n) (hE3 : E 8 = wm_I C 24 lt) (hlt4 : 9 + 4 * op < n) (hE4 : E (9 + 4 * op) = .inr (1, [.ref (b + (10 + 4 * op)), .ref (b + (11 + 4 * op)), .ref (b + (12 + 4 * op)), .int (nI h.toNat)])) (hlt5 : 10 + 4 * op < n) (hE5 : E (10 + 4 * op) = .inr (3, [.int (nI pb.toNat), .int (nI pf), .int (nI pl)])) (hlt6 : 11 + 4 * op < n) (hE6 : E (11 + 4 * op) = .inr (3, [.int (nI rb.toNat), .int (nI rf), .int (nI rl)])) (hlt7 : 12 + 4 * op < n) (hE7 : E (12 + 4 * op) = .inr (3, [.int (nI qb.toNat), .int (nI qf), .int (nI ql)])) (hx : x < 256) (hop : op ≤ 20) (hcn : cn ≤ 24) (hcp : 1 ≤ cn) (hrl : rl < 2 ^ 32) (hlt24 : cn < 24) (hlo : wm_lo x ≠ 4294967295) : Met l yX0_takeOutside (wm_ws yX0_takeOutside cX0_takeOutside 3 (some .int)) { frames := 8, cells := 0, slots := 0, locals := 260 } (va_Pc [.ref (b + 5), .int (wm_sb x)] (wm_G D C b n E)) (va_Qi (ptA1 C b E fk fp op cn md rs x pf pl rf rl qf ql nt h pb rb qb fl lt) (fun E' t => wm_P D b n E' t.heap) (wm_A b)) 0 0 (wm_A b) := by
  refine wm_ofW (by decide) (Nat.le_of_ble_eq_true rfl) (fun p e s m below meth c ls R args Q hRe hQ X hr hnm hP hS hl => ?_)
  have hl : lv_has ls 3 [(0, .ref (b + 5)), (1, .int (wm_sb x))] := hl
  have hfr : ∀ j, j ≠ 5 → j ≠ 7 → j ≠ 8 → j ≠ 9 + 4 * op → j ≠ 10 + 4 * op → j ≠ 11 + 4 * op → j ≠ 12 + 4 * op → E j = E j := fun _ _ _ _ _ _ _ _ => rfl
  have hll := wm_lo_lt x
  refine lv_iload_n X.1 X.2.1 dX0_takeOutside_0 rfl (lv_at hl 1 rfl) ?_
  refine wm_callNi (k := 1) (As := [.int (wm_sb x)]) (rest := []) X hP hS  (kX6_letterOf l D C b n E x (by omega)) (host := "WordMachines") (by decide) wq2_133 wq1_1 wq2_134 (by decide) (by rw [hRe]; exact ⟨Nat.le_of_ble_eq_true rfl, Nat.le_of_ble_eq_true rfl⟩) rfl hl.1 rfl (Nat.le_of_ble_eq_true rfl) (Nat.zero_le _) (Nat.zero_le _) dX0_takeOutside_1 (fun r1 E1 H locs hw hP hS => ?_)
  obtain ⟨hrt, hEe⟩ := hw
  subst hrt
  subst hEe
  refine lv_istore_n (lv' := [(2, .int (nI (wm_lo x))), (0, .ref (b + 5)), (1, .int (wm_sb x))]) X.1 X.2.1 dX0_takeOutside_4 rfl hl (by decide) rfl (fun ls hl => ?_)
  refine lv_iload_n X.1 X.2.1 dX0_takeOutside_5 rfl (lv_at hl 0 rfl) ?_
  refine lv_iconst (v := nI 4294967295) X.1 X.2.1 dX0_takeOutside_6 (by decide) ?_
  refine wm_icmp_eq (x := (wm_lo x)) (y := 4294967295) (tgt := 18) X hll (by decide) dX0_takeOutside_7 (by decide) (fun hc7 => ?_) (fun hc7 => ?_)
  · exact absurd hc7 hlo
  · obtain ⟨hx1, hx2, hx3⟩ := wm_lo_in hc7
    refine lv_aload_n X.1 X.2.1 dX0_takeOutside_10 rfl (lv_at hl 1 rfl) ?_
    refine lv_iconst (v := nI 1) X.1 X.2.1 dX0_takeOutside_11 (by decide) ?_
    refine lv_iload_n X.1 X.2.1 dX0_takeOutside_12 rfl (lv_at hl 0 rfl) ?_
    refine wm_ishl (x := 1) (y := (wm_lo x)) X (by omega) dX0_takeOutside_13 ?_
    refine wm_callVi (k := 1) (As := [.int (nI (1 <<< (wm_lo x)))]) (rest := []) X hP hS hlt0 hE0 rfl (kaddState1 l D C b n E fk fp op cn md rs pf pl rf rl qf ql (1 <<< (wm_lo x)) nt h pb rb qb fl lt hlt0 hE0 hlt1 hE1 hlt2 hE2 hlt3 hE3 hlt4 hE4 hlt5 hE5 hlt6 hE6 hlt7 hE7 (by omega) (by omega) (by omega) (by omega) (by omega)) wq2_135 wq2_137 wqP1_4 wq1_3 wq2_138 (by decide) (by rw [hRe]; exact ⟨Nat.le_of_ble_eq_true rfl, Nat.le_of_ble_eq_true rfl⟩) rfl hl.1 rfl (Nat.le_of_ble_eq_true rfl) (Nat.zero_le _) (Nat.zero_le _) dX0_takeOutside_14 (fun r3 E3 H locs hw hP hS => ?_)
    obtain ⟨hrt, hE0, hE2, hE3, hE4, hE5, hE6, hE7, hq⟩ := hw
    subst hrt
    have hE1 := (hq 6 (by decide) (by decide) (by decide) (by omega) (by omega) (by omega) (by omega)).trans hE1
    have hfr : ∀ j, j ≠ 5 → j ≠ 7 → j ≠ 8 → j ≠ 9 + 4 * op → j ≠ 10 + 4 * op → j ≠ 11 + 4 * op → j ≠ 12 + 4 * op → E3 j = E j := fun j h0 h1 h2 h3 h4 h5 h6 => (hq j h0 h1 h2 h3 h4 h5 h6).trans (hfr j h0 h1 h2 h3 h4 h5 h6)
    exact wm_iret (post := ptA1 C b E fk fp op cn md rs x pf pl rf rl qf ql nt h pb rb qb fl lt) X hr hP hS ⟨rfl, hE0, hE2, hE3, hE4, hE5, hE6, hE7, hfr⟩ hQ dX0_takeOutside_17
def ptA0 (C : Nat → ClassId) (b : Nat) (E : Nat → va_E) (fk fp op cn md rs x : Nat) (nt : Bool) : Int32 → (Nat → va_E) → Prop := fun r E' => r = nI 2 ∧ E = E'
set_option maxHeartbeats 4000000 in
set_option maxRecDepth 100000 in
theorem ktA0 (l : Launch) (D : va_G) (C : Nat → ClassId) (b n : Nat) (E : Nat → va_E) (fk fp op cn md rs x : Nat) (nt : Bool) (hlt0 : 5 < n) (hE0 : E 5 = .inr (0, [.int (nI fk), .int (nI fp), .ref (b + 6), .ref (b + 7), .ref (b + 8), .int (nI op), .int (nI cn), .int (nI md), .int (nI nt.toNat), .int (nI rs)])) (hx : x < 256) (h24 : cn = 24) (hlo : wm_lo x ≠ 4294967295) : Met l yX0_takeOutside (wm_ws yX0_takeOutside cX0_takeOutside 3 (some .int)) { frames := 8, cells := 0, slots := 0, locals := 260 } (va_Pc [.ref (b + 5), .int (wm_sb x)] (wm_G D C b n E)) (va_Qi (ptA0 C b E fk fp op cn md rs x nt) (fun E' t => wm_P D b n E' t.heap) (wm_A b)) 0 0 (wm_A b) := by
  refine wm_ofW (by decide) (Nat.le_of_ble_eq_true rfl) (fun p e s m below meth c ls R args Q hRe hQ X hr hnm hP hS hl => ?_)
  have hl : lv_has ls 3 [(0, .ref (b + 5)), (1, .int (wm_sb x))] := hl
  have hll := wm_lo_lt x
  refine lv_iload_n X.1 X.2.1 dX0_takeOutside_0 rfl (lv_at hl 1 rfl) ?_
  refine wm_callNi (k := 1) (As := [.int (wm_sb x)]) (rest := []) X hP hS  (kX6_letterOf l D C b n E x (by omega)) (host := "WordMachines") (by decide) wq2_133 wq1_1 wq2_134 (by decide) (by rw [hRe]; exact ⟨Nat.le_of_ble_eq_true rfl, Nat.le_of_ble_eq_true rfl⟩) rfl hl.1 rfl (Nat.le_of_ble_eq_true rfl) (Nat.zero_le _) (Nat.zero_le _) dX0_takeOutside_1 (fun r1 E1 H locs hw hP hS => ?_)
  obtain ⟨hrt, hEe⟩ := hw
  subst hrt
  subst hEe
  refine lv_istore_n (lv' := [(2, .int (nI (wm_lo x))), (0, .ref (b + 5)), (1, .int (wm_sb x))]) X.1 X.2.1 dX0_takeOutside_4 rfl hl (by decide) rfl (fun ls hl => ?_)
  refine lv_iload_n X.1 X.2.1 dX0_takeOutside_5 rfl (lv_at hl 0 rfl) ?_
  refine lv_iconst (v := nI 4294967295) X.1 X.2.1 dX0_takeOutside_6 (by decide) ?_
  refine wm_icmp_eq (x := (wm_lo x)) (y := 4294967295) (tgt := 18) X hll (by decide) dX0_takeOutside_7 (by decide) (fun hc7 => ?_) (fun hc7 => ?_)
  · exact absurd hc7 hlo
  · obtain ⟨hx1, hx2, hx3⟩ := wm_lo_in hc7
    refine lv_aload_n X.1 X.2.1 dX0_takeOutside_10 rfl (lv_at hl 1 rfl) ?_
    refine lv_iconst (v := nI 1) X.1 X.2.1 dX0_takeOutside_11 (by decide) ?_
    refine lv_iload_n X.1 X.2.1 dX0_takeOutside_12 rfl (lv_at hl 0 rfl) ?_
    refine wm_ishl (x := 1) (y := (wm_lo x)) X (by omega) dX0_takeOutside_13 ?_
    refine wm_callVi (k := 1) (As := [.int (nI (1 <<< (wm_lo x)))]) (rest := []) X hP hS hlt0 hE0 rfl (kaddState0 l D C b n E fk fp op cn md rs (1 <<< (wm_lo x)) nt hlt0 hE0 (by omega)) wq2_135 wq2_137 wqP1_4 wq1_3 wq2_138 (by decide) (by rw [hRe]; exact ⟨Nat.le_of_ble_eq_true rfl, Nat.le_of_ble_eq_true rfl⟩) rfl hl.1 rfl (Nat.le_of_ble_eq_true rfl) (Nat.zero_le _) (Nat.zero_le _) dX0_takeOutside_14 (fun r3 E3 H locs hw hP hS => ?_)
    obtain ⟨hrt, hEe⟩ := hw
    subst hrt
    subst hEe
    exact wm_iret (post := ptA0 C b E fk fp op cn md rs x nt) X hr hP hS ⟨rfl, rfl⟩ hQ dX0_takeOutside_17
def ptD1 (C : Nat → ClassId) (b : Nat) (E : Nat → va_E) (fk fp op cn md rs x pf pl rf rl qf ql : Nat) (nt h pb rb qb : Bool) (fl lt : Nat → Nat) : Int32 → (Nat → va_E) → Prop := fun r E' => r = nI 0 ∧ E' 5 = .inr (0, [.int (nI fk), .int (nI fp), .ref (b + 6), .ref (b + 7), .ref (b + 8), .int (nI op), .int (nI (cn + 1)), .int (nI md), .int (nI nt.toNat), .int (nI rs)]) ∧ E' 7 = wm_I C 24 (wm_lk (va_up fl cn 0) cn rl qf) ∧ E' 8 = wm_I C 24 (va_up lt cn 255) ∧ E' (9 + 4 * op) = .inr (1, [.ref (b + (10 + 4 * op)), .ref (b + (11 + 4 * op)), .ref (b + (12 + 4 * op)), .int (nI true.toNat)]) ∧ E' (10 + 4 * op) = .inr (3, [.int (nI pb.toNat), .int (nI pf), .int (nI pl)]) ∧ E' (11 + 4 * op) = .inr (3, [.int (nI (rb && qb).toNat), .int (nI (rf ||| (if rb then qf else 0))), .int (nI (ql ||| (if qb then rl else 0)))]) ∧ E' (12 + 4 * op) = .inr (3, [.int (nI false.toNat), .int (nI (1 <<< cn)), .int (nI (1 <<< cn))]) ∧ (∀ j, j ≠ 5 → j ≠ 7 → j ≠ 8 → j ≠ 9 + 4 * op → j ≠ 10 + 4 * op → j ≠ 11 + 4 * op → j ≠ 12 + 4 * op → E' j = E j)
set_option maxHeartbeats 4000000 in
set_option maxRecDepth 100000 in
theorem ktD1 (l : Launch) (D : va_G) (C : Nat → ClassId) (b n : Nat) (E : Nat → va_E) (fk fp op cn md rs x pf pl rf rl qf ql : Nat) (nt h pb rb qb : Bool) (fl lt : Nat → Nat) (hlt0 : 5 < n) (hE0 : E 5 = .inr (0, [.int (nI fk), .int (nI fp), .ref (b + 6), .ref (b + 7), .ref (b + 8), .int (nI op), .int (nI cn), .int (nI md), .int (nI nt.toNat), .int (nI rs)])) (hlt1 : 6 < n) (hE1 : E 6 = wm_Q C 5 21 (fun i => some (b + (9 + 4 * i)))) (hlt2 : 7 < n) (hE2 : E 7 = wm_I C 24 fl) (hlt3 : 8 < n) (hE3 : E 8 = wm_I C 24 lt) (hlt4 : 9 + 4 * op < n) (hE4 : E (9 + 4 * op) = .inr (1, [.ref (b + (10 + 4 * op)), .ref (b + (11 + 4 * op)), .ref (b + (12 + 4 * op)), .int (nI h.toNat)])) (hlt5 : 10 + 4 * op < n) (hE5 : E (10 + 4 * op) = .inr (3, [.int (nI pb.toNat), .int (nI pf), .int (nI pl)])) (hlt6 : 11 + 4 * op < n) (hE6 : E (11 + 4 * op) = .inr (3, [.int (nI rb.toNat), .int (nI rf), .int (nI rl)])) (hlt7 : 12 + 4 * op < n) (hE7 : E (12 + 4 * op) = .inr (3, [.int (nI qb.toNat), .int (nI qf), .int (nI ql)])) (hx : x < 256) (hop : op ≤ 20) (hcn : cn ≤ 24) (hcp : 1 ≤ cn) (hrl : rl < 2 ^ 32) (hlt24 : cn < 24) (hxk : x = 46) : Met l yX0_takeOutside (wm_ws yX0_takeOutside cX0_takeOutside 3 (some .int)) { frames := 8, cells := 0, slots := 0, locals := 260 } (va_Pc [.ref (b + 5), .int (wm_sb x)] (wm_G D C b n E)) (va_Qi (ptD1 C b E fk fp op cn md rs x pf pl rf rl qf ql nt h pb rb qb fl lt) (fun E' t => wm_P D b n E' t.heap) (wm_A b)) 0 0 (wm_A b) := by
  refine wm_ofW (by decide) (Nat.le_of_ble_eq_true rfl) (fun p e s m below meth c ls R args Q hRe hQ X hr hnm hP hS hl => ?_)
  have hl : lv_has ls 3 [(0, .ref (b + 5)), (1, .int (wm_sb x))] := hl
  have hfr : ∀ j, j ≠ 5 → j ≠ 7 → j ≠ 8 → j ≠ 9 + 4 * op → j ≠ 10 + 4 * op → j ≠ 11 + 4 * op → j ≠ 12 + 4 * op → E j = E j := fun _ _ _ _ _ _ _ _ => rfl
  have hll := wm_lo_lt x
  have hlo : wm_lo x = 4294967295 := by rw [hxk]; decide
  refine lv_iload_n X.1 X.2.1 dX0_takeOutside_0 rfl (lv_at hl 1 rfl) ?_
  refine wm_callNi (k := 1) (As := [.int (wm_sb x)]) (rest := []) X hP hS  (kX6_letterOf l D C b n E x (by omega)) (host := "WordMachines") (by decide) wq2_133 wq1_1 wq2_134 (by decide) (by rw [hRe]; exact ⟨Nat.le_of_ble_eq_true rfl, Nat.le_of_ble_eq_true rfl⟩) rfl hl.1 rfl (Nat.le_of_ble_eq_true rfl) (Nat.zero_le _) (Nat.zero_le _) dX0_takeOutside_1 (fun r1 E1 H locs hw hP hS => ?_)
  obtain ⟨hrt, hEe⟩ := hw
  subst hrt
  subst hEe
  refine lv_istore_n (lv' := [(2, .int (nI (wm_lo x))), (0, .ref (b + 5)), (1, .int (wm_sb x))]) X.1 X.2.1 dX0_takeOutside_4 rfl hl (by decide) rfl (fun ls hl => ?_)
  refine lv_iload_n X.1 X.2.1 dX0_takeOutside_5 rfl (lv_at hl 0 rfl) ?_
  refine lv_iconst (v := nI 4294967295) X.1 X.2.1 dX0_takeOutside_6 (by decide) ?_
  refine wm_icmp_eq (x := (wm_lo x)) (y := 4294967295) (tgt := 18) X hll (by decide) dX0_takeOutside_7 (by decide) (fun hc7 => ?_) (fun hc7 => ?_)
  · refine lv_iload_n X.1 X.2.1 dX0_takeOutside_18 rfl (lv_at hl 2 rfl) ?_
    refine lv_lookup (tgt := 92) X.1 X.2.1 dX0_takeOutside_19 (by decide) (by rw [hxk]; first | done | decide) (by decide) ?_
    refine lv_aload_n X.1 X.2.1 dX0_takeOutside_92 rfl (lv_at hl 1 rfl) ?_
    refine lv_sipush (v := nI 255) X.1 X.2.1 dX0_takeOutside_93 (by decide) ?_
    refine wm_callVi (k := 1) (As := [.int (nI 255)]) (rest := []) X hP hS hlt0 hE0 rfl (kaddState1 l D C b n E fk fp op cn md rs pf pl rf rl qf ql 255 nt h pb rb qb fl lt hlt0 hE0 hlt1 hE1 hlt2 hE2 hlt3 hE3 hlt4 hE4 hlt5 hE5 hlt6 hE6 hlt7 hE7 (by omega) (by omega) (by omega) (by omega) (by omega)) wq2_135 wq2_137 wqP1_4 wq1_3 wq2_138 (by decide) (by rw [hRe]; exact ⟨Nat.le_of_ble_eq_true rfl, Nat.le_of_ble_eq_true rfl⟩) rfl hl.1 rfl (Nat.le_of_ble_eq_true rfl) (Nat.zero_le _) (Nat.zero_le _) dX0_takeOutside_96 (fun r3 E3 H locs hw hP hS => ?_)
    obtain ⟨hrt, hE0, hE2, hE3, hE4, hE5, hE6, hE7, hq⟩ := hw
    subst hrt
    have hE1 := (hq 6 (by decide) (by decide) (by decide) (by omega) (by omega) (by omega) (by omega)).trans hE1
    have hfr : ∀ j, j ≠ 5 → j ≠ 7 → j ≠ 8 → j ≠ 9 + 4 * op → j ≠ 10 + 4 * op → j ≠ 11 + 4 * op → j ≠ 12 + 4 * op → E3 j = E j := fun j h0 h1 h2 h3 h4 h5 h6 => (hq j h0 h1 h2 h3 h4 h5 h6).trans (hfr j h0 h1 h2 h3 h4 h5 h6)
    exact wm_iret (post := ptD1 C b E fk fp op cn md rs x pf pl rf rl qf ql nt h pb rb qb fl lt) X hr hP hS ⟨rfl, hE0, hE2, hE3, hE4, hE5, hE6, hE7, hfr⟩ hQ dX0_takeOutside_99
  · exact absurd hc7 (fun q => q hlo)
def ptD0 (C : Nat → ClassId) (b : Nat) (E : Nat → va_E) (fk fp op cn md rs x : Nat) (nt : Bool) : Int32 → (Nat → va_E) → Prop := fun r E' => r = nI 2 ∧ E = E'
set_option maxHeartbeats 4000000 in
set_option maxRecDepth 100000 in
theorem ktD0 (l : Launch) (D : va_G) (C : Nat → ClassId) (b n : Nat) (E : Nat → va_E) (fk fp op cn md rs x : Nat) (nt : Bool) (hlt0 : 5 < n) (hE0 : E 5 = .inr (0, [.int (nI fk), .int (nI fp), .ref (b + 6), .ref (b + 7), .ref (b + 8), .int (nI op), .int (nI cn), .int (nI md), .int (nI nt.toNat), .int (nI rs)])) (hx : x < 256) (h24 : cn = 24) (hxk : x = 46) : Met l yX0_takeOutside (wm_ws yX0_takeOutside cX0_takeOutside 3 (some .int)) { frames := 8, cells := 0, slots := 0, locals := 260 } (va_Pc [.ref (b + 5), .int (wm_sb x)] (wm_G D C b n E)) (va_Qi (ptD0 C b E fk fp op cn md rs x nt) (fun E' t => wm_P D b n E' t.heap) (wm_A b)) 0 0 (wm_A b) := by
  refine wm_ofW (by decide) (Nat.le_of_ble_eq_true rfl) (fun p e s m below meth c ls R args Q hRe hQ X hr hnm hP hS hl => ?_)
  have hl : lv_has ls 3 [(0, .ref (b + 5)), (1, .int (wm_sb x))] := hl
  have hll := wm_lo_lt x
  have hlo : wm_lo x = 4294967295 := by rw [hxk]; decide
  refine lv_iload_n X.1 X.2.1 dX0_takeOutside_0 rfl (lv_at hl 1 rfl) ?_
  refine wm_callNi (k := 1) (As := [.int (wm_sb x)]) (rest := []) X hP hS  (kX6_letterOf l D C b n E x (by omega)) (host := "WordMachines") (by decide) wq2_133 wq1_1 wq2_134 (by decide) (by rw [hRe]; exact ⟨Nat.le_of_ble_eq_true rfl, Nat.le_of_ble_eq_true rfl⟩) rfl hl.1 rfl (Nat.le_of_ble_eq_true rfl) (Nat.zero_le _) (Nat.zero_le _) dX0_takeOutside_1 (fun r1 E1 H locs hw hP hS => ?_)
  obtain ⟨hrt, hEe⟩ := hw
  subst hrt
  subst hEe
  refine lv_istore_n (lv' := [(2, .int (nI (wm_lo x))), (0, .ref (b + 5)), (1, .int (wm_sb x))]) X.1 X.2.1 dX0_takeOutside_4 rfl hl (by decide) rfl (fun ls hl => ?_)
  refine lv_iload_n X.1 X.2.1 dX0_takeOutside_5 rfl (lv_at hl 0 rfl) ?_
  refine lv_iconst (v := nI 4294967295) X.1 X.2.1 dX0_takeOutside_6 (by decide) ?_
  refine wm_icmp_eq (x := (wm_lo x)) (y := 4294967295) (tgt := 18) X hll (by decide) dX0_takeOutside_7 (by decide) (fun hc7 => ?_) (fun hc7 => ?_)
  · refine lv_iload_n X.1 X.2.1 dX0_takeOutside_18 rfl (lv_at hl 2 rfl) ?_
    refine lv_lookup (tgt := 92) X.1 X.2.1 dX0_takeOutside_19 (by decide) (by rw [hxk]; first | done | decide) (by decide) ?_
    refine lv_aload_n X.1 X.2.1 dX0_takeOutside_92 rfl (lv_at hl 1 rfl) ?_
    refine lv_sipush (v := nI 255) X.1 X.2.1 dX0_takeOutside_93 (by decide) ?_
    refine wm_callVi (k := 1) (As := [.int (nI 255)]) (rest := []) X hP hS hlt0 hE0 rfl (kaddState0 l D C b n E fk fp op cn md rs 255 nt hlt0 hE0 (by omega)) wq2_135 wq2_137 wqP1_4 wq1_3 wq2_138 (by decide) (by rw [hRe]; exact ⟨Nat.le_of_ble_eq_true rfl, Nat.le_of_ble_eq_true rfl⟩) rfl hl.1 rfl (Nat.le_of_ble_eq_true rfl) (Nat.zero_le _) (Nat.zero_le _) dX0_takeOutside_96 (fun r3 E3 H locs hw hP hS => ?_)
    obtain ⟨hrt, hEe⟩ := hw
    subst hrt
    subst hEe
    exact wm_iret (post := ptD0 C b E fk fp op cn md rs x nt) X hr hP hS ⟨rfl, rfl⟩ hQ dX0_takeOutside_99
  · exact absurd hc7 (fun q => q hlo)
def ptB1 (C : Nat → ClassId) (b : Nat) (E : Nat → va_E) (fk fp op cn md rs x pf pl rf rl qf ql : Nat) (nt h pb rb qb : Bool) (fl lt : Nat → Nat) : Int32 → (Nat → va_E) → Prop := fun r E' => r = nI 0 ∧ E' 5 = .inr (0, [.int (nI fk), .int (nI fp), .ref (b + 6), .ref (b + 7), .ref (b + 8), .int (nI op), .int (nI (cn + 1)), .int (nI 1), .int (nI false.toNat), .int (nI rs)]) ∧ E' 7 = wm_I C 24 (wm_lk (va_up fl cn 0) cn rl qf) ∧ E' 8 = wm_I C 24 (va_up lt cn 0) ∧ E' (9 + 4 * op) = .inr (1, [.ref (b + (10 + 4 * op)), .ref (b + (11 + 4 * op)), .ref (b + (12 + 4 * op)), .int (nI true.toNat)]) ∧ E' (10 + 4 * op) = .inr (3, [.int (nI pb.toNat), .int (nI pf), .int (nI pl)]) ∧ E' (11 + 4 * op) = .inr (3, [.int (nI (rb && qb).toNat), .int (nI (rf ||| (if rb then qf else 0))), .int (nI (ql ||| (if qb then rl else 0)))]) ∧ E' (12 + 4 * op) = .inr (3, [.int (nI false.toNat), .int (nI (1 <<< cn)), .int (nI (1 <<< cn))]) ∧ (∀ j, j ≠ 5 → j ≠ 7 → j ≠ 8 → j ≠ 9 + 4 * op → j ≠ 10 + 4 * op → j ≠ 11 + 4 * op → j ≠ 12 + 4 * op → E' j = E j)
set_option maxHeartbeats 4000000 in
set_option maxRecDepth 100000 in
theorem ktB1 (l : Launch) (D : va_G) (C : Nat → ClassId) (b n : Nat) (E : Nat → va_E) (fk fp op cn md rs x pf pl rf rl qf ql : Nat) (nt h pb rb qb : Bool) (fl lt : Nat → Nat) (hlt0 : 5 < n) (hE0 : E 5 = .inr (0, [.int (nI fk), .int (nI fp), .ref (b + 6), .ref (b + 7), .ref (b + 8), .int (nI op), .int (nI cn), .int (nI md), .int (nI nt.toNat), .int (nI rs)])) (hlt1 : 6 < n) (hE1 : E 6 = wm_Q C 5 21 (fun i => some (b + (9 + 4 * i)))) (hlt2 : 7 < n) (hE2 : E 7 = wm_I C 24 fl) (hlt3 : 8 < n) (hE3 : E 8 = wm_I C 24 lt) (hlt4 : 9 + 4 * op < n) (hE4 : E (9 + 4 * op) = .inr (1, [.ref (b + (10 + 4 * op)), .ref (b + (11 + 4 * op)), .ref (b + (12 + 4 * op)), .int (nI h.toNat)])) (hlt5 : 10 + 4 * op < n) (hE5 : E (10 + 4 * op) = .inr (3, [.int (nI pb.toNat), .int (nI pf), .int (nI pl)])) (hlt6 : 11 + 4 * op < n) (hE6 : E (11 + 4 * op) = .inr (3, [.int (nI rb.toNat), .int (nI rf), .int (nI rl)])) (hlt7 : 12 + 4 * op < n) (hE7 : E (12 + 4 * op) = .inr (3, [.int (nI qb.toNat), .int (nI qf), .int (nI ql)])) (hx : x < 256) (hop : op ≤ 20) (hcn : cn ≤ 24) (hcp : 1 ≤ cn) (hrl : rl < 2 ^ 32) (hlt24 : cn < 24) (hxk : x = 91) : Met l yX0_takeOutside (wm_ws yX0_takeOutside cX0_takeOutside 3 (some .int)) { frames := 8, cells := 0, slots := 0, locals := 260 } (va_Pc [.ref (b + 5), .int (wm_sb x)] (wm_G D C b n E)) (va_Qi (ptB1 C b E fk fp op cn md rs x pf pl rf rl qf ql nt h pb rb qb fl lt) (fun E' t => wm_P D b n E' t.heap) (wm_A b)) 0 0 (wm_A b) := by
  refine wm_ofW (by decide) (Nat.le_of_ble_eq_true rfl) (fun p e s m below meth c ls R args Q hRe hQ X hr hnm hP hS hl => ?_)
  have hl : lv_has ls 3 [(0, .ref (b + 5)), (1, .int (wm_sb x))] := hl
  have hfr : ∀ j, j ≠ 5 → j ≠ 7 → j ≠ 8 → j ≠ 9 + 4 * op → j ≠ 10 + 4 * op → j ≠ 11 + 4 * op → j ≠ 12 + 4 * op → E j = E j := fun _ _ _ _ _ _ _ _ => rfl
  have hll := wm_lo_lt x
  have hlo : wm_lo x = 4294967295 := by rw [hxk]; decide
  refine lv_iload_n X.1 X.2.1 dX0_takeOutside_0 rfl (lv_at hl 1 rfl) ?_
  refine wm_callNi (k := 1) (As := [.int (wm_sb x)]) (rest := []) X hP hS  (kX6_letterOf l D C b n E x (by omega)) (host := "WordMachines") (by decide) wq2_133 wq1_1 wq2_134 (by decide) (by rw [hRe]; exact ⟨Nat.le_of_ble_eq_true rfl, Nat.le_of_ble_eq_true rfl⟩) rfl hl.1 rfl (Nat.le_of_ble_eq_true rfl) (Nat.zero_le _) (Nat.zero_le _) dX0_takeOutside_1 (fun r1 E1 H locs hw hP hS => ?_)
  obtain ⟨hrt, hEe⟩ := hw
  subst hrt
  subst hEe
  refine lv_istore_n (lv' := [(2, .int (nI (wm_lo x))), (0, .ref (b + 5)), (1, .int (wm_sb x))]) X.1 X.2.1 dX0_takeOutside_4 rfl hl (by decide) rfl (fun ls hl => ?_)
  refine lv_iload_n X.1 X.2.1 dX0_takeOutside_5 rfl (lv_at hl 0 rfl) ?_
  refine lv_iconst (v := nI 4294967295) X.1 X.2.1 dX0_takeOutside_6 (by decide) ?_
  refine wm_icmp_eq (x := (wm_lo x)) (y := 4294967295) (tgt := 18) X hll (by decide) dX0_takeOutside_7 (by decide) (fun hc7 => ?_) (fun hc7 => ?_)
  · refine lv_iload_n X.1 X.2.1 dX0_takeOutside_18 rfl (lv_at hl 2 rfl) ?_
    refine lv_lookup (tgt := 100) X.1 X.2.1 dX0_takeOutside_19 (by decide) (by rw [hxk]; first | done | decide) (by decide) ?_
    refine lv_aload_n X.1 X.2.1 dX0_takeOutside_100 rfl (lv_at hl 1 rfl) ?_
    refine lv_iconst (v := nI 1) X.1 X.2.1 dX0_takeOutside_101 (by decide) ?_
    refine wm_put (v := .int (nI 1)) X hP hS hlt0 hE0 rfl wm_inX0 tyX0 tyX0_ok nmX0 7 (by decide) wq1_124 rfl rfl rfl (fs1 := [.int (nI fk), .int (nI fp), .ref (b + 6), .ref (b + 7), .ref (b + 8), .int (nI op), .int (nI cn), .int (nI 1), .int (nI nt.toNat), .int (nI rs)]) rfl (Nat.le_of_ble_eq_true rfl) dX0_takeOutside_102 (fun H locs E3 hP hS hE0 hq => ?_)
    have hE1 := (hq 6 (by decide)).trans hE1
    have hE2 := (hq 7 (by decide)).trans hE2
    have hE3 := (hq 8 (by decide)).trans hE3
    have hE4 := (hq (9 + 4 * op) (by omega)).trans hE4
    have hE5 := (hq (10 + 4 * op) (by omega)).trans hE5
    have hE6 := (hq (11 + 4 * op) (by omega)).trans hE6
    have hE7 := (hq (12 + 4 * op) (by omega)).trans hE7
    have hfr : ∀ j, j ≠ 5 → j ≠ 7 → j ≠ 8 → j ≠ 9 + 4 * op → j ≠ 10 + 4 * op → j ≠ 11 + 4 * op → j ≠ 12 + 4 * op → E3 j = E j := fun j h0 h1 h2 h3 h4 h5 h6 => (hq j h0).trans (hfr j h0 h1 h2 h3 h4 h5 h6)
    refine lv_aload_n X.1 X.2.1 dX0_takeOutside_105 rfl (lv_at hl 1 rfl) ?_
    refine lv_iconst (v := nI 0) X.1 X.2.1 dX0_takeOutside_106 (by decide) ?_
    refine wm_put (v := .int (nI false.toNat)) X hP hS hlt0 hE0 rfl wm_inX0 tyX0 tyX0_ok nmX0 8 (by decide) wq1_125 rfl (wm_nz false) (wm_fz false) (fs1 := [.int (nI fk), .int (nI fp), .ref (b + 6), .ref (b + 7), .ref (b + 8), .int (nI op), .int (nI cn), .int (nI 1), .int (nI false.toNat), .int (nI rs)]) rfl (Nat.le_of_ble_eq_true rfl) dX0_takeOutside_107 (fun H locs E4 hP hS hE0 hq => ?_)
    have hE1 := (hq 6 (by decide)).trans hE1
    have hE2 := (hq 7 (by decide)).trans hE2
    have hE3 := (hq 8 (by decide)).trans hE3
    have hE4 := (hq (9 + 4 * op) (by omega)).trans hE4
    have hE5 := (hq (10 + 4 * op) (by omega)).trans hE5
    have hE6 := (hq (11 + 4 * op) (by omega)).trans hE6
    have hE7 := (hq (12 + 4 * op) (by omega)).trans hE7
    have hfr : ∀ j, j ≠ 5 → j ≠ 7 → j ≠ 8 → j ≠ 9 + 4 * op → j ≠ 10 + 4 * op → j ≠ 11 + 4 * op → j ≠ 12 + 4 * op → E4 j = E j := fun j h0 h1 h2 h3 h4 h5 h6 => (hq j h0).trans (hfr j h0 h1 h2 h3 h4 h5 h6)
    refine lv_aload_n X.1 X.2.1 dX0_takeOutside_110 rfl (lv_at hl 1 rfl) ?_
    refine lv_iconst (v := nI 0) X.1 X.2.1 dX0_takeOutside_111 (by decide) ?_
    refine wm_callVi (k := 1) (As := [.int (nI 0)]) (rest := []) X hP hS hlt0 hE0 rfl (kaddState1 l D C b n E4 fk fp op cn 1 rs pf pl rf rl qf ql 0 false h pb rb qb fl lt hlt0 hE0 hlt1 hE1 hlt2 hE2 hlt3 hE3 hlt4 hE4 hlt5 hE5 hlt6 hE6 hlt7 hE7 (by omega) (by omega) (by omega) (by omega) (by omega)) wq2_135 wq2_137 wqP1_4 wq1_3 wq2_138 (by decide) (by rw [hRe]; exact ⟨Nat.le_of_ble_eq_true rfl, Nat.le_of_ble_eq_true rfl⟩) rfl hl.1 rfl (Nat.le_of_ble_eq_true rfl) (Nat.zero_le _) (Nat.zero_le _) dX0_takeOutside_112 (fun r5 E5 H locs hw hP hS => ?_)
    obtain ⟨hrt, hE0, hE2, hE3, hE4, hE5, hE6, hE7, hq⟩ := hw
    subst hrt
    have hE1 := (hq 6 (by decide) (by decide) (by decide) (by omega) (by omega) (by omega) (by omega)).trans hE1
    have hfr : ∀ j, j ≠ 5 → j ≠ 7 → j ≠ 8 → j ≠ 9 + 4 * op → j ≠ 10 + 4 * op → j ≠ 11 + 4 * op → j ≠ 12 + 4 * op → E5 j = E j := fun j h0 h1 h2 h3 h4 h5 h6 => (hq j h0 h1 h2 h3 h4 h5 h6).trans (hfr j h0 h1 h2 h3 h4 h5 h6)
    exact wm_iret (post := ptB1 C b E fk fp op cn md rs x pf pl rf rl qf ql nt h pb rb qb fl lt) X hr hP hS ⟨rfl, hE0, hE2, hE3, hE4, hE5, hE6, hE7, hfr⟩ hQ dX0_takeOutside_115
  · exact absurd hc7 (fun q => q hlo)
def ptB0 (C : Nat → ClassId) (b : Nat) (E : Nat → va_E) (fk fp op cn md rs x : Nat) (nt : Bool) : Int32 → (Nat → va_E) → Prop := fun r E' => r = nI 2 ∧ E' 5 = .inr (0, [.int (nI fk), .int (nI fp), .ref (b + 6), .ref (b + 7), .ref (b + 8), .int (nI op), .int (nI cn), .int (nI 1), .int (nI false.toNat), .int (nI rs)]) ∧ (∀ j, j ≠ 5 → E' j = E j)
set_option maxHeartbeats 4000000 in
set_option maxRecDepth 100000 in
theorem ktB0 (l : Launch) (D : va_G) (C : Nat → ClassId) (b n : Nat) (E : Nat → va_E) (fk fp op cn md rs x : Nat) (nt : Bool) (hlt0 : 5 < n) (hE0 : E 5 = .inr (0, [.int (nI fk), .int (nI fp), .ref (b + 6), .ref (b + 7), .ref (b + 8), .int (nI op), .int (nI cn), .int (nI md), .int (nI nt.toNat), .int (nI rs)])) (hx : x < 256) (h24 : cn = 24) (hxk : x = 91) : Met l yX0_takeOutside (wm_ws yX0_takeOutside cX0_takeOutside 3 (some .int)) { frames := 8, cells := 0, slots := 0, locals := 260 } (va_Pc [.ref (b + 5), .int (wm_sb x)] (wm_G D C b n E)) (va_Qi (ptB0 C b E fk fp op cn md rs x nt) (fun E' t => wm_P D b n E' t.heap) (wm_A b)) 0 0 (wm_A b) := by
  refine wm_ofW (by decide) (Nat.le_of_ble_eq_true rfl) (fun p e s m below meth c ls R args Q hRe hQ X hr hnm hP hS hl => ?_)
  have hl : lv_has ls 3 [(0, .ref (b + 5)), (1, .int (wm_sb x))] := hl
  have hfr : ∀ j, j ≠ 5 → E j = E j := fun _ _ => rfl
  have hll := wm_lo_lt x
  have hlo : wm_lo x = 4294967295 := by rw [hxk]; decide
  refine lv_iload_n X.1 X.2.1 dX0_takeOutside_0 rfl (lv_at hl 1 rfl) ?_
  refine wm_callNi (k := 1) (As := [.int (wm_sb x)]) (rest := []) X hP hS  (kX6_letterOf l D C b n E x (by omega)) (host := "WordMachines") (by decide) wq2_133 wq1_1 wq2_134 (by decide) (by rw [hRe]; exact ⟨Nat.le_of_ble_eq_true rfl, Nat.le_of_ble_eq_true rfl⟩) rfl hl.1 rfl (Nat.le_of_ble_eq_true rfl) (Nat.zero_le _) (Nat.zero_le _) dX0_takeOutside_1 (fun r1 E1 H locs hw hP hS => ?_)
  obtain ⟨hrt, hEe⟩ := hw
  subst hrt
  subst hEe
  refine lv_istore_n (lv' := [(2, .int (nI (wm_lo x))), (0, .ref (b + 5)), (1, .int (wm_sb x))]) X.1 X.2.1 dX0_takeOutside_4 rfl hl (by decide) rfl (fun ls hl => ?_)
  refine lv_iload_n X.1 X.2.1 dX0_takeOutside_5 rfl (lv_at hl 0 rfl) ?_
  refine lv_iconst (v := nI 4294967295) X.1 X.2.1 dX0_takeOutside_6 (by decide) ?_
  refine wm_icmp_eq (x := (wm_lo x)) (y := 4294967295) (tgt := 18) X hll (by decide) dX0_takeOutside_7 (by decide) (fun hc7 => ?_) (fun hc7 => ?_)
  · refine lv_iload_n X.1 X.2.1 dX0_takeOutside_18 rfl (lv_at hl 2 rfl) ?_
    refine lv_lookup (tgt := 100) X.1 X.2.1 dX0_takeOutside_19 (by decide) (by rw [hxk]; first | done | decide) (by decide) ?_
    refine lv_aload_n X.1 X.2.1 dX0_takeOutside_100 rfl (lv_at hl 1 rfl) ?_
    refine lv_iconst (v := nI 1) X.1 X.2.1 dX0_takeOutside_101 (by decide) ?_
    refine wm_put (v := .int (nI 1)) X hP hS hlt0 hE0 rfl wm_inX0 tyX0 tyX0_ok nmX0 7 (by decide) wq1_124 rfl rfl rfl (fs1 := [.int (nI fk), .int (nI fp), .ref (b + 6), .ref (b + 7), .ref (b + 8), .int (nI op), .int (nI cn), .int (nI 1), .int (nI nt.toNat), .int (nI rs)]) rfl (Nat.le_of_ble_eq_true rfl) dX0_takeOutside_102 (fun H locs E3 hP hS hE0 hq => ?_)
    have hfr : ∀ j, j ≠ 5 → E3 j = E j := fun j h0 => (hq j h0).trans (hfr j h0)
    refine lv_aload_n X.1 X.2.1 dX0_takeOutside_105 rfl (lv_at hl 1 rfl) ?_
    refine lv_iconst (v := nI 0) X.1 X.2.1 dX0_takeOutside_106 (by decide) ?_
    refine wm_put (v := .int (nI false.toNat)) X hP hS hlt0 hE0 rfl wm_inX0 tyX0 tyX0_ok nmX0 8 (by decide) wq1_125 rfl (wm_nz false) (wm_fz false) (fs1 := [.int (nI fk), .int (nI fp), .ref (b + 6), .ref (b + 7), .ref (b + 8), .int (nI op), .int (nI cn), .int (nI 1), .int (nI false.toNat), .int (nI rs)]) rfl (Nat.le_of_ble_eq_true rfl) dX0_takeOutside_107 (fun H locs E4 hP hS hE0 hq => ?_)
    have hfr : ∀ j, j ≠ 5 → E4 j = E j := fun j h0 => (hq j h0).trans (hfr j h0)
    refine lv_aload_n X.1 X.2.1 dX0_takeOutside_110 rfl (lv_at hl 1 rfl) ?_
    refine lv_iconst (v := nI 0) X.1 X.2.1 dX0_takeOutside_111 (by decide) ?_
    refine wm_callVi (k := 1) (As := [.int (nI 0)]) (rest := []) X hP hS hlt0 hE0 rfl (kaddState0 l D C b n E4 fk fp op cn 1 rs 0 false hlt0 hE0 (by omega)) wq2_135 wq2_137 wqP1_4 wq1_3 wq2_138 (by decide) (by rw [hRe]; exact ⟨Nat.le_of_ble_eq_true rfl, Nat.le_of_ble_eq_true rfl⟩) rfl hl.1 rfl (Nat.le_of_ble_eq_true rfl) (Nat.zero_le _) (Nat.zero_le _) dX0_takeOutside_112 (fun r5 E5 H locs hw hP hS => ?_)
    obtain ⟨hrt, hEe⟩ := hw
    subst hrt
    subst hEe
    exact wm_iret (post := ptB0 C b E fk fp op cn md rs x nt) X hr hP hS ⟨rfl, hE0, hfr⟩ hQ dX0_takeOutside_115
  · exact absurd hc7 (fun q => q hlo)
def ptO1 (C : Nat → ClassId) (b : Nat) (E : Nat → va_E) (fk fp op cn md rs x pf pl rf rl qf ql : Nat) (nt h pb rb qb : Bool) : Int32 → (Nat → va_E) → Prop := fun r E' => r = nI 0 ∧ E' 5 = .inr (0, [.int (nI fk), .int (nI fp), .ref (b + 6), .ref (b + 7), .ref (b + 8), .int (nI (op + 1)), .int (nI cn), .int (nI md), .int (nI nt.toNat), .int (nI rs)]) ∧ E' (9 + 4 * (op + 1)) = .inr (1, [.ref (b + (10 + 4 * (op + 1))), .ref (b + (11 + 4 * (op + 1))), .ref (b + (12 + 4 * (op + 1))), .int (nI false.toNat)]) ∧ E' (10 + 4 * (op + 1)) = .inr (3, [.int (nI false.toNat), .int (nI 0), .int (nI 0)]) ∧ E' (11 + 4 * (op + 1)) = .inr (3, [.int (nI true.toNat), .int (nI 0), .int (nI 0)]) ∧ E' (12 + 4 * (op + 1)) = .inr (3, [.int (nI true.toNat), .int (nI 0), .int (nI 0)]) ∧ (∀ j, j ≠ 5 → j ≠ 9 + 4 * (op + 1) → j ≠ 10 + 4 * (op + 1) → j ≠ 11 + 4 * (op + 1) → j ≠ 12 + 4 * (op + 1) → E' j = E j)
set_option maxHeartbeats 4000000 in
set_option maxRecDepth 100000 in
theorem ktO1 (l : Launch) (D : va_G) (C : Nat → ClassId) (b n : Nat) (E : Nat → va_E) (fk fp op cn md rs x pf pl rf rl qf ql : Nat) (nt h pb rb qb : Bool) (hlt0 : 5 < n) (hE0 : E 5 = .inr (0, [.int (nI fk), .int (nI fp), .ref (b + 6), .ref (b + 7), .ref (b + 8), .int (nI op), .int (nI cn), .int (nI md), .int (nI nt.toNat), .int (nI rs)])) (hlt1 : 6 < n) (hE1 : E 6 = wm_Q C 5 21 (fun i => some (b + (9 + 4 * i)))) (hlt2 : 9 + 4 * (op + 1) < n) (hE2 : E (9 + 4 * (op + 1)) = .inr (1, [.ref (b + (10 + 4 * (op + 1))), .ref (b + (11 + 4 * (op + 1))), .ref (b + (12 + 4 * (op + 1))), .int (nI h.toNat)])) (hlt3 : 10 + 4 * (op + 1) < n) (hE3 : E (10 + 4 * (op + 1)) = .inr (3, [.int (nI pb.toNat), .int (nI pf), .int (nI pl)])) (hlt4 : 11 + 4 * (op + 1) < n) (hE4 : E (11 + 4 * (op + 1)) = .inr (3, [.int (nI rb.toNat), .int (nI rf), .int (nI rl)])) (hlt5 : 12 + 4 * (op + 1) < n) (hE5 : E (12 + 4 * (op + 1)) = .inr (3, [.int (nI qb.toNat), .int (nI qf), .int (nI ql)])) (hx : x < 256) (hop : op < 20) (hxk : x = 40) : Met l yX0_takeOutside (wm_ws yX0_takeOutside cX0_takeOutside 3 (some .int)) { frames := 8, cells := 0, slots := 0, locals := 260 } (va_Pc [.ref (b + 5), .int (wm_sb x)] (wm_G D C b n E)) (va_Qi (ptO1 C b E fk fp op cn md rs x pf pl rf rl qf ql nt h pb rb qb) (fun E' t => wm_P D b n E' t.heap) (wm_A b)) 0 0 (wm_A b) := by
  refine wm_ofW (by decide) (Nat.le_of_ble_eq_true rfl) (fun p e s m below meth c ls R args Q hRe hQ X hr hnm hP hS hl => ?_)
  have hl : lv_has ls 3 [(0, .ref (b + 5)), (1, .int (wm_sb x))] := hl
  have hfr : ∀ j, j ≠ 5 → j ≠ 9 + 4 * (op + 1) → j ≠ 10 + 4 * (op + 1) → j ≠ 11 + 4 * (op + 1) → j ≠ 12 + 4 * (op + 1) → E j = E j := fun _ _ _ _ _ _ => rfl
  have hll := wm_lo_lt x
  have hlo : wm_lo x = 4294967295 := by rw [hxk]; decide
  refine lv_iload_n X.1 X.2.1 dX0_takeOutside_0 rfl (lv_at hl 1 rfl) ?_
  refine wm_callNi (k := 1) (As := [.int (wm_sb x)]) (rest := []) X hP hS  (kX6_letterOf l D C b n E x (by omega)) (host := "WordMachines") (by decide) wq2_133 wq1_1 wq2_134 (by decide) (by rw [hRe]; exact ⟨Nat.le_of_ble_eq_true rfl, Nat.le_of_ble_eq_true rfl⟩) rfl hl.1 rfl (Nat.le_of_ble_eq_true rfl) (Nat.zero_le _) (Nat.zero_le _) dX0_takeOutside_1 (fun r1 E1 H locs hw hP hS => ?_)
  obtain ⟨hrt, hEe⟩ := hw
  subst hrt
  subst hEe
  refine lv_istore_n (lv' := [(2, .int (nI (wm_lo x))), (0, .ref (b + 5)), (1, .int (wm_sb x))]) X.1 X.2.1 dX0_takeOutside_4 rfl hl (by decide) rfl (fun ls hl => ?_)
  refine lv_iload_n X.1 X.2.1 dX0_takeOutside_5 rfl (lv_at hl 0 rfl) ?_
  refine lv_iconst (v := nI 4294967295) X.1 X.2.1 dX0_takeOutside_6 (by decide) ?_
  refine wm_icmp_eq (x := (wm_lo x)) (y := 4294967295) (tgt := 18) X hll (by decide) dX0_takeOutside_7 (by decide) (fun hc7 => ?_) (fun hc7 => ?_)
  · refine lv_iload_n X.1 X.2.1 dX0_takeOutside_18 rfl (lv_at hl 2 rfl) ?_
    refine lv_lookup (tgt := 116) X.1 X.2.1 dX0_takeOutside_19 (by decide) (by rw [hxk]; first | done | decide) (by decide) ?_
    refine lv_aload_n X.1 X.2.1 dX0_takeOutside_116 rfl (lv_at hl 1 rfl) ?_
    refine wm_callVi (k := 0) (As := []) (rest := []) X hP hS hlt0 hE0 rfl (kopen1 l D C b n E fk fp op cn md rs pf pl rf rl qf ql nt h pb rb qb hlt0 hE0 hlt1 hE1 hlt2 hE2 hlt3 hE3 hlt4 hE4 hlt5 hE5 (by omega)) wq2_156 wq2_158 wqP1_8 wq1_3 wq2_159 (by decide) (by rw [hRe]; exact ⟨Nat.le_of_ble_eq_true rfl, Nat.le_of_ble_eq_true rfl⟩) rfl hl.1 rfl (Nat.le_of_ble_eq_true rfl) (Nat.zero_le _) (Nat.zero_le _) dX0_takeOutside_117 (fun r3 E3 H locs hw hP hS => ?_)
    obtain ⟨hrt, hE0, hE2, hE3, hE4, hE5, hq⟩ := hw
    subst hrt
    have hE1 := (hq 6 (by decide) (by omega) (by omega) (by omega) (by omega)).trans hE1
    have hfr : ∀ j, j ≠ 5 → j ≠ 9 + 4 * (op + 1) → j ≠ 10 + 4 * (op + 1) → j ≠ 11 + 4 * (op + 1) → j ≠ 12 + 4 * (op + 1) → E3 j = E j := fun j h0 h1 h2 h3 h4 => (hq j h0 h1 h2 h3 h4).trans (hfr j h0 h1 h2 h3 h4)
    exact wm_iret (post := ptO1 C b E fk fp op cn md rs x pf pl rf rl qf ql nt h pb rb qb) X hr hP hS ⟨rfl, hE0, hE2, hE3, hE4, hE5, hfr⟩ hQ dX0_takeOutside_120
  · exact absurd hc7 (fun q => q hlo)
def ptO0 (C : Nat → ClassId) (b : Nat) (E : Nat → va_E) (fk fp op cn md rs x : Nat) (nt : Bool) : Int32 → (Nat → va_E) → Prop := fun r E' => r = nI 3 ∧ E = E'
set_option maxHeartbeats 4000000 in
set_option maxRecDepth 100000 in
theorem ktO0 (l : Launch) (D : va_G) (C : Nat → ClassId) (b n : Nat) (E : Nat → va_E) (fk fp op cn md rs x : Nat) (nt : Bool) (hlt0 : 5 < n) (hE0 : E 5 = .inr (0, [.int (nI fk), .int (nI fp), .ref (b + 6), .ref (b + 7), .ref (b + 8), .int (nI op), .int (nI cn), .int (nI md), .int (nI nt.toNat), .int (nI rs)])) (hx : x < 256) (hop : op = 20) (hxk : x = 40) : Met l yX0_takeOutside (wm_ws yX0_takeOutside cX0_takeOutside 3 (some .int)) { frames := 8, cells := 0, slots := 0, locals := 260 } (va_Pc [.ref (b + 5), .int (wm_sb x)] (wm_G D C b n E)) (va_Qi (ptO0 C b E fk fp op cn md rs x nt) (fun E' t => wm_P D b n E' t.heap) (wm_A b)) 0 0 (wm_A b) := by
  refine wm_ofW (by decide) (Nat.le_of_ble_eq_true rfl) (fun p e s m below meth c ls R args Q hRe hQ X hr hnm hP hS hl => ?_)
  have hl : lv_has ls 3 [(0, .ref (b + 5)), (1, .int (wm_sb x))] := hl
  have hll := wm_lo_lt x
  have hlo : wm_lo x = 4294967295 := by rw [hxk]; decide
  refine lv_iload_n X.1 X.2.1 dX0_takeOutside_0 rfl (lv_at hl 1 rfl) ?_
  refine wm_callNi (k := 1) (As := [.int (wm_sb x)]) (rest := []) X hP hS  (kX6_letterOf l D C b n E x (by omega)) (host := "WordMachines") (by decide) wq2_133 wq1_1 wq2_134 (by decide) (by rw [hRe]; exact ⟨Nat.le_of_ble_eq_true rfl, Nat.le_of_ble_eq_true rfl⟩) rfl hl.1 rfl (Nat.le_of_ble_eq_true rfl) (Nat.zero_le _) (Nat.zero_le _) dX0_takeOutside_1 (fun r1 E1 H locs hw hP hS => ?_)
  obtain ⟨hrt, hEe⟩ := hw
  subst hrt
  subst hEe
  refine lv_istore_n (lv' := [(2, .int (nI (wm_lo x))), (0, .ref (b + 5)), (1, .int (wm_sb x))]) X.1 X.2.1 dX0_takeOutside_4 rfl hl (by decide) rfl (fun ls hl => ?_)
  refine lv_iload_n X.1 X.2.1 dX0_takeOutside_5 rfl (lv_at hl 0 rfl) ?_
  refine lv_iconst (v := nI 4294967295) X.1 X.2.1 dX0_takeOutside_6 (by decide) ?_
  refine wm_icmp_eq (x := (wm_lo x)) (y := 4294967295) (tgt := 18) X hll (by decide) dX0_takeOutside_7 (by decide) (fun hc7 => ?_) (fun hc7 => ?_)
  · refine lv_iload_n X.1 X.2.1 dX0_takeOutside_18 rfl (lv_at hl 2 rfl) ?_
    refine lv_lookup (tgt := 116) X.1 X.2.1 dX0_takeOutside_19 (by decide) (by rw [hxk]; first | done | decide) (by decide) ?_
    refine lv_aload_n X.1 X.2.1 dX0_takeOutside_116 rfl (lv_at hl 1 rfl) ?_
    refine wm_callVi (k := 0) (As := []) (rest := []) X hP hS hlt0 hE0 rfl (kopen0 l D C b n E fk fp op cn md rs nt hlt0 hE0 (by omega)) wq2_156 wq2_158 wqP1_8 wq1_3 wq2_159 (by decide) (by rw [hRe]; exact ⟨Nat.le_of_ble_eq_true rfl, Nat.le_of_ble_eq_true rfl⟩) rfl hl.1 rfl (Nat.le_of_ble_eq_true rfl) (Nat.zero_le _) (Nat.zero_le _) dX0_takeOutside_117 (fun r3 E3 H locs hw hP hS => ?_)
    obtain ⟨hrt, hEe⟩ := hw
    subst hrt
    subst hEe
    exact wm_iret (post := ptO0 C b E fk fp op cn md rs x nt) X hr hP hS ⟨rfl, rfl⟩ hQ dX0_takeOutside_120
  · exact absurd hc7 (fun q => q hlo)
def ptC1 (C : Nat → ClassId) (b : Nat) (E : Nat → va_E) (fk fp op cn md rs x pf pl rf rl qf ql pf2 pl2 rf2 rl2 qf2 ql2 : Nat) (nt h pb rb qb h2 pb2 rb2 qb2 : Bool) (fl : Nat → Nat) : Int32 → (Nat → va_E) → Prop := fun r E' => r = nI 0 ∧ E' 5 = .inr (0, [.int (nI fk), .int (nI fp), .ref (b + 6), .ref (b + 7), .ref (b + 8), .int (nI op), .int (nI cn), .int (nI md), .int (nI nt.toNat), .int (nI rs)]) ∧ E' 7 = wm_I C 24 (wm_lk (wm_lk fl cn rl qf) cn rl2 qf2) ∧ E' (9 + 4 * (op + 1)) = .inr (1, [.ref (b + (10 + 4 * (op + 1))), .ref (b + (11 + 4 * (op + 1))), .ref (b + (12 + 4 * (op + 1))), .int (nI false.toNat)]) ∧ E' (10 + 4 * (op + 1)) = .inr (3, [.int (nI (pb || (rb && qb)).toNat), .int (nI (pf ||| (rf ||| (if rb then qf else 0)))), .int (nI (pl ||| (ql ||| (if qb then rl else 0))))]) ∧ E' (11 + 4 * (op + 1)) = .inr (3, [.int (nI true.toNat), .int (nI 0), .int (nI 0)]) ∧ E' (12 + 4 * (op + 1)) = .inr (3, [.int (nI true.toNat), .int (nI 0), .int (nI 0)]) ∧ E' (9 + 4 * op) = .inr (1, [.ref (b + (10 + 4 * op)), .ref (b + (11 + 4 * op)), .ref (b + (12 + 4 * op)), .int (nI true.toNat)]) ∧ E' (10 + 4 * op) = .inr (3, [.int (nI pb2.toNat), .int (nI pf2), .int (nI pl2)]) ∧ E' (11 + 4 * op) = .inr (3, [.int (nI (rb2 && qb2).toNat), .int (nI (rf2 ||| (if rb2 then qf2 else 0))), .int (nI (ql2 ||| (if qb2 then rl2 else 0)))]) ∧ E' (12 + 4 * op) = .inr (3, [.int (nI (pb || (rb && qb)).toNat), .int (nI (pf ||| (rf ||| (if rb then qf else 0)))), .int (nI (pl ||| (ql ||| (if qb then rl else 0))))]) ∧ (∀ j, j ≠ 5 → j ≠ 7 → j ≠ 9 + 4 * (op + 1) → j ≠ 10 + 4 * (op + 1) → j ≠ 11 + 4 * (op + 1) → j ≠ 12 + 4 * (op + 1) → j ≠ 9 + 4 * op → j ≠ 10 + 4 * op → j ≠ 11 + 4 * op → j ≠ 12 + 4 * op → E' j = E j)
set_option maxHeartbeats 4000000 in
set_option maxRecDepth 100000 in
theorem ktC1 (l : Launch) (D : va_G) (C : Nat → ClassId) (b n : Nat) (E : Nat → va_E) (fk fp op cn md rs x pf pl rf rl qf ql pf2 pl2 rf2 rl2 qf2 ql2 : Nat) (nt h pb rb qb h2 pb2 rb2 qb2 : Bool) (fl : Nat → Nat) (hlt0 : 5 < n) (hE0 : E 5 = .inr (0, [.int (nI fk), .int (nI fp), .ref (b + 6), .ref (b + 7), .ref (b + 8), .int (nI (op + 1)), .int (nI cn), .int (nI md), .int (nI nt.toNat), .int (nI rs)])) (hlt1 : 6 < n) (hE1 : E 6 = wm_Q C 5 21 (fun i => some (b + (9 + 4 * i)))) (hlt2 : 7 < n) (hE2 : E 7 = wm_I C 24 fl) (hlt3 : 9 + 4 * (op + 1) < n) (hE3 : E (9 + 4 * (op + 1)) = .inr (1, [.ref (b + (10 + 4 * (op + 1))), .ref (b + (11 + 4 * (op + 1))), .ref (b + (12 + 4 * (op + 1))), .int (nI h.toNat)])) (hlt4 : 10 + 4 * (op + 1) < n) (hE4 : E (10 + 4 * (op + 1)) = .inr (3, [.int (nI pb.toNat), .int (nI pf), .int (nI pl)])) (hlt5 : 11 + 4 * (op + 1) < n) (hE5 : E (11 + 4 * (op + 1)) = .inr (3, [.int (nI rb.toNat), .int (nI rf), .int (nI rl)])) (hlt6 : 12 + 4 * (op + 1) < n) (hE6 : E (12 + 4 * (op + 1)) = .inr (3, [.int (nI qb.toNat), .int (nI qf), .int (nI ql)])) (hlt7 : 9 + 4 * op < n) (hE7 : E (9 + 4 * op) = .inr (1, [.ref (b + (10 + 4 * op)), .ref (b + (11 + 4 * op)), .ref (b + (12 + 4 * op)), .int (nI h2.toNat)])) (hlt8 : 10 + 4 * op < n) (hE8 : E (10 + 4 * op) = .inr (3, [.int (nI pb2.toNat), .int (nI pf2), .int (nI pl2)])) (hlt9 : 11 + 4 * op < n) (hE9 : E (11 + 4 * op) = .inr (3, [.int (nI rb2.toNat), .int (nI rf2), .int (nI rl2)])) (hlt10 : 12 + 4 * op < n) (hE10 : E (12 + 4 * op) = .inr (3, [.int (nI qb2.toNat), .int (nI qf2), .int (nI ql2)])) (hx : x < 256) (hop : op < 20) (hcn : cn ≤ 24) (hcp : 1 ≤ cn) (hrl : rl < 2 ^ 32) (hrl2 : rl2 < 2 ^ 32) (hxk : x = 41) : Met l yX0_takeOutside (wm_ws yX0_takeOutside cX0_takeOutside 3 (some .int)) { frames := 8, cells := 0, slots := 0, locals := 260 } (va_Pc [.ref (b + 5), .int (wm_sb x)] (wm_G D C b n E)) (va_Qi (ptC1 C b E fk fp op cn md rs x pf pl rf rl qf ql pf2 pl2 rf2 rl2 qf2 ql2 nt h pb rb qb h2 pb2 rb2 qb2 fl) (fun E' t => wm_P D b n E' t.heap) (wm_A b)) 0 0 (wm_A b) := by
  refine wm_ofW (by decide) (Nat.le_of_ble_eq_true rfl) (fun p e s m below meth c ls R args Q hRe hQ X hr hnm hP hS hl => ?_)
  have hl : lv_has ls 3 [(0, .ref (b + 5)), (1, .int (wm_sb x))] := hl
  have hfr : ∀ j, j ≠ 5 → j ≠ 7 → j ≠ 9 + 4 * (op + 1) → j ≠ 10 + 4 * (op + 1) → j ≠ 11 + 4 * (op + 1) → j ≠ 12 + 4 * (op + 1) → j ≠ 9 + 4 * op → j ≠ 10 + 4 * op → j ≠ 11 + 4 * op → j ≠ 12 + 4 * op → E j = E j := fun _ _ _ _ _ _ _ _ _ _ _ => rfl
  have hll := wm_lo_lt x
  have hlo : wm_lo x = 4294967295 := by rw [hxk]; decide
  refine lv_iload_n X.1 X.2.1 dX0_takeOutside_0 rfl (lv_at hl 1 rfl) ?_
  refine wm_callNi (k := 1) (As := [.int (wm_sb x)]) (rest := []) X hP hS  (kX6_letterOf l D C b n E x (by omega)) (host := "WordMachines") (by decide) wq2_133 wq1_1 wq2_134 (by decide) (by rw [hRe]; exact ⟨Nat.le_of_ble_eq_true rfl, Nat.le_of_ble_eq_true rfl⟩) rfl hl.1 rfl (Nat.le_of_ble_eq_true rfl) (Nat.zero_le _) (Nat.zero_le _) dX0_takeOutside_1 (fun r1 E1 H locs hw hP hS => ?_)
  obtain ⟨hrt, hEe⟩ := hw
  subst hrt
  subst hEe
  refine lv_istore_n (lv' := [(2, .int (nI (wm_lo x))), (0, .ref (b + 5)), (1, .int (wm_sb x))]) X.1 X.2.1 dX0_takeOutside_4 rfl hl (by decide) rfl (fun ls hl => ?_)
  refine lv_iload_n X.1 X.2.1 dX0_takeOutside_5 rfl (lv_at hl 0 rfl) ?_
  refine lv_iconst (v := nI 4294967295) X.1 X.2.1 dX0_takeOutside_6 (by decide) ?_
  refine wm_icmp_eq (x := (wm_lo x)) (y := 4294967295) (tgt := 18) X hll (by decide) dX0_takeOutside_7 (by decide) (fun hc7 => ?_) (fun hc7 => ?_)
  · refine lv_iload_n X.1 X.2.1 dX0_takeOutside_18 rfl (lv_at hl 2 rfl) ?_
    refine lv_lookup (tgt := 121) X.1 X.2.1 dX0_takeOutside_19 (by decide) (by rw [hxk]; first | done | decide) (by decide) ?_
    refine lv_aload_n X.1 X.2.1 dX0_takeOutside_121 rfl (lv_at hl 1 rfl) ?_
    refine wm_callVi (k := 0) (As := []) (rest := []) X hP hS hlt0 hE0 rfl (kclose1 l D C b n E fk fp op cn md rs pf pl rf rl qf ql pf2 pl2 rf2 rl2 qf2 ql2 nt h pb rb qb h2 pb2 rb2 qb2 fl hlt0 hE0 hlt1 hE1 hlt2 hE2 hlt3 hE3 hlt4 hE4 hlt5 hE5 hlt6 hE6 hlt7 hE7 hlt8 hE8 hlt9 hE9 hlt10 hE10 (by omega) (by omega) (by omega) (by omega) (by omega)) wq2_160 wq2_162 wqP1_9 wq1_3 wq2_163 (by decide) (by rw [hRe]; exact ⟨Nat.le_of_ble_eq_true rfl, Nat.le_of_ble_eq_true rfl⟩) rfl hl.1 rfl (Nat.le_of_ble_eq_true rfl) (Nat.zero_le _) (Nat.zero_le _) dX0_takeOutside_122 (fun r3 E3 H locs hw hP hS => ?_)
    obtain ⟨hrt, hE0, hE2, hE3, hE4, hE5, hE6, hE7, hE8, hE9, hE10, hq⟩ := hw
    subst hrt
    have hE1 := (hq 6 (by decide) (by decide) (by omega) (by omega) (by omega) (by omega) (by omega) (by omega) (by omega) (by omega)).trans hE1
    have hfr : ∀ j, j ≠ 5 → j ≠ 7 → j ≠ 9 + 4 * (op + 1) → j ≠ 10 + 4 * (op + 1) → j ≠ 11 + 4 * (op + 1) → j ≠ 12 + 4 * (op + 1) → j ≠ 9 + 4 * op → j ≠ 10 + 4 * op → j ≠ 11 + 4 * op → j ≠ 12 + 4 * op → E3 j = E j := fun j h0 h1 h2 h3 h4 h5 h6 h7 h8 h9 => (hq j h0 h1 h2 h3 h4 h5 h6 h7 h8 h9).trans (hfr j h0 h1 h2 h3 h4 h5 h6 h7 h8 h9)
    exact wm_iret (post := ptC1 C b E fk fp op cn md rs x pf pl rf rl qf ql pf2 pl2 rf2 rl2 qf2 ql2 nt h pb rb qb h2 pb2 rb2 qb2 fl) X hr hP hS ⟨rfl, hE0, hE2, hE3, hE4, hE5, hE6, hE7, hE8, hE9, hE10, hfr⟩ hQ dX0_takeOutside_125
  · exact absurd hc7 (fun q => q hlo)
def ptC0 (C : Nat → ClassId) (b : Nat) (E : Nat → va_E) (fk fp op cn md rs x : Nat) (nt : Bool) : Int32 → (Nat → va_E) → Prop := fun r E' => r = nI 1 ∧ E = E'
set_option maxHeartbeats 4000000 in
set_option maxRecDepth 100000 in
theorem ktC0 (l : Launch) (D : va_G) (C : Nat → ClassId) (b n : Nat) (E : Nat → va_E) (fk fp op cn md rs x : Nat) (nt : Bool) (hlt0 : 5 < n) (hE0 : E 5 = .inr (0, [.int (nI fk), .int (nI fp), .ref (b + 6), .ref (b + 7), .ref (b + 8), .int (nI op), .int (nI cn), .int (nI md), .int (nI nt.toNat), .int (nI rs)])) (hx : x < 256) (hop : op = 0) (hxk : x = 41) : Met l yX0_takeOutside (wm_ws yX0_takeOutside cX0_takeOutside 3 (some .int)) { frames := 8, cells := 0, slots := 0, locals := 260 } (va_Pc [.ref (b + 5), .int (wm_sb x)] (wm_G D C b n E)) (va_Qi (ptC0 C b E fk fp op cn md rs x nt) (fun E' t => wm_P D b n E' t.heap) (wm_A b)) 0 0 (wm_A b) := by
  refine wm_ofW (by decide) (Nat.le_of_ble_eq_true rfl) (fun p e s m below meth c ls R args Q hRe hQ X hr hnm hP hS hl => ?_)
  have hl : lv_has ls 3 [(0, .ref (b + 5)), (1, .int (wm_sb x))] := hl
  have hll := wm_lo_lt x
  have hlo : wm_lo x = 4294967295 := by rw [hxk]; decide
  refine lv_iload_n X.1 X.2.1 dX0_takeOutside_0 rfl (lv_at hl 1 rfl) ?_
  refine wm_callNi (k := 1) (As := [.int (wm_sb x)]) (rest := []) X hP hS  (kX6_letterOf l D C b n E x (by omega)) (host := "WordMachines") (by decide) wq2_133 wq1_1 wq2_134 (by decide) (by rw [hRe]; exact ⟨Nat.le_of_ble_eq_true rfl, Nat.le_of_ble_eq_true rfl⟩) rfl hl.1 rfl (Nat.le_of_ble_eq_true rfl) (Nat.zero_le _) (Nat.zero_le _) dX0_takeOutside_1 (fun r1 E1 H locs hw hP hS => ?_)
  obtain ⟨hrt, hEe⟩ := hw
  subst hrt
  subst hEe
  refine lv_istore_n (lv' := [(2, .int (nI (wm_lo x))), (0, .ref (b + 5)), (1, .int (wm_sb x))]) X.1 X.2.1 dX0_takeOutside_4 rfl hl (by decide) rfl (fun ls hl => ?_)
  refine lv_iload_n X.1 X.2.1 dX0_takeOutside_5 rfl (lv_at hl 0 rfl) ?_
  refine lv_iconst (v := nI 4294967295) X.1 X.2.1 dX0_takeOutside_6 (by decide) ?_
  refine wm_icmp_eq (x := (wm_lo x)) (y := 4294967295) (tgt := 18) X hll (by decide) dX0_takeOutside_7 (by decide) (fun hc7 => ?_) (fun hc7 => ?_)
  · refine lv_iload_n X.1 X.2.1 dX0_takeOutside_18 rfl (lv_at hl 2 rfl) ?_
    refine lv_lookup (tgt := 121) X.1 X.2.1 dX0_takeOutside_19 (by decide) (by rw [hxk]; first | done | decide) (by decide) ?_
    refine lv_aload_n X.1 X.2.1 dX0_takeOutside_121 rfl (lv_at hl 1 rfl) ?_
    refine wm_callVi (k := 0) (As := []) (rest := []) X hP hS hlt0 hE0 rfl (kclose0 l D C b n E fk fp op cn md rs nt hlt0 hE0 (by omega)) wq2_160 wq2_162 wqP1_9 wq1_3 wq2_163 (by decide) (by rw [hRe]; exact ⟨Nat.le_of_ble_eq_true rfl, Nat.le_of_ble_eq_true rfl⟩) rfl hl.1 rfl (Nat.le_of_ble_eq_true rfl) (Nat.zero_le _) (Nat.zero_le _) dX0_takeOutside_122 (fun r3 E3 H locs hw hP hS => ?_)
    obtain ⟨hrt, hEe⟩ := hw
    subst hrt
    subst hEe
    exact wm_iret (post := ptC0 C b E fk fp op cn md rs x nt) X hr hP hS ⟨rfl, rfl⟩ hQ dX0_takeOutside_125
  · exact absurd hc7 (fun q => q hlo)
def ptE (C : Nat → ClassId) (b : Nat) (E : Nat → va_E) (fk fp op cn md rs x pf pl rf rl qf ql : Nat) (nt h pb rb qb : Bool) (fl : Nat → Nat) : Int32 → (Nat → va_E) → Prop := fun r E' => r = nI 0 ∧ E' 7 = wm_I C 24 (wm_lk fl cn rl qf) ∧ E' (9 + 4 * op) = .inr (1, [.ref (b + (10 + 4 * op)), .ref (b + (11 + 4 * op)), .ref (b + (12 + 4 * op)), .int (nI false.toNat)]) ∧ E' (10 + 4 * op) = .inr (3, [.int (nI (pb || (rb && qb)).toNat), .int (nI (pf ||| (rf ||| (if rb then qf else 0)))), .int (nI (pl ||| (ql ||| (if qb then rl else 0))))]) ∧ E' (11 + 4 * op) = .inr (3, [.int (nI true.toNat), .int (nI 0), .int (nI 0)]) ∧ E' (12 + 4 * op) = .inr (3, [.int (nI true.toNat), .int (nI 0), .int (nI 0)]) ∧ (∀ j, j ≠ 7 → j ≠ 9 + 4 * op → j ≠ 10 + 4 * op → j ≠ 11 + 4 * op → j ≠ 12 + 4 * op → E' j = E j)
set_option maxHeartbeats 4000000 in
set_option maxRecDepth 100000 in
theorem ktE (l : Launch) (D : va_G) (C : Nat → ClassId) (b n : Nat) (E : Nat → va_E) (fk fp op cn md rs x pf pl rf rl qf ql : Nat) (nt h pb rb qb : Bool) (fl : Nat → Nat) (hlt0 : 5 < n) (hE0 : E 5 = .inr (0, [.int (nI fk), .int (nI fp), .ref (b + 6), .ref (b + 7), .ref (b + 8), .int (nI op), .int (nI cn), .int (nI md), .int (nI nt.toNat), .int (nI rs)])) (hlt1 : 6 < n) (hE1 : E 6 = wm_Q C 5 21 (fun i => some (b + (9 + 4 * i)))) (hlt2 : 7 < n) (hE2 : E 7 = wm_I C 24 fl) (hlt3 : 9 + 4 * op < n) (hE3 : E (9 + 4 * op) = .inr (1, [.ref (b + (10 + 4 * op)), .ref (b + (11 + 4 * op)), .ref (b + (12 + 4 * op)), .int (nI h.toNat)])) (hlt4 : 10 + 4 * op < n) (hE4 : E (10 + 4 * op) = .inr (3, [.int (nI pb.toNat), .int (nI pf), .int (nI pl)])) (hlt5 : 11 + 4 * op < n) (hE5 : E (11 + 4 * op) = .inr (3, [.int (nI rb.toNat), .int (nI rf), .int (nI rl)])) (hlt6 : 12 + 4 * op < n) (hE6 : E (12 + 4 * op) = .inr (3, [.int (nI qb.toNat), .int (nI qf), .int (nI ql)])) (hx : x < 256) (hop : op ≤ 20) (hcn : cn ≤ 24) (hcp : 1 ≤ cn) (hrl : rl < 2 ^ 32) (hxk : x = 124) : Met l yX0_takeOutside (wm_ws yX0_takeOutside cX0_takeOutside 3 (some .int)) { frames := 8, cells := 0, slots := 0, locals := 260 } (va_Pc [.ref (b + 5), .int (wm_sb x)] (wm_G D C b n E)) (va_Qi (ptE C b E fk fp op cn md rs x pf pl rf rl qf ql nt h pb rb qb fl) (fun E' t => wm_P D b n E' t.heap) (wm_A b)) 0 0 (wm_A b) := by
  refine wm_ofW (by decide) (Nat.le_of_ble_eq_true rfl) (fun p e s m below meth c ls R args Q hRe hQ X hr hnm hP hS hl => ?_)
  have hl : lv_has ls 3 [(0, .ref (b + 5)), (1, .int (wm_sb x))] := hl
  have hfr : ∀ j, j ≠ 7 → j ≠ 9 + 4 * op → j ≠ 10 + 4 * op → j ≠ 11 + 4 * op → j ≠ 12 + 4 * op → E j = E j := fun _ _ _ _ _ _ => rfl
  have hll := wm_lo_lt x
  have hlo : wm_lo x = 4294967295 := by rw [hxk]; decide
  refine lv_iload_n X.1 X.2.1 dX0_takeOutside_0 rfl (lv_at hl 1 rfl) ?_
  refine wm_callNi (k := 1) (As := [.int (wm_sb x)]) (rest := []) X hP hS  (kX6_letterOf l D C b n E x (by omega)) (host := "WordMachines") (by decide) wq2_133 wq1_1 wq2_134 (by decide) (by rw [hRe]; exact ⟨Nat.le_of_ble_eq_true rfl, Nat.le_of_ble_eq_true rfl⟩) rfl hl.1 rfl (Nat.le_of_ble_eq_true rfl) (Nat.zero_le _) (Nat.zero_le _) dX0_takeOutside_1 (fun r1 E1 H locs hw hP hS => ?_)
  obtain ⟨hrt, hEe⟩ := hw
  subst hrt
  subst hEe
  refine lv_istore_n (lv' := [(2, .int (nI (wm_lo x))), (0, .ref (b + 5)), (1, .int (wm_sb x))]) X.1 X.2.1 dX0_takeOutside_4 rfl hl (by decide) rfl (fun ls hl => ?_)
  refine lv_iload_n X.1 X.2.1 dX0_takeOutside_5 rfl (lv_at hl 0 rfl) ?_
  refine lv_iconst (v := nI 4294967295) X.1 X.2.1 dX0_takeOutside_6 (by decide) ?_
  refine wm_icmp_eq (x := (wm_lo x)) (y := 4294967295) (tgt := 18) X hll (by decide) dX0_takeOutside_7 (by decide) (fun hc7 => ?_) (fun hc7 => ?_)
  · refine lv_iload_n X.1 X.2.1 dX0_takeOutside_18 rfl (lv_at hl 2 rfl) ?_
    refine lv_lookup (tgt := 126) X.1 X.2.1 dX0_takeOutside_19 (by decide) (by rw [hxk]; first | done | decide) (by decide) ?_
    refine lv_aload_n X.1 X.2.1 dX0_takeOutside_126 rfl (lv_at hl 1 rfl) ?_
    refine lv_aload_n X.1 X.2.1 dX0_takeOutside_127 rfl (lv_at hl 1 rfl) ?_
    refine wm_get X hP hlt0 hE0 rfl wm_inX0 2 (by decide) wq1_119 rfl dX0_takeOutside_128 ?_
    refine lv_aload_n X.1 X.2.1 dX0_takeOutside_131 rfl (lv_at hl 1 rfl) ?_
    refine wm_get X hP hlt0 hE0 rfl wm_inX0 5 (by decide) wq1_122 rfl dX0_takeOutside_132 ?_
    refine wm_aald (i := op) (q := b + (9 + 4 * op)) X hP hlt1 hE1 rfl (by omega) (by decide) rfl dX0_takeOutside_135 ?_
    refine wm_callVv (k := 1) (As := [.ref (b + (9 + 4 * op))]) (rest := []) X hP hS hlt0 hE0 rfl (kX0_endPart l D C b n E fk fp op cn md rs (9 + 4 * op) (10 + 4 * op) (11 + 4 * op) (12 + 4 * op) pf pl rf rl qf ql nt h pb rb qb fl hlt0 hE0 hlt2 hE2 hlt3 hE3 hlt4 hE4 hlt5 hE5 hlt6 hE6 (by omega) (by omega) (by omega) (by omega) (by omega) (by omega) (by omega) (by omega) (by omega) (by omega)) wq2_164 wq2_166 wqP1_10 wq1_3 wq2_167 (by decide) (by rw [hRe]; exact ⟨Nat.le_of_ble_eq_true rfl, Nat.le_of_ble_eq_true rfl⟩) rfl hl.1 rfl (Nat.le_of_ble_eq_true rfl) (Nat.zero_le _) (Nat.zero_le _) dX0_takeOutside_136 (fun E3 H locs hw hP hS => ?_)
    obtain ⟨hE2, hE3, hE4, hE5, hE6, hq⟩ := hw
    have hE0 := (hq 5 (by decide) (by omega) (by omega) (by omega) (by omega)).trans hE0
    have hE1 := (hq 6 (by decide) (by omega) (by omega) (by omega) (by omega)).trans hE1
    have hfr : ∀ j, j ≠ 7 → j ≠ 9 + 4 * op → j ≠ 10 + 4 * op → j ≠ 11 + 4 * op → j ≠ 12 + 4 * op → E3 j = E j := fun j h0 h1 h2 h3 h4 => (hq j h0 h1 h2 h3 h4).trans (hfr j h0 h1 h2 h3 h4)
    refine lv_iconst (v := nI 0) X.1 X.2.1 dX0_takeOutside_139 (by decide) ?_
    exact wm_iret (post := ptE C b E fk fp op cn md rs x pf pl rf rl qf ql nt h pb rb qb fl) X hr hP hS ⟨rfl, hE2, hE3, hE4, hE5, hE6, hfr⟩ hQ dX0_takeOutside_140
  · exact absurd hc7 (fun q => q hlo)
def ptR (C : Nat → ClassId) (b : Nat) (E : Nat → va_E) (fk fp op cn md rs x pf pl rf rl qf ql : Nat) (nt h pb rb qb : Bool) (fl : Nat → Nat) : Int32 → (Nat → va_E) → Prop := fun r E' => r = nI (if h then 0 else 1) ∧ E' 7 = wm_I C 24 (if h && !decide (x = 63) then wm_lk fl cn ql qf else fl) ∧ E' (12 + 4 * op) = .inr (3, [.int (nI (qb || (h && !decide (x = 43))).toNat), .int (nI qf), .int (nI ql)]) ∧ (∀ j, j ≠ 7 → j ≠ 12 + 4 * op → E' j = E j)
set_option maxHeartbeats 4000000 in
set_option maxRecDepth 100000 in
theorem ktR (l : Launch) (D : va_G) (C : Nat → ClassId) (b n : Nat) (E : Nat → va_E) (fk fp op cn md rs x pf pl rf rl qf ql : Nat) (nt h pb rb qb : Bool) (fl : Nat → Nat) (hlt0 : 5 < n) (hE0 : E 5 = .inr (0, [.int (nI fk), .int (nI fp), .ref (b + 6), .ref (b + 7), .ref (b + 8), .int (nI op), .int (nI cn), .int (nI md), .int (nI nt.toNat), .int (nI rs)])) (hlt1 : 6 < n) (hE1 : E 6 = wm_Q C 5 21 (fun i => some (b + (9 + 4 * i)))) (hlt2 : 7 < n) (hE2 : E 7 = wm_I C 24 fl) (hlt3 : 9 + 4 * op < n) (hE3 : E (9 + 4 * op) = .inr (1, [.ref (b + (10 + 4 * op)), .ref (b + (11 + 4 * op)), .ref (b + (12 + 4 * op)), .int (nI h.toNat)])) (hlt4 : 10 + 4 * op < n) (hE4 : E (10 + 4 * op) = .inr (3, [.int (nI pb.toNat), .int (nI pf), .int (nI pl)])) (hlt5 : 11 + 4 * op < n) (hE5 : E (11 + 4 * op) = .inr (3, [.int (nI rb.toNat), .int (nI rf), .int (nI rl)])) (hlt6 : 12 + 4 * op < n) (hE6 : E (12 + 4 * op) = .inr (3, [.int (nI qb.toNat), .int (nI qf), .int (nI ql)])) (hx : x < 256) (hop : op ≤ 20) (hcn : cn ≤ 24) (hcp : 1 ≤ cn) (hql : ql < 2 ^ 32) (hxk : x = 42 ∨ x = 43 ∨ x = 63) : Met l yX0_takeOutside (wm_ws yX0_takeOutside cX0_takeOutside 3 (some .int)) { frames := 8, cells := 0, slots := 0, locals := 260 } (va_Pc [.ref (b + 5), .int (wm_sb x)] (wm_G D C b n E)) (va_Qi (ptR C b E fk fp op cn md rs x pf pl rf rl qf ql nt h pb rb qb fl) (fun E' t => wm_P D b n E' t.heap) (wm_A b)) 0 0 (wm_A b) := by
  refine wm_ofW (by decide) (Nat.le_of_ble_eq_true rfl) (fun p e s m below meth c ls R args Q hRe hQ X hr hnm hP hS hl => ?_)
  have hl : lv_has ls 3 [(0, .ref (b + 5)), (1, .int (wm_sb x))] := hl
  have hfr : ∀ j, j ≠ 7 → j ≠ 12 + 4 * op → E j = E j := fun _ _ _ => rfl
  have hll := wm_lo_lt x
  have hlo : wm_lo x = 4294967295 := by rcases hxk with q | q | q <;> (rw [q]; decide)
  refine lv_iload_n X.1 X.2.1 dX0_takeOutside_0 rfl (lv_at hl 1 rfl) ?_
  refine wm_callNi (k := 1) (As := [.int (wm_sb x)]) (rest := []) X hP hS  (kX6_letterOf l D C b n E x (by omega)) (host := "WordMachines") (by decide) wq2_133 wq1_1 wq2_134 (by decide) (by rw [hRe]; exact ⟨Nat.le_of_ble_eq_true rfl, Nat.le_of_ble_eq_true rfl⟩) rfl hl.1 rfl (Nat.le_of_ble_eq_true rfl) (Nat.zero_le _) (Nat.zero_le _) dX0_takeOutside_1 (fun r1 E1 H locs hw hP hS => ?_)
  obtain ⟨hrt, hEe⟩ := hw
  subst hrt
  subst hEe
  refine lv_istore_n (lv' := [(2, .int (nI (wm_lo x))), (0, .ref (b + 5)), (1, .int (wm_sb x))]) X.1 X.2.1 dX0_takeOutside_4 rfl hl (by decide) rfl (fun ls hl => ?_)
  refine lv_iload_n X.1 X.2.1 dX0_takeOutside_5 rfl (lv_at hl 0 rfl) ?_
  refine lv_iconst (v := nI 4294967295) X.1 X.2.1 dX0_takeOutside_6 (by decide) ?_
  refine wm_icmp_eq (x := (wm_lo x)) (y := 4294967295) (tgt := 18) X hll (by decide) dX0_takeOutside_7 (by decide) (fun hc7 => ?_) (fun hc7 => ?_)
  · refine lv_iload_n X.1 X.2.1 dX0_takeOutside_18 rfl (lv_at hl 2 rfl) ?_
    refine lv_lookup (tgt := 141) X.1 X.2.1 dX0_takeOutside_19 (by decide) (wm_swr hxk) (by decide) ?_
    refine lv_aload_n X.1 X.2.1 dX0_takeOutside_141 rfl (lv_at hl 1 rfl) ?_
    refine lv_aload_n X.1 X.2.1 dX0_takeOutside_142 rfl (lv_at hl 1 rfl) ?_
    refine wm_get X hP hlt0 hE0 rfl wm_inX0 2 (by decide) wq1_119 rfl dX0_takeOutside_143 ?_
    refine lv_aload_n X.1 X.2.1 dX0_takeOutside_146 rfl (lv_at hl 1 rfl) ?_
    refine wm_get X hP hlt0 hE0 rfl wm_inX0 5 (by decide) wq1_122 rfl dX0_takeOutside_147 ?_
    refine wm_aald (i := op) (q := b + (9 + 4 * op)) X hP hlt1 hE1 rfl (by omega) (by decide) rfl dX0_takeOutside_150 ?_
    refine lv_iload_n X.1 X.2.1 dX0_takeOutside_151 rfl (lv_at hl 2 rfl) ?_
    rw [wm_sbn x (by omega)]
    refine wm_callVi (k := 2) (As := [.ref (b + (9 + 4 * op)), .int (nI x)]) (rest := []) X hP hS hlt0 hE0 rfl (kX0_repeat l D C b n E fk fp op cn md rs (9 + 4 * op) (10 + 4 * op) (11 + 4 * op) (12 + 4 * op) pf pl rf rl qf ql x nt h pb rb qb fl hlt0 hE0 hlt2 hE2 hlt3 hE3 hlt4 hE4 hlt5 hE5 hlt6 hE6 (by omega) (by omega) (by omega) (by omega) (by omega) (by omega) (by omega) (by omega) (by omega) (by omega) (by omega)) wq2_174 wq2_176 wqP1_11 wq1_3 wq2_177 (by decide) (by rw [hRe]; exact ⟨Nat.le_of_ble_eq_true rfl, Nat.le_of_ble_eq_true rfl⟩) rfl hl.1 rfl (Nat.le_of_ble_eq_true rfl) (Nat.zero_le _) (Nat.zero_le _) dX0_takeOutside_152 (fun r3 E3 H locs hw hP hS => ?_)
    obtain ⟨hrt, hE2, hE6, hq⟩ := hw
    subst hrt
    have hE0 := (hq 5 (by decide) (by omega)).trans hE0
    have hE1 := (hq 6 (by decide) (by omega)).trans hE1
    have hE3 := (hq (9 + 4 * op) (by omega) (by omega)).trans hE3
    have hE4 := (hq (10 + 4 * op) (by omega) (by omega)).trans hE4
    have hE5 := (hq (11 + 4 * op) (by omega) (by omega)).trans hE5
    have hfr : ∀ j, j ≠ 7 → j ≠ 12 + 4 * op → E3 j = E j := fun j h0 h1 => (hq j h0 h1).trans (hfr j h0 h1)
    exact wm_iret (post := ptR C b E fk fp op cn md rs x pf pl rf rl qf ql nt h pb rb qb fl) X hr hP hS ⟨rfl, hE2, hE6, hfr⟩ hQ dX0_takeOutside_155
  · exact absurd hc7 (fun q => q hlo)
def ptX (C : Nat → ClassId) (b : Nat) (E : Nat → va_E) (x : Nat) : Int32 → (Nat → va_E) → Prop := fun r E' => r = nI 1 ∧ E = E'
set_option maxHeartbeats 4000000 in
set_option maxRecDepth 100000 in
theorem ktX (l : Launch) (D : va_G) (C : Nat → ClassId) (b n : Nat) (E : Nat → va_E) (x : Nat) (hx : x < 256) (hlo : wm_lo x = 4294967295) (x40 : x ≠ 40) (x41 : x ≠ 41) (x42 : x ≠ 42) (x43 : x ≠ 43) (x46 : x ≠ 46) (x63 : x ≠ 63) (x91 : x ≠ 91) (x124 : x ≠ 124) : Met l yX0_takeOutside (wm_ws yX0_takeOutside cX0_takeOutside 3 (some .int)) { frames := 8, cells := 0, slots := 0, locals := 260 } (va_Pc [.ref (b + 5), .int (wm_sb x)] (wm_G D C b n E)) (va_Qi (ptX C b E x) (fun E' t => wm_P D b n E' t.heap) (wm_A b)) 0 0 (wm_A b) := by
  refine wm_ofW (by decide) (Nat.le_of_ble_eq_true rfl) (fun p e s m below meth c ls R args Q hRe hQ X hr hnm hP hS hl => ?_)
  have hl : lv_has ls 3 [(0, .ref (b + 5)), (1, .int (wm_sb x))] := hl
  have hll := wm_lo_lt x
  refine lv_iload_n X.1 X.2.1 dX0_takeOutside_0 rfl (lv_at hl 1 rfl) ?_
  refine wm_callNi (k := 1) (As := [.int (wm_sb x)]) (rest := []) X hP hS  (kX6_letterOf l D C b n E x (by omega)) (host := "WordMachines") (by decide) wq2_133 wq1_1 wq2_134 (by decide) (by rw [hRe]; exact ⟨Nat.le_of_ble_eq_true rfl, Nat.le_of_ble_eq_true rfl⟩) rfl hl.1 rfl (Nat.le_of_ble_eq_true rfl) (Nat.zero_le _) (Nat.zero_le _) dX0_takeOutside_1 (fun r1 E1 H locs hw hP hS => ?_)
  obtain ⟨hrt, hEe⟩ := hw
  subst hrt
  subst hEe
  refine lv_istore_n (lv' := [(2, .int (nI (wm_lo x))), (0, .ref (b + 5)), (1, .int (wm_sb x))]) X.1 X.2.1 dX0_takeOutside_4 rfl hl (by decide) rfl (fun ls hl => ?_)
  refine lv_iload_n X.1 X.2.1 dX0_takeOutside_5 rfl (lv_at hl 0 rfl) ?_
  refine lv_iconst (v := nI 4294967295) X.1 X.2.1 dX0_takeOutside_6 (by decide) ?_
  refine wm_icmp_eq (x := (wm_lo x)) (y := 4294967295) (tgt := 18) X hll (by decide) dX0_takeOutside_7 (by decide) (fun hc7 => ?_) (fun hc7 => ?_)
  · refine lv_iload_n X.1 X.2.1 dX0_takeOutside_18 rfl (lv_at hl 2 rfl) ?_
    refine lv_lookup (tgt := 156) X.1 X.2.1 dX0_takeOutside_19 (by decide) (wm_sw x hx x40 x41 x42 x43 x46 x63 x91 x124) (by decide) ?_
    refine lv_iconst (v := nI 1) X.1 X.2.1 dX0_takeOutside_156 (by decide) ?_
    exact wm_iret (post := ptX C b E x) X hr hP hS ⟨rfl, rfl⟩ hQ dX0_takeOutside_157
  · exact absurd hc7 (fun q => q hlo)
