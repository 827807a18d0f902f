def pX3_put (C : Nat → ClassId) (b : Nat) (E : Nat → va_E) (t f1 l1 f2 l2 : Nat) (b1 b2 : Bool) : (Nat → va_E) → Prop := fun E' => E' t = .inr (3, [.int (nI b2.toNat), .int (nI f2), .int (nI l2)]) ∧ (∀ j, j ≠ t → E' j = E j)
set_option maxHeartbeats 4000000 in
set_option maxRecDepth 100000 in
theorem kX3_put (l : Launch) (D : va_G) (C : Nat → ClassId) (b n : Nat) (E : Nat → va_E) (t f1 l1 f2 l2 : Nat) (b1 b2 : Bool) (hlt0 : t < n) (hE0 : E t = .inr (3, [.int (nI b1.toNat), .int (nI f1), .int (nI l1)])) : Met l yX3_put (wm_ws yX3_put cX3_put 4 none) { frames := 0, cells := 0, slots := 0, locals := 0 } (va_Pc [.ref (b + t), .int (nI b2.toNat), .int (nI f2), .int (nI l2)] (wm_G D C b n E)) (va_Qv (pX3_put C b E t f1 l1 f2 l2 b1 b2) (fun E' t => wm_P D b n E' t.heap) (wm_A b)) 0 0 (wm_A b) := by
  refine wm_ofW (by decide) (Nat.le_of_ble_eq_true rfl) (fun p e s m below meth c ls R args Q hRe hQ X hr hnm hP hS hl => ?_)
  have hl : lv_has ls 4 [(0, .ref (b + t)), (1, .int (nI b2.toNat)), (2, .int (nI f2)), (3, .int (nI l2))] := hl
  have hfr : ∀ j, j ≠ t → E j = E j := fun _ _ => rfl
  refine lv_aload_n X.1 X.2.1 dX3_put_0 rfl (lv_at hl 0 rfl) ?_
  refine lv_iload_n X.1 X.2.1 dX3_put_1 rfl (lv_at hl 1 rfl) ?_
  refine wm_put (v := .int (nI b2.toNat)) X hP hS hlt0 hE0 rfl wm_inX3 tyX3 tyX3_ok nmX3 0 (by decide) wq1_84 rfl (wm_nz b2) (wm_fz b2) (fs1 := [.int (nI b2.toNat), .int (nI f1), .int (nI l1)]) rfl (Nat.le_of_ble_eq_true rfl) dX3_put_2 (fun H locs E1 hP hS hE0 hq => ?_)
  have hfr : ∀ j, j ≠ t → E1 j = E j := fun j h0 => (hq j h0).trans (hfr j h0)
  refine lv_aload_n X.1 X.2.1 dX3_put_5 rfl (lv_at hl 0 rfl) ?_
  refine lv_iload_n X.1 X.2.1 dX3_put_6 rfl (lv_at hl 2 rfl) ?_
  refine wm_put (v := .int (nI f2)) X hP hS hlt0 hE0 rfl wm_inX3 tyX3 tyX3_ok nmX3 1 (by decide) wq1_86 rfl rfl rfl (fs1 := [.int (nI b2.toNat), .int (nI f2), .int (nI l1)]) rfl (Nat.le_of_ble_eq_true rfl) dX3_put_7 (fun H locs E2 hP hS hE0 hq => ?_)
  have hfr : ∀ j, j ≠ t → E2 j = E j := fun j h0 => (hq j h0).trans (hfr j h0)
  refine lv_aload_n X.1 X.2.1 dX3_put_10 rfl (lv_at hl 0 rfl) ?_
  refine lv_iload_n X.1 X.2.1 dX3_put_11 rfl (lv_at hl 3 rfl) ?_
  refine wm_put (v := .int (nI l2)) X hP hS hlt0 hE0 rfl wm_inX3 tyX3 tyX3_ok nmX3 2 (by decide) wq1_88 rfl rfl rfl (fs1 := [.int (nI b2.toNat), .int (nI f2), .int (nI l2)]) rfl (Nat.le_of_ble_eq_true rfl) dX3_put_12 (fun H locs E3 hP hS hE0 hq => ?_)
  have hfr : ∀ j, j ≠ t → E3 j = E j := fun j h0 => (hq j h0).trans (hfr j h0)
  exact wm_vret (post := pX3_put C b E t f1 l1 f2 l2 b1 b2) X hr hP hS ⟨hE0, hfr⟩ hQ dX3_put_15
def pX3_addPart (C : Nat → ClassId) (b : Nat) (E : Nat → va_E) (t t2 f1 l1 f2 l2 : Nat) (b1 b2 : Bool) : (Nat → va_E) → Prop := fun E' => E' t = .inr (3, [.int (nI (b1 || b2).toNat), .int (nI (f1 ||| f2)), .int (nI (l1 ||| l2))]) ∧ (∀ j, j ≠ t → E' j = E j)
set_option maxHeartbeats 4000000 in
set_option maxRecDepth 100000 in
theorem kX3_addPart (l : Launch) (D : va_G) (C : Nat → ClassId) (b n : Nat) (E : Nat → va_E) (t t2 f1 l1 f2 l2 : Nat) (b1 b2 : Bool) (hlt0 : t < n) (hE0 : E t = .inr (3, [.int (nI b1.toNat), .int (nI f1), .int (nI l1)])) (hlt1 : t2 < n) (hE1 : E t2 = .inr (3, [.int (nI b2.toNat), .int (nI f2), .int (nI l2)])) (hne : t ≠ t2) : Met l yX3_addPart (wm_ws yX3_addPart cX3_addPart 2 none) { frames := 1, cells := 0, slots := 0, locals := 23 } (va_Pc [.ref (b + t), .ref (b + t2)] (wm_G D C b n E)) (va_Qv (pX3_addPart C b E t t2 f1 l1 f2 l2 b1 b2) (fun E' t => wm_P D b n E' t.heap) (wm_A b)) 0 0 (wm_A b) := by
  refine wm_ofW (by decide) (Nat.le_of_ble_eq_true rfl) (fun p e s m below meth c ls R args Q hRe hQ X hr hnm hP hS hl => ?_)
  have hl : lv_has ls 2 [(0, .ref (b + t)), (1, .ref (b + t2))] := hl
  have hfr : ∀ j, j ≠ t → E j = E j := fun _ _ => rfl
  refine lv_aload_n X.1 X.2.1 dX3_addPart_0 rfl (lv_at hl 0 rfl) ?_
  refine lv_aload_n X.1 X.2.1 dX3_addPart_1 rfl (lv_at hl 0 rfl) ?_
  refine wm_get X hP hlt0 hE0 rfl wm_inX3 0 (by decide) wq1_84 rfl dX3_addPart_2 ?_
  refine wm_ifz_ne (x := b1) (tgt := 15) X dX3_addPart_5 (by decide) (fun hc5 => ?_) (fun hc5 => ?_)
  · refine lv_iconst (v := nI 1) X.1 X.2.1 dX3_addPart_15 (by decide) ?_
    refine lv_goto (tgt := 20) X.1 X.2.1 dX3_addPart_16 (by decide) ?_
    refine lv_aload_n X.1 X.2.1 dX3_addPart_20 rfl (lv_at hl 0 rfl) ?_
    refine wm_get X hP hlt0 hE0 rfl wm_inX3 1 (by decide) wq1_86 rfl dX3_addPart_21 ?_
    refine lv_aload_n X.1 X.2.1 dX3_addPart_24 rfl (lv_at hl 1 rfl) ?_
    refine wm_get X hP hlt1 hE1 rfl wm_inX3 1 (by decide) wq1_86 rfl dX3_addPart_25 ?_
    refine wm_ior (x := f1) (y := f2) X dX3_addPart_28 ?_
    refine lv_aload_n X.1 X.2.1 dX3_addPart_29 rfl (lv_at hl 0 rfl) ?_
    refine wm_get X hP hlt0 hE0 rfl wm_inX3 2 (by decide) wq1_88 rfl dX3_addPart_30 ?_
    refine lv_aload_n X.1 X.2.1 dX3_addPart_33 rfl (lv_at hl 1 rfl) ?_
    refine wm_get X hP hlt1 hE1 rfl wm_inX3 2 (by decide) wq1_88 rfl dX3_addPart_34 ?_
    refine wm_ior (x := l1) (y := l2) X dX3_addPart_37 ?_
    refine wm_callVv (k := 3) (As := [.int (nI true.toNat), .int (nI (f1 ||| f2)), .int (nI (l1 ||| l2))]) (rest := []) X hP hS hlt0 hE0 rfl (kX3_put l D C b n E t f1 l1 (f1 ||| f2) (l1 ||| l2) b1 true hlt0 hE0) wq2_172 wq2_121 wq2_122 wq1_5 wq2_123 (by decide) (by rw [hRe]; exact ⟨Nat.le_of_ble_eq_true rfl, Nat.le_of_ble_eq_true rfl⟩) rfl hl.1 rfl (Nat.le_of_ble_eq_true rfl) (Nat.zero_le _) (Nat.zero_le _) dX3_addPart_38 (fun E2 H locs hw hP hS => ?_)
    obtain ⟨hE0, hq⟩ := hw
    have hE1 := (hq t2 (by omega)).trans hE1
    have hfr : ∀ j, j ≠ t → E2 j = E j := fun j h0 => (hq j h0).trans (hfr j h0)
    exact wm_vret (post := pX3_addPart C b E t t2 f1 l1 f2 l2 b1 b2) X hr hP hS ⟨(by rw [hc5]; exact hE0), hfr⟩ hQ dX3_addPart_41
  · refine lv_aload_n X.1 X.2.1 dX3_addPart_8 rfl (lv_at hl 1 rfl) ?_
    refine wm_get X hP hlt1 hE1 rfl wm_inX3 0 (by decide) wq1_84 rfl dX3_addPart_9 ?_
    refine wm_ifz_eq (x := b2) (tgt := 19) X dX3_addPart_12 (by decide) (fun hc12 => ?_) (fun hc12 => ?_)
    · refine lv_iconst (v := nI 0) X.1 X.2.1 dX3_addPart_19 (by decide) ?_
      refine lv_aload_n X.1 X.2.1 dX3_addPart_20 rfl (lv_at hl 0 rfl) ?_
      refine wm_get X hP hlt0 hE0 rfl wm_inX3 1 (by decide) wq1_86 rfl dX3_addPart_21 ?_
      refine lv_aload_n X.1 X.2.1 dX3_addPart_24 rfl (lv_at hl 1 rfl) ?_
      refine wm_get X hP hlt1 hE1 rfl wm_inX3 1 (by decide) wq1_86 rfl dX3_addPart_25 ?_
      refine wm_ior (x := f1) (y := f2) X dX3_addPart_28 ?_
      refine lv_aload_n X.1 X.2.1 dX3_addPart_29 rfl (lv_at hl 0 rfl) ?_
      refine wm_get X hP hlt0 hE0 rfl wm_inX3 2 (by decide) wq1_88 rfl dX3_addPart_30 ?_
      refine lv_aload_n X.1 X.2.1 dX3_addPart_33 rfl (lv_at hl 1 rfl) ?_
      refine wm_get X hP hlt1 hE1 rfl wm_inX3 2 (by decide) wq1_88 rfl dX3_addPart_34 ?_
      refine wm_ior (x := l1) (y := l2) X dX3_addPart_37 ?_
      refine wm_callVv (k := 3) (As := [.int (nI false.toNat), .int (nI (f1 ||| f2)), .int (nI (l1 ||| l2))]) (rest := []) X hP hS hlt0 hE0 rfl (kX3_put l D C b n E t f1 l1 (f1 ||| f2) (l1 ||| l2) b1 false hlt0 hE0) wq2_172 wq2_121 wq2_122 wq1_5 wq2_123 (by decide) (by rw [hRe]; exact ⟨Nat.le_of_ble_eq_true rfl, Nat.le_of_ble_eq_true rfl⟩) rfl hl.1 rfl (Nat.le_of_ble_eq_true rfl) (Nat.zero_le _) (Nat.zero_le _) dX3_addPart_38 (fun E4 H locs hw hP hS => ?_)
      obtain ⟨hE0, hq⟩ := hw
      have hE1 := (hq t2 (by omega)).trans hE1
      have hfr : ∀ j, j ≠ t → E4 j = E j := fun j h0 => (hq j h0).trans (hfr j h0)
      exact wm_vret (post := pX3_addPart C b E t t2 f1 l1 f2 l2 b1 b2) X hr hP hS ⟨(by rw [hc5, hc12]; exact hE0), hfr⟩ hQ dX3_addPart_41
    · refine lv_iconst (v := nI 1) X.1 X.2.1 dX3_addPart_15 (by decide) ?_
      refine lv_goto (tgt := 20) X.1 X.2.1 dX3_addPart_16 (by decide) ?_
      refine lv_aload_n X.1 X.2.1 dX3_addPart_20 rfl (lv_at hl 0 rfl) ?_
      refine wm_get X hP hlt0 hE0 rfl wm_inX3 1 (by decide) wq1_86 rfl dX3_addPart_21 ?_
      refine lv_aload_n X.1 X.2.1 dX3_addPart_24 rfl (lv_at hl 1 rfl) ?_
      refine wm_get X hP hlt1 hE1 rfl wm_inX3 1 (by decide) wq1_86 rfl dX3_addPart_25 ?_
      refine wm_ior (x := f1) (y := f2) X dX3_addPart_28 ?_
      refine lv_aload_n X.1 X.2.1 dX3_addPart_29 rfl (lv_at hl 0 rfl) ?_
      refine wm_get X hP hlt0 hE0 rfl wm_inX3 2 (by decide) wq1_88 rfl dX3_addPart_30 ?_
      refine lv_aload_n X.1 X.2.1 dX3_addPart_33 rfl (lv_at hl 1 rfl) ?_
      refine wm_get X hP hlt1 hE1 rfl wm_inX3 2 (by decide) wq1_88 rfl dX3_addPart_34 ?_
      refine wm_ior (x := l1) (y := l2) X dX3_addPart_37 ?_
      refine wm_callVv (k := 3) (As := [.int (nI true.toNat), .int (nI (f1 ||| f2)), .int (nI (l1 ||| l2))]) (rest := []) X hP hS hlt0 hE0 rfl (kX3_put l D C b n E t f1 l1 (f1 ||| f2) (l1 ||| l2) b1 true hlt0 hE0) wq2_172 wq2_121 wq2_122 wq1_5 wq2_123 (by decide) (by rw [hRe]; exact ⟨Nat.le_of_ble_eq_true rfl, Nat.le_of_ble_eq_true rfl⟩) rfl hl.1 rfl (Nat.le_of_ble_eq_true rfl) (Nat.zero_le _) (Nat.zero_le _) dX3_addPart_38 (fun E5 H locs hw hP hS => ?_)
      obtain ⟨hE0, hq⟩ := hw
      have hE1 := (hq t2 (by omega)).trans hE1
      have hfr : ∀ j, j ≠ t → E5 j = E j := fun j h0 => (hq j h0).trans (hfr j h0)
      exact wm_vret (post := pX3_addPart C b E t t2 f1 l1 f2 l2 b1 b2) X hr hP hS ⟨(by rw [hc5, hc12]; exact hE0), hfr⟩ hQ dX3_addPart_41
def pX3_append (C : Nat → ClassId) (b : Nat) (E : Nat → va_E) (t t2 f1 l1 f2 l2 : Nat) (b1 b2 : Bool) : (Nat → va_E) → Prop := fun E' => E' t = .inr (3, [.int (nI (b1 && b2).toNat), .int (nI (f1 ||| (if b1 then f2 else 0))), .int (nI (l2 ||| (if b2 then l1 else 0)))]) ∧ (∀ j, j ≠ t → E' j = E j)
set_option maxHeartbeats 4000000 in
set_option maxRecDepth 100000 in
theorem kX3_append (l : Launch) (D : va_G) (C : Nat → ClassId) (b n : Nat) (E : Nat → va_E) (t t2 f1 l1 f2 l2 : Nat) (b1 b2 : Bool) (hlt0 : t < n) (hE0 : E t = .inr (3, [.int (nI b1.toNat), .int (nI f1), .int (nI l1)])) (hlt1 : t2 < n) (hE1 : E t2 = .inr (3, [.int (nI b2.toNat), .int (nI f2), .int (nI l2)])) (hne : t ≠ t2) : Met l yX3_append (wm_ws yX3_append cX3_append 2 none) { frames := 0, cells := 0, slots := 0, locals := 0 } (va_Pc [.ref (b + t), .ref (b + t2)] (wm_G D C b n E)) (va_Qv (pX3_append C b E t t2 f1 l1 f2 l2 b1 b2) (fun E' t => wm_P D b n E' t.heap) (wm_A b)) 0 0 (wm_A b) := by
  refine wm_ofW (by decide) (Nat.le_of_ble_eq_true rfl) (fun p e s m below meth c ls R args Q hRe hQ X hr hnm hP hS hl => ?_)
  have hl : lv_has ls 2 [(0, .ref (b + t)), (1, .ref (b + t2))] := hl
  have hfr : ∀ j, j ≠ t → E j = E j := fun _ _ => rfl
  refine lv_aload_n X.1 X.2.1 dX3_append_0 rfl (lv_at hl 0 rfl) ?_
  refine lv_dup X.1 X.2.1 dX3_append_1 rfl ?_
  refine wm_get X hP hlt0 hE0 rfl wm_inX3 1 (by decide) wq1_86 rfl dX3_append_2 ?_
  refine lv_aload_n X.1 X.2.1 dX3_append_5 rfl (lv_at hl 0 rfl) ?_
  refine wm_get X hP hlt0 hE0 rfl wm_inX3 0 (by decide) wq1_84 rfl dX3_append_6 ?_
  refine wm_ifz_eq (x := b1) (tgt := 19) X dX3_append_9 (by decide) (fun hc9 => ?_) (fun hc9 => ?_)
  · refine lv_iconst (v := nI 0) X.1 X.2.1 dX3_append_19 (by decide) ?_
    refine wm_ior (x := f1) (y := 0) X dX3_append_20 ?_
    refine wm_put (v := .int (nI (f1 ||| 0))) X hP hS hlt0 hE0 rfl wm_inX3 tyX3 tyX3_ok nmX3 1 (by decide) wq1_86 rfl rfl rfl (fs1 := [.int (nI b1.toNat), .int (nI (f1 ||| 0)), .int (nI l1)]) rfl (Nat.le_of_ble_eq_true rfl) dX3_append_21 (fun H locs E2 hP hS hE0 hq => ?_)
    have hE1 := (hq t2 (by omega)).trans hE1
    have hfr : ∀ j, j ≠ t → E2 j = E j := fun j h0 => (hq j h0).trans (hfr j h0)
    refine lv_aload_n X.1 X.2.1 dX3_append_24 rfl (lv_at hl 0 rfl) ?_
    refine lv_aload_n X.1 X.2.1 dX3_append_25 rfl (lv_at hl 1 rfl) ?_
    refine wm_get X hP hlt1 hE1 rfl wm_inX3 2 (by decide) wq1_88 rfl dX3_append_26 ?_
    refine lv_aload_n X.1 X.2.1 dX3_append_29 rfl (lv_at hl 1 rfl) ?_
    refine wm_get X hP hlt1 hE1 rfl wm_inX3 0 (by decide) wq1_84 rfl dX3_append_30 ?_
    refine wm_ifz_eq (x := b2) (tgt := 43) X dX3_append_33 (by decide) (fun hc33 => ?_) (fun hc33 => ?_)
    · refine lv_iconst (v := nI 0) X.1 X.2.1 dX3_append_43 (by decide) ?_
      refine wm_ior (x := l2) (y := 0) X dX3_append_44 ?_
      refine wm_put (v := .int (nI (l2 ||| 0))) X hP hS hlt0 hE0 rfl wm_inX3 tyX3 tyX3_ok nmX3 2 (by decide) wq1_88 rfl rfl rfl (fs1 := [.int (nI b1.toNat), .int (nI (f1 ||| 0)), .int (nI (l2 ||| 0))]) rfl (Nat.le_of_ble_eq_true rfl) dX3_append_45 (fun H locs E4 hP hS hE0 hq => ?_)
      have hE1 := (hq t2 (by omega)).trans hE1
      have hfr : ∀ j, j ≠ t → E4 j = E j := fun j h0 => (hq j h0).trans (hfr j h0)
      refine lv_aload_n X.1 X.2.1 dX3_append_48 rfl (lv_at hl 0 rfl) ?_
      refine lv_aload_n X.1 X.2.1 dX3_append_49 rfl (lv_at hl 0 rfl) ?_
      refine wm_get X hP hlt0 hE0 rfl wm_inX3 0 (by decide) wq1_84 rfl dX3_append_50 ?_
      refine wm_ifz_eq (x := b1) (tgt := 67) X dX3_append_53 (by decide) (fun hc53 => ?_) (fun hc53 => ?_)
      · refine lv_iconst (v := nI 0) X.1 X.2.1 dX3_append_67 (by decide) ?_
        refine wm_put (v := .int (nI false.toNat)) X hP hS hlt0 hE0 rfl wm_inX3 tyX3 tyX3_ok nmX3 0 (by decide) wq1_84 rfl (wm_nz false) (wm_fz false) (fs1 := [.int (nI false.toNat), .int (nI (f1 ||| 0)), .int (nI (l2 ||| 0))]) rfl (Nat.le_of_ble_eq_true rfl) dX3_append_68 (fun H locs E6 hP hS hE0 hq => ?_)
        have hE1 := (hq t2 (by omega)).trans hE1
        have hfr : ∀ j, j ≠ t → E6 j = E j := fun j h0 => (hq j h0).trans (hfr j h0)
        exact wm_vret (post := pX3_append C b E t t2 f1 l1 f2 l2 b1 b2) X hr hP hS ⟨(by first | (rw [hc9, hc33]; exact hE0) | exact absurd (hc9.symm.trans hc53) (by decide) | exact absurd (hc33.symm.trans hc60) (by decide)), hfr⟩ hQ dX3_append_71
      · refine lv_aload_n X.1 X.2.1 dX3_append_56 rfl (lv_at hl 1 rfl) ?_
        refine wm_get X hP hlt1 hE1 rfl wm_inX3 0 (by decide) wq1_84 rfl dX3_append_57 ?_
        refine wm_ifz_eq (x := b2) (tgt := 67) X dX3_append_60 (by decide) (fun hc60 => ?_) (fun hc60 => ?_)
        · refine lv_iconst (v := nI 0) X.1 X.2.1 dX3_append_67 (by decide) ?_
          refine wm_put (v := .int (nI false.toNat)) X hP hS hlt0 hE0 rfl wm_inX3 tyX3 tyX3_ok nmX3 0 (by decide) wq1_84 rfl (wm_nz false) (wm_fz false) (fs1 := [.int (nI false.toNat), .int (nI (f1 ||| 0)), .int (nI (l2 ||| 0))]) rfl (Nat.le_of_ble_eq_true rfl) dX3_append_68 (fun H locs E8 hP hS hE0 hq => ?_)
          have hE1 := (hq t2 (by omega)).trans hE1
          have hfr : ∀ j, j ≠ t → E8 j = E j := fun j h0 => (hq j h0).trans (hfr j h0)
          exact wm_vret (post := pX3_append C b E t t2 f1 l1 f2 l2 b1 b2) X hr hP hS ⟨(by first | (rw [hc9, hc33]; exact hE0) | exact absurd (hc9.symm.trans hc53) (by decide) | exact absurd (hc33.symm.trans hc60) (by decide)), hfr⟩ hQ dX3_append_71
        · refine lv_iconst (v := nI 1) X.1 X.2.1 dX3_append_63 (by decide) ?_
          refine lv_goto (tgt := 68) X.1 X.2.1 dX3_append_64 (by decide) ?_
          refine wm_put (v := .int (nI true.toNat)) X hP hS hlt0 hE0 rfl wm_inX3 tyX3 tyX3_ok nmX3 0 (by decide) wq1_84 rfl (wm_nz true) (wm_fz true) (fs1 := [.int (nI true.toNat), .int (nI (f1 ||| 0)), .int (nI (l2 ||| 0))]) rfl (Nat.le_of_ble_eq_true rfl) dX3_append_68 (fun H locs E9 hP hS hE0 hq => ?_)
          have hE1 := (hq t2 (by omega)).trans hE1
          have hfr : ∀ j, j ≠ t → E9 j = E j := fun j h0 => (hq j h0).trans (hfr j h0)
          exact wm_vret (post := pX3_append C b E t t2 f1 l1 f2 l2 b1 b2) X hr hP hS ⟨(by first | (rw [hc9, hc33]; exact hE0) | exact absurd (hc9.symm.trans hc53) (by decide) | exact absurd (hc33.symm.trans hc60) (by decide)), hfr⟩ hQ dX3_append_71
    · refine lv_aload_n X.1 X.2.1 dX3_append_36 rfl (lv_at hl 0 rfl) ?_
      refine wm_get X hP hlt0 hE0 rfl wm_inX3 2 (by decide) wq1_88 rfl dX3_append_37 ?_
      refine lv_goto (tgt := 44) X.1 X.2.1 dX3_append_40 (by decide) ?_
      refine wm_ior (x := l2) (y := l1) X dX3_append_44 ?_
      refine wm_put (v := .int (nI (l2 ||| l1))) X hP hS hlt0 hE0 rfl wm_inX3 tyX3 tyX3_ok nmX3 2 (by decide) wq1_88 rfl rfl rfl (fs1 := [.int (nI b1.toNat), .int (nI (f1 ||| 0)), .int (nI (l2 ||| l1))]) rfl (Nat.le_of_ble_eq_true rfl) dX3_append_45 (fun H locs E10 hP hS hE0 hq => ?_)
      have hE1 := (hq t2 (by omega)).trans hE1
      have hfr : ∀ j, j ≠ t → E10 j = E j := fun j h0 => (hq j h0).trans (hfr j h0)
      refine lv_aload_n X.1 X.2.1 dX3_append_48 rfl (lv_at hl 0 rfl) ?_
      refine lv_aload_n X.1 X.2.1 dX3_append_49 rfl (lv_at hl 0 rfl) ?_
      refine wm_get X hP hlt0 hE0 rfl wm_inX3 0 (by decide) wq1_84 rfl dX3_append_50 ?_
      refine wm_ifz_eq (x := b1) (tgt := 67) X dX3_append_53 (by decide) (fun hc53 => ?_) (fun hc53 => ?_)
      · refine lv_iconst (v := nI 0) X.1 X.2.1 dX3_append_67 (by decide) ?_
        refine wm_put (v := .int (nI false.toNat)) X hP hS hlt0 hE0 rfl wm_inX3 tyX3 tyX3_ok nmX3 0 (by decide) wq1_84 rfl (wm_nz false) (wm_fz false) (fs1 := [.int (nI false.toNat), .int (nI (f1 ||| 0)), .int (nI (l2 ||| l1))]) rfl (Nat.le_of_ble_eq_true rfl) dX3_append_68 (fun H locs E12 hP hS hE0 hq => ?_)
        have hE1 := (hq t2 (by omega)).trans hE1
        have hfr : ∀ j, j ≠ t → E12 j = E j := fun j h0 => (hq j h0).trans (hfr j h0)
        exact wm_vret (post := pX3_append C b E t t2 f1 l1 f2 l2 b1 b2) X hr hP hS ⟨(by first | (rw [hc9, hc33]; exact hE0) | exact absurd (hc9.symm.trans hc53) (by decide) | exact absurd (hc33.symm.trans hc60) (by decide)), hfr⟩ hQ dX3_append_71
      · refine lv_aload_n X.1 X.2.1 dX3_append_56 rfl (lv_at hl 1 rfl) ?_
        refine wm_get X hP hlt1 hE1 rfl wm_inX3 0 (by decide) wq1_84 rfl dX3_append_57 ?_
        refine wm_ifz_eq (x := b2) (tgt := 67) X dX3_append_60 (by decide) (fun hc60 => ?_) (fun hc60 => ?_)
        · refine lv_iconst (v := nI 0) X.1 X.2.1 dX3_append_67 (by decide) ?_
          refine wm_put (v := .int (nI false.toNat)) X hP hS hlt0 hE0 rfl wm_inX3 tyX3 tyX3_ok nmX3 0 (by decide) wq1_84 rfl (wm_nz false) (wm_fz false) (fs1 := [.int (nI false.toNat), .int (nI (f1 ||| 0)), .int (nI (l2 ||| l1))]) rfl (Nat.le_of_ble_eq_true rfl) dX3_append_68 (fun H locs E14 hP hS hE0 hq => ?_)
          have hE1 := (hq t2 (by omega)).trans hE1
          have hfr : ∀ j, j ≠ t → E14 j = E j := fun j h0 => (hq j h0).trans (hfr j h0)
          exact wm_vret (post := pX3_append C b E t t2 f1 l1 f2 l2 b1 b2) X hr hP hS ⟨(by first | (rw [hc9, hc33]; exact hE0) | exact absurd (hc9.symm.trans hc53) (by decide) | exact absurd (hc33.symm.trans hc60) (by decide)), hfr⟩ hQ dX3_append_71
        · refine lv_iconst (v := nI 1) X.1 X.2.1 dX3_append_63 (by decide) ?_
          refine lv_goto (tgt := 68) X.1 X.2.1 dX3_append_64 (by decide) ?_
          refine wm_put (v := .int (nI true.toNat)) X hP hS hlt0 hE0 rfl wm_inX3 tyX3 tyX3_ok nmX3 0 (by decide) wq1_84 rfl (wm_nz true) (wm_fz true) (fs1 := [.int (nI true.toNat), .int (nI (f1 ||| 0)), .int (nI (l2 ||| l1))]) rfl (Nat.le_of_ble_eq_true rfl) dX3_append_68 (fun H locs E15 hP hS hE0 hq => ?_)
          have hE1 := (hq t2 (by omega)).trans hE1
          have hfr : ∀ j, j ≠ t → E15 j = E j := fun j h0 => (hq j h0).trans (hfr j h0)
          exact wm_vret (post := pX3_append C b E t t2 f1 l1 f2 l2 b1 b2) X hr hP hS ⟨(by first | (rw [hc9, hc33]; exact hE0) | exact absurd (hc9.symm.trans hc53) (by decide) | exact absurd (hc33.symm.trans hc60) (by decide)), hfr⟩ hQ dX3_append_71
  · refine lv_aload_n X.1 X.2.1 dX3_append_12 rfl (lv_at hl 1 rfl) ?_
    refine wm_get X hP hlt1 hE1 rfl wm_inX3 1 (by decide) wq1_86 rfl dX3_append_13 ?_
    refine lv_goto (tgt := 20) X.1 X.2.1 dX3_append_16 (by decide) ?_
    refine wm_ior (x := f1) (y := f2) X dX3_append_20 ?_
    refine wm_put (v := .int (nI (f1 ||| f2))) X hP hS hlt0 hE0 rfl wm_inX3 tyX3 tyX3_ok nmX3 1 (by decide) wq1_86 rfl rfl rfl (fs1 := [.int (nI b1.toNat), .int (nI (f1 ||| f2)), .int (nI l1)]) rfl (Nat.le_of_ble_eq_true rfl) dX3_append_21 (fun H locs E16 hP hS hE0 hq => ?_)
    have hE1 := (hq t2 (by omega)).trans hE1
    have hfr : ∀ j, j ≠ t → E16 j = E j := fun j h0 => (hq j h0).trans (hfr j h0)
    refine lv_aload_n X.1 X.2.1 dX3_append_24 rfl (lv_at hl 0 rfl) ?_
    refine lv_aload_n X.1 X.2.1 dX3_append_25 rfl (lv_at hl 1 rfl) ?_
    refine wm_get X hP hlt1 hE1 rfl wm_inX3 2 (by decide) wq1_88 rfl dX3_append_26 ?_
    refine lv_aload_n X.1 X.2.1 dX3_append_29 rfl (lv_at hl 1 rfl) ?_
    refine wm_get X hP hlt1 hE1 rfl wm_inX3 0 (by decide) wq1_84 rfl dX3_append_30 ?_
    refine wm_ifz_eq (x := b2) (tgt := 43) X dX3_append_33 (by decide) (fun hc33 => ?_) (fun hc33 => ?_)
    · refine lv_iconst (v := nI 0) X.1 X.2.1 dX3_append_43 (by decide) ?_
      refine wm_ior (x := l2) (y := 0) X dX3_append_44 ?_
      refine wm_put (v := .int (nI (l2 ||| 0))) X hP hS hlt0 hE0 rfl wm_inX3 tyX3 tyX3_ok nmX3 2 (by decide) wq1_88 rfl rfl rfl (fs1 := [.int (nI b1.toNat), .int (nI (f1 ||| f2)), .int (nI (l2 ||| 0))]) rfl (Nat.le_of_ble_eq_true rfl) dX3_append_45 (fun H locs E18 hP hS hE0 hq => ?_)
      have hE1 := (hq t2 (by omega)).trans hE1
      have hfr : ∀ j, j ≠ t → E18 j = E j := fun j h0 => (hq j h0).trans (hfr j h0)
      refine lv_aload_n X.1 X.2.1 dX3_append_48 rfl (lv_at hl 0 rfl) ?_
      refine lv_aload_n X.1 X.2.1 dX3_append_49 rfl (lv_at hl 0 rfl) ?_
      refine wm_get X hP hlt0 hE0 rfl wm_inX3 0 (by decide) wq1_84 rfl dX3_append_50 ?_
      refine wm_ifz_eq (x := b1) (tgt := 67) X dX3_append_53 (by decide) (fun hc53 => ?_) (fun hc53 => ?_)
      · refine lv_iconst (v := nI 0) X.1 X.2.1 dX3_append_67 (by decide) ?_
        refine wm_put (v := .int (nI false.toNat)) X hP hS hlt0 hE0 rfl wm_inX3 tyX3 tyX3_ok nmX3 0 (by decide) wq1_84 rfl (wm_nz false) (wm_fz false) (fs1 := [.int (nI false.toNat), .int (nI (f1 ||| f2)), .int (nI (l2 ||| 0))]) rfl (Nat.le_of_ble_eq_true rfl) dX3_append_68 (fun H locs E20 hP hS hE0 hq => ?_)
        have hE1 := (hq t2 (by omega)).trans hE1
        have hfr : ∀ j, j ≠ t → E20 j = E j := fun j h0 => (hq j h0).trans (hfr j h0)
        exact wm_vret (post := pX3_append C b E t t2 f1 l1 f2 l2 b1 b2) X hr hP hS ⟨(by first | (rw [hc9, hc33]; exact hE0) | exact absurd (hc9.symm.trans hc53) (by decide) | exact absurd (hc33.symm.trans hc60) (by decide)), hfr⟩ hQ dX3_append_71
      · refine lv_aload_n X.1 X.2.1 dX3_append_56 rfl (lv_at hl 1 rfl) ?_
        refine wm_get X hP hlt1 hE1 rfl wm_inX3 0 (by decide) wq1_84 rfl dX3_append_57 ?_
        refine wm_ifz_eq (x := b2) (tgt := 67) X dX3_append_60 (by decide) (fun hc60 => ?_) (fun hc60 => ?_)
        · refine lv_iconst (v := nI 0) X.1 X.2.1 dX3_append_67 (by decide) ?_
          refine wm_put (v := .int (nI false.toNat)) X hP hS hlt0 hE0 rfl wm_inX3 tyX3 tyX3_ok nmX3 0 (by decide) wq1_84 rfl (wm_nz false) (wm_fz false) (fs1 := [.int (nI false.toNat), .int (nI (f1 ||| f2)), .int (nI (l2 ||| 0))]) rfl (Nat.le_of_ble_eq_true rfl) dX3_append_68 (fun H locs E22 hP hS hE0 hq => ?_)
          have hE1 := (hq t2 (by omega)).trans hE1
          have hfr : ∀ j, j ≠ t → E22 j = E j := fun j h0 => (hq j h0).trans (hfr j h0)
          exact wm_vret (post := pX3_append C b E t t2 f1 l1 f2 l2 b1 b2) X hr hP hS ⟨(by first | (rw [hc9, hc33]; exact hE0) | exact absurd (hc9.symm.trans hc53) (by decide) | exact absurd (hc33.symm.trans hc60) (by decide)), hfr⟩ hQ dX3_append_71
        · refine lv_iconst (v := nI 1) X.1 X.2.1 dX3_append_63 (by decide) ?_
          refine lv_goto (tgt := 68) X.1 X.2.1 dX3_append_64 (by decide) ?_
          refine wm_put (v := .int (nI true.toNat)) X hP hS hlt0 hE0 rfl wm_inX3 tyX3 tyX3_ok nmX3 0 (by decide) wq1_84 rfl (wm_nz true) (wm_fz true) (fs1 := [.int (nI true.toNat), .int (nI (f1 ||| f2)), .int (nI (l2 ||| 0))]) rfl (Nat.le_of_ble_eq_true rfl) dX3_append_68 (fun H locs E23 hP hS hE0 hq => ?_)
          have hE1 := (hq t2 (by omega)).trans hE1
          have hfr : ∀ j, j ≠ t → E23 j = E j := fun j h0 => (hq j h0).trans (hfr j h0)
          exact wm_vret (post := pX3_append C b E t t2 f1 l1 f2 l2 b1 b2) X hr hP hS ⟨(by first | (rw [hc9, hc33]; exact hE0) | exact absurd (hc9.symm.trans hc53) (by decide) | exact absurd (hc33.symm.trans hc60) (by decide)), hfr⟩ hQ dX3_append_71
    · refine lv_aload_n X.1 X.2.1 dX3_append_36 rfl (lv_at hl 0 rfl) ?_
      refine wm_get X hP hlt0 hE0 rfl wm_inX3 2 (by decide) wq1_88 rfl dX3_append_37 ?_
      refine lv_goto (tgt := 44) X.1 X.2.1 dX3_append_40 (by decide) ?_
      refine wm_ior (x := l2) (y := l1) X dX3_append_44 ?_
      refine wm_put (v := .int (nI (l2 ||| l1))) X hP hS hlt0 hE0 rfl wm_inX3 tyX3 tyX3_ok nmX3 2 (by decide) wq1_88 rfl rfl rfl (fs1 := [.int (nI b1.toNat), .int (nI (f1 ||| f2)), .int (nI (l2 ||| l1))]) rfl (Nat.le_of_ble_eq_true rfl) dX3_append_45 (fun H locs E24 hP hS hE0 hq => ?_)
      have hE1 := (hq t2 (by omega)).trans hE1
      have hfr : ∀ j, j ≠ t → E24 j = E j := fun j h0 => (hq j h0).trans (hfr j h0)
      refine lv_aload_n X.1 X.2.1 dX3_append_48 rfl (lv_at hl 0 rfl) ?_
      refine lv_aload_n X.1 X.2.1 dX3_append_49 rfl (lv_at hl 0 rfl) ?_
      refine wm_get X hP hlt0 hE0 rfl wm_inX3 0 (by decide) wq1_84 rfl dX3_append_50 ?_
      refine wm_ifz_eq (x := b1) (tgt := 67) X dX3_append_53 (by decide) (fun hc53 => ?_) (fun hc53 => ?_)
      · refine lv_iconst (v := nI 0) X.1 X.2.1 dX3_append_67 (by decide) ?_
        refine wm_put (v := .int (nI false.toNat)) X hP hS hlt0 hE0 rfl wm_inX3 tyX3 tyX3_ok nmX3 0 (by decide) wq1_84 rfl (wm_nz false) (wm_fz false) (fs1 := [.int (nI false.toNat), .int (nI (f1 ||| f2)), .int (nI (l2 ||| l1))]) rfl (Nat.le_of_ble_eq_true rfl) dX3_append_68 (fun H locs E26 hP hS hE0 hq => ?_)
        have hE1 := (hq t2 (by omega)).trans hE1
        have hfr : ∀ j, j ≠ t → E26 j = E j := fun j h0 => (hq j h0).trans (hfr j h0)
        exact wm_vret (post := pX3_append C b E t t2 f1 l1 f2 l2 b1 b2) X hr hP hS ⟨(by first | (rw [hc9, hc33]; exact hE0) | exact absurd (hc9.symm.trans hc53) (by decide) | exact absurd (hc33.symm.trans hc60) (by decide)), hfr⟩ hQ dX3_append_71
      · refine lv_aload_n X.1 X.2.1 dX3_append_56 rfl (lv_at hl 1 rfl) ?_
        refine wm_get X hP hlt1 hE1 rfl wm_inX3 0 (by decide) wq1_84 rfl dX3_append_57 ?_
        refine wm_ifz_eq (x := b2) (tgt := 67) X dX3_append_60 (by decide) (fun hc60 => ?_) (fun hc60 => ?_)
        · refine lv_iconst (v := nI 0) X.1 X.2.1 dX3_append_67 (by decide) ?_
          refine wm_put (v := .int (nI false.toNat)) X hP hS hlt0 hE0 rfl wm_inX3 tyX3 tyX3_ok nmX3 0 (by decide) wq1_84 rfl (wm_nz false) (wm_fz false) (fs1 := [.int (nI false.toNat), .int (nI (f1 ||| f2)), .int (nI (l2 ||| l1))]) rfl (Nat.le_of_ble_eq_true rfl) dX3_append_68 (fun H locs E28 hP hS hE0 hq => ?_)
          have hE1 := (hq t2 (by omega)).trans hE1
          have hfr : ∀ j, j ≠ t → E28 j = E j := fun j h0 => (hq j h0).trans (hfr j h0)
          exact wm_vret (post := pX3_append C b E t t2 f1 l1 f2 l2 b1 b2) X hr hP hS ⟨(by first | (rw [hc9, hc33]; exact hE0) | exact absurd (hc9.symm.trans hc53) (by decide) | exact absurd (hc33.symm.trans hc60) (by decide)), hfr⟩ hQ dX3_append_71
        · refine lv_iconst (v := nI 1) X.1 X.2.1 dX3_append_63 (by decide) ?_
          refine lv_goto (tgt := 68) X.1 X.2.1 dX3_append_64 (by decide) ?_
          refine wm_put (v := .int (nI true.toNat)) X hP hS hlt0 hE0 rfl wm_inX3 tyX3 tyX3_ok nmX3 0 (by decide) wq1_84 rfl (wm_nz true) (wm_fz true) (fs1 := [.int (nI true.toNat), .int (nI (f1 ||| f2)), .int (nI (l2 ||| l1))]) rfl (Nat.le_of_ble_eq_true rfl) dX3_append_68 (fun H locs E29 hP hS hE0 hq => ?_)
          have hE1 := (hq t2 (by omega)).trans hE1
          have hfr : ∀ j, j ≠ t → E29 j = E j := fun j h0 => (hq j h0).trans (hfr j h0)
          exact wm_vret (post := pX3_append C b E t t2 f1 l1 f2 l2 b1 b2) X hr hP hS ⟨(by first | (rw [hc9, hc33]; exact hE0) | exact absurd (hc9.symm.trans hc53) (by decide) | exact absurd (hc33.symm.trans hc60) (by decide)), hfr⟩ hQ dX3_append_71
def pX1_beginPart (C : Nat → ClassId) (b : Nat) (E : Nat → va_E) (tv t1 t2 t3 pf pl rf rl qf ql : Nat) (h pb rb qb : Bool) : (Nat → va_E) → Prop := fun E' => E' tv = .inr (1, [.ref (b + t1), .ref (b + t2), .ref (b + t3), .int (nI false.toNat)]) ∧ E' t2 = .inr (3, [.int (nI true.toNat), .int (nI 0), .int (nI 0)]) ∧ E' t3 = .inr (3, [.int (nI true.toNat), .int (nI 0), .int (nI 0)]) ∧ (∀ j, j ≠ tv → j ≠ t2 → j ≠ t3 → E' j = E j)
set_option maxHeartbeats 4000000 in
set_option maxRecDepth 100000 in
theorem kX1_beginPart (l : Launch) (D : va_G) (C : Nat → ClassId) (b n : Nat) (E : Nat → va_E) (tv t1 t2 t3 pf pl rf rl qf ql : Nat) (h pb rb qb : Bool) (hlt0 : tv < n) (hE0 : E tv = .inr (1, [.ref (b + t1), .ref (b + t2), .ref (b + t3), .int (nI h.toNat)])) (hlt1 : t1 < n) (hE1 : E t1 = .inr (3, [.int (nI pb.toNat), .int (nI pf), .int (nI pl)])) (hlt2 : t2 < n) (hE2 : E t2 = .inr (3, [.int (nI rb.toNat), .int (nI rf), .int (nI rl)])) (hlt3 : t3 < n) (hE3 : E t3 = .inr (3, [.int (nI qb.toNat), .int (nI qf), .int (nI ql)])) (n1 : tv ≠ t1) (n2 : tv ≠ t2) (n3 : tv ≠ t3) (n4 : t1 ≠ t2) (n5 : t1 ≠ t3) (n6 : t2 ≠ t3) : Met l yX1_beginPart (wm_ws yX1_beginPart cX1_beginPart 1 none) { frames := 1, cells := 0, slots := 0, locals := 23 } (va_Pc [.ref (b + tv)] (wm_G D C b n E)) (va_Qv (pX1_beginPart C b E tv t1 t2 t3 pf pl rf rl qf ql h pb rb qb) (fun E' t => wm_P D b n E' t.heap) (wm_A b)) 0 0 (wm_A b) := by
  refine wm_ofW (by decide) (Nat.le_of_ble_eq_true rfl) (fun p e s m below meth c ls R args Q hRe hQ X hr hnm hP hS hl => ?_)
  have hl : lv_has ls 1 [(0, .ref (b + tv))] := hl
  have hfr : ∀ j, j ≠ tv → j ≠ t2 → j ≠ t3 → E j = E j := fun _ _ _ _ => rfl
  refine lv_aload_n X.1 X.2.1 dX1_beginPart_0 rfl (lv_at hl 0 rfl) ?_
  refine wm_get X hP hlt0 hE0 rfl wm_inX1 1 (by decide) wq1_100 rfl dX1_beginPart_1 ?_
  refine lv_iconst (v := nI 1) X.1 X.2.1 dX1_beginPart_4 (by decide) ?_
  refine lv_iconst (v := nI 0) X.1 X.2.1 dX1_beginPart_5 (by decide) ?_
  refine lv_iconst (v := nI 0) X.1 X.2.1 dX1_beginPart_6 (by decide) ?_
  refine wm_callVv (k := 3) (As := [.int (nI true.toNat), .int (nI 0), .int (nI 0)]) (rest := []) X hP hS hlt2 hE2 rfl (kX3_put l D C b n E t2 rf rl 0 0 rb true hlt2 hE2) wq2_120 wq2_121 wq2_122 wq1_5 wq2_123 (by decide) (by rw [hRe]; exact ⟨Nat.le_of_ble_eq_true rfl, Nat.le_of_ble_eq_true rfl⟩) rfl hl.1 rfl (Nat.le_of_ble_eq_true rfl) (Nat.zero_le _) (Nat.zero_le _) dX1_beginPart_7 (fun E1 H locs hw hP hS => ?_)
  obtain ⟨hE2, hq⟩ := hw
  have hE0 := (hq tv (by omega)).trans hE0
  have hE1 := (hq t1 (by omega)).trans hE1
  have hE3 := (hq t3 (by omega)).trans hE3
  have hfr : ∀ j, j ≠ tv → j ≠ t2 → j ≠ t3 → E1 j = E j := fun j h0 h1 h2 => (hq j h1).trans (hfr j h0 h1 h2)
  refine lv_aload_n X.1 X.2.1 dX1_beginPart_10 rfl (lv_at hl 0 rfl) ?_
  refine wm_get X hP hlt0 hE0 rfl wm_inX1 2 (by decide) wq1_102 rfl dX1_beginPart_11 ?_
  refine lv_iconst (v := nI 1) X.1 X.2.1 dX1_beginPart_14 (by decide) ?_
  refine lv_iconst (v := nI 0) X.1 X.2.1 dX1_beginPart_15 (by decide) ?_
  refine lv_iconst (v := nI 0) X.1 X.2.1 dX1_beginPart_16 (by decide) ?_
  refine wm_callVv (k := 3) (As := [.int (nI true.toNat), .int (nI 0), .int (nI 0)]) (rest := []) X hP hS hlt3 hE3 rfl (kX3_put l D C b n E1 t3 qf ql 0 0 qb true hlt3 hE3) wq2_120 wq2_121 wq2_122 wq1_5 wq2_123 (by decide) (by rw [hRe]; exact ⟨Nat.le_of_ble_eq_true rfl, Nat.le_of_ble_eq_true rfl⟩) rfl hl.1 rfl (Nat.le_of_ble_eq_true rfl) (Nat.zero_le _) (Nat.zero_le _) dX1_beginPart_17 (fun E2 H locs hw hP hS => ?_)
  obtain ⟨hE3, hq⟩ := hw
  have hE0 := (hq tv (by omega)).trans hE0
  have hE1 := (hq t1 (by omega)).trans hE1
  have hE2 := (hq t2 (by omega)).trans hE2
  have hfr : ∀ j, j ≠ tv → j ≠ t2 → j ≠ t3 → E2 j = E j := fun j h0 h1 h2 => (hq j h2).trans (hfr j h0 h1 h2)
  refine lv_aload_n X.1 X.2.1 dX1_beginPart_20 rfl (lv_at hl 0 rfl) ?_
  refine lv_iconst (v := nI 0) X.1 X.2.1 dX1_beginPart_21 (by decide) ?_
  refine wm_put (v := .int (nI false.toNat)) X hP hS hlt0 hE0 rfl wm_inX1 tyX1 tyX1_ok nmX1 3 (by decide) wq1_104 rfl (wm_nz false) (wm_fz false) (fs1 := [.ref (b + t1), .ref (b + t2), .ref (b + t3), .int (nI false.toNat)]) rfl (Nat.le_of_ble_eq_true rfl) dX1_beginPart_22 (fun H locs E3 hP hS hE0 hq => ?_)
  have hE1 := (hq t1 (by omega)).trans hE1
  have hE2 := (hq t2 (by omega)).trans hE2
  have hE3 := (hq t3 (by omega)).trans hE3
  have hfr : ∀ j, j ≠ tv → j ≠ t2 → j ≠ t3 → E3 j = E j := fun j h0 h1 h2 => (hq j h0).trans (hfr j h0 h1 h2)
  exact wm_vret (post := pX1_beginPart C b E tv t1 t2 t3 pf pl rf rl qf ql h pb rb qb) X hr hP hS ⟨hE0, hE2, hE3, hfr⟩ hQ dX1_beginPart_25
def pX1_beginExpression (C : Nat → ClassId) (b : Nat) (E : Nat → va_E) (tv t1 t2 t3 pf pl rf rl qf ql : Nat) (h pb rb qb : Bool) : (Nat → va_E) → Prop := fun E' => E' tv = .inr (1, [.ref (b + t1), .ref (b + t2), .ref (b + t3), .int (nI false.toNat)]) ∧ E' t1 = .inr (3, [.int (nI false.toNat), .int (nI 0), .int (nI 0)]) ∧ E' t2 = .inr (3, [.int (nI true.toNat), .int (nI 0), .int (nI 0)]) ∧ E' t3 = .inr (3, [.int (nI true.toNat), .int (nI 0), .int (nI 0)]) ∧ (∀ j, j ≠ tv → j ≠ t1 → j ≠ t2 → j ≠ t3 → E' j = E j)
set_option maxHeartbeats 4000000 in
set_option maxRecDepth 100000 in
theorem kX1_beginExpression (l : Launch) (D : va_G) (C : Nat → ClassId) (b n : Nat) (E : Nat → va_E) (tv t1 t2 t3 pf pl rf rl qf ql : Nat) (h pb rb qb : Bool) (hlt0 : tv < n) (hE0 : E tv = .inr (1, [.ref (b + t1), .ref (b + t2), .ref (b + t3), .int (nI h.toNat)])) (hlt1 : t1 < n) (hE1 : E t1 = .inr (3, [.int (nI pb.toNat), .int (nI pf), .int (nI pl)])) (hlt2 : t2 < n) (hE2 : E t2 = .inr (3, [.int (nI rb.toNat), .int (nI rf), .int (nI rl)])) (hlt3 : t3 < n) (hE3 : E t3 = .inr (3, [.int (nI qb.toNat), .int (nI qf), .int (nI ql)])) (n1 : tv ≠ t1) (n2 : tv ≠ t2) (n3 : tv ≠ t3) (n4 : t1 ≠ t2) (n5 : t1 ≠ t3) (n6 : t2 ≠ t3) : Met l yX1_beginExpression (wm_ws yX1_beginExpression cX1_beginExpression 1 none) { frames := 2, cells := 0, slots := 0, locals := 43 } (va_Pc [.ref (b + tv)] (wm_G D C b n E)) (va_Qv (pX1_beginExpression C b E tv t1 t2 t3 pf pl rf rl qf ql h pb rb qb) (fun E' t => wm_P D b n E' t.heap) (wm_A b)) 0 0 (wm_A b) := by
  refine wm_ofW (by decide) (Nat.le_of_ble_eq_true rfl) (fun p e s m below meth c ls R args Q hRe hQ X hr hnm hP hS hl => ?_)
  have hl : lv_has ls 1 [(0, .ref (b + tv))] := hl
  have hfr : ∀ j, j ≠ tv → j ≠ t1 → j ≠ t2 → j ≠ t3 → E j = E j := fun _ _ _ _ _ => rfl
  refine lv_aload_n X.1 X.2.1 dX1_beginExpression_0 rfl (lv_at hl 0 rfl) ?_
  refine wm_get X hP hlt0 hE0 rfl wm_inX1 0 (by decide) wq1_98 rfl dX1_beginExpression_1 ?_
  refine lv_iconst (v := nI 0) X.1 X.2.1 dX1_beginExpression_4 (by decide) ?_
  refine lv_iconst (v := nI 0) X.1 X.2.1 dX1_beginExpression_5 (by decide) ?_
  refine lv_iconst (v := nI 0) X.1 X.2.1 dX1_beginExpression_6 (by decide) ?_
  refine wm_callVv (k := 3) (As := [.int (nI false.toNat), .int (nI 0), .int (nI 0)]) (rest := []) X hP hS hlt1 hE1 rfl (kX3_put l D C b n E t1 pf pl 0 0 pb false hlt1 hE1) wq2_120 wq2_121 wq2_122 wq1_5 wq2_123 (by decide) (by rw [hRe]; exact ⟨Nat.le_of_ble_eq_true rfl, Nat.le_of_ble_eq_true rfl⟩) rfl hl.1 rfl (Nat.le_of_ble_eq_true rfl) (Nat.zero_le _) (Nat.zero_le _) dX1_beginExpression_7 (fun E1 H locs hw hP hS => ?_)
  obtain ⟨hE1, hq⟩ := hw
  have hE0 := (hq tv (by omega)).trans hE0
  have hE2 := (hq t2 (by omega)).trans hE2
  have hE3 := (hq t3 (by omega)).trans hE3
  have hfr : ∀ j, j ≠ tv → j ≠ t1 → j ≠ t2 → j ≠ t3 → E1 j = E j := fun j h0 h1 h2 h3 => (hq j h1).trans (hfr j h0 h1 h2 h3)
  refine lv_aload_n X.1 X.2.1 dX1_beginExpression_10 rfl (lv_at hl 0 rfl) ?_
  refine wm_callVv (k := 0) (As := []) (rest := []) X hP hS hlt0 hE0 rfl (kX1_beginPart l D C b n E1 tv t1 t2 t3 0 0 rf rl qf ql h false rb qb hlt0 hE0 hlt1 hE1 hlt2 hE2 hlt3 hE3 (by omega) (by omega) (by omega) (by omega) (by omega) (by omega)) wq2_124 wq2_125 wq2_126 wq1_4 wq2_127 (by decide) (by rw [hRe]; exact ⟨Nat.le_of_ble_eq_true rfl, Nat.le_of_ble_eq_true rfl⟩) rfl hl.1 rfl (Nat.le_of_ble_eq_true rfl) (Nat.zero_le _) (Nat.zero_le _) dX1_beginExpression_11 (fun E2 H locs hw hP hS => ?_)
  obtain ⟨hE0, hE2, hE3, hq⟩ := hw
  have hE1 := (hq t1 (by omega) (by omega) (by omega)).trans hE1
  have hfr : ∀ j, j ≠ tv → j ≠ t1 → j ≠ t2 → j ≠ t3 → E2 j = E j := fun j h0 h1 h2 h3 => (hq j h0 h2 h3).trans (hfr j h0 h1 h2 h3)
  exact wm_vret (post := pX1_beginExpression C b E tv t1 t2 t3 pf pl rf rl qf ql h pb rb qb) X hr hP hS ⟨hE0, hE1, hE2, hE3, hfr⟩ hQ dX1_beginExpression_14
def pX0_link (C : Nat → ClassId) (b : Nat) (E : Nat → va_E) (fk fp op cn md rs la fi : Nat) (nt : Bool) (fl : Nat → Nat) : (Nat → va_E) → Prop := fun E' => E' 7 = wm_I C 24 (wm_lk fl cn la fi) ∧ (∀ j, j ≠ 7 → E' j = E j)
set_option maxHeartbeats 4000000 in
set_option maxRecDepth 100000 in
theorem kX0_link (l : Launch) (D : va_G) (C : Nat → ClassId) (b n : Nat) (E : Nat → va_E) (fk fp op cn md rs la fi : Nat) (nt : Bool) (fl : Nat → Nat) (hlt0 : 5 < n) (hE0 : E 5 = .inr (0, [.int (nI fk), .int (nI fp), .ref (b + 6), .ref (b + 7), .ref (b + 8), .int (nI op), .int (nI cn), .int (nI md), .int (nI nt.toNat), .int (nI rs)])) (hlt1 : 7 < n) (hE1 : E 7 = wm_I C 24 fl) (hcn : cn ≤ 24) (hcp : 1 ≤ cn) (hla : la < 2 ^ 32) : Met l yX0_link (wm_ws yX0_link cX0_link 4 none) { frames := 0, cells := 0, slots := 0, locals := 0 } (va_Pc [.ref (b + 5), .int (nI la), .int (nI fi)] (wm_G D C b n E)) (va_Qv (pX0_link C b E fk fp op cn md rs la fi nt fl) (fun E' t => wm_P D b n E' t.heap) (wm_A b)) 0 0 (wm_A b) := by
  refine wm_ofW (by decide) (Nat.le_of_ble_eq_true rfl) (fun p e s m below meth c ls R args Q hRe hQ X hr hnm hP hS hl => ?_)
  have hl : lv_has ls 4 [(0, .ref (b + 5)), (1, .int (nI la)), (2, .int (nI fi))] := hl
  have hfr : ∀ j, j ≠ 7 → E j = E j := fun _ _ => rfl
  refine lv_iconst (v := nI 1) X.1 X.2.1 dX0_link_0 (by decide) ?_
  refine lv_istore_n (lv' := [(3, .int (nI 1)), (0, .ref (b + 5)), (1, .int (nI la)), (2, .int (nI fi))]) X.1 X.2.1 dX0_link_1 rfl hl (by decide) rfl (fun ls hl => ?_)
  have L2 : ∀ (fu : Nat) (i : Nat) (f1 : Nat → Nat), 24 - i < fu → (1 ≤ i) → (i ≤ cn) → (f1 = wm_lk fl i la fi) → ∀ (E1 : Nat → va_E) (H : Heap) (locs : List Loc) (ls : Array Slot), wm_P D b n E1 H → wm_S b s.heap H locs → E1 5 = .inr (0, [.int (nI fk), .int (nI fp), .ref (b + 6), .ref (b + 7), .ref (b + 8), .int (nI op), .int (nI cn), .int (nI md), .int (nI nt.toNat), .int (nI rs)]) → E1 7 = wm_I C 24 f1 → (∀ j, j ≠ 7 → E1 j = E j) → lv_has ls 4 [(0, .ref (b + 5)), (1, .int (nI la)), (2, .int (nI fi)), (3, .int (nI i))] → W p l e R s m args below meth c H locs 0 0 Q (F0 m 2 ls []) := by
    intro fu
    induction fu with
    | zero => intro i f1 hm; exact absurd hm (Nat.not_lt_zero _)
    | succ fu ih2 =>
      intro i f1 hm hi hic hf1 E1 H locs ls hP hS hE0 hE1 hfr hl
      refine lv_iload_n X.1 X.2.1 dX0_link_2 rfl (lv_at hl 3 rfl) ?_
      refine lv_aload_n X.1 X.2.1 dX0_link_3 rfl (lv_at hl 0 rfl) ?_
      refine wm_get X hP hlt0 hE0 rfl wm_inX0 6 (by decide) wq1_123 rfl dX0_link_4 ?_
      refine wm_icmp_ge (x := i) (y := cn) (tgt := 34) X (by omega) (by omega) dX0_link_7 (by decide) (fun hc7 => ?_) (fun hc7 => ?_)
      · exact wm_vret (post := pX0_link C b E fk fp op cn md rs la fi nt fl) X hr hP hS ⟨(by rw [wm_lke hf1 hc7 hic]; exact hE1), hfr⟩ hQ dX0_link_34
      · refine lv_iload_n X.1 X.2.1 dX0_link_10 rfl (lv_at hl 1 rfl) ?_
        refine lv_iload_n X.1 X.2.1 dX0_link_11 rfl (lv_at hl 3 rfl) ?_
        refine wm_iushr (x := la) (y := i) X (by omega) (by omega) dX0_link_12 ?_
        refine lv_iconst (v := nI 1) X.1 X.2.1 dX0_link_13 (by decide) ?_
        refine wm_iand (x := (la >>> i)) (y := 1) X dX0_link_14 ?_
        refine wm_if_eq (x := ((la >>> i) &&& 1)) (tgt := 28) X (Nat.lt_trans (wm_and1_lt _) (by decide)) dX0_link_15 (by decide) (fun hc15 => ?_) (fun hc15 => ?_)
        · refine lv_iinc (v := nI (i + 1)) (lv' := [(3, .int (nI (i + 1))), (0, .ref (b + 5)), (1, .int (nI la)), (2, .int (nI fi))]) X.1 X.2.1 dX0_link_28 hl (k := 3) rfl (wm_inc i) (by decide) rfl (fun ls hl => ?_)
          refine lv_goto (tgt := 2) X.1 X.2.1 dX0_link_31 (by decide) ?_
          exact ih2 (i + 1) f1 (by omega) (by omega) (by omega) (wm_lk2 hf1 (wm_tbf hc15)) E1 _ _ _ hP hS hE0 hE1 hfr (lv_sub hl [1, 2, 3, 0] rfl)
        · refine lv_aload_n X.1 X.2.1 dX0_link_18 rfl (lv_at hl 0 rfl) ?_
          refine wm_get X hP hlt0 hE0 rfl wm_inX0 3 (by decide) wq1_120 rfl dX0_link_19 ?_
          refine lv_iload_n X.1 X.2.1 dX0_link_22 rfl (lv_at hl 3 rfl) ?_
          refine lv_dup2_11 X.1 X.2.1 dX0_link_23 rfl rfl ?_
          refine wm_iald (i := i) X hP hlt1 hE1 (by omega) (by decide) dX0_link_24 ?_
          refine lv_iload_n X.1 X.2.1 dX0_link_25 rfl (lv_at hl 2 rfl) ?_
          refine wm_ior (x := (f1 i)) (y := fi) X dX0_link_26 ?_
          refine wm_iast (i := i) (x := ((f1 i) ||| fi)) X hP hS hlt1 hE1 (by omega) (by decide) dX0_link_27 (fun H locs E4 hP hS hE1 hq => ?_)
          have hE0 := (hq 5 (by decide)).trans hE0
          have hfr : ∀ j, j ≠ 7 → E4 j = E j := fun j h0 => (hq j h0).trans (hfr j h0)
          refine lv_iinc (v := nI (i + 1)) (lv' := [(3, .int (nI (i + 1))), (0, .ref (b + 5)), (1, .int (nI la)), (2, .int (nI fi))]) X.1 X.2.1 dX0_link_28 hl (k := 3) rfl (wm_inc i) (by decide) rfl (fun ls hl => ?_)
          refine lv_goto (tgt := 2) X.1 X.2.1 dX0_link_31 (by decide) ?_
          exact ih2 (i + 1) (va_up f1 i ((f1 i) ||| fi)) (by omega) (by omega) (by omega) (wm_lk1 hf1 hi (wm_tb hc15)) E4 _ _ _ hP hS hE0 hE1 hfr (lv_sub hl [1, 2, 3, 0] rfl)
  exact L2 (24 - 1 + 1) 1 fl (Nat.lt_succ_self _) (by omega) (by omega) (wm_lk0 fl la fi) E _ _ _ hP hS hE0 hE1 hfr (lv_sub hl [1, 2, 3, 0] rfl)
def pX0_joinThing (C : Nat → ClassId) (b : Nat) (E : Nat → va_E) (fk fp op cn md rs tv t1 t2 t3 pf pl rf rl qf ql : Nat) (nt h pb rb qb : Bool) (fl : Nat → Nat) : (Nat → va_E) → Prop := fun E' => E' 7 = wm_I C 24 (wm_lk fl cn rl qf) ∧ E' t2 = .inr (3, [.int (nI (rb && qb).toNat), .int (nI (rf ||| (if rb then qf else 0))), .int (nI (ql ||| (if qb then rl else 0)))]) ∧ (∀ j, j ≠ 7 → j ≠ t2 → E' j = E j)
set_option maxHeartbeats 4000000 in
set_option maxRecDepth 100000 in
theorem kX0_joinThing (l : Launch) (D : va_G) (C : Nat → ClassId) (b n : Nat) (E : Nat → va_E) (fk fp op cn md rs tv t1 t2 t3 pf pl rf rl qf ql : Nat) (nt h pb rb qb : Bool) (fl : Nat → Nat) (hlt0 : 5 < n) (hE0 : E 5 = .inr (0, [.int (nI fk), .int (nI fp), .ref (b + 6), .ref (b + 7), .ref (b + 8), .int (nI op), .int (nI cn), .int (nI md), .int (nI nt.toNat), .int (nI rs)])) (hlt1 : 7 < n) (hE1 : E 7 = wm_I C 24 fl) (hlt2 : tv < n) (hE2 : E tv = .inr (1, [.ref (b + t1), .ref (b + t2), .ref (b + t3), .int (nI h.toNat)])) (hlt3 : t1 < n) (hE3 : E t1 = .inr (3, [.int (nI pb.toNat), .int (nI pf), .int (nI pl)])) (hlt4 : t2 < n) (hE4 : E t2 = .inr (3, [.int (nI rb.toNat), .int (nI rf), .int (nI rl)])) (hlt5 : t3 < n) (hE5 : E t3 = .inr (3, [.int (nI qb.toNat), .int (nI qf), .int (nI ql)])) (n1 : tv ≠ t1) (n2 : tv ≠ t2) (n3 : tv ≠ t3) (n4 : t1 ≠ t2) (n5 : t1 ≠ t3) (n6 : t2 ≠ t3) (v1 : 9 ≤ tv ∧ 9 ≤ t1 ∧ 9 ≤ t2 ∧ 9 ≤ t3) (hcn : cn ≤ 24) (hcp : 1 ≤ cn) (hrl : rl < 2 ^ 32) : Met l yX0_joinThing (wm_ws yX0_joinThing cX0_joinThing 2 none) { frames := 1, cells := 0, slots := 0, locals := 23 } (va_Pc [.ref (b + 5), .ref (b + tv)] (wm_G D C b n E)) (va_Qv (pX0_joinThing C b E fk fp op cn md rs tv t1 t2 t3 pf pl rf rl qf ql nt h pb rb qb fl) (fun E' t => wm_P D b n E' t.heap) (wm_A b)) 0 0 (wm_A b) := by
  refine wm_ofW (by decide) (Nat.le_of_ble_eq_true rfl) (fun p e s m below meth c ls R args Q hRe hQ X hr hnm hP hS hl => ?_)
  have hl : lv_has ls 2 [(0, .ref (b + 5)), (1, .ref (b + tv))] := hl
  have hfr : ∀ j, j ≠ 7 → j ≠ t2 → E j = E j := fun _ _ _ => rfl
  refine lv_aload_n X.1 X.2.1 dX0_joinThing_0 rfl (lv_at hl 0 rfl) ?_
  refine lv_aload_n X.1 X.2.1 dX0_joinThing_1 rfl (lv_at hl 1 rfl) ?_
  refine wm_get X hP hlt2 hE2 rfl wm_inX1 1 (by decide) wq1_101 rfl dX0_joinThing_2 ?_
  refine wm_get X hP hlt4 hE4 rfl wm_inX3 2 (by decide) wq1_89 rfl dX0_joinThing_5 ?_
  refine lv_aload_n X.1 X.2.1 dX0_joinThing_8 rfl (lv_at hl 1 rfl) ?_
  refine wm_get X hP hlt2 hE2 rfl wm_inX1 2 (by decide) wq1_103 rfl dX0_joinThing_9 ?_
  refine wm_get X hP hlt5 hE5 rfl wm_inX3 1 (by decide) wq1_87 rfl dX0_joinThing_12 ?_
  refine wm_callVv (k := 2) (As := [.int (nI rl), .int (nI qf)]) (rest := []) X hP hS hlt0 hE0 rfl (kX0_link l D C b n E fk fp op cn md rs rl qf nt fl hlt0 hE0 hlt1 hE1 (by omega) (by omega) (by omega)) wq2_147 wq2_149 wqP1_7 wq1_3 wq2_150 (by decide) (by rw [hRe]; exact ⟨Nat.le_of_ble_eq_true rfl, Nat.le_of_ble_eq_true rfl⟩) rfl hl.1 rfl (Nat.le_of_ble_eq_true rfl) (Nat.zero_le _) (Nat.zero_le _) dX0_joinThing_15 (fun E1 H locs hw hP hS => ?_)
  obtain ⟨hE1, hq⟩ := hw
  have hE0 := (hq 5 (by decide)).trans hE0
  have hE2 := (hq tv (by omega)).trans hE2
  have hE3 := (hq t1 (by omega)).trans hE3
  have hE4 := (hq t2 (by omega)).trans hE4
  have hE5 := (hq t3 (by omega)).trans hE5
  have hfr : ∀ j, j ≠ 7 → j ≠ t2 → E1 j = E j := fun j h0 h1 => (hq j h0).trans (hfr j h0 h1)
  refine lv_aload_n X.1 X.2.1 dX0_joinThing_18 rfl (lv_at hl 1 rfl) ?_
  refine wm_get X hP hlt2 hE2 rfl wm_inX1 1 (by decide) wq1_101 rfl dX0_joinThing_19 ?_
  refine lv_aload_n X.1 X.2.1 dX0_joinThing_22 rfl (lv_at hl 1 rfl) ?_
  refine wm_get X hP hlt2 hE2 rfl wm_inX1 2 (by decide) wq1_103 rfl dX0_joinThing_23 ?_
  refine wm_callVv (k := 1) (As := [.ref (b + t3)]) (rest := []) X hP hS hlt4 hE4 rfl (kX3_append l D C b n E1 t2 t3 rf rl qf ql rb qb hlt4 hE4 hlt5 hE5 (by omega)) wq2_151 wq2_152 wq2_153 wq1_5 wq2_154 (by decide) (by rw [hRe]; exact ⟨Nat.le_of_ble_eq_true rfl, Nat.le_of_ble_eq_true rfl⟩) rfl hl.1 rfl (Nat.le_of_ble_eq_true rfl) (Nat.zero_le _) (Nat.zero_le _) dX0_joinThing_26 (fun E2 H locs hw hP hS => ?_)
  obtain ⟨hE4, hq⟩ := hw
  have hE0 := (hq 5 (by omega)).trans hE0
  have hE1 := (hq 7 (by omega)).trans hE1
  have hE2 := (hq tv (by omega)).trans hE2
  have hE3 := (hq t1 (by omega)).trans hE3
  have hE5 := (hq t3 (by omega)).trans hE5
  have hfr : ∀ j, j ≠ 7 → j ≠ t2 → E2 j = E j := fun j h0 h1 => (hq j h1).trans (hfr j h0 h1)
  exact wm_vret (post := pX0_joinThing C b E fk fp op cn md rs tv t1 t2 t3 pf pl rf rl qf ql nt h pb rb qb fl) X hr hP hS ⟨hE1, hE4, hfr⟩ hQ dX0_joinThing_29
def pX0_addThing (C : Nat → ClassId) (b : Nat) (E : Nat → va_E) (fk fp op cn md rs tv t1 t2 t3 pf pl rf rl qf ql f2 l2 : Nat) (nt h pb rb qb b2 : Bool) (fl : Nat → Nat) : (Nat → va_E) → Prop := fun E' => E' 7 = wm_I C 24 (wm_lk fl cn rl qf) ∧ E' tv = .inr (1, [.ref (b + t1), .ref (b + t2), .ref (b + t3), .int (nI true.toNat)]) ∧ E' t2 = .inr (3, [.int (nI (rb && qb).toNat), .int (nI (rf ||| (if rb then qf else 0))), .int (nI (ql ||| (if qb then rl else 0)))]) ∧ E' t3 = .inr (3, [.int (nI b2.toNat), .int (nI f2), .int (nI l2)]) ∧ (∀ j, j ≠ 7 → j ≠ tv → j ≠ t2 → j ≠ t3 → E' j = E j)
set_option maxHeartbeats 4000000 in
set_option maxRecDepth 100000 in
theorem kX0_addThing (l : Launch) (D : va_G) (C : Nat → ClassId) (b n : Nat) (E : Nat → va_E) (fk fp op cn md rs tv t1 t2 t3 pf pl rf rl qf ql f2 l2 : Nat) (nt h pb rb qb b2 : Bool) (fl : Nat → Nat) (hlt0 : 5 < n) (hE0 : E 5 = .inr (0, [.int (nI fk), .int (nI fp), .ref (b + 6), .ref (b + 7), .ref (b + 8), .int (nI op), .int (nI cn), .int (nI md), .int (nI nt.toNat), .int (nI rs)])) (hlt1 : 7 < n) (hE1 : E 7 = wm_I C 24 fl) (hlt2 : tv < n) (hE2 : E tv = .inr (1, [.ref (b + t1), .ref (b + t2), .ref (b + t3), .int (nI h.toNat)])) (hlt3 : t1 < n) (hE3 : E t1 = .inr (3, [.int (nI pb.toNat), .int (nI pf), .int (nI pl)])) (hlt4 : t2 < n) (hE4 : E t2 = .inr (3, [.int (nI rb.toNat), .int (nI rf), .int (nI rl)])) (hlt5 : t3 < n) (hE5 : E t3 = .inr (3, [.int (nI qb.toNat), .int (nI qf), .int (nI ql)])) (n1 : tv ≠ t1) (n2 : tv ≠ t2) (n3 : tv ≠ t3) (n4 : t1 ≠ t2) (n5 : t1 ≠ t3) (n6 : t2 ≠ t3) (v1 : 9 ≤ tv ∧ 9 ≤ t1 ∧ 9 ≤ t2 ∧ 9 ≤ t3) (hcn : cn ≤ 24) (hcp : 1 ≤ cn) (hrl : rl < 2 ^ 32) : Met l yX0_addThing (wm_ws yX0_addThing cX0_addThing 5 none) { frames := 2, cells := 0, slots := 0, locals := 44 } (va_Pc [.ref (b + 5), .ref (b + tv), .int (nI b2.toNat), .int (nI f2), .int (nI l2)] (wm_G D C b n E)) (va_Qv (pX0_addThing C b E fk fp op cn md rs tv t1 t2 t3 pf pl rf rl qf ql f2 l2 nt h pb rb qb b2 fl) (fun E' t => wm_P D b n E' t.heap) (wm_A b)) 0 0 (wm_A b) := by
  refine wm_ofW (by decide) (Nat.le_of_ble_eq_true rfl) (fun p e s m below meth c ls R args Q hRe hQ X hr hnm hP hS hl => ?_)
  have hl : lv_has ls 5 [(0, .ref (b + 5)), (1, .ref (b + tv)), (2, .int (nI b2.toNat)), (3, .int (nI f2)), (4, .int (nI l2))] := hl
  have hfr : ∀ j, j ≠ 7 → j ≠ tv → j ≠ t2 → j ≠ t3 → E j = E j := fun _ _ _ _ _ => rfl
  refine lv_aload_n X.1 X.2.1 dX0_addThing_0 rfl (lv_at hl 0 rfl) ?_
  refine lv_aload_n X.1 X.2.1 dX0_addThing_1 rfl (lv_at hl 1 rfl) ?_
  refine wm_callVv (k := 1) (As := [.ref (b + tv)]) (rest := []) X hP hS hlt0 hE0 rfl (kX0_joinThing l D C b n E fk fp op cn md rs tv t1 t2 t3 pf pl rf rl qf ql nt h pb rb qb fl hlt0 hE0 hlt1 hE1 hlt2 hE2 hlt3 hE3 hlt4 hE4 hlt5 hE5 (by omega) (by omega) (by omega) (by omega) (by omega) (by omega) (by omega) (by omega) (by omega) (by omega)) wq2_143 wq2_145 wqP1_6 wq1_3 wq2_146 (by decide) (by rw [hRe]; exact ⟨Nat.le_of_ble_eq_true rfl, Nat.le_of_ble_eq_true rfl⟩) rfl hl.1 rfl (Nat.le_of_ble_eq_true rfl) (Nat.zero_le _) (Nat.zero_le _) dX0_addThing_2 (fun E1 H locs hw hP hS => ?_)
  obtain ⟨hE1, hE4, hq⟩ := hw
  have hE0 := (hq 5 (by decide) (by omega)).trans hE0
  have hE2 := (hq tv (by omega) (by omega)).trans hE2
  have hE3 := (hq t1 (by omega) (by omega)).trans hE3
  have hE5 := (hq t3 (by omega) (by omega)).trans hE5
  have hfr : ∀ j, j ≠ 7 → j ≠ tv → j ≠ t2 → j ≠ t3 → E1 j = E j := fun j h0 h1 h2 h3 => (hq j h0 h2).trans (hfr j h0 h1 h2 h3)
  refine lv_aload_n X.1 X.2.1 dX0_addThing_5 rfl (lv_at hl 1 rfl) ?_
  refine wm_get X hP hlt2 hE2 rfl wm_inX1 2 (by decide) wq1_103 rfl dX0_addThing_6 ?_
  refine lv_iload_n X.1 X.2.1 dX0_addThing_9 rfl (lv_at hl 2 rfl) ?_
  refine lv_iload_n X.1 X.2.1 dX0_addThing_10 rfl (lv_at hl 3 rfl) ?_
  refine lv_iload X.1 X.2.1 dX0_addThing_11 (lv_at hl 4 rfl) ?_
  refine wm_callVv (k := 3) (As := [.int (nI b2.toNat), .int (nI f2), .int (nI l2)]) (rest := []) X hP hS hlt5 hE5 rfl (kX3_put l D C b n E1 t3 qf ql f2 l2 qb b2 hlt5 hE5) wq2_155 wq2_121 wq2_122 wq1_5 wq2_123 (by decide) (by rw [hRe]; exact ⟨Nat.le_of_ble_eq_true rfl, Nat.le_of_ble_eq_true rfl⟩) rfl hl.1 rfl (Nat.le_of_ble_eq_true rfl) (Nat.zero_le _) (Nat.zero_le _) dX0_addThing_13 (fun E2 H locs hw hP hS => ?_)
  obtain ⟨hE5, hq⟩ := hw
  have hE0 := (hq 5 (by omega)).trans hE0
  have hE1 := (hq 7 (by omega)).trans hE1
  have hE2 := (hq tv (by omega)).trans hE2
  have hE3 := (hq t1 (by omega)).trans hE3
  have hE4 := (hq t2 (by omega)).trans hE4
  have hfr : ∀ j, j ≠ 7 → j ≠ tv → j ≠ t2 → j ≠ t3 → E2 j = E j := fun j h0 h1 h2 h3 => (hq j h3).trans (hfr j h0 h1 h2 h3)
  refine lv_aload_n X.1 X.2.1 dX0_addThing_16 rfl (lv_at hl 1 rfl) ?_
  refine lv_iconst (v := nI 1) X.1 X.2.1 dX0_addThing_17 (by decide) ?_
  refine wm_put (v := .int (nI true.toNat)) X hP hS hlt2 hE2 rfl wm_inX1 tyX1 tyX1_ok nmX1 3 (by decide) wq1_105 rfl (wm_nz true) (wm_fz true) (fs1 := [.ref (b + t1), .ref (b + t2), .ref (b + t3), .int (nI true.toNat)]) rfl (Nat.le_of_ble_eq_true rfl) dX0_addThing_18 (fun H locs E3 hP hS hE2 hq => ?_)
  have hE0 := (hq 5 (by omega)).trans hE0
  have hE1 := (hq 7 (by omega)).trans hE1
  have hE3 := (hq t1 (by omega)).trans hE3
  have hE4 := (hq t2 (by omega)).trans hE4
  have hE5 := (hq t3 (by omega)).trans hE5
  have hfr : ∀ j, j ≠ 7 → j ≠ tv → j ≠ t2 → j ≠ t3 → E3 j = E j := fun j h0 h1 h2 h3 => (hq j h1).trans (hfr j h0 h1 h2 h3)
  exact wm_vret (post := pX0_addThing C b E fk fp op cn md rs tv t1 t2 t3 pf pl rf rl qf ql f2 l2 nt h pb rb qb b2 fl) X hr hP hS ⟨hE1, hE2, hE4, hE5, hfr⟩ hQ dX0_addThing_21
def pX0_endPart (C : Nat → ClassId) (b : Nat) (E : Nat → va_E) (fk fp op cn md rs tv t1 t2 t3 pf pl rf rl qf ql : Nat) (nt h pb rb qb : Bool) (fl : Nat → Nat) : (Nat → va_E) → Prop := fun E' => E' 7 = wm_I C 24 (wm_lk fl cn rl qf) ∧ E' tv = .inr (1, [.ref (b + t1), .ref (b + t2), .ref (b + t3), .int (nI false.toNat)]) ∧ E' t1 = .inr (3, [.int (nI (pb || (rb && qb)).toNat), .int (nI (pf ||| (rf ||| (if rb then qf else 0)))), .int (nI (pl ||| (ql ||| (if qb then rl else 0))))]) ∧ E' t2 = .inr (3, [.int (nI true.toNat), .int (nI 0), .int (nI 0)]) ∧ E' t3 = .inr (3, [.int (nI true.toNat), .int (nI 0), .int (nI 0)]) ∧ (∀ j, j ≠ 7 → j ≠ tv → j ≠ t1 → j ≠ t2 → j ≠ t3 → E' j = E j)
set_option maxHeartbeats 4000000 in
set_option maxRecDepth 100000 in
theorem kX0_endPart (l : Launch) (D : va_G) (C : Nat → ClassId) (b n : Nat) (E : Nat → va_E) (fk fp op cn md rs tv t1 t2 t3 pf pl rf rl qf ql : Nat) (nt h pb rb qb : Bool) (fl : Nat → Nat) (hlt0 : 5 < n) (hE0 : E 5 = .inr (0, [.int (nI fk), .int (nI fp), .ref (b + 6), .ref (b + 7), .ref (b + 8), .int (nI op), .int (nI cn), .int (nI md), .int (nI nt.toNat), .int (nI rs)])) (hlt1 : 7 < n) (hE1 : E 7 = wm_I C 24 fl) (hlt2 : tv < n) (hE2 : E tv = .inr (1, [.ref (b + t1), .ref (b + t2), .ref (b + t3), .int (nI h.toNat)])) (hlt3 : t1 < n) (hE3 : E t1 = .inr (3, [.int (nI pb.toNat), .int (nI pf), .int (nI pl)])) (hlt4 : t2 < n) (hE4 : E t2 = .inr (3, [.int (nI rb.toNat), .int (nI rf), .int (nI rl)])) (hlt5 : t3 < n) (hE5 : E t3 = .inr (3, [.int (nI qb.toNat), .int (nI qf), .int (nI ql)])) (n1 : tv ≠ t1) (n2 : tv ≠ t2) (n3 : tv ≠ t3) (n4 : t1 ≠ t2) (n5 : t1 ≠ t3) (n6 : t2 ≠ t3) (v1 : 9 ≤ tv ∧ 9 ≤ t1 ∧ 9 ≤ t2 ∧ 9 ≤ t3) (hcn : cn ≤ 24) (hcp : 1 ≤ cn) (hrl : rl < 2 ^ 32) : Met l yX0_endPart (wm_ws yX0_endPart cX0_endPart 2 none) { frames := 2, cells := 0, slots := 0, locals := 44 } (va_Pc [.ref (b + 5), .ref (b + tv)] (wm_G D C b n E)) (va_Qv (pX0_endPart C b E fk fp op cn md rs tv t1 t2 t3 pf pl rf rl qf ql nt h pb rb qb fl) (fun E' t => wm_P D b n E' t.heap) (wm_A b)) 0 0 (wm_A b) := by
  refine wm_ofW (by decide) (Nat.le_of_ble_eq_true rfl) (fun p e s m below meth c ls R args Q hRe hQ X hr hnm hP hS hl => ?_)
  have hl : lv_has ls 2 [(0, .ref (b + 5)), (1, .ref (b + tv))] := hl
  have hfr : ∀ j, j ≠ 7 → j ≠ tv → j ≠ t1 → j ≠ t2 → j ≠ t3 → E j = E j := fun _ _ _ _ _ _ => rfl
  refine lv_aload_n X.1 X.2.1 dX0_endPart_0 rfl (lv_at hl 0 rfl) ?_
  refine lv_aload_n X.1 X.2.1 dX0_endPart_1 rfl (lv_at hl 1 rfl) ?_
  refine wm_callVv (k := 1) (As := [.ref (b + tv)]) (rest := []) X hP hS hlt0 hE0 rfl (kX0_joinThing l D C b n E fk fp op cn md rs tv t1 t2 t3 pf pl rf rl qf ql nt h pb rb qb fl hlt0 hE0 hlt1 hE1 hlt2 hE2 hlt3 hE3 hlt4 hE4 hlt5 hE5 (by omega) (by omega) (by omega) (by omega) (by omega) (by omega) (by omega) (by omega) (by omega) (by omega)) wq2_143 wq2_145 wqP1_6 wq1_3 wq2_146 (by decide) (by rw [hRe]; exact ⟨Nat.le_of_ble_eq_true rfl, Nat.le_of_ble_eq_true rfl⟩) rfl hl.1 rfl (Nat.le_of_ble_eq_true rfl) (Nat.zero_le _) (Nat.zero_le _) dX0_endPart_2 (fun E1 H locs hw hP hS => ?_)
  obtain ⟨hE1, hE4, hq⟩ := hw
  have hE0 := (hq 5 (by decide) (by omega)).trans hE0
  have hE2 := (hq tv (by omega) (by omega)).trans hE2
  have hE3 := (hq t1 (by omega) (by omega)).trans hE3
  have hE5 := (hq t3 (by omega) (by omega)).trans hE5
  have hfr : ∀ j, j ≠ 7 → j ≠ tv → j ≠ t1 → j ≠ t2 → j ≠ t3 → E1 j = E j := fun j h0 h1 h2 h3 h4 => (hq j h0 h3).trans (hfr j h0 h1 h2 h3 h4)
  refine lv_aload_n X.1 X.2.1 dX0_endPart_5 rfl (lv_at hl 1 rfl) ?_
  refine wm_get X hP hlt2 hE2 rfl wm_inX1 0 (by decide) wq1_99 rfl dX0_endPart_6 ?_
  refine lv_aload_n X.1 X.2.1 dX0_endPart_9 rfl (lv_at hl 1 rfl) ?_
  refine wm_get X hP hlt2 hE2 rfl wm_inX1 1 (by decide) wq1_101 rfl dX0_endPart_10 ?_
  refine wm_callVv (k := 1) (As := [.ref (b + t2)]) (rest := []) X hP hS hlt3 hE3 rfl (kX3_addPart l D C b n E1 t1 t2 pf pl (rf ||| (if rb then qf else 0)) (ql ||| (if qb then rl else 0)) pb (rb && qb) hlt3 hE3 hlt4 hE4 (by omega)) wq2_168 wq2_169 wq2_170 wq1_5 wq2_171 (by decide) (by rw [hRe]; exact ⟨Nat.le_of_ble_eq_true rfl, Nat.le_of_ble_eq_true rfl⟩) rfl hl.1 rfl (Nat.le_of_ble_eq_true rfl) (Nat.zero_le _) (Nat.zero_le _) dX0_endPart_13 (fun E2 H locs hw hP hS => ?_)
  obtain ⟨hE3, hq⟩ := hw
  have hE0 := (hq 5 (by omega)).trans hE0
  have hE1 := (hq 7 (by omega)).trans hE1
  have hE2 := (hq tv (by omega)).trans hE2
  have hE4 := (hq t2 (by omega)).trans hE4
  have hE5 := (hq t3 (by omega)).trans hE5
  have hfr : ∀ j, j ≠ 7 → j ≠ tv → j ≠ t1 → j ≠ t2 → j ≠ t3 → E2 j = E j := fun j h0 h1 h2 h3 h4 => (hq j h2).trans (hfr j h0 h1 h2 h3 h4)
  refine lv_aload_n X.1 X.2.1 dX0_endPart_16 rfl (lv_at hl 1 rfl) ?_
  refine wm_callVv (k := 0) (As := []) (rest := []) X hP hS hlt2 hE2 rfl (kX1_beginPart l D C b n E2 tv t1 t2 t3 (pf ||| (rf ||| (if rb then qf else 0))) (pl ||| (ql ||| (if qb then rl else 0))) (rf ||| (if rb then qf else 0)) (ql ||| (if qb then rl else 0)) qf ql h (pb || (rb && qb)) (rb && qb) qb hlt2 hE2 hlt3 hE3 hlt4 hE4 hlt5 hE5 (by omega) (by omega) (by omega) (by omega) (by omega) (by omega)) wq2_173 wq2_125 wq2_126 wq1_4 wq2_127 (by decide) (by rw [hRe]; exact ⟨Nat.le_of_ble_eq_true rfl, Nat.le_of_ble_eq_true rfl⟩) rfl hl.1 rfl (Nat.le_of_ble_eq_true rfl) (Nat.zero_le _) (Nat.zero_le _) dX0_endPart_17 (fun E3 H locs hw hP hS => ?_)
  obtain ⟨hE2, hE4, hE5, hq⟩ := hw
  have hE0 := (hq 5 (by omega) (by omega) (by omega)).trans hE0
  have hE1 := (hq 7 (by omega) (by omega) (by omega)).trans hE1
  have hE3 := (hq t1 (by omega) (by omega) (by omega)).trans hE3
  have hfr : ∀ j, j ≠ 7 → j ≠ tv → j ≠ t1 → j ≠ t2 → j ≠ t3 → E3 j = E j := fun j h0 h1 h2 h3 h4 => (hq j h1 h3 h4).trans (hfr j h0 h1 h2 h3 h4)
  exact wm_vret (post := pX0_endPart C b E fk fp op cn md rs tv t1 t2 t3 pf pl rf rl qf ql nt h pb rb qb fl) X hr hP hS ⟨hE1, hE2, hE3, hE4, hE5, hfr⟩ hQ dX0_endPart_20
def pX0_repeat (C : Nat → ClassId) (b : Nat) (E : Nat → va_E) (fk fp op cn md rs tv t1 t2 t3 pf pl rf rl qf ql sg : Nat) (nt h pb rb qb : Bool) (fl : Nat → Nat) : Int32 → (Nat → va_E) → Prop := fun r E' => r = nI (if h then 0 else 1) ∧ E' 7 = wm_I C 24 (if h && !decide (sg = 63) then wm_lk fl cn ql qf else fl) ∧ E' t3 = .inr (3, [.int (nI (qb || (h && !decide (sg = 43))).toNat), .int (nI qf), .int (nI ql)]) ∧ (∀ j, j ≠ 7 → j ≠ t3 → E' j = E j)
set_option maxHeartbeats 4000000 in
set_option maxRecDepth 100000 in
theorem kX0_repeat (l : Launch) (D : va_G) (C : Nat → ClassId) (b n : Nat) (E : Nat → va_E) (fk fp op cn md rs tv t1 t2 t3 pf pl rf rl qf ql sg : Nat) (nt h pb rb qb : Bool) (fl : Nat → Nat) (hlt0 : 5 < n) (hE0 : E 5 = .inr (0, [.int (nI fk), .int (nI fp), .ref (b + 6), .ref (b + 7), .ref (b + 8), .int (nI op), .int (nI cn), .int (nI md), .int (nI nt.toNat), .int (nI rs)])) (hlt1 : 7 < n) (hE1 : E 7 = wm_I C 24 fl) (hlt2 : tv < n) (hE2 : E tv = .inr (1, [.ref (b + t1), .ref (b + t2), .ref (b + t3), .int (nI h.toNat)])) (hlt3 : t1 < n) (hE3 : E t1 = .inr (3, [.int (nI pb.toNat), .int (nI pf), .int (nI pl)])) (hlt4 : t2 < n) (hE4 : E t2 = .inr (3, [.int (nI rb.toNat), .int (nI rf), .int (nI rl)])) (hlt5 : t3 < n) (hE5 : E t3 = .inr (3, [.int (nI qb.toNat), .int (nI qf), .int (nI ql)])) (n1 : tv ≠ t1) (n2 : tv ≠ t2) (n3 : tv ≠ t3) (n4 : t1 ≠ t2) (n5 : t1 ≠ t3) (n6 : t2 ≠ t3) (v1 : 9 ≤ tv ∧ 9 ≤ t1 ∧ 9 ≤ t2 ∧ 9 ≤ t3) (hcn : cn ≤ 24) (hcp : 1 ≤ cn) (hql : ql < 2 ^ 32) (hsg : sg < 2 ^ 31) : Met l yX0_repeat (wm_ws yX0_repeat cX0_repeat 4 (some .int)) { frames := 1, cells := 0, slots := 0, locals := 23 } (va_Pc [.ref (b + 5), .ref (b + tv), .int (nI sg)] (wm_G D C b n E)) (va_Qi (pX0_repeat C b E fk fp op cn md rs tv t1 t2 t3 pf pl rf rl qf ql sg nt h pb rb qb fl) (fun E' t => wm_P D b n E' t.heap) (wm_A b)) 0 0 (wm_A b) := by
  refine wm_ofW (by decide) (Nat.le_of_ble_eq_true rfl) (fun p e s m below meth c ls R args Q hRe hQ X hr hnm hP hS hl => ?_)
  have hl : lv_has ls 4 [(0, .ref (b + 5)), (1, .ref (b + tv)), (2, .int (nI sg))] := hl
  have hfr : ∀ j, j ≠ 7 → j ≠ t3 → E j = E j := fun _ _ _ => rfl
  refine lv_aload_n X.1 X.2.1 dX0_repeat_0 rfl (lv_at hl 1 rfl) ?_
  refine wm_get X hP hlt2 hE2 rfl wm_inX1 3 (by decide) wq1_105 rfl dX0_repeat_1 ?_
  refine wm_ifz_ne (x := h) (tgt := 9) X dX0_repeat_4 (by decide) (fun hc4 => ?_) (fun hc4 => ?_)
  · refine lv_aload_n X.1 X.2.1 dX0_repeat_9 rfl (lv_at hl 1 rfl) ?_
    refine wm_get X hP hlt2 hE2 rfl wm_inX1 2 (by decide) wq1_103 rfl dX0_repeat_10 ?_
    refine lv_astore_n (lv' := [(3, .ref (b + t3)), (0, .ref (b + 5)), (1, .ref (b + tv)), (2, .int (nI sg))]) X.1 X.2.1 dX0_repeat_13 rfl hl (by decide) rfl (fun ls hl => ?_)
    refine lv_iload_n X.1 X.2.1 dX0_repeat_14 rfl (lv_at hl 3 rfl) ?_
    refine lv_bipush (v := nI 63) X.1 X.2.1 dX0_repeat_15 (by decide) ?_
    refine wm_icmp_eq (x := sg) (y := 63) (tgt := 32) X (by omega) (by decide) dX0_repeat_17 (by decide) (fun hc17 => ?_) (fun hc17 => ?_)
    · refine lv_iload_n X.1 X.2.1 dX0_repeat_32 rfl (lv_at hl 3 rfl) ?_
      refine lv_bipush (v := nI 43) X.1 X.2.1 dX0_repeat_33 (by decide) ?_
      refine wm_icmp_eq (x := sg) (y := 43) (tgt := 43) X (by omega) (by decide) dX0_repeat_35 (by decide) (fun hc35 => ?_) (fun hc35 => ?_)
      · refine lv_iconst (v := nI 0) X.1 X.2.1 dX0_repeat_43 (by decide) ?_
        have q63 := decide_eq_true hc17
        have q43 := decide_eq_true hc35
        exact wm_iret (post := pX0_repeat C b E fk fp op cn md rs tv t1 t2 t3 pf pl rf rl qf ql sg nt h pb rb qb fl) X hr hP hS ⟨(by rw [hc4]; rfl), (by rw [hc4, q63]; exact hE1), (by rw [hc4, q43]; simpa using hE5), hfr⟩ hQ dX0_repeat_44
      · refine lv_aload_n X.1 X.2.1 dX0_repeat_38 rfl (lv_at hl 0 rfl) ?_
        refine lv_iconst (v := nI 1) X.1 X.2.1 dX0_repeat_39 (by decide) ?_
        refine wm_put (v := .int (nI true.toNat)) X hP hS hlt5 hE5 rfl wm_inX3 tyX3 tyX3_ok nmX3 0 (by decide) wq1_85 rfl (wm_nz true) (wm_fz true) (fs1 := [.int (nI true.toNat), .int (nI qf), .int (nI ql)]) rfl (Nat.le_of_ble_eq_true rfl) dX0_repeat_40 (fun H locs E4 hP hS hE5 hq => ?_)
        have hE0 := (hq 5 (by omega)).trans hE0
        have hE1 := (hq 7 (by omega)).trans hE1
        have hE2 := (hq tv (by omega)).trans hE2
        have hE3 := (hq t1 (by omega)).trans hE3
        have hE4 := (hq t2 (by omega)).trans hE4
        have hfr : ∀ j, j ≠ 7 → j ≠ t3 → E4 j = E j := fun j h0 h1 => (hq j h1).trans (hfr j h0 h1)
        refine lv_iconst (v := nI 0) X.1 X.2.1 dX0_repeat_43 (by decide) ?_
        have q63 := decide_eq_true hc17
        have q43 := decide_eq_false hc35
        exact wm_iret (post := pX0_repeat C b E fk fp op cn md rs tv t1 t2 t3 pf pl rf rl qf ql sg nt h pb rb qb fl) X hr hP hS ⟨(by rw [hc4]; rfl), (by rw [hc4, q63]; exact hE1), (by rw [hc4, q43]; simpa using hE5), hfr⟩ hQ dX0_repeat_44
    · refine lv_aload_n X.1 X.2.1 dX0_repeat_20 rfl (lv_at hl 1 rfl) ?_
      refine lv_aload_n X.1 X.2.1 dX0_repeat_21 rfl (lv_at hl 0 rfl) ?_
      refine wm_get X hP hlt5 hE5 rfl wm_inX3 2 (by decide) wq1_89 rfl dX0_repeat_22 ?_
      refine lv_aload_n X.1 X.2.1 dX0_repeat_25 rfl (lv_at hl 0 rfl) ?_
      refine wm_get X hP hlt5 hE5 rfl wm_inX3 1 (by decide) wq1_87 rfl dX0_repeat_26 ?_
      refine wm_callVv (k := 2) (As := [.int (nI ql), .int (nI qf)]) (rest := []) X hP hS hlt0 hE0 rfl (kX0_link l D C b n E fk fp op cn md rs ql qf nt fl hlt0 hE0 hlt1 hE1 (by omega) (by omega) (by omega)) wq2_147 wq2_149 wqP1_7 wq1_3 wq2_150 (by decide) (by rw [hRe]; exact ⟨Nat.le_of_ble_eq_true rfl, Nat.le_of_ble_eq_true rfl⟩) rfl hl.1 rfl (Nat.le_of_ble_eq_true rfl) (Nat.zero_le _) (Nat.zero_le _) dX0_repeat_29 (fun E5 H locs hw hP hS => ?_)
      obtain ⟨hE1, hq⟩ := hw
      have hE0 := (hq 5 (by decide)).trans hE0
      have hE2 := (hq tv (by omega)).trans hE2
      have hE3 := (hq t1 (by omega)).trans hE3
      have hE4 := (hq t2 (by omega)).trans hE4
      have hE5 := (hq t3 (by omega)).trans hE5
      have hfr : ∀ j, j ≠ 7 → j ≠ t3 → E5 j = E j := fun j h0 h1 => (hq j h0).trans (hfr j h0 h1)
      refine lv_iload_n X.1 X.2.1 dX0_repeat_32 rfl (lv_at hl 3 rfl) ?_
      refine lv_bipush (v := nI 43) X.1 X.2.1 dX0_repeat_33 (by decide) ?_
      refine wm_icmp_eq (x := sg) (y := 43) (tgt := 43) X (by omega) (by decide) dX0_repeat_35 (by decide) (fun hc35 => ?_) (fun hc35 => ?_)
      · refine lv_iconst (v := nI 0) X.1 X.2.1 dX0_repeat_43 (by decide) ?_
        have q63 := decide_eq_false hc17
        have q43 := decide_eq_true hc35
        exact wm_iret (post := pX0_repeat C b E fk fp op cn md rs tv t1 t2 t3 pf pl rf rl qf ql sg nt h pb rb qb fl) X hr hP hS ⟨(by rw [hc4]; rfl), (by rw [hc4, q63]; exact hE1), (by rw [hc4, q43]; simpa using hE5), hfr⟩ hQ dX0_repeat_44
      · refine lv_aload_n X.1 X.2.1 dX0_repeat_38 rfl (lv_at hl 0 rfl) ?_
        refine lv_iconst (v := nI 1) X.1 X.2.1 dX0_repeat_39 (by decide) ?_
        refine wm_put (v := .int (nI true.toNat)) X hP hS hlt5 hE5 rfl wm_inX3 tyX3 tyX3_ok nmX3 0 (by decide) wq1_85 rfl (wm_nz true) (wm_fz true) (fs1 := [.int (nI true.toNat), .int (nI qf), .int (nI ql)]) rfl (Nat.le_of_ble_eq_true rfl) dX0_repeat_40 (fun H locs E7 hP hS hE5 hq => ?_)
        have hE0 := (hq 5 (by omega)).trans hE0
        have hE1 := (hq 7 (by omega)).trans hE1
        have hE2 := (hq tv (by omega)).trans hE2
        have hE3 := (hq t1 (by omega)).trans hE3
        have hE4 := (hq t2 (by omega)).trans hE4
        have hfr : ∀ j, j ≠ 7 → j ≠ t3 → E7 j = E j := fun j h0 h1 => (hq j h1).trans (hfr j h0 h1)
        refine lv_iconst (v := nI 0) X.1 X.2.1 dX0_repeat_43 (by decide) ?_
        have q63 := decide_eq_false hc17
        have q43 := decide_eq_false hc35
        exact wm_iret (post := pX0_repeat C b E fk fp op cn md rs tv t1 t2 t3 pf pl rf rl qf ql sg nt h pb rb qb fl) X hr hP hS ⟨(by rw [hc4]; rfl), (by rw [hc4, q63]; exact hE1), (by rw [hc4, q43]; simpa using hE5), hfr⟩ hQ dX0_repeat_44
  · refine lv_iconst (v := nI 1) X.1 X.2.1 dX0_repeat_7 (by decide) ?_
    exact wm_iret (post := pX0_repeat C b E fk fp op cn md rs tv t1 t2 t3 pf pl rf rl qf ql sg nt h pb rb qb fl) X hr hP hS ⟨(by rw [hc4]; rfl), (by rw [hc4]; exact hE1), (by rw [hc4]; simpa using hE5), hfr⟩ hQ dX0_repeat_8
def pX0_begin (C : Nat → ClassId) (b : Nat) (E : Nat → va_E) (fk fp op cn md rs pf pl rf rl qf ql : Nat) (nt h pb rb qb : Bool) : (Nat → va_E) → Prop := fun E' => E' 5 = .inr (0, [.int (nI fk), .int (nI fp), .ref (b + 6), .ref (b + 7), .ref (b + 8), .int (nI 0), .int (nI 1), .int (nI 0), .int (nI nt.toNat), .int (nI rs)]) ∧ E' (9 + 4 * 0) = .inr (1, [.ref (b + (10 + 4 * 0)), .ref (b + (11 + 4 * 0)), .ref (b + (12 + 4 * 0)), .int (nI false.toNat)]) ∧ E' (10 + 4 * 0) = .inr (3, [.int (nI false.toNat), .int (nI 0), .int (nI 0)]) ∧ E' (11 + 4 * 0) = .inr (3, [.int (nI true.toNat), .int (nI 0), .int (nI 0)]) ∧ E' (12 + 4 * 0) = .inr (3, [.int (nI true.toNat), .int (nI 0), .int (nI 0)]) ∧ (∀ j, j ≠ 5 → j ≠ 9 + 4 * 0 → j ≠ 10 + 4 * 0 → j ≠ 11 + 4 * 0 → j ≠ 12 + 4 * 0 → E' j = E j)
set_option maxHeartbeats 4000000 in
set_option maxRecDepth 100000 in
theorem kX0_begin (l : Launch) (D : va_G) (C : Nat → ClassId) (b n : Nat) (E : Nat → va_E) (fk fp op cn md rs pf pl rf rl qf ql : Nat) (nt h pb rb qb : Bool) (hlt0 : 5 < n) (hE0 : E 5 = .inr (0, [.int (nI fk), .int (nI fp), .ref (b + 6), .ref (b + 7), .ref (b + 8), .int (nI op), .int (nI cn), .int (nI md), .int (nI nt.toNat), .int (nI rs)])) (hlt1 : 6 < n) (hE1 : E 6 = wm_Q C 5 21 (fun i => some (b + (9 + 4 * i)))) (hlt2 : 9 + 4 * 0 < n) (hE2 : E (9 + 4 * 0) = .inr (1, [.ref (b + (10 + 4 * 0)), .ref (b + (11 + 4 * 0)), .ref (b + (12 + 4 * 0)), .int (nI h.toNat)])) (hlt3 : 10 + 4 * 0 < n) (hE3 : E (10 + 4 * 0) = .inr (3, [.int (nI pb.toNat), .int (nI pf), .int (nI pl)])) (hlt4 : 11 + 4 * 0 < n) (hE4 : E (11 + 4 * 0) = .inr (3, [.int (nI rb.toNat), .int (nI rf), .int (nI rl)])) (hlt5 : 12 + 4 * 0 < n) (hE5 : E (12 + 4 * 0) = .inr (3, [.int (nI qb.toNat), .int (nI qf), .int (nI ql)])) : Met l yX0_begin (wm_ws yX0_begin cX0_begin 1 none) { frames := 3, cells := 0, slots := 0, locals := 63 } (va_Pc [.ref (b + 5)] (wm_G D C b n E)) (va_Qv (pX0_begin C b E fk fp op cn md rs pf pl rf rl qf ql nt h pb rb qb) (fun E' t => wm_P D b n E' t.heap) (wm_A b)) 0 0 (wm_A b) := by
  refine wm_ofW (by decide) (Nat.le_of_ble_eq_true rfl) (fun p e s m below meth c ls R args Q hRe hQ X hr hnm hP hS hl => ?_)
  have hl : lv_has ls 1 [(0, .ref (b + 5))] := hl
  have hfr : ∀ j, j ≠ 5 → j ≠ 9 + 4 * 0 → j ≠ 10 + 4 * 0 → j ≠ 11 + 4 * 0 → j ≠ 12 + 4 * 0 → E j = E j := fun _ _ _ _ _ _ => rfl
  refine lv_aload_n X.1 X.2.1 dX0_begin_0 rfl (lv_at hl 0 rfl) ?_
  refine lv_iconst (v := nI 0) X.1 X.2.1 dX0_begin_1 (by decide) ?_
  refine wm_put (v := .int (nI 0)) X hP hS hlt0 hE0 rfl wm_inX0 tyX0 tyX0_ok nmX0 5 (by decide) wq1_122 rfl rfl rfl (fs1 := [.int (nI fk), .int (nI fp), .ref (b + 6), .ref (b + 7), .ref (b + 8), .int (nI 0), .int (nI cn), .int (nI md), .int (nI nt.toNat), .int (nI rs)]) rfl (Nat.le_of_ble_eq_true rfl) dX0_begin_2 (fun H locs E1 hP hS hE0 hq => ?_)
  have hE1 := (hq 6 (by decide)).trans hE1
  have hE2 := (hq (9 + 4 * 0) (by omega)).trans hE2
  have hE3 := (hq (10 + 4 * 0) (by omega)).trans hE3
  have hE4 := (hq (11 + 4 * 0) (by omega)).trans hE4
  have hE5 := (hq (12 + 4 * 0) (by omega)).trans hE5
  have hfr : ∀ j, j ≠ 5 → j ≠ 9 + 4 * 0 → j ≠ 10 + 4 * 0 → j ≠ 11 + 4 * 0 → j ≠ 12 + 4 * 0 → E1 j = E j := fun j h0 h1 h2 h3 h4 => (hq j h0).trans (hfr j h0 h1 h2 h3 h4)
  refine lv_aload_n X.1 X.2.1 dX0_begin_5 rfl (lv_at hl 0 rfl) ?_
  refine lv_iconst (v := nI 1) X.1 X.2.1 dX0_begin_6 (by decide) ?_
  refine wm_put (v := .int (nI 1)) X hP hS hlt0 hE0 rfl wm_inX0 tyX0 tyX0_ok nmX0 6 (by decide) wq1_123 rfl rfl rfl (fs1 := [.int (nI fk), .int (nI fp), .ref (b + 6), .ref (b + 7), .ref (b + 8), .int (nI 0), .int (nI 1), .int (nI md), .int (nI nt.toNat), .int (nI rs)]) rfl (Nat.le_of_ble_eq_true rfl) dX0_begin_7 (fun H locs E2 hP hS hE0 hq => ?_)
  have hE1 := (hq 6 (by decide)).trans hE1
  have hE2 := (hq (9 + 4 * 0) (by omega)).trans hE2
  have hE3 := (hq (10 + 4 * 0) (by omega)).trans hE3
  have hE4 := (hq (11 + 4 * 0) (by omega)).trans hE4
  have hE5 := (hq (12 + 4 * 0) (by omega)).trans hE5
  have hfr : ∀ j, j ≠ 5 → j ≠ 9 + 4 * 0 → j ≠ 10 + 4 * 0 → j ≠ 11 + 4 * 0 → j ≠ 12 + 4 * 0 → E2 j = E j := fun j h0 h1 h2 h3 h4 => (hq j h0).trans (hfr j h0 h1 h2 h3 h4)
  refine lv_aload_n X.1 X.2.1 dX0_begin_10 rfl (lv_at hl 0 rfl) ?_
  refine lv_iconst (v := nI 0) X.1 X.2.1 dX0_begin_11 (by decide) ?_
  refine wm_put (v := .int (nI 0)) X hP hS hlt0 hE0 rfl wm_inX0 tyX0 tyX0_ok nmX0 7 (by decide) wq1_124 rfl rfl rfl (fs1 := [.int (nI fk), .int (nI fp), .ref (b + 6), .ref (b + 7), .ref (b + 8), .int (nI 0), .int (nI 1), .int (nI 0), .int (nI nt.toNat), .int (nI rs)]) rfl (Nat.le_of_ble_eq_true rfl) dX0_begin_12 (fun H locs E3 hP hS hE0 hq => ?_)
  have hE1 := (hq 6 (by decide)).trans hE1
  have hE2 := (hq (9 + 4 * 0) (by omega)).trans hE2
  have hE3 := (hq (10 + 4 * 0) (by omega)).trans hE3
  have hE4 := (hq (11 + 4 * 0) (by omega)).trans hE4
  have hE5 := (hq (12 + 4 * 0) (by omega)).trans hE5
  have hfr : ∀ j, j ≠ 5 → j ≠ 9 + 4 * 0 → j ≠ 10 + 4 * 0 → j ≠ 11 + 4 * 0 → j ≠ 12 + 4 * 0 → E3 j = E j := fun j h0 h1 h2 h3 h4 => (hq j h0).trans (hfr j h0 h1 h2 h3 h4)
  refine lv_aload_n X.1 X.2.1 dX0_begin_15 rfl (lv_at hl 0 rfl) ?_
  refine wm_get X hP hlt0 hE0 rfl wm_inX0 2 (by decide) wq1_119 rfl dX0_begin_16 ?_
  refine lv_iconst (v := nI 0) X.1 X.2.1 dX0_begin_19 (by decide) ?_
  refine wm_aald (i := 0) (q := b + (9 + 4 * 0)) X hP hlt1 hE1 rfl (by omega) (by decide) rfl dX0_begin_20 ?_
  refine wm_callVv (k := 0) (As := []) (rest := []) X hP hS hlt2 hE2 rfl (kX1_beginExpression l D C b n E3 (9 + 4 * 0) (10 + 4 * 0) (11 + 4 * 0) (12 + 4 * 0) pf pl rf rl qf ql h pb rb qb hlt2 hE2 hlt3 hE3 hlt4 hE4 hlt5 hE5 (by omega) (by omega) (by omega) (by omega) (by omega) (by omega)) wq2_116 wq2_117 wq2_118 wq1_4 wq2_119 (by decide) (by rw [hRe]; exact ⟨Nat.le_of_ble_eq_true rfl, Nat.le_of_ble_eq_true rfl⟩) rfl hl.1 rfl (Nat.le_of_ble_eq_true rfl) (Nat.zero_le _) (Nat.zero_le _) dX0_begin_21 (fun E4 H locs hw hP hS => ?_)
  obtain ⟨hE2, hE3, hE4, hE5, hq⟩ := hw
  have hE0 := (hq 5 (by omega) (by omega) (by omega) (by omega)).trans hE0
  have hE1 := (hq 6 (by omega) (by omega) (by omega) (by omega)).trans hE1
  have hfr : ∀ j, j ≠ 5 → j ≠ 9 + 4 * 0 → j ≠ 10 + 4 * 0 → j ≠ 11 + 4 * 0 → j ≠ 12 + 4 * 0 → E4 j = E j := fun j h0 h1 h2 h3 h4 => (hq j h1 h2 h3 h4).trans (hfr j h0 h1 h2 h3 h4)
  exact wm_vret (post := pX0_begin C b E fk fp op cn md rs pf pl rf rl qf ql nt h pb rb qb) X hr hP hS ⟨hE0, hE2, hE3, hE4, hE5, hfr⟩ hQ dX0_begin_24
