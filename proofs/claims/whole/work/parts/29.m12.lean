def pX0_writeTo (C : Nat → ClassId) (b : Nat) (E : Nat → va_E) (fk fp op cn md rs pf pl rf rl qf ql t tg k st en : Nat) (nt h pb rb qb : Bool) (fl lt g : Nat → Nat) : (Nat → va_E) → Prop := fun E' => ∃ (g1 : Nat → Nat), E' t = .inr (2, [.ref (b + tg), .int (nI cn), .int (nI 1), .int (nI ((pl ||| (ql ||| (if qb then rl else 0))) ||| (if pb || (rb && qb) then 1 else 0)))]) ∧ E' tg = wm_I C 192 g1 ∧ E' 7 = wm_I C 24 (va_up (wm_lk fl cn rl qf) 0 (pf ||| (rf ||| (if rb then qf else 0)))) ∧ E' (9 + 4 * 0) = .inr (1, [.ref (b + (10 + 4 * 0)), .ref (b + (11 + 4 * 0)), .ref (b + (12 + 4 * 0)), .int (nI false.toNat)]) ∧ E' (10 + 4 * 0) = .inr (3, [.int (nI (pb || (rb && qb)).toNat), .int (nI (pf ||| (rf ||| (if rb then qf else 0)))), .int (nI (pl ||| (ql ||| (if qb then rl else 0))))]) ∧ E' (11 + 4 * 0) = .inr (3, [.int (nI true.toNat), .int (nI 0), .int (nI 0)]) ∧ E' (12 + 4 * 0) = .inr (3, [.int (nI true.toNat), .int (nI 0), .int (nI 0)]) ∧ (∀ j, j ≠ t → j ≠ tg → j ≠ 7 → j ≠ 9 + 4 * 0 → j ≠ 10 + 4 * 0 → j ≠ 11 + 4 * 0 → j ≠ 12 + 4 * 0 → E' j = E j) ∧ wm_wt cn (va_up (wm_lk fl cn rl qf) 0 (pf ||| (rf ||| (if rb then qf else 0)))) lt 8 0 g1
set_option maxHeartbeats 4000000 in
set_option maxRecDepth 100000 in
theorem kX0_writeTo (l : Launch) (D : va_G) (C : Nat → ClassId) (b n : Nat) (E : Nat → va_E) (fk fp op cn md rs pf pl rf rl qf ql t tg k st en : Nat) (nt h pb rb qb : Bool) (fl lt g : Nat → Nat) (hlt0 : 5 < n) (hE0 : E 5 = .inr (0, [.int (nI fk), .int (nI fp), .ref (b + 6), .ref (b + 7), .ref (b + 8), .int (nI op), .int (nI cn), .int (nI md), .int (nI nt.toNat), .int (nI rs)])) (hlt1 : 6 < n) (hE1 : E 6 = wm_Q C 5 21 (fun i => some (b + (9 + 4 * i)))) (hlt2 : 7 < n) (hE2 : E 7 = wm_I C 24 fl) (hlt3 : 8 < n) (hE3 : E 8 = wm_I C 24 lt) (hlt4 : 9 + 4 * 0 < n) (hE4 : E (9 + 4 * 0) = .inr (1, [.ref (b + (10 + 4 * 0)), .ref (b + (11 + 4 * 0)), .ref (b + (12 + 4 * 0)), .int (nI h.toNat)])) (hlt5 : 10 + 4 * 0 < n) (hE5 : E (10 + 4 * 0) = .inr (3, [.int (nI pb.toNat), .int (nI pf), .int (nI pl)])) (hlt6 : 11 + 4 * 0 < n) (hE6 : E (11 + 4 * 0) = .inr (3, [.int (nI rb.toNat), .int (nI rf), .int (nI rl)])) (hlt7 : 12 + 4 * 0 < n) (hE7 : E (12 + 4 * 0) = .inr (3, [.int (nI qb.toNat), .int (nI qf), .int (nI ql)])) (hlt8 : t < n) (hE8 : E t = .inr (2, [.ref (b + tg), .int (nI k), .int (nI st), .int (nI en)])) (hlt9 : tg < n) (hE9 : E tg = wm_I C 192 g) (hcn : cn ≤ 24) (hcp : 1 ≤ cn) (hrl : rl < 2 ^ 32) (hlt : ∀ i, i < 24 → lt i < 2 ^ 32) (ht : t < 4 ∨ 93 ≤ t) (htg : tg < 4 ∨ 93 ≤ tg) (hne : t ≠ tg) : Met l yX0_writeTo (wm_ws yX0_writeTo cX0_writeTo 6 none) { frames := 3, cells := 0, slots := 0, locals := 65 } (va_Pc [.ref (b + 5), .ref (b + t)] (wm_G D C b n E)) (va_Qv (pX0_writeTo C b E fk fp op cn md rs pf pl rf rl qf ql t tg k st en nt h pb rb qb fl lt g) (fun E' t => wm_P D b n E' t.heap) (wm_A b)) 0 0 (wm_A b) := by
  refine wm_ofW (by decide) (Nat.le_of_ble_eq_true rfl) (fun p e s m below meth c ls R args Q hRe hQ X hr hnm hP hS hl => ?_)
  have hl : lv_has ls 6 [(0, .ref (b + 5)), (1, .ref (b + t))] := hl
  have hfr : ∀ j, j ≠ t → j ≠ tg → j ≠ 7 → j ≠ 9 + 4 * 0 → j ≠ 10 + 4 * 0 → j ≠ 11 + 4 * 0 → j ≠ 12 + 4 * 0 → E j = E j := fun _ _ _ _ _ _ _ _ => rfl
  refine lv_aload_n X.1 X.2.1 dX0_writeTo_0 rfl (lv_at hl 0 rfl) ?_
  refine wm_get X hP hlt0 hE0 rfl wm_inX0 2 (by decide) wq1_119 rfl dX0_writeTo_1 ?_
  refine lv_iconst (v := nI 0) X.1 X.2.1 dX0_writeTo_4 (by decide) ?_
  refine wm_aald (i := 0) (q := b + (9 + 4 * 0)) X hP hlt1 hE1 rfl (by omega) (by decide) rfl dX0_writeTo_5 ?_
  refine lv_astore_n (lv' := [(2, .ref (b + (9 + 4 * 0))), (0, .ref (b + 5)), (1, .ref (b + t))]) X.1 X.2.1 dX0_writeTo_6 rfl hl (by decide) rfl (fun ls hl => ?_)
  refine lv_aload_n X.1 X.2.1 dX0_writeTo_7 rfl (lv_at hl 1 rfl) ?_
  refine lv_aload_n X.1 X.2.1 dX0_writeTo_8 rfl (lv_at hl 0 rfl) ?_
  refine wm_callVv (k := 1) (As := [.ref (b + (9 + 4 * 0))]) (rest := []) X hP hS hlt0 hE0 rfl (kX0_endPart l D C b n E fk fp op cn md rs (9 + 4 * 0) (10 + 4 * 0) (11 + 4 * 0) (12 + 4 * 0) pf pl rf rl qf ql nt h pb rb qb fl hlt0 hE0 hlt2 hE2 hlt4 hE4 hlt5 hE5 hlt6 hE6 hlt7 hE7 (by omega) (by omega) (by omega) (by omega) (by omega) (by omega) (by omega) (by omega) (by omega) (by omega)) wq2_164 wq2_166 wqP1_10 wq1_3 wq2_167 (by decide) (by rw [hRe]; exact ⟨Nat.le_of_ble_eq_true rfl, Nat.le_of_ble_eq_true rfl⟩) rfl hl.1 rfl (Nat.le_of_ble_eq_true rfl) (Nat.zero_le _) (Nat.zero_le _) dX0_writeTo_9 (fun E1 H locs hw hP hS => ?_)
  obtain ⟨hE2, hE4, hE5, hE6, hE7, hq⟩ := hw
  have hE0 := (hq 5 (by decide) (by omega) (by omega) (by omega) (by omega)).trans hE0
  have hE1 := (hq 6 (by decide) (by omega) (by omega) (by omega) (by omega)).trans hE1
  have hE3 := (hq 8 (by decide) (by omega) (by omega) (by omega) (by omega)).trans hE3
  have hE8 := (hq t (by omega) (by omega) (by omega) (by omega) (by omega)).trans hE8
  have hE9 := (hq tg (by omega) (by omega) (by omega) (by omega) (by omega)).trans hE9
  have hfr : ∀ j, j ≠ t → j ≠ tg → j ≠ 7 → j ≠ 9 + 4 * 0 → j ≠ 10 + 4 * 0 → j ≠ 11 + 4 * 0 → j ≠ 12 + 4 * 0 → E1 j = E j := fun j h0 h1 h2 h3 h4 h5 h6 => (hq j h2 h3 h4 h5 h6).trans (hfr j h0 h1 h2 h3 h4 h5 h6)
  refine lv_aload_n X.1 X.2.1 dX0_writeTo_12 rfl (lv_at hl 1 rfl) ?_
  refine wm_get X hP hlt0 hE0 rfl wm_inX0 3 (by decide) wq1_120 rfl dX0_writeTo_13 ?_
  refine lv_iconst (v := nI 0) X.1 X.2.1 dX0_writeTo_16 (by decide) ?_
  refine lv_aload_n X.1 X.2.1 dX0_writeTo_17 rfl (lv_at hl 0 rfl) ?_
  refine wm_get X hP hlt4 hE4 rfl wm_inX1 0 (by decide) wq1_99 rfl dX0_writeTo_18 ?_
  refine wm_get X hP hlt5 hE5 rfl wm_inX3 1 (by decide) wq1_87 rfl dX0_writeTo_21 ?_
  refine wm_iast (i := 0) (x := (pf ||| (rf ||| (if rb then qf else 0)))) X hP hS hlt2 hE2 (by omega) (by decide) dX0_writeTo_24 (fun H locs E2 hP hS hE2 hq => ?_)
  have hE0 := (hq 5 (by decide)).trans hE0
  have hE1 := (hq 6 (by decide)).trans hE1
  have hE3 := (hq 8 (by decide)).trans hE3
  have hE4 := (hq (9 + 4 * 0) (by omega)).trans hE4
  have hE5 := (hq (10 + 4 * 0) (by omega)).trans hE5
  have hE6 := (hq (11 + 4 * 0) (by omega)).trans hE6
  have hE7 := (hq (12 + 4 * 0) (by omega)).trans hE7
  have hE8 := (hq t (by omega)).trans hE8
  have hE9 := (hq tg (by omega)).trans hE9
  have hfr : ∀ j, j ≠ t → j ≠ tg → j ≠ 7 → j ≠ 9 + 4 * 0 → j ≠ 10 + 4 * 0 → j ≠ 11 + 4 * 0 → j ≠ 12 + 4 * 0 → E2 j = E j := fun j h0 h1 h2 h3 h4 h5 h6 => (hq j h2).trans (hfr j h0 h1 h2 h3 h4 h5 h6)
  refine lv_aload_n X.1 X.2.1 dX0_writeTo_25 rfl (lv_at hl 2 rfl) ?_
  refine lv_aload_n X.1 X.2.1 dX0_writeTo_26 rfl (lv_at hl 1 rfl) ?_
  refine wm_get X hP hlt0 hE0 rfl wm_inX0 6 (by decide) wq1_123 rfl dX0_writeTo_27 ?_
  refine wm_callVv (k := 1) (As := [.int (nI cn)]) (rest := []) X hP hS hlt8 hE8 rfl (kX2_clear l D C b n E2 t tg k st en cn g hlt8 hE8 hlt9 hE9 (by omega)) wq2_198 wq2_199 wq2_200 wq1_2 wq2_201 (by decide) (by rw [hRe]; exact ⟨Nat.le_of_ble_eq_true rfl, Nat.le_of_ble_eq_true rfl⟩) rfl hl.1 rfl (Nat.le_of_ble_eq_true rfl) (Nat.zero_le _) (Nat.zero_le _) dX0_writeTo_30 (fun E3 H locs hw hP hS => ?_)
  obtain ⟨g13, hE8, hE9, hq, hp3_0⟩ := hw
  have hE0 := (hq 5 (by omega) (by omega)).trans hE0
  have hE1 := (hq 6 (by omega) (by omega)).trans hE1
  have hE2 := (hq 7 (by omega) (by omega)).trans hE2
  have hE3 := (hq 8 (by omega) (by omega)).trans hE3
  have hE4 := (hq (9 + 4 * 0) (by omega) (by omega)).trans hE4
  have hE5 := (hq (10 + 4 * 0) (by omega) (by omega)).trans hE5
  have hE6 := (hq (11 + 4 * 0) (by omega) (by omega)).trans hE6
  have hE7 := (hq (12 + 4 * 0) (by omega) (by omega)).trans hE7
  have hfr : ∀ j, j ≠ t → j ≠ tg → j ≠ 7 → j ≠ 9 + 4 * 0 → j ≠ 10 + 4 * 0 → j ≠ 11 + 4 * 0 → j ≠ 12 + 4 * 0 → E3 j = E j := fun j h0 h1 h2 h3 h4 h5 h6 => (hq j h0 h1).trans (hfr j h0 h1 h2 h3 h4 h5 h6)
  refine lv_aload_n X.1 X.2.1 dX0_writeTo_33 rfl (lv_at hl 2 rfl) ?_
  refine lv_iconst (v := nI 1) X.1 X.2.1 dX0_writeTo_34 (by decide) ?_
  refine wm_put (v := .int (nI 1)) X hP hS hlt8 hE8 rfl wm_inX2 tyX2 tyX2_ok nmX2 2 (by decide) wq1_47 rfl rfl rfl (fs1 := [.ref (b + tg), .int (nI cn), .int (nI 1), .int (nI 0)]) rfl (Nat.le_of_ble_eq_true rfl) dX0_writeTo_35 (fun H locs E4 hP hS hE8 hq => ?_)
  have hE0 := (hq 5 (by omega)).trans hE0
  have hE1 := (hq 6 (by omega)).trans hE1
  have hE2 := (hq 7 (by omega)).trans hE2
  have hE3 := (hq 8 (by omega)).trans hE3
  have hE4 := (hq (9 + 4 * 0) (by omega)).trans hE4
  have hE5 := (hq (10 + 4 * 0) (by omega)).trans hE5
  have hE6 := (hq (11 + 4 * 0) (by omega)).trans hE6
  have hE7 := (hq (12 + 4 * 0) (by omega)).trans hE7
  have hE9 := (hq tg (by omega)).trans hE9
  have hfr : ∀ j, j ≠ t → j ≠ tg → j ≠ 7 → j ≠ 9 + 4 * 0 → j ≠ 10 + 4 * 0 → j ≠ 11 + 4 * 0 → j ≠ 12 + 4 * 0 → E4 j = E j := fun j h0 h1 h2 h3 h4 h5 h6 => (hq j h0).trans (hfr j h0 h1 h2 h3 h4 h5 h6)
  refine lv_aload_n X.1 X.2.1 dX0_writeTo_38 rfl (lv_at hl 2 rfl) ?_
  refine lv_aload_n X.1 X.2.1 dX0_writeTo_39 rfl (lv_at hl 0 rfl) ?_
  refine wm_get X hP hlt4 hE4 rfl wm_inX1 0 (by decide) wq1_99 rfl dX0_writeTo_40 ?_
  refine wm_get X hP hlt5 hE5 rfl wm_inX3 2 (by decide) wq1_89 rfl dX0_writeTo_43 ?_
  refine lv_aload_n X.1 X.2.1 dX0_writeTo_46 rfl (lv_at hl 0 rfl) ?_
  refine wm_get X hP hlt4 hE4 rfl wm_inX1 0 (by decide) wq1_99 rfl dX0_writeTo_47 ?_
  refine wm_get X hP hlt5 hE5 rfl wm_inX3 0 (by decide) wq1_85 rfl dX0_writeTo_50 ?_
  refine wm_ifz_eq (x := (pb || (rb && qb))) (tgt := 60) X dX0_writeTo_53 (by decide) (fun hc53 => ?_) (fun hc53 => ?_)
  · refine lv_iconst (v := nI 0) X.1 X.2.1 dX0_writeTo_60 (by decide) ?_
    refine wm_ior (x := (pl ||| (ql ||| (if qb then rl else 0)))) (y := 0) X dX0_writeTo_61 ?_
    refine wm_put (v := .int (nI ((pl ||| (ql ||| (if qb then rl else 0))) ||| 0))) X hP hS hlt8 hE8 rfl wm_inX2 tyX2 tyX2_ok nmX2 3 (by decide) wq1_52 rfl rfl rfl (fs1 := [.ref (b + tg), .int (nI cn), .int (nI 1), .int (nI ((pl ||| (ql ||| (if qb then rl else 0))) ||| 0))]) rfl (Nat.le_of_ble_eq_true rfl) dX0_writeTo_62 (fun H locs E6 hP hS hE8 hq => ?_)
    have hE0 := (hq 5 (by omega)).trans hE0
    have hE1 := (hq 6 (by omega)).trans hE1
    have hE2 := (hq 7 (by omega)).trans hE2
    have hE3 := (hq 8 (by omega)).trans hE3
    have hE4 := (hq (9 + 4 * 0) (by omega)).trans hE4
    have hE5 := (hq (10 + 4 * 0) (by omega)).trans hE5
    have hE6 := (hq (11 + 4 * 0) (by omega)).trans hE6
    have hE7 := (hq (12 + 4 * 0) (by omega)).trans hE7
    have hE9 := (hq tg (by omega)).trans hE9
    have hfr : ∀ j, j ≠ t → j ≠ tg → j ≠ 7 → j ≠ 9 + 4 * 0 → j ≠ 10 + 4 * 0 → j ≠ 11 + 4 * 0 → j ≠ 12 + 4 * 0 → E6 j = E j := fun j h0 h1 h2 h3 h4 h5 h6 => (hq j h0).trans (hfr j h0 h1 h2 h3 h4 h5 h6)
    have hE8 : E6 t = .inr (2, [.ref (b + tg), .int (nI cn), .int (nI 1), .int (nI ((pl ||| (ql ||| (if qb then rl else 0))) ||| (if pb || (rb && qb) then 1 else 0)))]) := by rw [hE8, hc53]; rfl
    refine lv_iconst (v := nI 0) X.1 X.2.1 dX0_writeTo_65 (by decide) ?_
    refine lv_istore_n (lv' := [(3, .int (nI 0)), (2, .ref (b + (9 + 4 * 0))), (0, .ref (b + 5)), (1, .ref (b + t))]) X.1 X.2.1 dX0_writeTo_66 rfl hl (by decide) rfl (fun ls hl => ?_)
    have L67 : ∀ (fu : Nat) (L : Nat) (g1 : Nat → Nat), 8 - L < fu → (L ≤ 8) → (wm_wt cn (va_up (wm_lk fl cn rl qf) 0 (pf ||| (rf ||| (if rb then qf else 0)))) lt L 0 g1) → ∀ (E7 : Nat → va_E) (H : Heap) (locs : List Loc) (ls : Array Slot), wm_P D b n E7 H → wm_S b s.heap H locs → E7 5 = .inr (0, [.int (nI fk), .int (nI fp), .ref (b + 6), .ref (b + 7), .ref (b + 8), .int (nI op), .int (nI cn), .int (nI md), .int (nI nt.toNat), .int (nI rs)]) → E7 6 = wm_Q C 5 21 (fun i => some (b + (9 + 4 * i))) → E7 7 = wm_I C 24 (va_up (wm_lk fl cn rl qf) 0 (pf ||| (rf ||| (if rb then qf else 0)))) → E7 8 = wm_I C 24 lt → E7 (9 + 4 * 0) = .inr (1, [.ref (b + (10 + 4 * 0)), .ref (b + (11 + 4 * 0)), .ref (b + (12 + 4 * 0)), .int (nI false.toNat)]) → E7 (10 + 4 * 0) = .inr (3, [.int (nI (pb || (rb && qb)).toNat), .int (nI (pf ||| (rf ||| (if rb then qf else 0)))), .int (nI (pl ||| (ql ||| (if qb then rl else 0))))]) → E7 (11 + 4 * 0) = .inr (3, [.int (nI true.toNat), .int (nI 0), .int (nI 0)]) → E7 (12 + 4 * 0) = .inr (3, [.int (nI true.toNat), .int (nI 0), .int (nI 0)]) → E7 t = .inr (2, [.ref (b + tg), .int (nI cn), .int (nI 1), .int (nI ((pl ||| (ql ||| (if qb then rl else 0))) ||| (if pb || (rb && qb) then 1 else 0)))]) → E7 tg = wm_I C 192 g1 → (∀ j, j ≠ t → j ≠ tg → j ≠ 7 → j ≠ 9 + 4 * 0 → j ≠ 10 + 4 * 0 → j ≠ 11 + 4 * 0 → j ≠ 12 + 4 * 0 → E7 j = E j) → lv_has ls 6 [(0, .ref (b + 5)), (1, .ref (b + t)), (2, .ref (b + (9 + 4 * 0))), (3, .int (nI L))] → W p l e R s m args below meth c H locs 0 0 Q (F0 m 67 ls []) := by
      intro fu
      induction fu with
      | zero => intro L g1 hm; exact absurd hm (Nat.not_lt_zero _)
      | succ fu ih67 =>
        intro L g1 hm hL h1 E7 H locs ls hP hS hE0 hE1 hE2 hE3 hE4 hE5 hE6 hE7 hE8 hE9 hfr hl
        refine lv_iload_n X.1 X.2.1 dX0_writeTo_67 rfl (lv_at hl 3 rfl) ?_
        refine lv_bipush (v := nI 8) X.1 X.2.1 dX0_writeTo_68 (by decide) ?_
        refine wm_icmp_ge (x := L) (y := 8) (tgt := 121) X (by omega) (by decide) dX0_writeTo_70 (by decide) (fun hc70 => ?_) (fun hc70 => ?_)
        · exact wm_vret (post := pX0_writeTo C b E fk fp op cn md rs pf pl rf rl qf ql t tg k st en nt h pb rb qb fl lt g) X hr hP hS ⟨g1, hE8, hE9, hE2, hE4, hE5, hE6, hE7, hfr, (show wm_wt cn _ lt 8 0 g1 from (show L = 8 from by omega) ▸ h1)⟩ hQ dX0_writeTo_121
        · refine lv_aload_n X.1 X.2.1 dX0_writeTo_73 rfl (lv_at hl 0 rfl) ?_
          refine lv_iload_n X.1 X.2.1 dX0_writeTo_74 rfl (lv_at hl 3 rfl) ?_
          refine wm_callVi (k := 1) (As := [.int (nI L)]) (rest := []) X hP hS hlt0 hE0 rfl (kX0_statesWith l D C b n E7 fk fp op cn md rs L nt lt hlt0 hE0 hlt3 hE3 (by omega) (by omega) (by omega) hlt) wq2_205 wq2_207 wqP2_0 wq1_3 wq2_208 (by decide) (by rw [hRe]; exact ⟨Nat.le_of_ble_eq_true rfl, Nat.le_of_ble_eq_true rfl⟩) rfl hl.1 rfl (Nat.le_of_ble_eq_true rfl) (Nat.zero_le _) (Nat.zero_le _) dX0_writeTo_75 (fun r9 E9 H locs hw hP hS => ?_)
          obtain ⟨hrt, hEe⟩ := hw
          subst hrt
          subst hEe
          refine lv_istore (lv' := [(4, .int (nI (wm_sw1 cn lt L))), (0, .ref (b + 5)), (1, .ref (b + t)), (2, .ref (b + (9 + 4 * 0))), (3, .int (nI L))]) X.1 X.2.1 dX0_writeTo_78 hl (by decide) rfl (fun ls hl => ?_)
          refine lv_iconst (v := nI 0) X.1 X.2.1 dX0_writeTo_80 (by decide) ?_
          refine lv_istore (lv' := [(5, .int (nI 0)), (4, .int (nI (wm_sw1 cn lt L))), (0, .ref (b + 5)), (1, .ref (b + t)), (2, .ref (b + (9 + 4 * 0))), (3, .int (nI L))]) X.1 X.2.1 dX0_writeTo_81 hl (by decide) rfl (fun ls hl => ?_)
          have L83 : ∀ (fu : Nat) (F : Nat) (g3 : Nat → Nat), cn - F < fu → (F ≤ cn) → (wm_wt cn (va_up (wm_lk fl cn rl qf) 0 (pf ||| (rf ||| (if rb then qf else 0)))) lt L F g3) → ∀ (E10 : Nat → va_E) (H : Heap) (locs : List Loc) (ls : Array Slot), wm_P D b n E10 H → wm_S b s.heap H locs → E10 5 = .inr (0, [.int (nI fk), .int (nI fp), .ref (b + 6), .ref (b + 7), .ref (b + 8), .int (nI op), .int (nI cn), .int (nI md), .int (nI nt.toNat), .int (nI rs)]) → E10 6 = wm_Q C 5 21 (fun i => some (b + (9 + 4 * i))) → E10 7 = wm_I C 24 (va_up (wm_lk fl cn rl qf) 0 (pf ||| (rf ||| (if rb then qf else 0)))) → E10 8 = wm_I C 24 lt → E10 (9 + 4 * 0) = .inr (1, [.ref (b + (10 + 4 * 0)), .ref (b + (11 + 4 * 0)), .ref (b + (12 + 4 * 0)), .int (nI false.toNat)]) → E10 (10 + 4 * 0) = .inr (3, [.int (nI (pb || (rb && qb)).toNat), .int (nI (pf ||| (rf ||| (if rb then qf else 0)))), .int (nI (pl ||| (ql ||| (if qb then rl else 0))))]) → E10 (11 + 4 * 0) = .inr (3, [.int (nI true.toNat), .int (nI 0), .int (nI 0)]) → E10 (12 + 4 * 0) = .inr (3, [.int (nI true.toNat), .int (nI 0), .int (nI 0)]) → E10 t = .inr (2, [.ref (b + tg), .int (nI cn), .int (nI 1), .int (nI ((pl ||| (ql ||| (if qb then rl else 0))) ||| (if pb || (rb && qb) then 1 else 0)))]) → E10 tg = wm_I C 192 g3 → (∀ j, j ≠ t → j ≠ tg → j ≠ 7 → j ≠ 9 + 4 * 0 → j ≠ 10 + 4 * 0 → j ≠ 11 + 4 * 0 → j ≠ 12 + 4 * 0 → E10 j = E j) → lv_has ls 6 [(0, .ref (b + 5)), (1, .ref (b + t)), (2, .ref (b + (9 + 4 * 0))), (3, .int (nI L)), (4, .int (nI (wm_sw1 cn lt L))), (5, .int (nI F))] → W p l e R s m args below meth c H locs 0 0 Q (F0 m 83 ls []) := by
            intro fu
            induction fu with
            | zero => intro F g3 hm; exact absurd hm (Nat.not_lt_zero _)
            | succ fu ih83 =>
              intro F g3 hm hF h2 E10 H locs ls hP hS hE0 hE1 hE2 hE3 hE4 hE5 hE6 hE7 hE8 hE9 hfr hl
              refine lv_iload X.1 X.2.1 dX0_writeTo_83 (lv_at hl 5 rfl) ?_
              refine lv_aload_n X.1 X.2.1 dX0_writeTo_85 rfl (lv_at hl 0 rfl) ?_
              refine wm_get X hP hlt0 hE0 rfl wm_inX0 6 (by decide) wq1_123 rfl dX0_writeTo_86 ?_
              refine wm_icmp_ge (x := F) (y := cn) (tgt := 115) X (by omega) (by omega) dX0_writeTo_89 (by decide) (fun hc89 => ?_) (fun hc89 => ?_)
              · refine lv_iinc (v := nI (L + 1)) (lv' := [(3, .int (nI (L + 1))), (0, .ref (b + 5)), (1, .ref (b + t)), (2, .ref (b + (9 + 4 * 0))), (4, .int (nI (wm_sw1 cn lt L))), (5, .int (nI F))]) X.1 X.2.1 dX0_writeTo_115 hl (k := 3) rfl (wm_inc L) (by decide) rfl (fun ls hl => ?_)
                refine lv_goto (tgt := 67) X.1 X.2.1 dX0_writeTo_118 (by decide) ?_
                exact ih67 (L + 1) g3 (by omega) (by omega) (wm_wtL h2 hc89) E10 _ _ _ hP hS hE0 hE1 hE2 hE3 hE4 hE5 hE6 hE7 hE8 hE9 hfr (lv_sub hl [1, 2, 3, 0] rfl)
              · refine lv_aload_n X.1 X.2.1 dX0_writeTo_92 rfl (lv_at hl 1 rfl) ?_
                refine lv_iload X.1 X.2.1 dX0_writeTo_93 (lv_at hl 5 rfl) ?_
                refine lv_iload_n X.1 X.2.1 dX0_writeTo_95 rfl (lv_at hl 3 rfl) ?_
                refine lv_aload_n X.1 X.2.1 dX0_writeTo_96 rfl (lv_at hl 0 rfl) ?_
                refine wm_get X hP hlt0 hE0 rfl wm_inX0 3 (by decide) wq1_120 rfl dX0_writeTo_97 ?_
                refine lv_iload X.1 X.2.1 dX0_writeTo_100 (lv_at hl 5 rfl) ?_
                refine wm_iald (i := F) X hP hlt2 hE2 (by omega) (by decide) dX0_writeTo_102 ?_
                refine lv_iload X.1 X.2.1 dX0_writeTo_103 (lv_at hl 4 rfl) ?_
                refine wm_iand (x := ((va_up (wm_lk fl cn rl qf) 0 (pf ||| (rf ||| (if rb then qf else 0)))) F)) (y := (wm_sw1 cn lt L)) X dX0_writeTo_105 ?_
                refine wm_callVv (k := 3) (As := [.int (nI F), .int (nI L), .int (nI (((va_up (wm_lk fl cn rl qf) 0 (pf ||| (rf ||| (if rb then qf else 0)))) F) &&& (wm_sw1 cn lt L)))]) (rest := []) X hP hS hlt8 hE8 rfl (kX2_putGoals l D C b n E10 t tg cn 1 ((pl ||| (ql ||| (if qb then rl else 0))) ||| (if pb || (rb && qb) then 1 else 0)) F L (((va_up (wm_lk fl cn rl qf) 0 (pf ||| (rf ||| (if rb then qf else 0)))) F) &&& (wm_sw1 cn lt L)) g3 hlt8 hE8 hlt9 hE9 (by omega) (by omega)) wq2_212 wq2_213 wq2_214 wq1_2 wq2_215 (by decide) (by rw [hRe]; exact ⟨Nat.le_of_ble_eq_true rfl, Nat.le_of_ble_eq_true rfl⟩) rfl hl.1 rfl (Nat.le_of_ble_eq_true rfl) (Nat.zero_le _) (Nat.zero_le _) dX0_writeTo_106 (fun E12 H locs hw hP hS => ?_)
                obtain ⟨hE9, hq⟩ := hw
                have hE0 := (hq 5 (by omega)).trans hE0
                have hE1 := (hq 6 (by omega)).trans hE1
                have hE2 := (hq 7 (by omega)).trans hE2
                have hE3 := (hq 8 (by omega)).trans hE3
                have hE4 := (hq (9 + 4 * 0) (by omega)).trans hE4
                have hE5 := (hq (10 + 4 * 0) (by omega)).trans hE5
                have hE6 := (hq (11 + 4 * 0) (by omega)).trans hE6
                have hE7 := (hq (12 + 4 * 0) (by omega)).trans hE7
                have hE8 := (hq t (by omega)).trans hE8
                have hfr : ∀ j, j ≠ t → j ≠ tg → j ≠ 7 → j ≠ 9 + 4 * 0 → j ≠ 10 + 4 * 0 → j ≠ 11 + 4 * 0 → j ≠ 12 + 4 * 0 → E12 j = E j := fun j h0 h1 h2 h3 h4 h5 h6 => (hq j h1).trans (hfr j h0 h1 h2 h3 h4 h5 h6)
                refine lv_iinc (v := nI (F + 1)) (lv' := [(5, .int (nI (F + 1))), (0, .ref (b + 5)), (1, .ref (b + t)), (2, .ref (b + (9 + 4 * 0))), (3, .int (nI L)), (4, .int (nI (wm_sw1 cn lt L)))]) X.1 X.2.1 dX0_writeTo_109 hl (k := 5) rfl (wm_inc F) (by decide) rfl (fun ls hl => ?_)
                refine lv_goto (tgt := 83) X.1 X.2.1 dX0_writeTo_112 (by decide) ?_
                exact ih83 (F + 1) (va_up g3 (L * 24 + F) (((va_up (wm_lk fl cn rl qf) 0 (pf ||| (rf ||| (if rb then qf else 0)))) F) &&& (wm_sw1 cn lt L))) (by omega) (by omega) (wm_wt1 h2 hcn hc89) E12 _ _ _ hP hS hE0 hE1 hE2 hE3 hE4 hE5 hE6 hE7 hE8 hE9 hfr (lv_sub hl [1, 2, 3, 4, 5, 0] rfl)
          exact L83 (cn - 0 + 1) 0 g1 (Nat.lt_succ_self _) (by omega) h1 E7 _ _ _ hP hS hE0 hE1 hE2 hE3 hE4 hE5 hE6 hE7 hE8 hE9 hfr (lv_sub hl [2, 3, 4, 5, 1, 0] rfl)
    exact L67 (8 - 0 + 1) 0 g13 (Nat.lt_succ_self _) (by omega) wm_wt0 E6 _ _ _ hP hS hE0 hE1 hE2 hE3 hE4 hE5 hE6 hE7 hE8 hE9 hfr (lv_sub hl [2, 3, 1, 0] rfl)
  · refine lv_iconst (v := nI 1) X.1 X.2.1 dX0_writeTo_56 (by decide) ?_
    refine lv_goto (tgt := 61) X.1 X.2.1 dX0_writeTo_57 (by decide) ?_
    refine wm_ior (x := (pl ||| (ql ||| (if qb then rl else 0)))) (y := 1) X dX0_writeTo_61 ?_
    refine wm_put (v := .int (nI ((pl ||| (ql ||| (if qb then rl else 0))) ||| 1))) X hP hS hlt8 hE8 rfl wm_inX2 tyX2 tyX2_ok nmX2 3 (by decide) wq1_52 rfl rfl rfl (fs1 := [.ref (b + tg), .int (nI cn), .int (nI 1), .int (nI ((pl ||| (ql ||| (if qb then rl else 0))) ||| 1))]) rfl (Nat.le_of_ble_eq_true rfl) dX0_writeTo_62 (fun H locs E13 hP hS hE8 hq => ?_)
    have hE0 := (hq 5 (by omega)).trans hE0
    have hE1 := (hq 6 (by omega)).trans hE1
    have hE2 := (hq 7 (by omega)).trans hE2
    have hE3 := (hq 8 (by omega)).trans hE3
    have hE4 := (hq (9 + 4 * 0) (by omega)).trans hE4
    have hE5 := (hq (10 + 4 * 0) (by omega)).trans hE5
    have hE6 := (hq (11 + 4 * 0) (by omega)).trans hE6
    have hE7 := (hq (12 + 4 * 0) (by omega)).trans hE7
    have hE9 := (hq tg (by omega)).trans hE9
    have hfr : ∀ j, j ≠ t → j ≠ tg → j ≠ 7 → j ≠ 9 + 4 * 0 → j ≠ 10 + 4 * 0 → j ≠ 11 + 4 * 0 → j ≠ 12 + 4 * 0 → E13 j = E j := fun j h0 h1 h2 h3 h4 h5 h6 => (hq j h0).trans (hfr j h0 h1 h2 h3 h4 h5 h6)
    have hE8 : E13 t = .inr (2, [.ref (b + tg), .int (nI cn), .int (nI 1), .int (nI ((pl ||| (ql ||| (if qb then rl else 0))) ||| (if pb || (rb && qb) then 1 else 0)))]) := by rw [hE8, hc53]; rfl
    refine lv_iconst (v := nI 0) X.1 X.2.1 dX0_writeTo_65 (by decide) ?_
    refine lv_istore_n (lv' := [(3, .int (nI 0)), (2, .ref (b + (9 + 4 * 0))), (0, .ref (b + 5)), (1, .ref (b + t))]) X.1 X.2.1 dX0_writeTo_66 rfl hl (by decide) rfl (fun ls hl => ?_)
    have L67 : ∀ (fu : Nat) (L : Nat) (g1 : Nat → Nat), 8 - L < fu → (L ≤ 8) → (wm_wt cn (va_up (wm_lk fl cn rl qf) 0 (pf ||| (rf ||| (if rb then qf else 0)))) lt L 0 g1) → ∀ (E14 : Nat → va_E) (H : Heap) (locs : List Loc) (ls : Array Slot), wm_P D b n E14 H → wm_S b s.heap H locs → E14 5 = .inr (0, [.int (nI fk), .int (nI fp), .ref (b + 6), .ref (b + 7), .ref (b + 8), .int (nI op), .int (nI cn), .int (nI md), .int (nI nt.toNat), .int (nI rs)]) → E14 6 = wm_Q C 5 21 (fun i => some (b + (9 + 4 * i))) → E14 7 = wm_I C 24 (va_up (wm_lk fl cn rl qf) 0 (pf ||| (rf ||| (if rb then qf else 0)))) → E14 8 = wm_I C 24 lt → E14 (9 + 4 * 0) = .inr (1, [.ref (b + (10 + 4 * 0)), .ref (b + (11 + 4 * 0)), .ref (b + (12 + 4 * 0)), .int (nI false.toNat)]) → E14 (10 + 4 * 0) = .inr (3, [.int (nI (pb || (rb && qb)).toNat), .int (nI (pf ||| (rf ||| (if rb then qf else 0)))), .int (nI (pl ||| (ql ||| (if qb then rl else 0))))]) → E14 (11 + 4 * 0) = .inr (3, [.int (nI true.toNat), .int (nI 0), .int (nI 0)]) → E14 (12 + 4 * 0) = .inr (3, [.int (nI true.toNat), .int (nI 0), .int (nI 0)]) → E14 t = .inr (2, [.ref (b + tg), .int (nI cn), .int (nI 1), .int (nI ((pl ||| (ql ||| (if qb then rl else 0))) ||| (if pb || (rb && qb) then 1 else 0)))]) → E14 tg = wm_I C 192 g1 → (∀ j, j ≠ t → j ≠ tg → j ≠ 7 → j ≠ 9 + 4 * 0 → j ≠ 10 + 4 * 0 → j ≠ 11 + 4 * 0 → j ≠ 12 + 4 * 0 → E14 j = E j) → lv_has ls 6 [(0, .ref (b + 5)), (1, .ref (b + t)), (2, .ref (b + (9 + 4 * 0))), (3, .int (nI L))] → W p l e R s m args below meth c H locs 0 0 Q (F0 m 67 ls []) := by
      intro fu
      induction fu with
      | zero => intro L g1 hm; exact absurd hm (Nat.not_lt_zero _)
      | succ fu ih67 =>
        intro L g1 hm hL h1 E14 H locs ls hP hS hE0 hE1 hE2 hE3 hE4 hE5 hE6 hE7 hE8 hE9 hfr hl
        refine lv_iload_n X.1 X.2.1 dX0_writeTo_67 rfl (lv_at hl 3 rfl) ?_
        refine lv_bipush (v := nI 8) X.1 X.2.1 dX0_writeTo_68 (by decide) ?_
        refine wm_icmp_ge (x := L) (y := 8) (tgt := 121) X (by omega) (by decide) dX0_writeTo_70 (by decide) (fun hc70 => ?_) (fun hc70 => ?_)
        · exact wm_vret (post := pX0_writeTo C b E fk fp op cn md rs pf pl rf rl qf ql t tg k st en nt h pb rb qb fl lt g) X hr hP hS ⟨g1, hE8, hE9, hE2, hE4, hE5, hE6, hE7, hfr, (show wm_wt cn _ lt 8 0 g1 from (show L = 8 from by omega) ▸ h1)⟩ hQ dX0_writeTo_121
        · refine lv_aload_n X.1 X.2.1 dX0_writeTo_73 rfl (lv_at hl 0 rfl) ?_
          refine lv_iload_n X.1 X.2.1 dX0_writeTo_74 rfl (lv_at hl 3 rfl) ?_
          refine wm_callVi (k := 1) (As := [.int (nI L)]) (rest := []) X hP hS hlt0 hE0 rfl (kX0_statesWith l D C b n E14 fk fp op cn md rs L nt lt hlt0 hE0 hlt3 hE3 (by omega) (by omega) (by omega) hlt) wq2_205 wq2_207 wqP2_0 wq1_3 wq2_208 (by decide) (by rw [hRe]; exact ⟨Nat.le_of_ble_eq_true rfl, Nat.le_of_ble_eq_true rfl⟩) rfl hl.1 rfl (Nat.le_of_ble_eq_true rfl) (Nat.zero_le _) (Nat.zero_le _) dX0_writeTo_75 (fun r16 E16 H locs hw hP hS => ?_)
          obtain ⟨hrt, hEe⟩ := hw
          subst hrt
          subst hEe
          refine lv_istore (lv' := [(4, .int (nI (wm_sw1 cn lt L))), (0, .ref (b + 5)), (1, .ref (b + t)), (2, .ref (b + (9 + 4 * 0))), (3, .int (nI L))]) X.1 X.2.1 dX0_writeTo_78 hl (by decide) rfl (fun ls hl => ?_)
          refine lv_iconst (v := nI 0) X.1 X.2.1 dX0_writeTo_80 (by decide) ?_
          refine lv_istore (lv' := [(5, .int (nI 0)), (4, .int (nI (wm_sw1 cn lt L))), (0, .ref (b + 5)), (1, .ref (b + t)), (2, .ref (b + (9 + 4 * 0))), (3, .int (nI L))]) X.1 X.2.1 dX0_writeTo_81 hl (by decide) rfl (fun ls hl => ?_)
          have L83 : ∀ (fu : Nat) (F : Nat) (g3 : Nat → Nat), cn - F < fu → (F ≤ cn) → (wm_wt cn (va_up (wm_lk fl cn rl qf) 0 (pf ||| (rf ||| (if rb then qf else 0)))) lt L F g3) → ∀ (E17 : Nat → va_E) (H : Heap) (locs : List Loc) (ls : Array Slot), wm_P D b n E17 H → wm_S b s.heap H locs → E17 5 = .inr (0, [.int (nI fk), .int (nI fp), .ref (b + 6), .ref (b + 7), .ref (b + 8), .int (nI op), .int (nI cn), .int (nI md), .int (nI nt.toNat), .int (nI rs)]) → E17 6 = wm_Q C 5 21 (fun i => some (b + (9 + 4 * i))) → E17 7 = wm_I C 24 (va_up (wm_lk fl cn rl qf) 0 (pf ||| (rf ||| (if rb then qf else 0)))) → E17 8 = wm_I C 24 lt → E17 (9 + 4 * 0) = .inr (1, [.ref (b + (10 + 4 * 0)), .ref (b + (11 + 4 * 0)), .ref (b + (12 + 4 * 0)), .int (nI false.toNat)]) → E17 (10 + 4 * 0) = .inr (3, [.int (nI (pb || (rb && qb)).toNat), .int (nI (pf ||| (rf ||| (if rb then qf else 0)))), .int (nI (pl ||| (ql ||| (if qb then rl else 0))))]) → E17 (11 + 4 * 0) = .inr (3, [.int (nI true.toNat), .int (nI 0), .int (nI 0)]) → E17 (12 + 4 * 0) = .inr (3, [.int (nI true.toNat), .int (nI 0), .int (nI 0)]) → E17 t = .inr (2, [.ref (b + tg), .int (nI cn), .int (nI 1), .int (nI ((pl ||| (ql ||| (if qb then rl else 0))) ||| (if pb || (rb && qb) then 1 else 0)))]) → E17 tg = wm_I C 192 g3 → (∀ j, j ≠ t → j ≠ tg → j ≠ 7 → j ≠ 9 + 4 * 0 → j ≠ 10 + 4 * 0 → j ≠ 11 + 4 * 0 → j ≠ 12 + 4 * 0 → E17 j = E j) → lv_has ls 6 [(0, .ref (b + 5)), (1, .ref (b + t)), (2, .ref (b + (9 + 4 * 0))), (3, .int (nI L)), (4, .int (nI (wm_sw1 cn lt L))), (5, .int (nI F))] → W p l e R s m args below meth c H locs 0 0 Q (F0 m 83 ls []) := by
            intro fu
            induction fu with
            | zero => intro F g3 hm; exact absurd hm (Nat.not_lt_zero _)
            | succ fu ih83 =>
              intro F g3 hm hF h2 E17 H locs ls hP hS hE0 hE1 hE2 hE3 hE4 hE5 hE6 hE7 hE8 hE9 hfr hl
              refine lv_iload X.1 X.2.1 dX0_writeTo_83 (lv_at hl 5 rfl) ?_
              refine lv_aload_n X.1 X.2.1 dX0_writeTo_85 rfl (lv_at hl 0 rfl) ?_
              refine wm_get X hP hlt0 hE0 rfl wm_inX0 6 (by decide) wq1_123 rfl dX0_writeTo_86 ?_
              refine wm_icmp_ge (x := F) (y := cn) (tgt := 115) X (by omega) (by omega) dX0_writeTo_89 (by decide) (fun hc89 => ?_) (fun hc89 => ?_)
              · refine lv_iinc (v := nI (L + 1)) (lv' := [(3, .int (nI (L + 1))), (0, .ref (b + 5)), (1, .ref (b + t)), (2, .ref (b + (9 + 4 * 0))), (4, .int (nI (wm_sw1 cn lt L))), (5, .int (nI F))]) X.1 X.2.1 dX0_writeTo_115 hl (k := 3) rfl (wm_inc L) (by decide) rfl (fun ls hl => ?_)
                refine lv_goto (tgt := 67) X.1 X.2.1 dX0_writeTo_118 (by decide) ?_
                exact ih67 (L + 1) g3 (by omega) (by omega) (wm_wtL h2 hc89) E17 _ _ _ hP hS hE0 hE1 hE2 hE3 hE4 hE5 hE6 hE7 hE8 hE9 hfr (lv_sub hl [1, 2, 3, 0] rfl)
              · refine lv_aload_n X.1 X.2.1 dX0_writeTo_92 rfl (lv_at hl 1 rfl) ?_
                refine lv_iload X.1 X.2.1 dX0_writeTo_93 (lv_at hl 5 rfl) ?_
                refine lv_iload_n X.1 X.2.1 dX0_writeTo_95 rfl (lv_at hl 3 rfl) ?_
                refine lv_aload_n X.1 X.2.1 dX0_writeTo_96 rfl (lv_at hl 0 rfl) ?_
                refine wm_get X hP hlt0 hE0 rfl wm_inX0 3 (by decide) wq1_120 rfl dX0_writeTo_97 ?_
                refine lv_iload X.1 X.2.1 dX0_writeTo_100 (lv_at hl 5 rfl) ?_
                refine wm_iald (i := F) X hP hlt2 hE2 (by omega) (by decide) dX0_writeTo_102 ?_
                refine lv_iload X.1 X.2.1 dX0_writeTo_103 (lv_at hl 4 rfl) ?_
                refine wm_iand (x := ((va_up (wm_lk fl cn rl qf) 0 (pf ||| (rf ||| (if rb then qf else 0)))) F)) (y := (wm_sw1 cn lt L)) X dX0_writeTo_105 ?_
                refine wm_callVv (k := 3) (As := [.int (nI F), .int (nI L), .int (nI (((va_up (wm_lk fl cn rl qf) 0 (pf ||| (rf ||| (if rb then qf else 0)))) F) &&& (wm_sw1 cn lt L)))]) (rest := []) X hP hS hlt8 hE8 rfl (kX2_putGoals l D C b n E17 t tg cn 1 ((pl ||| (ql ||| (if qb then rl else 0))) ||| (if pb || (rb && qb) then 1 else 0)) F L (((va_up (wm_lk fl cn rl qf) 0 (pf ||| (rf ||| (if rb then qf else 0)))) F) &&& (wm_sw1 cn lt L)) g3 hlt8 hE8 hlt9 hE9 (by omega) (by omega)) wq2_212 wq2_213 wq2_214 wq1_2 wq2_215 (by decide) (by rw [hRe]; exact ⟨Nat.le_of_ble_eq_true rfl, Nat.le_of_ble_eq_true rfl⟩) rfl hl.1 rfl (Nat.le_of_ble_eq_true rfl) (Nat.zero_le _) (Nat.zero_le _) dX0_writeTo_106 (fun E19 H locs hw hP hS => ?_)
                obtain ⟨hE9, hq⟩ := hw
                have hE0 := (hq 5 (by omega)).trans hE0
                have hE1 := (hq 6 (by omega)).trans hE1
                have hE2 := (hq 7 (by omega)).trans hE2
                have hE3 := (hq 8 (by omega)).trans hE3
                have hE4 := (hq (9 + 4 * 0) (by omega)).trans hE4
                have hE5 := (hq (10 + 4 * 0) (by omega)).trans hE5
                have hE6 := (hq (11 + 4 * 0) (by omega)).trans hE6
                have hE7 := (hq (12 + 4 * 0) (by omega)).trans hE7
                have hE8 := (hq t (by omega)).trans hE8
                have hfr : ∀ j, j ≠ t → j ≠ tg → j ≠ 7 → j ≠ 9 + 4 * 0 → j ≠ 10 + 4 * 0 → j ≠ 11 + 4 * 0 → j ≠ 12 + 4 * 0 → E19 j = E j := fun j h0 h1 h2 h3 h4 h5 h6 => (hq j h1).trans (hfr j h0 h1 h2 h3 h4 h5 h6)
                refine lv_iinc (v := nI (F + 1)) (lv' := [(5, .int (nI (F + 1))), (0, .ref (b + 5)), (1, .ref (b + t)), (2, .ref (b + (9 + 4 * 0))), (3, .int (nI L)), (4, .int (nI (wm_sw1 cn lt L)))]) X.1 X.2.1 dX0_writeTo_109 hl (k := 5) rfl (wm_inc F) (by decide) rfl (fun ls hl => ?_)
                refine lv_goto (tgt := 83) X.1 X.2.1 dX0_writeTo_112 (by decide) ?_
                exact ih83 (F + 1) (va_up g3 (L * 24 + F) (((va_up (wm_lk fl cn rl qf) 0 (pf ||| (rf ||| (if rb then qf else 0)))) F) &&& (wm_sw1 cn lt L))) (by omega) (by omega) (wm_wt1 h2 hcn hc89) E19 _ _ _ hP hS hE0 hE1 hE2 hE3 hE4 hE5 hE6 hE7 hE8 hE9 hfr (lv_sub hl [1, 2, 3, 4, 5, 0] rfl)
          exact L83 (cn - 0 + 1) 0 g1 (Nat.lt_succ_self _) (by omega) h1 E14 _ _ _ hP hS hE0 hE1 hE2 hE3 hE4 hE5 hE6 hE7 hE8 hE9 hfr (lv_sub hl [2, 3, 4, 5, 1, 0] rfl)
    exact L67 (8 - 0 + 1) 0 g13 (Nat.lt_succ_self _) (by omega) wm_wt0 E13 _ _ _ hP hS hE0 hE1 hE2 hE3 hE4 hE5 hE6 hE7 hE8 hE9 hfr (lv_sub hl [2, 3, 1, 0] rfl)
