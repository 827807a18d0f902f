def pparsez (C : Nat → ClassId) (b : Nat) (E : Nat → va_E) (fk fp sz : Nat) (z : wm_pst) (tx : Nat → Nat) : (Nat → va_E) → Prop := fun E' => (∀ j, (j < 5 ∨ 93 ≤ j) → E' j = E j) ∧ wm_rd C b E' (wm_kd (wm_go tx sz 0 (wm_z0 z))) (wm_pl (wm_go tx sz 0 (wm_z0 z))) (wm_go tx sz 0 (wm_z0 z)).2.2
set_option maxHeartbeats 4000000 in
set_option maxRecDepth 100000 in
theorem kparsez (l : Launch) (D : va_G) (C : Nat → ClassId) (b n : Nat) (E : Nat → va_E) (fk fp sz : Nat) (z : wm_pst) (tx : Nat → Nat) (hlt0 : 4 < n) (hE0 : E 4 = wm_B C 200 (fun j => wm_sb (tx j))) (hn : 93 ≤ n) (hz : wm_rd C b E fk fp z) (hb : wm_zb (wm_z0 z)) (hsz : sz ≤ 200) (htx : ∀ i, tx i < 256) : Met l yX0_parse (wm_ws yX0_parse cX0_parse 5 none) { frames := 9, cells := 0, slots := 0, locals := 282 } (va_Pc [.ref (b + 5), .ref (b + 4), .int (nI sz)] (wm_G D C b n E)) (va_Qv (pparsez C b E fk fp sz z tx) (fun E' t => wm_P D b n E' t.heap) (wm_A b)) 0 0 (wm_A b) := by
  refine wm_ofW (by decide) (Nat.le_of_ble_eq_true rfl) (fun p e s m below meth c ls R args Q hRe hQ X hr hnm hP hS hl => ?_)
  have hl : lv_has ls 5 [(0, .ref (b + 5)), (1, .ref (b + 4)), (2, .int (nI sz))] := hl
  have hfr : ∀ j, (j < 5 ∨ 93 ≤ j) → E j = E j := fun _ _ => rfl
  have hX5 := hz.1
  have hX6 := hz.2.1
  have hv := hz.2.2.2.2 0 (by decide)
  have hX90 := hv.1
  have hX100 := hv.2.1
  have hX110 := hv.2.2.1
  have hX120 := hv.2.2.2
  refine lv_aload_n X.1 X.2.1 dX0_parse_0 rfl (lv_at hl 0 rfl) ?_
  refine wm_callVv (k := 0) (As := []) (rest := []) X hP hS (by omega) hX5 rfl (kX0_begin l D C b n E fk fp z.1.1 z.1.2.1 z.1.2.2.1 z.1.2.2.2.2 ((z.2.2.2.2 0 0).2.1) ((z.2.2.2.2 0 0).2.2) ((z.2.2.2.2 0 1).2.1) ((z.2.2.2.2 0 1).2.2) ((z.2.2.2.2 0 2).2.1) ((z.2.2.2.2 0 2).2.2) z.1.2.2.2.1 (z.2.2.2.1 0) ((z.2.2.2.2 0 0).1) ((z.2.2.2.2 0 1).1) ((z.2.2.2.2 0 2).1) (by omega) hX5 (by omega) hX6 (by omega) hX90 (by omega) hX100 (by omega) hX110 (by omega) hX120) wq2_112 wq2_114 wqP1_2 wq1_3 wq2_115 (by decide) (by rw [hRe]; exact ⟨Nat.le_of_ble_eq_true rfl, Nat.le_of_ble_eq_true rfl⟩) rfl hl.1 rfl (Nat.le_of_ble_eq_true rfl) (Nat.zero_le _) (Nat.zero_le _) dX0_parse_1 (fun E1 H locs hw hP hS => ?_)
  obtain ⟨hX5, hX90, hX100, hX110, hX120, hq⟩ := hw
  have hE0 := (hq 4 (by decide) (by omega) (by omega) (by omega) (by omega)).trans hE0
  have hX6 := (hq 6 (by decide) (by omega) (by omega) (by omega) (by omega)).trans hX6
  have hfr : ∀ j, (j < 5 ∨ 93 ≤ j) → E1 j = E j := fun j h0 => (hq j (by omega) (by omega) (by omega) (by omega) (by omega)).trans (hfr j h0)
  have hz := wm_rd_z0 hz hX5 hX90 hX100 hX110 hX120 hq
  skip
  generalize hz0e : wm_z0 z = z0 at hz hb ⊢
  have hX5 := hz.1
  refine lv_iconst (v := nI 0) X.1 X.2.1 dX0_parse_4 (by decide) ?_
  refine lv_istore_n (lv' := [(3, .int (nI 0)), (0, .ref (b + 5)), (1, .ref (b + 4)), (2, .int (nI sz))]) X.1 X.2.1 dX0_parse_5 rfl hl (by decide) rfl (fun ls hl => ?_)
  refine lv_iconst (v := nI 0) X.1 X.2.1 dX0_parse_6 (by decide) ?_
  refine lv_istore (lv' := [(4, .int (nI 0)), (3, .int (nI 0)), (0, .ref (b + 5)), (1, .ref (b + 4)), (2, .int (nI sz))]) X.1 X.2.1 dX0_parse_7 hl (by decide) rfl (fun ls hl => ?_)
  have L9 : ∀ (fu : Nat) (i : Nat) (z1 : wm_pst), 200 - i < fu → (i ≤ sz) → (wm_zb z1) → (wm_go tx (sz - i) i z1 = wm_go tx sz 0 z0) → ∀ (E2 : Nat → va_E) (H : Heap) (locs : List Loc) (ls : Array Slot), wm_P D b n E2 H → wm_S b s.heap H locs → E2 4 = wm_B C 200 (fun j => wm_sb (tx j)) → E2 5 = .inr (0, [.int (nI fk), .int (nI fp), .ref (b + 6), .ref (b + 7), .ref (b + 8), .int (nI z1.1.1), .int (nI z1.1.2.1), .int (nI z1.1.2.2.1), .int (nI z1.1.2.2.2.1.toNat), .int (nI z1.1.2.2.2.2)]) → (wm_rd C b E2 fk fp z1) → (∀ j, (j < 5 ∨ 93 ≤ j) → E2 j = E j) → lv_has ls 5 [(0, .ref (b + 5)), (1, .ref (b + 4)), (2, .int (nI sz)), (3, .int (nI 0)), (4, .int (nI i))] → W p l e R s m args below meth c H locs 0 0 Q (F0 m 9 ls []) := by
    intro fu
    induction fu with
    | zero => intro i z1 hm; exact absurd hm (Nat.not_lt_zero _)
    | succ fu ih9 =>
      intro i z1 hm hi hb hrun E2 H locs ls hP hS hE0 hX5 hz hfr hl
      have hb19 := hb.1.2.2.2.1
      have hb11 := hb.1.1
      refine lv_iload X.1 X.2.1 dX0_parse_9 (lv_at hl 4 rfl) ?_
      refine lv_iload_n X.1 X.2.1 dX0_parse_11 rfl (lv_at hl 2 rfl) ?_
      refine wm_icmp_ge (x := i) (y := sz) (tgt := 55) X (by omega) (by omega) dX0_parse_12 (by decide) (fun hc12 => ?_) (fun hc12 => ?_)
      · have hb19 := hb.1.2.2.2.1
        have hb11 := hb.1.1
        refine lv_iload_n X.1 X.2.1 dX0_parse_55 rfl (lv_at hl 3 rfl) ?_
        refine lv_if_ne (tgt := 75) X.1 X.2.1 dX0_parse_56 (by decide) (fun h => by exfalso; revert h; decide) (fun _ => ?_)
        refine lv_aload_n X.1 X.2.1 dX0_parse_59 rfl (lv_at hl 0 rfl) ?_
        refine wm_get X hP (by omega) hX5 rfl wm_inX0 7 (by decide) wq1_124 rfl dX0_parse_60 ?_
        refine wm_if_ne (x := z1.1.2.2.1) (tgt := 73) X (by omega) dX0_parse_63 (by decide) (fun hc63 => ?_) (fun hc63 => ?_)
        · refine lv_iconst (v := nI 1) X.1 X.2.1 dX0_parse_73 (by decide) ?_
          refine lv_istore_n (lv' := [(3, .int (nI 1)), (0, .ref (b + 5)), (1, .ref (b + 4)), (2, .int (nI sz)), (4, .int (nI i))]) X.1 X.2.1 dX0_parse_74 rfl hl (by decide) rfl (fun ls hl => ?_)
          refine lv_aload_n X.1 X.2.1 dX0_parse_75 rfl (lv_at hl 1 rfl) ?_
          refine lv_iload_n X.1 X.2.1 dX0_parse_76 rfl (lv_at hl 0 rfl) ?_
          refine wm_put (v := .int (nI 1)) X hP hS (by omega) hX5 rfl wm_inX0 tyX0 tyX0_ok nmX0 0 (by decide) wq1_115 rfl rfl rfl (fs1 := [.int (nI 1), .int (nI fp), .ref (b + 6), .ref (b + 7), .ref (b + 8), .int (nI z1.1.1), .int (nI z1.1.2.1), .int (nI z1.1.2.2.1), .int (nI z1.1.2.2.2.1.toNat), .int (nI z1.1.2.2.2.2)]) rfl (Nat.le_of_ble_eq_true rfl) dX0_parse_77 (fun H locs E5 hP hS hX5 hq => ?_)
          have hE0 := (hq 4 (by decide)).trans hE0
          have hfr : ∀ j, (j < 5 ∨ 93 ≤ j) → E5 j = E j := fun j h0 => (hq j (by omega)).trans (hfr j h0)
          have hz := wm_rd_put hz hX5 hq
          refine lv_aload_n X.1 X.2.1 dX0_parse_80 rfl (lv_at hl 1 rfl) ?_
          refine lv_iload_n X.1 X.2.1 dX0_parse_81 rfl (lv_at hl 0 rfl) ?_
          refine lv_if_ne (tgt := 89) X.1 X.2.1 dX0_parse_82 (by decide) (fun _ => ?_) (fun h => by exfalso; revert h; decide)
          refine lv_iload X.1 X.2.1 dX0_parse_89 (lv_at hl 4 rfl) ?_
          refine wm_put (v := .int (nI i)) X hP hS (by omega) hX5 rfl wm_inX0 tyX0 tyX0_ok nmX0 1 (by decide) wq1_117 rfl rfl rfl (fs1 := [.int (nI 1), .int (nI i), .ref (b + 6), .ref (b + 7), .ref (b + 8), .int (nI z1.1.1), .int (nI z1.1.2.1), .int (nI z1.1.2.2.1), .int (nI z1.1.2.2.2.1.toNat), .int (nI z1.1.2.2.2.2)]) rfl (Nat.le_of_ble_eq_true rfl) dX0_parse_91 (fun H locs E6 hP hS hX5 hq => ?_)
          have hE0 := (hq 4 (by decide)).trans hE0
          have hfr : ∀ j, (j < 5 ∨ 93 ≤ j) → E6 j = E j := fun j h0 => (hq j (by omega)).trans (hfr j h0)
          have hz := wm_rd_put hz hX5 hq
          have hpr := wm_go0 hrun hc12
          have hk1 : wm_kd (0, i, z1) = 1 := (if_pos ⟨rfl, Or.inl hc63⟩)
          exact wm_vret (post := pparsez C b E fk fp sz z tx) X hr hP hS ⟨hfr, (by rw [hz0e]; exact wm_fin hpr hz hk1 (by unfold wm_pl; rw [hk1]; first | exact if_pos rfl | exact if_neg (by decide) | exact if_neg hc43))⟩ hQ dX0_parse_94
        · refine lv_aload_n X.1 X.2.1 dX0_parse_66 rfl (lv_at hl 0 rfl) ?_
          refine wm_get X hP (by omega) hX5 rfl wm_inX0 5 (by decide) wq1_122 rfl dX0_parse_67 ?_
          refine wm_if_le (x := z1.1.1) (tgt := 75) X (by omega) dX0_parse_70 (by decide) (fun hc70 => ?_) (fun hc70 => ?_)
          · refine lv_aload_n X.1 X.2.1 dX0_parse_75 rfl (lv_at hl 0 rfl) ?_
            refine lv_iload_n X.1 X.2.1 dX0_parse_76 rfl (lv_at hl 3 rfl) ?_
            refine wm_put (v := .int (nI 0)) X hP hS (by omega) hX5 rfl wm_inX0 tyX0 tyX0_ok nmX0 0 (by decide) wq1_115 rfl rfl rfl (fs1 := [.int (nI 0), .int (nI fp), .ref (b + 6), .ref (b + 7), .ref (b + 8), .int (nI z1.1.1), .int (nI z1.1.2.1), .int (nI z1.1.2.2.1), .int (nI z1.1.2.2.2.1.toNat), .int (nI z1.1.2.2.2.2)]) rfl (Nat.le_of_ble_eq_true rfl) dX0_parse_77 (fun H locs E8 hP hS hX5 hq => ?_)
            have hE0 := (hq 4 (by decide)).trans hE0
            have hfr : ∀ j, (j < 5 ∨ 93 ≤ j) → E8 j = E j := fun j h0 => (hq j (by omega)).trans (hfr j h0)
            have hz := wm_rd_put hz hX5 hq
            refine lv_aload_n X.1 X.2.1 dX0_parse_80 rfl (lv_at hl 0 rfl) ?_
            refine lv_iload_n X.1 X.2.1 dX0_parse_81 rfl (lv_at hl 3 rfl) ?_
            refine lv_if_ne (tgt := 89) X.1 X.2.1 dX0_parse_82 (by decide) (fun h => by exfalso; revert h; decide) (fun _ => ?_)
            refine lv_iconst (v := nI 4294967295) X.1 X.2.1 dX0_parse_85 (by decide) ?_
            refine lv_goto (tgt := 91) X.1 X.2.1 dX0_parse_86 (by decide) ?_
            refine wm_put (v := .int (nI 4294967295)) X hP hS (by omega) hX5 rfl wm_inX0 tyX0 tyX0_ok nmX0 1 (by decide) wq1_117 rfl rfl rfl (fs1 := [.int (nI 0), .int (nI 4294967295), .ref (b + 6), .ref (b + 7), .ref (b + 8), .int (nI z1.1.1), .int (nI z1.1.2.1), .int (nI z1.1.2.2.1), .int (nI z1.1.2.2.2.1.toNat), .int (nI z1.1.2.2.2.2)]) rfl (Nat.le_of_ble_eq_true rfl) dX0_parse_91 (fun H locs E9 hP hS hX5 hq => ?_)
            have hE0 := (hq 4 (by decide)).trans hE0
            have hfr : ∀ j, (j < 5 ∨ 93 ≤ j) → E9 j = E j := fun j h0 => (hq j (by omega)).trans (hfr j h0)
            have hz := wm_rd_put hz hX5 hq
            have hpr := wm_go0 hrun hc12
            have hk1 : wm_kd (0, i, z1) = 0 := (if_neg (fun q => q.2.elim (fun q => q hc63) (fun q => by dsimp only at q; omega)))
            exact wm_vret (post := pparsez C b E fk fp sz z tx) X hr hP hS ⟨hfr, (by rw [hz0e]; exact wm_fin hpr hz hk1 (by unfold wm_pl; rw [hk1]; first | exact if_pos rfl | exact if_neg (by decide) | exact if_neg hc43))⟩ hQ dX0_parse_94
          · refine lv_iconst (v := nI 1) X.1 X.2.1 dX0_parse_73 (by decide) ?_
            refine lv_istore_n (lv' := [(3, .int (nI 1)), (0, .ref (b + 5)), (1, .ref (b + 4)), (2, .int (nI sz)), (4, .int (nI i))]) X.1 X.2.1 dX0_parse_74 rfl hl (by decide) rfl (fun ls hl => ?_)
            refine lv_aload_n X.1 X.2.1 dX0_parse_75 rfl (lv_at hl 1 rfl) ?_
            refine lv_iload_n X.1 X.2.1 dX0_parse_76 rfl (lv_at hl 0 rfl) ?_
            refine wm_put (v := .int (nI 1)) X hP hS (by omega) hX5 rfl wm_inX0 tyX0 tyX0_ok nmX0 0 (by decide) wq1_115 rfl rfl rfl (fs1 := [.int (nI 1), .int (nI fp), .ref (b + 6), .ref (b + 7), .ref (b + 8), .int (nI z1.1.1), .int (nI z1.1.2.1), .int (nI z1.1.2.2.1), .int (nI z1.1.2.2.2.1.toNat), .int (nI z1.1.2.2.2.2)]) rfl (Nat.le_of_ble_eq_true rfl) dX0_parse_77 (fun H locs E10 hP hS hX5 hq => ?_)
            have hE0 := (hq 4 (by decide)).trans hE0
            have hfr : ∀ j, (j < 5 ∨ 93 ≤ j) → E10 j = E j := fun j h0 => (hq j (by omega)).trans (hfr j h0)
            have hz := wm_rd_put hz hX5 hq
            refine lv_aload_n X.1 X.2.1 dX0_parse_80 rfl (lv_at hl 1 rfl) ?_
            refine lv_iload_n X.1 X.2.1 dX0_parse_81 rfl (lv_at hl 0 rfl) ?_
            refine lv_if_ne (tgt := 89) X.1 X.2.1 dX0_parse_82 (by decide) (fun _ => ?_) (fun h => by exfalso; revert h; decide)
            refine lv_iload X.1 X.2.1 dX0_parse_89 (lv_at hl 4 rfl) ?_
            refine wm_put (v := .int (nI i)) X hP hS (by omega) hX5 rfl wm_inX0 tyX0 tyX0_ok nmX0 1 (by decide) wq1_117 rfl rfl rfl (fs1 := [.int (nI 1), .int (nI i), .ref (b + 6), .ref (b + 7), .ref (b + 8), .int (nI z1.1.1), .int (nI z1.1.2.1), .int (nI z1.1.2.2.1), .int (nI z1.1.2.2.2.1.toNat), .int (nI z1.1.2.2.2.2)]) rfl (Nat.le_of_ble_eq_true rfl) dX0_parse_91 (fun H locs E11 hP hS hX5 hq => ?_)
            have hE0 := (hq 4 (by decide)).trans hE0
            have hfr : ∀ j, (j < 5 ∨ 93 ≤ j) → E11 j = E j := fun j h0 => (hq j (by omega)).trans (hfr j h0)
            have hz := wm_rd_put hz hX5 hq
            have hpr := wm_go0 hrun hc12
            have hk1 : wm_kd (0, i, z1) = 1 := (if_pos ⟨rfl, Or.inr (by dsimp only; omega)⟩)
            exact wm_vret (post := pparsez C b E fk fp sz z tx) X hr hP hS ⟨hfr, (by rw [hz0e]; exact wm_fin hpr hz hk1 (by unfold wm_pl; rw [hk1]; first | exact if_pos rfl | exact if_neg (by decide) | exact if_neg hc43))⟩ hQ dX0_parse_94
      · refine lv_aload_n X.1 X.2.1 dX0_parse_15 rfl (lv_at hl 0 rfl) ?_
        refine wm_get X hP (by omega) hX5 rfl wm_inX0 7 (by decide) wq1_124 rfl dX0_parse_16 ?_
        refine wm_if_ne (x := z1.1.2.2.1) (tgt := 33) X (by omega) dX0_parse_19 (by decide) (fun hc19 => ?_) (fun hc19 => ?_)
        · refine lv_aload_n X.1 X.2.1 dX0_parse_33 rfl (lv_at hl 0 rfl) ?_
          refine lv_aload_n X.1 X.2.1 dX0_parse_34 rfl (lv_at hl 1 rfl) ?_
          refine lv_iload X.1 X.2.1 dX0_parse_35 (lv_at hl 4 rfl) ?_
          refine wm_bald (i := i) X hP hlt0 hE0 (by omega) (by decide) dX0_parse_37 ?_
          refine wm_callVi (k := 1) (As := [.int (wm_sb (tx i))]) (rest := []) X hP hS (by omega) hX5 rfl (kTI l D C b n E2 fk fp (tx i) z1 hn hz hb (htx i)) wq2_178 wq2_180 wqP1_12 wq1_3 wq2_181 (by decide) (by rw [hRe]; exact ⟨Nat.le_of_ble_eq_true rfl, Nat.le_of_ble_eq_true rfl⟩) rfl hl.1 rfl (Nat.le_of_ble_eq_true rfl) (Nat.zero_le _) (Nat.zero_le _) dX0_parse_38 (fun r13 E13 H locs hw hP hS => ?_)
          obtain ⟨hrt, hz, hq⟩ := hw
          subst hrt
          have hE0 := (hq 4 (by omega)).trans hE0
          have hfr : ∀ j, (j < 5 ∨ 93 ≤ j) → E13 j = E j := fun j h0 => (hq j (by omega)).trans (hfr j h0)
          have hby : wm_by z1 (tx i) = wm_tz z1 (tx i) := if_neg hc19
          rw [← hby] at hz ⊢
          have hb := wm_by_b (x := tx i) hb
          have hX5 := hz.1
          have hkk := wm_by_k z1 (tx i)
          refine lv_istore_n (lv' := [(3, .int (nI ((wm_by z1 (tx i)).1))), (0, .ref (b + 5)), (1, .ref (b + 4)), (2, .int (nI sz)), (4, .int (nI i))]) X.1 X.2.1 dX0_parse_41 rfl hl (by decide) rfl (fun ls hl => ?_)
          refine lv_iload_n X.1 X.2.1 dX0_parse_42 rfl (lv_at hl 0 rfl) ?_
          refine wm_if_eq (x := ((wm_by z1 (tx i)).1)) (tgt := 49) X (by omega) dX0_parse_43 (by decide) (fun hc43 => ?_) (fun hc43 => ?_)
          · rw [hc43] at hl
            refine lv_iinc (v := nI (i + 1)) (lv' := [(4, .int (nI (i + 1))), (3, .int (nI 0)), (0, .ref (b + 5)), (1, .ref (b + 4)), (2, .int (nI sz))]) X.1 X.2.1 dX0_parse_49 hl (k := 4) rfl (wm_inc i) (by decide) rfl (fun ls hl => ?_)
            refine lv_goto (tgt := 9) X.1 X.2.1 dX0_parse_52 (by decide) ?_
            exact ih9 (i + 1) ((wm_by z1 (tx i)).2) (by omega) (by omega) hb (wm_go1 hrun (by omega) hc43) E13 _ _ _ hP hS hE0 hX5 hz hfr (lv_sub hl [2, 3, 4, 1, 0] rfl)
          · refine lv_goto (tgt := 55) X.1 X.2.1 dX0_parse_46 (by decide) ?_
            have hb19 := hb.1.2.2.2.1
            have hb11 := hb.1.1
            refine lv_iload_n X.1 X.2.1 dX0_parse_55 rfl (lv_at hl 0 rfl) ?_
            refine wm_if_ne (x := ((wm_by z1 (tx i)).1)) (tgt := 75) X (by omega) dX0_parse_56 (by decide) (fun hc56 => ?_) (fun hc56 => ?_)
            · refine lv_aload_n X.1 X.2.1 dX0_parse_75 rfl (lv_at hl 1 rfl) ?_
              refine lv_iload_n X.1 X.2.1 dX0_parse_76 rfl (lv_at hl 0 rfl) ?_
              refine wm_put (v := .int (nI ((wm_by z1 (tx i)).1))) X hP hS (by omega) hX5 rfl wm_inX0 tyX0 tyX0_ok nmX0 0 (by decide) wq1_115 rfl rfl rfl (fs1 := [.int (nI ((wm_by z1 (tx i)).1)), .int (nI fp), .ref (b + 6), .ref (b + 7), .ref (b + 8), .int (nI ((wm_by z1 (tx i)).2.1.1)), .int (nI ((wm_by z1 (tx i)).2.1.2.1)), .int (nI ((wm_by z1 (tx i)).2.1.2.2.1)), .int (nI ((wm_by z1 (tx i)).2.1.2.2.2.1).toNat), .int (nI ((wm_by z1 (tx i)).2.1.2.2.2.2))]) rfl (Nat.le_of_ble_eq_true rfl) dX0_parse_77 (fun H locs E16 hP hS hX5 hq => ?_)
              have hE0 := (hq 4 (by decide)).trans hE0
              have hfr : ∀ j, (j < 5 ∨ 93 ≤ j) → E16 j = E j := fun j h0 => (hq j (by omega)).trans (hfr j h0)
              have hz := wm_rd_put hz hX5 hq
              refine lv_aload_n X.1 X.2.1 dX0_parse_80 rfl (lv_at hl 1 rfl) ?_
              refine lv_iload_n X.1 X.2.1 dX0_parse_81 rfl (lv_at hl 0 rfl) ?_
              refine wm_if_ne (x := ((wm_by z1 (tx i)).1)) (tgt := 89) X (by omega) dX0_parse_82 (by decide) (fun hc82 => ?_) (fun hc82 => ?_)
              · refine lv_iload X.1 X.2.1 dX0_parse_89 (lv_at hl 4 rfl) ?_
                refine wm_put (v := .int (nI i)) X hP hS (by omega) hX5 rfl wm_inX0 tyX0 tyX0_ok nmX0 1 (by decide) wq1_117 rfl rfl rfl (fs1 := [.int (nI ((wm_by z1 (tx i)).1)), .int (nI i), .ref (b + 6), .ref (b + 7), .ref (b + 8), .int (nI ((wm_by z1 (tx i)).2.1.1)), .int (nI ((wm_by z1 (tx i)).2.1.2.1)), .int (nI ((wm_by z1 (tx i)).2.1.2.2.1)), .int (nI ((wm_by z1 (tx i)).2.1.2.2.2.1).toNat), .int (nI ((wm_by z1 (tx i)).2.1.2.2.2.2))]) rfl (Nat.le_of_ble_eq_true rfl) dX0_parse_91 (fun H locs E18 hP hS hX5 hq => ?_)
                have hE0 := (hq 4 (by decide)).trans hE0
                have hfr : ∀ j, (j < 5 ∨ 93 ≤ j) → E18 j = E j := fun j h0 => (hq j (by omega)).trans (hfr j h0)
                have hz := wm_rd_put hz hX5 hq
                have hpr := wm_go2 hrun (by omega) hc43
                have hk1 : wm_kd ((wm_by z1 (tx i)).1, i, (wm_by z1 (tx i)).2) = (wm_by z1 (tx i)).1 := (if_neg (fun q => hc43 q.1))
                exact wm_vret (post := pparsez C b E fk fp sz z tx) X hr hP hS ⟨hfr, (by rw [hz0e]; exact wm_fin hpr hz hk1 (by unfold wm_pl; rw [hk1]; first | exact if_pos rfl | exact if_neg (by decide) | exact if_neg hc43))⟩ hQ dX0_parse_94
              · exact absurd hc82 hc43
            · exact absurd hc56 hc43
        · refine lv_aload_n X.1 X.2.1 dX0_parse_22 rfl (lv_at hl 0 rfl) ?_
          refine lv_aload_n X.1 X.2.1 dX0_parse_23 rfl (lv_at hl 1 rfl) ?_
          refine lv_iload X.1 X.2.1 dX0_parse_24 (lv_at hl 4 rfl) ?_
          refine wm_bald (i := i) X hP hlt0 hE0 (by omega) (by decide) dX0_parse_26 ?_
          refine wm_callVi (k := 1) (As := [.int (wm_sb (tx i))]) (rest := []) X hP hS (by omega) hX5 rfl (kTO l D C b n E2 fk fp (tx i) z1 hn hz hb (htx i)) wq2_128 wq2_130 wqP1_3 wq1_3 wq2_131 (by decide) (by rw [hRe]; exact ⟨Nat.le_of_ble_eq_true rfl, Nat.le_of_ble_eq_true rfl⟩) rfl hl.1 rfl (Nat.le_of_ble_eq_true rfl) (Nat.zero_le _) (Nat.zero_le _) dX0_parse_27 (fun r19 E19 H locs hw hP hS => ?_)
          obtain ⟨hrt, hz, hq⟩ := hw
          subst hrt
          have hE0 := (hq 4 (by omega)).trans hE0
          have hfr : ∀ j, (j < 5 ∨ 93 ≤ j) → E19 j = E j := fun j h0 => (hq j (by omega)).trans (hfr j h0)
          have hby : wm_by z1 (tx i) = wm_to z1 (tx i) := if_pos hc19
          rw [← hby] at hz ⊢
          have hb := wm_by_b (x := tx i) hb
          have hX5 := hz.1
          have hkk := wm_by_k z1 (tx i)
          refine lv_goto (tgt := 41) X.1 X.2.1 dX0_parse_30 (by decide) ?_
          refine lv_istore_n (lv' := [(3, .int (nI ((wm_by z1 (tx i)).1))), (0, .ref (b + 5)), (1, .ref (b + 4)), (2, .int (nI sz)), (4, .int (nI i))]) X.1 X.2.1 dX0_parse_41 rfl hl (by decide) rfl (fun ls hl => ?_)
          refine lv_iload_n X.1 X.2.1 dX0_parse_42 rfl (lv_at hl 0 rfl) ?_
          refine wm_if_eq (x := ((wm_by z1 (tx i)).1)) (tgt := 49) X (by omega) dX0_parse_43 (by decide) (fun hc43 => ?_) (fun hc43 => ?_)
          · rw [hc43] at hl
            refine lv_iinc (v := nI (i + 1)) (lv' := [(4, .int (nI (i + 1))), (3, .int (nI 0)), (0, .ref (b + 5)), (1, .ref (b + 4)), (2, .int (nI sz))]) X.1 X.2.1 dX0_parse_49 hl (k := 4) rfl (wm_inc i) (by decide) rfl (fun ls hl => ?_)
            refine lv_goto (tgt := 9) X.1 X.2.1 dX0_parse_52 (by decide) ?_
            exact ih9 (i + 1) ((wm_by z1 (tx i)).2) (by omega) (by omega) hb (wm_go1 hrun (by omega) hc43) E19 _ _ _ hP hS hE0 hX5 hz hfr (lv_sub hl [2, 3, 4, 1, 0] rfl)
          · refine lv_goto (tgt := 55) X.1 X.2.1 dX0_parse_46 (by decide) ?_
            have hb19 := hb.1.2.2.2.1
            have hb11 := hb.1.1
            refine lv_iload_n X.1 X.2.1 dX0_parse_55 rfl (lv_at hl 0 rfl) ?_
            refine wm_if_ne (x := ((wm_by z1 (tx i)).1)) (tgt := 75) X (by omega) dX0_parse_56 (by decide) (fun hc56 => ?_) (fun hc56 => ?_)
            · refine lv_aload_n X.1 X.2.1 dX0_parse_75 rfl (lv_at hl 1 rfl) ?_
              refine lv_iload_n X.1 X.2.1 dX0_parse_76 rfl (lv_at hl 0 rfl) ?_
              refine wm_put (v := .int (nI ((wm_by z1 (tx i)).1))) X hP hS (by omega) hX5 rfl wm_inX0 tyX0 tyX0_ok nmX0 0 (by decide) wq1_115 rfl rfl rfl (fs1 := [.int (nI ((wm_by z1 (tx i)).1)), .int (nI fp), .ref (b + 6), .ref (b + 7), .ref (b + 8), .int (nI ((wm_by z1 (tx i)).2.1.1)), .int (nI ((wm_by z1 (tx i)).2.1.2.1)), .int (nI ((wm_by z1 (tx i)).2.1.2.2.1)), .int (nI ((wm_by z1 (tx i)).2.1.2.2.2.1).toNat), .int (nI ((wm_by z1 (tx i)).2.1.2.2.2.2))]) rfl (Nat.le_of_ble_eq_true rfl) dX0_parse_77 (fun H locs E22 hP hS hX5 hq => ?_)
              have hE0 := (hq 4 (by decide)).trans hE0
              have hfr : ∀ j, (j < 5 ∨ 93 ≤ j) → E22 j = E j := fun j h0 => (hq j (by omega)).trans (hfr j h0)
              have hz := wm_rd_put hz hX5 hq
              refine lv_aload_n X.1 X.2.1 dX0_parse_80 rfl (lv_at hl 1 rfl) ?_
              refine lv_iload_n X.1 X.2.1 dX0_parse_81 rfl (lv_at hl 0 rfl) ?_
              refine wm_if_ne (x := ((wm_by z1 (tx i)).1)) (tgt := 89) X (by omega) dX0_parse_82 (by decide) (fun hc82 => ?_) (fun hc82 => ?_)
              · refine lv_iload X.1 X.2.1 dX0_parse_89 (lv_at hl 4 rfl) ?_
                refine wm_put (v := .int (nI i)) X hP hS (by omega) hX5 rfl wm_inX0 tyX0 tyX0_ok nmX0 1 (by decide) wq1_117 rfl rfl rfl (fs1 := [.int (nI ((wm_by z1 (tx i)).1)), .int (nI i), .ref (b + 6), .ref (b + 7), .ref (b + 8), .int (nI ((wm_by z1 (tx i)).2.1.1)), .int (nI ((wm_by z1 (tx i)).2.1.2.1)), .int (nI ((wm_by z1 (tx i)).2.1.2.2.1)), .int (nI ((wm_by z1 (tx i)).2.1.2.2.2.1).toNat), .int (nI ((wm_by z1 (tx i)).2.1.2.2.2.2))]) rfl (Nat.le_of_ble_eq_true rfl) dX0_parse_91 (fun H locs E24 hP hS hX5 hq => ?_)
                have hE0 := (hq 4 (by decide)).trans hE0
                have hfr : ∀ j, (j < 5 ∨ 93 ≤ j) → E24 j = E j := fun j h0 => (hq j (by omega)).trans (hfr j h0)
                have hz := wm_rd_put hz hX5 hq
                have hpr := wm_go2 hrun (by omega) hc43
                have hk1 : wm_kd ((wm_by z1 (tx i)).1, i, (wm_by z1 (tx i)).2) = (wm_by z1 (tx i)).1 := (if_neg (fun q => hc43 q.1))
                exact wm_vret (post := pparsez C b E fk fp sz z tx) X hr hP hS ⟨hfr, (by rw [hz0e]; exact wm_fin hpr hz hk1 (by unfold wm_pl; rw [hk1]; first | exact if_pos rfl | exact if_neg (by decide) | exact if_neg hc43))⟩ hQ dX0_parse_94
              · exact absurd hc82 hc43
            · exact absurd hc56 hc43
  exact L9 (200 - 0 + 1) 0 z0 (Nat.lt_succ_self _) (by omega) hb rfl E1 _ _ _ hP hS hE0 hX5 hz hfr (lv_sub hl [2, 3, 4, 1, 0] rfl)
def preadz0 (C : Nat → ClassId) (b : Nat) (E : Nat → va_E) (fk fp sz k cn st en : Nat) (z : wm_pst) (tx g : Nat → Nat) : Int32 → (Nat → va_E) → Prop := fun r E' => r = nI 4294967295 ∧ (∀ j, (j < 5 ∨ 93 ≤ j) → E' j = E j) ∧ wm_rd C b E' (wm_kd (wm_go tx sz 0 (wm_z0 z))) (wm_pl (wm_go tx sz 0 (wm_z0 z))) (wm_go tx sz 0 (wm_z0 z)).2.2
set_option maxHeartbeats 4000000 in
set_option maxRecDepth 100000 in
theorem kreadz0 (l : Launch) (D : va_G) (C : Nat → ClassId) (b n : Nat) (E : Nat → va_E) (fk fp sz k cn st en : Nat) (z : wm_pst) (tx g : Nat → Nat) (hlt0 : 0 < n) (hE0 : E 0 = .inr (6, [.ref (b + 1), .ref (b + 2), .ref (b + 4), .int (nI sz), .ref (b + 5), .ref (b + 93), .ref (b + 100)])) (hlt1 : 1 < n) (hE1 : E 1 = wm_Q C 4 8 (fun x9 => some (b + (103 + 2 * x9)))) (hlt2 : 4 < n) (hE2 : E 4 = wm_B C 200 (fun j => wm_sb (tx j))) (hn : 119 ≤ n) (hz : wm_rd C b E fk fp z) (hb : wm_zb (wm_z0 z)) (hsz : sz ≤ 200) (htx : ∀ i, tx i < 256) (hkk : k < 8) (hkd : wm_kd (wm_go tx sz 0 (wm_z0 z)) ≠ 0) : Met l yX6_read (wm_ws yX6_read cX6_read 3 (some .int)) { frames := 10, cells := 0, slots := 0, locals := 306 } (va_Pc [.ref (b + 0), .int (nI k)] (wm_G D C b n E)) (va_Qi (preadz0 C b E fk fp sz k cn st en z tx g) (fun E' t => wm_P D b n E' t.heap) (wm_A b)) 0 0 (wm_A b) := by
  refine wm_ofW (by decide) (Nat.le_of_ble_eq_true rfl) (fun p e s m below meth c ls R args Q hRe hQ X hr hnm hP hS hl => ?_)
  have hl : lv_has ls 3 [(0, .ref (b + 0)), (1, .int (nI k))] := hl
  have hfr : ∀ j, (j < 5 ∨ 93 ≤ j) → E j = E j := fun _ _ => rfl
  have hX5 := hz.1
  refine lv_aload_n X.1 X.2.1 dX6_read_0 rfl (lv_at hl 0 rfl) ?_
  refine lv_iload_n X.1 X.2.1 dX6_read_1 rfl (lv_at hl 1 rfl) ?_
  refine wm_callVr (k := 1) (As := [.int (nI k)]) (rest := []) X hP hS hlt0 hE0 rfl (kX6_machineAt l D C b n E sz k hlt0 hE0 hlt1 hE1 (by omega)) wq2_88 wq2_90 wqP1_1 wq1_1 wq2_91 (by decide) (by rw [hRe]; exact ⟨Nat.le_of_ble_eq_true rfl, Nat.le_of_ble_eq_true rfl⟩) rfl hl.1 rfl (Nat.le_of_ble_eq_true rfl) (Nat.zero_le _) (Nat.zero_le _) dX6_read_2 (fun E1 H locs hw hP hS => ?_)
  have hEe := hw
  subst hEe
  refine lv_astore_n (lv' := [(2, .ref (b + (103 + 2 * k))), (0, .ref (b + 0)), (1, .int (nI k))]) X.1 X.2.1 dX6_read_5 rfl hl (by decide) rfl (fun ls hl => ?_)
  refine lv_aload_n X.1 X.2.1 dX6_read_6 rfl (lv_at hl 1 rfl) ?_
  refine wm_get X hP hlt0 hE0 rfl wm_inX6 4 (by decide) wq1_211 rfl dX6_read_7 ?_
  refine lv_aload_n X.1 X.2.1 dX6_read_10 rfl (lv_at hl 1 rfl) ?_
  refine wm_get X hP hlt0 hE0 rfl wm_inX6 2 (by decide) wq1_209 rfl dX6_read_11 ?_
  refine lv_aload_n X.1 X.2.1 dX6_read_14 rfl (lv_at hl 1 rfl) ?_
  refine wm_get X hP hlt0 hE0 rfl wm_inX6 3 (by decide) wq1_210 rfl dX6_read_15 ?_
  refine wm_callVv (k := 2) (As := [.ref (b + 4), .int (nI sz)]) (rest := []) X hP hS (by omega) hX5 rfl (kparsez l D C b n E fk fp sz z tx hlt2 hE2 (by omega) hz hb hsz htx) wq2_108 wq2_109 wq2_110 wq1_3 wq2_111 (by decide) (by rw [hRe]; exact ⟨Nat.le_of_ble_eq_true rfl, Nat.le_of_ble_eq_true rfl⟩) rfl hl.1 rfl (Nat.le_of_ble_eq_true rfl) (Nat.zero_le _) (Nat.zero_le _) dX6_read_18 (fun E2 H locs hw hP hS => ?_)
  obtain ⟨hq, hp2_0⟩ := hw
  have hE0 := (hq 0 (by omega)).trans hE0
  have hE1 := (hq 1 (by omega)).trans hE1
  have hE2 := (hq 4 (by omega)).trans hE2
  have hfr : ∀ j, (j < 5 ∨ 93 ≤ j) → E2 j = E j := fun j h0 => (hq j (by omega)).trans (hfr j h0)
  have hz := hp2_0
  have hb := wm_go_b tx sz 0 _ hb
  have hkk : wm_kd (wm_go tx sz 0 (wm_z0 z)) ≤ 4 := wm_kd_k tx sz 0 _
  have hX5 := hz.1
  refine lv_aload_n X.1 X.2.1 dX6_read_21 rfl (lv_at hl 1 rfl) ?_
  refine wm_get X hP hlt0 hE0 rfl wm_inX6 4 (by decide) wq1_211 rfl dX6_read_22 ?_
  refine wm_get X hP (by omega) hX5 rfl wm_inX0 0 (by decide) wq1_116 rfl dX6_read_25 ?_
  refine wm_if_eq (x := (wm_kd (wm_go tx sz 0 (wm_z0 z)))) (tgt := 33) X (by omega) dX6_read_28 (by decide) (fun hc28 => ?_) (fun hc28 => ?_)
  · exact absurd hc28 hkd
  · refine lv_iconst (v := nI 4294967295) X.1 X.2.1 dX6_read_31 (by decide) ?_
    exact wm_iret (post := preadz0 C b E fk fp sz k cn st en z tx g) X hr hP hS ⟨rfl, hfr, hz⟩ hQ dX6_read_32
def preadz1 (C : Nat → ClassId) (b : Nat) (E : Nat → va_E) (fk fp sz k cn st en : Nat) (z : wm_pst) (tx g : Nat → Nat) : Int32 → (Nat → va_E) → Prop := fun r E' => ∃ (g1 : Nat → Nat), r = nI ((wm_go tx sz 0 (wm_z0 z)).2.2.1.2.1) ∧ (∀ j, ((j < 5 ∨ 93 ≤ j) ∧ j ≠ 103 + 2 * k ∧ j ≠ 104 + 2 * k) → E' j = E j) ∧ E' (103 + 2 * k) = .inr (2, [.ref (b + (104 + 2 * k)), .int (nI ((wm_go tx sz 0 (wm_z0 z)).2.2.1.2.1)), .int (nI 1), .int (nI (wm_en (wm_go tx sz 0 (wm_z0 z)).2.2))]) ∧ E' (104 + 2 * k) = wm_I C 192 g1 ∧ wm_rd C b E' (wm_kd (wm_go tx sz 0 (wm_z0 z))) (wm_pl (wm_go tx sz 0 (wm_z0 z))) (wm_z9 (wm_go tx sz 0 (wm_z0 z)).2.2) ∧ wm_wt (wm_go tx sz 0 (wm_z0 z)).2.2.1.2.1 (wm_z9 (wm_go tx sz 0 (wm_z0 z)).2.2).2.1 (wm_go tx sz 0 (wm_z0 z)).2.2.2.2.1 8 0 g1
set_option maxHeartbeats 4000000 in
set_option maxRecDepth 100000 in
theorem kreadz1 (l : Launch) (D : va_G) (C : Nat → ClassId) (b n : Nat) (E : Nat → va_E) (fk fp sz k cn st en : Nat) (z : wm_pst) (tx g : Nat → Nat) (hlt0 : 0 < n) (hE0 : E 0 = .inr (6, [.ref (b + 1), .ref (b + 2), .ref (b + 4), .int (nI sz), .ref (b + 5), .ref (b + 93), .ref (b + 100)])) (hlt1 : 1 < n) (hE1 : E 1 = wm_Q C 4 8 (fun x9 => some (b + (103 + 2 * x9)))) (hlt2 : 4 < n) (hE2 : E 4 = wm_B C 200 (fun j => wm_sb (tx j))) (hlt3 : 103 + 2 * k < n) (hE3 : E (103 + 2 * k) = .inr (2, [.ref (b + (104 + 2 * k)), .int (nI cn), .int (nI st), .int (nI en)])) (hlt4 : 104 + 2 * k < n) (hE4 : E (104 + 2 * k) = wm_I C 192 g) (hn : 119 ≤ n) (hz : wm_rd C b E fk fp z) (hb : wm_zb (wm_z0 z)) (hsz : sz ≤ 200) (htx : ∀ i, tx i < 256) (hkk : k < 8) (hkd : wm_kd (wm_go tx sz 0 (wm_z0 z)) = 0) : Met l yX6_read (wm_ws yX6_read cX6_read 3 (some .int)) { frames := 10, cells := 0, slots := 0, locals := 306 } (va_Pc [.ref (b + 0), .int (nI k)] (wm_G D C b n E)) (va_Qi (preadz1 C b E fk fp sz k cn st en z tx g) (fun E' t => wm_P D b n E' t.heap) (wm_A b)) 0 0 (wm_A b) := by
  refine wm_ofW (by decide) (Nat.le_of_ble_eq_true rfl) (fun p e s m below meth c ls R args Q hRe hQ X hr hnm hP hS hl => ?_)
  have hl : lv_has ls 3 [(0, .ref (b + 0)), (1, .int (nI k))] := hl
  have hfr : ∀ j, ((j < 5 ∨ 93 ≤ j) ∧ j ≠ 103 + 2 * k ∧ j ≠ 104 + 2 * k) → E j = E j := fun _ _ => rfl
  have hX5 := hz.1
  refine lv_aload_n X.1 X.2.1 dX6_read_0 rfl (lv_at hl 0 rfl) ?_
  refine lv_iload_n X.1 X.2.1 dX6_read_1 rfl (lv_at hl 1 rfl) ?_
  refine wm_callVr (k := 1) (As := [.int (nI k)]) (rest := []) X hP hS hlt0 hE0 rfl (kX6_machineAt l D C b n E sz k hlt0 hE0 hlt1 hE1 (by omega)) wq2_88 wq2_90 wqP1_1 wq1_1 wq2_91 (by decide) (by rw [hRe]; exact ⟨Nat.le_of_ble_eq_true rfl, Nat.le_of_ble_eq_true rfl⟩) rfl hl.1 rfl (Nat.le_of_ble_eq_true rfl) (Nat.zero_le _) (Nat.zero_le _) dX6_read_2 (fun E1 H locs hw hP hS => ?_)
  have hEe := hw
  subst hEe
  refine lv_astore_n (lv' := [(2, .ref (b + (103 + 2 * k))), (0, .ref (b + 0)), (1, .int (nI k))]) X.1 X.2.1 dX6_read_5 rfl hl (by decide) rfl (fun ls hl => ?_)
  refine lv_aload_n X.1 X.2.1 dX6_read_6 rfl (lv_at hl 1 rfl) ?_
  refine wm_get X hP hlt0 hE0 rfl wm_inX6 4 (by decide) wq1_211 rfl dX6_read_7 ?_
  refine lv_aload_n X.1 X.2.1 dX6_read_10 rfl (lv_at hl 1 rfl) ?_
  refine wm_get X hP hlt0 hE0 rfl wm_inX6 2 (by decide) wq1_209 rfl dX6_read_11 ?_
  refine lv_aload_n X.1 X.2.1 dX6_read_14 rfl (lv_at hl 1 rfl) ?_
  refine wm_get X hP hlt0 hE0 rfl wm_inX6 3 (by decide) wq1_210 rfl dX6_read_15 ?_
  refine wm_callVv (k := 2) (As := [.ref (b + 4), .int (nI sz)]) (rest := []) X hP hS (by omega) hX5 rfl (kparsez l D C b n E fk fp sz z tx hlt2 hE2 (by omega) hz hb hsz htx) wq2_108 wq2_109 wq2_110 wq1_3 wq2_111 (by decide) (by rw [hRe]; exact ⟨Nat.le_of_ble_eq_true rfl, Nat.le_of_ble_eq_true rfl⟩) rfl hl.1 rfl (Nat.le_of_ble_eq_true rfl) (Nat.zero_le _) (Nat.zero_le _) dX6_read_18 (fun E2 H locs hw hP hS => ?_)
  obtain ⟨hq, hp2_0⟩ := hw
  have hE0 := (hq 0 (by omega)).trans hE0
  have hE1 := (hq 1 (by omega)).trans hE1
  have hE2 := (hq 4 (by omega)).trans hE2
  have hE3 := (hq (103 + 2 * k) (by omega)).trans hE3
  have hE4 := (hq (104 + 2 * k) (by omega)).trans hE4
  have hfr : ∀ j, ((j < 5 ∨ 93 ≤ j) ∧ j ≠ 103 + 2 * k ∧ j ≠ 104 + 2 * k) → E2 j = E j := fun j h0 => (hq j (by omega)).trans (hfr j h0)
  have hz := hp2_0
  have hb := wm_go_b tx sz 0 _ hb
  have hkk : wm_kd (wm_go tx sz 0 (wm_z0 z)) ≤ 4 := wm_kd_k tx sz 0 _
  have hX5 := hz.1
  refine lv_aload_n X.1 X.2.1 dX6_read_21 rfl (lv_at hl 1 rfl) ?_
  refine wm_get X hP hlt0 hE0 rfl wm_inX6 4 (by decide) wq1_211 rfl dX6_read_22 ?_
  refine wm_get X hP (by omega) hX5 rfl wm_inX0 0 (by decide) wq1_116 rfl dX6_read_25 ?_
  refine wm_if_eq (x := (wm_kd (wm_go tx sz 0 (wm_z0 z)))) (tgt := 33) X (by omega) dX6_read_28 (by decide) (fun hc28 => ?_) (fun hc28 => ?_)
  · refine lv_aload_n X.1 X.2.1 dX6_read_33 rfl (lv_at hl 1 rfl) ?_
    refine wm_get X hP hlt0 hE0 rfl wm_inX6 4 (by decide) wq1_211 rfl dX6_read_34 ?_
    have hX6 := hz.2.1
    have hX7 := hz.2.2.1
    have hX8 := hz.2.2.2.1
    have hv := hz.2.2.2.2 0 (by decide)
    have hX90 := hv.1
    have hX100 := hv.2.1
    have hX110 := hv.2.2.1
    have hX120 := hv.2.2.2
    refine lv_aload_n X.1 X.2.1 dX6_read_37 rfl (lv_at hl 0 rfl) ?_
    refine wm_callVv (k := 1) (As := [.ref (b + (103 + 2 * k))]) (rest := []) X hP hS (by omega) hX5 rfl (kX0_writeTo l D C b n E2 (wm_kd (wm_go tx sz 0 (wm_z0 z))) (wm_pl (wm_go tx sz 0 (wm_z0 z))) ((wm_go tx sz 0 (wm_z0 z)).2.2.1.1) ((wm_go tx sz 0 (wm_z0 z)).2.2.1.2.1) ((wm_go tx sz 0 (wm_z0 z)).2.2.1.2.2.1) ((wm_go tx sz 0 (wm_z0 z)).2.2.1.2.2.2.2) (((wm_go tx sz 0 (wm_z0 z)).2.2.2.2.2.2 0 0).2.1) (((wm_go tx sz 0 (wm_z0 z)).2.2.2.2.2.2 0 0).2.2) (((wm_go tx sz 0 (wm_z0 z)).2.2.2.2.2.2 0 1).2.1) (((wm_go tx sz 0 (wm_z0 z)).2.2.2.2.2.2 0 1).2.2) (((wm_go tx sz 0 (wm_z0 z)).2.2.2.2.2.2 0 2).2.1) (((wm_go tx sz 0 (wm_z0 z)).2.2.2.2.2.2 0 2).2.2) (103 + 2 * k) (104 + 2 * k) cn st en ((wm_go tx sz 0 (wm_z0 z)).2.2.1.2.2.2.1) ((wm_go tx sz 0 (wm_z0 z)).2.2.2.2.2.1 0) (((wm_go tx sz 0 (wm_z0 z)).2.2.2.2.2.2 0 0).1) (((wm_go tx sz 0 (wm_z0 z)).2.2.2.2.2.2 0 1).1) (((wm_go tx sz 0 (wm_z0 z)).2.2.2.2.2.2 0 2).1) ((wm_go tx sz 0 (wm_z0 z)).2.2.2.1) ((wm_go tx sz 0 (wm_z0 z)).2.2.2.2.1) g (by omega) hX5 (by omega) hX6 (by omega) hX7 (by omega) hX8 (by omega) hX90 (by omega) hX100 (by omega) hX110 (by omega) hX120 hlt3 hE3 hlt4 hE4 hb.1.2.2.1 hb.1.2.1 (Nat.lt_trans (hb.2.2.2 0 1).2 (by decide)) (fun i _ => Nat.lt_trans (hb.2.2.1 i) (by decide)) (by omega) (by omega) (by omega)) wq2_194 wq2_195 wq2_196 wq1_3 wq2_197 (by decide) (by rw [hRe]; exact ⟨Nat.le_of_ble_eq_true rfl, Nat.le_of_ble_eq_true rfl⟩) rfl hl.1 rfl (Nat.le_of_ble_eq_true rfl) (Nat.zero_le _) (Nat.zero_le _) dX6_read_38 (fun E4 H locs hw hP hS => ?_)
    obtain ⟨g14, hE3, hE4, hX7, hX90, hX100, hX110, hX120, hq, hp4_0⟩ := hw
    have hE0 := (hq 0 (by omega) (by omega) (by decide) (by omega) (by omega) (by omega) (by omega)).trans hE0
    have hE1 := (hq 1 (by omega) (by omega) (by decide) (by omega) (by omega) (by omega) (by omega)).trans hE1
    have hE2 := (hq 4 (by omega) (by omega) (by decide) (by omega) (by omega) (by omega) (by omega)).trans hE2
    have hX5 := (hq 5 (by omega) (by omega) (by decide) (by omega) (by omega) (by omega) (by omega)).trans hX5
    have hX6 := (hq 6 (by omega) (by omega) (by decide) (by omega) (by omega) (by omega) (by omega)).trans hX6
    have hX8 := (hq 8 (by omega) (by omega) (by decide) (by omega) (by omega) (by omega) (by omega)).trans hX8
    have hfr : ∀ j, ((j < 5 ∨ 93 ≤ j) ∧ j ≠ 103 + 2 * k ∧ j ≠ 104 + 2 * k) → E4 j = E j := fun j h0 => (hq j (by omega) (by omega) (by omega) (by omega) (by omega) (by omega) (by omega)).trans (hfr j h0)
    have hz := wm_rd_z9 hz (t := 103 + 2 * k) (tg := 104 + 2 * k) (by omega) (by omega) hX7 hX90 hX100 hX110 hX120 hq
    have hwt := hp4_0
    refine lv_aload_n X.1 X.2.1 dX6_read_41 rfl (lv_at hl 0 rfl) ?_
    refine wm_get X hP hlt3 hE3 rfl wm_inX2 1 (by decide) wq1_44 rfl dX6_read_42 ?_
    exact wm_iret (post := preadz1 C b E fk fp sz k cn st en z tx g) X hr hP hS ⟨g14, rfl, hfr, hE3, hE4, hz, hwt⟩ hQ dX6_read_45
  · exact absurd hc28 (fun q => q hkd)
def pmreadz0 (C : Nat → ClassId) (b : Nat) (E : Nat → va_E) (th sz fa pl ats aa op fi la wa wc kl : Nat) (be : Bool) (k : Nat) (z : wm_pst) (tx ml fo pF pL rF rL : Nat → Nat) (pB rB : Nat → Bool) : Int32 → (Nat → va_E) → Prop := fun r E' => ∃ (aav : Nat) (atv : Nat) (opv : Nat) (bev : Bool) (fiv : Nat) (lav : Nat) (mlv : Nat → Nat) (fov : Nat → Nat) (pBv : Nat → Bool) (pFv : Nat → Nat) (pLv : Nat → Nat) (rBv : Nat → Bool) (rFv : Nat → Nat) (rLv : Nat → Nat), r = nI 4294967295 ∧ E' 119 = .inr (7, [.int (nI 0), .ref (b + 120), .int (nI sz), .int (nI (wm_kd (wm_go tx sz 0 (wm_z0 z)))), .int (nI (wm_pl (wm_go tx sz 0 (wm_z0 z)))), .ref (b + 121), .ref (b + 122), .ref (b + 123), .ref (b + 124), .ref (b + 125), .ref (b + 126), .ref (b + 127), .int (nI atv), .int (nI aav), .ref (b + 128), .ref (b + 129), .ref (b + 130), .ref (b + 131), .ref (b + 132), .ref (b + 133), .int (nI opv), .int (nI bev.toNat), .int (nI fiv), .int (nI lav), .ref (b + 134), .ref (b + 135), .ref (b + 136), .int (nI wa), .ref (b + 137), .ref (b + 138), .ref (b + 139), .int (nI wc), .ref (b + 140), .int (nI kl), .ref (b + 141), .ref (b + 142), .ref (b + 143), .ref (b + 144), .ref (b + 145)]) ∧ E' 126 = wm_I C 24 mlv ∧ E' 127 = wm_I C 24 fov ∧ E' 128 = wm_Z C 22 pBv ∧ E' 129 = wm_I C 22 pFv ∧ E' 130 = wm_I C 22 pLv ∧ E' 131 = wm_Z C 22 rBv ∧ E' 132 = wm_I C 22 rFv ∧ E' 133 = wm_I C 22 rLv ∧ (∀ j, j ≠ 119 → j ≠ 126 → j ≠ 127 → j ≠ 128 → j ≠ 129 → j ≠ 130 → j ≠ 131 → j ≠ 132 → j ≠ 133 → E' j = E j)
set_option maxHeartbeats 4000000 in
set_option maxRecDepth 100000 in
theorem kmreadz0 (l : Launch) (D : va_G) (C : Nat → ClassId) (b n : Nat) (E : Nat → va_E) (th sz fa pl ats aa op fi la wa wc kl : Nat) (be : Bool) (k : Nat) (z : wm_pst) (tx ml fo pF pL rF rL : Nat → Nat) (pB rB : Nat → Bool) (hlt0 : 119 < n) (hE0 : E 119 = .inr (7, [.int (nI th), .ref (b + 120), .int (nI sz), .int (nI fa), .int (nI pl), .ref (b + 121), .ref (b + 122), .ref (b + 123), .ref (b + 124), .ref (b + 125), .ref (b + 126), .ref (b + 127), .int (nI ats), .int (nI aa), .ref (b + 128), .ref (b + 129), .ref (b + 130), .ref (b + 131), .ref (b + 132), .ref (b + 133), .int (nI op), .int (nI be.toNat), .int (nI fi), .int (nI la), .ref (b + 134), .ref (b + 135), .ref (b + 136), .int (nI wa), .ref (b + 137), .ref (b + 138), .ref (b + 139), .int (nI wc), .ref (b + 140), .int (nI kl), .ref (b + 141), .ref (b + 142), .ref (b + 143), .ref (b + 144), .ref (b + 145)])) (hlt1 : 120 < n) (hE1 : E 120 = wm_I C 200 tx) (hlt2 : 126 < n) (hE2 : E 126 = wm_I C 24 ml) (hlt3 : 127 < n) (hE3 : E 127 = wm_I C 24 fo) (hlt4 : 128 < n) (hE4 : E 128 = wm_Z C 22 pB) (hlt5 : 129 < n) (hE5 : E 129 = wm_I C 22 pF) (hlt6 : 130 < n) (hE6 : E 130 = wm_I C 22 pL) (hlt7 : 131 < n) (hE7 : E 131 = wm_Z C 22 rB) (hlt8 : 132 < n) (hE8 : E 132 = wm_I C 22 rF) (hlt9 : 133 < n) (hE9 : E 133 = wm_I C 22 rL) (hkk : k < 8) (hsz : sz ≤ 200) (htx : ∀ i, tx i < 256) (hzb : wm_zb (wm_z0 z)) (hkd : wm_kd (wm_go tx sz 0 (wm_z0 z)) ≠ 0) : Met l yX7_read (wm_ws yX7_read cX7_read 6 (some .int)) { frames := 3, cells := 0, slots := 0, locals := 71 } (va_Pc [.ref (b + 119), .int (nI k)] (wm_G D C b n E)) (va_Qi (pmreadz0 C b E th sz fa pl ats aa op fi la wa wc kl be k z tx ml fo pF pL rF rL pB rB) (fun E' t => wm_P D b n E' t.heap) (wm_A b)) 0 0 (wm_A b) := by
  refine wm_ofW (by decide) (Nat.le_of_ble_eq_true rfl) (fun p e s m below meth c ls R args Q hRe hQ X hr hnm hP hS hl => ?_)
  have hl : lv_has ls 6 [(0, .ref (b + 119)), (1, .int (nI k))] := hl
  have hfr : ∀ j, j ≠ 119 → j ≠ 126 → j ≠ 127 → j ≠ 128 → j ≠ 129 → j ≠ 130 → j ≠ 131 → j ≠ 132 → j ≠ 133 → E j = E j := fun _ _ _ _ _ _ _ _ _ _ => rfl
  refine lv_aload_n X.1 X.2.1 dX7_read_0 rfl (lv_at hl 0 rfl) ?_
  refine lv_aload_n X.1 X.2.1 dX7_read_1 rfl (lv_at hl 0 rfl) ?_
  refine lv_iload_n X.1 X.2.1 dX7_read_2 rfl (lv_at hl 1 rfl) ?_
  refine wm_callVi (k := 1) (As := [.int (nI k)]) (rest := [.ref (b + 119)]) X hP hS hlt0 hE0 rfl (knoMach l D C b n E k (by omega)) wq5_157 wq5_159 wqP2_15 wq1_8 wq5_160 (by decide) (by rw [hRe]; exact ⟨Nat.le_of_ble_eq_true rfl, Nat.le_of_ble_eq_true rfl⟩) rfl hl.1 rfl (Nat.le_of_ble_eq_true rfl) (Nat.zero_le _) (Nat.zero_le _) dX7_read_3 (fun r1 E1 H locs hw hP hS => ?_)
  obtain ⟨hrt, hEe⟩ := hw
  subst hrt
  subst hEe
  refine wm_ifz_eq (x := false) (tgt := 13) X dX7_read_6 (by decide) (fun _ => ?_) (fun h => by exfalso; revert h; decide)
  refine lv_iconst (v := nI 0) X.1 X.2.1 dX7_read_13 (by decide) ?_
  refine wm_put (v := .int (nI 0)) X hP hS hlt0 hE0 rfl wm_inX7 tyX7 tyX7_ok nmX7 0 (by decide) wq5_22 rfl rfl rfl (fs1 := [.int (nI 0), .ref (b + 120), .int (nI sz), .int (nI fa), .int (nI pl), .ref (b + 121), .ref (b + 122), .ref (b + 123), .ref (b + 124), .ref (b + 125), .ref (b + 126), .ref (b + 127), .int (nI ats), .int (nI aa), .ref (b + 128), .ref (b + 129), .ref (b + 130), .ref (b + 131), .ref (b + 132), .ref (b + 133), .int (nI op), .int (nI be.toNat), .int (nI fi), .int (nI la), .ref (b + 134), .ref (b + 135), .ref (b + 136), .int (nI wa), .ref (b + 137), .ref (b + 138), .ref (b + 139), .int (nI wc), .ref (b + 140), .int (nI kl), .ref (b + 141), .ref (b + 142), .ref (b + 143), .ref (b + 144), .ref (b + 145)]) rfl (Nat.le_of_ble_eq_true rfl) dX7_read_14 (fun H locs E2 hP hS hE0 hq => ?_)
  have hE1 := (hq 120 (by decide)).trans hE1
  have hE2 := (hq 126 (by decide)).trans hE2
  have hE3 := (hq 127 (by decide)).trans hE3
  have hE4 := (hq 128 (by decide)).trans hE4
  have hE5 := (hq 129 (by decide)).trans hE5
  have hE6 := (hq 130 (by decide)).trans hE6
  have hE7 := (hq 131 (by decide)).trans hE7
  have hE8 := (hq 132 (by decide)).trans hE8
  have hE9 := (hq 133 (by decide)).trans hE9
  have hfr : ∀ j, j ≠ 119 → j ≠ 126 → j ≠ 127 → j ≠ 128 → j ≠ 129 → j ≠ 130 → j ≠ 131 → j ≠ 132 → j ≠ 133 → E2 j = E j := fun j h0 h1 h2 h3 h4 h5 h6 h7 h8 => (hq j h0).trans (hfr j h0 h1 h2 h3 h4 h5 h6 h7 h8)
  refine lv_aload_n X.1 X.2.1 dX7_read_17 rfl (lv_at hl 0 rfl) ?_
  refine wm_get X hP hlt0 hE0 rfl wm_inX7 0 (by decide) wq5_22 rfl dX7_read_18 ?_
  refine lv_if_le (tgt := 26) X.1 X.2.1 dX7_read_21 (by decide) (fun _ => ?_) (fun h => by exfalso; revert h; decide)
  refine lv_aload_n X.1 X.2.1 dX7_read_26 rfl (lv_at hl 0 rfl) ?_
  refine lv_iconst (v := nI 0) X.1 X.2.1 dX7_read_27 (by decide) ?_
  refine wm_put (v := .int (nI 0)) X hP hS hlt0 hE0 rfl wm_inX7 tyX7 tyX7_ok nmX7 3 (by decide) wq5_25 rfl rfl rfl (fs1 := [.int (nI 0), .ref (b + 120), .int (nI sz), .int (nI 0), .int (nI pl), .ref (b + 121), .ref (b + 122), .ref (b + 123), .ref (b + 124), .ref (b + 125), .ref (b + 126), .ref (b + 127), .int (nI ats), .int (nI aa), .ref (b + 128), .ref (b + 129), .ref (b + 130), .ref (b + 131), .ref (b + 132), .ref (b + 133), .int (nI op), .int (nI be.toNat), .int (nI fi), .int (nI la), .ref (b + 134), .ref (b + 135), .ref (b + 136), .int (nI wa), .ref (b + 137), .ref (b + 138), .ref (b + 139), .int (nI wc), .ref (b + 140), .int (nI kl), .ref (b + 141), .ref (b + 142), .ref (b + 143), .ref (b + 144), .ref (b + 145)]) rfl (Nat.le_of_ble_eq_true rfl) dX7_read_28 (fun H locs E3 hP hS hE0 hq => ?_)
  have hE1 := (hq 120 (by decide)).trans hE1
  have hE2 := (hq 126 (by decide)).trans hE2
  have hE3 := (hq 127 (by decide)).trans hE3
  have hE4 := (hq 128 (by decide)).trans hE4
  have hE5 := (hq 129 (by decide)).trans hE5
  have hE6 := (hq 130 (by decide)).trans hE6
  have hE7 := (hq 131 (by decide)).trans hE7
  have hE8 := (hq 132 (by decide)).trans hE8
  have hE9 := (hq 133 (by decide)).trans hE9
  have hfr : ∀ j, j ≠ 119 → j ≠ 126 → j ≠ 127 → j ≠ 128 → j ≠ 129 → j ≠ 130 → j ≠ 131 → j ≠ 132 → j ≠ 133 → E3 j = E j := fun j h0 h1 h2 h3 h4 h5 h6 h7 h8 => (hq j h0).trans (hfr j h0 h1 h2 h3 h4 h5 h6 h7 h8)
  refine lv_aload_n X.1 X.2.1 dX7_read_31 rfl (lv_at hl 0 rfl) ?_
  refine lv_iconst (v := nI 4294967295) X.1 X.2.1 dX7_read_32 (by decide) ?_
  refine wm_put (v := .int (nI 4294967295)) X hP hS hlt0 hE0 rfl wm_inX7 tyX7 tyX7_ok nmX7 4 (by decide) wq5_26 rfl rfl rfl (fs1 := [.int (nI 0), .ref (b + 120), .int (nI sz), .int (nI 0), .int (nI 4294967295), .ref (b + 121), .ref (b + 122), .ref (b + 123), .ref (b + 124), .ref (b + 125), .ref (b + 126), .ref (b + 127), .int (nI ats), .int (nI aa), .ref (b + 128), .ref (b + 129), .ref (b + 130), .ref (b + 131), .ref (b + 132), .ref (b + 133), .int (nI op), .int (nI be.toNat), .int (nI fi), .int (nI la), .ref (b + 134), .ref (b + 135), .ref (b + 136), .int (nI wa), .ref (b + 137), .ref (b + 138), .ref (b + 139), .int (nI wc), .ref (b + 140), .int (nI kl), .ref (b + 141), .ref (b + 142), .ref (b + 143), .ref (b + 144), .ref (b + 145)]) rfl (Nat.le_of_ble_eq_true rfl) dX7_read_33 (fun H locs E4 hP hS hE0 hq => ?_)
  have hE1 := (hq 120 (by decide)).trans hE1
  have hE2 := (hq 126 (by decide)).trans hE2
  have hE3 := (hq 127 (by decide)).trans hE3
  have hE4 := (hq 128 (by decide)).trans hE4
  have hE5 := (hq 129 (by decide)).trans hE5
  have hE6 := (hq 130 (by decide)).trans hE6
  have hE7 := (hq 131 (by decide)).trans hE7
  have hE8 := (hq 132 (by decide)).trans hE8
  have hE9 := (hq 133 (by decide)).trans hE9
  have hfr : ∀ j, j ≠ 119 → j ≠ 126 → j ≠ 127 → j ≠ 128 → j ≠ 129 → j ≠ 130 → j ≠ 131 → j ≠ 132 → j ≠ 133 → E4 j = E j := fun j h0 h1 h2 h3 h4 h5 h6 h7 h8 => (hq j h0).trans (hfr j h0 h1 h2 h3 h4 h5 h6 h7 h8)
  refine lv_aload_n X.1 X.2.1 dX7_read_36 rfl (lv_at hl 0 rfl) ?_
  refine lv_iconst (v := nI 0) X.1 X.2.1 dX7_read_37 (by decide) ?_
  refine wm_put (v := .int (nI 0)) X hP hS hlt0 hE0 rfl wm_inX7 tyX7 tyX7_ok nmX7 12 (by decide) wq5_34 rfl rfl rfl (fs1 := [.int (nI 0), .ref (b + 120), .int (nI sz), .int (nI 0), .int (nI 4294967295), .ref (b + 121), .ref (b + 122), .ref (b + 123), .ref (b + 124), .ref (b + 125), .ref (b + 126), .ref (b + 127), .int (nI 0), .int (nI aa), .ref (b + 128), .ref (b + 129), .ref (b + 130), .ref (b + 131), .ref (b + 132), .ref (b + 133), .int (nI op), .int (nI be.toNat), .int (nI fi), .int (nI la), .ref (b + 134), .ref (b + 135), .ref (b + 136), .int (nI wa), .ref (b + 137), .ref (b + 138), .ref (b + 139), .int (nI wc), .ref (b + 140), .int (nI kl), .ref (b + 141), .ref (b + 142), .ref (b + 143), .ref (b + 144), .ref (b + 145)]) rfl (Nat.le_of_ble_eq_true rfl) dX7_read_38 (fun H locs E5 hP hS hE0 hq => ?_)
  have hE1 := (hq 120 (by decide)).trans hE1
  have hE2 := (hq 126 (by decide)).trans hE2
  have hE3 := (hq 127 (by decide)).trans hE3
  have hE4 := (hq 128 (by decide)).trans hE4
  have hE5 := (hq 129 (by decide)).trans hE5
  have hE6 := (hq 130 (by decide)).trans hE6
  have hE7 := (hq 131 (by decide)).trans hE7
  have hE8 := (hq 132 (by decide)).trans hE8
  have hE9 := (hq 133 (by decide)).trans hE9
  have hfr : ∀ j, j ≠ 119 → j ≠ 126 → j ≠ 127 → j ≠ 128 → j ≠ 129 → j ≠ 130 → j ≠ 131 → j ≠ 132 → j ≠ 133 → E5 j = E j := fun j h0 h1 h2 h3 h4 h5 h6 h7 h8 => (hq j h0).trans (hfr j h0 h1 h2 h3 h4 h5 h6 h7 h8)
  refine lv_aload_n X.1 X.2.1 dX7_read_41 rfl (lv_at hl 0 rfl) ?_
  refine lv_iconst (v := nI 0) X.1 X.2.1 dX7_read_42 (by decide) ?_
  refine wm_put (v := .int (nI 0)) X hP hS hlt0 hE0 rfl wm_inX7 tyX7 tyX7_ok nmX7 13 (by decide) wq5_35 rfl rfl rfl (fs1 := [.int (nI 0), .ref (b + 120), .int (nI sz), .int (nI 0), .int (nI 4294967295), .ref (b + 121), .ref (b + 122), .ref (b + 123), .ref (b + 124), .ref (b + 125), .ref (b + 126), .ref (b + 127), .int (nI 0), .int (nI 0), .ref (b + 128), .ref (b + 129), .ref (b + 130), .ref (b + 131), .ref (b + 132), .ref (b + 133), .int (nI op), .int (nI be.toNat), .int (nI fi), .int (nI la), .ref (b + 134), .ref (b + 135), .ref (b + 136), .int (nI wa), .ref (b + 137), .ref (b + 138), .ref (b + 139), .int (nI wc), .ref (b + 140), .int (nI kl), .ref (b + 141), .ref (b + 142), .ref (b + 143), .ref (b + 144), .ref (b + 145)]) rfl (Nat.le_of_ble_eq_true rfl) dX7_read_43 (fun H locs E6 hP hS hE0 hq => ?_)
  have hE1 := (hq 120 (by decide)).trans hE1
  have hE2 := (hq 126 (by decide)).trans hE2
  have hE3 := (hq 127 (by decide)).trans hE3
  have hE4 := (hq 128 (by decide)).trans hE4
  have hE5 := (hq 129 (by decide)).trans hE5
  have hE6 := (hq 130 (by decide)).trans hE6
  have hE7 := (hq 131 (by decide)).trans hE7
  have hE8 := (hq 132 (by decide)).trans hE8
  have hE9 := (hq 133 (by decide)).trans hE9
  have hfr : ∀ j, j ≠ 119 → j ≠ 126 → j ≠ 127 → j ≠ 128 → j ≠ 129 → j ≠ 130 → j ≠ 131 → j ≠ 132 → j ≠ 133 → E6 j = E j := fun j h0 h1 h2 h3 h4 h5 h6 h7 h8 => (hq j h0).trans (hfr j h0 h1 h2 h3 h4 h5 h6 h7 h8)
  refine lv_aload_n X.1 X.2.1 dX7_read_46 rfl (lv_at hl 0 rfl) ?_
  refine lv_iconst (v := nI 0) X.1 X.2.1 dX7_read_47 (by decide) ?_
  refine wm_put (v := .int (nI 0)) X hP hS hlt0 hE0 rfl wm_inX7 tyX7 tyX7_ok nmX7 20 (by decide) wq5_42 rfl rfl rfl (fs1 := [.int (nI 0), .ref (b + 120), .int (nI sz), .int (nI 0), .int (nI 4294967295), .ref (b + 121), .ref (b + 122), .ref (b + 123), .ref (b + 124), .ref (b + 125), .ref (b + 126), .ref (b + 127), .int (nI 0), .int (nI 0), .ref (b + 128), .ref (b + 129), .ref (b + 130), .ref (b + 131), .ref (b + 132), .ref (b + 133), .int (nI 0), .int (nI be.toNat), .int (nI fi), .int (nI la), .ref (b + 134), .ref (b + 135), .ref (b + 136), .int (nI wa), .ref (b + 137), .ref (b + 138), .ref (b + 139), .int (nI wc), .ref (b + 140), .int (nI kl), .ref (b + 141), .ref (b + 142), .ref (b + 143), .ref (b + 144), .ref (b + 145)]) rfl (Nat.le_of_ble_eq_true rfl) dX7_read_48 (fun H locs E7 hP hS hE0 hq => ?_)
  have hE1 := (hq 120 (by decide)).trans hE1
  have hE2 := (hq 126 (by decide)).trans hE2
  have hE3 := (hq 127 (by decide)).trans hE3
  have hE4 := (hq 128 (by decide)).trans hE4
  have hE5 := (hq 129 (by decide)).trans hE5
  have hE6 := (hq 130 (by decide)).trans hE6
  have hE7 := (hq 131 (by decide)).trans hE7
  have hE8 := (hq 132 (by decide)).trans hE8
  have hE9 := (hq 133 (by decide)).trans hE9
  have hfr : ∀ j, j ≠ 119 → j ≠ 126 → j ≠ 127 → j ≠ 128 → j ≠ 129 → j ≠ 130 → j ≠ 131 → j ≠ 132 → j ≠ 133 → E7 j = E j := fun j h0 h1 h2 h3 h4 h5 h6 h7 h8 => (hq j h0).trans (hfr j h0 h1 h2 h3 h4 h5 h6 h7 h8)
  refine lv_aload_n X.1 X.2.1 dX7_read_51 rfl (lv_at hl 0 rfl) ?_
  refine wm_get X hP hlt0 hE0 rfl wm_inX7 11 (by decide) wq5_33 rfl dX7_read_52 ?_
  refine lv_iconst (v := nI 0) X.1 X.2.1 dX7_read_55 (by decide) ?_
  refine lv_iconst (v := nI 0) X.1 X.2.1 dX7_read_56 (by decide) ?_
  refine wm_iast (i := 0) (x := 0) X hP hS hlt3 hE3 (by omega) (by decide) dX7_read_57 (fun H locs E8 hP hS hE3 hq => ?_)
  have hE0 := (hq 119 (by decide)).trans hE0
  have hE1 := (hq 120 (by decide)).trans hE1
  have hE2 := (hq 126 (by decide)).trans hE2
  have hE4 := (hq 128 (by decide)).trans hE4
  have hE5 := (hq 129 (by decide)).trans hE5
  have hE6 := (hq 130 (by decide)).trans hE6
  have hE7 := (hq 131 (by decide)).trans hE7
  have hE8 := (hq 132 (by decide)).trans hE8
  have hE9 := (hq 133 (by decide)).trans hE9
  have hfr : ∀ j, j ≠ 119 → j ≠ 126 → j ≠ 127 → j ≠ 128 → j ≠ 129 → j ≠ 130 → j ≠ 131 → j ≠ 132 → j ≠ 133 → E8 j = E j := fun j h0 h1 h2 h3 h4 h5 h6 h7 h8 => (hq j h2).trans (hfr j h0 h1 h2 h3 h4 h5 h6 h7 h8)
  refine lv_aload_n X.1 X.2.1 dX7_read_58 rfl (lv_at hl 0 rfl) ?_
  refine wm_callVv (k := 0) (As := []) (rest := []) X hP hS hlt0 hE0 rfl (kX7_beginParts l D C b n E8 0 sz 0 4294967295 0 0 0 fi la wa wc kl be pB rB pF pL rF rL hlt0 hE0 hlt4 hE4 hlt5 hE5 hlt6 hE6 hlt7 hE7 hlt8 hE8 hlt9 hE9 (by omega)) wq5_161 wq5_163 wqP3_0 wq1_8 wq5_164 (by decide) (by rw [hRe]; exact ⟨Nat.le_of_ble_eq_true rfl, Nat.le_of_ble_eq_true rfl⟩) rfl hl.1 rfl (Nat.le_of_ble_eq_true rfl) (Nat.zero_le _) (Nat.zero_le _) dX7_read_59 (fun E9 H locs hw hP hS => ?_)
  obtain ⟨hE4, hE5, hE6, hE7, hE8, hE9, hq⟩ := hw
  have hE0 := (hq 119 (by decide) (by decide) (by decide) (by decide) (by decide) (by decide)).trans hE0
  have hE1 := (hq 120 (by decide) (by decide) (by decide) (by decide) (by decide) (by decide)).trans hE1
  have hE2 := (hq 126 (by decide) (by decide) (by decide) (by decide) (by decide) (by decide)).trans hE2
  have hE3 := (hq 127 (by decide) (by decide) (by decide) (by decide) (by decide) (by decide)).trans hE3
  have hfr : ∀ j, j ≠ 119 → j ≠ 126 → j ≠ 127 → j ≠ 128 → j ≠ 129 → j ≠ 130 → j ≠ 131 → j ≠ 132 → j ≠ 133 → E9 j = E j := fun j h0 h1 h2 h3 h4 h5 h6 h7 h8 => (hq j h3 h4 h5 h6 h7 h8).trans (hfr j h0 h1 h2 h3 h4 h5 h6 h7 h8)
  have L62 : ∀ (fu : Nat) (fav : Nat) (plv : Nat) (aav : Nat) (atv : Nat) (opv : Nat) (bev : Bool) (fiv : Nat) (lav : Nat) (mlv : Nat → Nat) (fov : Nat → Nat) (pBv : Nat → Bool) (pFv : Nat → Nat) (pLv : Nat → Nat) (rBv : Nat → Bool) (rFv : Nat → Nat) (rLv : Nat → Nat), (if fav = 0 then 201 - aav else 0) < fu → (wm_inv tx sz (wm_go tx sz 0 (wm_z0 z)) fav plv aav atv opv mlv fov pFv pLv rFv rLv pBv rBv) → (opv ≤ 20) → ∀ (E10 : Nat → va_E) (H : Heap) (locs : List Loc) (ls : Array Slot), wm_P D b n E10 H → wm_S b s.heap H locs → E10 119 = .inr (7, [.int (nI 0), .ref (b + 120), .int (nI sz), .int (nI fav), .int (nI plv), .ref (b + 121), .ref (b + 122), .ref (b + 123), .ref (b + 124), .ref (b + 125), .ref (b + 126), .ref (b + 127), .int (nI atv), .int (nI aav), .ref (b + 128), .ref (b + 129), .ref (b + 130), .ref (b + 131), .ref (b + 132), .ref (b + 133), .int (nI opv), .int (nI bev.toNat), .int (nI fiv), .int (nI lav), .ref (b + 134), .ref (b + 135), .ref (b + 136), .int (nI wa), .ref (b + 137), .ref (b + 138), .ref (b + 139), .int (nI wc), .ref (b + 140), .int (nI kl), .ref (b + 141), .ref (b + 142), .ref (b + 143), .ref (b + 144), .ref (b + 145)]) → E10 120 = wm_I C 200 tx → E10 126 = wm_I C 24 mlv → E10 127 = wm_I C 24 fov → E10 128 = wm_Z C 22 pBv → E10 129 = wm_I C 22 pFv → E10 130 = wm_I C 22 pLv → E10 131 = wm_Z C 22 rBv → E10 132 = wm_I C 22 rFv → E10 133 = wm_I C 22 rLv → (∀ j, j ≠ 119 → j ≠ 126 → j ≠ 127 → j ≠ 128 → j ≠ 129 → j ≠ 130 → j ≠ 131 → j ≠ 132 → j ≠ 133 → E10 j = E j) → lv_has ls 6 [(0, .ref (b + 119)), (1, .int (nI k))] → W p l e R s m args below meth c H locs 0 0 Q (F0 m 62 ls []) := by
    intro fu
    induction fu with
    | zero => intro fav plv aav atv opv bev fiv lav mlv fov pBv pFv pLv rBv rFv rLv hm; exact absurd hm (Nat.not_lt_zero _)
    | succ fu ih62 =>
      intro fav plv aav atv opv bev fiv lav mlv fov pBv pFv pLv rBv rFv rLv hm hinv hop9 E10 H locs ls hP hS hE0 hE1 hE2 hE3 hE4 hE5 hE6 hE7 hE8 hE9 hfr hl
      have hfl := wm_inv_le hinv
      refine lv_aload_n X.1 X.2.1 dX7_read_62 rfl (lv_at hl 0 rfl) ?_
      refine wm_get X hP hlt0 hE0 rfl wm_inX7 3 (by decide) wq5_25 rfl dX7_read_63 ?_
      refine wm_if_ne (x := fav) (tgt := 87) X (by omega) dX7_read_66 (by decide) (fun hc66 => ?_) (fun hc66 => ?_)
      · refine lv_aload_n X.1 X.2.1 dX7_read_87 rfl (lv_at hl 0 rfl) ?_
        refine wm_get X hP hlt0 hE0 rfl wm_inX7 20 (by decide) wq5_42 rfl dX7_read_88 ?_
        refine wm_if_le (x := opv) (tgt := 103) X (by omega) dX7_read_91 (by decide) (fun hc91 => ?_) (fun hc91 => ?_)
        · refine lv_aload_n X.1 X.2.1 dX7_read_103 rfl (lv_at hl 0 rfl) ?_
          refine wm_get X hP hlt0 hE0 rfl wm_inX7 3 (by decide) wq5_25 rfl dX7_read_104 ?_
          refine wm_if_le (x := fav) (tgt := 112) X (by omega) dX7_read_107 (by decide) (fun hc107 => ?_) (fun hc107 => ?_)
          · exact absurd hc107 hc66
          · refine lv_iconst (v := nI 4294967295) X.1 X.2.1 dX7_read_110 (by decide) ?_
            have hkp : wm_kd (wm_go tx sz 0 (wm_z0 z)) = fav ∧ wm_pl (wm_go tx sz 0 (wm_z0 z)) = plv := (hinv.resolve_left (fun q => hc66 q.1)).2.2
            exact wm_iret (post := pmreadz0 C b E th sz fa pl ats aa op fi la wa wc kl be k z tx ml fo pF pL rF rL pB rB) X hr hP hS ⟨aav, atv, opv, bev, fiv, lav, mlv, fov, pBv, pFv, pLv, rBv, rFv, rLv, rfl, (by rw [hkp.1, hkp.2]; exact hE0), hE2, hE3, hE4, hE5, hE6, hE7, hE8, hE9, hfr⟩ hQ dX7_read_111
        · refine lv_aload_n X.1 X.2.1 dX7_read_94 rfl (lv_at hl 0 rfl) ?_
          refine lv_iconst (v := nI 1) X.1 X.2.1 dX7_read_95 (by decide) ?_
          refine lv_aload_n X.1 X.2.1 dX7_read_96 rfl (lv_at hl 0 rfl) ?_
          refine wm_get X hP hlt0 hE0 rfl wm_inX7 2 (by decide) wq5_24 rfl dX7_read_97 ?_
          refine wm_callVv (k := 2) (As := [.int (nI 1), .int (nI sz)]) (rest := []) X hP hS hlt0 hE0 rfl (kfail0 l D C b n E10 0 sz fav plv atv aav opv fiv lav wa wc kl bev 1 sz hlt0 hE0 hc66 (by omega)) wq5_180 wq5_182 wqP3_4 wq1_8 wq5_183 (by decide) (by rw [hRe]; exact ⟨Nat.le_of_ble_eq_true rfl, Nat.le_of_ble_eq_true rfl⟩) rfl hl.1 rfl (Nat.le_of_ble_eq_true rfl) (Nat.zero_le _) (Nat.zero_le _) dX7_read_100 (fun E14 H locs hw hP hS => ?_)
          have hEe := hw
          subst hEe
          refine lv_aload_n X.1 X.2.1 dX7_read_103 rfl (lv_at hl 0 rfl) ?_
          refine wm_get X hP hlt0 hE0 rfl wm_inX7 3 (by decide) wq5_25 rfl dX7_read_104 ?_
          refine wm_if_le (x := fav) (tgt := 112) X (by omega) dX7_read_107 (by decide) (fun hc107 => ?_) (fun hc107 => ?_)
          · exact absurd hc107 hc66
          · refine lv_iconst (v := nI 4294967295) X.1 X.2.1 dX7_read_110 (by decide) ?_
            have hkp : wm_kd (wm_go tx sz 0 (wm_z0 z)) = fav ∧ wm_pl (wm_go tx sz 0 (wm_z0 z)) = plv := (hinv.resolve_left (fun q => hc66 q.1)).2.2
            exact wm_iret (post := pmreadz0 C b E th sz fa pl ats aa op fi la wa wc kl be k z tx ml fo pF pL rF rL pB rB) X hr hP hS ⟨aav, atv, opv, bev, fiv, lav, mlv, fov, pBv, pFv, pLv, rBv, rFv, rLv, rfl, (by rw [hkp.1, hkp.2]; exact hE0), hE2, hE3, hE4, hE5, hE6, hE7, hE8, hE9, hfr⟩ hQ dX7_read_111
      · refine lv_aload_n X.1 X.2.1 dX7_read_69 rfl (lv_at hl 0 rfl) ?_
        refine wm_get X hP hlt0 hE0 rfl wm_inX7 13 (by decide) wq5_35 rfl dX7_read_70 ?_
        refine lv_aload_n X.1 X.2.1 dX7_read_73 rfl (lv_at hl 0 rfl) ?_
        refine wm_get X hP hlt0 hE0 rfl wm_inX7 2 (by decide) wq5_24 rfl dX7_read_74 ?_
        refine wm_icmp_ge (x := aav) (y := sz) (tgt := 87) X (Nat.lt_of_le_of_lt (wm_inv_aa hinv hc66) (by omega)) (by omega) dX7_read_77 (by decide) (fun hc77 => ?_) (fun hc77 => ?_)
        · have hend := wm_inv_e hinv hc66 hc77
          refine lv_aload_n X.1 X.2.1 dX7_read_87 rfl (lv_at hl 0 rfl) ?_
          refine wm_get X hP hlt0 hE0 rfl wm_inX7 20 (by decide) wq5_42 rfl dX7_read_88 ?_
          refine wm_if_le (x := opv) (tgt := 103) X (by omega) dX7_read_91 (by decide) (fun hc91 => ?_) (fun hc91 => ?_)
          · refine lv_aload_n X.1 X.2.1 dX7_read_103 rfl (lv_at hl 0 rfl) ?_
            refine wm_get X hP hlt0 hE0 rfl wm_inX7 3 (by decide) wq5_25 rfl dX7_read_104 ?_
            refine wm_if_le (x := fav) (tgt := 112) X (by omega) dX7_read_107 (by decide) (fun hc107 => ?_) (fun hc107 => ?_)
            · exact absurd ((wm_kd_op hend.2.2.2 hend.2.1).2 hc91).1 hkd
            · exfalso; omega
          · refine lv_aload_n X.1 X.2.1 dX7_read_94 rfl (lv_at hl 0 rfl) ?_
            refine lv_iconst (v := nI 1) X.1 X.2.1 dX7_read_95 (by decide) ?_
            refine lv_aload_n X.1 X.2.1 dX7_read_96 rfl (lv_at hl 0 rfl) ?_
            refine wm_get X hP hlt0 hE0 rfl wm_inX7 2 (by decide) wq5_24 rfl dX7_read_97 ?_
            refine wm_callVv (k := 2) (As := [.int (nI 1), .int (nI sz)]) (rest := []) X hP hS hlt0 hE0 rfl (kfail1 l D C b n E10 0 sz fav plv atv aav opv fiv lav wa wc kl bev 1 sz hlt0 hE0 hc66) wq5_180 wq5_182 wqP3_4 wq1_8 wq5_183 (by decide) (by rw [hRe]; exact ⟨Nat.le_of_ble_eq_true rfl, Nat.le_of_ble_eq_true rfl⟩) rfl hl.1 rfl (Nat.le_of_ble_eq_true rfl) (Nat.zero_le _) (Nat.zero_le _) dX7_read_100 (fun E19 H locs hw hP hS => ?_)
            obtain ⟨hE0, hq⟩ := hw
            have hE1 := (hq 120 (by decide)).trans hE1
            have hE2 := (hq 126 (by decide)).trans hE2
            have hE3 := (hq 127 (by decide)).trans hE3
            have hE4 := (hq 128 (by decide)).trans hE4
            have hE5 := (hq 129 (by decide)).trans hE5
            have hE6 := (hq 130 (by decide)).trans hE6
            have hE7 := (hq 131 (by decide)).trans hE7
            have hE8 := (hq 132 (by decide)).trans hE8
            have hE9 := (hq 133 (by decide)).trans hE9
            have hfr : ∀ j, j ≠ 119 → j ≠ 126 → j ≠ 127 → j ≠ 128 → j ≠ 129 → j ≠ 130 → j ≠ 131 → j ≠ 132 → j ≠ 133 → E19 j = E j := fun j h0 h1 h2 h3 h4 h5 h6 h7 h8 => (hq j h0).trans (hfr j h0 h1 h2 h3 h4 h5 h6 h7 h8)
            have hend2 : wm_kd (wm_go tx sz 0 (wm_z0 z)) = 1 ∧ wm_pl (wm_go tx sz 0 (wm_z0 z)) = sz := by have h9 := (wm_kd_op hend.2.2.2 hend.2.1).1 hc91; rw [hend.2.2.1] at h9; exact h9
            refine lv_aload_n X.1 X.2.1 dX7_read_103 rfl (lv_at hl 0 rfl) ?_
            refine wm_get X hP hlt0 hE0 rfl wm_inX7 3 (by decide) wq5_25 rfl dX7_read_104 ?_
            refine lv_if_le (tgt := 112) X.1 X.2.1 dX7_read_107 (by decide) (fun h => by exfalso; revert h; decide) (fun _ => ?_)
            refine lv_iconst (v := nI 4294967295) X.1 X.2.1 dX7_read_110 (by decide) ?_
            have hkp := hend2
            exact wm_iret (post := pmreadz0 C b E th sz fa pl ats aa op fi la wa wc kl be k z tx ml fo pF pL rF rL pB rB) X hr hP hS ⟨aav, atv, opv, bev, fiv, lav, mlv, fov, pBv, pFv, pLv, rBv, rFv, rLv, rfl, (by rw [hkp.1, hkp.2]; exact hE0), hE2, hE3, hE4, hE5, hE6, hE7, hE8, hE9, hfr⟩ hQ dX7_read_111
        · obtain ⟨-, hpl9, z1, hz1, haz, hrel1, hnx1⟩ := hinv.resolve_right (fun q => q.1 hc66)
          refine lv_aload_n X.1 X.2.1 dX7_read_80 rfl (lv_at hl 0 rfl) ?_
          refine wm_callVv (k := 0) (As := []) (rest := []) X hP hS hlt0 hE0 rfl (kX7_step l D C b n E10 0 sz fav plv atv aav opv fiv lav wa wc kl bev z1 tx mlv fov pFv pLv rFv rLv pBv rBv hlt0 hE0 hlt1 hE1 hlt2 hE2 hlt3 hE3 hlt4 hE4 hlt5 hE5 hlt6 hE6 hlt7 hE7 hlt8 hE8 hlt9 hE9 hc66 hsz (by omega) htx hrel1 hnx1) wq5_169 wq5_171 wqP3_2 wq1_8 wq5_172 (by decide) (by rw [hRe]; exact ⟨Nat.le_of_ble_eq_true rfl, Nat.le_of_ble_eq_true rfl⟩) rfl hl.1 rfl (Nat.le_of_ble_eq_true rfl) (Nat.zero_le _) (Nat.zero_le _) dX7_read_81 (fun E20 H locs hw hP hS => ?_)
          obtain ⟨fa120, pl120, ats120, aa120, op120, be120, fi120, la120, ml120, fo120, pB120, pF120, pL120, rB120, rF120, rL120, hE0, hE2, hE3, hE4, hE5, hE6, hE7, hE8, hE9, hq, hp20_0, hp20_1⟩ := hw
          have hE1 := (hq 120 (by decide) (by decide) (by decide) (by decide) (by decide) (by decide) (by decide) (by decide) (by decide)).trans hE1
          have hfr : ∀ j, j ≠ 119 → j ≠ 126 → j ≠ 127 → j ≠ 128 → j ≠ 129 → j ≠ 130 → j ≠ 131 → j ≠ 132 → j ≠ 133 → E20 j = E j := fun j h0 h1 h2 h3 h4 h5 h6 h7 h8 => (hq j h0 h1 h2 h3 h4 h5 h6 h7 h8).trans (hfr j h0 h1 h2 h3 h4 h5 h6 h7 h8)
          refine lv_goto (tgt := 62) X.1 X.2.1 dX7_read_84 (by decide) ?_
          have hns := wm_inv_s hz1 hpl9 hp20_0
          exact ih62 fa120 pl120 aa120 ats120 op120 be120 fi120 la120 ml120 fo120 pB120 pF120 pL120 rB120 rF120 rL120 (wm_mdec hm hc66 hc77 hns.2) hns.1 hp20_1 E20 _ _ _ hP hS hE0 hE1 hE2 hE3 hE4 hE5 hE6 hE7 hE8 hE9 hfr (lv_sub hl [0, 1] rfl)
  exact L62 ((if 0 = 0 then 201 - 0 else 0) + 1) 0 4294967295 0 0 0 be fi la ml (va_up fo 0 0) (va_up pB 0 false) (va_up pF 0 0) (va_up pL 0 0) (va_up rB 0 true) (va_up rF 0 0) (va_up rL 0 0) (Nat.lt_succ_self _) (Or.inl ⟨rfl, rfl, wm_z0 z, rfl, Nat.zero_le _, wm_rel0, fun q => by rw [wm_z0_hs] at q; cases q⟩) (by decide) E9 _ _ _ hP hS hE0 hE1 hE2 hE3 hE4 hE5 hE6 hE7 hE8 hE9 hfr (lv_sub hl [0, 1] rfl)
def pmreadz1 (C : Nat → ClassId) (b : Nat) (E : Nat → va_E) (th sz fa pl ats aa op fi la wa wc kl : Nat) (be : Bool) (k : Nat) (z : wm_pst) (ar ss sa se na : Nat → Nat) (tx ml fo pF pL rF rL : Nat → Nat) (pB rB : Nat → Bool) : Int32 → (Nat → va_E) → Prop := fun r E' => ∃ (aav : Nat) (atv : Nat) (opv : Nat) (bev : Bool) (fiv : Nat) (lav : Nat) (mlv : Nat → Nat) (fov : Nat → Nat) (pBv : Nat → Bool) (pFv : Nat → Nat) (pLv : Nat → Nat) (rBv : Nat → Bool) (rFv : Nat → Nat) (rLv : Nat → Nat) (ar1 : Nat → Nat) (na1 : Nat → Nat), r = nI ((wm_go tx sz 0 (wm_z0 z)).2.2.1.2.1) ∧ E' 119 = .inr (7, [.int (nI 0), .ref (b + 120), .int (nI sz), .int (nI (wm_kd (wm_go tx sz 0 (wm_z0 z)))), .int (nI (wm_pl (wm_go tx sz 0 (wm_z0 z)))), .ref (b + 121), .ref (b + 122), .ref (b + 123), .ref (b + 124), .ref (b + 125), .ref (b + 126), .ref (b + 127), .int (nI atv), .int (nI aav), .ref (b + 128), .ref (b + 129), .ref (b + 130), .ref (b + 131), .ref (b + 132), .ref (b + 133), .int (nI opv), .int (nI bev.toNat), .int (nI fiv), .int (nI lav), .ref (b + 134), .ref (b + 135), .ref (b + 136), .int (nI wa), .ref (b + 137), .ref (b + 138), .ref (b + 139), .int (nI wc), .ref (b + 140), .int (nI kl), .ref (b + 141), .ref (b + 142), .ref (b + 143), .ref (b + 144), .ref (b + 145)]) ∧ E' 126 = wm_I C 24 mlv ∧ E' 127 = wm_I C 24 fov ∧ E' 128 = wm_Z C 22 pBv ∧ E' 129 = wm_I C 22 pFv ∧ E' 130 = wm_I C 22 pLv ∧ E' 131 = wm_Z C 22 rBv ∧ E' 132 = wm_I C 22 rFv ∧ E' 133 = wm_I C 22 rLv ∧ E' 121 = wm_I C 1536 ar1 ∧ E' 122 = wm_I C 8 (va_up ss k (wm_go tx sz 0 (wm_z0 z)).2.2.1.2.1) ∧ E' 123 = wm_I C 8 (va_up sa k 1) ∧ E' 124 = wm_I C 8 (va_up se k (wm_en (wm_go tx sz 0 (wm_z0 z)).2.2)) ∧ E' 125 = wm_I C 192 na1 ∧ (∀ j, j ≠ 119 → j ≠ 126 → j ≠ 127 → j ≠ 128 → j ≠ 129 → j ≠ 130 → j ≠ 131 → j ≠ 132 → j ≠ 133 → j ≠ 121 → j ≠ 122 → j ≠ 123 → j ≠ 124 → j ≠ 125 → E' j = E j) ∧ (∀ s l, s < (wm_go tx sz 0 (wm_z0 z)).2.2.1.2.1 → l < 8 → na1 (8 * s + l) = (wm_z9 (wm_go tx sz 0 (wm_z0 z)).2.2).2.1 s &&& wm_sw1 (wm_go tx sz 0 (wm_z0 z)).2.2.1.2.1 (wm_go tx sz 0 (wm_z0 z)).2.2.2.2.1 l) ∧ wm_cp (192 * k) 192 na1 ar ar1
set_option maxHeartbeats 4000000 in
set_option maxRecDepth 100000 in
theorem kmreadz1 (l : Launch) (D : va_G) (C : Nat → ClassId) (b n : Nat) (E : Nat → va_E) (th sz fa pl ats aa op fi la wa wc kl : Nat) (be : Bool) (k : Nat) (z : wm_pst) (ar ss sa se na : Nat → Nat) (tx ml fo pF pL rF rL : Nat → Nat) (pB rB : Nat → Bool) (hlt0 : 119 < n) (hE0 : E 119 = .inr (7, [.int (nI th), .ref (b + 120), .int (nI sz), .int (nI fa), .int (nI pl), .ref (b + 121), .ref (b + 122), .ref (b + 123), .ref (b + 124), .ref (b + 125), .ref (b + 126), .ref (b + 127), .int (nI ats), .int (nI aa), .ref (b + 128), .ref (b + 129), .ref (b + 130), .ref (b + 131), .ref (b + 132), .ref (b + 133), .int (nI op), .int (nI be.toNat), .int (nI fi), .int (nI la), .ref (b + 134), .ref (b + 135), .ref (b + 136), .int (nI wa), .ref (b + 137), .ref (b + 138), .ref (b + 139), .int (nI wc), .ref (b + 140), .int (nI kl), .ref (b + 141), .ref (b + 142), .ref (b + 143), .ref (b + 144), .ref (b + 145)])) (hlt1 : 120 < n) (hE1 : E 120 = wm_I C 200 tx) (hlt2 : 126 < n) (hE2 : E 126 = wm_I C 24 ml) (hlt3 : 127 < n) (hE3 : E 127 = wm_I C 24 fo) (hlt4 : 128 < n) (hE4 : E 128 = wm_Z C 22 pB) (hlt5 : 129 < n) (hE5 : E 129 = wm_I C 22 pF) (hlt6 : 130 < n) (hE6 : E 130 = wm_I C 22 pL) (hlt7 : 131 < n) (hE7 : E 131 = wm_Z C 22 rB) (hlt8 : 132 < n) (hE8 : E 132 = wm_I C 22 rF) (hlt9 : 133 < n) (hE9 : E 133 = wm_I C 22 rL) (hlt10 : 121 < n) (hE10 : E 121 = wm_I C 1536 ar) (hlt11 : 122 < n) (hE11 : E 122 = wm_I C 8 ss) (hlt12 : 123 < n) (hE12 : E 123 = wm_I C 8 sa) (hlt13 : 124 < n) (hE13 : E 124 = wm_I C 8 se) (hlt14 : 125 < n) (hE14 : E 125 = wm_I C 192 na) (hkk : k < 8) (hsz : sz ≤ 200) (htx : ∀ i, tx i < 256) (hzb : wm_zb (wm_z0 z)) (hkd : wm_kd (wm_go tx sz 0 (wm_z0 z)) = 0) : Met l yX7_read (wm_ws yX7_read cX7_read 6 (some .int)) { frames := 3, cells := 0, slots := 0, locals := 71 } (va_Pc [.ref (b + 119), .int (nI k)] (wm_G D C b n E)) (va_Qi (pmreadz1 C b E th sz fa pl ats aa op fi la wa wc kl be k z ar ss sa se na tx ml fo pF pL rF rL pB rB) (fun E' t => wm_P D b n E' t.heap) (wm_A b)) 0 0 (wm_A b) := by
  refine wm_ofW (by decide) (Nat.le_of_ble_eq_true rfl) (fun p e s m below meth c ls R args Q hRe hQ X hr hnm hP hS hl => ?_)
  have hl : lv_has ls 6 [(0, .ref (b + 119)), (1, .int (nI k))] := hl
  have hfr : ∀ j, j ≠ 119 → j ≠ 126 → j ≠ 127 → j ≠ 128 → j ≠ 129 → j ≠ 130 → j ≠ 131 → j ≠ 132 → j ≠ 133 → j ≠ 121 → j ≠ 122 → j ≠ 123 → j ≠ 124 → j ≠ 125 → E j = E j := fun _ _ _ _ _ _ _ _ _ _ _ _ _ _ _ => rfl
  refine lv_aload_n X.1 X.2.1 dX7_read_0 rfl (lv_at hl 0 rfl) ?_
  refine lv_aload_n X.1 X.2.1 dX7_read_1 rfl (lv_at hl 0 rfl) ?_
  refine lv_iload_n X.1 X.2.1 dX7_read_2 rfl (lv_at hl 1 rfl) ?_
  refine wm_callVi (k := 1) (As := [.int (nI k)]) (rest := [.ref (b + 119)]) X hP hS hlt0 hE0 rfl (knoMach l D C b n E k (by omega)) wq5_157 wq5_159 wqP2_15 wq1_8 wq5_160 (by decide) (by rw [hRe]; exact ⟨Nat.le_of_ble_eq_true rfl, Nat.le_of_ble_eq_true rfl⟩) rfl hl.1 rfl (Nat.le_of_ble_eq_true rfl) (Nat.zero_le _) (Nat.zero_le _) dX7_read_3 (fun r1 E1 H locs hw hP hS => ?_)
  obtain ⟨hrt, hEe⟩ := hw
  subst hrt
  subst hEe
  refine wm_ifz_eq (x := false) (tgt := 13) X dX7_read_6 (by decide) (fun _ => ?_) (fun h => by exfalso; revert h; decide)
  refine lv_iconst (v := nI 0) X.1 X.2.1 dX7_read_13 (by decide) ?_
  refine wm_put (v := .int (nI 0)) X hP hS hlt0 hE0 rfl wm_inX7 tyX7 tyX7_ok nmX7 0 (by decide) wq5_22 rfl rfl rfl (fs1 := [.int (nI 0), .ref (b + 120), .int (nI sz), .int (nI fa), .int (nI pl), .ref (b + 121), .ref (b + 122), .ref (b + 123), .ref (b + 124), .ref (b + 125), .ref (b + 126), .ref (b + 127), .int (nI ats), .int (nI aa), .ref (b + 128), .ref (b + 129), .ref (b + 130), .ref (b + 131), .ref (b + 132), .ref (b + 133), .int (nI op), .int (nI be.toNat), .int (nI fi), .int (nI la), .ref (b + 134), .ref (b + 135), .ref (b + 136), .int (nI wa), .ref (b + 137), .ref (b + 138), .ref (b + 139), .int (nI wc), .ref (b + 140), .int (nI kl), .ref (b + 141), .ref (b + 142), .ref (b + 143), .ref (b + 144), .ref (b + 145)]) rfl (Nat.le_of_ble_eq_true rfl) dX7_read_14 (fun H locs E2 hP hS hE0 hq => ?_)
  have hE1 := (hq 120 (by decide)).trans hE1
  have hE2 := (hq 126 (by decide)).trans hE2
  have hE3 := (hq 127 (by decide)).trans hE3
  have hE4 := (hq 128 (by decide)).trans hE4
  have hE5 := (hq 129 (by decide)).trans hE5
  have hE6 := (hq 130 (by decide)).trans hE6
  have hE7 := (hq 131 (by decide)).trans hE7
  have hE8 := (hq 132 (by decide)).trans hE8
  have hE9 := (hq 133 (by decide)).trans hE9
  have hE10 := (hq 121 (by decide)).trans hE10
  have hE11 := (hq 122 (by decide)).trans hE11
  have hE12 := (hq 123 (by decide)).trans hE12
  have hE13 := (hq 124 (by decide)).trans hE13
  have hE14 := (hq 125 (by decide)).trans hE14
  have hfr : ∀ j, j ≠ 119 → j ≠ 126 → j ≠ 127 → j ≠ 128 → j ≠ 129 → j ≠ 130 → j ≠ 131 → j ≠ 132 → j ≠ 133 → j ≠ 121 → j ≠ 122 → j ≠ 123 → j ≠ 124 → j ≠ 125 → E2 j = E j := fun j h0 h1 h2 h3 h4 h5 h6 h7 h8 h9 h10 h11 h12 h13 => (hq j h0).trans (hfr j h0 h1 h2 h3 h4 h5 h6 h7 h8 h9 h10 h11 h12 h13)
  refine lv_aload_n X.1 X.2.1 dX7_read_17 rfl (lv_at hl 0 rfl) ?_
  refine wm_get X hP hlt0 hE0 rfl wm_inX7 0 (by decide) wq5_22 rfl dX7_read_18 ?_
  refine lv_if_le (tgt := 26) X.1 X.2.1 dX7_read_21 (by decide) (fun _ => ?_) (fun h => by exfalso; revert h; decide)
  refine lv_aload_n X.1 X.2.1 dX7_read_26 rfl (lv_at hl 0 rfl) ?_
  refine lv_iconst (v := nI 0) X.1 X.2.1 dX7_read_27 (by decide) ?_
  refine wm_put (v := .int (nI 0)) X hP hS hlt0 hE0 rfl wm_inX7 tyX7 tyX7_ok nmX7 3 (by decide) wq5_25 rfl rfl rfl (fs1 := [.int (nI 0), .ref (b + 120), .int (nI sz), .int (nI 0), .int (nI pl), .ref (b + 121), .ref (b + 122), .ref (b + 123), .ref (b + 124), .ref (b + 125), .ref (b + 126), .ref (b + 127), .int (nI ats), .int (nI aa), .ref (b + 128), .ref (b + 129), .ref (b + 130), .ref (b + 131), .ref (b + 132), .ref (b + 133), .int (nI op), .int (nI be.toNat), .int (nI fi), .int (nI la), .ref (b + 134), .ref (b + 135), .ref (b + 136), .int (nI wa), .ref (b + 137), .ref (b + 138), .ref (b + 139), .int (nI wc), .ref (b + 140), .int (nI kl), .ref (b + 141), .ref (b + 142), .ref (b + 143), .ref (b + 144), .ref (b + 145)]) rfl (Nat.le_of_ble_eq_true rfl) dX7_read_28 (fun H locs E3 hP hS hE0 hq => ?_)
  have hE1 := (hq 120 (by decide)).trans hE1
  have hE2 := (hq 126 (by decide)).trans hE2
  have hE3 := (hq 127 (by decide)).trans hE3
  have hE4 := (hq 128 (by decide)).trans hE4
  have hE5 := (hq 129 (by decide)).trans hE5
  have hE6 := (hq 130 (by decide)).trans hE6
  have hE7 := (hq 131 (by decide)).trans hE7
  have hE8 := (hq 132 (by decide)).trans hE8
  have hE9 := (hq 133 (by decide)).trans hE9
  have hE10 := (hq 121 (by decide)).trans hE10
  have hE11 := (hq 122 (by decide)).trans hE11
  have hE12 := (hq 123 (by decide)).trans hE12
  have hE13 := (hq 124 (by decide)).trans hE13
  have hE14 := (hq 125 (by decide)).trans hE14
  have hfr : ∀ j, j ≠ 119 → j ≠ 126 → j ≠ 127 → j ≠ 128 → j ≠ 129 → j ≠ 130 → j ≠ 131 → j ≠ 132 → j ≠ 133 → j ≠ 121 → j ≠ 122 → j ≠ 123 → j ≠ 124 → j ≠ 125 → E3 j = E j := fun j h0 h1 h2 h3 h4 h5 h6 h7 h8 h9 h10 h11 h12 h13 => (hq j h0).trans (hfr j h0 h1 h2 h3 h4 h5 h6 h7 h8 h9 h10 h11 h12 h13)
  refine lv_aload_n X.1 X.2.1 dX7_read_31 rfl (lv_at hl 0 rfl) ?_
  refine lv_iconst (v := nI 4294967295) X.1 X.2.1 dX7_read_32 (by decide) ?_
  refine wm_put (v := .int (nI 4294967295)) X hP hS hlt0 hE0 rfl wm_inX7 tyX7 tyX7_ok nmX7 4 (by decide) wq5_26 rfl rfl rfl (fs1 := [.int (nI 0), .ref (b + 120), .int (nI sz), .int (nI 0), .int (nI 4294967295), .ref (b + 121), .ref (b + 122), .ref (b + 123), .ref (b + 124), .ref (b + 125), .ref (b + 126), .ref (b + 127), .int (nI ats), .int (nI aa), .ref (b + 128), .ref (b + 129), .ref (b + 130), .ref (b + 131), .ref (b + 132), .ref (b + 133), .int (nI op), .int (nI be.toNat), .int (nI fi), .int (nI la), .ref (b + 134), .ref (b + 135), .ref (b + 136), .int (nI wa), .ref (b + 137), .ref (b + 138), .ref (b + 139), .int (nI wc), .ref (b + 140), .int (nI kl), .ref (b + 141), .ref (b + 142), .ref (b + 143), .ref (b + 144), .ref (b + 145)]) rfl (Nat.le_of_ble_eq_true rfl) dX7_read_33 (fun H locs E4 hP hS hE0 hq => ?_)
  have hE1 := (hq 120 (by decide)).trans hE1
  have hE2 := (hq 126 (by decide)).trans hE2
  have hE3 := (hq 127 (by decide)).trans hE3
  have hE4 := (hq 128 (by decide)).trans hE4
  have hE5 := (hq 129 (by decide)).trans hE5
  have hE6 := (hq 130 (by decide)).trans hE6
  have hE7 := (hq 131 (by decide)).trans hE7
  have hE8 := (hq 132 (by decide)).trans hE8
  have hE9 := (hq 133 (by decide)).trans hE9
  have hE10 := (hq 121 (by decide)).trans hE10
  have hE11 := (hq 122 (by decide)).trans hE11
  have hE12 := (hq 123 (by decide)).trans hE12
  have hE13 := (hq 124 (by decide)).trans hE13
  have hE14 := (hq 125 (by decide)).trans hE14
  have hfr : ∀ j, j ≠ 119 → j ≠ 126 → j ≠ 127 → j ≠ 128 → j ≠ 129 → j ≠ 130 → j ≠ 131 → j ≠ 132 → j ≠ 133 → j ≠ 121 → j ≠ 122 → j ≠ 123 → j ≠ 124 → j ≠ 125 → E4 j = E j := fun j h0 h1 h2 h3 h4 h5 h6 h7 h8 h9 h10 h11 h12 h13 => (hq j h0).trans (hfr j h0 h1 h2 h3 h4 h5 h6 h7 h8 h9 h10 h11 h12 h13)
  refine lv_aload_n X.1 X.2.1 dX7_read_36 rfl (lv_at hl 0 rfl) ?_
  refine lv_iconst (v := nI 0) X.1 X.2.1 dX7_read_37 (by decide) ?_
  refine wm_put (v := .int (nI 0)) X hP hS hlt0 hE0 rfl wm_inX7 tyX7 tyX7_ok nmX7 12 (by decide) wq5_34 rfl rfl rfl (fs1 := [.int (nI 0), .ref (b + 120), .int (nI sz), .int (nI 0), .int (nI 4294967295), .ref (b + 121), .ref (b + 122), .ref (b + 123), .ref (b + 124), .ref (b + 125), .ref (b + 126), .ref (b + 127), .int (nI 0), .int (nI aa), .ref (b + 128), .ref (b + 129), .ref (b + 130), .ref (b + 131), .ref (b + 132), .ref (b + 133), .int (nI op), .int (nI be.toNat), .int (nI fi), .int (nI la), .ref (b + 134), .ref (b + 135), .ref (b + 136), .int (nI wa), .ref (b + 137), .ref (b + 138), .ref (b + 139), .int (nI wc), .ref (b + 140), .int (nI kl), .ref (b + 141), .ref (b + 142), .ref (b + 143), .ref (b + 144), .ref (b + 145)]) rfl (Nat.le_of_ble_eq_true rfl) dX7_read_38 (fun H locs E5 hP hS hE0 hq => ?_)
  have hE1 := (hq 120 (by decide)).trans hE1
  have hE2 := (hq 126 (by decide)).trans hE2
  have hE3 := (hq 127 (by decide)).trans hE3
  have hE4 := (hq 128 (by decide)).trans hE4
  have hE5 := (hq 129 (by decide)).trans hE5
  have hE6 := (hq 130 (by decide)).trans hE6
  have hE7 := (hq 131 (by decide)).trans hE7
  have hE8 := (hq 132 (by decide)).trans hE8
  have hE9 := (hq 133 (by decide)).trans hE9
  have hE10 := (hq 121 (by decide)).trans hE10
  have hE11 := (hq 122 (by decide)).trans hE11
  have hE12 := (hq 123 (by decide)).trans hE12
  have hE13 := (hq 124 (by decide)).trans hE13
  have hE14 := (hq 125 (by decide)).trans hE14
  have hfr : ∀ j, j ≠ 119 → j ≠ 126 → j ≠ 127 → j ≠ 128 → j ≠ 129 → j ≠ 130 → j ≠ 131 → j ≠ 132 → j ≠ 133 → j ≠ 121 → j ≠ 122 → j ≠ 123 → j ≠ 124 → j ≠ 125 → E5 j = E j := fun j h0 h1 h2 h3 h4 h5 h6 h7 h8 h9 h10 h11 h12 h13 => (hq j h0).trans (hfr j h0 h1 h2 h3 h4 h5 h6 h7 h8 h9 h10 h11 h12 h13)
  refine lv_aload_n X.1 X.2.1 dX7_read_41 rfl (lv_at hl 0 rfl) ?_
  refine lv_iconst (v := nI 0) X.1 X.2.1 dX7_read_42 (by decide) ?_
  refine wm_put (v := .int (nI 0)) X hP hS hlt0 hE0 rfl wm_inX7 tyX7 tyX7_ok nmX7 13 (by decide) wq5_35 rfl rfl rfl (fs1 := [.int (nI 0), .ref (b + 120), .int (nI sz), .int (nI 0), .int (nI 4294967295), .ref (b + 121), .ref (b + 122), .ref (b + 123), .ref (b + 124), .ref (b + 125), .ref (b + 126), .ref (b + 127), .int (nI 0), .int (nI 0), .ref (b + 128), .ref (b + 129), .ref (b + 130), .ref (b + 131), .ref (b + 132), .ref (b + 133), .int (nI op), .int (nI be.toNat), .int (nI fi), .int (nI la), .ref (b + 134), .ref (b + 135), .ref (b + 136), .int (nI wa), .ref (b + 137), .ref (b + 138), .ref (b + 139), .int (nI wc), .ref (b + 140), .int (nI kl), .ref (b + 141), .ref (b + 142), .ref (b + 143), .ref (b + 144), .ref (b + 145)]) rfl (Nat.le_of_ble_eq_true rfl) dX7_read_43 (fun H locs E6 hP hS hE0 hq => ?_)
  have hE1 := (hq 120 (by decide)).trans hE1
  have hE2 := (hq 126 (by decide)).trans hE2
  have hE3 := (hq 127 (by decide)).trans hE3
  have hE4 := (hq 128 (by decide)).trans hE4
  have hE5 := (hq 129 (by decide)).trans hE5
  have hE6 := (hq 130 (by decide)).trans hE6
  have hE7 := (hq 131 (by decide)).trans hE7
  have hE8 := (hq 132 (by decide)).trans hE8
  have hE9 := (hq 133 (by decide)).trans hE9
  have hE10 := (hq 121 (by decide)).trans hE10
  have hE11 := (hq 122 (by decide)).trans hE11
  have hE12 := (hq 123 (by decide)).trans hE12
  have hE13 := (hq 124 (by decide)).trans hE13
  have hE14 := (hq 125 (by decide)).trans hE14
  have hfr : ∀ j, j ≠ 119 → j ≠ 126 → j ≠ 127 → j ≠ 128 → j ≠ 129 → j ≠ 130 → j ≠ 131 → j ≠ 132 → j ≠ 133 → j ≠ 121 → j ≠ 122 → j ≠ 123 → j ≠ 124 → j ≠ 125 → E6 j = E j := fun j h0 h1 h2 h3 h4 h5 h6 h7 h8 h9 h10 h11 h12 h13 => (hq j h0).trans (hfr j h0 h1 h2 h3 h4 h5 h6 h7 h8 h9 h10 h11 h12 h13)
  refine lv_aload_n X.1 X.2.1 dX7_read_46 rfl (lv_at hl 0 rfl) ?_
  refine lv_iconst (v := nI 0) X.1 X.2.1 dX7_read_47 (by decide) ?_
  refine wm_put (v := .int (nI 0)) X hP hS hlt0 hE0 rfl wm_inX7 tyX7 tyX7_ok nmX7 20 (by decide) wq5_42 rfl rfl rfl (fs1 := [.int (nI 0), .ref (b + 120), .int (nI sz), .int (nI 0), .int (nI 4294967295), .ref (b + 121), .ref (b + 122), .ref (b + 123), .ref (b + 124), .ref (b + 125), .ref (b + 126), .ref (b + 127), .int (nI 0), .int (nI 0), .ref (b + 128), .ref (b + 129), .ref (b + 130), .ref (b + 131), .ref (b + 132), .ref (b + 133), .int (nI 0), .int (nI be.toNat), .int (nI fi), .int (nI la), .ref (b + 134), .ref (b + 135), .ref (b + 136), .int (nI wa), .ref (b + 137), .ref (b + 138), .ref (b + 139), .int (nI wc), .ref (b + 140), .int (nI kl), .ref (b + 141), .ref (b + 142), .ref (b + 143), .ref (b + 144), .ref (b + 145)]) rfl (Nat.le_of_ble_eq_true rfl) dX7_read_48 (fun H locs E7 hP hS hE0 hq => ?_)
  have hE1 := (hq 120 (by decide)).trans hE1
  have hE2 := (hq 126 (by decide)).trans hE2
  have hE3 := (hq 127 (by decide)).trans hE3
  have hE4 := (hq 128 (by decide)).trans hE4
  have hE5 := (hq 129 (by decide)).trans hE5
  have hE6 := (hq 130 (by decide)).trans hE6
  have hE7 := (hq 131 (by decide)).trans hE7
  have hE8 := (hq 132 (by decide)).trans hE8
  have hE9 := (hq 133 (by decide)).trans hE9
  have hE10 := (hq 121 (by decide)).trans hE10
  have hE11 := (hq 122 (by decide)).trans hE11
  have hE12 := (hq 123 (by decide)).trans hE12
  have hE13 := (hq 124 (by decide)).trans hE13
  have hE14 := (hq 125 (by decide)).trans hE14
  have hfr : ∀ j, j ≠ 119 → j ≠ 126 → j ≠ 127 → j ≠ 128 → j ≠ 129 → j ≠ 130 → j ≠ 131 → j ≠ 132 → j ≠ 133 → j ≠ 121 → j ≠ 122 → j ≠ 123 → j ≠ 124 → j ≠ 125 → E7 j = E j := fun j h0 h1 h2 h3 h4 h5 h6 h7 h8 h9 h10 h11 h12 h13 => (hq j h0).trans (hfr j h0 h1 h2 h3 h4 h5 h6 h7 h8 h9 h10 h11 h12 h13)
  refine lv_aload_n X.1 X.2.1 dX7_read_51 rfl (lv_at hl 0 rfl) ?_
  refine wm_get X hP hlt0 hE0 rfl wm_inX7 11 (by decide) wq5_33 rfl dX7_read_52 ?_
  refine lv_iconst (v := nI 0) X.1 X.2.1 dX7_read_55 (by decide) ?_
  refine lv_iconst (v := nI 0) X.1 X.2.1 dX7_read_56 (by decide) ?_
  refine wm_iast (i := 0) (x := 0) X hP hS hlt3 hE3 (by omega) (by decide) dX7_read_57 (fun H locs E8 hP hS hE3 hq => ?_)
  have hE0 := (hq 119 (by decide)).trans hE0
  have hE1 := (hq 120 (by decide)).trans hE1
  have hE2 := (hq 126 (by decide)).trans hE2
  have hE4 := (hq 128 (by decide)).trans hE4
  have hE5 := (hq 129 (by decide)).trans hE5
  have hE6 := (hq 130 (by decide)).trans hE6
  have hE7 := (hq 131 (by decide)).trans hE7
  have hE8 := (hq 132 (by decide)).trans hE8
  have hE9 := (hq 133 (by decide)).trans hE9
  have hE10 := (hq 121 (by decide)).trans hE10
  have hE11 := (hq 122 (by decide)).trans hE11
  have hE12 := (hq 123 (by decide)).trans hE12
  have hE13 := (hq 124 (by decide)).trans hE13
  have hE14 := (hq 125 (by decide)).trans hE14
  have hfr : ∀ j, j ≠ 119 → j ≠ 126 → j ≠ 127 → j ≠ 128 → j ≠ 129 → j ≠ 130 → j ≠ 131 → j ≠ 132 → j ≠ 133 → j ≠ 121 → j ≠ 122 → j ≠ 123 → j ≠ 124 → j ≠ 125 → E8 j = E j := fun j h0 h1 h2 h3 h4 h5 h6 h7 h8 h9 h10 h11 h12 h13 => (hq j h2).trans (hfr j h0 h1 h2 h3 h4 h5 h6 h7 h8 h9 h10 h11 h12 h13)
  refine lv_aload_n X.1 X.2.1 dX7_read_58 rfl (lv_at hl 0 rfl) ?_
  refine wm_callVv (k := 0) (As := []) (rest := []) X hP hS hlt0 hE0 rfl (kX7_beginParts l D C b n E8 0 sz 0 4294967295 0 0 0 fi la wa wc kl be pB rB pF pL rF rL hlt0 hE0 hlt4 hE4 hlt5 hE5 hlt6 hE6 hlt7 hE7 hlt8 hE8 hlt9 hE9 (by omega)) wq5_161 wq5_163 wqP3_0 wq1_8 wq5_164 (by decide) (by rw [hRe]; exact ⟨Nat.le_of_ble_eq_true rfl, Nat.le_of_ble_eq_true rfl⟩) rfl hl.1 rfl (Nat.le_of_ble_eq_true rfl) (Nat.zero_le _) (Nat.zero_le _) dX7_read_59 (fun E9 H locs hw hP hS => ?_)
  obtain ⟨hE4, hE5, hE6, hE7, hE8, hE9, hq⟩ := hw
  have hE0 := (hq 119 (by decide) (by decide) (by decide) (by decide) (by decide) (by decide)).trans hE0
  have hE1 := (hq 120 (by decide) (by decide) (by decide) (by decide) (by decide) (by decide)).trans hE1
  have hE2 := (hq 126 (by decide) (by decide) (by decide) (by decide) (by decide) (by decide)).trans hE2
  have hE3 := (hq 127 (by decide) (by decide) (by decide) (by decide) (by decide) (by decide)).trans hE3
  have hE10 := (hq 121 (by decide) (by decide) (by decide) (by decide) (by decide) (by decide)).trans hE10
  have hE11 := (hq 122 (by decide) (by decide) (by decide) (by decide) (by decide) (by decide)).trans hE11
  have hE12 := (hq 123 (by decide) (by decide) (by decide) (by decide) (by decide) (by decide)).trans hE12
  have hE13 := (hq 124 (by decide) (by decide) (by decide) (by decide) (by decide) (by decide)).trans hE13
  have hE14 := (hq 125 (by decide) (by decide) (by decide) (by decide) (by decide) (by decide)).trans hE14
  have hfr : ∀ j, j ≠ 119 → j ≠ 126 → j ≠ 127 → j ≠ 128 → j ≠ 129 → j ≠ 130 → j ≠ 131 → j ≠ 132 → j ≠ 133 → j ≠ 121 → j ≠ 122 → j ≠ 123 → j ≠ 124 → j ≠ 125 → E9 j = E j := fun j h0 h1 h2 h3 h4 h5 h6 h7 h8 h9 h10 h11 h12 h13 => (hq j h3 h4 h5 h6 h7 h8).trans (hfr j h0 h1 h2 h3 h4 h5 h6 h7 h8 h9 h10 h11 h12 h13)
  have L62 : ∀ (fu : Nat) (fav : Nat) (plv : Nat) (aav : Nat) (atv : Nat) (opv : Nat) (bev : Bool) (fiv : Nat) (lav : Nat) (mlv : Nat → Nat) (fov : Nat → Nat) (pBv : Nat → Bool) (pFv : Nat → Nat) (pLv : Nat → Nat) (rBv : Nat → Bool) (rFv : Nat → Nat) (rLv : Nat → Nat), (if fav = 0 then 201 - aav else 0) < fu → (wm_inv tx sz (wm_go tx sz 0 (wm_z0 z)) fav plv aav atv opv mlv fov pFv pLv rFv rLv pBv rBv) → (opv ≤ 20) → ∀ (E10 : Nat → va_E) (H : Heap) (locs : List Loc) (ls : Array Slot), wm_P D b n E10 H → wm_S b s.heap H locs → E10 119 = .inr (7, [.int (nI 0), .ref (b + 120), .int (nI sz), .int (nI fav), .int (nI plv), .ref (b + 121), .ref (b + 122), .ref (b + 123), .ref (b + 124), .ref (b + 125), .ref (b + 126), .ref (b + 127), .int (nI atv), .int (nI aav), .ref (b + 128), .ref (b + 129), .ref (b + 130), .ref (b + 131), .ref (b + 132), .ref (b + 133), .int (nI opv), .int (nI bev.toNat), .int (nI fiv), .int (nI lav), .ref (b + 134), .ref (b + 135), .ref (b + 136), .int (nI wa), .ref (b + 137), .ref (b + 138), .ref (b + 139), .int (nI wc), .ref (b + 140), .int (nI kl), .ref (b + 141), .ref (b + 142), .ref (b + 143), .ref (b + 144), .ref (b + 145)]) → E10 120 = wm_I C 200 tx → E10 126 = wm_I C 24 mlv → E10 127 = wm_I C 24 fov → E10 128 = wm_Z C 22 pBv → E10 129 = wm_I C 22 pFv → E10 130 = wm_I C 22 pLv → E10 131 = wm_Z C 22 rBv → E10 132 = wm_I C 22 rFv → E10 133 = wm_I C 22 rLv → E10 121 = wm_I C 1536 ar → E10 122 = wm_I C 8 ss → E10 123 = wm_I C 8 sa → E10 124 = wm_I C 8 se → E10 125 = wm_I C 192 na → (∀ j, j ≠ 119 → j ≠ 126 → j ≠ 127 → j ≠ 128 → j ≠ 129 → j ≠ 130 → j ≠ 131 → j ≠ 132 → j ≠ 133 → j ≠ 121 → j ≠ 122 → j ≠ 123 → j ≠ 124 → j ≠ 125 → E10 j = E j) → lv_has ls 6 [(0, .ref (b + 119)), (1, .int (nI k))] → W p l e R s m args below meth c H locs 0 0 Q (F0 m 62 ls []) := by
    intro fu
    induction fu with
    | zero => intro fav plv aav atv opv bev fiv lav mlv fov pBv pFv pLv rBv rFv rLv hm; exact absurd hm (Nat.not_lt_zero _)
    | succ fu ih62 =>
      intro fav plv aav atv opv bev fiv lav mlv fov pBv pFv pLv rBv rFv rLv hm hinv hop9 E10 H locs ls hP hS hE0 hE1 hE2 hE3 hE4 hE5 hE6 hE7 hE8 hE9 hE10 hE11 hE12 hE13 hE14 hfr hl
      have hfl := wm_inv_le hinv
      refine lv_aload_n X.1 X.2.1 dX7_read_62 rfl (lv_at hl 0 rfl) ?_
      refine wm_get X hP hlt0 hE0 rfl wm_inX7 3 (by decide) wq5_25 rfl dX7_read_63 ?_
      refine wm_if_ne (x := fav) (tgt := 87) X (by omega) dX7_read_66 (by decide) (fun hc66 => ?_) (fun hc66 => ?_)
      · exact absurd (((hinv.resolve_left (fun q => hc66 q.1)).2.2.1).symm.trans hkd) hc66
      · refine lv_aload_n X.1 X.2.1 dX7_read_69 rfl (lv_at hl 0 rfl) ?_
        refine wm_get X hP hlt0 hE0 rfl wm_inX7 13 (by decide) wq5_35 rfl dX7_read_70 ?_
        refine lv_aload_n X.1 X.2.1 dX7_read_73 rfl (lv_at hl 0 rfl) ?_
        refine wm_get X hP hlt0 hE0 rfl wm_inX7 2 (by decide) wq5_24 rfl dX7_read_74 ?_
        refine wm_icmp_ge (x := aav) (y := sz) (tgt := 87) X (Nat.lt_of_le_of_lt (wm_inv_aa hinv hc66) (by omega)) (by omega) dX7_read_77 (by decide) (fun hc77 => ?_) (fun hc77 => ?_)
        · have hend := wm_inv_e hinv hc66 hc77
          refine lv_aload_n X.1 X.2.1 dX7_read_87 rfl (lv_at hl 0 rfl) ?_
          refine wm_get X hP hlt0 hE0 rfl wm_inX7 20 (by decide) wq5_42 rfl dX7_read_88 ?_
          refine wm_if_le (x := opv) (tgt := 103) X (by omega) dX7_read_91 (by decide) (fun hc91 => ?_) (fun hc91 => ?_)
          · refine lv_aload_n X.1 X.2.1 dX7_read_103 rfl (lv_at hl 0 rfl) ?_
            refine wm_get X hP hlt0 hE0 rfl wm_inX7 3 (by decide) wq5_25 rfl dX7_read_104 ?_
            refine wm_if_le (x := fav) (tgt := 112) X (by omega) dX7_read_107 (by decide) (fun hc107 => ?_) (fun hc107 => ?_)
            · refine lv_aload_n X.1 X.2.1 dX7_read_112 rfl (lv_at hl 0 rfl) ?_
              refine wm_callVv (k := 0) (As := []) (rest := []) X hP hS hlt0 hE0 rfl (kX7_endRow l D C b n E10 0 sz fav plv atv aav opv fiv lav wa wc kl bev pBv rBv pFv pLv rFv rLv hlt0 hE0 hlt4 hE4 hlt5 hE5 hlt6 hE6 hlt7 hE7 hlt8 hE8 hlt9 hE9 (by omega)) wq5_200 wq5_202 wqP3_9 wq1_8 wq5_203 (by decide) (by rw [hRe]; exact ⟨Nat.le_of_ble_eq_true rfl, Nat.le_of_ble_eq_true rfl⟩) rfl hl.1 rfl (Nat.le_of_ble_eq_true rfl) (Nat.zero_le _) (Nat.zero_le _) dX7_read_113 (fun E15 H locs hw hP hS => ?_)
              obtain ⟨hE4, hE5, hE6, hq⟩ := hw
              have hE0 := (hq 119 (by decide) (by decide) (by decide)).trans hE0
              have hE1 := (hq 120 (by decide) (by decide) (by decide)).trans hE1
              have hE2 := (hq 126 (by decide) (by decide) (by decide)).trans hE2
              have hE3 := (hq 127 (by decide) (by decide) (by decide)).trans hE3
              have hE7 := (hq 131 (by decide) (by decide) (by decide)).trans hE7
              have hE8 := (hq 132 (by decide) (by decide) (by decide)).trans hE8
              have hE9 := (hq 133 (by decide) (by decide) (by decide)).trans hE9
              have hE10 := (hq 121 (by decide) (by decide) (by decide)).trans hE10
              have hE11 := (hq 122 (by decide) (by decide) (by decide)).trans hE11
              have hE12 := (hq 123 (by decide) (by decide) (by decide)).trans hE12
              have hE13 := (hq 124 (by decide) (by decide) (by decide)).trans hE13
              have hE14 := (hq 125 (by decide) (by decide) (by decide)).trans hE14
              have hfr : ∀ j, j ≠ 119 → j ≠ 126 → j ≠ 127 → j ≠ 128 → j ≠ 129 → j ≠ 130 → j ≠ 131 → j ≠ 132 → j ≠ 133 → j ≠ 121 → j ≠ 122 → j ≠ 123 → j ≠ 124 → j ≠ 125 → E15 j = E j := fun j h0 h1 h2 h3 h4 h5 h6 h7 h8 h9 h10 h11 h12 h13 => (hq j h3 h4 h5).trans (hfr j h0 h1 h2 h3 h4 h5 h6 h7 h8 h9 h10 h11 h12 h13)
              refine lv_aload_n X.1 X.2.1 dX7_read_116 rfl (lv_at hl 0 rfl) ?_
              refine wm_get X hP hlt0 hE0 rfl wm_inX7 11 (by decide) wq5_33 rfl dX7_read_117 ?_
              refine lv_iconst (v := nI 0) X.1 X.2.1 dX7_read_120 (by decide) ?_
              refine lv_aload_n X.1 X.2.1 dX7_read_121 rfl (lv_at hl 0 rfl) ?_
              refine wm_get X hP hlt0 hE0 rfl wm_inX7 15 (by decide) wq5_37 rfl dX7_read_122 ?_
              refine lv_iconst (v := nI 0) X.1 X.2.1 dX7_read_125 (by decide) ?_
              refine wm_iald (i := 0) X hP hlt5 hE5 (by omega) (by decide) dX7_read_126 ?_
              refine wm_iast (i := 0) (x := ((va_up pFv opv (pFv opv ||| rFv opv)) 0)) X hP hS hlt3 hE3 (by omega) (by decide) dX7_read_127 (fun H locs E16 hP hS hE3 hq => ?_)
              have hE0 := (hq 119 (by decide)).trans hE0
              have hE1 := (hq 120 (by decide)).trans hE1
              have hE2 := (hq 126 (by decide)).trans hE2
              have hE4 := (hq 128 (by decide)).trans hE4
              have hE5 := (hq 129 (by decide)).trans hE5
              have hE6 := (hq 130 (by decide)).trans hE6
              have hE7 := (hq 131 (by decide)).trans hE7
              have hE8 := (hq 132 (by decide)).trans hE8
              have hE9 := (hq 133 (by decide)).trans hE9
              have hE10 := (hq 121 (by decide)).trans hE10
              have hE11 := (hq 122 (by decide)).trans hE11
              have hE12 := (hq 123 (by decide)).trans hE12
              have hE13 := (hq 124 (by decide)).trans hE13
              have hE14 := (hq 125 (by decide)).trans hE14
              have hfr : ∀ j, j ≠ 119 → j ≠ 126 → j ≠ 127 → j ≠ 128 → j ≠ 129 → j ≠ 130 → j ≠ 131 → j ≠ 132 → j ≠ 133 → j ≠ 121 → j ≠ 122 → j ≠ 123 → j ≠ 124 → j ≠ 125 → E16 j = E j := fun j h0 h1 h2 h3 h4 h5 h6 h7 h8 h9 h10 h11 h12 h13 => (hq j h2).trans (hfr j h0 h1 h2 h3 h4 h5 h6 h7 h8 h9 h10 h11 h12 h13)
              have hrel9 := hend.2.2.2
              rw [hc91] at hrel9
              have hrow := wm_rdrow hrel9
              have hzb9 := wm_go_b tx sz 0 _ hzb
              have hlt9 := wm_rdlt hzb9
              have hcn := hrel9.1.1
              have hcn4 := hrel9.1.2.2.2.1
              have hml9 := hrel9.1.2.2.2.2.2.1
              obtain ⟨fo9, hfo9⟩ : ∃ q : Nat → Nat, q = va_up fov 0 ((va_up pFv opv (pFv opv ||| rFv opv)) 0) := ⟨_, rfl⟩
              rw [← hfo9] at hE3
              have hfor : ∀ s, s < (wm_go tx sz 0 (wm_z0 z)).2.2.1.2.1 → fo9 s = (wm_z9 (wm_go tx sz 0 (wm_z0 z)).2.2).2.1 s := fun s hs => by rw [hfo9, hc91, va_up_self]; exact hrow.1 s hs
              refine lv_aload_n X.1 X.2.1 dX7_read_128 rfl (lv_at hl 0 rfl) ?_
              refine wm_callVv (k := 0) (As := []) (rest := []) X hP hS hlt0 hE0 rfl (kX7_clearNew l D C b n E16 0 sz fav plv atv aav opv fiv lav wa wc kl bev na hlt0 hE0 hlt14 hE14) wq5_204 wq5_206 wqP3_10 wq1_8 wq5_207 (by decide) (by rw [hRe]; exact ⟨Nat.le_of_ble_eq_true rfl, Nat.le_of_ble_eq_true rfl⟩) rfl hl.1 rfl (Nat.le_of_ble_eq_true rfl) (Nat.zero_le _) (Nat.zero_le _) dX7_read_129 (fun E17 H locs hw hP hS => ?_)
              obtain ⟨na117, hE14, hq, hp17_0⟩ := hw
              have hE0 := (hq 119 (by decide)).trans hE0
              have hE1 := (hq 120 (by decide)).trans hE1
              have hE2 := (hq 126 (by decide)).trans hE2
              have hE3 := (hq 127 (by decide)).trans hE3
              have hE4 := (hq 128 (by decide)).trans hE4
              have hE5 := (hq 129 (by decide)).trans hE5
              have hE6 := (hq 130 (by decide)).trans hE6
              have hE7 := (hq 131 (by decide)).trans hE7
              have hE8 := (hq 132 (by decide)).trans hE8
              have hE9 := (hq 133 (by decide)).trans hE9
              have hE10 := (hq 121 (by decide)).trans hE10
              have hE11 := (hq 122 (by decide)).trans hE11
              have hE12 := (hq 123 (by decide)).trans hE12
              have hE13 := (hq 124 (by decide)).trans hE13
              have hfr : ∀ j, j ≠ 119 → j ≠ 126 → j ≠ 127 → j ≠ 128 → j ≠ 129 → j ≠ 130 → j ≠ 131 → j ≠ 132 → j ≠ 133 → j ≠ 121 → j ≠ 122 → j ≠ 123 → j ≠ 124 → j ≠ 125 → E17 j = E j := fun j h0 h1 h2 h3 h4 h5 h6 h7 h8 h9 h10 h11 h12 h13 => (hq j h13).trans (hfr j h0 h1 h2 h3 h4 h5 h6 h7 h8 h9 h10 h11 h12 h13)
              refine lv_iconst (v := nI 0) X.1 X.2.1 dX7_read_132 (by decide) ?_
              refine lv_istore_n (lv' := [(2, .int (nI 0)), (0, .ref (b + 119)), (1, .int (nI k))]) X.1 X.2.1 dX7_read_133 rfl hl (by decide) rfl (fun ls hl => ?_)
              have L134 : ∀ (fu : Nat) (s1 : Nat) (na1 : Nat → Nat), 24 - s1 < fu → (s1 ≤ atv + 1) → (wm_t3 (fun s9 l9 t9 => if 1 ≤ t9 ∧ (fo9 s9).testBit t9 = true ∧ (mlv t9).testBit l9 = true then 1 <<< t9 else 0) (atv + 1) s1 0 0 na1) → ∀ (E18 : Nat → va_E) (H : Heap) (locs : List Loc) (ls : Array Slot), wm_P D b n E18 H → wm_S b s.heap H locs → E18 119 = .inr (7, [.int (nI 0), .ref (b + 120), .int (nI sz), .int (nI fav), .int (nI plv), .ref (b + 121), .ref (b + 122), .ref (b + 123), .ref (b + 124), .ref (b + 125), .ref (b + 126), .ref (b + 127), .int (nI atv), .int (nI aav), .ref (b + 128), .ref (b + 129), .ref (b + 130), .ref (b + 131), .ref (b + 132), .ref (b + 133), .int (nI opv), .int (nI bev.toNat), .int (nI fiv), .int (nI lav), .ref (b + 134), .ref (b + 135), .ref (b + 136), .int (nI wa), .ref (b + 137), .ref (b + 138), .ref (b + 139), .int (nI wc), .ref (b + 140), .int (nI kl), .ref (b + 141), .ref (b + 142), .ref (b + 143), .ref (b + 144), .ref (b + 145)]) → E18 120 = wm_I C 200 tx → E18 126 = wm_I C 24 mlv → E18 127 = wm_I C 24 fo9 → E18 128 = wm_Z C 22 (va_up pBv opv (pBv opv || rBv opv)) → E18 129 = wm_I C 22 (va_up pFv opv (pFv opv ||| rFv opv)) → E18 130 = wm_I C 22 (va_up pLv opv (pLv opv ||| rLv opv)) → E18 131 = wm_Z C 22 rBv → E18 132 = wm_I C 22 rFv → E18 133 = wm_I C 22 rLv → E18 121 = wm_I C 1536 ar → E18 122 = wm_I C 8 ss → E18 123 = wm_I C 8 sa → E18 124 = wm_I C 8 se → E18 125 = wm_I C 192 na1 → (∀ j, j ≠ 119 → j ≠ 126 → j ≠ 127 → j ≠ 128 → j ≠ 129 → j ≠ 130 → j ≠ 131 → j ≠ 132 → j ≠ 133 → j ≠ 121 → j ≠ 122 → j ≠ 123 → j ≠ 124 → j ≠ 125 → E18 j = E j) → lv_has ls 6 [(0, .ref (b + 119)), (1, .int (nI k)), (2, .int (nI s1))] → W p l e R s m args below meth c H locs 0 0 Q (F0 m 134 ls []) := by
                intro fu
                induction fu with
                | zero => intro s1 na1 hm; exact absurd hm (Nat.not_lt_zero _)
                | succ fu ih134 =>
                  intro s1 na1 hm hs1 h1 E18 H locs ls hP hS hE0 hE1 hE2 hE3 hE4 hE5 hE6 hE7 hE8 hE9 hE10 hE11 hE12 hE13 hE14 hfr hl
                  refine lv_iload_n X.1 X.2.1 dX7_read_134 rfl (lv_at hl 2 rfl) ?_
                  refine lv_aload_n X.1 X.2.1 dX7_read_135 rfl (lv_at hl 0 rfl) ?_
                  refine wm_get X hP hlt0 hE0 rfl wm_inX7 12 (by decide) wq5_34 rfl dX7_read_136 ?_
                  refine wm_icmp_gt (x := s1) (y := atv) (tgt := 264) X (by omega) (by omega) dX7_read_139 (by decide) (fun hc139 => ?_) (fun hc139 => ?_)
                  · have hpb0 : va_up pBv opv (pBv opv || rBv opv) 0 = (pBv 0 || rBv 0) := by rw [hc91, va_up_self]
                    have hpl0 : va_up pLv opv (pLv opv ||| rLv opv) 0 = (pLv 0 ||| rLv 0) := by rw [hc91, va_up_self]
                    refine lv_aload_n X.1 X.2.1 dX7_read_264 rfl (lv_at hl 0 rfl) ?_
                    refine lv_iload_n X.1 X.2.1 dX7_read_265 rfl (lv_at hl 1 rfl) ?_
                    refine lv_aload_n X.1 X.2.1 dX7_read_266 rfl (lv_at hl 0 rfl) ?_
                    refine wm_get X hP hlt0 hE0 rfl wm_inX7 12 (by decide) wq5_34 rfl dX7_read_267 ?_
                    refine lv_iconst (v := nI 1) X.1 X.2.1 dX7_read_270 (by decide) ?_
                    refine wm_iadd (x := atv) (y := 1) X dX7_read_271 ?_
                    refine lv_iconst (v := nI 1) X.1 X.2.1 dX7_read_272 (by decide) ?_
                    refine lv_aload_n X.1 X.2.1 dX7_read_273 rfl (lv_at hl 0 rfl) ?_
                    refine wm_get X hP hlt0 hE0 rfl wm_inX7 14 (by decide) wq5_36 rfl dX7_read_274 ?_
                    refine lv_iconst (v := nI 0) X.1 X.2.1 dX7_read_277 (by decide) ?_
                    refine wm_zald (i := 0) X hP hlt4 hE4 (by omega) (by decide) dX7_read_278 ?_
                    rw [show (va_up pBv opv (pBv opv || rBv opv)) 0 = (pBv 0 || rBv 0) from hpb0]
                    refine wm_ifz_eq (x := (pBv 0 || rBv 0)) (tgt := 293) X dX7_read_279 (by decide) (fun hc279 => ?_) (fun hc279 => ?_)
                    · refine lv_aload_n X.1 X.2.1 dX7_read_293 rfl (lv_at hl 0 rfl) ?_
                      refine wm_get X hP hlt0 hE0 rfl wm_inX7 16 (by decide) wq5_38 rfl dX7_read_294 ?_
                      refine lv_iconst (v := nI 0) X.1 X.2.1 dX7_read_297 (by decide) ?_
                      refine wm_iald (i := 0) X hP hlt6 hE6 (by omega) (by decide) dX7_read_298 ?_
                      refine wm_callVv (k := 4) (As := [.int (nI k), .int (nI (atv + 1)), .int (nI 1), .int (nI ((va_up pLv opv (pLv opv ||| rLv opv)) 0))]) (rest := []) X hP hS hlt0 hE0 rfl (kX7_put l D C b n E18 0 sz fav plv atv aav opv fiv lav wa wc kl bev k (atv + 1) 1 ((va_up pLv opv (pLv opv ||| rLv opv)) 0) ar ss sa se na1 hlt0 hE0 hlt10 hE10 hlt11 hE11 hlt12 hE12 hlt13 hE13 hlt14 hE14 (by omega)) wq5_208 wq5_210 wqP3_11 wq1_8 wq5_211 (by decide) (by rw [hRe]; exact ⟨Nat.le_of_ble_eq_true rfl, Nat.le_of_ble_eq_true rfl⟩) rfl hl.1 rfl (Nat.le_of_ble_eq_true rfl) (Nat.zero_le _) (Nat.zero_le _) dX7_read_299 (fun E21 H locs hw hP hS => ?_)
                      obtain ⟨ar121, hE10, hE11, hE12, hE13, hq, hp21_0⟩ := hw
                      have hE0 := (hq 119 (by decide) (by decide) (by decide) (by decide)).trans hE0
                      have hE1 := (hq 120 (by decide) (by decide) (by decide) (by decide)).trans hE1
                      have hE2 := (hq 126 (by decide) (by decide) (by decide) (by decide)).trans hE2
                      have hE3 := (hq 127 (by decide) (by decide) (by decide) (by decide)).trans hE3
                      have hE4 := (hq 128 (by decide) (by decide) (by decide) (by decide)).trans hE4
                      have hE5 := (hq 129 (by decide) (by decide) (by decide) (by decide)).trans hE5
                      have hE6 := (hq 130 (by decide) (by decide) (by decide) (by decide)).trans hE6
                      have hE7 := (hq 131 (by decide) (by decide) (by decide) (by decide)).trans hE7
                      have hE8 := (hq 132 (by decide) (by decide) (by decide) (by decide)).trans hE8
                      have hE9 := (hq 133 (by decide) (by decide) (by decide) (by decide)).trans hE9
                      have hE14 := (hq 125 (by decide) (by decide) (by decide) (by decide)).trans hE14
                      have hfr : ∀ j, j ≠ 119 → j ≠ 126 → j ≠ 127 → j ≠ 128 → j ≠ 129 → j ≠ 130 → j ≠ 131 → j ≠ 132 → j ≠ 133 → j ≠ 121 → j ≠ 122 → j ≠ 123 → j ≠ 124 → j ≠ 125 → E21 j = E j := fun j h0 h1 h2 h3 h4 h5 h6 h7 h8 h9 h10 h11 h12 h13 => (hq j h9 h10 h11 h12).trans (hfr j h0 h1 h2 h3 h4 h5 h6 h7 h8 h9 h10 h11 h12 h13)
                      refine lv_aload_n X.1 X.2.1 dX7_read_302 rfl (lv_at hl 0 rfl) ?_
                      refine wm_get X hP hlt0 hE0 rfl wm_inX7 12 (by decide) wq5_34 rfl dX7_read_303 ?_
                      refine lv_iconst (v := nI 1) X.1 X.2.1 dX7_read_306 (by decide) ?_
                      refine wm_iadd (x := atv) (y := 1) X dX7_read_307 ?_
                      have hs9 : s1 = atv + 1 := by omega
                      have hen9 := hrow.2
                      have hna9 := wm_rdna hcn hcn4 hml9 hfor (show wm_t3 _ (atv + 1) (atv + 1) 0 0 na1 from hs9 ▸ h1)
                      have hkp := (wm_kd_op hend.2.2.2 hend.2.1).2 hc91
                      exact wm_iret (post := pmreadz1 C b E th sz fa pl ats aa op fi la wa wc kl be k z ar ss sa se na tx ml fo pF pL rF rL pB rB) X hr hP hS ⟨aav, atv, opv, bev, fiv, lav, mlv, fo9, (va_up pBv opv (pBv opv || rBv opv)), (va_up pFv opv (pFv opv ||| rFv opv)), (va_up pLv opv (pLv opv ||| rLv opv)), rBv, rFv, rLv, ar121, na1, (by rw [hcn]), (by rw [hkp.1, hkp.2]; rw [hc66, hend.1] at hE0; exact hE0), hE2, hE3, hE4, hE5, hE6, hE7, hE8, hE9, hE10, (by rw [← hcn]; exact hE11), hE12, (by rw [← hen9, hc279]; rw [hpl0] at hE13; exact hE13), hE14, hfr, hna9, hp21_0⟩ hQ dX7_read_308
                    · refine lv_aload_n X.1 X.2.1 dX7_read_282 rfl (lv_at hl 0 rfl) ?_
                      refine wm_get X hP hlt0 hE0 rfl wm_inX7 16 (by decide) wq5_38 rfl dX7_read_283 ?_
                      refine lv_iconst (v := nI 0) X.1 X.2.1 dX7_read_286 (by decide) ?_
                      refine wm_iald (i := 0) X hP hlt6 hE6 (by omega) (by decide) dX7_read_287 ?_
                      rw [show (va_up pLv opv (pLv opv ||| rLv opv)) 0 = (pLv 0 ||| rLv 0) from hpl0]
                      refine lv_iconst (v := nI 1) X.1 X.2.1 dX7_read_288 (by decide) ?_
                      refine wm_ior (x := (pLv 0 ||| rLv 0)) (y := 1) X dX7_read_289 ?_
                      refine lv_goto (tgt := 299) X.1 X.2.1 dX7_read_290 (by decide) ?_
                      refine wm_callVv (k := 4) (As := [.int (nI k), .int (nI (atv + 1)), .int (nI 1), .int (nI ((pLv 0 ||| rLv 0) ||| 1))]) (rest := []) X hP hS hlt0 hE0 rfl (kX7_put l D C b n E18 0 sz fav plv atv aav opv fiv lav wa wc kl bev k (atv + 1) 1 ((pLv 0 ||| rLv 0) ||| 1) ar ss sa se na1 hlt0 hE0 hlt10 hE10 hlt11 hE11 hlt12 hE12 hlt13 hE13 hlt14 hE14 (by omega)) wq5_208 wq5_210 wqP3_11 wq1_8 wq5_211 (by decide) (by rw [hRe]; exact ⟨Nat.le_of_ble_eq_true rfl, Nat.le_of_ble_eq_true rfl⟩) rfl hl.1 rfl (Nat.le_of_ble_eq_true rfl) (Nat.zero_le _) (Nat.zero_le _) dX7_read_299 (fun E22 H locs hw hP hS => ?_)
                      obtain ⟨ar122, hE10, hE11, hE12, hE13, hq, hp22_0⟩ := hw
                      have hE0 := (hq 119 (by decide) (by decide) (by decide) (by decide)).trans hE0
                      have hE1 := (hq 120 (by decide) (by decide) (by decide) (by decide)).trans hE1
                      have hE2 := (hq 126 (by decide) (by decide) (by decide) (by decide)).trans hE2
                      have hE3 := (hq 127 (by decide) (by decide) (by decide) (by decide)).trans hE3
                      have hE4 := (hq 128 (by decide) (by decide) (by decide) (by decide)).trans hE4
                      have hE5 := (hq 129 (by decide) (by decide) (by decide) (by decide)).trans hE5
                      have hE6 := (hq 130 (by decide) (by decide) (by decide) (by decide)).trans hE6
                      have hE7 := (hq 131 (by decide) (by decide) (by decide) (by decide)).trans hE7
                      have hE8 := (hq 132 (by decide) (by decide) (by decide) (by decide)).trans hE8
                      have hE9 := (hq 133 (by decide) (by decide) (by decide) (by decide)).trans hE9
                      have hE14 := (hq 125 (by decide) (by decide) (by decide) (by decide)).trans hE14
                      have hfr : ∀ j, j ≠ 119 → j ≠ 126 → j ≠ 127 → j ≠ 128 → j ≠ 129 → j ≠ 130 → j ≠ 131 → j ≠ 132 → j ≠ 133 → j ≠ 121 → j ≠ 122 → j ≠ 123 → j ≠ 124 → j ≠ 125 → E22 j = E j := fun j h0 h1 h2 h3 h4 h5 h6 h7 h8 h9 h10 h11 h12 h13 => (hq j h9 h10 h11 h12).trans (hfr j h0 h1 h2 h3 h4 h5 h6 h7 h8 h9 h10 h11 h12 h13)
                      refine lv_aload_n X.1 X.2.1 dX7_read_302 rfl (lv_at hl 0 rfl) ?_
                      refine wm_get X hP hlt0 hE0 rfl wm_inX7 12 (by decide) wq5_34 rfl dX7_read_303 ?_
                      refine lv_iconst (v := nI 1) X.1 X.2.1 dX7_read_306 (by decide) ?_
                      refine wm_iadd (x := atv) (y := 1) X dX7_read_307 ?_
                      have hs9 : s1 = atv + 1 := by omega
                      have hen9 := hrow.2
                      have hna9 := wm_rdna hcn hcn4 hml9 hfor (show wm_t3 _ (atv + 1) (atv + 1) 0 0 na1 from hs9 ▸ h1)
                      have hkp := (wm_kd_op hend.2.2.2 hend.2.1).2 hc91
                      exact wm_iret (post := pmreadz1 C b E th sz fa pl ats aa op fi la wa wc kl be k z ar ss sa se na tx ml fo pF pL rF rL pB rB) X hr hP hS ⟨aav, atv, opv, bev, fiv, lav, mlv, fo9, (va_up pBv opv (pBv opv || rBv opv)), (va_up pFv opv (pFv opv ||| rFv opv)), (va_up pLv opv (pLv opv ||| rLv opv)), rBv, rFv, rLv, ar122, na1, (by rw [hcn]), (by rw [hkp.1, hkp.2]; rw [hc66, hend.1] at hE0; exact hE0), hE2, hE3, hE4, hE5, hE6, hE7, hE8, hE9, hE10, (by rw [← hcn]; exact hE11), hE12, (by rw [← hen9, hc279]; exact hE13), hE14, hfr, hna9, hp22_0⟩ hQ dX7_read_308
                  · refine lv_iconst (v := nI 1) X.1 X.2.1 dX7_read_142 (by decide) ?_
                    refine lv_istore_n (lv' := [(3, .int (nI 1)), (0, .ref (b + 119)), (1, .int (nI k)), (2, .int (nI s1))]) X.1 X.2.1 dX7_read_143 rfl hl (by decide) rfl (fun ls hl => ?_)
                    have L144 : ∀ (fu : Nat) (t1 : Nat) (na2 : Nat → Nat), 25 - t1 < fu → (1 ≤ t1) → (t1 ≤ atv + 1) → (wm_t3 (fun s9 l9 t9 => if 1 ≤ t9 ∧ (fo9 s9).testBit t9 = true ∧ (mlv t9).testBit l9 = true then 1 <<< t9 else 0) (atv + 1) s1 t1 0 na2) → ∀ (E23 : Nat → va_E) (H : Heap) (locs : List Loc) (ls : Array Slot), wm_P D b n E23 H → wm_S b s.heap H locs → E23 119 = .inr (7, [.int (nI 0), .ref (b + 120), .int (nI sz), .int (nI fav), .int (nI plv), .ref (b + 121), .ref (b + 122), .ref (b + 123), .ref (b + 124), .ref (b + 125), .ref (b + 126), .ref (b + 127), .int (nI atv), .int (nI aav), .ref (b + 128), .ref (b + 129), .ref (b + 130), .ref (b + 131), .ref (b + 132), .ref (b + 133), .int (nI opv), .int (nI bev.toNat), .int (nI fiv), .int (nI lav), .ref (b + 134), .ref (b + 135), .ref (b + 136), .int (nI wa), .ref (b + 137), .ref (b + 138), .ref (b + 139), .int (nI wc), .ref (b + 140), .int (nI kl), .ref (b + 141), .ref (b + 142), .ref (b + 143), .ref (b + 144), .ref (b + 145)]) → E23 120 = wm_I C 200 tx → E23 126 = wm_I C 24 mlv → E23 127 = wm_I C 24 fo9 → E23 128 = wm_Z C 22 (va_up pBv opv (pBv opv || rBv opv)) → E23 129 = wm_I C 22 (va_up pFv opv (pFv opv ||| rFv opv)) → E23 130 = wm_I C 22 (va_up pLv opv (pLv opv ||| rLv opv)) → E23 131 = wm_Z C 22 rBv → E23 132 = wm_I C 22 rFv → E23 133 = wm_I C 22 rLv → E23 121 = wm_I C 1536 ar → E23 122 = wm_I C 8 ss → E23 123 = wm_I C 8 sa → E23 124 = wm_I C 8 se → E23 125 = wm_I C 192 na2 → (∀ j, j ≠ 119 → j ≠ 126 → j ≠ 127 → j ≠ 128 → j ≠ 129 → j ≠ 130 → j ≠ 131 → j ≠ 132 → j ≠ 133 → j ≠ 121 → j ≠ 122 → j ≠ 123 → j ≠ 124 → j ≠ 125 → E23 j = E j) → lv_has ls 6 [(0, .ref (b + 119)), (1, .int (nI k)), (2, .int (nI s1)), (3, .int (nI t1))] → W p l e R s m args below meth c H locs 0 0 Q (F0 m 144 ls []) := by
                      intro fu
                      induction fu with
                      | zero => intro t1 na2 hm; exact absurd hm (Nat.not_lt_zero _)
                      | succ fu ih144 =>
                        intro t1 na2 hm ht1 ht2 h2 E23 H locs ls hP hS hE0 hE1 hE2 hE3 hE4 hE5 hE6 hE7 hE8 hE9 hE10 hE11 hE12 hE13 hE14 hfr hl
                        refine lv_iload_n X.1 X.2.1 dX7_read_144 rfl (lv_at hl 3 rfl) ?_
                        refine lv_aload_n X.1 X.2.1 dX7_read_145 rfl (lv_at hl 0 rfl) ?_
                        refine wm_get X hP hlt0 hE0 rfl wm_inX7 12 (by decide) wq5_34 rfl dX7_read_146 ?_
                        refine wm_icmp_gt (x := t1) (y := atv) (tgt := 258) X (by omega) (by omega) dX7_read_149 (by decide) (fun hc149 => ?_) (fun hc149 => ?_)
                        · refine lv_iinc (v := nI (s1 + 1)) (lv' := [(2, .int (nI (s1 + 1))), (0, .ref (b + 119)), (1, .int (nI k)), (3, .int (nI t1))]) X.1 X.2.1 dX7_read_258 hl (k := 2) rfl (wm_inc s1) (by decide) rfl (fun ls hl => ?_)
                          refine lv_goto (tgt := 134) X.1 X.2.1 dX7_read_261 (by decide) ?_
                          exact ih134 (s1 + 1) na2 (by omega) (by omega) (wm_t3S h2 (by omega)) E23 _ _ _ hP hS hE0 hE1 hE2 hE3 hE4 hE5 hE6 hE7 hE8 hE9 hE10 hE11 hE12 hE13 hE14 hfr (lv_sub hl [1, 2, 0] rfl)
                        · refine lv_iconst (v := nI 0) X.1 X.2.1 dX7_read_152 (by decide) ?_
                          refine lv_istore (lv' := [(4, .int (nI 0)), (0, .ref (b + 119)), (1, .int (nI k)), (2, .int (nI s1)), (3, .int (nI t1))]) X.1 X.2.1 dX7_read_153 hl (by decide) rfl (fun ls hl => ?_)
                          have L155 : ∀ (fu : Nat) (a1 : Nat) (na3 : Nat → Nat), 8 - a1 < fu → (a1 ≤ 8) → (wm_t3 (fun s9 l9 t9 => if 1 ≤ t9 ∧ (fo9 s9).testBit t9 = true ∧ (mlv t9).testBit l9 = true then 1 <<< t9 else 0) (atv + 1) s1 t1 a1 na3) → ∀ (E25 : Nat → va_E) (H : Heap) (locs : List Loc) (ls : Array Slot), wm_P D b n E25 H → wm_S b s.heap H locs → E25 119 = .inr (7, [.int (nI 0), .ref (b + 120), .int (nI sz), .int (nI fav), .int (nI plv), .ref (b + 121), .ref (b + 122), .ref (b + 123), .ref (b + 124), .ref (b + 125), .ref (b + 126), .ref (b + 127), .int (nI atv), .int (nI aav), .ref (b + 128), .ref (b + 129), .ref (b + 130), .ref (b + 131), .ref (b + 132), .ref (b + 133), .int (nI opv), .int (nI bev.toNat), .int (nI fiv), .int (nI lav), .ref (b + 134), .ref (b + 135), .ref (b + 136), .int (nI wa), .ref (b + 137), .ref (b + 138), .ref (b + 139), .int (nI wc), .ref (b + 140), .int (nI kl), .ref (b + 141), .ref (b + 142), .ref (b + 143), .ref (b + 144), .ref (b + 145)]) → E25 120 = wm_I C 200 tx → E25 126 = wm_I C 24 mlv → E25 127 = wm_I C 24 fo9 → E25 128 = wm_Z C 22 (va_up pBv opv (pBv opv || rBv opv)) → E25 129 = wm_I C 22 (va_up pFv opv (pFv opv ||| rFv opv)) → E25 130 = wm_I C 22 (va_up pLv opv (pLv opv ||| rLv opv)) → E25 131 = wm_Z C 22 rBv → E25 132 = wm_I C 22 rFv → E25 133 = wm_I C 22 rLv → E25 121 = wm_I C 1536 ar → E25 122 = wm_I C 8 ss → E25 123 = wm_I C 8 sa → E25 124 = wm_I C 8 se → E25 125 = wm_I C 192 na3 → (∀ j, j ≠ 119 → j ≠ 126 → j ≠ 127 → j ≠ 128 → j ≠ 129 → j ≠ 130 → j ≠ 131 → j ≠ 132 → j ≠ 133 → j ≠ 121 → j ≠ 122 → j ≠ 123 → j ≠ 124 → j ≠ 125 → E25 j = E j) → lv_has ls 6 [(0, .ref (b + 119)), (1, .int (nI k)), (2, .int (nI s1)), (3, .int (nI t1)), (4, .int (nI a1))] → W p l e R s m args below meth c H locs 0 0 Q (F0 m 155 ls []) := by
                            intro fu
                            induction fu with
                            | zero => intro a1 na3 hm; exact absurd hm (Nat.not_lt_zero _)
                            | succ fu ih155 =>
                              intro a1 na3 hm ha1 h3 E25 H locs ls hP hS hE0 hE1 hE2 hE3 hE4 hE5 hE6 hE7 hE8 hE9 hE10 hE11 hE12 hE13 hE14 hfr hl
                              have hfs : fo9 s1 < 2 ^ 31 := by rw [hfor s1 (by omega)]; exact Nat.lt_trans (hlt9.1 s1) (by decide)
                              have hmt : mlv t1 < 2 ^ 31 := by rw [hml9 t1 ht1 (by omega)]; exact Nat.lt_trans (hlt9.2 t1) (by decide)
                              refine lv_iload X.1 X.2.1 dX7_read_155 (lv_at hl 4 rfl) ?_
                              refine lv_bipush (v := nI 8) X.1 X.2.1 dX7_read_157 (by decide) ?_
                              refine wm_icmp_ge (x := a1) (y := 8) (tgt := 252) X (by omega) (by decide) dX7_read_159 (by decide) (fun hc159 => ?_) (fun hc159 => ?_)
                              · refine lv_iinc (v := nI (t1 + 1)) (lv' := [(3, .int (nI (t1 + 1))), (0, .ref (b + 119)), (1, .int (nI k)), (2, .int (nI s1)), (4, .int (nI a1))]) X.1 X.2.1 dX7_read_252 hl (k := 3) rfl (wm_inc t1) (by decide) rfl (fun ls hl => ?_)
                                refine lv_goto (tgt := 144) X.1 X.2.1 dX7_read_255 (by decide) ?_
                                exact ih144 (t1 + 1) na3 (by omega) (by omega) (by omega) (wm_t3T h3 hc159) E25 _ _ _ hP hS hE0 hE1 hE2 hE3 hE4 hE5 hE6 hE7 hE8 hE9 hE10 hE11 hE12 hE13 hE14 hfr (lv_sub hl [1, 2, 3, 0] rfl)
                              · refine lv_aload_n X.1 X.2.1 dX7_read_162 rfl (lv_at hl 0 rfl) ?_
                                refine wm_get X hP hlt0 hE0 rfl wm_inX7 11 (by decide) wq5_33 rfl dX7_read_163 ?_
                                refine lv_iload_n X.1 X.2.1 dX7_read_166 rfl (lv_at hl 2 rfl) ?_
                                refine wm_iald (i := s1) X hP hlt3 hE3 (by omega) (by decide) dX7_read_167 ?_
                                refine lv_iload_n X.1 X.2.1 dX7_read_168 rfl (lv_at hl 3 rfl) ?_
                                refine wm_ishr (x := (fo9 s1)) (y := t1) X hfs (by omega) dX7_read_169 ?_
                                refine lv_iconst (v := nI 1) X.1 X.2.1 dX7_read_170 (by decide) ?_
                                refine wm_iand (x := ((fo9 s1) >>> t1)) (y := 1) X dX7_read_171 ?_
                                refine lv_iconst (v := nI 1) X.1 X.2.1 dX7_read_172 (by decide) ?_
                                refine wm_icmp_ne (x := (((fo9 s1) >>> t1) &&& 1)) (y := 1) (tgt := 195) X (Nat.lt_trans (wm_and1_lt _) (by decide)) (by decide) dX7_read_173 (by decide) (fun hc173 => ?_) (fun hc173 => ?_)
                                · refine lv_iconst (v := nI 0) X.1 X.2.1 dX7_read_195 (by decide) ?_
                                  refine lv_istore (lv' := [(5, .int (nI 0)), (0, .ref (b + 119)), (1, .int (nI k)), (2, .int (nI s1)), (3, .int (nI t1)), (4, .int (nI a1))]) X.1 X.2.1 dX7_read_196 hl (by decide) rfl (fun ls hl => ?_)
                                  refine lv_aload_n X.1 X.2.1 dX7_read_198 rfl (lv_at hl 1 rfl) ?_
                                  refine wm_get X hP hlt0 hE0 rfl wm_inX7 9 (by decide) wq5_31 rfl dX7_read_199 ?_
                                  refine lv_bipush (v := nI 8) X.1 X.2.1 dX7_read_202 (by decide) ?_
                                  refine lv_iload_n X.1 X.2.1 dX7_read_204 rfl (lv_at hl 3 rfl) ?_
                                  refine wm_imul (x := 8) (y := s1) X dX7_read_205 ?_
                                  refine lv_iload X.1 X.2.1 dX7_read_206 (lv_at hl 5 rfl) ?_
                                  refine wm_iadd (x := (8 * s1)) (y := a1) X dX7_read_208 ?_
                                  refine lv_iload X.1 X.2.1 dX7_read_209 (lv_at hl 0 rfl) ?_
                                  refine lv_if_eq (tgt := 233) X.1 X.2.1 dX7_read_211 (by decide) (fun _ => ?_) (fun h => by exfalso; revert h; decide)
                                  refine lv_aload_n X.1 X.2.1 dX7_read_233 rfl (lv_at hl 1 rfl) ?_
                                  refine wm_get X hP hlt0 hE0 rfl wm_inX7 9 (by decide) wq5_31 rfl dX7_read_234 ?_
                                  refine lv_bipush (v := nI 8) X.1 X.2.1 dX7_read_237 (by decide) ?_
                                  refine lv_iload_n X.1 X.2.1 dX7_read_239 rfl (lv_at hl 3 rfl) ?_
                                  refine wm_imul (x := 8) (y := s1) X dX7_read_240 ?_
                                  refine lv_iload X.1 X.2.1 dX7_read_241 (lv_at hl 5 rfl) ?_
                                  refine wm_iadd (x := (8 * s1)) (y := a1) X dX7_read_243 ?_
                                  refine wm_iald (i := ((8 * s1) + a1)) X hP hlt14 hE14 (by omega) (by decide) dX7_read_244 ?_
                                  refine wm_iast (i := ((8 * s1) + a1)) (x := (na3 ((8 * s1) + a1))) X hP hS hlt14 hE14 (by omega) (by decide) dX7_read_245 (fun H locs E28 hP hS hE14 hq => ?_)
                                  have hE0 := (hq 119 (by decide)).trans hE0
                                  have hE1 := (hq 120 (by decide)).trans hE1
                                  have hE2 := (hq 126 (by decide)).trans hE2
                                  have hE3 := (hq 127 (by decide)).trans hE3
                                  have hE4 := (hq 128 (by decide)).trans hE4
                                  have hE5 := (hq 129 (by decide)).trans hE5
                                  have hE6 := (hq 130 (by decide)).trans hE6
                                  have hE7 := (hq 131 (by decide)).trans hE7
                                  have hE8 := (hq 132 (by decide)).trans hE8
                                  have hE9 := (hq 133 (by decide)).trans hE9
                                  have hE10 := (hq 121 (by decide)).trans hE10
                                  have hE11 := (hq 122 (by decide)).trans hE11
                                  have hE12 := (hq 123 (by decide)).trans hE12
                                  have hE13 := (hq 124 (by decide)).trans hE13
                                  have hfr : ∀ j, j ≠ 119 → j ≠ 126 → j ≠ 127 → j ≠ 128 → j ≠ 129 → j ≠ 130 → j ≠ 131 → j ≠ 132 → j ≠ 133 → j ≠ 121 → j ≠ 122 → j ≠ 123 → j ≠ 124 → j ≠ 125 → E28 j = E j := fun j h0 h1 h2 h3 h4 h5 h6 h7 h8 h9 h10 h11 h12 h13 => (hq j h13).trans (hfr j h0 h1 h2 h3 h4 h5 h6 h7 h8 h9 h10 h11 h12 h13)
                                  refine lv_iinc (v := nI (a1 + 1)) (lv' := [(4, .int (nI (a1 + 1))), (5, .int (nI 0)), (0, .ref (b + 119)), (1, .int (nI k)), (2, .int (nI s1)), (3, .int (nI t1))]) X.1 X.2.1 dX7_read_246 hl (k := 5) rfl (wm_inc a1) (by decide) rfl (fun ls hl => ?_)
                                  refine lv_goto (tgt := 155) X.1 X.2.1 dX7_read_249 (by decide) ?_
                                  exact ih155 (a1 + 1) (va_up na3 ((8 * s1) + a1) (na3 ((8 * s1) + a1))) (by omega) (by omega) (wm_t3L h3 hc159 (by omega) (by rw [show (if 1 ≤ t1 ∧ (fo9 s1).testBit t1 = true ∧ (mlv t1).testBit a1 = true then 1 <<< t1 else 0) = 0 from if_neg (fun q => absurd (wm_sh0 hc173) (by rw [q.2.1]; decide))]; exact (Nat.or_zero _).symm)) E28 _ _ _ hP hS hE0 hE1 hE2 hE3 hE4 hE5 hE6 hE7 hE8 hE9 hE10 hE11 hE12 hE13 hE14 hfr (lv_sub hl [2, 3, 4, 5, 0] rfl)
                                · refine lv_aload_n X.1 X.2.1 dX7_read_176 rfl (lv_at hl 0 rfl) ?_
                                  refine wm_get X hP hlt0 hE0 rfl wm_inX7 10 (by decide) wq5_32 rfl dX7_read_177 ?_
                                  refine lv_iload_n X.1 X.2.1 dX7_read_180 rfl (lv_at hl 3 rfl) ?_
                                  refine wm_iald (i := t1) X hP hlt2 hE2 (by omega) (by decide) dX7_read_181 ?_
                                  refine lv_iload X.1 X.2.1 dX7_read_182 (lv_at hl 4 rfl) ?_
                                  refine wm_ishr (x := (mlv t1)) (y := a1) X hmt (by omega) dX7_read_184 ?_
                                  refine lv_iconst (v := nI 1) X.1 X.2.1 dX7_read_185 (by decide) ?_
                                  refine wm_iand (x := ((mlv t1) >>> a1)) (y := 1) X dX7_read_186 ?_
                                  refine lv_iconst (v := nI 1) X.1 X.2.1 dX7_read_187 (by decide) ?_
                                  refine wm_icmp_ne (x := (((mlv t1) >>> a1) &&& 1)) (y := 1) (tgt := 195) X (Nat.lt_trans (wm_and1_lt _) (by decide)) (by decide) dX7_read_188 (by decide) (fun hc188 => ?_) (fun hc188 => ?_)
                                  · refine lv_iconst (v := nI 0) X.1 X.2.1 dX7_read_195 (by decide) ?_
                                    refine lv_istore (lv' := [(5, .int (nI 0)), (0, .ref (b + 119)), (1, .int (nI k)), (2, .int (nI s1)), (3, .int (nI t1)), (4, .int (nI a1))]) X.1 X.2.1 dX7_read_196 hl (by decide) rfl (fun ls hl => ?_)
                                    refine lv_aload_n X.1 X.2.1 dX7_read_198 rfl (lv_at hl 1 rfl) ?_
                                    refine wm_get X hP hlt0 hE0 rfl wm_inX7 9 (by decide) wq5_31 rfl dX7_read_199 ?_
                                    refine lv_bipush (v := nI 8) X.1 X.2.1 dX7_read_202 (by decide) ?_
                                    refine lv_iload_n X.1 X.2.1 dX7_read_204 rfl (lv_at hl 3 rfl) ?_
                                    refine wm_imul (x := 8) (y := s1) X dX7_read_205 ?_
                                    refine lv_iload X.1 X.2.1 dX7_read_206 (lv_at hl 5 rfl) ?_
                                    refine wm_iadd (x := (8 * s1)) (y := a1) X dX7_read_208 ?_
                                    refine lv_iload X.1 X.2.1 dX7_read_209 (lv_at hl 0 rfl) ?_
                                    refine lv_if_eq (tgt := 233) X.1 X.2.1 dX7_read_211 (by decide) (fun _ => ?_) (fun h => by exfalso; revert h; decide)
                                    refine lv_aload_n X.1 X.2.1 dX7_read_233 rfl (lv_at hl 1 rfl) ?_
                                    refine wm_get X hP hlt0 hE0 rfl wm_inX7 9 (by decide) wq5_31 rfl dX7_read_234 ?_
                                    refine lv_bipush (v := nI 8) X.1 X.2.1 dX7_read_237 (by decide) ?_
                                    refine lv_iload_n X.1 X.2.1 dX7_read_239 rfl (lv_at hl 3 rfl) ?_
                                    refine wm_imul (x := 8) (y := s1) X dX7_read_240 ?_
                                    refine lv_iload X.1 X.2.1 dX7_read_241 (lv_at hl 5 rfl) ?_
                                    refine wm_iadd (x := (8 * s1)) (y := a1) X dX7_read_243 ?_
                                    refine wm_iald (i := ((8 * s1) + a1)) X hP hlt14 hE14 (by omega) (by decide) dX7_read_244 ?_
                                    refine wm_iast (i := ((8 * s1) + a1)) (x := (na3 ((8 * s1) + a1))) X hP hS hlt14 hE14 (by omega) (by decide) dX7_read_245 (fun H locs E30 hP hS hE14 hq => ?_)
                                    have hE0 := (hq 119 (by decide)).trans hE0
                                    have hE1 := (hq 120 (by decide)).trans hE1
                                    have hE2 := (hq 126 (by decide)).trans hE2
                                    have hE3 := (hq 127 (by decide)).trans hE3
                                    have hE4 := (hq 128 (by decide)).trans hE4
                                    have hE5 := (hq 129 (by decide)).trans hE5
                                    have hE6 := (hq 130 (by decide)).trans hE6
                                    have hE7 := (hq 131 (by decide)).trans hE7
                                    have hE8 := (hq 132 (by decide)).trans hE8
                                    have hE9 := (hq 133 (by decide)).trans hE9
                                    have hE10 := (hq 121 (by decide)).trans hE10
                                    have hE11 := (hq 122 (by decide)).trans hE11
                                    have hE12 := (hq 123 (by decide)).trans hE12
                                    have hE13 := (hq 124 (by decide)).trans hE13
                                    have hfr : ∀ j, j ≠ 119 → j ≠ 126 → j ≠ 127 → j ≠ 128 → j ≠ 129 → j ≠ 130 → j ≠ 131 → j ≠ 132 → j ≠ 133 → j ≠ 121 → j ≠ 122 → j ≠ 123 → j ≠ 124 → j ≠ 125 → E30 j = E j := fun j h0 h1 h2 h3 h4 h5 h6 h7 h8 h9 h10 h11 h12 h13 => (hq j h13).trans (hfr j h0 h1 h2 h3 h4 h5 h6 h7 h8 h9 h10 h11 h12 h13)
                                    refine lv_iinc (v := nI (a1 + 1)) (lv' := [(4, .int (nI (a1 + 1))), (5, .int (nI 0)), (0, .ref (b + 119)), (1, .int (nI k)), (2, .int (nI s1)), (3, .int (nI t1))]) X.1 X.2.1 dX7_read_246 hl (k := 5) rfl (wm_inc a1) (by decide) rfl (fun ls hl => ?_)
                                    refine lv_goto (tgt := 155) X.1 X.2.1 dX7_read_249 (by decide) ?_
                                    exact ih155 (a1 + 1) (va_up na3 ((8 * s1) + a1) (na3 ((8 * s1) + a1))) (by omega) (by omega) (wm_t3L h3 hc159 (by omega) (by rw [show (if 1 ≤ t1 ∧ (fo9 s1).testBit t1 = true ∧ (mlv t1).testBit a1 = true then 1 <<< t1 else 0) = 0 from if_neg (fun q => absurd (wm_sh0 hc188) (by rw [q.2.2]; decide))]; exact (Nat.or_zero _).symm)) E30 _ _ _ hP hS hE0 hE1 hE2 hE3 hE4 hE5 hE6 hE7 hE8 hE9 hE10 hE11 hE12 hE13 hE14 hfr (lv_sub hl [2, 3, 4, 5, 0] rfl)
                                  · refine lv_iconst (v := nI 1) X.1 X.2.1 dX7_read_191 (by decide) ?_
                                    refine lv_goto (tgt := 196) X.1 X.2.1 dX7_read_192 (by decide) ?_
                                    refine lv_istore (lv' := [(5, .int (nI 1)), (0, .ref (b + 119)), (1, .int (nI k)), (2, .int (nI s1)), (3, .int (nI t1)), (4, .int (nI a1))]) X.1 X.2.1 dX7_read_196 hl (by decide) rfl (fun ls hl => ?_)
                                    refine lv_aload_n X.1 X.2.1 dX7_read_198 rfl (lv_at hl 1 rfl) ?_
                                    refine wm_get X hP hlt0 hE0 rfl wm_inX7 9 (by decide) wq5_31 rfl dX7_read_199 ?_
                                    refine lv_bipush (v := nI 8) X.1 X.2.1 dX7_read_202 (by decide) ?_
                                    refine lv_iload_n X.1 X.2.1 dX7_read_204 rfl (lv_at hl 3 rfl) ?_
                                    refine wm_imul (x := 8) (y := s1) X dX7_read_205 ?_
                                    refine lv_iload X.1 X.2.1 dX7_read_206 (lv_at hl 5 rfl) ?_
                                    refine wm_iadd (x := (8 * s1)) (y := a1) X dX7_read_208 ?_
                                    refine lv_iload X.1 X.2.1 dX7_read_209 (lv_at hl 0 rfl) ?_
                                    refine lv_if_eq (tgt := 233) X.1 X.2.1 dX7_read_211 (by decide) (fun h => by exfalso; revert h; decide) (fun _ => ?_)
                                    refine lv_aload_n X.1 X.2.1 dX7_read_214 rfl (lv_at hl 1 rfl) ?_
                                    refine wm_get X hP hlt0 hE0 rfl wm_inX7 9 (by decide) wq5_31 rfl dX7_read_215 ?_
                                    refine lv_bipush (v := nI 8) X.1 X.2.1 dX7_read_218 (by decide) ?_
                                    refine lv_iload_n X.1 X.2.1 dX7_read_220 rfl (lv_at hl 3 rfl) ?_
                                    refine wm_imul (x := 8) (y := s1) X dX7_read_221 ?_
                                    refine lv_iload X.1 X.2.1 dX7_read_222 (lv_at hl 5 rfl) ?_
                                    refine wm_iadd (x := (8 * s1)) (y := a1) X dX7_read_224 ?_
                                    refine wm_iald (i := ((8 * s1) + a1)) X hP hlt14 hE14 (by omega) (by decide) dX7_read_225 ?_
                                    refine lv_iconst (v := nI 1) X.1 X.2.1 dX7_read_226 (by decide) ?_
                                    refine lv_iload_n X.1 X.2.1 dX7_read_227 rfl (lv_at hl 4 rfl) ?_
                                    refine wm_ishl (x := 1) (y := t1) X (by omega) dX7_read_228 ?_
                                    refine wm_ior (x := (na3 ((8 * s1) + a1))) (y := (1 <<< t1)) X dX7_read_229 ?_
                                    refine lv_goto (tgt := 245) X.1 X.2.1 dX7_read_230 (by decide) ?_
                                    refine wm_iast (i := ((8 * s1) + a1)) (x := ((na3 ((8 * s1) + a1)) ||| (1 <<< t1))) X hP hS hlt14 hE14 (by omega) (by decide) dX7_read_245 (fun H locs E31 hP hS hE14 hq => ?_)
                                    have hE0 := (hq 119 (by decide)).trans hE0
                                    have hE1 := (hq 120 (by decide)).trans hE1
                                    have hE2 := (hq 126 (by decide)).trans hE2
                                    have hE3 := (hq 127 (by decide)).trans hE3
                                    have hE4 := (hq 128 (by decide)).trans hE4
                                    have hE5 := (hq 129 (by decide)).trans hE5
                                    have hE6 := (hq 130 (by decide)).trans hE6
                                    have hE7 := (hq 131 (by decide)).trans hE7
                                    have hE8 := (hq 132 (by decide)).trans hE8
                                    have hE9 := (hq 133 (by decide)).trans hE9
                                    have hE10 := (hq 121 (by decide)).trans hE10
                                    have hE11 := (hq 122 (by decide)).trans hE11
                                    have hE12 := (hq 123 (by decide)).trans hE12
                                    have hE13 := (hq 124 (by decide)).trans hE13
                                    have hfr : ∀ j, j ≠ 119 → j ≠ 126 → j ≠ 127 → j ≠ 128 → j ≠ 129 → j ≠ 130 → j ≠ 131 → j ≠ 132 → j ≠ 133 → j ≠ 121 → j ≠ 122 → j ≠ 123 → j ≠ 124 → j ≠ 125 → E31 j = E j := fun j h0 h1 h2 h3 h4 h5 h6 h7 h8 h9 h10 h11 h12 h13 => (hq j h13).trans (hfr j h0 h1 h2 h3 h4 h5 h6 h7 h8 h9 h10 h11 h12 h13)
                                    refine lv_iinc (v := nI (a1 + 1)) (lv' := [(4, .int (nI (a1 + 1))), (5, .int (nI 1)), (0, .ref (b + 119)), (1, .int (nI k)), (2, .int (nI s1)), (3, .int (nI t1))]) X.1 X.2.1 dX7_read_246 hl (k := 5) rfl (wm_inc a1) (by decide) rfl (fun ls hl => ?_)
                                    refine lv_goto (tgt := 155) X.1 X.2.1 dX7_read_249 (by decide) ?_
                                    exact ih155 (a1 + 1) (va_up na3 ((8 * s1) + a1) ((na3 ((8 * s1) + a1)) ||| (1 <<< t1))) (by omega) (by omega) (wm_t3L h3 hc159 (by omega) (by rw [show (if 1 ≤ t1 ∧ (fo9 s1).testBit t1 = true ∧ (mlv t1).testBit a1 = true then 1 <<< t1 else 0) = 1 <<< t1 from if_pos ⟨ht1, wm_sh1 hc173, wm_sh1 hc188⟩])) E31 _ _ _ hP hS hE0 hE1 hE2 hE3 hE4 hE5 hE6 hE7 hE8 hE9 hE10 hE11 hE12 hE13 hE14 hfr (lv_sub hl [2, 3, 4, 5, 0] rfl)
                          exact L155 (8 - 0 + 1) 0 na2 (Nat.lt_succ_self _) (by omega) h2 E23 _ _ _ hP hS hE0 hE1 hE2 hE3 hE4 hE5 hE6 hE7 hE8 hE9 hE10 hE11 hE12 hE13 hE14 hfr (lv_sub hl [1, 2, 3, 4, 0] rfl)
                    exact L144 (25 - 1 + 1) 1 na1 (Nat.lt_succ_self _) (by omega) (by omega) (wm_t31 h1 (fun s l => if_neg (fun q => absurd q.1 (by decide)))) E18 _ _ _ hP hS hE0 hE1 hE2 hE3 hE4 hE5 hE6 hE7 hE8 hE9 hE10 hE11 hE12 hE13 hE14 hfr (lv_sub hl [1, 2, 3, 0] rfl)
              exact L134 (24 - 0 + 1) 0 na117 (Nat.lt_succ_self _) (by omega) (wm_t30 hp17_0) E17 _ _ _ hP hS hE0 hE1 hE2 hE3 hE4 hE5 hE6 hE7 hE8 hE9 hE10 hE11 hE12 hE13 hE14 hfr (lv_sub hl [1, 2, 0] rfl)
            · exact absurd hc107 (by omega)
          · exact absurd (((wm_kd_op hend.2.2.2 hend.2.1).1 hc91).1.symm.trans hkd) (by decide)
        · obtain ⟨-, hpl9, z1, hz1, haz, hrel1, hnx1⟩ := hinv.resolve_right (fun q => q.1 hc66)
          refine lv_aload_n X.1 X.2.1 dX7_read_80 rfl (lv_at hl 0 rfl) ?_
          refine wm_callVv (k := 0) (As := []) (rest := []) X hP hS hlt0 hE0 rfl (kX7_step l D C b n E10 0 sz fav plv atv aav opv fiv lav wa wc kl bev z1 tx mlv fov pFv pLv rFv rLv pBv rBv hlt0 hE0 hlt1 hE1 hlt2 hE2 hlt3 hE3 hlt4 hE4 hlt5 hE5 hlt6 hE6 hlt7 hE7 hlt8 hE8 hlt9 hE9 hc66 hsz (by omega) htx hrel1 hnx1) wq5_169 wq5_171 wqP3_2 wq1_8 wq5_172 (by decide) (by rw [hRe]; exact ⟨Nat.le_of_ble_eq_true rfl, Nat.le_of_ble_eq_true rfl⟩) rfl hl.1 rfl (Nat.le_of_ble_eq_true rfl) (Nat.zero_le _) (Nat.zero_le _) dX7_read_81 (fun E32 H locs hw hP hS => ?_)
          obtain ⟨fa132, pl132, ats132, aa132, op132, be132, fi132, la132, ml132, fo132, pB132, pF132, pL132, rB132, rF132, rL132, hE0, hE2, hE3, hE4, hE5, hE6, hE7, hE8, hE9, hq, hp32_0, hp32_1⟩ := hw
          have hE1 := (hq 120 (by decide) (by decide) (by decide) (by decide) (by decide) (by decide) (by decide) (by decide) (by decide)).trans hE1
          have hE10 := (hq 121 (by decide) (by decide) (by decide) (by decide) (by decide) (by decide) (by decide) (by decide) (by decide)).trans hE10
          have hE11 := (hq 122 (by decide) (by decide) (by decide) (by decide) (by decide) (by decide) (by decide) (by decide) (by decide)).trans hE11
          have hE12 := (hq 123 (by decide) (by decide) (by decide) (by decide) (by decide) (by decide) (by decide) (by decide) (by decide)).trans hE12
          have hE13 := (hq 124 (by decide) (by decide) (by decide) (by decide) (by decide) (by decide) (by decide) (by decide) (by decide)).trans hE13
          have hE14 := (hq 125 (by decide) (by decide) (by decide) (by decide) (by decide) (by decide) (by decide) (by decide) (by decide)).trans hE14
          have hfr : ∀ j, j ≠ 119 → j ≠ 126 → j ≠ 127 → j ≠ 128 → j ≠ 129 → j ≠ 130 → j ≠ 131 → j ≠ 132 → j ≠ 133 → j ≠ 121 → j ≠ 122 → j ≠ 123 → j ≠ 124 → j ≠ 125 → E32 j = E j := fun j h0 h1 h2 h3 h4 h5 h6 h7 h8 h9 h10 h11 h12 h13 => (hq j h0 h1 h2 h3 h4 h5 h6 h7 h8).trans (hfr j h0 h1 h2 h3 h4 h5 h6 h7 h8 h9 h10 h11 h12 h13)
          refine lv_goto (tgt := 62) X.1 X.2.1 dX7_read_84 (by decide) ?_
          have hns := wm_inv_s hz1 hpl9 hp32_0
          exact ih62 fa132 pl132 aa132 ats132 op132 be132 fi132 la132 ml132 fo132 pB132 pF132 pL132 rB132 rF132 rL132 (wm_mdec hm hc66 hc77 hns.2) hns.1 hp32_1 E32 _ _ _ hP hS hE0 hE1 hE2 hE3 hE4 hE5 hE6 hE7 hE8 hE9 hE10 hE11 hE12 hE13 hE14 hfr (lv_sub hl [0, 1] rfl)
  exact L62 ((if 0 = 0 then 201 - 0 else 0) + 1) 0 4294967295 0 0 0 be fi la ml (va_up fo 0 0) (va_up pB 0 false) (va_up pF 0 0) (va_up pL 0 0) (va_up rB 0 true) (va_up rF 0 0) (va_up rL 0 0) (Nat.lt_succ_self _) (Or.inl ⟨rfl, rfl, wm_z0 z, rfl, Nat.zero_le _, wm_rel0, fun q => by rw [wm_z0_hs] at q; cases q⟩) (by decide) E9 _ _ _ hP hS hE0 hE1 hE2 hE3 hE4 hE5 hE6 hE7 hE8 hE9 hE10 hE11 hE12 hE13 hE14 hfr (lv_sub hl [0, 1] rfl)
