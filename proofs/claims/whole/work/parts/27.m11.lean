def pX0_parse (C : Nat → ClassId) (b : Nat) (E : Nat → va_E) (fk fp sz : Nat) (z : wm_pst) (tx : Nat → Nat) : (Nat → va_E) → Prop := fun E' => (∀ j, (j < 5 ∨ 93 ≤ j) → E' j = E j) ∧ wm_rd C b E' (wm_kd (wm_go tx sz 0 (wm_z0 z))) (wm_pl (wm_go tx sz 0 (wm_z0 z))) (wm_go tx sz 0 (wm_z0 z)).2.2
set_option maxHeartbeats 4000000 in
set_option maxRecDepth 100000 in
theorem kX0_parse (l : Launch) (D : va_G) (C : Nat → ClassId) (b n : Nat) (E : Nat → va_E) (fk fp sz : Nat) (z : wm_pst) (tx : Nat → Nat) (hlt0 : 4 < n) (hE0 : E 4 = wm_B C 200 (fun j => wm_sb (tx j))) (hn : 93 ≤ n) (hz : wm_rd C b E fk fp z) (hb : wm_zb z) (hsz : sz ≤ 200) (htx : ∀ i, tx i < 256) : Met l yX0_parse (wm_ws yX0_parse cX0_parse 5 none) { frames := 9, cells := 0, slots := 0, locals := 282 } (va_Pc [.ref (b + 5), .ref (b + 4), .int (nI sz)] (wm_G D C b n E)) (va_Qv (pX0_parse C b E fk fp sz z tx) (fun E' t => wm_P D b n E' t.heap) (wm_A b)) 0 0 (wm_A b) := by
  refine wm_ofW (by decide) (Nat.le_of_ble_eq_true rfl) (fun p e s m below meth c ls R args Q hRe hQ X hr hnm hP hS hl => ?_)
  have hl : lv_has ls 5 [(0, .ref (b + 5)), (1, .ref (b + 4)), (2, .int (nI sz))] := hl
  have hfr : ∀ j, (j < 5 ∨ 93 ≤ j) → E j = E j := fun _ _ => rfl
  have hX5 := hz.1
  have hX6 := hz.2.1
  have hv := hz.2.2.2.2 0 (by decide)
  have hX90 := hv.1
  have hX100 := hv.2.1
  have hX110 := hv.2.2.1
  have hX120 := hv.2.2.2
  refine lv_aload_n X.1 X.2.1 dX0_parse_0 rfl (lv_at hl 0 rfl) ?_
  refine wm_callVv (k := 0) (As := []) (rest := []) X hP hS (by omega) hX5 rfl (kX0_begin l D C b n E fk fp z.1.1 z.1.2.1 z.1.2.2.1 z.1.2.2.2.2 ((z.2.2.2.2 0 0).2.1) ((z.2.2.2.2 0 0).2.2) ((z.2.2.2.2 0 1).2.1) ((z.2.2.2.2 0 1).2.2) ((z.2.2.2.2 0 2).2.1) ((z.2.2.2.2 0 2).2.2) z.1.2.2.2.1 (z.2.2.2.1 0) ((z.2.2.2.2 0 0).1) ((z.2.2.2.2 0 1).1) ((z.2.2.2.2 0 2).1) (by omega) hX5 (by omega) hX6 (by omega) hX90 (by omega) hX100 (by omega) hX110 (by omega) hX120) wq2_112 wq2_114 wqP1_2 wq1_3 wq2_115 (by decide) (by rw [hRe]; exact ⟨Nat.le_of_ble_eq_true rfl, Nat.le_of_ble_eq_true rfl⟩) rfl hl.1 rfl (Nat.le_of_ble_eq_true rfl) (Nat.zero_le _) (Nat.zero_le _) dX0_parse_1 (fun E1 H locs hw hP hS => ?_)
  obtain ⟨hX5, hX90, hX100, hX110, hX120, hq⟩ := hw
  have hE0 := (hq 4 (by decide) (by omega) (by omega) (by omega) (by omega)).trans hE0
  have hX6 := (hq 6 (by decide) (by omega) (by omega) (by omega) (by omega)).trans hX6
  have hfr : ∀ j, (j < 5 ∨ 93 ≤ j) → E1 j = E j := fun j h0 => (hq j (by omega) (by omega) (by omega) (by omega) (by omega)).trans (hfr j h0)
  have hz := wm_rd_z0 hz hX5 hX90 hX100 hX110 hX120 hq
  have hb := wm_z0_b hb
  generalize hz0e : wm_z0 z = z0 at hz hb ⊢
  have hX5 := hz.1
  refine lv_iconst (v := nI 0) X.1 X.2.1 dX0_parse_4 (by decide) ?_
  refine lv_istore_n (lv' := [(3, .int (nI 0)), (0, .ref (b + 5)), (1, .ref (b + 4)), (2, .int (nI sz))]) X.1 X.2.1 dX0_parse_5 rfl hl (by decide) rfl (fun ls hl => ?_)
  refine lv_iconst (v := nI 0) X.1 X.2.1 dX0_parse_6 (by decide) ?_
  refine lv_istore (lv' := [(4, .int (nI 0)), (3, .int (nI 0)), (0, .ref (b + 5)), (1, .ref (b + 4)), (2, .int (nI sz))]) X.1 X.2.1 dX0_parse_7 hl (by decide) rfl (fun ls hl => ?_)
  have L9 : ∀ (fu : Nat) (i : Nat) (z1 : wm_pst), 200 - i < fu → (i ≤ sz) → (wm_zb z1) → (wm_go tx (sz - i) i z1 = wm_go tx sz 0 z0) → ∀ (E2 : Nat → va_E) (H : Heap) (locs : List Loc) (ls : Array Slot), wm_P D b n E2 H → wm_S b s.heap H locs → E2 4 = wm_B C 200 (fun j => wm_sb (tx j)) → E2 5 = .inr (0, [.int (nI fk), .int (nI fp), .ref (b + 6), .ref (b + 7), .ref (b + 8), .int (nI z1.1.1), .int (nI z1.1.2.1), .int (nI z1.1.2.2.1), .int (nI z1.1.2.2.2.1.toNat), .int (nI z1.1.2.2.2.2)]) → (wm_rd C b E2 fk fp z1) → (∀ j, (j < 5 ∨ 93 ≤ j) → E2 j = E j) → lv_has ls 5 [(0, .ref (b + 5)), (1, .ref (b + 4)), (2, .int (nI sz)), (3, .int (nI 0)), (4, .int (nI i))] → W p l e R s m args below meth c H locs 0 0 Q (F0 m 9 ls []) := by
    intro fu
    induction fu with
    | zero => intro i z1 hm; exact absurd hm (Nat.not_lt_zero _)
    | succ fu ih9 =>
      intro i z1 hm hi hb hrun E2 H locs ls hP hS hE0 hX5 hz hfr hl
      have hb19 := hb.1.2.2.2.1
      have hb11 := hb.1.1
      refine lv_iload X.1 X.2.1 dX0_parse_9 (lv_at hl 4 rfl) ?_
      refine lv_iload_n X.1 X.2.1 dX0_parse_11 rfl (lv_at hl 2 rfl) ?_
      refine wm_icmp_ge (x := i) (y := sz) (tgt := 55) X (by omega) (by omega) dX0_parse_12 (by decide) (fun hc12 => ?_) (fun hc12 => ?_)
      · have hb19 := hb.1.2.2.2.1
        have hb11 := hb.1.1
        refine lv_iload_n X.1 X.2.1 dX0_parse_55 rfl (lv_at hl 3 rfl) ?_
        refine lv_if_ne (tgt := 75) X.1 X.2.1 dX0_parse_56 (by decide) (fun h => by exfalso; revert h; decide) (fun _ => ?_)
        refine lv_aload_n X.1 X.2.1 dX0_parse_59 rfl (lv_at hl 0 rfl) ?_
        refine wm_get X hP (by omega) hX5 rfl wm_inX0 7 (by decide) wq1_124 rfl dX0_parse_60 ?_
        refine wm_if_ne (x := z1.1.2.2.1) (tgt := 73) X (by omega) dX0_parse_63 (by decide) (fun hc63 => ?_) (fun hc63 => ?_)
        · refine lv_iconst (v := nI 1) X.1 X.2.1 dX0_parse_73 (by decide) ?_
          refine lv_istore_n (lv' := [(3, .int (nI 1)), (0, .ref (b + 5)), (1, .ref (b + 4)), (2, .int (nI sz)), (4, .int (nI i))]) X.1 X.2.1 dX0_parse_74 rfl hl (by decide) rfl (fun ls hl => ?_)
          refine lv_aload_n X.1 X.2.1 dX0_parse_75 rfl (lv_at hl 1 rfl) ?_
          refine lv_iload_n X.1 X.2.1 dX0_parse_76 rfl (lv_at hl 0 rfl) ?_
          refine wm_put (v := .int (nI 1)) X hP hS (by omega) hX5 rfl wm_inX0 tyX0 tyX0_ok nmX0 0 (by decide) wq1_115 rfl rfl rfl (fs1 := [.int (nI 1), .int (nI fp), .ref (b + 6), .ref (b + 7), .ref (b + 8), .int (nI z1.1.1), .int (nI z1.1.2.1), .int (nI z1.1.2.2.1), .int (nI z1.1.2.2.2.1.toNat), .int (nI z1.1.2.2.2.2)]) rfl (Nat.le_of_ble_eq_true rfl) dX0_parse_77 (fun H locs E5 hP hS hX5 hq => ?_)
          have hE0 := (hq 4 (by decide)).trans hE0
          have hfr : ∀ j, (j < 5 ∨ 93 ≤ j) → E5 j = E j := fun j h0 => (hq j (by omega)).trans (hfr j h0)
          have hz := wm_rd_put hz hX5 hq
          refine lv_aload_n X.1 X.2.1 dX0_parse_80 rfl (lv_at hl 1 rfl) ?_
          refine lv_iload_n X.1 X.2.1 dX0_parse_81 rfl (lv_at hl 0 rfl) ?_
          refine lv_if_ne (tgt := 89) X.1 X.2.1 dX0_parse_82 (by decide) (fun _ => ?_) (fun h => by exfalso; revert h; decide)
          refine lv_iload X.1 X.2.1 dX0_parse_89 (lv_at hl 4 rfl) ?_
          refine wm_put (v := .int (nI i)) X hP hS (by omega) hX5 rfl wm_inX0 tyX0 tyX0_ok nmX0 1 (by decide) wq1_117 rfl rfl rfl (fs1 := [.int (nI 1), .int (nI i), .ref (b + 6), .ref (b + 7), .ref (b + 8), .int (nI z1.1.1), .int (nI z1.1.2.1), .int (nI z1.1.2.2.1), .int (nI z1.1.2.2.2.1.toNat), .int (nI z1.1.2.2.2.2)]) rfl (Nat.le_of_ble_eq_true rfl) dX0_parse_91 (fun H locs E6 hP hS hX5 hq => ?_)
          have hE0 := (hq 4 (by decide)).trans hE0
          have hfr : ∀ j, (j < 5 ∨ 93 ≤ j) → E6 j = E j := fun j h0 => (hq j (by omega)).trans (hfr j h0)
          have hz := wm_rd_put hz hX5 hq
          have hpr := wm_go0 hrun hc12
          have hk1 : wm_kd (0, i, z1) = 1 := (if_pos ⟨rfl, Or.inl hc63⟩)
          exact wm_vret (post := pX0_parse C b E fk fp sz z tx) X hr hP hS ⟨hfr, (by rw [hz0e]; exact wm_fin hpr hz hk1 (by unfold wm_pl; rw [hk1]; first | exact if_pos rfl | exact if_neg (by decide) | exact if_neg hc43))⟩ hQ dX0_parse_94
        · refine lv_aload_n X.1 X.2.1 dX0_parse_66 rfl (lv_at hl 0 rfl) ?_
          refine wm_get X hP (by omega) hX5 rfl wm_inX0 5 (by decide) wq1_122 rfl dX0_parse_67 ?_
          refine wm_if_le (x := z1.1.1) (tgt := 75) X (by omega) dX0_parse_70 (by decide) (fun hc70 => ?_) (fun hc70 => ?_)
          · refine lv_aload_n X.1 X.2.1 dX0_parse_75 rfl (lv_at hl 0 rfl) ?_
            refine lv_iload_n X.1 X.2.1 dX0_parse_76 rfl (lv_at hl 3 rfl) ?_
            refine wm_put (v := .int (nI 0)) X hP hS (by omega) hX5 rfl wm_inX0 tyX0 tyX0_ok nmX0 0 (by decide) wq1_115 rfl rfl rfl (fs1 := [.int (nI 0), .int (nI fp), .ref (b + 6), .ref (b + 7), .ref (b + 8), .int (nI z1.1.1), .int (nI z1.1.2.1), .int (nI z1.1.2.2.1), .int (nI z1.1.2.2.2.1.toNat), .int (nI z1.1.2.2.2.2)]) rfl (Nat.le_of_ble_eq_true rfl) dX0_parse_77 (fun H locs E8 hP hS hX5 hq => ?_)
            have hE0 := (hq 4 (by decide)).trans hE0
            have hfr : ∀ j, (j < 5 ∨ 93 ≤ j) → E8 j = E j := fun j h0 => (hq j (by omega)).trans (hfr j h0)
            have hz := wm_rd_put hz hX5 hq
            refine lv_aload_n X.1 X.2.1 dX0_parse_80 rfl (lv_at hl 0 rfl) ?_
            refine lv_iload_n X.1 X.2.1 dX0_parse_81 rfl (lv_at hl 3 rfl) ?_
            refine lv_if_ne (tgt := 89) X.1 X.2.1 dX0_parse_82 (by decide) (fun h => by exfalso; revert h; decide) (fun _ => ?_)
            refine lv_iconst (v := nI 4294967295) X.1 X.2.1 dX0_parse_85 (by decide) ?_
            refine lv_goto (tgt := 91) X.1 X.2.1 dX0_parse_86 (by decide) ?_
            refine wm_put (v := .int (nI 4294967295)) X hP hS (by omega) hX5 rfl wm_inX0 tyX0 tyX0_ok nmX0 1 (by decide) wq1_117 rfl rfl rfl (fs1 := [.int (nI 0), .int (nI 4294967295), .ref (b + 6), .ref (b + 7), .ref (b + 8), .int (nI z1.1.1), .int (nI z1.1.2.1), .int (nI z1.1.2.2.1), .int (nI z1.1.2.2.2.1.toNat), .int (nI z1.1.2.2.2.2)]) rfl (Nat.le_of_ble_eq_true rfl) dX0_parse_91 (fun H locs E9 hP hS hX5 hq => ?_)
            have hE0 := (hq 4 (by decide)).trans hE0
            have hfr : ∀ j, (j < 5 ∨ 93 ≤ j) → E9 j = E j := fun j h0 => (hq j (by omega)).trans (hfr j h0)
            have hz := wm_rd_put hz hX5 hq
            have hpr := wm_go0 hrun hc12
            have hk1 : wm_kd (0, i, z1) = 0 := (if_neg (fun q => q.2.elim (fun q => q hc63) (fun q => by dsimp only at q; omega)))
            exact wm_vret (post := pX0_parse C b E fk fp sz z tx) X hr hP hS ⟨hfr, (by rw [hz0e]; exact wm_fin hpr hz hk1 (by unfold wm_pl; rw [hk1]; first | exact if_pos rfl | exact if_neg (by decide) | exact if_neg hc43))⟩ hQ dX0_parse_94
          · refine lv_iconst (v := nI 1) X.1 X.2.1 dX0_parse_73 (by decide) ?_
            refine lv_istore_n (lv' := [(3, .int (nI 1)), (0, .ref (b + 5)), (1, .ref (b + 4)), (2, .int (nI sz)), (4, .int (nI i))]) X.1 X.2.1 dX0_parse_74 rfl hl (by decide) rfl (fun ls hl => ?_)
            refine lv_aload_n X.1 X.2.1 dX0_parse_75 rfl (lv_at hl 1 rfl) ?_
            refine lv_iload_n X.1 X.2.1 dX0_parse_76 rfl (lv_at hl 0 rfl) ?_
            refine wm_put (v := .int (nI 1)) X hP hS (by omega) hX5 rfl wm_inX0 tyX0 tyX0_ok nmX0 0 (by decide) wq1_115 rfl rfl rfl (fs1 := [.int (nI 1), .int (nI fp), .ref (b + 6), .ref (b + 7), .ref (b + 8), .int (nI z1.1.1), .int (nI z1.1.2.1), .int (nI z1.1.2.2.1), .int (nI z1.1.2.2.2.1.toNat), .int (nI z1.1.2.2.2.2)]) rfl (Nat.le_of_ble_eq_true rfl) dX0_parse_77 (fun H locs E10 hP hS hX5 hq => ?_)
            have hE0 := (hq 4 (by decide)).trans hE0
            have hfr : ∀ j, (j < 5 ∨ 93 ≤ j) → E10 j = E j := fun j h0 => (hq j (by omega)).trans (hfr j h0)
            have hz := wm_rd_put hz hX5 hq
            refine lv_aload_n X.1 X.2.1 dX0_parse_80 rfl (lv_at hl 1 rfl) ?_
            refine lv_iload_n X.1 X.2.1 dX0_parse_81 rfl (lv_at hl 0 rfl) ?_
            refine lv_if_ne (tgt := 89) X.1 X.2.1 dX0_parse_82 (by decide) (fun _ => ?_) (fun h => by exfalso; revert h; decide)
            refine lv_iload X.1 X.2.1 dX0_parse_89 (lv_at hl 4 rfl) ?_
            refine wm_put (v := .int (nI i)) X hP hS (by omega) hX5 rfl wm_inX0 tyX0 tyX0_ok nmX0 1 (by decide) wq1_117 rfl rfl rfl (fs1 := [.int (nI 1), .int (nI i), .ref (b + 6), .ref (b + 7), .ref (b + 8), .int (nI z1.1.1), .int (nI z1.1.2.1), .int (nI z1.1.2.2.1), .int (nI z1.1.2.2.2.1.toNat), .int (nI z1.1.2.2.2.2)]) rfl (Nat.le_of_ble_eq_true rfl) dX0_parse_91 (fun H locs E11 hP hS hX5 hq => ?_)
            have hE0 := (hq 4 (by decide)).trans hE0
            have hfr : ∀ j, (j < 5 ∨ 93 ≤ j) → E11 j = E j := fun j h0 => (hq j (by omega)).trans (hfr j h0)
            have hz := wm_rd_put hz hX5 hq
            have hpr := wm_go0 hrun hc12
            have hk1 : wm_kd (0, i, z1) = 1 := (if_pos ⟨rfl, Or.inr (by dsimp only; omega)⟩)
            exact wm_vret (post := pX0_parse C b E fk fp sz z tx) X hr hP hS ⟨hfr, (by rw [hz0e]; exact wm_fin hpr hz hk1 (by unfold wm_pl; rw [hk1]; first | exact if_pos rfl | exact if_neg (by decide) | exact if_neg hc43))⟩ hQ dX0_parse_94
      · refine lv_aload_n X.1 X.2.1 dX0_parse_15 rfl (lv_at hl 0 rfl) ?_
        refine wm_get X hP (by omega) hX5 rfl wm_inX0 7 (by decide) wq1_124 rfl dX0_parse_16 ?_
        refine wm_if_ne (x := z1.1.2.2.1) (tgt := 33) X (by omega) dX0_parse_19 (by decide) (fun hc19 => ?_) (fun hc19 => ?_)
        · refine lv_aload_n X.1 X.2.1 dX0_parse_33 rfl (lv_at hl 0 rfl) ?_
          refine lv_aload_n X.1 X.2.1 dX0_parse_34 rfl (lv_at hl 1 rfl) ?_
          refine lv_iload X.1 X.2.1 dX0_parse_35 (lv_at hl 4 rfl) ?_
          refine wm_bald (i := i) X hP hlt0 hE0 (by omega) (by decide) dX0_parse_37 ?_
          refine wm_callVi (k := 1) (As := [.int (wm_sb (tx i))]) (rest := []) X hP hS (by omega) hX5 rfl (kTI l D C b n E2 fk fp (tx i) z1 hn hz hb (htx i)) wq2_178 wq2_180 wqP1_12 wq1_3 wq2_181 (by decide) (by rw [hRe]; exact ⟨Nat.le_of_ble_eq_true rfl, Nat.le_of_ble_eq_true rfl⟩) rfl hl.1 rfl (Nat.le_of_ble_eq_true rfl) (Nat.zero_le _) (Nat.zero_le _) dX0_parse_38 (fun r13 E13 H locs hw hP hS => ?_)
          obtain ⟨hrt, hz, hq⟩ := hw
          subst hrt
          have hE0 := (hq 4 (by omega)).trans hE0
          have hfr : ∀ j, (j < 5 ∨ 93 ≤ j) → E13 j = E j := fun j h0 => (hq j (by omega)).trans (hfr j h0)
          have hby : wm_by z1 (tx i) = wm_tz z1 (tx i) := if_neg hc19
          rw [← hby] at hz ⊢
          have hb := wm_by_b (x := tx i) hb
          have hX5 := hz.1
          have hkk := wm_by_k z1 (tx i)
          refine lv_istore_n (lv' := [(3, .int (nI ((wm_by z1 (tx i)).1))), (0, .ref (b + 5)), (1, .ref (b + 4)), (2, .int (nI sz)), (4, .int (nI i))]) X.1 X.2.1 dX0_parse_41 rfl hl (by decide) rfl (fun ls hl => ?_)
          refine lv_iload_n X.1 X.2.1 dX0_parse_42 rfl (lv_at hl 0 rfl) ?_
          refine wm_if_eq (x := ((wm_by z1 (tx i)).1)) (tgt := 49) X (by omega) dX0_parse_43 (by decide) (fun hc43 => ?_) (fun hc43 => ?_)
          · rw [hc43] at hl
            refine lv_iinc (v := nI (i + 1)) (lv' := [(4, .int (nI (i + 1))), (3, .int (nI 0)), (0, .ref (b + 5)), (1, .ref (b + 4)), (2, .int (nI sz))]) X.1 X.2.1 dX0_parse_49 hl (k := 4) rfl (wm_inc i) (by decide) rfl (fun ls hl => ?_)
            refine lv_goto (tgt := 9) X.1 X.2.1 dX0_parse_52 (by decide) ?_
            exact ih9 (i + 1) ((wm_by z1 (tx i)).2) (by omega) (by omega) hb (wm_go1 hrun (by omega) hc43) E13 _ _ _ hP hS hE0 hX5 hz hfr (lv_sub hl [2, 3, 4, 1, 0] rfl)
          · refine lv_goto (tgt := 55) X.1 X.2.1 dX0_parse_46 (by decide) ?_
            have hb19 := hb.1.2.2.2.1
            have hb11 := hb.1.1
            refine lv_iload_n X.1 X.2.1 dX0_parse_55 rfl (lv_at hl 0 rfl) ?_
            refine wm_if_ne (x := ((wm_by z1 (tx i)).1)) (tgt := 75) X (by omega) dX0_parse_56 (by decide) (fun hc56 => ?_) (fun hc56 => ?_)
            · refine lv_aload_n X.1 X.2.1 dX0_parse_75 rfl (lv_at hl 1 rfl) ?_
              refine lv_iload_n X.1 X.2.1 dX0_parse_76 rfl (lv_at hl 0 rfl) ?_
              refine wm_put (v := .int (nI ((wm_by z1 (tx i)).1))) X hP hS (by omega) hX5 rfl wm_inX0 tyX0 tyX0_ok nmX0 0 (by decide) wq1_115 rfl rfl rfl (fs1 := [.int (nI ((wm_by z1 (tx i)).1)), .int (nI fp), .ref (b + 6), .ref (b + 7), .ref (b + 8), .int (nI ((wm_by z1 (tx i)).2.1.1)), .int (nI ((wm_by z1 (tx i)).2.1.2.1)), .int (nI ((wm_by z1 (tx i)).2.1.2.2.1)), .int (nI ((wm_by z1 (tx i)).2.1.2.2.2.1).toNat), .int (nI ((wm_by z1 (tx i)).2.1.2.2.2.2))]) rfl (Nat.le_of_ble_eq_true rfl) dX0_parse_77 (fun H locs E16 hP hS hX5 hq => ?_)
              have hE0 := (hq 4 (by decide)).trans hE0
              have hfr : ∀ j, (j < 5 ∨ 93 ≤ j) → E16 j = E j := fun j h0 => (hq j (by omega)).trans (hfr j h0)
              have hz := wm_rd_put hz hX5 hq
              refine lv_aload_n X.1 X.2.1 dX0_parse_80 rfl (lv_at hl 1 rfl) ?_
              refine lv_iload_n X.1 X.2.1 dX0_parse_81 rfl (lv_at hl 0 rfl) ?_
              refine wm_if_ne (x := ((wm_by z1 (tx i)).1)) (tgt := 89) X (by omega) dX0_parse_82 (by decide) (fun hc82 => ?_) (fun hc82 => ?_)
              · refine lv_iload X.1 X.2.1 dX0_parse_89 (lv_at hl 4 rfl) ?_
                refine wm_put (v := .int (nI i)) X hP hS (by omega) hX5 rfl wm_inX0 tyX0 tyX0_ok nmX0 1 (by decide) wq1_117 rfl rfl rfl (fs1 := [.int (nI ((wm_by z1 (tx i)).1)), .int (nI i), .ref (b + 6), .ref (b + 7), .ref (b + 8), .int (nI ((wm_by z1 (tx i)).2.1.1)), .int (nI ((wm_by z1 (tx i)).2.1.2.1)), .int (nI ((wm_by z1 (tx i)).2.1.2.2.1)), .int (nI ((wm_by z1 (tx i)).2.1.2.2.2.1).toNat), .int (nI ((wm_by z1 (tx i)).2.1.2.2.2.2))]) rfl (Nat.le_of_ble_eq_true rfl) dX0_parse_91 (fun H locs E18 hP hS hX5 hq => ?_)
                have hE0 := (hq 4 (by decide)).trans hE0
                have hfr : ∀ j, (j < 5 ∨ 93 ≤ j) → E18 j = E j := fun j h0 => (hq j (by omega)).trans (hfr j h0)
                have hz := wm_rd_put hz hX5 hq
                have hpr := wm_go2 hrun (by omega) hc43
                have hk1 : wm_kd ((wm_by z1 (tx i)).1, i, (wm_by z1 (tx i)).2) = (wm_by z1 (tx i)).1 := (if_neg (fun q => hc43 q.1))
                exact wm_vret (post := pX0_parse C b E fk fp sz z tx) X hr hP hS ⟨hfr, (by rw [hz0e]; exact wm_fin hpr hz hk1 (by unfold wm_pl; rw [hk1]; first | exact if_pos rfl | exact if_neg (by decide) | exact if_neg hc43))⟩ hQ dX0_parse_94
              · exact absurd hc82 hc43
            · exact absurd hc56 hc43
        · refine lv_aload_n X.1 X.2.1 dX0_parse_22 rfl (lv_at hl 0 rfl) ?_
          refine lv_aload_n X.1 X.2.1 dX0_parse_23 rfl (lv_at hl 1 rfl) ?_
          refine lv_iload X.1 X.2.1 dX0_parse_24 (lv_at hl 4 rfl) ?_
          refine wm_bald (i := i) X hP hlt0 hE0 (by omega) (by decide) dX0_parse_26 ?_
          refine wm_callVi (k := 1) (As := [.int (wm_sb (tx i))]) (rest := []) X hP hS (by omega) hX5 rfl (kTO l D C b n E2 fk fp (tx i) z1 hn hz hb (htx i)) wq2_128 wq2_130 wqP1_3 wq1_3 wq2_131 (by decide) (by rw [hRe]; exact ⟨Nat.le_of_ble_eq_true rfl, Nat.le_of_ble_eq_true rfl⟩) rfl hl.1 rfl (Nat.le_of_ble_eq_true rfl) (Nat.zero_le _) (Nat.zero_le _) dX0_parse_27 (fun r19 E19 H locs hw hP hS => ?_)
          obtain ⟨hrt, hz, hq⟩ := hw
          subst hrt
          have hE0 := (hq 4 (by omega)).trans hE0
          have hfr : ∀ j, (j < 5 ∨ 93 ≤ j) → E19 j = E j := fun j h0 => (hq j (by omega)).trans (hfr j h0)
          have hby : wm_by z1 (tx i) = wm_to z1 (tx i) := if_pos hc19
          rw [← hby] at hz ⊢
          have hb := wm_by_b (x := tx i) hb
          have hX5 := hz.1
          have hkk := wm_by_k z1 (tx i)
          refine lv_goto (tgt := 41) X.1 X.2.1 dX0_parse_30 (by decide) ?_
          refine lv_istore_n (lv' := [(3, .int (nI ((wm_by z1 (tx i)).1))), (0, .ref (b + 5)), (1, .ref (b + 4)), (2, .int (nI sz)), (4, .int (nI i))]) X.1 X.2.1 dX0_parse_41 rfl hl (by decide) rfl (fun ls hl => ?_)
          refine lv_iload_n X.1 X.2.1 dX0_parse_42 rfl (lv_at hl 0 rfl) ?_
          refine wm_if_eq (x := ((wm_by z1 (tx i)).1)) (tgt := 49) X (by omega) dX0_parse_43 (by decide) (fun hc43 => ?_) (fun hc43 => ?_)
          · rw [hc43] at hl
            refine lv_iinc (v := nI (i + 1)) (lv' := [(4, .int (nI (i + 1))), (3, .int (nI 0)), (0, .ref (b + 5)), (1, .ref (b + 4)), (2, .int (nI sz))]) X.1 X.2.1 dX0_parse_49 hl (k := 4) rfl (wm_inc i) (by decide) rfl (fun ls hl => ?_)
            refine lv_goto (tgt := 9) X.1 X.2.1 dX0_parse_52 (by decide) ?_
            exact ih9 (i + 1) ((wm_by z1 (tx i)).2) (by omega) (by omega) hb (wm_go1 hrun (by omega) hc43) E19 _ _ _ hP hS hE0 hX5 hz hfr (lv_sub hl [2, 3, 4, 1, 0] rfl)
          · refine lv_goto (tgt := 55) X.1 X.2.1 dX0_parse_46 (by decide) ?_
            have hb19 := hb.1.2.2.2.1
            have hb11 := hb.1.1
            refine lv_iload_n X.1 X.2.1 dX0_parse_55 rfl (lv_at hl 0 rfl) ?_
            refine wm_if_ne (x := ((wm_by z1 (tx i)).1)) (tgt := 75) X (by omega) dX0_parse_56 (by decide) (fun hc56 => ?_) (fun hc56 => ?_)
            · refine lv_aload_n X.1 X.2.1 dX0_parse_75 rfl (lv_at hl 1 rfl) ?_
              refine lv_iload_n X.1 X.2.1 dX0_parse_76 rfl (lv_at hl 0 rfl) ?_
              refine wm_put (v := .int (nI ((wm_by z1 (tx i)).1))) X hP hS (by omega) hX5 rfl wm_inX0 tyX0 tyX0_ok nmX0 0 (by decide) wq1_115 rfl rfl rfl (fs1 := [.int (nI ((wm_by z1 (tx i)).1)), .int (nI fp), .ref (b + 6), .ref (b + 7), .ref (b + 8), .int (nI ((wm_by z1 (tx i)).2.1.1)), .int (nI ((wm_by z1 (tx i)).2.1.2.1)), .int (nI ((wm_by z1 (tx i)).2.1.2.2.1)), .int (nI ((wm_by z1 (tx i)).2.1.2.2.2.1).toNat), .int (nI ((wm_by z1 (tx i)).2.1.2.2.2.2))]) rfl (Nat.le_of_ble_eq_true rfl) dX0_parse_77 (fun H locs E22 hP hS hX5 hq => ?_)
              have hE0 := (hq 4 (by decide)).trans hE0
              have hfr : ∀ j, (j < 5 ∨ 93 ≤ j) → E22 j = E j := fun j h0 => (hq j (by omega)).trans (hfr j h0)
              have hz := wm_rd_put hz hX5 hq
              refine lv_aload_n X.1 X.2.1 dX0_parse_80 rfl (lv_at hl 1 rfl) ?_
              refine lv_iload_n X.1 X.2.1 dX0_parse_81 rfl (lv_at hl 0 rfl) ?_
              refine wm_if_ne (x := ((wm_by z1 (tx i)).1)) (tgt := 89) X (by omega) dX0_parse_82 (by decide) (fun hc82 => ?_) (fun hc82 => ?_)
              · refine lv_iload X.1 X.2.1 dX0_parse_89 (lv_at hl 4 rfl) ?_
                refine wm_put (v := .int (nI i)) X hP hS (by omega) hX5 rfl wm_inX0 tyX0 tyX0_ok nmX0 1 (by decide) wq1_117 rfl rfl rfl (fs1 := [.int (nI ((wm_by z1 (tx i)).1)), .int (nI i), .ref (b + 6), .ref (b + 7), .ref (b + 8), .int (nI ((wm_by z1 (tx i)).2.1.1)), .int (nI ((wm_by z1 (tx i)).2.1.2.1)), .int (nI ((wm_by z1 (tx i)).2.1.2.2.1)), .int (nI ((wm_by z1 (tx i)).2.1.2.2.2.1).toNat), .int (nI ((wm_by z1 (tx i)).2.1.2.2.2.2))]) rfl (Nat.le_of_ble_eq_true rfl) dX0_parse_91 (fun H locs E24 hP hS hX5 hq => ?_)
                have hE0 := (hq 4 (by decide)).trans hE0
                have hfr : ∀ j, (j < 5 ∨ 93 ≤ j) → E24 j = E j := fun j h0 => (hq j (by omega)).trans (hfr j h0)
                have hz := wm_rd_put hz hX5 hq
                have hpr := wm_go2 hrun (by omega) hc43
                have hk1 : wm_kd ((wm_by z1 (tx i)).1, i, (wm_by z1 (tx i)).2) = (wm_by z1 (tx i)).1 := (if_neg (fun q => hc43 q.1))
                exact wm_vret (post := pX0_parse C b E fk fp sz z tx) X hr hP hS ⟨hfr, (by rw [hz0e]; exact wm_fin hpr hz hk1 (by unfold wm_pl; rw [hk1]; first | exact if_pos rfl | exact if_neg (by decide) | exact if_neg hc43))⟩ hQ dX0_parse_94
              · exact absurd hc82 hc43
            · exact absurd hc56 hc43
  exact L9 (200 - 0 + 1) 0 z0 (Nat.lt_succ_self _) (by omega) hb rfl E1 _ _ _ hP hS hE0 hX5 hz hfr (lv_sub hl [2, 3, 4, 1, 0] rfl)
