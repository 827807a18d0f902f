def pX5_statesOf (C : Nat → ClassId) (b : Nat) (E : Nat → va_E) (gc wg wl i : Nat) (q : wm_gp) (gr : Nat → Nat) : Int32 → (Nat → va_E) → Prop := fun r E' => r = nI q.1 ∧ E = E'
set_option maxHeartbeats 4000000 in
set_option maxRecDepth 100000 in
theorem kX5_statesOf (l : Launch) (D : va_G) (C : Nat → ClassId) (b n : Nat) (E : Nat → va_E) (gc wg wl i : Nat) (q : wm_gp) (gr : Nat → Nat) (hlt0 : 100 < n) (hE0 : E 100 = .inr (5, [.ref (b + 101), .ref (b + 102), .int (nI gc), .int (nI wg), .int (nI wl)])) (hlt1 : 101 < n) (hE1 : E 101 = wm_J C 49152 gr) (hi : i < 49152) (hgr : gr i = wm_enc q) (hq1 : wm_gok q) : Met l yX5_statesOf (wm_ws yX5_statesOf cX5_statesOf 2 (some .int)) { frames := 0, cells := 0, slots := 0, locals := 0 } (va_Pc [.ref (b + 100), .int (nI i)] (wm_G D C b n E)) (va_Qi (pX5_statesOf C b E gc wg wl i q gr) (fun E' t => wm_P D b n E' t.heap) (wm_A b)) 0 0 (wm_A b) := by
  refine wm_ofW (by decide) (Nat.le_of_ble_eq_true rfl) (fun p e s m below meth c ls R args Q hRe hQ X hr hnm hP hS hl => ?_)
  have hl : lv_has ls 2 [(0, .ref (b + 100)), (1, .int (nI i))] := hl
  refine lv_aload_n X.1 X.2.1 dX5_statesOf_0 rfl (lv_at hl 0 rfl) ?_
  refine wm_get X hP hlt0 hE0 rfl wm_inX5 0 (by decide) wq1_190 rfl dX5_statesOf_1 ?_
  refine lv_iload_n X.1 X.2.1 dX5_statesOf_4 rfl (lv_at hl 1 rfl) ?_
  refine wm_lald (i := i) X hP hlt1 hE1 (by omega) (by decide) dX5_statesOf_5 ?_
  rw [show gr i = wm_enc q from hgr]
  refine wm_l2i (x := (wm_enc q)) X dX5_statesOf_6 ?_
  refine lv_ldc (v := nI 16777215) X.1 X.2.1 X.2.2.2.1 (X.2.2.2.2.1 _ wq4_155) dX5_statesOf_7 ?_
  refine wm_iand (x := (wm_enc q)) (y := 16777215) X dX5_statesOf_9 ?_
  exact wm_iret (post := pX5_statesOf C b E gc wg wl i q gr) X hr hP hS ⟨(congrArg nI (wm_dec1 hq1)), rfl⟩ hQ dX5_statesOf_10
def pX5_setOf (C : Nat → ClassId) (b : Nat) (E : Nat → va_E) (gc wg wl i : Nat) (q : wm_gp) (gr : Nat → Nat) : Int32 → (Nat → va_E) → Prop := fun r E' => r = nI q.2.1 ∧ E = E'
set_option maxHeartbeats 4000000 in
set_option maxRecDepth 100000 in
theorem kX5_setOf (l : Launch) (D : va_G) (C : Nat → ClassId) (b n : Nat) (E : Nat → va_E) (gc wg wl i : Nat) (q : wm_gp) (gr : Nat → Nat) (hlt0 : 100 < n) (hE0 : E 100 = .inr (5, [.ref (b + 101), .ref (b + 102), .int (nI gc), .int (nI wg), .int (nI wl)])) (hlt1 : 101 < n) (hE1 : E 101 = wm_J C 49152 gr) (hi : i < 49152) (hgr : gr i = wm_enc q) (hq1 : wm_gok q) : Met l yX5_setOf (wm_ws yX5_setOf cX5_setOf 2 (some .int)) { frames := 0, cells := 0, slots := 0, locals := 0 } (va_Pc [.ref (b + 100), .int (nI i)] (wm_G D C b n E)) (va_Qi (pX5_setOf C b E gc wg wl i q gr) (fun E' t => wm_P D b n E' t.heap) (wm_A b)) 0 0 (wm_A b) := by
  refine wm_ofW (by decide) (Nat.le_of_ble_eq_true rfl) (fun p e s m below meth c ls R args Q hRe hQ X hr hnm hP hS hl => ?_)
  have hl : lv_has ls 2 [(0, .ref (b + 100)), (1, .int (nI i))] := hl
  refine lv_aload_n X.1 X.2.1 dX5_setOf_0 rfl (lv_at hl 0 rfl) ?_
  refine wm_get X hP hlt0 hE0 rfl wm_inX5 0 (by decide) wq1_190 rfl dX5_setOf_1 ?_
  refine lv_iload_n X.1 X.2.1 dX5_setOf_4 rfl (lv_at hl 1 rfl) ?_
  refine wm_lald (i := i) X hP hlt1 hE1 (by omega) (by decide) dX5_setOf_5 ?_
  rw [show gr i = wm_enc q from hgr]
  refine lv_bipush (v := nI 24) X.1 X.2.1 dX5_setOf_6 (by decide) ?_
  refine wm_lushr (x := (wm_enc q)) (y := 24) X (wm_enc_lt hq1) (by omega) dX5_setOf_8 ?_
  refine wm_l2i (x := ((wm_enc q) >>> 24)) X dX5_setOf_9 ?_
  refine lv_sipush (v := nI 2047) X.1 X.2.1 dX5_setOf_10 (by decide) ?_
  refine wm_iand (x := ((wm_enc q) >>> 24)) (y := 2047) X dX5_setOf_13 ?_
  exact wm_iret (post := pX5_setOf C b E gc wg wl i q gr) X hr hP hS ⟨(congrArg nI (wm_dec2 hq1)), rfl⟩ hQ dX5_setOf_14
def pX5_groupBefore (C : Nat → ClassId) (b : Nat) (E : Nat → va_E) (gc wg wl i : Nat) (q : wm_gp) (gr : Nat → Nat) : Int32 → (Nat → va_E) → Prop := fun r E' => r = nI q.2.2.2 ∧ E = E'
set_option maxHeartbeats 4000000 in
set_option maxRecDepth 100000 in
theorem kX5_groupBefore (l : Launch) (D : va_G) (C : Nat → ClassId) (b n : Nat) (E : Nat → va_E) (gc wg wl i : Nat) (q : wm_gp) (gr : Nat → Nat) (hlt0 : 100 < n) (hE0 : E 100 = .inr (5, [.ref (b + 101), .ref (b + 102), .int (nI gc), .int (nI wg), .int (nI wl)])) (hlt1 : 101 < n) (hE1 : E 101 = wm_J C 49152 gr) (hi : i < 49152) (hgr : gr i = wm_enc q) (hq1 : wm_gok q) : Met l yX5_groupBefore (wm_ws yX5_groupBefore cX5_groupBefore 2 (some .int)) { frames := 0, cells := 0, slots := 0, locals := 0 } (va_Pc [.ref (b + 100), .int (nI i)] (wm_G D C b n E)) (va_Qi (pX5_groupBefore C b E gc wg wl i q gr) (fun E' t => wm_P D b n E' t.heap) (wm_A b)) 0 0 (wm_A b) := by
  refine wm_ofW (by decide) (Nat.le_of_ble_eq_true rfl) (fun p e s m below meth c ls R args Q hRe hQ X hr hnm hP hS hl => ?_)
  have hl : lv_has ls 2 [(0, .ref (b + 100)), (1, .int (nI i))] := hl
  refine lv_aload_n X.1 X.2.1 dX5_groupBefore_0 rfl (lv_at hl 0 rfl) ?_
  refine wm_get X hP hlt0 hE0 rfl wm_inX5 0 (by decide) wq1_190 rfl dX5_groupBefore_1 ?_
  refine lv_iload_n X.1 X.2.1 dX5_groupBefore_4 rfl (lv_at hl 1 rfl) ?_
  refine wm_lald (i := i) X hP hlt1 hE1 (by omega) (by decide) dX5_groupBefore_5 ?_
  rw [show gr i = wm_enc q from hgr]
  refine lv_bipush (v := nI 38) X.1 X.2.1 dX5_groupBefore_6 (by decide) ?_
  refine wm_lushr (x := (wm_enc q)) (y := 38) X (wm_enc_lt hq1) (by omega) dX5_groupBefore_8 ?_
  refine wm_l2i (x := ((wm_enc q) >>> 38)) X dX5_groupBefore_9 ?_
  exact wm_iret (post := pX5_groupBefore C b E gc wg wl i q gr) X hr hP hS ⟨(congrArg nI (wm_dec4 hq1)), rfl⟩ hQ dX5_groupBefore_10
def pX5_addGroup (C : Nat → ClassId) (b : Nat) (E : Nat → va_E) (wg wl sts S a bf sc : Nat) (G : List wm_gp) (gr mw : Nat → Nat) : (Nat → va_E) → Prop := fun E' => ∃ (gr1 : Nat → Nat) (mw1 : Nat → Nat), E' 100 = .inr (5, [.ref (b + 101), .ref (b + 102), .int (nI ((wm_ag G sts S a bf).length)), .int (nI wg), .int (nI wl)]) ∧ E' 101 = wm_J C 49152 gr1 ∧ E' 102 = wm_I C 2048 mw1 ∧ (∀ j, j ≠ 100 → j ≠ 101 → j ≠ 102 → E' j = E j) ∧ wm_hw sc (wm_ag G sts S a bf) gr1 mw1
set_option maxHeartbeats 4000000 in
set_option maxRecDepth 100000 in
theorem kX5_addGroup (l : Launch) (D : va_G) (C : Nat → ClassId) (b n : Nat) (E : Nat → va_E) (wg wl sts S a bf sc : Nat) (G : List wm_gp) (gr mw : Nat → Nat) (hlt0 : 100 < n) (hE0 : E 100 = .inr (5, [.ref (b + 101), .ref (b + 102), .int (nI G.length), .int (nI wg), .int (nI wl)])) (hlt1 : 101 < n) (hE1 : E 101 = wm_J C 49152 gr) (hlt2 : 102 < n) (hE2 : E 102 = wm_I C 2048 mw) (hsc : sc ≤ 2048) (h1 : sts < 2 ^ 24) (hSc : S < sc) (ha : a < 8) (hbf : bf < G.length ∨ (G.length = 0 ∧ bf = 0)) (hhw : wm_hw sc G gr mw) : Met l yX5_addGroup (wm_ws yX5_addGroup cX5_addGroup 6 none) { frames := 0, cells := 0, slots := 0, locals := 0 } (va_Pc [.ref (b + 100), .int (nI sts), .int (nI S), .int (nI a), .int (nI bf)] (wm_G D C b n E)) (va_Qv (pX5_addGroup C b E wg wl sts S a bf sc G gr mw) (fun E' t => wm_P D b n E' t.heap) (wm_A b)) 0 0 (wm_A b) := by
  refine wm_ofW (by decide) (Nat.le_of_ble_eq_true rfl) (fun p e s m below meth c ls R args Q hRe hQ X hr hnm hP hS hl => ?_)
  have hl : lv_has ls 6 [(0, .ref (b + 100)), (1, .int (nI sts)), (2, .int (nI S)), (3, .int (nI a)), (4, .int (nI bf))] := hl
  have hfr : ∀ j, j ≠ 100 → j ≠ 101 → j ≠ 102 → E j = E j := fun _ _ _ _ => rfl
  have hlen := wm_gg_len hhw.1 hsc
  have hmS := hhw.2.2 S hSc
  have hnl : sts &&& (mw S ^^^ 4294967295) < 2 ^ 24 := Nat.lt_of_le_of_lt Nat.and_le_left h1
  refine lv_iload_n X.1 X.2.1 dX5_addGroup_0 rfl (lv_at hl 1 rfl) ?_
  refine lv_aload_n X.1 X.2.1 dX5_addGroup_1 rfl (lv_at hl 0 rfl) ?_
  refine wm_get X hP hlt0 hE0 rfl wm_inX5 1 (by decide) wq1_191 rfl dX5_addGroup_2 ?_
  refine lv_iload_n X.1 X.2.1 dX5_addGroup_5 rfl (lv_at hl 2 rfl) ?_
  refine wm_iald (i := S) X hP hlt2 hE2 (by omega) (by decide) dX5_addGroup_6 ?_
  refine lv_iconst (v := nI 4294967295) X.1 X.2.1 dX5_addGroup_7 (by decide) ?_
  refine wm_ixor (x := (mw S)) (y := 4294967295) X dX5_addGroup_8 ?_
  refine wm_iand (x := sts) (y := ((mw S) ^^^ 4294967295)) X dX5_addGroup_9 ?_
  refine lv_istore (lv' := [(5, .int (nI (sts &&& ((mw S) ^^^ 4294967295)))), (0, .ref (b + 100)), (1, .int (nI sts)), (2, .int (nI S)), (3, .int (nI a)), (4, .int (nI bf))]) X.1 X.2.1 dX5_addGroup_10 hl (by decide) rfl (fun ls hl => ?_)
  refine lv_iload X.1 X.2.1 dX5_addGroup_12 (lv_at hl 0 rfl) ?_
  refine wm_if_eq (x := (sts &&& ((mw S) ^^^ 4294967295))) (tgt := 78) X (by omega) dX5_addGroup_14 (by decide) (fun hc14 => ?_) (fun hc14 => ?_)
  · have hv : (wm_ag G sts S a bf) = G := if_pos (by unfold wm_new; rw [← hhw.2.2 S hSc]; exact hc14)
    exact wm_vret (post := pX5_addGroup C b E wg wl sts S a bf sc G gr mw) X hr hP hS ⟨gr, mw, (by rw [hv]; exact hE0), hE1, hE2, hfr, (by rw [hv]; exact hhw)⟩ hQ dX5_addGroup_78
  · have hnn : wm_new G sts S ≠ 0 := by unfold wm_new; rw [← hmS]; exact hc14
    have hv := wm_hw_new hhw hsc h1 hSc ha hbf hnn
    refine lv_aload_n X.1 X.2.1 dX5_addGroup_17 rfl (lv_at hl 1 rfl) ?_
    refine wm_get X hP hlt0 hE0 rfl wm_inX5 2 (by decide) wq1_192 rfl dX5_addGroup_18 ?_
    refine lv_ldc (v := nI 49152) X.1 X.2.1 X.2.2.2.1 (X.2.2.2.2.1 _ wq1_189) dX5_addGroup_21 ?_
    refine wm_icmp_ge (x := G.length) (y := 49152) (tgt := 78) X (by omega) (by decide) dX5_addGroup_23 (by decide) (fun hc23 => ?_) (fun hc23 => ?_)
    · exact absurd hc23 (by have := hv.1; omega)
    · refine lv_aload_n X.1 X.2.1 dX5_addGroup_26 rfl (lv_at hl 1 rfl) ?_
      refine wm_get X hP hlt0 hE0 rfl wm_inX5 1 (by decide) wq1_191 rfl dX5_addGroup_27 ?_
      refine lv_iload_n X.1 X.2.1 dX5_addGroup_30 rfl (lv_at hl 3 rfl) ?_
      refine lv_dup2_11 X.1 X.2.1 dX5_addGroup_31 rfl rfl ?_
      refine wm_iald (i := S) X hP hlt2 hE2 (by omega) (by decide) dX5_addGroup_32 ?_
      refine lv_iload X.1 X.2.1 dX5_addGroup_33 (lv_at hl 0 rfl) ?_
      refine wm_ior (x := (mw S)) (y := (sts &&& ((mw S) ^^^ 4294967295))) X dX5_addGroup_35 ?_
      refine wm_iast (i := S) (x := ((mw S) ||| (sts &&& ((mw S) ^^^ 4294967295)))) X hP hS hlt2 hE2 (by omega) (by decide) dX5_addGroup_36 (fun H locs E3 hP hS hE2 hq => ?_)
      have hE0 := (hq 100 (by decide)).trans hE0
      have hE1 := (hq 101 (by decide)).trans hE1
      have hfr : ∀ j, j ≠ 100 → j ≠ 101 → j ≠ 102 → E3 j = E j := fun j h0 h1 h2 => (hq j h2).trans (hfr j h0 h1 h2)
      refine lv_aload_n X.1 X.2.1 dX5_addGroup_37 rfl (lv_at hl 1 rfl) ?_
      refine wm_get X hP hlt0 hE0 rfl wm_inX5 0 (by decide) wq1_190 rfl dX5_addGroup_38 ?_
      refine lv_aload_n X.1 X.2.1 dX5_addGroup_41 rfl (lv_at hl 1 rfl) ?_
      refine wm_get X hP hlt0 hE0 rfl wm_inX5 2 (by decide) wq1_192 rfl dX5_addGroup_42 ?_
      refine lv_iload X.1 X.2.1 dX5_addGroup_45 (lv_at hl 0 rfl) ?_
      refine wm_i2l (x := (sts &&& ((mw S) ^^^ 4294967295))) X (by omega) dX5_addGroup_47 ?_
      refine lv_iload_n X.1 X.2.1 dX5_addGroup_48 rfl (lv_at hl 3 rfl) ?_
      refine wm_i2l (x := S) X (by omega) dX5_addGroup_49 ?_
      refine lv_bipush (v := nI 24) X.1 X.2.1 dX5_addGroup_50 (by decide) ?_
      refine wm_lshl (x := S) (y := 24) X (by omega) dX5_addGroup_52 ?_
      refine wm_lor (x := (sts &&& ((mw S) ^^^ 4294967295))) (y := (S <<< 24)) X dX5_addGroup_53 ?_
      refine lv_iload_n X.1 X.2.1 dX5_addGroup_54 rfl (lv_at hl 4 rfl) ?_
      refine wm_i2l (x := a) X (by omega) dX5_addGroup_55 ?_
      refine lv_bipush (v := nI 35) X.1 X.2.1 dX5_addGroup_56 (by decide) ?_
      refine wm_lshl (x := a) (y := 35) X (by omega) dX5_addGroup_58 ?_
      refine wm_lor (x := ((sts &&& ((mw S) ^^^ 4294967295)) ||| (S <<< 24))) (y := (a <<< 35)) X dX5_addGroup_59 ?_
      refine lv_iload X.1 X.2.1 dX5_addGroup_60 (lv_at hl 5 rfl) ?_
      refine wm_i2l (x := bf) X (by omega) dX5_addGroup_62 ?_
      refine lv_bipush (v := nI 38) X.1 X.2.1 dX5_addGroup_63 (by decide) ?_
      refine wm_lshl (x := bf) (y := 38) X (by omega) dX5_addGroup_65 ?_
      refine wm_lor (x := (((sts &&& ((mw S) ^^^ 4294967295)) ||| (S <<< 24)) ||| (a <<< 35))) (y := (bf <<< 38)) X dX5_addGroup_66 ?_
      refine wm_last (i := G.length) (x := ((((sts &&& ((mw S) ^^^ 4294967295)) ||| (S <<< 24)) ||| (a <<< 35)) ||| (bf <<< 38))) X hP hS hlt1 hE1 (by omega) (by decide) dX5_addGroup_67 (fun H locs E4 hP hS hE1 hq => ?_)
      have hE0 := (hq 100 (by decide)).trans hE0
      have hE2 := (hq 102 (by decide)).trans hE2
      have hfr : ∀ j, j ≠ 100 → j ≠ 101 → j ≠ 102 → E4 j = E j := fun j h0 h1 h2 => (hq j h1).trans (hfr j h0 h1 h2)
      refine lv_aload_n X.1 X.2.1 dX5_addGroup_68 rfl (lv_at hl 1 rfl) ?_
      refine lv_dup X.1 X.2.1 dX5_addGroup_69 rfl ?_
      refine wm_get X hP hlt0 hE0 rfl wm_inX5 2 (by decide) wq1_192 rfl dX5_addGroup_70 ?_
      refine lv_iconst (v := nI 1) X.1 X.2.1 dX5_addGroup_73 (by decide) ?_
      refine wm_iadd (x := G.length) (y := 1) X dX5_addGroup_74 ?_
      refine wm_put (v := .int (nI (G.length + 1))) X hP hS hlt0 hE0 rfl wm_inX5 tyX5 tyX5_ok nmX5 2 (by decide) wq1_192 rfl rfl rfl (fs1 := [.ref (b + 101), .ref (b + 102), .int (nI (G.length + 1)), .int (nI wg), .int (nI wl)]) rfl (Nat.le_of_ble_eq_true rfl) dX5_addGroup_75 (fun H locs E5 hP hS hE0 hq => ?_)
      have hE1 := (hq 101 (by decide)).trans hE1
      have hE2 := (hq 102 (by decide)).trans hE2
      have hfr : ∀ j, j ≠ 100 → j ≠ 101 → j ≠ 102 → E5 j = E j := fun j h0 h1 h2 => (hq j h0).trans (hfr j h0 h1 h2)
      rw [hmS] at hE1 hE2
      exact wm_vret (post := pX5_addGroup C b E wg wl sts S a bf sc G gr mw) X hr hP hS ⟨(va_up gr G.length (wm_enc (wm_new G sts S, S, a, bf))), (va_up mw S (wm_mw G S ||| wm_new G sts S)), (by rw [hv.2.1, List.length_append]; exact hE0), hE1, hE2, hfr, (by rw [hv.2.1]; exact hv.2.2)⟩ hQ dX5_addGroup_78
def pX5_keepWord (C : Nat → ClassId) (b : Nat) (E : Nat → va_E) (gc wg wl w sc : Nat) (G : List wm_gp) (gr : Nat → Nat) : (Nat → va_E) → Prop := fun E' => E' 100 = .inr (5, [.ref (b + 101), .ref (b + 102), .int (nI gc), .int (nI w), .int (nI (wm_dp G w))]) ∧ (∀ j, j ≠ 100 → E' j = E j)
set_option maxHeartbeats 4000000 in
set_option maxRecDepth 100000 in
theorem kX5_keepWord (l : Launch) (D : va_G) (C : Nat → ClassId) (b n : Nat) (E : Nat → va_E) (gc wg wl w sc : Nat) (G : List wm_gp) (gr : Nat → Nat) (hlt0 : 100 < n) (hE0 : E 100 = .inr (5, [.ref (b + 101), .ref (b + 102), .int (nI gc), .int (nI wg), .int (nI wl)])) (hlt1 : 101 < n) (hE1 : E 101 = wm_J C 49152 gr) (hsc : sc ≤ 2048) (hgg : wm_gg sc G) (hgr : ∀ i, i < G.length → gr i = wm_enc (G.getD i wm_g0)) (hw1 : w < G.length) : Met l yX5_keepWord (wm_ws yX5_keepWord cX5_keepWord 3 none) { frames := 1, cells := 0, slots := 0, locals := 21 } (va_Pc [.ref (b + 100), .int (nI w)] (wm_G D C b n E)) (va_Qv (pX5_keepWord C b E gc wg wl w sc G gr) (fun E' t => wm_P D b n E' t.heap) (wm_A b)) 0 0 (wm_A b) := by
  refine wm_ofW (by decide) (Nat.le_of_ble_eq_true rfl) (fun p e s m below meth c ls R args Q hRe hQ X hr hnm hP hS hl => ?_)
  have hl : lv_has ls 3 [(0, .ref (b + 100)), (1, .int (nI w))] := hl
  have hfr : ∀ j, j ≠ 100 → E j = E j := fun _ _ => rfl
  have hlen := wm_gg_len hgg hsc
  refine lv_aload_n X.1 X.2.1 dX5_keepWord_0 rfl (lv_at hl 0 rfl) ?_
  refine lv_iload_n X.1 X.2.1 dX5_keepWord_1 rfl (lv_at hl 1 rfl) ?_
  refine wm_put (v := .int (nI w)) X hP hS hlt0 hE0 rfl wm_inX5 tyX5 tyX5_ok nmX5 3 (by decide) wq1_193 rfl rfl rfl (fs1 := [.ref (b + 101), .ref (b + 102), .int (nI gc), .int (nI w), .int (nI wl)]) rfl (Nat.le_of_ble_eq_true rfl) dX5_keepWord_2 (fun H locs E1 hP hS hE0 hq => ?_)
  have hE1 := (hq 101 (by decide)).trans hE1
  have hfr : ∀ j, j ≠ 100 → E1 j = E j := fun j h0 => (hq j h0).trans (hfr j h0)
  refine lv_aload_n X.1 X.2.1 dX5_keepWord_5 rfl (lv_at hl 0 rfl) ?_
  refine lv_iconst (v := nI 0) X.1 X.2.1 dX5_keepWord_6 (by decide) ?_
  refine wm_put (v := .int (nI 0)) X hP hS hlt0 hE0 rfl wm_inX5 tyX5 tyX5_ok nmX5 4 (by decide) wq1_194 rfl rfl rfl (fs1 := [.ref (b + 101), .ref (b + 102), .int (nI gc), .int (nI w), .int (nI 0)]) rfl (Nat.le_of_ble_eq_true rfl) dX5_keepWord_7 (fun H locs E2 hP hS hE0 hq => ?_)
  have hE1 := (hq 101 (by decide)).trans hE1
  have hfr : ∀ j, j ≠ 100 → E2 j = E j := fun j h0 => (hq j h0).trans (hfr j h0)
  refine lv_iload_n X.1 X.2.1 dX5_keepWord_10 rfl (lv_at hl 1 rfl) ?_
  refine lv_istore_n (lv' := [(2, .int (nI w)), (0, .ref (b + 100)), (1, .int (nI w))]) X.1 X.2.1 dX5_keepWord_11 rfl hl (by decide) rfl (fun ls hl => ?_)
  have L12 : ∀ (fu : Nat) (k : Nat) (x : Nat), x < fu → (x ≤ w) → (k + x ≤ w) → (k + wm_dp G x = wm_dp G w) → ∀ (E3 : Nat → va_E) (H : Heap) (locs : List Loc) (ls : Array Slot), wm_P D b n E3 H → wm_S b s.heap H locs → E3 100 = .inr (5, [.ref (b + 101), .ref (b + 102), .int (nI gc), .int (nI w), .int (nI k)]) → E3 101 = wm_J C 49152 gr → (∀ j, j ≠ 100 → E3 j = E j) → lv_has ls 3 [(0, .ref (b + 100)), (1, .int (nI w)), (2, .int (nI x))] → W p l e R s m args below meth c H locs 0 0 Q (F0 m 12 ls []) := by
    intro fu
    induction fu with
    | zero => intro k x hm; exact absurd hm (Nat.not_lt_zero _)
    | succ fu ih12 =>
      intro k x hm hxw hkx hkd E3 H locs ls hP hS hE0 hE1 hfr hl
      refine lv_iload_n X.1 X.2.1 dX5_keepWord_12 rfl (lv_at hl 2 rfl) ?_
      refine wm_if_le (x := x) (tgt := 44) X (by omega) dX5_keepWord_13 (by decide) (fun hc13 => ?_) (fun hc13 => ?_)
      · rw [hc13, wm_dp_0] at hkd
        exact wm_vret (post := pX5_keepWord C b E gc wg wl w sc G gr) X hr hP hS ⟨(by rw [← hkd]; exact hE0), hfr⟩ hQ dX5_keepWord_44
      · refine lv_aload_n X.1 X.2.1 dX5_keepWord_16 rfl (lv_at hl 0 rfl) ?_
        refine wm_get X hP hlt0 hE0 rfl wm_inX5 4 (by decide) wq1_194 rfl dX5_keepWord_17 ?_
        refine lv_ldc (v := nI 49152) X.1 X.2.1 X.2.2.2.1 (X.2.2.2.2.1 _ wq1_189) dX5_keepWord_20 ?_
        refine wm_icmp_ge (x := k) (y := 49152) (tgt := 44) X (by omega) (by decide) dX5_keepWord_22 (by decide) (fun hc22 => ?_) (fun hc22 => ?_)
        · exact absurd hc22 (by omega)
        · refine lv_aload_n X.1 X.2.1 dX5_keepWord_25 rfl (lv_at hl 0 rfl) ?_
          refine lv_dup X.1 X.2.1 dX5_keepWord_26 rfl ?_
          refine wm_get X hP hlt0 hE0 rfl wm_inX5 4 (by decide) wq1_194 rfl dX5_keepWord_27 ?_
          refine lv_iconst (v := nI 1) X.1 X.2.1 dX5_keepWord_30 (by decide) ?_
          refine wm_iadd (x := k) (y := 1) X dX5_keepWord_31 ?_
          refine wm_put (v := .int (nI (k + 1))) X hP hS hlt0 hE0 rfl wm_inX5 tyX5 tyX5_ok nmX5 4 (by decide) wq1_194 rfl rfl rfl (fs1 := [.ref (b + 101), .ref (b + 102), .int (nI gc), .int (nI w), .int (nI (k + 1))]) rfl (Nat.le_of_ble_eq_true rfl) dX5_keepWord_32 (fun H locs E6 hP hS hE0 hq => ?_)
          have hE1 := (hq 101 (by decide)).trans hE1
          have hfr : ∀ j, j ≠ 100 → E6 j = E j := fun j h0 => (hq j h0).trans (hfr j h0)
          refine lv_aload_n X.1 X.2.1 dX5_keepWord_35 rfl (lv_at hl 0 rfl) ?_
          refine lv_iload_n X.1 X.2.1 dX5_keepWord_36 rfl (lv_at hl 2 rfl) ?_
          refine wm_callVi (k := 1) (As := [.int (nI x)]) (rest := []) X hP hS hlt0 hE0 rfl (kX5_groupBefore l D C b n E6 gc w (k + 1) x (G.getD x wm_g0) gr hlt0 hE0 hlt1 hE1 (by omega) (hgr x (by omega)) (hgg.1 x (by omega)).1) wq4_164 wq4_166 wqP2_7 wq1_7 wq4_167 (by decide) (by rw [hRe]; exact ⟨Nat.le_of_ble_eq_true rfl, Nat.le_of_ble_eq_true rfl⟩) rfl hl.1 rfl (Nat.le_of_ble_eq_true rfl) (Nat.zero_le _) (Nat.zero_le _) dX5_keepWord_37 (fun r7 E7 H locs hw hP hS => ?_)
          obtain ⟨hrt, hEe⟩ := hw
          subst hrt
          subst hEe
          have hds := wm_dep_s hgg (show x < G.length by omega) hc13
          refine lv_istore_n (lv' := [(2, .int (nI ((G.getD x wm_g0).2.2.2))), (0, .ref (b + 100)), (1, .int (nI w))]) X.1 X.2.1 dX5_keepWord_40 rfl hl (by decide) rfl (fun ls hl => ?_)
          refine lv_goto (tgt := 12) X.1 X.2.1 dX5_keepWord_41 (by decide) ?_
          have hds := wm_dep_s hgg (show x < G.length by omega) hc13
          exact ih12 (k + 1) ((G.getD x wm_g0).2.2.2) (by omega) (by omega) (by omega) (by omega) E6 _ _ _ hP hS hE0 hE1 hfr (lv_sub hl [1, 2, 0] rfl)
  exact L12 (w + 1) 0 w (Nat.lt_succ_self _) (by omega) (by omega) (Nat.zero_add _) E2 _ _ _ hP hS hE0 hE1 hfr (lv_sub hl [1, 2, 0] rfl)
def pX5_wordLetter (C : Nat → ClassId) (b : Nat) (E : Nat → va_E) (gc w t1 sc : Nat) (G : List wm_gp) (gr : Nat → Nat) : Int32 → (Nat → va_E) → Prop := fun r E' => r = nI ((G.getD (wm_upg G (wm_dp G w - 1 - t1) w) wm_g0).2.2.1) ∧ E = E'
set_option maxHeartbeats 4000000 in
set_option maxRecDepth 100000 in
theorem kX5_wordLetter (l : Launch) (D : va_G) (C : Nat → ClassId) (b n : Nat) (E : Nat → va_E) (gc w t1 sc : Nat) (G : List wm_gp) (gr : Nat → Nat) (hlt0 : 100 < n) (hE0 : E 100 = .inr (5, [.ref (b + 101), .ref (b + 102), .int (nI gc), .int (nI w), .int (nI (wm_dp G w))])) (hlt1 : 101 < n) (hE1 : E 101 = wm_J C 49152 gr) (hsc : sc ≤ 2048) (hgg : wm_gg sc G) (hgr : ∀ i, i < G.length → gr i = wm_enc (G.getD i wm_g0)) (hw1 : w < G.length) (ht1 : t1 < wm_dp G w) : Met l yX5_wordLetter (wm_ws yX5_wordLetter cX5_wordLetter 4 (some .int)) { frames := 1, cells := 0, slots := 0, locals := 21 } (va_Pc [.ref (b + 100), .int (nI t1)] (wm_G D C b n E)) (va_Qi (pX5_wordLetter C b E gc w t1 sc G gr) (fun E' t => wm_P D b n E' t.heap) (wm_A b)) 0 0 (wm_A b) := by
  refine wm_ofW (by decide) (Nat.le_of_ble_eq_true rfl) (fun p e s m below meth c ls R args Q hRe hQ X hr hnm hP hS hl => ?_)
  have hl : lv_has ls 4 [(0, .ref (b + 100)), (1, .int (nI t1))] := hl
  have hlen := wm_gg_len hgg hsc
  have hdl := wm_dep_le hgg w hw1
  refine lv_aload_n X.1 X.2.1 dX5_wordLetter_0 rfl (lv_at hl 0 rfl) ?_
  refine wm_get X hP hlt0 hE0 rfl wm_inX5 3 (by decide) wq1_193 rfl dX5_wordLetter_1 ?_
  refine lv_istore_n (lv' := [(2, .int (nI w)), (0, .ref (b + 100)), (1, .int (nI t1))]) X.1 X.2.1 dX5_wordLetter_4 rfl hl (by decide) rfl (fun ls hl => ?_)
  refine lv_aload_n X.1 X.2.1 dX5_wordLetter_5 rfl (lv_at hl 1 rfl) ?_
  refine wm_get X hP hlt0 hE0 rfl wm_inX5 4 (by decide) wq1_194 rfl dX5_wordLetter_6 ?_
  refine lv_iconst (v := nI 1) X.1 X.2.1 dX5_wordLetter_9 (by decide) ?_
  refine wm_isub (x := (wm_dp G w)) (y := 1) X (by omega) dX5_wordLetter_10 ?_
  refine lv_istore_n (lv' := [(3, .int (nI ((wm_dp G w) - 1))), (2, .int (nI w)), (0, .ref (b + 100)), (1, .int (nI t1))]) X.1 X.2.1 dX5_wordLetter_11 rfl hl (by decide) rfl (fun ls hl => ?_)
  have L12 : ∀ (fu : Nat) (x : Nat) (y : Nat), y < fu → (y ≤ wm_dp G w - 1) → (t1 ≤ y) → (x = wm_upg G (wm_dp G w - 1 - y) w) → ∀ (H : Heap) (locs : List Loc) (ls : Array Slot), wm_P D b n E H → wm_S b s.heap H locs → E 100 = .inr (5, [.ref (b + 101), .ref (b + 102), .int (nI gc), .int (nI w), .int (nI (wm_dp G w))]) → E 101 = wm_J C 49152 gr → lv_has ls 4 [(0, .ref (b + 100)), (1, .int (nI t1)), (2, .int (nI x)), (3, .int (nI y))] → W p l e R s m args below meth c H locs 0 0 Q (F0 m 12 ls []) := by
    intro fu
    induction fu with
    | zero => intro x y hm; exact absurd hm (Nat.not_lt_zero _)
    | succ fu ih12 =>
      intro x y hm hy hty hx H locs ls hP hS hE0 hE1 hl
      have hup := wm_upg_dep hgg hw1 (wm_dp G w - 1 - y) (by omega)
      rw [← hx] at hup
      refine lv_iload_n X.1 X.2.1 dX5_wordLetter_12 rfl (lv_at hl 3 rfl) ?_
      refine lv_iload_n X.1 X.2.1 dX5_wordLetter_13 rfl (lv_at hl 1 rfl) ?_
      refine wm_icmp_le (x := y) (y := t1) (tgt := 29) X (by omega) (by omega) dX5_wordLetter_14 (by decide) (fun hc14 => ?_) (fun hc14 => ?_)
      · refine lv_aload_n X.1 X.2.1 dX5_wordLetter_29 rfl (lv_at hl 0 rfl) ?_
        refine wm_get X hP hlt0 hE0 rfl wm_inX5 0 (by decide) wq1_190 rfl dX5_wordLetter_30 ?_
        refine lv_iload_n X.1 X.2.1 dX5_wordLetter_33 rfl (lv_at hl 2 rfl) ?_
        refine wm_lald (i := x) X hP hlt1 hE1 (by omega) (by decide) dX5_wordLetter_34 ?_
        rw [show gr x = wm_enc (G.getD x wm_g0) from hgr x (by omega)]
        refine lv_bipush (v := nI 35) X.1 X.2.1 dX5_wordLetter_35 (by decide) ?_
        refine wm_lushr (x := (wm_enc (G.getD x wm_g0))) (y := 35) X (wm_enc_lt (hgg.1 x (by omega)).1) (by omega) dX5_wordLetter_37 ?_
        refine wm_l2i (x := ((wm_enc (G.getD x wm_g0)) >>> 35)) X dX5_wordLetter_38 ?_
        refine lv_bipush (v := nI 7) X.1 X.2.1 dX5_wordLetter_39 (by decide) ?_
        refine wm_iand (x := ((wm_enc (G.getD x wm_g0)) >>> 35)) (y := 7) X dX5_wordLetter_41 ?_
        exact wm_iret (post := pX5_wordLetter C b E gc w t1 sc G gr) X hr hP hS ⟨(congrArg nI ((wm_dec3 (hgg.1 x (by omega)).1).trans (by rw [hx, show t1 = y by omega]))), rfl⟩ hQ dX5_wordLetter_42
      · refine lv_aload_n X.1 X.2.1 dX5_wordLetter_17 rfl (lv_at hl 0 rfl) ?_
        refine lv_iload_n X.1 X.2.1 dX5_wordLetter_18 rfl (lv_at hl 2 rfl) ?_
        refine wm_callVi (k := 1) (As := [.int (nI x)]) (rest := []) X hP hS hlt0 hE0 rfl (kX5_groupBefore l D C b n E gc w (wm_dp G w) x (G.getD x wm_g0) gr hlt0 hE0 hlt1 hE1 (by omega) (hgr x (by omega)) (hgg.1 x (by omega)).1) wq4_164 wq4_166 wqP2_7 wq1_7 wq4_167 (by decide) (by rw [hRe]; exact ⟨Nat.le_of_ble_eq_true rfl, Nat.le_of_ble_eq_true rfl⟩) rfl hl.1 rfl (Nat.le_of_ble_eq_true rfl) (Nat.zero_le _) (Nat.zero_le _) dX5_wordLetter_19 (fun r2 E2 H locs hw hP hS => ?_)
        obtain ⟨hrt, hEe⟩ := hw
        subst hrt
        subst hEe
        refine lv_istore_n (lv' := [(2, .int (nI ((G.getD x wm_g0).2.2.2))), (0, .ref (b + 100)), (1, .int (nI t1)), (3, .int (nI y))]) X.1 X.2.1 dX5_wordLetter_22 rfl hl (by decide) rfl (fun ls hl => ?_)
        refine lv_iinc (v := nI (y - 1)) (lv' := [(3, .int (nI (y - 1))), (2, .int (nI ((G.getD x wm_g0).2.2.2))), (0, .ref (b + 100)), (1, .int (nI t1))]) X.1 X.2.1 dX5_wordLetter_23 hl (k := 3) rfl (sb_m1 (by omega)) (by decide) rfl (fun ls hl => ?_)
        refine lv_goto (tgt := 12) X.1 X.2.1 dX5_wordLetter_26 (by decide) ?_
        exact ih12 ((G.getD x wm_g0).2.2.2) (y - 1) (by omega) (by omega) (by omega) (by rw [hx, show wm_dp G w - 1 - (y - 1) = wm_dp G w - 1 - y + 1 by omega]; rfl) _ _ _ hP hS hE0 hE1 (lv_sub hl [2, 3, 1, 0] rfl)
  exact L12 ((wm_dp G w - 1) + 1) w (wm_dp G w - 1) (Nat.lt_succ_self _) (by omega) (by omega) (by rw [Nat.sub_self]; rfl) _ _ _ hP hS hE0 hE1 (lv_sub hl [2, 3, 1, 0] rfl)
def pX5_search (C : Nat → ClassId) (b : Nat) (E : Nat → va_E) (gc wg wl t tg c1 s1 e1 t2 tg2 c2 s2 e2 mc : Nat) (gr mw sp g g2 : Nat → Nat) : (Nat → va_E) → Prop := fun E' => ∃ (wg1 : Nat) (wl1 : Nat) (gr1 : Nat → Nat) (mw1 : Nat → Nat), E' 100 = .inr (5, [.ref (b + 101), .ref (b + 102), .int (nI ((wm_hunt (fun S a => wm_st g c1 a S) (fun S a => wm_st g2 c2 a S) e1 e2 49153 0 (wm_ag [] s1 s2 0 0)).1.length)), .int (nI wg1), .int (nI wl1)]) ∧ E' 101 = wm_J C 49152 gr1 ∧ E' 102 = wm_I C 2048 mw1 ∧ (∀ j, j ≠ 100 → j ≠ 101 → j ≠ 102 → E' j = E j) ∧ wm_hw (2 ^ c2) (wm_hunt (fun S a => wm_st g c1 a S) (fun S a => wm_st g2 c2 a S) e1 e2 49153 0 (wm_ag [] s1 s2 0 0)).1 gr1 mw1 ∧ (((wm_hunt (fun S a => wm_st g c1 a S) (fun S a => wm_st g2 c2 a S) e1 e2 49153 0 (wm_ag [] s1 s2 0 0)).2 = none ∧ wl1 = 4294967295 ∧ wg1 = wg) ∨ ∃ w, (wm_hunt (fun S a => wm_st g c1 a S) (fun S a => wm_st g2 c2 a S) e1 e2 49153 0 (wm_ag [] s1 s2 0 0)).2 = some w ∧ w < (wm_hunt (fun S a => wm_st g c1 a S) (fun S a => wm_st g2 c2 a S) e1 e2 49153 0 (wm_ag [] s1 s2 0 0)).1.length ∧ wg1 = w ∧ wl1 = wm_dp (wm_hunt (fun S a => wm_st g c1 a S) (fun S a => wm_st g2 c2 a S) e1 e2 49153 0 (wm_ag [] s1 s2 0 0)).1 w)
set_option maxHeartbeats 4000000 in
set_option maxRecDepth 100000 in
theorem kX5_search (l : Launch) (D : va_G) (C : Nat → ClassId) (b n : Nat) (E : Nat → va_E) (gc wg wl t tg c1 s1 e1 t2 tg2 c2 s2 e2 mc : Nat) (gr mw sp g g2 : Nat → Nat) (hlt0 : 100 < n) (hE0 : E 100 = .inr (5, [.ref (b + 101), .ref (b + 102), .int (nI gc), .int (nI wg), .int (nI wl)])) (hlt1 : 101 < n) (hE1 : E 101 = wm_J C 49152 gr) (hlt2 : 102 < n) (hE2 : E 102 = wm_I C 2048 mw) (hlt3 : t < n) (hE3 : E t = .inr (2, [.ref (b + tg), .int (nI c1), .int (nI s1), .int (nI e1)])) (hlt4 : tg < n) (hE4 : E tg = wm_I C 192 g) (hlt5 : t2 < n) (hE5 : E t2 = .inr (2, [.ref (b + tg2), .int (nI c2), .int (nI s2), .int (nI e2)])) (hlt6 : 93 < n) (hE6 : E 93 = .inr (4, [.ref (b + 94), .ref (b + 95), .ref (b + 96), .ref (b + 97), .ref (b + 98), .ref (b + 99), .int (nI (2 ^ c2)), .int (nI mc)])) (hlt7 : 94 < n) (hE7 : E 94 = wm_I C 16384 sp) (hmt : t < 4 ∨ 103 ≤ t) (hmg : tg < 4 ∨ 103 ≤ tg) (hmt2 : t2 < 4 ∨ 103 ≤ t2) (hc1 : c1 ≤ 24) (hc2 : c2 ≤ 11) (hs1 : s1 < 2 ^ 24) (he1 : e1 < 2 ^ 24) (hs2 : s2 < 2 ^ c2) (he2 : e2 < 2 ^ c2) (hg : ∀ a x, a < 8 → x < c1 → g (a * 24 + x) < 2 ^ 24) (hg2 : ∀ a x, a < 8 → x < c2 → g2 (a * 24 + x) < 2 ^ c2) (hsp : wm_spt c2 8 0 g2 sp) : Met l yX5_search (wm_ws yX5_search cX5_search 8 none) { frames := 2, cells := 0, slots := 0, locals := 46 } (va_Pc [.ref (b + 100), .ref (b + t), .ref (b + t2), .ref (b + 93)] (wm_G D C b n E)) (va_Qv (pX5_search C b E gc wg wl t tg c1 s1 e1 t2 tg2 c2 s2 e2 mc gr mw sp g g2) (fun E' t => wm_P D b n E' t.heap) (wm_A b)) 0 0 (wm_A b) := by
  refine wm_ofW (by decide) (Nat.le_of_ble_eq_true rfl) (fun p e s m below meth c ls R args Q hRe hQ X hr hnm hP hS hl => ?_)
  have hl : lv_has ls 8 [(0, .ref (b + 100)), (1, .ref (b + t)), (2, .ref (b + t2)), (3, .ref (b + 93))] := hl
  have hfr : ∀ j, j ≠ 100 → j ≠ 101 → j ≠ 102 → E j = E j := fun _ _ _ _ => rfl
  have h2c : 2 ^ c2 ≤ 2048 := Nat.pow_le_pow_right (show 0 < 2 by decide) hc2
  have h2p : 0 < 2 ^ c2 := Nat.two_pow_pos c2
  refine lv_aload_n X.1 X.2.1 dX5_search_0 rfl (lv_at hl 0 rfl) ?_
  refine wm_get X hP hlt0 hE0 rfl wm_inX5 1 (by decide) wq1_191 rfl dX5_search_1 ?_
  refine lv_iconst (v := nI 0) X.1 X.2.1 dX5_search_4 (by decide) ?_
  refine lv_aload_n X.1 X.2.1 dX5_search_5 rfl (lv_at hl 3 rfl) ?_
  refine wm_get X hP hlt6 hE6 rfl wm_inX4 6 (by decide) wq1_161 rfl dX5_search_6 ?_
  refine lv_iconst (v := nI 0) X.1 X.2.1 dX5_search_9 (by decide) ?_
  refine wm_callSv (k := 4) (As := [.ref (b + 102), .int (nI 0), .int (nI (2 ^ c2)), .int (nI 0)]) (rest := []) X hP hS  (kJ7_fill_fda19 l D C b n E 102 2048 0 (2 ^ c2) 0 mw hlt2 hE2 (by omega) (by omega) (by omega)) wq3_122 wq3_123 wq1_14 wq3_124 (by decide) (by rw [hRe]; exact ⟨Nat.le_of_ble_eq_true rfl, Nat.le_of_ble_eq_true rfl⟩) rfl hl.1 rfl (Nat.le_of_ble_eq_true rfl) (Nat.zero_le _) (Nat.zero_le _) dX5_search_10 (fun E1 H locs hw hP hS => ?_)
  obtain ⟨g1, hE2, hq, hp1_0, hp1_1⟩ := hw
  have hE0 := (hq 100 (by decide)).trans hE0
  have hE1 := (hq 101 (by decide)).trans hE1
  have hE3 := (hq t (by omega)).trans hE3
  have hE4 := (hq tg (by omega)).trans hE4
  have hE5 := (hq t2 (by omega)).trans hE5
  have hE6 := (hq 93 (by decide)).trans hE6
  have hE7 := (hq 94 (by decide)).trans hE7
  have hfr : ∀ j, j ≠ 100 → j ≠ 101 → j ≠ 102 → E1 j = E j := fun j h0 h1 h2 => (hq j h2).trans (hfr j h0 h1 h2)
  refine lv_aload_n X.1 X.2.1 dX5_search_13 rfl (lv_at hl 0 rfl) ?_
  refine lv_iconst (v := nI 0) X.1 X.2.1 dX5_search_14 (by decide) ?_
  refine wm_put (v := .int (nI 0)) X hP hS hlt0 hE0 rfl wm_inX5 tyX5 tyX5_ok nmX5 2 (by decide) wq1_192 rfl rfl rfl (fs1 := [.ref (b + 101), .ref (b + 102), .int (nI 0), .int (nI wg), .int (nI wl)]) rfl (Nat.le_of_ble_eq_true rfl) dX5_search_15 (fun H locs E2 hP hS hE0 hq => ?_)
  have hE1 := (hq 101 (by decide)).trans hE1
  have hE2 := (hq 102 (by decide)).trans hE2
  have hE3 := (hq t (by omega)).trans hE3
  have hE4 := (hq tg (by omega)).trans hE4
  have hE5 := (hq t2 (by omega)).trans hE5
  have hE6 := (hq 93 (by decide)).trans hE6
  have hE7 := (hq 94 (by decide)).trans hE7
  have hfr : ∀ j, j ≠ 100 → j ≠ 101 → j ≠ 102 → E2 j = E j := fun j h0 h1 h2 => (hq j h0).trans (hfr j h0 h1 h2)
  refine lv_aload_n X.1 X.2.1 dX5_search_18 rfl (lv_at hl 0 rfl) ?_
  refine lv_iconst (v := nI 4294967295) X.1 X.2.1 dX5_search_19 (by decide) ?_
  refine wm_put (v := .int (nI 4294967295)) X hP hS hlt0 hE0 rfl wm_inX5 tyX5 tyX5_ok nmX5 4 (by decide) wq1_194 rfl rfl rfl (fs1 := [.ref (b + 101), .ref (b + 102), .int (nI 0), .int (nI wg), .int (nI 4294967295)]) rfl (Nat.le_of_ble_eq_true rfl) dX5_search_20 (fun H locs E3 hP hS hE0 hq => ?_)
  have hE1 := (hq 101 (by decide)).trans hE1
  have hE2 := (hq 102 (by decide)).trans hE2
  have hE3 := (hq t (by omega)).trans hE3
  have hE4 := (hq tg (by omega)).trans hE4
  have hE5 := (hq t2 (by omega)).trans hE5
  have hE6 := (hq 93 (by decide)).trans hE6
  have hE7 := (hq 94 (by decide)).trans hE7
  have hfr : ∀ j, j ≠ 100 → j ≠ 101 → j ≠ 102 → E3 j = E j := fun j h0 h1 h2 => (hq j h0).trans (hfr j h0 h1 h2)
  refine lv_aload_n X.1 X.2.1 dX5_search_23 rfl (lv_at hl 0 rfl) ?_
  refine lv_aload_n X.1 X.2.1 dX5_search_24 rfl (lv_at hl 1 rfl) ?_
  refine wm_get X hP hlt3 hE3 rfl wm_inX2 2 (by decide) wq1_46 rfl dX5_search_25 ?_
  refine lv_aload_n X.1 X.2.1 dX5_search_28 rfl (lv_at hl 2 rfl) ?_
  refine wm_get X hP hlt5 hE5 rfl wm_inX2 2 (by decide) wq1_46 rfl dX5_search_29 ?_
  refine lv_iconst (v := nI 0) X.1 X.2.1 dX5_search_32 (by decide) ?_
  refine lv_iconst (v := nI 0) X.1 X.2.1 dX5_search_33 (by decide) ?_
  refine wm_callVv (k := 4) (As := [.int (nI s1), .int (nI s2), .int (nI 0), .int (nI 0)]) (rest := []) X hP hS hlt0 hE0 rfl (kX5_addGroup l D C b n E3 wg 4294967295 s1 s2 0 0 (2 ^ c2) ([] : List wm_gp) gr g1 hlt0 hE0 hlt1 hE1 hlt2 hE2 h2c (by omega) (by omega) (by omega) (Or.inr ⟨rfl, rfl⟩) (wm_hw0 hp1_0)) wq4_147 wq4_149 wqP2_3 wq1_7 wq4_150 (by decide) (by rw [hRe]; exact ⟨Nat.le_of_ble_eq_true rfl, Nat.le_of_ble_eq_true rfl⟩) rfl hl.1 rfl (Nat.le_of_ble_eq_true rfl) (Nat.zero_le _) (Nat.zero_le _) dX5_search_34 (fun E4 H locs hw hP hS => ?_)
  obtain ⟨gr14, mw14, hE0, hE1, hE2, hq, hp4_0⟩ := hw
  have hE3 := (hq t (by omega) (by omega) (by omega)).trans hE3
  have hE4 := (hq tg (by omega) (by omega) (by omega)).trans hE4
  have hE5 := (hq t2 (by omega) (by omega) (by omega)).trans hE5
  have hE6 := (hq 93 (by decide) (by decide) (by decide)).trans hE6
  have hE7 := (hq 94 (by decide) (by decide) (by decide)).trans hE7
  have hfr : ∀ j, j ≠ 100 → j ≠ 101 → j ≠ 102 → E4 j = E j := fun j h0 h1 h2 => (hq j h0 h1 h2).trans (hfr j h0 h1 h2)
  refine lv_iconst (v := nI 0) X.1 X.2.1 dX5_search_37 (by decide) ?_
  refine lv_istore (lv' := [(4, .int (nI 0)), (0, .ref (b + 100)), (1, .ref (b + t)), (2, .ref (b + t2)), (3, .ref (b + 93))]) X.1 X.2.1 dX5_search_38 hl (by decide) rfl (fun ls hl => ?_)
  have L40 : ∀ (fu : Nat) (i : Nat) (G : List wm_gp) (gr2 : Nat → Nat) (mw2 : Nat → Nat), 49153 - i < fu → (i ≤ G.length) → (wm_hw (2 ^ c2) G gr2 mw2) → (wm_hunt (fun S a => wm_st g c1 a S) (fun S a => wm_st g2 c2 a S) e1 e2 (49153 - i) i G = (wm_hunt (fun S a => wm_st g c1 a S) (fun S a => wm_st g2 c2 a S) e1 e2 49153 0 (wm_ag [] s1 s2 0 0))) → ∀ (E5 : Nat → va_E) (H : Heap) (locs : List Loc) (ls : Array Slot), wm_P D b n E5 H → wm_S b s.heap H locs → E5 100 = .inr (5, [.ref (b + 101), .ref (b + 102), .int (nI G.length), .int (nI wg), .int (nI 4294967295)]) → E5 101 = wm_J C 49152 gr2 → E5 102 = wm_I C 2048 mw2 → E5 t = .inr (2, [.ref (b + tg), .int (nI c1), .int (nI s1), .int (nI e1)]) → E5 tg = wm_I C 192 g → E5 t2 = .inr (2, [.ref (b + tg2), .int (nI c2), .int (nI s2), .int (nI e2)]) → E5 93 = .inr (4, [.ref (b + 94), .ref (b + 95), .ref (b + 96), .ref (b + 97), .ref (b + 98), .ref (b + 99), .int (nI (2 ^ c2)), .int (nI mc)]) → E5 94 = wm_I C 16384 sp → (∀ j, j ≠ 100 → j ≠ 101 → j ≠ 102 → E5 j = E j) → lv_has ls 8 [(0, .ref (b + 100)), (1, .ref (b + t)), (2, .ref (b + t2)), (3, .ref (b + 93)), (4, .int (nI i))] → W p l e R s m args below meth c H locs 0 0 Q (F0 m 40 ls []) := by
    intro fu
    induction fu with
    | zero => intro i G gr2 mw2 hm; exact absurd hm (Nat.not_lt_zero _)
    | succ fu ih40 =>
      intro i G gr2 mw2 hm hi hhw hrun E5 H locs ls hP hS hE0 hE1 hE2 hE3 hE4 hE5 hE6 hE7 hfr hl
      have hlen := wm_gg_len hhw.1 h2c
      refine lv_iload X.1 X.2.1 dX5_search_40 (lv_at hl 4 rfl) ?_
      refine lv_aload_n X.1 X.2.1 dX5_search_42 rfl (lv_at hl 0 rfl) ?_
      refine wm_get X hP hlt0 hE0 rfl wm_inX5 2 (by decide) wq1_192 rfl dX5_search_43 ?_
      refine wm_icmp_ge (x := i) (y := G.length) (tgt := 145) X (by omega) (by omega) dX5_search_46 (by decide) (fun hc46 => ?_) (fun hc46 => ?_)
      · have hrn : (wm_hunt (fun S a => wm_st g c1 a S) (fun S a => wm_st g2 c2 a S) e1 e2 49153 0 (wm_ag [] s1 s2 0 0)) = (G, none) := by rw [← hrun]; exact wm_hunt_e hc46
        exact wm_vret (post := pX5_search C b E gc wg wl t tg c1 s1 e1 t2 tg2 c2 s2 e2 mc gr mw sp g g2) X hr hP hS ⟨wg, 4294967295, gr2, mw2, (by rw [hrn]; exact hE0), hE1, hE2, hfr, (by rw [hrn]; exact hhw), (Or.inl ⟨by rw [hrn], rfl, rfl⟩)⟩ hQ dX5_search_145
      · refine lv_iload X.1 X.2.1 dX5_search_49 (lv_at hl 4 rfl) ?_
        refine lv_ldc (v := nI 49152) X.1 X.2.1 X.2.2.2.1 (X.2.2.2.2.1 _ wq1_189) dX5_search_51 ?_
        refine wm_icmp_ge (x := i) (y := 49152) (tgt := 145) X (by omega) (by decide) dX5_search_53 (by decide) (fun hc53 => ?_) (fun hc53 => ?_)
        · exact absurd hc53 (by omega)
        · have hok := hhw.1.1 i hc46
          have hgri := hhw.2.1 i hc46
          refine lv_aload_n X.1 X.2.1 dX5_search_56 rfl (lv_at hl 0 rfl) ?_
          refine lv_iload X.1 X.2.1 dX5_search_57 (lv_at hl 4 rfl) ?_
          refine wm_callVi (k := 1) (As := [.int (nI i)]) (rest := []) X hP hS hlt0 hE0 rfl (kX5_statesOf l D C b n E5 G.length wg 4294967295 i (G.getD i wm_g0) gr2 hlt0 hE0 hlt1 hE1 (by omega) hgri hok.1) wq4_151 wq4_153 wqP2_4 wq1_7 wq4_154 (by decide) (by rw [hRe]; exact ⟨Nat.le_of_ble_eq_true rfl, Nat.le_of_ble_eq_true rfl⟩) rfl hl.1 rfl (Nat.le_of_ble_eq_true rfl) (Nat.zero_le _) (Nat.zero_le _) dX5_search_59 (fun r8 E8 H locs hw hP hS => ?_)
          obtain ⟨hrt, hEe⟩ := hw
          subst hrt
          subst hEe
          refine lv_istore (lv' := [(5, .int (nI ((G.getD i wm_g0).1))), (0, .ref (b + 100)), (1, .ref (b + t)), (2, .ref (b + t2)), (3, .ref (b + 93)), (4, .int (nI i))]) X.1 X.2.1 dX5_search_62 hl (by decide) rfl (fun ls hl => ?_)
          refine lv_aload_n X.1 X.2.1 dX5_search_64 rfl (lv_at hl 1 rfl) ?_
          refine lv_iload X.1 X.2.1 dX5_search_65 (lv_at hl 5 rfl) ?_
          refine wm_callVi (k := 1) (As := [.int (nI i)]) (rest := []) X hP hS hlt0 hE0 rfl (kX5_setOf l D C b n E5 G.length wg 4294967295 i (G.getD i wm_g0) gr2 hlt0 hE0 hlt1 hE1 (by omega) hgri hok.1) wq4_156 wq4_158 wqP2_5 wq1_7 wq4_159 (by decide) (by rw [hRe]; exact ⟨Nat.le_of_ble_eq_true rfl, Nat.le_of_ble_eq_true rfl⟩) rfl hl.1 rfl (Nat.le_of_ble_eq_true rfl) (Nat.zero_le _) (Nat.zero_le _) dX5_search_67 (fun r9 E9 H locs hw hP hS => ?_)
          obtain ⟨hrt, hEe⟩ := hw
          subst hrt
          subst hEe
          refine lv_istore (lv' := [(6, .int (nI ((G.getD i wm_g0).2.1))), (5, .int (nI ((G.getD i wm_g0).1))), (0, .ref (b + 100)), (1, .ref (b + t)), (2, .ref (b + t2)), (3, .ref (b + 93)), (4, .int (nI i))]) X.1 X.2.1 dX5_search_70 hl (by decide) rfl (fun ls hl => ?_)
          refine lv_iload X.1 X.2.1 dX5_search_72 (lv_at hl 1 rfl) ?_
          refine lv_aload_n X.1 X.2.1 dX5_search_74 rfl (lv_at hl 3 rfl) ?_
          refine wm_get X hP hlt3 hE3 rfl wm_inX2 3 (by decide) wq1_51 rfl dX5_search_75 ?_
          refine wm_iand (x := ((G.getD i wm_g0).1)) (y := e1) X dX5_search_78 ?_
          refine wm_if_eq (x := (((G.getD i wm_g0).1) &&& e1)) (tgt := 99) X (Nat.lt_of_le_of_lt Nat.and_le_right (by omega)) dX5_search_79 (by decide) (fun hc79 => ?_) (fun hc79 => ?_)
          · have hnb : ¬ ((G.getD i wm_g0).1 &&& e1 ≠ 0 ∧ (G.getD i wm_g0).2.1 &&& e2 = 0) := fun q => q.1 hc79
            refine lv_iconst (v := nI 0) X.1 X.2.1 dX5_search_99 (by decide) ?_
            refine lv_istore (lv' := [(7, .int (nI 0)), (6, .int (nI ((G.getD i wm_g0).2.1))), (5, .int (nI ((G.getD i wm_g0).1))), (0, .ref (b + 100)), (1, .ref (b + t)), (2, .ref (b + t2)), (3, .ref (b + 93)), (4, .int (nI i))]) X.1 X.2.1 dX5_search_100 hl (by decide) rfl (fun ls hl => ?_)
            have L102 : ∀ (fu : Nat) (a : Nat) (gr3 : Nat → Nat) (mw3 : Nat → Nat), 8 - a < fu → (a ≤ 8) → (wm_hw (2 ^ c2) (wm_ag8 (fun S a => wm_st g c1 a S) (fun S a => wm_st g2 c2 a S) G i a) gr3 mw3) → ∀ (E11 : Nat → va_E) (H : Heap) (locs : List Loc) (ls : Array Slot), wm_P D b n E11 H → wm_S b s.heap H locs → E11 100 = .inr (5, [.ref (b + 101), .ref (b + 102), .int (nI ((wm_ag8 (fun S a => wm_st g c1 a S) (fun S a => wm_st g2 c2 a S) G i a).length)), .int (nI wg), .int (nI 4294967295)]) → E11 101 = wm_J C 49152 gr3 → E11 102 = wm_I C 2048 mw3 → E11 t = .inr (2, [.ref (b + tg), .int (nI c1), .int (nI s1), .int (nI e1)]) → E11 tg = wm_I C 192 g → E11 t2 = .inr (2, [.ref (b + tg2), .int (nI c2), .int (nI s2), .int (nI e2)]) → E11 93 = .inr (4, [.ref (b + 94), .ref (b + 95), .ref (b + 96), .ref (b + 97), .ref (b + 98), .ref (b + 99), .int (nI (2 ^ c2)), .int (nI mc)]) → E11 94 = wm_I C 16384 sp → (∀ j, j ≠ 100 → j ≠ 101 → j ≠ 102 → E11 j = E j) → lv_has ls 8 [(0, .ref (b + 100)), (1, .ref (b + t)), (2, .ref (b + t2)), (3, .ref (b + 93)), (4, .int (nI i)), (5, .int (nI ((G.getD i wm_g0).1))), (6, .int (nI ((G.getD i wm_g0).2.1))), (7, .int (nI a))] → W p l e R s m args below meth c H locs 0 0 Q (F0 m 102 ls []) := by
              intro fu
              induction fu with
              | zero => intro a gr3 mw3 hm; exact absurd hm (Nat.not_lt_zero _)
              | succ fu ih102 =>
                intro a gr3 mw3 hm ha hhw2 E11 H locs ls hP hS hE0 hE1 hE2 hE3 hE4 hE5 hE6 hE7 hfr hl
                have hlen2 := wm_gg_len hhw2.1 h2c
                have hpre := wm_ag8_pre (fun S a => wm_st g c1 a S) (fun S a => wm_st g2 c2 a S) G i a
                refine lv_iload X.1 X.2.1 dX5_search_102 (lv_at hl 7 rfl) ?_
                refine lv_bipush (v := nI 8) X.1 X.2.1 dX5_search_104 (by decide) ?_
                refine wm_icmp_ge (x := a) (y := 8) (tgt := 139) X (by omega) (by decide) dX5_search_106 (by decide) (fun hc106 => ?_) (fun hc106 => ?_)
                · refine lv_iinc (v := nI (i + 1)) (lv' := [(4, .int (nI (i + 1))), (0, .ref (b + 100)), (1, .ref (b + t)), (2, .ref (b + t2)), (3, .ref (b + 93)), (5, .int (nI ((G.getD i wm_g0).1))), (6, .int (nI ((G.getD i wm_g0).2.1))), (7, .int (nI a))]) X.1 X.2.1 dX5_search_139 hl (k := 4) rfl (wm_inc i) (by decide) rfl (fun ls hl => ?_)
                  refine lv_goto (tgt := 40) X.1 X.2.1 dX5_search_142 (by decide) ?_
                  have ha8 : a = 8 := by omega
                  exact ih40 (i + 1) (wm_ag8 (fun S a => wm_st g c1 a S) (fun S a => wm_st g2 c2 a S) G i a) gr3 mw3 (by omega) (by omega) hhw2 (by rw [ha8, ← hrun, show 49153 - i = 49153 - (i + 1) + 1 by omega]; exact (wm_hunt_s hc46 hnb).symm) E11 _ _ _ hP hS hE0 hE1 hE2 hE3 hE4 hE5 hE6 hE7 hfr (lv_sub hl [1, 2, 3, 4, 0] rfl)
                · refine lv_aload_n X.1 X.2.1 dX5_search_109 rfl (lv_at hl 0 rfl) ?_
                  refine lv_aload_n X.1 X.2.1 dX5_search_110 rfl (lv_at hl 1 rfl) ?_
                  refine lv_iload X.1 X.2.1 dX5_search_111 (lv_at hl 5 rfl) ?_
                  refine lv_iload X.1 X.2.1 dX5_search_113 (lv_at hl 7 rfl) ?_
                  refine wm_callVi (k := 2) (As := [.int (nI ((G.getD i wm_g0).1)), .int (nI a)]) (rest := [.ref (b + 100)]) X hP hS hlt3 hE3 rfl (kX2_goalsOfSet l D C b n E11 t tg c1 s1 e1 ((G.getD i wm_g0).1) a g hlt3 hE3 hlt4 hE4 (by omega) (by omega) (by have := hok.1.1; omega)) wq4_168 wq3_94 wq3_95 wq1_2 wq3_96 (by decide) (by rw [hRe]; exact ⟨Nat.le_of_ble_eq_true rfl, Nat.le_of_ble_eq_true rfl⟩) rfl hl.1 rfl (Nat.le_of_ble_eq_true rfl) (Nat.zero_le _) (Nat.zero_le _) dX5_search_115 (fun r13 E13 H locs hw hP hS => ?_)
                  obtain ⟨hrt, hEe⟩ := hw
                  subst hrt
                  subst hEe
                  refine lv_aload_n X.1 X.2.1 dX5_search_118 rfl (lv_at hl 3 rfl) ?_
                  refine lv_iload X.1 X.2.1 dX5_search_119 (lv_at hl 6 rfl) ?_
                  refine lv_iload X.1 X.2.1 dX5_search_121 (lv_at hl 7 rfl) ?_
                  refine wm_callVi (k := 2) (As := [.int (nI ((G.getD i wm_g0).2.1)), .int (nI a)]) (rest := [.int (nI (wm_st g c1 a ((G.getD i wm_g0).1))), .ref (b + 100)]) X hP hS hlt6 hE6 rfl (kX4_stepFrom l D C b n E11 (2 ^ c2) mc ((G.getD i wm_g0).2.1) a sp hlt6 hE6 hlt7 hE7 (by have := hok.2.2.1; omega)) wq4_169 wq4_170 wq4_171 wq1_6 wq4_172 (by decide) (by rw [hRe]; exact ⟨Nat.le_of_ble_eq_true rfl, Nat.le_of_ble_eq_true rfl⟩) rfl hl.1 rfl (Nat.le_of_ble_eq_true rfl) (Nat.zero_le _) (Nat.zero_le _) dX5_search_123 (fun r14 E14 H locs hw hP hS => ?_)
                  obtain ⟨hrt, hEe⟩ := hw
                  subst hrt
                  subst hEe
                  rw [show sp (a * 2048 + ((G.getD i wm_g0).2.1)) = wm_st g2 c2 a (G.getD i wm_g0).2.1 from hsp a _ (by omega) hok.2.2.1 (by omega)]
                  refine lv_iload X.1 X.2.1 dX5_search_126 (lv_at hl 7 rfl) ?_
                  refine lv_iload X.1 X.2.1 dX5_search_128 (lv_at hl 4 rfl) ?_
                  refine wm_callVv (k := 4) (As := [.int (nI (wm_st g c1 a ((G.getD i wm_g0).1))), .int (nI (wm_st g2 c2 a (G.getD i wm_g0).2.1)), .int (nI a), .int (nI i)]) (rest := []) X hP hS hlt0 hE0 rfl (kX5_addGroup l D C b n E11 wg 4294967295 (wm_st g c1 a ((G.getD i wm_g0).1)) (wm_st g2 c2 a (G.getD i wm_g0).2.1) a i (2 ^ c2) (wm_ag8 (fun S a => wm_st g c1 a S) (fun S a => wm_st g2 c2 a S) G i a) gr3 mw3 hlt0 hE0 hlt1 hE1 hlt2 hE2 h2c (wm_st_lt (fun x hx => hg a x (by omega) hx)) (wm_st_lt (fun x hx => hg2 a x (by omega) hx)) (by omega) (Or.inl (by omega)) hhw2) wq4_147 wq4_149 wqP2_3 wq1_7 wq4_150 (by decide) (by rw [hRe]; exact ⟨Nat.le_of_ble_eq_true rfl, Nat.le_of_ble_eq_true rfl⟩) rfl hl.1 rfl (Nat.le_of_ble_eq_true rfl) (Nat.zero_le _) (Nat.zero_le _) dX5_search_130 (fun E15 H locs hw hP hS => ?_)
                  obtain ⟨gr115, mw115, hE0, hE1, hE2, hq, hp15_0⟩ := hw
                  have hE3 := (hq t (by omega) (by omega) (by omega)).trans hE3
                  have hE4 := (hq tg (by omega) (by omega) (by omega)).trans hE4
                  have hE5 := (hq t2 (by omega) (by omega) (by omega)).trans hE5
                  have hE6 := (hq 93 (by decide) (by decide) (by decide)).trans hE6
                  have hE7 := (hq 94 (by decide) (by decide) (by decide)).trans hE7
                  have hfr : ∀ j, j ≠ 100 → j ≠ 101 → j ≠ 102 → E15 j = E j := fun j h0 h1 h2 => (hq j h0 h1 h2).trans (hfr j h0 h1 h2)
                  refine lv_iinc (v := nI (a + 1)) (lv' := [(7, .int (nI (a + 1))), (0, .ref (b + 100)), (1, .ref (b + t)), (2, .ref (b + t2)), (3, .ref (b + 93)), (4, .int (nI i)), (5, .int (nI ((G.getD i wm_g0).1))), (6, .int (nI ((G.getD i wm_g0).2.1)))]) X.1 X.2.1 dX5_search_133 hl (k := 7) rfl (wm_inc a) (by decide) rfl (fun ls hl => ?_)
                  refine lv_goto (tgt := 102) X.1 X.2.1 dX5_search_136 (by decide) ?_
                  exact ih102 (a + 1) gr115 mw115 (by omega) (by omega) hp15_0 E15 _ _ _ hP hS hE0 hE1 hE2 hE3 hE4 hE5 hE6 hE7 hfr (lv_sub hl [1, 2, 3, 4, 5, 6, 7, 0] rfl)
            exact L102 (8 - 0 + 1) 0 gr2 mw2 (Nat.lt_succ_self _) (by omega) hhw E5 _ _ _ hP hS hE0 hE1 hE2 hE3 hE4 hE5 hE6 hE7 hfr (lv_sub hl [3, 4, 5, 6, 7, 2, 1, 0] rfl)
          · refine lv_iload X.1 X.2.1 dX5_search_82 (lv_at hl 0 rfl) ?_
            refine lv_aload_n X.1 X.2.1 dX5_search_84 rfl (lv_at hl 4 rfl) ?_
            refine wm_get X hP hlt5 hE5 rfl wm_inX2 3 (by decide) wq1_51 rfl dX5_search_85 ?_
            refine wm_iand (x := ((G.getD i wm_g0).2.1)) (y := e2) X dX5_search_88 ?_
            refine wm_if_ne (x := (((G.getD i wm_g0).2.1) &&& e2)) (tgt := 99) X (Nat.lt_of_le_of_lt Nat.and_le_right (by omega)) dX5_search_89 (by decide) (fun hc89 => ?_) (fun hc89 => ?_)
            · have hnb : ¬ ((G.getD i wm_g0).1 &&& e1 ≠ 0 ∧ (G.getD i wm_g0).2.1 &&& e2 = 0) := fun q => hc89 q.2
              refine lv_iconst (v := nI 0) X.1 X.2.1 dX5_search_99 (by decide) ?_
              refine lv_istore (lv' := [(7, .int (nI 0)), (6, .int (nI ((G.getD i wm_g0).2.1))), (5, .int (nI ((G.getD i wm_g0).1))), (0, .ref (b + 100)), (1, .ref (b + t)), (2, .ref (b + t2)), (3, .ref (b + 93)), (4, .int (nI i))]) X.1 X.2.1 dX5_search_100 hl (by decide) rfl (fun ls hl => ?_)
              have L102 : ∀ (fu : Nat) (a : Nat) (gr3 : Nat → Nat) (mw3 : Nat → Nat), 8 - a < fu → (a ≤ 8) → (wm_hw (2 ^ c2) (wm_ag8 (fun S a => wm_st g c1 a S) (fun S a => wm_st g2 c2 a S) G i a) gr3 mw3) → ∀ (E17 : Nat → va_E) (H : Heap) (locs : List Loc) (ls : Array Slot), wm_P D b n E17 H → wm_S b s.heap H locs → E17 100 = .inr (5, [.ref (b + 101), .ref (b + 102), .int (nI ((wm_ag8 (fun S a => wm_st g c1 a S) (fun S a => wm_st g2 c2 a S) G i a).length)), .int (nI wg), .int (nI 4294967295)]) → E17 101 = wm_J C 49152 gr3 → E17 102 = wm_I C 2048 mw3 → E17 t = .inr (2, [.ref (b + tg), .int (nI c1), .int (nI s1), .int (nI e1)]) → E17 tg = wm_I C 192 g → E17 t2 = .inr (2, [.ref (b + tg2), .int (nI c2), .int (nI s2), .int (nI e2)]) → E17 93 = .inr (4, [.ref (b + 94), .ref (b + 95), .ref (b + 96), .ref (b + 97), .ref (b + 98), .ref (b + 99), .int (nI (2 ^ c2)), .int (nI mc)]) → E17 94 = wm_I C 16384 sp → (∀ j, j ≠ 100 → j ≠ 101 → j ≠ 102 → E17 j = E j) → lv_has ls 8 [(0, .ref (b + 100)), (1, .ref (b + t)), (2, .ref (b + t2)), (3, .ref (b + 93)), (4, .int (nI i)), (5, .int (nI ((G.getD i wm_g0).1))), (6, .int (nI ((G.getD i wm_g0).2.1))), (7, .int (nI a))] → W p l e R s m args below meth c H locs 0 0 Q (F0 m 102 ls []) := by
                intro fu
                induction fu with
                | zero => intro a gr3 mw3 hm; exact absurd hm (Nat.not_lt_zero _)
                | succ fu ih102 =>
                  intro a gr3 mw3 hm ha hhw2 E17 H locs ls hP hS hE0 hE1 hE2 hE3 hE4 hE5 hE6 hE7 hfr hl
                  have hlen2 := wm_gg_len hhw2.1 h2c
                  have hpre := wm_ag8_pre (fun S a => wm_st g c1 a S) (fun S a => wm_st g2 c2 a S) G i a
                  refine lv_iload X.1 X.2.1 dX5_search_102 (lv_at hl 7 rfl) ?_
                  refine lv_bipush (v := nI 8) X.1 X.2.1 dX5_search_104 (by decide) ?_
                  refine wm_icmp_ge (x := a) (y := 8) (tgt := 139) X (by omega) (by decide) dX5_search_106 (by decide) (fun hc106 => ?_) (fun hc106 => ?_)
                  · refine lv_iinc (v := nI (i + 1)) (lv' := [(4, .int (nI (i + 1))), (0, .ref (b + 100)), (1, .ref (b + t)), (2, .ref (b + t2)), (3, .ref (b + 93)), (5, .int (nI ((G.getD i wm_g0).1))), (6, .int (nI ((G.getD i wm_g0).2.1))), (7, .int (nI a))]) X.1 X.2.1 dX5_search_139 hl (k := 4) rfl (wm_inc i) (by decide) rfl (fun ls hl => ?_)
                    refine lv_goto (tgt := 40) X.1 X.2.1 dX5_search_142 (by decide) ?_
                    have ha8 : a = 8 := by omega
                    exact ih40 (i + 1) (wm_ag8 (fun S a => wm_st g c1 a S) (fun S a => wm_st g2 c2 a S) G i a) gr3 mw3 (by omega) (by omega) hhw2 (by rw [ha8, ← hrun, show 49153 - i = 49153 - (i + 1) + 1 by omega]; exact (wm_hunt_s hc46 hnb).symm) E17 _ _ _ hP hS hE0 hE1 hE2 hE3 hE4 hE5 hE6 hE7 hfr (lv_sub hl [1, 2, 3, 4, 0] rfl)
                  · refine lv_aload_n X.1 X.2.1 dX5_search_109 rfl (lv_at hl 0 rfl) ?_
                    refine lv_aload_n X.1 X.2.1 dX5_search_110 rfl (lv_at hl 1 rfl) ?_
                    refine lv_iload X.1 X.2.1 dX5_search_111 (lv_at hl 5 rfl) ?_
                    refine lv_iload X.1 X.2.1 dX5_search_113 (lv_at hl 7 rfl) ?_
                    refine wm_callVi (k := 2) (As := [.int (nI ((G.getD i wm_g0).1)), .int (nI a)]) (rest := [.ref (b + 100)]) X hP hS hlt3 hE3 rfl (kX2_goalsOfSet l D C b n E17 t tg c1 s1 e1 ((G.getD i wm_g0).1) a g hlt3 hE3 hlt4 hE4 (by omega) (by omega) (by have := hok.1.1; omega)) wq4_168 wq3_94 wq3_95 wq1_2 wq3_96 (by decide) (by rw [hRe]; exact ⟨Nat.le_of_ble_eq_true rfl, Nat.le_of_ble_eq_true rfl⟩) rfl hl.1 rfl (Nat.le_of_ble_eq_true rfl) (Nat.zero_le _) (Nat.zero_le _) dX5_search_115 (fun r19 E19 H locs hw hP hS => ?_)
                    obtain ⟨hrt, hEe⟩ := hw
                    subst hrt
                    subst hEe
                    refine lv_aload_n X.1 X.2.1 dX5_search_118 rfl (lv_at hl 3 rfl) ?_
                    refine lv_iload X.1 X.2.1 dX5_search_119 (lv_at hl 6 rfl) ?_
                    refine lv_iload X.1 X.2.1 dX5_search_121 (lv_at hl 7 rfl) ?_
                    refine wm_callVi (k := 2) (As := [.int (nI ((G.getD i wm_g0).2.1)), .int (nI a)]) (rest := [.int (nI (wm_st g c1 a ((G.getD i wm_g0).1))), .ref (b + 100)]) X hP hS hlt6 hE6 rfl (kX4_stepFrom l D C b n E17 (2 ^ c2) mc ((G.getD i wm_g0).2.1) a sp hlt6 hE6 hlt7 hE7 (by have := hok.2.2.1; omega)) wq4_169 wq4_170 wq4_171 wq1_6 wq4_172 (by decide) (by rw [hRe]; exact ⟨Nat.le_of_ble_eq_true rfl, Nat.le_of_ble_eq_true rfl⟩) rfl hl.1 rfl (Nat.le_of_ble_eq_true rfl) (Nat.zero_le _) (Nat.zero_le _) dX5_search_123 (fun r20 E20 H locs hw hP hS => ?_)
                    obtain ⟨hrt, hEe⟩ := hw
                    subst hrt
                    subst hEe
                    rw [show sp (a * 2048 + ((G.getD i wm_g0).2.1)) = wm_st g2 c2 a (G.getD i wm_g0).2.1 from hsp a _ (by omega) hok.2.2.1 (by omega)]
                    refine lv_iload X.1 X.2.1 dX5_search_126 (lv_at hl 7 rfl) ?_
                    refine lv_iload X.1 X.2.1 dX5_search_128 (lv_at hl 4 rfl) ?_
                    refine wm_callVv (k := 4) (As := [.int (nI (wm_st g c1 a ((G.getD i wm_g0).1))), .int (nI (wm_st g2 c2 a (G.getD i wm_g0).2.1)), .int (nI a), .int (nI i)]) (rest := []) X hP hS hlt0 hE0 rfl (kX5_addGroup l D C b n E17 wg 4294967295 (wm_st g c1 a ((G.getD i wm_g0).1)) (wm_st g2 c2 a (G.getD i wm_g0).2.1) a i (2 ^ c2) (wm_ag8 (fun S a => wm_st g c1 a S) (fun S a => wm_st g2 c2 a S) G i a) gr3 mw3 hlt0 hE0 hlt1 hE1 hlt2 hE2 h2c (wm_st_lt (fun x hx => hg a x (by omega) hx)) (wm_st_lt (fun x hx => hg2 a x (by omega) hx)) (by omega) (Or.inl (by omega)) hhw2) wq4_147 wq4_149 wqP2_3 wq1_7 wq4_150 (by decide) (by rw [hRe]; exact ⟨Nat.le_of_ble_eq_true rfl, Nat.le_of_ble_eq_true rfl⟩) rfl hl.1 rfl (Nat.le_of_ble_eq_true rfl) (Nat.zero_le _) (Nat.zero_le _) dX5_search_130 (fun E21 H locs hw hP hS => ?_)
                    obtain ⟨gr121, mw121, hE0, hE1, hE2, hq, hp21_0⟩ := hw
                    have hE3 := (hq t (by omega) (by omega) (by omega)).trans hE3
                    have hE4 := (hq tg (by omega) (by omega) (by omega)).trans hE4
                    have hE5 := (hq t2 (by omega) (by omega) (by omega)).trans hE5
                    have hE6 := (hq 93 (by decide) (by decide) (by decide)).trans hE6
                    have hE7 := (hq 94 (by decide) (by decide) (by decide)).trans hE7
                    have hfr : ∀ j, j ≠ 100 → j ≠ 101 → j ≠ 102 → E21 j = E j := fun j h0 h1 h2 => (hq j h0 h1 h2).trans (hfr j h0 h1 h2)
                    refine lv_iinc (v := nI (a + 1)) (lv' := [(7, .int (nI (a + 1))), (0, .ref (b + 100)), (1, .ref (b + t)), (2, .ref (b + t2)), (3, .ref (b + 93)), (4, .int (nI i)), (5, .int (nI ((G.getD i wm_g0).1))), (6, .int (nI ((G.getD i wm_g0).2.1)))]) X.1 X.2.1 dX5_search_133 hl (k := 7) rfl (wm_inc a) (by decide) rfl (fun ls hl => ?_)
                    refine lv_goto (tgt := 102) X.1 X.2.1 dX5_search_136 (by decide) ?_
                    exact ih102 (a + 1) gr121 mw121 (by omega) (by omega) hp21_0 E21 _ _ _ hP hS hE0 hE1 hE2 hE3 hE4 hE5 hE6 hE7 hfr (lv_sub hl [1, 2, 3, 4, 5, 6, 7, 0] rfl)
              exact L102 (8 - 0 + 1) 0 gr2 mw2 (Nat.lt_succ_self _) (by omega) hhw E5 _ _ _ hP hS hE0 hE1 hE2 hE3 hE4 hE5 hE6 hE7 hfr (lv_sub hl [3, 4, 5, 6, 7, 2, 1, 0] rfl)
            · refine lv_aload_n X.1 X.2.1 dX5_search_92 rfl (lv_at hl 2 rfl) ?_
              refine lv_iload X.1 X.2.1 dX5_search_93 (lv_at hl 6 rfl) ?_
              refine wm_callVv (k := 1) (As := [.int (nI i)]) (rest := []) X hP hS hlt0 hE0 rfl (kX5_keepWord l D C b n E5 G.length wg 4294967295 i (2 ^ c2) G gr2 hlt0 hE0 hlt1 hE1 h2c hhw.1 hhw.2.1 hc46) wq4_160 wq4_162 wqP2_6 wq1_7 wq4_163 (by decide) (by rw [hRe]; exact ⟨Nat.le_of_ble_eq_true rfl, Nat.le_of_ble_eq_true rfl⟩) rfl hl.1 rfl (Nat.le_of_ble_eq_true rfl) (Nat.zero_le _) (Nat.zero_le _) dX5_search_95 (fun E22 H locs hw hP hS => ?_)
              obtain ⟨hE0, hq⟩ := hw
              have hE1 := (hq 101 (by decide)).trans hE1
              have hE2 := (hq 102 (by decide)).trans hE2
              have hE3 := (hq t (by omega)).trans hE3
              have hE4 := (hq tg (by omega)).trans hE4
              have hE5 := (hq t2 (by omega)).trans hE5
              have hE6 := (hq 93 (by decide)).trans hE6
              have hE7 := (hq 94 (by decide)).trans hE7
              have hfr : ∀ j, j ≠ 100 → j ≠ 101 → j ≠ 102 → E22 j = E j := fun j h0 h1 h2 => (hq j h0).trans (hfr j h0 h1 h2)
              have hrn : (wm_hunt (fun S a => wm_st g c1 a S) (fun S a => wm_st g2 c2 a S) e1 e2 49153 0 (wm_ag [] s1 s2 0 0)) = (G, some i) := by rw [← hrun, show 49153 - i = 49152 - i + 1 by omega]; exact wm_hunt_b hc46 ⟨hc79, hc89⟩
              exact wm_vret (post := pX5_search C b E gc wg wl t tg c1 s1 e1 t2 tg2 c2 s2 e2 mc gr mw sp g g2) X hr hP hS ⟨i, (wm_dp G i), gr2, mw2, (by rw [hrn]; exact hE0), hE1, hE2, hfr, (by rw [hrn]; exact hhw), (Or.inr ⟨i, by rw [hrn], by rw [hrn]; exact hc46, rfl, by rw [hrn]⟩)⟩ hQ dX5_search_98
  exact L40 (49153 - 0 + 1) 0 (wm_ag [] s1 s2 0 0) gr14 mw14 (Nat.lt_succ_self _) (Nat.zero_le _) hp4_0 rfl E4 _ _ _ hP hS hE0 hE1 hE2 hE3 hE4 hE5 hE6 hE7 hfr (lv_sub hl [1, 2, 3, 4, 0] rfl)
