def pread0 (C : Nat → ClassId) (b : Nat) (E : Nat → va_E) (fk fp sz k cn st en : Nat) (z : wm_pst) (tx g : Nat → Nat) : Int32 → (Nat → va_E) → Prop := fun r E' => r = nI 4294967295 ∧ (∀ j, (j < 5 ∨ 93 ≤ j) → E' j = E j) ∧ wm_rd C b E' (wm_kd (wm_go tx sz 0 (wm_z0 z))) (wm_pl (wm_go tx sz 0 (wm_z0 z))) (wm_go tx sz 0 (wm_z0 z)).2.2
set_option maxHeartbeats 4000000 in
set_option maxRecDepth 100000 in
theorem kread0 (l : Launch) (D : va_G) (C : Nat → ClassId) (b n : Nat) (E : Nat → va_E) (fk fp sz k cn st en : Nat) (z : wm_pst) (tx g : Nat → Nat) (hlt0 : 0 < n) (hE0 : E 0 = .inr (6, [.ref (b + 1), .ref (b + 2), .ref (b + 4), .int (nI sz), .ref (b + 5), .ref (b + 93), .ref (b + 100)])) (hlt1 : 1 < n) (hE1 : E 1 = wm_Q C 4 8 (fun x9 => some (b + (103 + 2 * x9)))) (hlt2 : 4 < n) (hE2 : E 4 = wm_B C 200 (fun j => wm_sb (tx j))) (hn : 119 ≤ n) (hz : wm_rd C b E fk fp z) (hb : wm_zb z) (hsz : sz ≤ 200) (htx : ∀ i, tx i < 256) (hkk : k < 8) (hkd : wm_kd (wm_go tx sz 0 (wm_z0 z)) ≠ 0) : Met l yX6_read (wm_ws yX6_read cX6_read 3 (some .int)) { frames := 10, cells := 0, slots := 0, locals := 306 } (va_Pc [.ref (b + 0), .int (nI k)] (wm_G D C b n E)) (va_Qi (pread0 C b E fk fp sz k cn st en z tx g) (fun E' t => wm_P D b n E' t.heap) (wm_A b)) 0 0 (wm_A b) := by
  refine wm_ofW (by decide) (Nat.le_of_ble_eq_true rfl) (fun p e s m below meth c ls R args Q hRe hQ X hr hnm hP hS hl => ?_)
  have hl : lv_has ls 3 [(0, .ref (b + 0)), (1, .int (nI k))] := hl
  have hfr : ∀ j, (j < 5 ∨ 93 ≤ j) → E j = E j := fun _ _ => rfl
  have hX5 := hz.1
  refine lv_aload_n X.1 X.2.1 dX6_read_0 rfl (lv_at hl 0 rfl) ?_
  refine lv_iload_n X.1 X.2.1 dX6_read_1 rfl (lv_at hl 1 rfl) ?_
  refine wm_callVr (k := 1) (As := [.int (nI k)]) (rest := []) X hP hS hlt0 hE0 rfl (kX6_machineAt l D C b n E sz k hlt0 hE0 hlt1 hE1 (by omega)) wq2_88 wq2_90 wqP1_1 wq1_1 wq2_91 (by decide) (by rw [hRe]; exact ⟨Nat.le_of_ble_eq_true rfl, Nat.le_of_ble_eq_true rfl⟩) rfl hl.1 rfl (Nat.le_of_ble_eq_true rfl) (Nat.zero_le _) (Nat.zero_le _) dX6_read_2 (fun E1 H locs hw hP hS => ?_)
  have hEe := hw
  subst hEe
  refine lv_astore_n (lv' := [(2, .ref (b + (103 + 2 * k))), (0, .ref (b + 0)), (1, .int (nI k))]) X.1 X.2.1 dX6_read_5 rfl hl (by decide) rfl (fun ls hl => ?_)
  refine lv_aload_n X.1 X.2.1 dX6_read_6 rfl (lv_at hl 1 rfl) ?_
  refine wm_get X hP hlt0 hE0 rfl wm_inX6 4 (by decide) wq1_211 rfl dX6_read_7 ?_
  refine lv_aload_n X.1 X.2.1 dX6_read_10 rfl (lv_at hl 1 rfl) ?_
  refine wm_get X hP hlt0 hE0 rfl wm_inX6 2 (by decide) wq1_209 rfl dX6_read_11 ?_
  refine lv_aload_n X.1 X.2.1 dX6_read_14 rfl (lv_at hl 1 rfl) ?_
  refine wm_get X hP hlt0 hE0 rfl wm_inX6 3 (by decide) wq1_210 rfl dX6_read_15 ?_
  refine wm_callVv (k := 2) (As := [.ref (b + 4), .int (nI sz)]) (rest := []) X hP hS (by omega) hX5 rfl (kX0_parse l D C b n E fk fp sz z tx hlt2 hE2 (by omega) hz hb hsz htx) wq2_108 wq2_109 wq2_110 wq1_3 wq2_111 (by decide) (by rw [hRe]; exact ⟨Nat.le_of_ble_eq_true rfl, Nat.le_of_ble_eq_true rfl⟩) rfl hl.1 rfl (Nat.le_of_ble_eq_true rfl) (Nat.zero_le _) (Nat.zero_le _) dX6_read_18 (fun E2 H locs hw hP hS => ?_)
  obtain ⟨hq, hp2_0⟩ := hw
  have hE0 := (hq 0 (by omega)).trans hE0
  have hE1 := (hq 1 (by omega)).trans hE1
  have hE2 := (hq 4 (by omega)).trans hE2
  have hfr : ∀ j, (j < 5 ∨ 93 ≤ j) → E2 j = E j := fun j h0 => (hq j (by omega)).trans (hfr j h0)
  have hz := hp2_0
  have hb := wm_go_b tx sz 0 _ (wm_z0_b hb)
  have hkk : wm_kd (wm_go tx sz 0 (wm_z0 z)) ≤ 4 := wm_kd_k tx sz 0 _
  have hX5 := hz.1
  refine lv_aload_n X.1 X.2.1 dX6_read_21 rfl (lv_at hl 1 rfl) ?_
  refine wm_get X hP hlt0 hE0 rfl wm_inX6 4 (by decide) wq1_211 rfl dX6_read_22 ?_
  refine wm_get X hP (by omega) hX5 rfl wm_inX0 0 (by decide) wq1_116 rfl dX6_read_25 ?_
  refine wm_if_eq (x := (wm_kd (wm_go tx sz 0 (wm_z0 z)))) (tgt := 33) X (by omega) dX6_read_28 (by decide) (fun hc28 => ?_) (fun hc28 => ?_)
  · exact absurd hc28 hkd
  · refine lv_iconst (v := nI 4294967295) X.1 X.2.1 dX6_read_31 (by decide) ?_
    exact wm_iret (post := pread0 C b E fk fp sz k cn st en z tx g) X hr hP hS ⟨rfl, hfr, hz⟩ hQ dX6_read_32
def pread1 (C : Nat → ClassId) (b : Nat) (E : Nat → va_E) (fk fp sz k cn st en : Nat) (z : wm_pst) (tx g : Nat → Nat) : Int32 → (Nat → va_E) → Prop := fun r E' => ∃ (g1 : Nat → Nat), r = nI ((wm_go tx sz 0 (wm_z0 z)).2.2.1.2.1) ∧ (∀ j, ((j < 5 ∨ 93 ≤ j) ∧ j ≠ 103 + 2 * k ∧ j ≠ 104 + 2 * k) → E' j = E j) ∧ E' (103 + 2 * k) = .inr (2, [.ref (b + (104 + 2 * k)), .int (nI ((wm_go tx sz 0 (wm_z0 z)).2.2.1.2.1)), .int (nI 1), .int (nI (wm_en (wm_go tx sz 0 (wm_z0 z)).2.2))]) ∧ E' (104 + 2 * k) = wm_I C 192 g1 ∧ wm_rd C b E' (wm_kd (wm_go tx sz 0 (wm_z0 z))) (wm_pl (wm_go tx sz 0 (wm_z0 z))) (wm_z9 (wm_go tx sz 0 (wm_z0 z)).2.2) ∧ wm_wt (wm_go tx sz 0 (wm_z0 z)).2.2.1.2.1 (wm_z9 (wm_go tx sz 0 (wm_z0 z)).2.2).2.1 (wm_go tx sz 0 (wm_z0 z)).2.2.2.2.1 8 0 g1
set_option maxHeartbeats 4000000 in
set_option maxRecDepth 100000 in
theorem kread1 (l : Launch) (D : va_G) (C : Nat → ClassId) (b n : Nat) (E : Nat → va_E) (fk fp sz k cn st en : Nat) (z : wm_pst) (tx g : Nat → Nat) (hlt0 : 0 < n) (hE0 : E 0 = .inr (6, [.ref (b + 1), .ref (b + 2), .ref (b + 4), .int (nI sz), .ref (b + 5), .ref (b + 93), .ref (b + 100)])) (hlt1 : 1 < n) (hE1 : E 1 = wm_Q C 4 8 (fun x9 => some (b + (103 + 2 * x9)))) (hlt2 : 4 < n) (hE2 : E 4 = wm_B C 200 (fun j => wm_sb (tx j))) (hlt3 : 103 + 2 * k < n) (hE3 : E (103 + 2 * k) = .inr (2, [.ref (b + (104 + 2 * k)), .int (nI cn), .int (nI st), .int (nI en)])) (hlt4 : 104 + 2 * k < n) (hE4 : E (104 + 2 * k) = wm_I C 192 g) (hn : 119 ≤ n) (hz : wm_rd C b E fk fp z) (hb : wm_zb z) (hsz : sz ≤ 200) (htx : ∀ i, tx i < 256) (hkk : k < 8) (hkd : wm_kd (wm_go tx sz 0 (wm_z0 z)) = 0) : Met l yX6_read (wm_ws yX6_read cX6_read 3 (some .int)) { frames := 10, cells := 0, slots := 0, locals := 306 } (va_Pc [.ref (b + 0), .int (nI k)] (wm_G D C b n E)) (va_Qi (pread1 C b E fk fp sz k cn st en z tx g) (fun E' t => wm_P D b n E' t.heap) (wm_A b)) 0 0 (wm_A b) := by
  refine wm_ofW (by decide) (Nat.le_of_ble_eq_true rfl) (fun p e s m below meth c ls R args Q hRe hQ X hr hnm hP hS hl => ?_)
  have hl : lv_has ls 3 [(0, .ref (b + 0)), (1, .int (nI k))] := hl
  have hfr : ∀ j, ((j < 5 ∨ 93 ≤ j) ∧ j ≠ 103 + 2 * k ∧ j ≠ 104 + 2 * k) → E j = E j := fun _ _ => rfl
  have hX5 := hz.1
  refine lv_aload_n X.1 X.2.1 dX6_read_0 rfl (lv_at hl 0 rfl) ?_
  refine lv_iload_n X.1 X.2.1 dX6_read_1 rfl (lv_at hl 1 rfl) ?_
  refine wm_callVr (k := 1) (As := [.int (nI k)]) (rest := []) X hP hS hlt0 hE0 rfl (kX6_machineAt l D C b n E sz k hlt0 hE0 hlt1 hE1 (by omega)) wq2_88 wq2_90 wqP1_1 wq1_1 wq2_91 (by decide) (by rw [hRe]; exact ⟨Nat.le_of_ble_eq_true rfl, Nat.le_of_ble_eq_true rfl⟩) rfl hl.1 rfl (Nat.le_of_ble_eq_true rfl) (Nat.zero_le _) (Nat.zero_le _) dX6_read_2 (fun E1 H locs hw hP hS => ?_)
  have hEe := hw
  subst hEe
  refine lv_astore_n (lv' := [(2, .ref (b + (103 + 2 * k))), (0, .ref (b + 0)), (1, .int (nI k))]) X.1 X.2.1 dX6_read_5 rfl hl (by decide) rfl (fun ls hl => ?_)
  refine lv_aload_n X.1 X.2.1 dX6_read_6 rfl (lv_at hl 1 rfl) ?_
  refine wm_get X hP hlt0 hE0 rfl wm_inX6 4 (by decide) wq1_211 rfl dX6_read_7 ?_
  refine lv_aload_n X.1 X.2.1 dX6_read_10 rfl (lv_at hl 1 rfl) ?_
  refine wm_get X hP hlt0 hE0 rfl wm_inX6 2 (by decide) wq1_209 rfl dX6_read_11 ?_
  refine lv_aload_n X.1 X.2.1 dX6_read_14 rfl (lv_at hl 1 rfl) ?_
  refine wm_get X hP hlt0 hE0 rfl wm_inX6 3 (by decide) wq1_210 rfl dX6_read_15 ?_
  refine wm_callVv (k := 2) (As := [.ref (b + 4), .int (nI sz)]) (rest := []) X hP hS (by omega) hX5 rfl (kX0_parse l D C b n E fk fp sz z tx hlt2 hE2 (by omega) hz hb hsz htx) wq2_108 wq2_109 wq2_110 wq1_3 wq2_111 (by decide) (by rw [hRe]; exact ⟨Nat.le_of_ble_eq_true rfl, Nat.le_of_ble_eq_true rfl⟩) rfl hl.1 rfl (Nat.le_of_ble_eq_true rfl) (Nat.zero_le _) (Nat.zero_le _) dX6_read_18 (fun E2 H locs hw hP hS => ?_)
  obtain ⟨hq, hp2_0⟩ := hw
  have hE0 := (hq 0 (by omega)).trans hE0
  have hE1 := (hq 1 (by omega)).trans hE1
  have hE2 := (hq 4 (by omega)).trans hE2
  have hE3 := (hq (103 + 2 * k) (by omega)).trans hE3
  have hE4 := (hq (104 + 2 * k) (by omega)).trans hE4
  have hfr : ∀ j, ((j < 5 ∨ 93 ≤ j) ∧ j ≠ 103 + 2 * k ∧ j ≠ 104 + 2 * k) → E2 j = E j := fun j h0 => (hq j (by omega)).trans (hfr j h0)
  have hz := hp2_0
  have hb := wm_go_b tx sz 0 _ (wm_z0_b hb)
  have hkk : wm_kd (wm_go tx sz 0 (wm_z0 z)) ≤ 4 := wm_kd_k tx sz 0 _
  have hX5 := hz.1
  refine lv_aload_n X.1 X.2.1 dX6_read_21 rfl (lv_at hl 1 rfl) ?_
  refine wm_get X hP hlt0 hE0 rfl wm_inX6 4 (by decide) wq1_211 rfl dX6_read_22 ?_
  refine wm_get X hP (by omega) hX5 rfl wm_inX0 0 (by decide) wq1_116 rfl dX6_read_25 ?_
  refine wm_if_eq (x := (wm_kd (wm_go tx sz 0 (wm_z0 z)))) (tgt := 33) X (by omega) dX6_read_28 (by decide) (fun hc28 => ?_) (fun hc28 => ?_)
  · refine lv_aload_n X.1 X.2.1 dX6_read_33 rfl (lv_at hl 1 rfl) ?_
    refine wm_get X hP hlt0 hE0 rfl wm_inX6 4 (by decide) wq1_211 rfl dX6_read_34 ?_
    have hX6 := hz.2.1
    have hX7 := hz.2.2.1
    have hX8 := hz.2.2.2.1
    have hv := hz.2.2.2.2 0 (by decide)
    have hX90 := hv.1
    have hX100 := hv.2.1
    have hX110 := hv.2.2.1
    have hX120 := hv.2.2.2
    refine lv_aload_n X.1 X.2.1 dX6_read_37 rfl (lv_at hl 0 rfl) ?_
    refine wm_callVv (k := 1) (As := [.ref (b + (103 + 2 * k))]) (rest := []) X hP hS (by omega) hX5 rfl (kX0_writeTo l D C b n E2 (wm_kd (wm_go tx sz 0 (wm_z0 z))) (wm_pl (wm_go tx sz 0 (wm_z0 z))) ((wm_go tx sz 0 (wm_z0 z)).2.2.1.1) ((wm_go tx sz 0 (wm_z0 z)).2.2.1.2.1) ((wm_go tx sz 0 (wm_z0 z)).2.2.1.2.2.1) ((wm_go tx sz 0 (wm_z0 z)).2.2.1.2.2.2.2) (((wm_go tx sz 0 (wm_z0 z)).2.2.2.2.2.2 0 0).2.1) (((wm_go tx sz 0 (wm_z0 z)).2.2.2.2.2.2 0 0).2.2) (((wm_go tx sz 0 (wm_z0 z)).2.2.2.2.2.2 0 1).2.1) (((wm_go tx sz 0 (wm_z0 z)).2.2.2.2.2.2 0 1).2.2) (((wm_go tx sz 0 (wm_z0 z)).2.2.2.2.2.2 0 2).2.1) (((wm_go tx sz 0 (wm_z0 z)).2.2.2.2.2.2 0 2).2.2) (103 + 2 * k) (104 + 2 * k) cn st en ((wm_go tx sz 0 (wm_z0 z)).2.2.1.2.2.2.1) ((wm_go tx sz 0 (wm_z0 z)).2.2.2.2.2.1 0) (((wm_go tx sz 0 (wm_z0 z)).2.2.2.2.2.2 0 0).1) (((wm_go tx sz 0 (wm_z0 z)).2.2.2.2.2.2 0 1).1) (((wm_go tx sz 0 (wm_z0 z)).2.2.2.2.2.2 0 2).1) ((wm_go tx sz 0 (wm_z0 z)).2.2.2.1) ((wm_go tx sz 0 (wm_z0 z)).2.2.2.2.1) g (by omega) hX5 (by omega) hX6 (by omega) hX7 (by omega) hX8 (by omega) hX90 (by omega) hX100 (by omega) hX110 (by omega) hX120 hlt3 hE3 hlt4 hE4 hb.1.2.2.1 hb.1.2.1 (Nat.lt_trans (hb.2.2.2 0 1).2 (by decide)) (fun i _ => Nat.lt_trans (hb.2.2.1 i) (by decide)) (by omega) (by omega) (by omega)) wq2_194 wq2_195 wq2_196 wq1_3 wq2_197 (by decide) (by rw [hRe]; exact ⟨Nat.le_of_ble_eq_true rfl, Nat.le_of_ble_eq_true rfl⟩) rfl hl.1 rfl (Nat.le_of_ble_eq_true rfl) (Nat.zero_le _) (Nat.zero_le _) dX6_read_38 (fun E4 H locs hw hP hS => ?_)
    obtain ⟨g14, hE3, hE4, hX7, hX90, hX100, hX110, hX120, hq, hp4_0⟩ := hw
    have hE0 := (hq 0 (by omega) (by omega) (by decide) (by omega) (by omega) (by omega) (by omega)).trans hE0
    have hE1 := (hq 1 (by omega) (by omega) (by decide) (by omega) (by omega) (by omega) (by omega)).trans hE1
    have hE2 := (hq 4 (by omega) (by omega) (by decide) (by omega) (by omega) (by omega) (by omega)).trans hE2
    have hX5 := (hq 5 (by omega) (by omega) (by decide) (by omega) (by omega) (by omega) (by omega)).trans hX5
    have hX6 := (hq 6 (by omega) (by omega) (by decide) (by omega) (by omega) (by omega) (by omega)).trans hX6
    have hX8 := (hq 8 (by omega) (by omega) (by decide) (by omega) (by omega) (by omega) (by omega)).trans hX8
    have hfr : ∀ j, ((j < 5 ∨ 93 ≤ j) ∧ j ≠ 103 + 2 * k ∧ j ≠ 104 + 2 * k) → E4 j = E j := fun j h0 => (hq j (by omega) (by omega) (by omega) (by omega) (by omega) (by omega) (by omega)).trans (hfr j h0)
    have hz := wm_rd_z9 hz (t := 103 + 2 * k) (tg := 104 + 2 * k) (by omega) (by omega) hX7 hX90 hX100 hX110 hX120 hq
    have hwt := hp4_0
    refine lv_aload_n X.1 X.2.1 dX6_read_41 rfl (lv_at hl 0 rfl) ?_
    refine wm_get X hP hlt3 hE3 rfl wm_inX2 1 (by decide) wq1_44 rfl dX6_read_42 ?_
    exact wm_iret (post := pread1 C b E fk fp sz k cn st en z tx g) X hr hP hS ⟨g14, rfl, hfr, hE3, hE4, hz, hwt⟩ hQ dX6_read_45
  · exact absurd hc28 (fun q => q hkd)
