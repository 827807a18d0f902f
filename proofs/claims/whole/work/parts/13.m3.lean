def pX2_becomeBeside (C : Nat → ClassId) (b : Nat) (E : Nat → va_E) (t tg cn st en t2 tg2 c2 s2 e2 t3 tg3 c3 s3 e3 : Nat) (g g2 g3 : Nat → Nat) : (Nat → va_E) → Prop := fun E' => ∃ (g1 : Nat → Nat), E' t = .inr (2, [.ref (b + tg), .int (nI (c2 + c3)), .int (nI (s2 ||| s3 <<< c2)), .int (nI (e2 ||| e3 <<< c2))]) ∧ E' tg = wm_I C 192 g1 ∧ (∀ j, j ≠ t → j ≠ tg → E' j = E j) ∧ wm_bb c2 c3 8 0 g2 g3 g1
set_option maxHeartbeats 4000000 in
set_option maxRecDepth 100000 in
theorem kX2_becomeBeside (l : Launch) (D : va_G) (C : Nat → ClassId) (b n : Nat) (E : Nat → va_E) (t tg cn st en t2 tg2 c2 s2 e2 t3 tg3 c3 s3 e3 : Nat) (g g2 g3 : Nat → Nat) (hlt0 : t < n) (hE0 : E t = .inr (2, [.ref (b + tg), .int (nI cn), .int (nI st), .int (nI en)])) (hlt1 : tg < n) (hE1 : E tg = wm_I C 192 g) (hlt2 : t2 < n) (hE2 : E t2 = .inr (2, [.ref (b + tg2), .int (nI c2), .int (nI s2), .int (nI e2)])) (hlt3 : tg2 < n) (hE3 : E tg2 = wm_I C 192 g2) (hlt4 : t3 < n) (hE4 : E t3 = .inr (2, [.ref (b + tg3), .int (nI c3), .int (nI s3), .int (nI e3)])) (hlt5 : tg3 < n) (hE5 : E tg3 = wm_I C 192 g3) (n1 : t ≠ tg) (n2 : t ≠ t2) (n3 : t ≠ tg2) (n4 : tg ≠ t2) (n5 : tg ≠ tg2) (n6 : t ≠ t3) (n7 : t ≠ tg3) (n8 : tg ≠ t3) (n9 : tg ≠ tg3) (hc : c2 + c3 ≤ 24) : Met l yX2_becomeBeside (wm_ws yX2_becomeBeside cX2_becomeBeside 5 none) { frames := 2, cells := 0, slots := 0, locals := 39 } (va_Pc [.ref (b + t), .ref (b + t2), .ref (b + t3)] (wm_G D C b n E)) (va_Qv (pX2_becomeBeside C b E t tg cn st en t2 tg2 c2 s2 e2 t3 tg3 c3 s3 e3 g g2 g3) (fun E' t => wm_P D b n E' t.heap) (wm_A b)) 0 0 (wm_A b) := by
  refine wm_ofW (by decide) (Nat.le_of_ble_eq_true rfl) (fun p e s m below meth c ls R args Q hRe hQ X hr hnm hP hS hl => ?_)
  have hl : lv_has ls 5 [(0, .ref (b + t)), (1, .ref (b + t2)), (2, .ref (b + t3))] := hl
  have hfr : ∀ j, j ≠ t → j ≠ tg → E j = E j := fun _ _ _ => rfl
  refine lv_aload_n X.1 X.2.1 dX2_becomeBeside_0 rfl (lv_at hl 0 rfl) ?_
  refine lv_aload_n X.1 X.2.1 dX2_becomeBeside_1 rfl (lv_at hl 1 rfl) ?_
  refine wm_callVv (k := 1) (As := [.ref (b + t2)]) (rest := []) X hP hS hlt0 hE0 rfl (kX2_becomeCopy l D C b n E t tg cn st en t2 tg2 c2 s2 e2 g g2 hlt0 hE0 hlt1 hE1 hlt2 hE2 hlt3 hE3 (by omega) (by omega) (by omega) (by omega) (by omega)) wq3_66 wq3_49 wq3_50 wq1_2 wq3_51 (by decide) (by rw [hRe]; exact ⟨Nat.le_of_ble_eq_true rfl, Nat.le_of_ble_eq_true rfl⟩) rfl hl.1 rfl (Nat.le_of_ble_eq_true rfl) (Nat.zero_le _) (Nat.zero_le _) dX2_becomeBeside_2 (fun E1 H locs hw hP hS => ?_)
  obtain ⟨g11, hE0, hE1, hq, hp1_0⟩ := hw
  have hE2 := (hq t2 (by omega) (by omega)).trans hE2
  have hE3 := (hq tg2 (by omega) (by omega)).trans hE3
  have hE4 := (hq t3 (by omega) (by omega)).trans hE4
  have hE5 := (hq tg3 (by omega) (by omega)).trans hE5
  have hfr : ∀ j, j ≠ t → j ≠ tg → E1 j = E j := fun j h0 h1 => (hq j h0 h1).trans (hfr j h0 h1)
  refine lv_aload_n X.1 X.2.1 dX2_becomeBeside_5 rfl (lv_at hl 0 rfl) ?_
  refine lv_aload_n X.1 X.2.1 dX2_becomeBeside_6 rfl (lv_at hl 1 rfl) ?_
  refine wm_get X hP hlt2 hE2 rfl wm_inX2 1 (by decide) wq1_42 rfl dX2_becomeBeside_7 ?_
  refine lv_aload_n X.1 X.2.1 dX2_becomeBeside_10 rfl (lv_at hl 2 rfl) ?_
  refine wm_get X hP hlt4 hE4 rfl wm_inX2 1 (by decide) wq1_42 rfl dX2_becomeBeside_11 ?_
  refine wm_iadd (x := c2) (y := c3) X dX2_becomeBeside_14 ?_
  refine wm_put (v := .int (nI (c2 + c3))) X hP hS hlt0 hE0 rfl wm_inX2 tyX2 tyX2_ok nmX2 1 (by decide) wq1_42 rfl rfl rfl (fs1 := [.ref (b + tg), .int (nI (c2 + c3)), .int (nI s2), .int (nI e2)]) rfl (Nat.le_of_ble_eq_true rfl) dX2_becomeBeside_15 (fun H locs E2 hP hS hE0 hq => ?_)
  have hE1 := (hq tg (by omega)).trans hE1
  have hE2 := (hq t2 (by omega)).trans hE2
  have hE3 := (hq tg2 (by omega)).trans hE3
  have hE4 := (hq t3 (by omega)).trans hE4
  have hE5 := (hq tg3 (by omega)).trans hE5
  have hfr : ∀ j, j ≠ t → j ≠ tg → E2 j = E j := fun j h0 h1 => (hq j h0).trans (hfr j h0 h1)
  refine lv_aload_n X.1 X.2.1 dX2_becomeBeside_18 rfl (lv_at hl 0 rfl) ?_
  refine lv_dup X.1 X.2.1 dX2_becomeBeside_19 rfl ?_
  refine wm_get X hP hlt0 hE0 rfl wm_inX2 2 (by decide) wq1_45 rfl dX2_becomeBeside_20 ?_
  refine lv_aload_n X.1 X.2.1 dX2_becomeBeside_23 rfl (lv_at hl 2 rfl) ?_
  refine wm_get X hP hlt4 hE4 rfl wm_inX2 2 (by decide) wq1_45 rfl dX2_becomeBeside_24 ?_
  refine lv_aload_n X.1 X.2.1 dX2_becomeBeside_27 rfl (lv_at hl 1 rfl) ?_
  refine wm_get X hP hlt2 hE2 rfl wm_inX2 1 (by decide) wq1_42 rfl dX2_becomeBeside_28 ?_
  refine wm_ishl (x := s3) (y := c2) X (by omega) dX2_becomeBeside_31 ?_
  refine wm_ior (x := s2) (y := (s3 <<< c2)) X dX2_becomeBeside_32 ?_
  refine wm_put (v := .int (nI (s2 ||| (s3 <<< c2)))) X hP hS hlt0 hE0 rfl wm_inX2 tyX2 tyX2_ok nmX2 2 (by decide) wq1_45 rfl rfl rfl (fs1 := [.ref (b + tg), .int (nI (c2 + c3)), .int (nI (s2 ||| (s3 <<< c2))), .int (nI e2)]) rfl (Nat.le_of_ble_eq_true rfl) dX2_becomeBeside_33 (fun H locs E3 hP hS hE0 hq => ?_)
  have hE1 := (hq tg (by omega)).trans hE1
  have hE2 := (hq t2 (by omega)).trans hE2
  have hE3 := (hq tg2 (by omega)).trans hE3
  have hE4 := (hq t3 (by omega)).trans hE4
  have hE5 := (hq tg3 (by omega)).trans hE5
  have hfr : ∀ j, j ≠ t → j ≠ tg → E3 j = E j := fun j h0 h1 => (hq j h0).trans (hfr j h0 h1)
  refine lv_aload_n X.1 X.2.1 dX2_becomeBeside_36 rfl (lv_at hl 0 rfl) ?_
  refine lv_dup X.1 X.2.1 dX2_becomeBeside_37 rfl ?_
  refine wm_get X hP hlt0 hE0 rfl wm_inX2 3 (by decide) wq1_50 rfl dX2_becomeBeside_38 ?_
  refine lv_aload_n X.1 X.2.1 dX2_becomeBeside_41 rfl (lv_at hl 2 rfl) ?_
  refine wm_get X hP hlt4 hE4 rfl wm_inX2 3 (by decide) wq1_50 rfl dX2_becomeBeside_42 ?_
  refine lv_aload_n X.1 X.2.1 dX2_becomeBeside_45 rfl (lv_at hl 1 rfl) ?_
  refine wm_get X hP hlt2 hE2 rfl wm_inX2 1 (by decide) wq1_42 rfl dX2_becomeBeside_46 ?_
  refine wm_ishl (x := e3) (y := c2) X (by omega) dX2_becomeBeside_49 ?_
  refine wm_ior (x := e2) (y := (e3 <<< c2)) X dX2_becomeBeside_50 ?_
  refine wm_put (v := .int (nI (e2 ||| (e3 <<< c2)))) X hP hS hlt0 hE0 rfl wm_inX2 tyX2 tyX2_ok nmX2 3 (by decide) wq1_50 rfl rfl rfl (fs1 := [.ref (b + tg), .int (nI (c2 + c3)), .int (nI (s2 ||| (s3 <<< c2))), .int (nI (e2 ||| (e3 <<< c2)))]) rfl (Nat.le_of_ble_eq_true rfl) dX2_becomeBeside_51 (fun H locs E4 hP hS hE0 hq => ?_)
  have hE1 := (hq tg (by omega)).trans hE1
  have hE2 := (hq t2 (by omega)).trans hE2
  have hE3 := (hq tg2 (by omega)).trans hE3
  have hE4 := (hq t3 (by omega)).trans hE4
  have hE5 := (hq tg3 (by omega)).trans hE5
  have hfr : ∀ j, j ≠ t → j ≠ tg → E4 j = E j := fun j h0 h1 => (hq j h0).trans (hfr j h0 h1)
  refine lv_iconst (v := nI 0) X.1 X.2.1 dX2_becomeBeside_54 (by decide) ?_
  refine lv_istore_n (lv' := [(3, .int (nI 0)), (0, .ref (b + t)), (1, .ref (b + t2)), (2, .ref (b + t3))]) X.1 X.2.1 dX2_becomeBeside_55 rfl hl (by decide) rfl (fun ls hl => ?_)
  have L56 : ∀ (fu : Nat) (L : Nat) (g1 : Nat → Nat), 8 - L < fu → (L ≤ 8) → (wm_bb c2 c3 L 0 g2 g3 g1) → ∀ (E5 : Nat → va_E) (H : Heap) (locs : List Loc) (ls : Array Slot), wm_P D b n E5 H → wm_S b s.heap H locs → E5 t = .inr (2, [.ref (b + tg), .int (nI (c2 + c3)), .int (nI (s2 ||| (s3 <<< c2))), .int (nI (e2 ||| (e3 <<< c2)))]) → E5 tg = wm_I C 192 g1 → E5 t2 = .inr (2, [.ref (b + tg2), .int (nI c2), .int (nI s2), .int (nI e2)]) → E5 tg2 = wm_I C 192 g2 → E5 t3 = .inr (2, [.ref (b + tg3), .int (nI c3), .int (nI s3), .int (nI e3)]) → E5 tg3 = wm_I C 192 g3 → (∀ j, j ≠ t → j ≠ tg → E5 j = E j) → lv_has ls 5 [(0, .ref (b + t)), (1, .ref (b + t2)), (2, .ref (b + t3)), (3, .int (nI L))] → W p l e R s m args below meth c H locs 0 0 Q (F0 m 56 ls []) := by
    intro fu
    induction fu with
    | zero => intro L g1 hm; exact absurd hm (Nat.not_lt_zero _)
    | succ fu ih56 =>
      intro L g1 hm hL h1 E5 H locs ls hP hS hE0 hE1 hE2 hE3 hE4 hE5 hfr hl
      refine lv_iload_n X.1 X.2.1 dX2_becomeBeside_56 rfl (lv_at hl 3 rfl) ?_
      refine lv_bipush (v := nI 8) X.1 X.2.1 dX2_becomeBeside_57 (by decide) ?_
      refine wm_icmp_ge (x := L) (y := 8) (tgt := 110) X (by omega) (by decide) dX2_becomeBeside_59 (by decide) (fun hc59 => ?_) (fun hc59 => ?_)
      · exact wm_vret (post := pX2_becomeBeside C b E t tg cn st en t2 tg2 c2 s2 e2 t3 tg3 c3 s3 e3 g g2 g3) X hr hP hS ⟨g1, hE0, hE1, hfr, (show wm_bb c2 c3 8 0 g2 g3 g1 from (show L = 8 from by omega) ▸ h1)⟩ hQ dX2_becomeBeside_110
      · refine lv_iconst (v := nI 0) X.1 X.2.1 dX2_becomeBeside_62 (by decide) ?_
        refine lv_istore (lv' := [(4, .int (nI 0)), (0, .ref (b + t)), (1, .ref (b + t2)), (2, .ref (b + t3)), (3, .int (nI L))]) X.1 X.2.1 dX2_becomeBeside_63 hl (by decide) rfl (fun ls hl => ?_)
        have L65 : ∀ (fu : Nat) (F : Nat) (g4 : Nat → Nat), c3 - F < fu → (F ≤ c3) → (wm_bb c2 c3 L F g2 g3 g4) → ∀ (E7 : Nat → va_E) (H : Heap) (locs : List Loc) (ls : Array Slot), wm_P D b n E7 H → wm_S b s.heap H locs → E7 t = .inr (2, [.ref (b + tg), .int (nI (c2 + c3)), .int (nI (s2 ||| (s3 <<< c2))), .int (nI (e2 ||| (e3 <<< c2)))]) → E7 tg = wm_I C 192 g4 → E7 t2 = .inr (2, [.ref (b + tg2), .int (nI c2), .int (nI s2), .int (nI e2)]) → E7 tg2 = wm_I C 192 g2 → E7 t3 = .inr (2, [.ref (b + tg3), .int (nI c3), .int (nI s3), .int (nI e3)]) → E7 tg3 = wm_I C 192 g3 → (∀ j, j ≠ t → j ≠ tg → E7 j = E j) → lv_has ls 5 [(0, .ref (b + t)), (1, .ref (b + t2)), (2, .ref (b + t3)), (3, .int (nI L)), (4, .int (nI F))] → W p l e R s m args below meth c H locs 0 0 Q (F0 m 65 ls []) := by
          intro fu
          induction fu with
          | zero => intro F g4 hm; exact absurd hm (Nat.not_lt_zero _)
          | succ fu ih65 =>
            intro F g4 hm hF h2 E7 H locs ls hP hS hE0 hE1 hE2 hE3 hE4 hE5 hfr hl
            refine lv_iload X.1 X.2.1 dX2_becomeBeside_65 (lv_at hl 4 rfl) ?_
            refine lv_aload_n X.1 X.2.1 dX2_becomeBeside_67 rfl (lv_at hl 2 rfl) ?_
            refine wm_get X hP hlt4 hE4 rfl wm_inX2 1 (by decide) wq1_42 rfl dX2_becomeBeside_68 ?_
            refine wm_icmp_ge (x := F) (y := c3) (tgt := 104) X (by omega) (by omega) dX2_becomeBeside_71 (by decide) (fun hc71 => ?_) (fun hc71 => ?_)
            · refine lv_iinc (v := nI (L + 1)) (lv' := [(3, .int (nI (L + 1))), (0, .ref (b + t)), (1, .ref (b + t2)), (2, .ref (b + t3)), (4, .int (nI F))]) X.1 X.2.1 dX2_becomeBeside_104 hl (k := 3) rfl (wm_inc L) (by decide) rfl (fun ls hl => ?_)
              refine lv_goto (tgt := 56) X.1 X.2.1 dX2_becomeBeside_107 (by decide) ?_
              exact ih56 (L + 1) g4 (by omega) (by omega) (wm_bbL h2 hc71) E7 _ _ _ hP hS hE0 hE1 hE2 hE3 hE4 hE5 hfr (lv_sub hl [1, 2, 3, 0] rfl)
            · refine lv_aload_n X.1 X.2.1 dX2_becomeBeside_74 rfl (lv_at hl 0 rfl) ?_
              refine lv_aload_n X.1 X.2.1 dX2_becomeBeside_75 rfl (lv_at hl 1 rfl) ?_
              refine wm_get X hP hlt2 hE2 rfl wm_inX2 1 (by decide) wq1_42 rfl dX2_becomeBeside_76 ?_
              refine lv_iload X.1 X.2.1 dX2_becomeBeside_79 (lv_at hl 4 rfl) ?_
              refine wm_iadd (x := c2) (y := F) X dX2_becomeBeside_81 ?_
              refine lv_iload_n X.1 X.2.1 dX2_becomeBeside_82 rfl (lv_at hl 3 rfl) ?_
              refine lv_aload_n X.1 X.2.1 dX2_becomeBeside_83 rfl (lv_at hl 2 rfl) ?_
              refine lv_iload X.1 X.2.1 dX2_becomeBeside_84 (lv_at hl 4 rfl) ?_
              refine lv_iload_n X.1 X.2.1 dX2_becomeBeside_86 rfl (lv_at hl 3 rfl) ?_
              refine wm_callVi (k := 2) (As := [.int (nI F), .int (nI L)]) (rest := [.int (nI L), .int (nI (c2 + F)), .ref (b + t)]) X hP hS hlt4 hE4 rfl (kX2_goalsOf l D C b n E7 t3 tg3 c3 s3 e3 F L g3 hlt4 hE4 hlt5 hE5 (by omega)) wq3_40 wq3_9 wq3_10 wq1_2 wq3_11 (by decide) (by rw [hRe]; exact ⟨Nat.le_of_ble_eq_true rfl, Nat.le_of_ble_eq_true rfl⟩) rfl hl.1 rfl (Nat.le_of_ble_eq_true rfl) (Nat.zero_le _) (Nat.zero_le _) dX2_becomeBeside_87 (fun r9 E9 H locs hw hP hS => ?_)
              obtain ⟨hrt, hEe⟩ := hw
              subst hrt
              subst hEe
              refine lv_aload_n X.1 X.2.1 dX2_becomeBeside_90 rfl (lv_at hl 1 rfl) ?_
              refine wm_get X hP hlt2 hE2 rfl wm_inX2 1 (by decide) wq1_42 rfl dX2_becomeBeside_91 ?_
              refine wm_ishl (x := (g3 (L * 24 + F))) (y := c2) X (by omega) dX2_becomeBeside_94 ?_
              refine wm_callVv (k := 3) (As := [.int (nI (c2 + F)), .int (nI L), .int (nI ((g3 (L * 24 + F)) <<< c2))]) (rest := []) X hP hS hlt0 hE0 rfl (kX2_putGoals l D C b n E7 t tg (c2 + c3) (s2 ||| (s3 <<< c2)) (e2 ||| (e3 <<< c2)) (c2 + F) L ((g3 (L * 24 + F)) <<< c2) g4 hlt0 hE0 hlt1 hE1 (by omega) (by omega)) wq3_47 wq2_213 wq2_214 wq1_2 wq2_215 (by decide) (by rw [hRe]; exact ⟨Nat.le_of_ble_eq_true rfl, Nat.le_of_ble_eq_true rfl⟩) rfl hl.1 rfl (Nat.le_of_ble_eq_true rfl) (Nat.zero_le _) (Nat.zero_le _) dX2_becomeBeside_95 (fun E10 H locs hw hP hS => ?_)
              obtain ⟨hE1, hq⟩ := hw
              have hE0 := (hq t (by omega)).trans hE0
              have hE2 := (hq t2 (by omega)).trans hE2
              have hE3 := (hq tg2 (by omega)).trans hE3
              have hE4 := (hq t3 (by omega)).trans hE4
              have hE5 := (hq tg3 (by omega)).trans hE5
              have hfr : ∀ j, j ≠ t → j ≠ tg → E10 j = E j := fun j h0 h1 => (hq j h1).trans (hfr j h0 h1)
              refine lv_iinc (v := nI (F + 1)) (lv' := [(4, .int (nI (F + 1))), (0, .ref (b + t)), (1, .ref (b + t2)), (2, .ref (b + t3)), (3, .int (nI L))]) X.1 X.2.1 dX2_becomeBeside_98 hl (k := 4) rfl (wm_inc F) (by decide) rfl (fun ls hl => ?_)
              refine lv_goto (tgt := 65) X.1 X.2.1 dX2_becomeBeside_101 (by decide) ?_
              exact ih65 (F + 1) (va_up g4 (L * 24 + (c2 + F)) ((g3 (L * 24 + F)) <<< c2)) (by omega) (by omega) (wm_bb1 h2 hc71 hc) E10 _ _ _ hP hS hE0 hE1 hE2 hE3 hE4 hE5 hfr (lv_sub hl [1, 2, 3, 4, 0] rfl)
        exact L65 (c3 - 0 + 1) 0 g1 (Nat.lt_succ_self _) (by omega) h1 E5 _ _ _ hP hS hE0 hE1 hE2 hE3 hE4 hE5 hfr (lv_sub hl [1, 2, 3, 4, 0] rfl)
  exact L56 (8 - 0 + 1) 0 g11 (Nat.lt_succ_self _) (by omega) (wm_bb0 hp1_0) E4 _ _ _ hP hS hE0 hE1 hE2 hE3 hE4 hE5 hfr (lv_sub hl [1, 2, 3, 0] rfl)
def pX2_pairArcs (C : Nat → ClassId) (b : Nat) (E : Nat → va_E) (t tg cn st en t2 tg2 c2 s2 e2 t3 tg3 c3 s3 e3 xa ya : Nat) (g g2 g3 : Nat → Nat) : (Nat → va_E) → Prop := fun E' => ∃ (g1 : Nat → Nat), E' tg = wm_I C 192 g1 ∧ (∀ j, j ≠ tg → E' j = E j) ∧ wm_pa c2 c3 xa ya 8 g2 g3 g g1
set_option maxHeartbeats 4000000 in
set_option maxRecDepth 100000 in
theorem kX2_pairArcs (l : Launch) (D : va_G) (C : Nat → ClassId) (b n : Nat) (E : Nat → va_E) (t tg cn st en t2 tg2 c2 s2 e2 t3 tg3 c3 s3 e3 xa ya : Nat) (g g2 g3 : Nat → Nat) (hlt0 : t < n) (hE0 : E t = .inr (2, [.ref (b + tg), .int (nI cn), .int (nI st), .int (nI en)])) (hlt1 : tg < n) (hE1 : E tg = wm_I C 192 g) (hlt2 : t2 < n) (hE2 : E t2 = .inr (2, [.ref (b + tg2), .int (nI c2), .int (nI s2), .int (nI e2)])) (hlt3 : tg2 < n) (hE3 : E tg2 = wm_I C 192 g2) (hlt4 : t3 < n) (hE4 : E t3 = .inr (2, [.ref (b + tg3), .int (nI c3), .int (nI s3), .int (nI e3)])) (hlt5 : tg3 < n) (hE5 : E tg3 = wm_I C 192 g3) (n1 : t ≠ tg) (n2 : t ≠ t2) (n3 : t ≠ tg2) (n4 : tg ≠ t2) (n5 : tg ≠ tg2) (n6 : t ≠ t3) (n7 : t ≠ tg3) (n8 : tg ≠ t3) (n9 : tg ≠ tg3) (hx : xa < c2) (hy : ya < c3) (hc : c2 * c3 ≤ 24) (hc2 : c2 ≤ 24) (hc3 : c3 ≤ 24) (hg : ∀ a x, a < 8 → x < c2 → g2 (a * 24 + x) < 2 ^ 32) : Met l yX2_pairArcs (wm_ws yX2_pairArcs cX2_pairArcs 7 none) { frames := 2, cells := 0, slots := 0, locals := 46 } (va_Pc [.ref (b + t), .ref (b + t2), .int (nI xa), .ref (b + t3), .int (nI ya)] (wm_G D C b n E)) (va_Qv (pX2_pairArcs C b E t tg cn st en t2 tg2 c2 s2 e2 t3 tg3 c3 s3 e3 xa ya g g2 g3) (fun E' t => wm_P D b n E' t.heap) (wm_A b)) 0 0 (wm_A b) := by
  refine wm_ofW (by decide) (Nat.le_of_ble_eq_true rfl) (fun p e s m below meth c ls R args Q hRe hQ X hr hnm hP hS hl => ?_)
  have hl : lv_has ls 7 [(0, .ref (b + t)), (1, .ref (b + t2)), (2, .int (nI xa)), (3, .ref (b + t3)), (4, .int (nI ya))] := hl
  have hfr : ∀ j, j ≠ tg → E j = E j := fun _ _ => rfl
  have hix := wm_idx hx hy
  refine lv_iconst (v := nI 0) X.1 X.2.1 dX2_pairArcs_0 (by decide) ?_
  refine lv_istore (lv' := [(5, .int (nI 0)), (0, .ref (b + t)), (1, .ref (b + t2)), (2, .int (nI xa)), (3, .ref (b + t3)), (4, .int (nI ya))]) X.1 X.2.1 dX2_pairArcs_1 hl (by decide) rfl (fun ls hl => ?_)
  have L3 : ∀ (fu : Nat) (L : Nat) (g1 : Nat → Nat), 8 - L < fu → (L ≤ 8) → (wm_pa c2 c3 xa ya L g2 g3 g g1) → ∀ (E1 : Nat → va_E) (H : Heap) (locs : List Loc) (ls : Array Slot), wm_P D b n E1 H → wm_S b s.heap H locs → E1 t = .inr (2, [.ref (b + tg), .int (nI cn), .int (nI st), .int (nI en)]) → E1 tg = wm_I C 192 g1 → E1 t2 = .inr (2, [.ref (b + tg2), .int (nI c2), .int (nI s2), .int (nI e2)]) → E1 tg2 = wm_I C 192 g2 → E1 t3 = .inr (2, [.ref (b + tg3), .int (nI c3), .int (nI s3), .int (nI e3)]) → E1 tg3 = wm_I C 192 g3 → (∀ j, j ≠ tg → E1 j = E j) → lv_has ls 7 [(0, .ref (b + t)), (1, .ref (b + t2)), (2, .int (nI xa)), (3, .ref (b + t3)), (4, .int (nI ya)), (5, .int (nI L))] → W p l e R s m args below meth c H locs 0 0 Q (F0 m 3 ls []) := by
    intro fu
    induction fu with
    | zero => intro L g1 hm; exact absurd hm (Nat.not_lt_zero _)
    | succ fu ih3 =>
      intro L g1 hm hL h1 E1 H locs ls hP hS hE0 hE1 hE2 hE3 hE4 hE5 hfr hl
      refine lv_iload X.1 X.2.1 dX2_pairArcs_3 (lv_at hl 5 rfl) ?_
      refine lv_bipush (v := nI 8) X.1 X.2.1 dX2_pairArcs_5 (by decide) ?_
      refine wm_icmp_ge (x := L) (y := 8) (tgt := 55) X (by omega) (by decide) dX2_pairArcs_7 (by decide) (fun hc7 => ?_) (fun hc7 => ?_)
      · exact wm_vret (post := pX2_pairArcs C b E t tg cn st en t2 tg2 c2 s2 e2 t3 tg3 c3 s3 e3 xa ya g g2 g3) X hr hP hS ⟨g1, hE1, hfr, (show wm_pa c2 c3 xa ya 8 g2 g3 g g1 from (show L = 8 from by omega) ▸ h1)⟩ hQ dX2_pairArcs_55
      · refine lv_aload_n X.1 X.2.1 dX2_pairArcs_10 rfl (lv_at hl 1 rfl) ?_
        refine lv_aload_n X.1 X.2.1 dX2_pairArcs_11 rfl (lv_at hl 1 rfl) ?_
        refine lv_iload_n X.1 X.2.1 dX2_pairArcs_12 rfl (lv_at hl 2 rfl) ?_
        refine lv_iload X.1 X.2.1 dX2_pairArcs_13 (lv_at hl 5 rfl) ?_
        refine wm_callVi (k := 2) (As := [.int (nI xa), .int (nI L)]) (rest := [.ref (b + t2)]) X hP hS hlt2 hE2 rfl (kX2_goalsOf l D C b n E1 t2 tg2 c2 s2 e2 xa L g2 hlt2 hE2 hlt3 hE3 (by omega)) wq3_40 wq3_9 wq3_10 wq1_2 wq3_11 (by decide) (by rw [hRe]; exact ⟨Nat.le_of_ble_eq_true rfl, Nat.le_of_ble_eq_true rfl⟩) rfl hl.1 rfl (Nat.le_of_ble_eq_true rfl) (Nat.zero_le _) (Nat.zero_le _) dX2_pairArcs_15 (fun r3 E3 H locs hw hP hS => ?_)
        obtain ⟨hrt, hEe⟩ := hw
        subst hrt
        subst hEe
        refine lv_aload_n X.1 X.2.1 dX2_pairArcs_18 rfl (lv_at hl 3 rfl) ?_
        refine lv_aload_n X.1 X.2.1 dX2_pairArcs_19 rfl (lv_at hl 3 rfl) ?_
        refine lv_iload X.1 X.2.1 dX2_pairArcs_20 (lv_at hl 4 rfl) ?_
        refine lv_iload X.1 X.2.1 dX2_pairArcs_22 (lv_at hl 5 rfl) ?_
        refine wm_callVi (k := 2) (As := [.int (nI ya), .int (nI L)]) (rest := [.ref (b + t3), .int (nI (g2 (L * 24 + xa))), .ref (b + t2)]) X hP hS hlt4 hE4 rfl (kX2_goalsOf l D C b n E1 t3 tg3 c3 s3 e3 ya L g3 hlt4 hE4 hlt5 hE5 (by omega)) wq3_40 wq3_9 wq3_10 wq1_2 wq3_11 (by decide) (by rw [hRe]; exact ⟨Nat.le_of_ble_eq_true rfl, Nat.le_of_ble_eq_true rfl⟩) rfl hl.1 rfl (Nat.le_of_ble_eq_true rfl) (Nat.zero_le _) (Nat.zero_le _) dX2_pairArcs_24 (fun r4 E4 H locs hw hP hS => ?_)
        obtain ⟨hrt, hEe⟩ := hw
        subst hrt
        subst hEe
        refine wm_callSi (k := 4) (As := [.ref (b + t2), .int (nI (g2 (L * 24 + xa))), .ref (b + t3), .int (nI (g3 (L * 24 + ya)))]) (rest := []) X hP hS  (kX2_pairs l D C b n E1 t2 t3 (g2 (L * 24 + xa)) (g3 (L * 24 + ya)) c2 c3 tg2 tg3 s2 s3 e2 e3 hlt2 hE2 hlt4 hE4 hc (by omega) (hg L xa hc7 hx)) wq3_78 wq3_79 wq1_2 wq3_80 (by decide) (by rw [hRe]; exact ⟨Nat.le_of_ble_eq_true rfl, Nat.le_of_ble_eq_true rfl⟩) rfl hl.1 rfl (Nat.le_of_ble_eq_true rfl) (Nat.zero_le _) (Nat.zero_le _) dX2_pairArcs_27 (fun r5 E5 H locs hw hP hS => ?_)
        obtain ⟨hrt, hEe⟩ := hw
        subst hrt
        subst hEe
        refine lv_istore (lv' := [(6, .int (nI (wm_pr (g2 (L * 24 + xa)) (g3 (L * 24 + ya)) c2 c3))), (0, .ref (b + t)), (1, .ref (b + t2)), (2, .int (nI xa)), (3, .ref (b + t3)), (4, .int (nI ya)), (5, .int (nI L))]) X.1 X.2.1 dX2_pairArcs_30 hl (by decide) rfl (fun ls hl => ?_)
        refine lv_aload_n X.1 X.2.1 dX2_pairArcs_32 rfl (lv_at hl 1 rfl) ?_
        refine lv_iload_n X.1 X.2.1 dX2_pairArcs_33 rfl (lv_at hl 3 rfl) ?_
        refine lv_aload_n X.1 X.2.1 dX2_pairArcs_34 rfl (lv_at hl 4 rfl) ?_
        refine wm_get X hP hlt4 hE4 rfl wm_inX2 1 (by decide) wq1_42 rfl dX2_pairArcs_35 ?_
        refine wm_imul (x := xa) (y := c3) X dX2_pairArcs_38 ?_
        refine lv_iload X.1 X.2.1 dX2_pairArcs_39 (lv_at hl 5 rfl) ?_
        refine wm_iadd (x := (xa * c3)) (y := ya) X dX2_pairArcs_41 ?_
        refine lv_iload X.1 X.2.1 dX2_pairArcs_42 (lv_at hl 6 rfl) ?_
        refine lv_iload X.1 X.2.1 dX2_pairArcs_44 (lv_at hl 0 rfl) ?_
        refine wm_callVv (k := 3) (As := [.int (nI ((xa * c3) + ya)), .int (nI L), .int (nI (wm_pr (g2 (L * 24 + xa)) (g3 (L * 24 + ya)) c2 c3))]) (rest := []) X hP hS hlt0 hE0 rfl (kX2_putGoals l D C b n E1 t tg cn st en ((xa * c3) + ya) L (wm_pr (g2 (L * 24 + xa)) (g3 (L * 24 + ya)) c2 c3) g1 hlt0 hE0 hlt1 hE1 (by omega) (by omega)) wq3_47 wq2_213 wq2_214 wq1_2 wq2_215 (by decide) (by rw [hRe]; exact ⟨Nat.le_of_ble_eq_true rfl, Nat.le_of_ble_eq_true rfl⟩) rfl hl.1 rfl (Nat.le_of_ble_eq_true rfl) (Nat.zero_le _) (Nat.zero_le _) dX2_pairArcs_46 (fun E6 H locs hw hP hS => ?_)
        obtain ⟨hE1, hq⟩ := hw
        have hE0 := (hq t (by omega)).trans hE0
        have hE2 := (hq t2 (by omega)).trans hE2
        have hE3 := (hq tg2 (by omega)).trans hE3
        have hE4 := (hq t3 (by omega)).trans hE4
        have hE5 := (hq tg3 (by omega)).trans hE5
        have hfr : ∀ j, j ≠ tg → E6 j = E j := fun j h0 => (hq j h0).trans (hfr j h0)
        refine lv_iinc (v := nI (L + 1)) (lv' := [(5, .int (nI (L + 1))), (6, .int (nI (wm_pr (g2 (L * 24 + xa)) (g3 (L * 24 + ya)) c2 c3))), (0, .ref (b + t)), (1, .ref (b + t2)), (2, .int (nI xa)), (3, .ref (b + t3)), (4, .int (nI ya))]) X.1 X.2.1 dX2_pairArcs_49 hl (k := 6) rfl (wm_inc L) (by decide) rfl (fun ls hl => ?_)
        refine lv_goto (tgt := 3) X.1 X.2.1 dX2_pairArcs_52 (by decide) ?_
        exact ih3 (L + 1) (va_up g1 (L * 24 + ((xa * c3) + ya)) (wm_pr (g2 (L * 24 + xa)) (g3 (L * 24 + ya)) c2 c3)) (by omega) (by omega) (wm_pa1 h1) E6 _ _ _ hP hS hE0 hE1 hE2 hE3 hE4 hE5 hfr (lv_sub hl [2, 3, 4, 5, 6, 0] rfl)
  exact L3 (8 - 0 + 1) 0 g (Nat.lt_succ_self _) (by omega) wm_pa0 E _ _ _ hP hS hE0 hE1 hE2 hE3 hE4 hE5 hfr (lv_sub hl [1, 2, 3, 4, 5, 0] rfl)
def pX2_becomePairs (C : Nat → ClassId) (b : Nat) (E : Nat → va_E) (t tg cn st en t2 tg2 c2 s2 e2 t3 tg3 c3 s3 e3 : Nat) (g g2 g3 : Nat → Nat) : (Nat → va_E) → Prop := fun E' => ∃ (g1 : Nat → Nat), E' t = .inr (2, [.ref (b + tg), .int (nI (c2 * c3)), .int (nI (wm_pr s2 s3 c2 c3)), .int (nI (wm_pr e2 e3 c2 c3))]) ∧ E' tg = wm_I C 192 g1 ∧ (∀ j, j ≠ t → j ≠ tg → E' j = E j) ∧ wm_bp c2 c3 c2 0 g2 g3 g1
set_option maxHeartbeats 4000000 in
set_option maxRecDepth 100000 in
theorem kX2_becomePairs (l : Launch) (D : va_G) (C : Nat → ClassId) (b n : Nat) (E : Nat → va_E) (t tg cn st en t2 tg2 c2 s2 e2 t3 tg3 c3 s3 e3 : Nat) (g g2 g3 : Nat → Nat) (hlt0 : t < n) (hE0 : E t = .inr (2, [.ref (b + tg), .int (nI cn), .int (nI st), .int (nI en)])) (hlt1 : tg < n) (hE1 : E tg = wm_I C 192 g) (hlt2 : t2 < n) (hE2 : E t2 = .inr (2, [.ref (b + tg2), .int (nI c2), .int (nI s2), .int (nI e2)])) (hlt3 : tg2 < n) (hE3 : E tg2 = wm_I C 192 g2) (hlt4 : t3 < n) (hE4 : E t3 = .inr (2, [.ref (b + tg3), .int (nI c3), .int (nI s3), .int (nI e3)])) (hlt5 : tg3 < n) (hE5 : E tg3 = wm_I C 192 g3) (n1 : t ≠ tg) (n2 : t ≠ t2) (n3 : t ≠ tg2) (n4 : tg ≠ t2) (n5 : tg ≠ tg2) (n6 : t ≠ t3) (n7 : t ≠ tg3) (n8 : tg ≠ t3) (n9 : tg ≠ tg3) (hc : c2 * c3 ≤ 24) (hc2 : c2 ≤ 24) (hc3 : c3 ≤ 24) (hs2 : s2 < 2 ^ 32) (he2 : e2 < 2 ^ 32) (hg : ∀ a x, a < 8 → x < c2 → g2 (a * 24 + x) < 2 ^ 32) : Met l yX2_becomePairs (wm_ws yX2_becomePairs cX2_becomePairs 5 none) { frames := 3, cells := 0, slots := 0, locals := 72 } (va_Pc [.ref (b + t), .ref (b + t2), .ref (b + t3)] (wm_G D C b n E)) (va_Qv (pX2_becomePairs C b E t tg cn st en t2 tg2 c2 s2 e2 t3 tg3 c3 s3 e3 g g2 g3) (fun E' t => wm_P D b n E' t.heap) (wm_A b)) 0 0 (wm_A b) := by
  refine wm_ofW (by decide) (Nat.le_of_ble_eq_true rfl) (fun p e s m below meth c ls R args Q hRe hQ X hr hnm hP hS hl => ?_)
  have hl : lv_has ls 5 [(0, .ref (b + t)), (1, .ref (b + t2)), (2, .ref (b + t3))] := hl
  have hfr : ∀ j, j ≠ t → j ≠ tg → E j = E j := fun _ _ _ => rfl
  refine lv_aload_n X.1 X.2.1 dX2_becomePairs_0 rfl (lv_at hl 0 rfl) ?_
  refine lv_aload_n X.1 X.2.1 dX2_becomePairs_1 rfl (lv_at hl 1 rfl) ?_
  refine wm_get X hP hlt2 hE2 rfl wm_inX2 1 (by decide) wq1_42 rfl dX2_becomePairs_2 ?_
  refine lv_aload_n X.1 X.2.1 dX2_becomePairs_5 rfl (lv_at hl 2 rfl) ?_
  refine wm_get X hP hlt4 hE4 rfl wm_inX2 1 (by decide) wq1_42 rfl dX2_becomePairs_6 ?_
  refine wm_imul (x := c2) (y := c3) X dX2_becomePairs_9 ?_
  refine wm_callVv (k := 1) (As := [.int (nI (c2 * c3))]) (rest := []) X hP hS hlt0 hE0 rfl (kX2_clear l D C b n E t tg cn st en (c2 * c3) g hlt0 hE0 hlt1 hE1 (by omega)) wq3_39 wq2_199 wq2_200 wq1_2 wq2_201 (by decide) (by rw [hRe]; exact ⟨Nat.le_of_ble_eq_true rfl, Nat.le_of_ble_eq_true rfl⟩) rfl hl.1 rfl (Nat.le_of_ble_eq_true rfl) (Nat.zero_le _) (Nat.zero_le _) dX2_becomePairs_10 (fun E1 H locs hw hP hS => ?_)
  obtain ⟨g11, hE0, hE1, hq, hp1_0⟩ := hw
  have hE2 := (hq t2 (by omega) (by omega)).trans hE2
  have hE3 := (hq tg2 (by omega) (by omega)).trans hE3
  have hE4 := (hq t3 (by omega) (by omega)).trans hE4
  have hE5 := (hq tg3 (by omega) (by omega)).trans hE5
  have hfr : ∀ j, j ≠ t → j ≠ tg → E1 j = E j := fun j h0 h1 => (hq j h0 h1).trans (hfr j h0 h1)
  refine lv_aload_n X.1 X.2.1 dX2_becomePairs_13 rfl (lv_at hl 0 rfl) ?_
  refine lv_aload_n X.1 X.2.1 dX2_becomePairs_14 rfl (lv_at hl 1 rfl) ?_
  refine lv_aload_n X.1 X.2.1 dX2_becomePairs_15 rfl (lv_at hl 1 rfl) ?_
  refine wm_get X hP hlt2 hE2 rfl wm_inX2 2 (by decide) wq1_45 rfl dX2_becomePairs_16 ?_
  refine lv_aload_n X.1 X.2.1 dX2_becomePairs_19 rfl (lv_at hl 2 rfl) ?_
  refine lv_aload_n X.1 X.2.1 dX2_becomePairs_20 rfl (lv_at hl 2 rfl) ?_
  refine wm_get X hP hlt4 hE4 rfl wm_inX2 2 (by decide) wq1_45 rfl dX2_becomePairs_21 ?_
  refine wm_callSi (k := 4) (As := [.ref (b + t2), .int (nI s2), .ref (b + t3), .int (nI s3)]) (rest := [.ref (b + t)]) X hP hS  (kX2_pairs l D C b n E1 t2 t3 s2 s3 c2 c3 tg2 tg3 s2 s3 e2 e3 hlt2 hE2 hlt4 hE4 hc (by omega) (by omega)) wq3_78 wq3_79 wq1_2 wq3_80 (by decide) (by rw [hRe]; exact ⟨Nat.le_of_ble_eq_true rfl, Nat.le_of_ble_eq_true rfl⟩) rfl hl.1 rfl (Nat.le_of_ble_eq_true rfl) (Nat.zero_le _) (Nat.zero_le _) dX2_becomePairs_24 (fun r2 E2 H locs hw hP hS => ?_)
  obtain ⟨hrt, hEe⟩ := hw
  subst hrt
  subst hEe
  refine wm_put (v := .int (nI (wm_pr s2 s3 c2 c3))) X hP hS hlt0 hE0 rfl wm_inX2 tyX2 tyX2_ok nmX2 2 (by decide) wq1_45 rfl rfl rfl (fs1 := [.ref (b + tg), .int (nI (c2 * c3)), .int (nI (wm_pr s2 s3 c2 c3)), .int (nI 0)]) rfl (Nat.le_of_ble_eq_true rfl) dX2_becomePairs_27 (fun H locs E3 hP hS hE0 hq => ?_)
  have hE1 := (hq tg (by omega)).trans hE1
  have hE2 := (hq t2 (by omega)).trans hE2
  have hE3 := (hq tg2 (by omega)).trans hE3
  have hE4 := (hq t3 (by omega)).trans hE4
  have hE5 := (hq tg3 (by omega)).trans hE5
  have hfr : ∀ j, j ≠ t → j ≠ tg → E3 j = E j := fun j h0 h1 => (hq j h0).trans (hfr j h0 h1)
  refine lv_aload_n X.1 X.2.1 dX2_becomePairs_30 rfl (lv_at hl 0 rfl) ?_
  refine lv_aload_n X.1 X.2.1 dX2_becomePairs_31 rfl (lv_at hl 1 rfl) ?_
  refine lv_aload_n X.1 X.2.1 dX2_becomePairs_32 rfl (lv_at hl 1 rfl) ?_
  refine wm_get X hP hlt2 hE2 rfl wm_inX2 3 (by decide) wq1_50 rfl dX2_becomePairs_33 ?_
  refine lv_aload_n X.1 X.2.1 dX2_becomePairs_36 rfl (lv_at hl 2 rfl) ?_
  refine lv_aload_n X.1 X.2.1 dX2_becomePairs_37 rfl (lv_at hl 2 rfl) ?_
  refine wm_get X hP hlt4 hE4 rfl wm_inX2 3 (by decide) wq1_50 rfl dX2_becomePairs_38 ?_
  refine wm_callSi (k := 4) (As := [.ref (b + t2), .int (nI e2), .ref (b + t3), .int (nI e3)]) (rest := [.ref (b + t)]) X hP hS  (kX2_pairs l D C b n E3 t2 t3 e2 e3 c2 c3 tg2 tg3 s2 s3 e2 e3 hlt2 hE2 hlt4 hE4 hc (by omega) (by omega)) wq3_78 wq3_79 wq1_2 wq3_80 (by decide) (by rw [hRe]; exact ⟨Nat.le_of_ble_eq_true rfl, Nat.le_of_ble_eq_true rfl⟩) rfl hl.1 rfl (Nat.le_of_ble_eq_true rfl) (Nat.zero_le _) (Nat.zero_le _) dX2_becomePairs_41 (fun r4 E4 H locs hw hP hS => ?_)
  obtain ⟨hrt, hEe⟩ := hw
  subst hrt
  subst hEe
  refine wm_put (v := .int (nI (wm_pr e2 e3 c2 c3))) X hP hS hlt0 hE0 rfl wm_inX2 tyX2 tyX2_ok nmX2 3 (by decide) wq1_50 rfl rfl rfl (fs1 := [.ref (b + tg), .int (nI (c2 * c3)), .int (nI (wm_pr s2 s3 c2 c3)), .int (nI (wm_pr e2 e3 c2 c3))]) rfl (Nat.le_of_ble_eq_true rfl) dX2_becomePairs_44 (fun H locs E5 hP hS hE0 hq => ?_)
  have hE1 := (hq tg (by omega)).trans hE1
  have hE2 := (hq t2 (by omega)).trans hE2
  have hE3 := (hq tg2 (by omega)).trans hE3
  have hE4 := (hq t3 (by omega)).trans hE4
  have hE5 := (hq tg3 (by omega)).trans hE5
  have hfr : ∀ j, j ≠ t → j ≠ tg → E5 j = E j := fun j h0 h1 => (hq j h0).trans (hfr j h0 h1)
  refine lv_iconst (v := nI 0) X.1 X.2.1 dX2_becomePairs_47 (by decide) ?_
  refine lv_istore_n (lv' := [(3, .int (nI 0)), (0, .ref (b + t)), (1, .ref (b + t2)), (2, .ref (b + t3))]) X.1 X.2.1 dX2_becomePairs_48 rfl hl (by decide) rfl (fun ls hl => ?_)
  have L49 : ∀ (fu : Nat) (xa : Nat) (g1 : Nat → Nat), c2 - xa < fu → (xa ≤ c2) → (wm_bp c2 c3 xa 0 g2 g3 g1) → ∀ (E6 : Nat → va_E) (H : Heap) (locs : List Loc) (ls : Array Slot), wm_P D b n E6 H → wm_S b s.heap H locs → E6 t = .inr (2, [.ref (b + tg), .int (nI (c2 * c3)), .int (nI (wm_pr s2 s3 c2 c3)), .int (nI (wm_pr e2 e3 c2 c3))]) → E6 tg = wm_I C 192 g1 → E6 t2 = .inr (2, [.ref (b + tg2), .int (nI c2), .int (nI s2), .int (nI e2)]) → E6 tg2 = wm_I C 192 g2 → E6 t3 = .inr (2, [.ref (b + tg3), .int (nI c3), .int (nI s3), .int (nI e3)]) → E6 tg3 = wm_I C 192 g3 → (∀ j, j ≠ t → j ≠ tg → E6 j = E j) → lv_has ls 5 [(0, .ref (b + t)), (1, .ref (b + t2)), (2, .ref (b + t3)), (3, .int (nI xa))] → W p l e R s m args below meth c H locs 0 0 Q (F0 m 49 ls []) := by
    intro fu
    induction fu with
    | zero => intro xa g1 hm; exact absurd hm (Nat.not_lt_zero _)
    | succ fu ih49 =>
      intro xa g1 hm hxa h1 E6 H locs ls hP hS hE0 hE1 hE2 hE3 hE4 hE5 hfr hl
      refine lv_iload_n X.1 X.2.1 dX2_becomePairs_49 rfl (lv_at hl 3 rfl) ?_
      refine lv_aload_n X.1 X.2.1 dX2_becomePairs_50 rfl (lv_at hl 1 rfl) ?_
      refine wm_get X hP hlt2 hE2 rfl wm_inX2 1 (by decide) wq1_42 rfl dX2_becomePairs_51 ?_
      refine wm_icmp_ge (x := xa) (y := c2) (tgt := 90) X (by omega) (by omega) dX2_becomePairs_54 (by decide) (fun hc54 => ?_) (fun hc54 => ?_)
      · exact wm_vret (post := pX2_becomePairs C b E t tg cn st en t2 tg2 c2 s2 e2 t3 tg3 c3 s3 e3 g g2 g3) X hr hP hS ⟨g1, hE0, hE1, hfr, (show wm_bp c2 c3 c2 0 g2 g3 g1 from (show xa = c2 from by omega) ▸ h1)⟩ hQ dX2_becomePairs_90
      · refine lv_iconst (v := nI 0) X.1 X.2.1 dX2_becomePairs_57 (by decide) ?_
        refine lv_istore (lv' := [(4, .int (nI 0)), (0, .ref (b + t)), (1, .ref (b + t2)), (2, .ref (b + t3)), (3, .int (nI xa))]) X.1 X.2.1 dX2_becomePairs_58 hl (by decide) rfl (fun ls hl => ?_)
        have L60 : ∀ (fu : Nat) (ya : Nat) (g4 : Nat → Nat), c3 - ya < fu → (ya ≤ c3) → (wm_bp c2 c3 xa ya g2 g3 g4) → ∀ (E8 : Nat → va_E) (H : Heap) (locs : List Loc) (ls : Array Slot), wm_P D b n E8 H → wm_S b s.heap H locs → E8 t = .inr (2, [.ref (b + tg), .int (nI (c2 * c3)), .int (nI (wm_pr s2 s3 c2 c3)), .int (nI (wm_pr e2 e3 c2 c3))]) → E8 tg = wm_I C 192 g4 → E8 t2 = .inr (2, [.ref (b + tg2), .int (nI c2), .int (nI s2), .int (nI e2)]) → E8 tg2 = wm_I C 192 g2 → E8 t3 = .inr (2, [.ref (b + tg3), .int (nI c3), .int (nI s3), .int (nI e3)]) → E8 tg3 = wm_I C 192 g3 → (∀ j, j ≠ t → j ≠ tg → E8 j = E j) → lv_has ls 5 [(0, .ref (b + t)), (1, .ref (b + t2)), (2, .ref (b + t3)), (3, .int (nI xa)), (4, .int (nI ya))] → W p l e R s m args below meth c H locs 0 0 Q (F0 m 60 ls []) := by
          intro fu
          induction fu with
          | zero => intro ya g4 hm; exact absurd hm (Nat.not_lt_zero _)
          | succ fu ih60 =>
            intro ya g4 hm hya h2 E8 H locs ls hP hS hE0 hE1 hE2 hE3 hE4 hE5 hfr hl
            refine lv_iload X.1 X.2.1 dX2_becomePairs_60 (lv_at hl 4 rfl) ?_
            refine lv_aload_n X.1 X.2.1 dX2_becomePairs_62 rfl (lv_at hl 2 rfl) ?_
            refine wm_get X hP hlt4 hE4 rfl wm_inX2 1 (by decide) wq1_42 rfl dX2_becomePairs_63 ?_
            refine wm_icmp_ge (x := ya) (y := c3) (tgt := 84) X (by omega) (by omega) dX2_becomePairs_66 (by decide) (fun hc66 => ?_) (fun hc66 => ?_)
            · refine lv_iinc (v := nI (xa + 1)) (lv' := [(3, .int (nI (xa + 1))), (0, .ref (b + t)), (1, .ref (b + t2)), (2, .ref (b + t3)), (4, .int (nI ya))]) X.1 X.2.1 dX2_becomePairs_84 hl (k := 3) rfl (wm_inc xa) (by decide) rfl (fun ls hl => ?_)
              refine lv_goto (tgt := 49) X.1 X.2.1 dX2_becomePairs_87 (by decide) ?_
              exact ih49 (xa + 1) g4 (by omega) (by omega) (wm_bpL h2 hc66) E8 _ _ _ hP hS hE0 hE1 hE2 hE3 hE4 hE5 hfr (lv_sub hl [1, 2, 3, 0] rfl)
            · refine lv_aload_n X.1 X.2.1 dX2_becomePairs_69 rfl (lv_at hl 0 rfl) ?_
              refine lv_aload_n X.1 X.2.1 dX2_becomePairs_70 rfl (lv_at hl 1 rfl) ?_
              refine lv_iload_n X.1 X.2.1 dX2_becomePairs_71 rfl (lv_at hl 3 rfl) ?_
              refine lv_aload_n X.1 X.2.1 dX2_becomePairs_72 rfl (lv_at hl 2 rfl) ?_
              refine lv_iload X.1 X.2.1 dX2_becomePairs_73 (lv_at hl 4 rfl) ?_
              refine wm_callVv (k := 4) (As := [.ref (b + t2), .int (nI xa), .ref (b + t3), .int (nI ya)]) (rest := []) X hP hS hlt0 hE0 rfl (kX2_pairArcs l D C b n E8 t tg (c2 * c3) (wm_pr s2 s3 c2 c3) (wm_pr e2 e3 c2 c3) t2 tg2 c2 s2 e2 t3 tg3 c3 s3 e3 xa ya g4 g2 g3 hlt0 hE0 hlt1 hE1 hlt2 hE2 hlt3 hE3 hlt4 hE4 hlt5 hE5 (by omega) (by omega) (by omega) (by omega) (by omega) (by omega) (by omega) (by omega) (by omega) (by omega) (by omega) hc (by omega) (by omega) hg) wq3_81 wq3_83 wqP2_2 wq1_2 wq3_84 (by decide) (by rw [hRe]; exact ⟨Nat.le_of_ble_eq_true rfl, Nat.le_of_ble_eq_true rfl⟩) rfl hl.1 rfl (Nat.le_of_ble_eq_true rfl) (Nat.zero_le _) (Nat.zero_le _) dX2_becomePairs_75 (fun E10 H locs hw hP hS => ?_)
              obtain ⟨g110, hE1, hq, hp10_0⟩ := hw
              have hE0 := (hq t (by omega)).trans hE0
              have hE2 := (hq t2 (by omega)).trans hE2
              have hE3 := (hq tg2 (by omega)).trans hE3
              have hE4 := (hq t3 (by omega)).trans hE4
              have hE5 := (hq tg3 (by omega)).trans hE5
              have hfr : ∀ j, j ≠ t → j ≠ tg → E10 j = E j := fun j h0 h1 => (hq j h1).trans (hfr j h0 h1)
              refine lv_iinc (v := nI (ya + 1)) (lv' := [(4, .int (nI (ya + 1))), (0, .ref (b + t)), (1, .ref (b + t2)), (2, .ref (b + t3)), (3, .int (nI xa))]) X.1 X.2.1 dX2_becomePairs_78 hl (k := 4) rfl (wm_inc ya) (by decide) rfl (fun ls hl => ?_)
              refine lv_goto (tgt := 60) X.1 X.2.1 dX2_becomePairs_81 (by decide) ?_
              exact ih60 (ya + 1) g110 (by omega) (by omega) (wm_bp1 h2 hc54 hc66 hc hp10_0) E10 _ _ _ hP hS hE0 hE1 hE2 hE3 hE4 hE5 hfr (lv_sub hl [1, 2, 3, 4, 0] rfl)
        exact L60 (c3 - 0 + 1) 0 g1 (Nat.lt_succ_self _) (by omega) h1 E6 _ _ _ hP hS hE0 hE1 hE2 hE3 hE4 hE5 hfr (lv_sub hl [1, 2, 3, 4, 0] rfl)
  exact L49 (c2 - 0 + 1) 0 g11 (Nat.lt_succ_self _) (by omega) wm_bp0 E5 _ _ _ hP hS hE0 hE1 hE2 hE3 hE4 hE5 hfr (lv_sub hl [1, 2, 3, 0] rfl)
