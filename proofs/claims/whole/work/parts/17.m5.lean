def pX4_addLetterToWords (C : Nat → ClassId) (b : Nat) (E : Nat → va_E) (sc tn tx : Nat) (L : List Nat) (F : Nat → Nat → Nat) (sp mt nw nx : Nat → Nat) : (Nat → va_E) → Prop := fun E' => ∃ (nx1 : Nat → Nat), E' tx = wm_J C 2048 nx1 ∧ (∀ j, j ≠ tx → E' j = E j) ∧ wm_al F L nw sc L.length 0 nx1
set_option maxHeartbeats 4000000 in
set_option maxRecDepth 100000 in
theorem kX4_addLetterToWords (l : Launch) (D : va_G) (C : Nat → ClassId) (b n : Nat) (E : Nat → va_E) (sc tn tx : Nat) (L : List Nat) (F : Nat → Nat → Nat) (sp mt nw nx : Nat → Nat) (hlt0 : 93 < n) (hE0 : E 93 = .inr (4, [.ref (b + 94), .ref (b + 95), .ref (b + 96), .ref (b + 97), .ref (b + 98), .ref (b + 99), .int (nI sc), .int (nI L.length)])) (hlt1 : 94 < n) (hE1 : E 94 = wm_I C 16384 sp) (hlt2 : 96 < n) (hE2 : E 96 = wm_I C 2048 mt) (hlt3 : tn < n) (hE3 : E tn = wm_J C 2048 nw) (hlt4 : tx < n) (hE4 : E tx = wm_J C 2048 nx) (hn : tn = 98 ∨ tn = 99) (hx : tx = 98 ∨ tx = 99) (hnx : tn ≠ tx) (hsc : sc ≤ 2048) (hLl : L.length ≤ 2048) (hmt : ∀ j, j < L.length → mt j = L.getD j 0) (hLs : ∀ j, j < L.length → L.getD j 0 < sc) (hsp : ∀ a S, a < 8 → S < sc → sp (a * 2048 + S) = F S a) (hF : ∀ a S, a < 8 → S < sc → F S a < sc) (hb : ∀ j, j < L.length → nw (L.getD j 0) < 2 ^ 63) : Met l yX4_addLetterToWords (wm_ws yX4_addLetterToWords cX4_addLetterToWords 6 none) { frames := 2, cells := 0, slots := 0, locals := 47 } (va_Pc [.ref (b + 93), .ref (b + tn), .ref (b + tx)] (wm_G D C b n E)) (va_Qv (pX4_addLetterToWords C b E sc tn tx L F sp mt nw nx) (fun E' t => wm_P D b n E' t.heap) (wm_A b)) 0 0 (wm_A b) := by
  refine wm_ofW (by decide) (Nat.le_of_ble_eq_true rfl) (fun p e s m below meth c ls R args Q hRe hQ X hr hnm hP hS hl => ?_)
  have hl : lv_has ls 6 [(0, .ref (b + 93)), (1, .ref (b + tn)), (2, .ref (b + tx))] := hl
  have hfr : ∀ j, j ≠ tx → E j = E j := fun _ _ => rfl
  refine lv_aload_n X.1 X.2.1 dX4_addLetterToWords_0 rfl (lv_at hl 2 rfl) ?_
  refine lv_iconst (v := nI 0) X.1 X.2.1 dX4_addLetterToWords_1 (by decide) ?_
  refine lv_aload_n X.1 X.2.1 dX4_addLetterToWords_2 rfl (lv_at hl 0 rfl) ?_
  refine wm_get X hP hlt0 hE0 rfl wm_inX4 6 (by decide) wq1_160 rfl dX4_addLetterToWords_3 ?_
  refine lv_lconst (v := lN 0) X.1 X.2.1 dX4_addLetterToWords_6 (by decide) ?_
  refine wm_callSv (k := 4) (As := [.ref (b + tx), .int (nI 0), .int (nI sc), .long (lN 0)]) (rest := []) X hP hS  (kJ7_fill_bad5a l D C b n E tx 2048 0 sc 0 nx hlt4 hE4 (by omega) (by omega) (by omega)) wq4_215 wq4_216 wq1_14 wq4_217 (by decide) (by rw [hRe]; exact ⟨Nat.le_of_ble_eq_true rfl, Nat.le_of_ble_eq_true rfl⟩) rfl hl.1 rfl (Nat.le_of_ble_eq_true rfl) (Nat.zero_le _) (Nat.zero_le _) dX4_addLetterToWords_7 (fun E1 H locs hw hP hS => ?_)
  obtain ⟨g1, hE4, hq, hp1_0, hp1_1⟩ := hw
  have hE0 := (hq 93 (by omega)).trans hE0
  have hE1 := (hq 94 (by omega)).trans hE1
  have hE2 := (hq 96 (by omega)).trans hE2
  have hE3 := (hq tn (by omega)).trans hE3
  have hfr : ∀ j, j ≠ tx → E1 j = E j := fun j h0 => (hq j h0).trans (hfr j h0)
  refine lv_iconst (v := nI 0) X.1 X.2.1 dX4_addLetterToWords_10 (by decide) ?_
  refine lv_istore_n (lv' := [(3, .int (nI 0)), (0, .ref (b + 93)), (1, .ref (b + tn)), (2, .ref (b + tx))]) X.1 X.2.1 dX4_addLetterToWords_11 rfl hl (by decide) rfl (fun ls hl => ?_)
  have L12 : ∀ (fu : Nat) (i : Nat) (nx1 : Nat → Nat), L.length - i < fu → (i ≤ L.length) → (wm_al F L nw sc i 0 nx1) → ∀ (E2 : Nat → va_E) (H : Heap) (locs : List Loc) (ls : Array Slot), wm_P D b n E2 H → wm_S b s.heap H locs → E2 93 = .inr (4, [.ref (b + 94), .ref (b + 95), .ref (b + 96), .ref (b + 97), .ref (b + 98), .ref (b + 99), .int (nI sc), .int (nI L.length)]) → E2 94 = wm_I C 16384 sp → E2 96 = wm_I C 2048 mt → E2 tn = wm_J C 2048 nw → E2 tx = wm_J C 2048 nx1 → (∀ j, j ≠ tx → E2 j = E j) → lv_has ls 6 [(0, .ref (b + 93)), (1, .ref (b + tn)), (2, .ref (b + tx)), (3, .int (nI i))] → W p l e R s m args below meth c H locs 0 0 Q (F0 m 12 ls []) := by
    intro fu
    induction fu with
    | zero => intro i nx1 hm; exact absurd hm (Nat.not_lt_zero _)
    | succ fu ih12 =>
      intro i nx1 hm hi h1 E2 H locs ls hP hS hE0 hE1 hE2 hE3 hE4 hfr hl
      refine lv_iload_n X.1 X.2.1 dX4_addLetterToWords_12 rfl (lv_at hl 3 rfl) ?_
      refine lv_aload_n X.1 X.2.1 dX4_addLetterToWords_13 rfl (lv_at hl 0 rfl) ?_
      refine wm_get X hP hlt0 hE0 rfl wm_inX4 7 (by decide) wq1_162 rfl dX4_addLetterToWords_14 ?_
      refine wm_icmp_ge (x := i) (y := L.length) (tgt := 76) X (by omega) (by omega) dX4_addLetterToWords_17 (by decide) (fun hc17 => ?_) (fun hc17 => ?_)
      · exact wm_vret (post := pX4_addLetterToWords C b E sc tn tx L F sp mt nw nx) X hr hP hS ⟨nx1, hE4, hfr, (show wm_al F L nw sc L.length 0 nx1 from (show i = L.length from by omega) ▸ h1)⟩ hQ dX4_addLetterToWords_76
      · refine lv_aload_n X.1 X.2.1 dX4_addLetterToWords_20 rfl (lv_at hl 0 rfl) ?_
        refine wm_get X hP hlt0 hE0 rfl wm_inX4 2 (by decide) wq1_156 rfl dX4_addLetterToWords_21 ?_
        refine lv_iload_n X.1 X.2.1 dX4_addLetterToWords_24 rfl (lv_at hl 3 rfl) ?_
        refine wm_iald (i := i) X hP hlt2 hE2 (by omega) (by decide) dX4_addLetterToWords_25 ?_
        have hLi := hLs i hc17
        rw [show mt i = L.getD i 0 from hmt i hc17]
        refine lv_istore (lv' := [(4, .int (nI (L.getD i 0))), (0, .ref (b + 93)), (1, .ref (b + tn)), (2, .ref (b + tx)), (3, .int (nI i))]) X.1 X.2.1 dX4_addLetterToWords_26 hl (by decide) rfl (fun ls hl => ?_)
        refine lv_aload_n X.1 X.2.1 dX4_addLetterToWords_28 rfl (lv_at hl 2 rfl) ?_
        refine lv_iload X.1 X.2.1 dX4_addLetterToWords_29 (lv_at hl 0 rfl) ?_
        refine wm_lald (i := (L.getD i 0)) X hP hlt3 hE3 (by omega) (by decide) dX4_addLetterToWords_31 ?_
        refine lv_lconst (v := lN 0) X.1 X.2.1 dX4_addLetterToWords_32 (by decide) ?_
        refine W.lcmp X.1 X.2.1 dX4_addLetterToWords_33 ?_
        refine wm_ifc_eq (x := (nw (L.getD i 0))) (y := 0) (tgt := 70) X (hb i hc17) (by decide) dX4_addLetterToWords_34 (by decide) (fun hc34 => ?_) (fun hc34 => ?_)
        · refine lv_iinc (v := nI (i + 1)) (lv' := [(3, .int (nI (i + 1))), (4, .int (nI (L.getD i 0))), (0, .ref (b + 93)), (1, .ref (b + tn)), (2, .ref (b + tx))]) X.1 X.2.1 dX4_addLetterToWords_70 hl (k := 4) rfl (wm_inc i) (by decide) rfl (fun ls hl => ?_)
          refine lv_goto (tgt := 12) X.1 X.2.1 dX4_addLetterToWords_73 (by decide) ?_
          exact ih12 (i + 1) nx1 (by omega) (by omega) (wm_alz h1 hc34) E2 _ _ _ hP hS hE0 hE1 hE2 hE3 hE4 hfr (lv_sub hl [2, 3, 4, 0] rfl)
        · refine lv_iconst (v := nI 0) X.1 X.2.1 dX4_addLetterToWords_37 (by decide) ?_
          refine lv_istore (lv' := [(5, .int (nI 0)), (4, .int (nI (L.getD i 0))), (0, .ref (b + 93)), (1, .ref (b + tn)), (2, .ref (b + tx)), (3, .int (nI i))]) X.1 X.2.1 dX4_addLetterToWords_38 hl (by decide) rfl (fun ls hl => ?_)
          have L40 : ∀ (fu : Nat) (a : Nat) (nx2 : Nat → Nat), 8 - a < fu → (a ≤ 8) → (wm_al F L nw sc i a nx2) → ∀ (E5 : Nat → va_E) (H : Heap) (locs : List Loc) (ls : Array Slot), wm_P D b n E5 H → wm_S b s.heap H locs → E5 93 = .inr (4, [.ref (b + 94), .ref (b + 95), .ref (b + 96), .ref (b + 97), .ref (b + 98), .ref (b + 99), .int (nI sc), .int (nI L.length)]) → E5 94 = wm_I C 16384 sp → E5 96 = wm_I C 2048 mt → E5 tn = wm_J C 2048 nw → E5 tx = wm_J C 2048 nx2 → (∀ j, j ≠ tx → E5 j = E j) → lv_has ls 6 [(0, .ref (b + 93)), (1, .ref (b + tn)), (2, .ref (b + tx)), (3, .int (nI i)), (4, .int (nI (L.getD i 0))), (5, .int (nI a))] → W p l e R s m args below meth c H locs 0 0 Q (F0 m 40 ls []) := by
            intro fu
            induction fu with
            | zero => intro a nx2 hm; exact absurd hm (Nat.not_lt_zero _)
            | succ fu ih40 =>
              intro a nx2 hm ha h2 E5 H locs ls hP hS hE0 hE1 hE2 hE3 hE4 hfr hl
              refine lv_iload X.1 X.2.1 dX4_addLetterToWords_40 (lv_at hl 5 rfl) ?_
              refine lv_bipush (v := nI 8) X.1 X.2.1 dX4_addLetterToWords_42 (by decide) ?_
              refine wm_icmp_ge (x := a) (y := 8) (tgt := 70) X (by omega) (by decide) dX4_addLetterToWords_44 (by decide) (fun hc44 => ?_) (fun hc44 => ?_)
              · refine lv_iinc (v := nI (i + 1)) (lv' := [(3, .int (nI (i + 1))), (0, .ref (b + 93)), (1, .ref (b + tn)), (2, .ref (b + tx)), (4, .int (nI (L.getD i 0))), (5, .int (nI a))]) X.1 X.2.1 dX4_addLetterToWords_70 hl (k := 3) rfl (wm_inc i) (by decide) rfl (fun ls hl => ?_)
                refine lv_goto (tgt := 12) X.1 X.2.1 dX4_addLetterToWords_73 (by decide) ?_
                exact ih12 (i + 1) nx2 (by omega) (by omega) (wm_al8 ((show a = 8 from by omega) ▸ h2)) E5 _ _ _ hP hS hE0 hE1 hE2 hE3 hE4 hfr (lv_sub hl [1, 2, 3, 0] rfl)
              · refine lv_aload_n X.1 X.2.1 dX4_addLetterToWords_47 rfl (lv_at hl 2 rfl) ?_
                refine lv_aload_n X.1 X.2.1 dX4_addLetterToWords_48 rfl (lv_at hl 0 rfl) ?_
                refine lv_iload X.1 X.2.1 dX4_addLetterToWords_49 (lv_at hl 4 rfl) ?_
                refine lv_iload X.1 X.2.1 dX4_addLetterToWords_51 (lv_at hl 5 rfl) ?_
                refine wm_callVi (k := 2) (As := [.int (nI (L.getD i 0)), .int (nI a)]) (rest := [.ref (b + tx)]) X hP hS hlt0 hE0 rfl (kX4_stepFrom l D C b n E5 sc L.length (L.getD i 0) a sp hlt0 hE0 hlt1 hE1 (by omega)) wq4_214 wq4_170 wq4_171 wq1_6 wq4_172 (by decide) (by rw [hRe]; exact ⟨Nat.le_of_ble_eq_true rfl, Nat.le_of_ble_eq_true rfl⟩) rfl hl.1 rfl (Nat.le_of_ble_eq_true rfl) (Nat.zero_le _) (Nat.zero_le _) dX4_addLetterToWords_53 (fun r7 E7 H locs hw hP hS => ?_)
                obtain ⟨hrt, hEe⟩ := hw
                subst hrt
                subst hEe
                have hFF := hF a (L.getD i 0) hc44 hLi
                rw [show sp (a * 2048 + (L.getD i 0)) = F (L.getD i 0) a from hsp a (L.getD i 0) hc44 hLi]
                refine lv_dup2_11 X.1 X.2.1 dX4_addLetterToWords_56 rfl rfl ?_
                refine wm_lald (i := (F (L.getD i 0) a)) X hP hlt4 hE4 (by omega) (by decide) dX4_addLetterToWords_57 ?_
                refine lv_aload_n X.1 X.2.1 dX4_addLetterToWords_58 rfl (lv_at hl 1 rfl) ?_
                refine lv_iload X.1 X.2.1 dX4_addLetterToWords_59 (lv_at hl 4 rfl) ?_
                refine wm_lald (i := (L.getD i 0)) X hP hlt3 hE3 (by omega) (by decide) dX4_addLetterToWords_61 ?_
                refine wm_ladd (x := (nx2 (F (L.getD i 0) a))) (y := (nw (L.getD i 0))) X dX4_addLetterToWords_62 ?_
                refine wm_last (i := (F (L.getD i 0) a)) (x := ((nx2 (F (L.getD i 0) a)) + (nw (L.getD i 0)))) X hP hS hlt4 hE4 (by omega) (by decide) dX4_addLetterToWords_63 (fun H locs E8 hP hS hE4 hq => ?_)
                have hE0 := (hq 93 (by omega)).trans hE0
                have hE1 := (hq 94 (by omega)).trans hE1
                have hE2 := (hq 96 (by omega)).trans hE2
                have hE3 := (hq tn (by omega)).trans hE3
                have hfr : ∀ j, j ≠ tx → E8 j = E j := fun j h0 => (hq j h0).trans (hfr j h0)
                refine lv_iinc (v := nI (a + 1)) (lv' := [(5, .int (nI (a + 1))), (0, .ref (b + 93)), (1, .ref (b + tn)), (2, .ref (b + tx)), (3, .int (nI i)), (4, .int (nI (L.getD i 0)))]) X.1 X.2.1 dX4_addLetterToWords_64 hl (k := 5) rfl (wm_inc a) (by decide) rfl (fun ls hl => ?_)
                refine lv_goto (tgt := 40) X.1 X.2.1 dX4_addLetterToWords_67 (by decide) ?_
                exact ih40 (a + 1) (va_up nx2 (F (L.getD i 0) a) ((nx2 (F (L.getD i 0) a)) + (nw (L.getD i 0)))) (by omega) (by omega) (wm_al1 h2 hFF) E8 _ _ _ hP hS hE0 hE1 hE2 hE3 hE4 hfr (lv_sub hl [1, 2, 3, 4, 5, 0] rfl)
          exact L40 (8 - 0 + 1) 0 nx1 (Nat.lt_succ_self _) (by omega) h1 E2 _ _ _ hP hS hE0 hE1 hE2 hE3 hE4 hfr (lv_sub hl [2, 3, 4, 5, 1, 0] rfl)
  exact L12 (L.length - 0 + 1) 0 g1 (Nat.lt_succ_self _) (by omega) (wm_al0 hp1_0) E1 _ _ _ hP hS hE0 hE1 hE2 hE3 hE4 hfr (lv_sub hl [1, 2, 3, 0] rfl)
def pX4_sumOfEnds (C : Nat → ClassId) (b : Nat) (E : Nat → va_E) (sc tn en : Nat) (L : List Nat) (mt nw : Nat → Nat) : Int64 → (Nat → va_E) → Prop := fun r E' => r = lN (wm_sum L.length (fun j => if L.getD j 0 &&& en ≠ 0 then nw (L.getD j 0) else 0)) ∧ E = E'
set_option maxHeartbeats 4000000 in
set_option maxRecDepth 100000 in
theorem kX4_sumOfEnds (l : Launch) (D : va_G) (C : Nat → ClassId) (b n : Nat) (E : Nat → va_E) (sc tn en : Nat) (L : List Nat) (mt nw : Nat → Nat) (hlt0 : 93 < n) (hE0 : E 93 = .inr (4, [.ref (b + 94), .ref (b + 95), .ref (b + 96), .ref (b + 97), .ref (b + 98), .ref (b + 99), .int (nI sc), .int (nI L.length)])) (hlt1 : 96 < n) (hE1 : E 96 = wm_I C 2048 mt) (hlt2 : tn < n) (hE2 : E tn = wm_J C 2048 nw) (hLl : L.length ≤ 2048) (hmt : ∀ j, j < L.length → mt j = L.getD j 0) (hLs : ∀ j, j < L.length → L.getD j 0 < 2048) (hen : en < 2 ^ 31) : Met l yX4_sumOfEnds (wm_ws yX4_sumOfEnds cX4_sumOfEnds 6 (some .long)) { frames := 0, cells := 0, slots := 0, locals := 0 } (va_Pc [.ref (b + 93), .ref (b + tn), .int (nI en)] (wm_G D C b n E)) (va_Ql (pX4_sumOfEnds C b E sc tn en L mt nw) (fun E' t => wm_P D b n E' t.heap) (wm_A b)) 0 0 (wm_A b) := by
  refine wm_ofW (by decide) (Nat.le_of_ble_eq_true rfl) (fun p e s m below meth c ls R args Q hRe hQ X hr hnm hP hS hl => ?_)
  have hl : lv_has ls 6 [(0, .ref (b + 93)), (1, .ref (b + tn)), (2, .int (nI en))] := hl
  refine lv_lconst (v := lN 0) X.1 X.2.1 dX4_sumOfEnds_0 (by decide) ?_
  refine lv_lstore_n (lv' := [(3, .long (lN 0)), (0, .ref (b + 93)), (1, .ref (b + tn)), (2, .int (nI en))]) X.1 X.2.1 dX4_sumOfEnds_1 rfl hl (by decide) rfl (fun ls hl => ?_)
  refine lv_iconst (v := nI 0) X.1 X.2.1 dX4_sumOfEnds_2 (by decide) ?_
  refine lv_istore (lv' := [(5, .int (nI 0)), (3, .long (lN 0)), (0, .ref (b + 93)), (1, .ref (b + tn)), (2, .int (nI en))]) X.1 X.2.1 dX4_sumOfEnds_3 hl (by decide) rfl (fun ls hl => ?_)
  have L5 : ∀ (fu : Nat) (a : Nat) (i : Nat), L.length - i < fu → (i ≤ L.length) → (a = wm_sum i (fun j => if L.getD j 0 &&& en ≠ 0 then nw (L.getD j 0) else 0)) → ∀ (H : Heap) (locs : List Loc) (ls : Array Slot), wm_P D b n E H → wm_S b s.heap H locs → E 93 = .inr (4, [.ref (b + 94), .ref (b + 95), .ref (b + 96), .ref (b + 97), .ref (b + 98), .ref (b + 99), .int (nI sc), .int (nI L.length)]) → E 96 = wm_I C 2048 mt → E tn = wm_J C 2048 nw → lv_has ls 6 [(0, .ref (b + 93)), (1, .ref (b + tn)), (2, .int (nI en)), (3, .long (lN a)), (5, .int (nI i))] → W p l e R s m args below meth c H locs 0 0 Q (F0 m 5 ls []) := by
    intro fu
    induction fu with
    | zero => intro a i hm; exact absurd hm (Nat.not_lt_zero _)
    | succ fu ih5 =>
      intro a i hm hi ha H locs ls hP hS hE0 hE1 hE2 hl
      refine lv_iload X.1 X.2.1 dX4_sumOfEnds_5 (lv_at hl 4 rfl) ?_
      refine lv_aload_n X.1 X.2.1 dX4_sumOfEnds_7 rfl (lv_at hl 0 rfl) ?_
      refine wm_get X hP hlt0 hE0 rfl wm_inX4 7 (by decide) wq1_162 rfl dX4_sumOfEnds_8 ?_
      refine wm_icmp_ge (x := i) (y := L.length) (tgt := 44) X (by omega) (by omega) dX4_sumOfEnds_11 (by decide) (fun hc11 => ?_) (fun hc11 => ?_)
      · refine lv_lload_n X.1 X.2.1 dX4_sumOfEnds_44 rfl (lv_at hl 3 rfl) ?_
        exact wm_lret (post := pX4_sumOfEnds C b E sc tn en L mt nw) X hr hP hS ⟨(congrArg lN (ha.trans (show wm_sum i _ = wm_sum L.length _ from (show i = L.length from by omega) ▸ rfl))), rfl⟩ hQ dX4_sumOfEnds_45
      · refine lv_aload_n X.1 X.2.1 dX4_sumOfEnds_14 rfl (lv_at hl 0 rfl) ?_
        refine wm_get X hP hlt0 hE0 rfl wm_inX4 2 (by decide) wq1_156 rfl dX4_sumOfEnds_15 ?_
        refine lv_iload X.1 X.2.1 dX4_sumOfEnds_18 (lv_at hl 4 rfl) ?_
        refine wm_iald (i := i) X hP hlt1 hE1 (by omega) (by decide) dX4_sumOfEnds_20 ?_
        rw [show mt i = L.getD i 0 from hmt i hc11]
        refine lv_iload_n X.1 X.2.1 dX4_sumOfEnds_21 rfl (lv_at hl 2 rfl) ?_
        refine wm_iand (x := (L.getD i 0)) (y := en) X dX4_sumOfEnds_22 ?_
        refine wm_if_eq (x := ((L.getD i 0) &&& en)) (tgt := 38) X (Nat.lt_of_le_of_lt Nat.and_le_left (by have := hLs i hc11; omega)) dX4_sumOfEnds_23 (by decide) (fun hc23 => ?_) (fun hc23 => ?_)
        · refine lv_iinc (v := nI (i + 1)) (lv' := [(5, .int (nI (i + 1))), (0, .ref (b + 93)), (1, .ref (b + tn)), (2, .int (nI en)), (3, .long (lN a))]) X.1 X.2.1 dX4_sumOfEnds_38 hl (k := 4) rfl (wm_inc i) (by decide) rfl (fun ls hl => ?_)
          refine lv_goto (tgt := 5) X.1 X.2.1 dX4_sumOfEnds_41 (by decide) ?_
          exact ih5 a (i + 1) (by omega) (by omega) (by rw [wm_sum_s, ← ha, if_neg (fun q => q hc23)]; rfl) _ _ _ hP hS hE0 hE1 hE2 (lv_sub hl [1, 2, 3, 4, 0] rfl)
        · refine lv_lload_n X.1 X.2.1 dX4_sumOfEnds_26 rfl (lv_at hl 3 rfl) ?_
          refine lv_aload_n X.1 X.2.1 dX4_sumOfEnds_27 rfl (lv_at hl 1 rfl) ?_
          refine lv_aload_n X.1 X.2.1 dX4_sumOfEnds_28 rfl (lv_at hl 0 rfl) ?_
          refine wm_get X hP hlt0 hE0 rfl wm_inX4 2 (by decide) wq1_156 rfl dX4_sumOfEnds_29 ?_
          refine lv_iload X.1 X.2.1 dX4_sumOfEnds_32 (lv_at hl 4 rfl) ?_
          refine wm_iald (i := i) X hP hlt1 hE1 (by omega) (by decide) dX4_sumOfEnds_34 ?_
          rw [show mt i = L.getD i 0 from hmt i hc11]
          refine wm_lald (i := (L.getD i 0)) X hP hlt2 hE2 (hLs i hc11) (by decide) dX4_sumOfEnds_35 ?_
          refine wm_ladd (x := a) (y := (nw (L.getD i 0))) X dX4_sumOfEnds_36 ?_
          refine lv_lstore_n (lv' := [(3, .long (lN (a + (nw (L.getD i 0))))), (0, .ref (b + 93)), (1, .ref (b + tn)), (2, .int (nI en)), (5, .int (nI i))]) X.1 X.2.1 dX4_sumOfEnds_37 rfl hl (by decide) rfl (fun ls hl => ?_)
          refine lv_iinc (v := nI (i + 1)) (lv' := [(5, .int (nI (i + 1))), (3, .long (lN (a + (nw (L.getD i 0))))), (0, .ref (b + 93)), (1, .ref (b + tn)), (2, .int (nI en))]) X.1 X.2.1 dX4_sumOfEnds_38 hl (k := 4) rfl (wm_inc i) (by decide) rfl (fun ls hl => ?_)
          refine lv_goto (tgt := 5) X.1 X.2.1 dX4_sumOfEnds_41 (by decide) ?_
          exact ih5 (a + (nw (L.getD i 0))) (i + 1) (by omega) (by omega) (by rw [wm_sum_s, ← ha, if_pos hc23]) _ _ _ hP hS hE0 hE1 hE2 (lv_sub hl [2, 3, 4, 1, 0] rfl)
  exact L5 (L.length - 0 + 1) 0 0 (Nat.lt_succ_self _) (by omega) rfl _ _ _ hP hS hE0 hE1 hE2 (lv_sub hl [2, 3, 4, 1, 0] rfl)
def pX4_countWords (C : Nat → ClassId) (b : Nat) (E : Nat → va_E) (sc mc t tg cn st en len : Nat) (sp : Nat → Nat) (mk : Nat → Bool) (mt g e1 e2 : Nat → Nat) : Int64 → (Nat → va_E) → Prop := fun r E' => ∃ (sp1 : Nat → Nat) (mk1 : Nat → Bool) (mt1 : Nat → Nat) (f1 : Nat → Nat) (f2 : Nat → Nat), r = lN (wm_cwr (fun S a => wm_st g cn a S) (wm_sets g cn st) st en len) ∧ E' 93 = .inr (4, [.ref (b + 94), .ref (b + 95), .ref (b + 96), .ref (b + 97), .ref (b + 98), .ref (b + 99), .int (nI (2 ^ cn)), .int (nI ((wm_sets g cn st).length))]) ∧ E' 94 = wm_I C 16384 sp1 ∧ E' 95 = wm_Z C 2048 mk1 ∧ E' 96 = wm_I C 2048 mt1 ∧ E' 98 = wm_J C 2048 f1 ∧ E' 99 = wm_J C 2048 f2 ∧ (∀ j, j ≠ 93 → j ≠ 94 → j ≠ 95 → j ≠ 96 → j ≠ 98 → j ≠ 99 → E' j = E j)
set_option maxHeartbeats 4000000 in
set_option maxRecDepth 100000 in
theorem kX4_countWords (l : Launch) (D : va_G) (C : Nat → ClassId) (b n : Nat) (E : Nat → va_E) (sc mc t tg cn st en len : Nat) (sp : Nat → Nat) (mk : Nat → Bool) (mt g e1 e2 : Nat → Nat) (hlt0 : 93 < n) (hE0 : E 93 = .inr (4, [.ref (b + 94), .ref (b + 95), .ref (b + 96), .ref (b + 97), .ref (b + 98), .ref (b + 99), .int (nI sc), .int (nI mc)])) (hlt1 : 94 < n) (hE1 : E 94 = wm_I C 16384 sp) (hlt2 : 95 < n) (hE2 : E 95 = wm_Z C 2048 mk) (hlt3 : 96 < n) (hE3 : E 96 = wm_I C 2048 mt) (hlt4 : 98 < n) (hE4 : E 98 = wm_J C 2048 e1) (hlt5 : 99 < n) (hE5 : E 99 = wm_J C 2048 e2) (hlt6 : t < n) (hE6 : E t = .inr (2, [.ref (b + tg), .int (nI cn), .int (nI st), .int (nI en)])) (hlt7 : tg < n) (hE7 : E tg = wm_I C 192 g) (hmt : t < 4 ∨ 103 ≤ t) (hmg : tg < 4 ∨ 103 ≤ tg) (hne : t ≠ tg) (hc : cn ≤ 11) (hst : st < 2 ^ cn) (hen : en < 2 ^ cn) (hlen : len ≤ 20) (hg : ∀ a x, a < 8 → x < cn → g (a * 24 + x) < 2 ^ cn) : Met l yX4_countWords (wm_ws yX4_countWords cX4_countWords 7 (some .long)) { frames := 3, cells := 0, slots := 0, locals := 72 } (va_Pc [.ref (b + 93), .ref (b + t), .int (nI len)] (wm_G D C b n E)) (va_Ql (pX4_countWords C b E sc mc t tg cn st en len sp mk mt g e1 e2) (fun E' t => wm_P D b n E' t.heap) (wm_A b)) 0 0 (wm_A b) := by
  refine wm_ofW (by decide) (Nat.le_of_ble_eq_true rfl) (fun p e s m below meth c ls R args Q hRe hQ X hr hnm hP hS hl => ?_)
  have hl : lv_has ls 7 [(0, .ref (b + 93)), (1, .ref (b + t)), (2, .int (nI len))] := hl
  have hfr : ∀ j, j ≠ 93 → j ≠ 94 → j ≠ 95 → j ≠ 96 → j ≠ 98 → j ≠ 99 → E j = E j := fun _ _ _ _ _ _ _ => rfl
  have h2c : 2 ^ cn ≤ 2048 := Nat.pow_le_pow_right (show 0 < 2 by decide) hc
  have h2p : 0 < 2 ^ cn := Nat.two_pow_pos cn
  refine lv_aload_n X.1 X.2.1 dX4_countWords_0 rfl (lv_at hl 0 rfl) ?_
  refine lv_aload_n X.1 X.2.1 dX4_countWords_1 rfl (lv_at hl 1 rfl) ?_
  refine wm_callVv (k := 1) (As := [.ref (b + t)]) (rest := []) X hP hS hlt0 hE0 rfl (kX4_meetAll l D C b n E sc mc t tg cn st en sp mk mt g hlt0 hE0 hlt1 hE1 hlt2 hE2 hlt3 hE3 hlt6 hE6 hlt7 hE7 (by omega) (by omega) (by omega) (by omega) (by omega) hg) wq4_197 wq4_198 wq4_199 wq1_6 wq4_200 (by decide) (by rw [hRe]; exact ⟨Nat.le_of_ble_eq_true rfl, Nat.le_of_ble_eq_true rfl⟩) rfl hl.1 rfl (Nat.le_of_ble_eq_true rfl) (Nat.zero_le _) (Nat.zero_le _) dX4_countWords_2 (fun E1 H locs hw hP hS => ?_)
  obtain ⟨sp11, mk11, mt11, hE0, hE1, hE2, hE3, hq, hp1_0, hp1_1⟩ := hw
  have hE4 := (hq 98 (by decide) (by decide) (by decide) (by decide)).trans hE4
  have hE5 := (hq 99 (by decide) (by decide) (by decide) (by decide)).trans hE5
  have hE6 := (hq t (by omega) (by omega) (by omega) (by omega)).trans hE6
  have hE7 := (hq tg (by omega) (by omega) (by omega) (by omega)).trans hE7
  have hfr : ∀ j, j ≠ 93 → j ≠ 94 → j ≠ 95 → j ≠ 96 → j ≠ 98 → j ≠ 99 → E1 j = E j := fun j h0 h1 h2 h3 h4 h5 => (hq j h0 h1 h2 h3).trans (hfr j h0 h1 h2 h3 h4 h5)
  have hsp := hp1_0
  have hml := hp1_1
  have hlen2 := wm_ml_len hml
  have hLs : ∀ j, j < (wm_sets g cn st).length → (wm_sets g cn st).getD j 0 < 2 ^ cn := fun j hj => hml.2.2.2 _ (by rw [List.getD_eq_getElem?_getD, List.getElem?_eq_getElem hj]; exact List.getElem_mem hj)
  refine lv_aload_n X.1 X.2.1 dX4_countWords_5 rfl (lv_at hl 0 rfl) ?_
  refine wm_get X hP hlt0 hE0 rfl wm_inX4 4 (by decide) wq1_158 rfl dX4_countWords_6 ?_
  refine lv_astore_n (lv' := [(3, .ref (b + 98)), (0, .ref (b + 93)), (1, .ref (b + t)), (2, .int (nI len))]) X.1 X.2.1 dX4_countWords_9 rfl hl (by decide) rfl (fun ls hl => ?_)
  refine lv_aload_n X.1 X.2.1 dX4_countWords_10 rfl (lv_at hl 1 rfl) ?_
  refine wm_get X hP hlt0 hE0 rfl wm_inX4 5 (by decide) wq1_159 rfl dX4_countWords_11 ?_
  refine lv_astore (lv' := [(4, .ref (b + 99)), (3, .ref (b + 98)), (0, .ref (b + 93)), (1, .ref (b + t)), (2, .int (nI len))]) X.1 X.2.1 dX4_countWords_14 hl (by decide) rfl (fun ls hl => ?_)
  refine lv_aload_n X.1 X.2.1 dX4_countWords_16 rfl (lv_at hl 1 rfl) ?_
  refine lv_iconst (v := nI 0) X.1 X.2.1 dX4_countWords_17 (by decide) ?_
  refine lv_aload_n X.1 X.2.1 dX4_countWords_18 rfl (lv_at hl 2 rfl) ?_
  refine wm_get X hP hlt0 hE0 rfl wm_inX4 6 (by decide) wq1_160 rfl dX4_countWords_19 ?_
  refine lv_lconst (v := lN 0) X.1 X.2.1 dX4_countWords_22 (by decide) ?_
  refine wm_callSv (k := 4) (As := [.ref (b + 98), .int (nI 0), .int (nI (2 ^ cn)), .long (lN 0)]) (rest := []) X hP hS  (kJ7_fill_bad5a l D C b n E1 98 2048 0 (2 ^ cn) 0 e1 hlt4 hE4 (by omega) (by omega) (by omega)) wq4_215 wq4_216 wq1_14 wq4_217 (by decide) (by rw [hRe]; exact ⟨Nat.le_of_ble_eq_true rfl, Nat.le_of_ble_eq_true rfl⟩) rfl hl.1 rfl (Nat.le_of_ble_eq_true rfl) (Nat.zero_le _) (Nat.zero_le _) dX4_countWords_23 (fun E2 H locs hw hP hS => ?_)
  obtain ⟨g2, hE4, hq, hp2_0, hp2_1⟩ := hw
  have hE0 := (hq 93 (by decide)).trans hE0
  have hE1 := (hq 94 (by decide)).trans hE1
  have hE2 := (hq 95 (by decide)).trans hE2
  have hE3 := (hq 96 (by decide)).trans hE3
  have hE5 := (hq 99 (by decide)).trans hE5
  have hE6 := (hq t (by omega)).trans hE6
  have hE7 := (hq tg (by omega)).trans hE7
  have hfr : ∀ j, j ≠ 93 → j ≠ 94 → j ≠ 95 → j ≠ 96 → j ≠ 98 → j ≠ 99 → E2 j = E j := fun j h0 h1 h2 h3 h4 h5 => (hq j h4).trans (hfr j h0 h1 h2 h3 h4 h5)
  refine lv_aload_n X.1 X.2.1 dX4_countWords_26 rfl (lv_at hl 1 rfl) ?_
  refine lv_aload_n X.1 X.2.1 dX4_countWords_27 rfl (lv_at hl 3 rfl) ?_
  refine wm_get X hP hlt6 hE6 rfl wm_inX2 2 (by decide) wq1_48 rfl dX4_countWords_28 ?_
  refine lv_lconst (v := lN 1) X.1 X.2.1 dX4_countWords_31 (by decide) ?_
  refine wm_last (i := st) (x := 1) X hP hS hlt4 hE4 (by omega) (by decide) dX4_countWords_32 (fun H locs E3 hP hS hE4 hq => ?_)
  have hE0 := (hq 93 (by decide)).trans hE0
  have hE1 := (hq 94 (by decide)).trans hE1
  have hE2 := (hq 95 (by decide)).trans hE2
  have hE3 := (hq 96 (by decide)).trans hE3
  have hE5 := (hq 99 (by decide)).trans hE5
  have hE6 := (hq t (by omega)).trans hE6
  have hE7 := (hq tg (by omega)).trans hE7
  have hfr : ∀ j, j ≠ 93 → j ≠ 94 → j ≠ 95 → j ≠ 96 → j ≠ 98 → j ≠ 99 → E3 j = E j := fun j h0 h1 h2 h3 h4 h5 => (hq j h4).trans (hfr j h0 h1 h2 h3 h4 h5)
  refine lv_iconst (v := nI 0) X.1 X.2.1 dX4_countWords_33 (by decide) ?_
  refine lv_istore (lv' := [(5, .int (nI 0)), (4, .ref (b + 99)), (3, .ref (b + 98)), (0, .ref (b + 93)), (1, .ref (b + t)), (2, .int (nI len))]) X.1 X.2.1 dX4_countWords_34 hl (by decide) rfl (fun ls hl => ?_)
  have L36 : ∀ (fu : Nat) (i : Nat) (tn : Nat) (tx : Nat) (nw : Nat → Nat) (nx : Nat → Nat), len - i < fu → (i ≤ len) → ((tn = 98 ∧ tx = 99) ∨ (tn = 99 ∧ tx = 98)) → (∀ S, S < 2 ^ cn → nw S = wm_cw (fun S a => wm_st g cn a S) (wm_sets g cn st) st i S) → ∀ (E4 : Nat → va_E) (H : Heap) (locs : List Loc) (ls : Array Slot), wm_P D b n E4 H → wm_S b s.heap H locs → E4 93 = .inr (4, [.ref (b + 94), .ref (b + 95), .ref (b + 96), .ref (b + 97), .ref (b + 98), .ref (b + 99), .int (nI (2 ^ cn)), .int (nI ((wm_sets g cn st).length))]) → E4 94 = wm_I C 16384 sp11 → E4 95 = wm_Z C 2048 mk11 → E4 96 = wm_I C 2048 mt11 → E4 tn = wm_J C 2048 nw → E4 tx = wm_J C 2048 nx → E4 t = .inr (2, [.ref (b + tg), .int (nI cn), .int (nI st), .int (nI en)]) → E4 tg = wm_I C 192 g → (∀ j, j ≠ 93 → j ≠ 94 → j ≠ 95 → j ≠ 96 → j ≠ 98 → j ≠ 99 → E4 j = E j) → lv_has ls 7 [(0, .ref (b + 93)), (1, .ref (b + t)), (2, .int (nI len)), (3, .ref (b + tn)), (4, .ref (b + tx)), (5, .int (nI i))] → W p l e R s m args below meth c H locs 0 0 Q (F0 m 36 ls []) := by
    intro fu
    induction fu with
    | zero => intro i tn tx nw nx hm; exact absurd hm (Nat.not_lt_zero _)
    | succ fu ih36 =>
      intro i tn tx nw nx hm hi htt hcw E4 H locs ls hP hS hE0 hE1 hE2 hE3 hE4 hE5 hE6 hE7 hfr hl
      refine lv_iload X.1 X.2.1 dX4_countWords_36 (lv_at hl 5 rfl) ?_
      refine lv_iload_n X.1 X.2.1 dX4_countWords_38 rfl (lv_at hl 2 rfl) ?_
      refine wm_icmp_ge (x := i) (y := len) (tgt := 65) X (by omega) (by omega) dX4_countWords_39 (by decide) (fun hc39 => ?_) (fun hc39 => ?_)
      · refine lv_aload_n X.1 X.2.1 dX4_countWords_65 rfl (lv_at hl 0 rfl) ?_
        refine lv_aload_n X.1 X.2.1 dX4_countWords_66 rfl (lv_at hl 3 rfl) ?_
        refine lv_aload_n X.1 X.2.1 dX4_countWords_67 rfl (lv_at hl 1 rfl) ?_
        refine wm_get X hP hlt6 hE6 rfl wm_inX2 3 (by decide) wq1_54 rfl dX4_countWords_68 ?_
        refine wm_callVl (k := 2) (As := [.ref (b + tn), .int (nI en)]) (rest := []) X hP hS hlt0 hE0 rfl (kX4_sumOfEnds l D C b n E4 (2 ^ cn) tn en (wm_sets g cn st) mt11 nw hlt0 hE0 hlt3 hE3 (by omega) hE4 (by omega) hml.2.1 (fun j hj => by have := hLs j hj; omega) (by omega)) wq4_222 wq4_224 wqP2_12 wq1_6 wq4_225 (by decide) (by rw [hRe]; exact ⟨Nat.le_of_ble_eq_true rfl, Nat.le_of_ble_eq_true rfl⟩) rfl hl.1 rfl (Nat.le_of_ble_eq_true rfl) (Nat.zero_le _) (Nat.zero_le _) dX4_countWords_71 (fun r6 E6 H locs hw hP hS => ?_)
        obtain ⟨hrt, hEe⟩ := hw
        subst hrt
        subst hEe
        have hil : i = len := by omega
        obtain ⟨f1, f2, h98, h99⟩ : ∃ f1 f2 : Nat → Nat, E4 98 = wm_J C 2048 f1 ∧ E4 99 = wm_J C 2048 f2 := by
          rcases htt with ⟨q1, q2⟩ | ⟨q1, q2⟩
          · rw [q1] at hE4; rw [q2] at hE5; exact ⟨_, _, hE4, hE5⟩
          · rw [q1] at hE4; rw [q2] at hE5; exact ⟨_, _, hE5, hE4⟩
        exact wm_lret (post := pX4_countWords C b E sc mc t tg cn st en len sp mk mt g e1 e2) X hr hP hS ⟨sp11, mk11, mt11, f1, f2, (congrArg lN (wm_sum_cg (fun j hj => by rw [hcw _ (hLs j hj), hil]))), hE0, hE1, hE2, hE3, h98, h99, hfr⟩ hQ dX4_countWords_74
      · refine lv_aload_n X.1 X.2.1 dX4_countWords_42 rfl (lv_at hl 0 rfl) ?_
        refine lv_aload_n X.1 X.2.1 dX4_countWords_43 rfl (lv_at hl 3 rfl) ?_
        refine lv_aload X.1 X.2.1 dX4_countWords_44 (lv_at hl 4 rfl) ?_
        refine wm_callVv (k := 2) (As := [.ref (b + tn), .ref (b + tx)]) (rest := []) X hP hS hlt0 hE0 rfl (kX4_addLetterToWords l D C b n E4 (2 ^ cn) tn tx (wm_sets g cn st) (fun S a => wm_st g cn a S) sp11 mt11 nw nx hlt0 hE0 hlt1 hE1 hlt3 hE3 (by omega) hE4 (by omega) hE5 (by omega) (by omega) (by omega) h2c (by omega) hml.2.1 hLs (fun a S h1 h2 => hsp a S h1 h2 (by omega)) (fun a S h1 _ => wm_st_lt (fun x hx => hg a x h1 hx)) (fun j hj => by rw [hcw _ (hLs j hj)]; exact wm_cw_lt hml.2.2.1 (by omega) hj)) wq4_218 wq4_220 wqP2_11 wq1_6 wq4_221 (by decide) (by rw [hRe]; exact ⟨Nat.le_of_ble_eq_true rfl, Nat.le_of_ble_eq_true rfl⟩) rfl hl.1 rfl (Nat.le_of_ble_eq_true rfl) (Nat.zero_le _) (Nat.zero_le _) dX4_countWords_46 (fun E7 H locs hw hP hS => ?_)
        obtain ⟨nx17, hE5, hq, hp7_0⟩ := hw
        have hE0 := (hq 93 (by omega)).trans hE0
        have hE1 := (hq 94 (by omega)).trans hE1
        have hE2 := (hq 95 (by omega)).trans hE2
        have hE3 := (hq 96 (by omega)).trans hE3
        have hE4 := (hq tn (by omega)).trans hE4
        have hE6 := (hq t (by omega)).trans hE6
        have hE7 := (hq tg (by omega)).trans hE7
        have hfr : ∀ j, j ≠ 93 → j ≠ 94 → j ≠ 95 → j ≠ 96 → j ≠ 98 → j ≠ 99 → E7 j = E j := fun j h0 h1 h2 h3 h4 h5 => (hq j (by omega)).trans (hfr j h0 h1 h2 h3 h4 h5)
        refine lv_aload_n X.1 X.2.1 dX4_countWords_49 rfl (lv_at hl 3 rfl) ?_
        refine lv_astore (lv' := [(6, .ref (b + tn)), (0, .ref (b + 93)), (1, .ref (b + t)), (2, .int (nI len)), (3, .ref (b + tn)), (4, .ref (b + tx)), (5, .int (nI i))]) X.1 X.2.1 dX4_countWords_50 hl (by decide) rfl (fun ls hl => ?_)
        refine lv_aload X.1 X.2.1 dX4_countWords_52 (lv_at hl 5 rfl) ?_
        refine lv_astore_n (lv' := [(3, .ref (b + tx)), (6, .ref (b + tn)), (0, .ref (b + 93)), (1, .ref (b + t)), (2, .int (nI len)), (4, .ref (b + tx)), (5, .int (nI i))]) X.1 X.2.1 dX4_countWords_54 rfl hl (by decide) rfl (fun ls hl => ?_)
        refine lv_aload X.1 X.2.1 dX4_countWords_55 (lv_at hl 1 rfl) ?_
        refine lv_astore (lv' := [(4, .ref (b + tn)), (3, .ref (b + tx)), (6, .ref (b + tn)), (0, .ref (b + 93)), (1, .ref (b + t)), (2, .int (nI len)), (5, .int (nI i))]) X.1 X.2.1 dX4_countWords_57 hl (by decide) rfl (fun ls hl => ?_)
        refine lv_iinc (v := nI (i + 1)) (lv' := [(5, .int (nI (i + 1))), (4, .ref (b + tn)), (3, .ref (b + tx)), (6, .ref (b + tn)), (0, .ref (b + 93)), (1, .ref (b + t)), (2, .int (nI len))]) X.1 X.2.1 dX4_countWords_59 hl (k := 6) rfl (wm_inc i) (by decide) rfl (fun ls hl => ?_)
        refine lv_goto (tgt := 36) X.1 X.2.1 dX4_countWords_62 (by decide) ?_
        exact ih36 (i + 1) tx tn nx17 nw (by omega) (by omega) (by omega) (wm_cw1 hcw hLs hp7_0) E7 _ _ _ hP hS hE0 hE1 hE2 hE3 hE5 hE4 hE6 hE7 hfr (lv_sub hl [4, 5, 6, 2, 1, 0] rfl)
  exact L36 (len - 0 + 1) 0 98 99 (va_up g2 st 1) e2 (Nat.lt_succ_self _) (by omega) (by omega) (wm_cw0 hp2_0 hst) E3 _ _ _ hP hS hE0 hE1 hE2 hE3 hE4 hE5 hE6 hE7 hfr (lv_sub hl [3, 4, 5, 2, 1, 0] rfl)
def pX4_unionOfSmaller (C : Nat → ClassId) (b : Nat) (E : Nat → va_E) (sc mc S : Nat) (un : Nat → Nat) : Int32 → (Nat → va_E) → Prop := fun r E' => r = nI (wm_us un S) ∧ E = E'
set_option maxHeartbeats 4000000 in
set_option maxRecDepth 100000 in
theorem kX4_unionOfSmaller (l : Launch) (D : va_G) (C : Nat → ClassId) (b n : Nat) (E : Nat → va_E) (sc mc S : Nat) (un : Nat → Nat) (hlt0 : 93 < n) (hE0 : E 93 = .inr (4, [.ref (b + 94), .ref (b + 95), .ref (b + 96), .ref (b + 97), .ref (b + 98), .ref (b + 99), .int (nI sc), .int (nI mc)])) (hlt1 : 97 < n) (hE1 : E 97 = wm_I C 2048 un) (hSb : S < 2048) : Met l yX4_unionOfSmaller (wm_ws yX4_unionOfSmaller cX4_unionOfSmaller 4 (some .int)) { frames := 1, cells := 0, slots := 0, locals := 21 } (va_Pc [.ref (b + 93), .int (nI S)] (wm_G D C b n E)) (va_Qi (pX4_unionOfSmaller C b E sc mc S un) (fun E' t => wm_P D b n E' t.heap) (wm_A b)) 0 0 (wm_A b) := by
  refine wm_ofW (by decide) (Nat.le_of_ble_eq_true rfl) (fun p e s m below meth c ls R args Q hRe hQ X hr hnm hP hS hl => ?_)
  have hl : lv_has ls 4 [(0, .ref (b + 93)), (1, .int (nI S))] := hl
  refine lv_iconst (v := nI 0) X.1 X.2.1 dX4_unionOfSmaller_0 (by decide) ?_
  refine lv_istore_n (lv' := [(2, .int (nI 0)), (0, .ref (b + 93)), (1, .int (nI S))]) X.1 X.2.1 dX4_unionOfSmaller_1 rfl hl (by decide) rfl (fun ls hl => ?_)
  refine lv_iconst (v := nI 0) X.1 X.2.1 dX4_unionOfSmaller_2 (by decide) ?_
  refine lv_istore_n (lv' := [(3, .int (nI 0)), (2, .int (nI 0)), (0, .ref (b + 93)), (1, .int (nI S))]) X.1 X.2.1 dX4_unionOfSmaller_3 rfl hl (by decide) rfl (fun ls hl => ?_)
  have L4 : ∀ (fu : Nat) (a : Nat) (i : Nat), 11 - i < fu → (i ≤ 11) → (a = wm_or i (fun x => if S.testBit x then un (S &&& (1 <<< x ^^^ 4294967295)) else 0)) → ∀ (H : Heap) (locs : List Loc) (ls : Array Slot), wm_P D b n E H → wm_S b s.heap H locs → E 93 = .inr (4, [.ref (b + 94), .ref (b + 95), .ref (b + 96), .ref (b + 97), .ref (b + 98), .ref (b + 99), .int (nI sc), .int (nI mc)]) → E 97 = wm_I C 2048 un → lv_has ls 4 [(0, .ref (b + 93)), (1, .int (nI S)), (2, .int (nI a)), (3, .int (nI i))] → W p l e R s m args below meth c H locs 0 0 Q (F0 m 4 ls []) := by
    intro fu
    induction fu with
    | zero => intro a i hm; exact absurd hm (Nat.not_lt_zero _)
    | succ fu ih4 =>
      intro a i hm hi ha H locs ls hP hS hE0 hE1 hl
      refine lv_iload_n X.1 X.2.1 dX4_unionOfSmaller_4 rfl (lv_at hl 3 rfl) ?_
      refine lv_bipush (v := nI 11) X.1 X.2.1 dX4_unionOfSmaller_5 (by decide) ?_
      refine wm_icmp_ge (x := i) (y := 11) (tgt := 39) X (by omega) (by decide) dX4_unionOfSmaller_7 (by decide) (fun hc7 => ?_) (fun hc7 => ?_)
      · refine lv_iload_n X.1 X.2.1 dX4_unionOfSmaller_39 rfl (lv_at hl 2 rfl) ?_
        exact wm_iret (post := pX4_unionOfSmaller C b E sc mc S un) X hr hP hS ⟨(congrArg nI (ha.trans (show wm_or i _ = wm_or 11 _ from (show i = 11 from by omega) ▸ rfl))), rfl⟩ hQ dX4_unionOfSmaller_40
      · refine lv_iload_n X.1 X.2.1 dX4_unionOfSmaller_10 rfl (lv_at hl 1 rfl) ?_
        refine lv_iload_n X.1 X.2.1 dX4_unionOfSmaller_11 rfl (lv_at hl 3 rfl) ?_
        refine wm_callNi (k := 2) (As := [.int (nI S), .int (nI i)]) (rest := []) X hP hS  (kX6_hasBit l D C b n E S i (by omega) (by omega)) (host := "WordMachines") (by decide) wq2_210 wq1_1 wq2_211 (by decide) (by rw [hRe]; exact ⟨Nat.le_of_ble_eq_true rfl, Nat.le_of_ble_eq_true rfl⟩) rfl hl.1 rfl (Nat.le_of_ble_eq_true rfl) (Nat.zero_le _) (Nat.zero_le _) dX4_unionOfSmaller_12 (fun r2 E2 H locs hw hP hS => ?_)
        obtain ⟨hrt, hEe⟩ := hw
        subst hrt
        subst hEe
        refine wm_ifz_eq (x := (S.testBit i)) (tgt := 33) X dX4_unionOfSmaller_15 (by decide) (fun hc15 => ?_) (fun hc15 => ?_)
        · refine lv_iinc (v := nI (i + 1)) (lv' := [(3, .int (nI (i + 1))), (0, .ref (b + 93)), (1, .int (nI S)), (2, .int (nI a))]) X.1 X.2.1 dX4_unionOfSmaller_33 hl (k := 3) rfl (wm_inc i) (by decide) rfl (fun ls hl => ?_)
          refine lv_goto (tgt := 4) X.1 X.2.1 dX4_unionOfSmaller_36 (by decide) ?_
          exact ih4 a (i + 1) (by omega) (by omega) (wm_pr_f ha (if_neg (by rw [hc15]; decide))) _ _ _ hP hS hE0 hE1 (lv_sub hl [1, 2, 3, 0] rfl)
        · refine lv_iload_n X.1 X.2.1 dX4_unionOfSmaller_18 rfl (lv_at hl 2 rfl) ?_
          refine lv_aload_n X.1 X.2.1 dX4_unionOfSmaller_19 rfl (lv_at hl 0 rfl) ?_
          refine wm_get X hP hlt0 hE0 rfl wm_inX4 3 (by decide) wq1_157 rfl dX4_unionOfSmaller_20 ?_
          refine lv_iload_n X.1 X.2.1 dX4_unionOfSmaller_23 rfl (lv_at hl 1 rfl) ?_
          refine lv_iconst (v := nI 1) X.1 X.2.1 dX4_unionOfSmaller_24 (by decide) ?_
          refine lv_iload_n X.1 X.2.1 dX4_unionOfSmaller_25 rfl (lv_at hl 3 rfl) ?_
          refine wm_ishl (x := 1) (y := i) X (by omega) dX4_unionOfSmaller_26 ?_
          refine lv_iconst (v := nI 4294967295) X.1 X.2.1 dX4_unionOfSmaller_27 (by decide) ?_
          refine wm_ixor (x := (1 <<< i)) (y := 4294967295) X dX4_unionOfSmaller_28 ?_
          refine wm_iand (x := S) (y := ((1 <<< i) ^^^ 4294967295)) X dX4_unionOfSmaller_29 ?_
          refine wm_iald (i := (S &&& ((1 <<< i) ^^^ 4294967295))) X hP hlt1 hE1 (Nat.lt_of_le_of_lt Nat.and_le_left hSb) (by decide) dX4_unionOfSmaller_30 ?_
          refine wm_ior (x := a) (y := (un (S &&& ((1 <<< i) ^^^ 4294967295)))) X dX4_unionOfSmaller_31 ?_
          refine lv_istore_n (lv' := [(2, .int (nI (a ||| (un (S &&& ((1 <<< i) ^^^ 4294967295)))))), (0, .ref (b + 93)), (1, .int (nI S)), (3, .int (nI i))]) X.1 X.2.1 dX4_unionOfSmaller_32 rfl hl (by decide) rfl (fun ls hl => ?_)
          refine lv_iinc (v := nI (i + 1)) (lv' := [(3, .int (nI (i + 1))), (2, .int (nI (a ||| (un (S &&& ((1 <<< i) ^^^ 4294967295)))))), (0, .ref (b + 93)), (1, .int (nI S))]) X.1 X.2.1 dX4_unionOfSmaller_33 hl (k := 3) rfl (wm_inc i) (by decide) rfl (fun ls hl => ?_)
          refine lv_goto (tgt := 4) X.1 X.2.1 dX4_unionOfSmaller_36 (by decide) ?_
          exact ih4 (a ||| (un (S &&& ((1 <<< i) ^^^ 4294967295)))) (i + 1) (by omega) (by omega) (wm_pr_t ha _ (if_pos hc15)) _ _ _ hP hS hE0 hE1 (lv_sub hl [2, 3, 1, 0] rfl)
  exact L4 (11 - 0 + 1) 0 0 (Nat.lt_succ_self _) (by omega) rfl _ _ _ hP hS hE0 hE1 (lv_sub hl [2, 3, 1, 0] rfl)
def pX4_fillUnions (C : Nat → ClassId) (b : Nat) (E : Nat → va_E) (sc mc : Nat) (mk : Nat → Bool) (un : Nat → Nat) : (Nat → va_E) → Prop := fun E' => ∃ (un1 : Nat → Nat), E' 97 = wm_I C 2048 un1 ∧ (∀ j, j ≠ 97 → E' j = E j) ∧ (∀ S, S < sc → wm_un mk sc S (un1 S))
set_option maxHeartbeats 4000000 in
set_option maxRecDepth 100000 in
theorem kX4_fillUnions (l : Launch) (D : va_G) (C : Nat → ClassId) (b n : Nat) (E : Nat → va_E) (sc mc : Nat) (mk : Nat → Bool) (un : Nat → Nat) (hlt0 : 93 < n) (hE0 : E 93 = .inr (4, [.ref (b + 94), .ref (b + 95), .ref (b + 96), .ref (b + 97), .ref (b + 98), .ref (b + 99), .int (nI sc), .int (nI mc)])) (hlt1 : 95 < n) (hE1 : E 95 = wm_Z C 2048 mk) (hlt2 : 97 < n) (hE2 : E 97 = wm_I C 2048 un) (hsc : sc ≤ 2048) : Met l yX4_fillUnions (wm_ws yX4_fillUnions cX4_fillUnions 2 none) { frames := 2, cells := 0, slots := 0, locals := 44 } (va_Pc [.ref (b + 93)] (wm_G D C b n E)) (va_Qv (pX4_fillUnions C b E sc mc mk un) (fun E' t => wm_P D b n E' t.heap) (wm_A b)) 0 0 (wm_A b) := by
  refine wm_ofW (by decide) (Nat.le_of_ble_eq_true rfl) (fun p e s m below meth c ls R args Q hRe hQ X hr hnm hP hS hl => ?_)
  have hl : lv_has ls 2 [(0, .ref (b + 93))] := hl
  have hfr : ∀ j, j ≠ 97 → E j = E j := fun _ _ => rfl
  refine lv_iconst (v := nI 0) X.1 X.2.1 dX4_fillUnions_0 (by decide) ?_
  refine lv_istore_n (lv' := [(1, .int (nI 0)), (0, .ref (b + 93))]) X.1 X.2.1 dX4_fillUnions_1 rfl hl (by decide) rfl (fun ls hl => ?_)
  have L2 : ∀ (fu : Nat) (i : Nat) (un1 : Nat → Nat), sc - i < fu → (i ≤ sc) → (∀ S, S < i → wm_un mk sc S (un1 S)) → ∀ (E1 : Nat → va_E) (H : Heap) (locs : List Loc) (ls : Array Slot), wm_P D b n E1 H → wm_S b s.heap H locs → E1 93 = .inr (4, [.ref (b + 94), .ref (b + 95), .ref (b + 96), .ref (b + 97), .ref (b + 98), .ref (b + 99), .int (nI sc), .int (nI mc)]) → E1 95 = wm_Z C 2048 mk → E1 97 = wm_I C 2048 un1 → (∀ j, j ≠ 97 → E1 j = E j) → lv_has ls 2 [(0, .ref (b + 93)), (1, .int (nI i))] → W p l e R s m args below meth c H locs 0 0 Q (F0 m 2 ls []) := by
    intro fu
    induction fu with
    | zero => intro i un1 hm; exact absurd hm (Nat.not_lt_zero _)
    | succ fu ih2 =>
      intro i un1 hm hi h1 E1 H locs ls hP hS hE0 hE1 hE2 hfr hl
      refine lv_iload_n X.1 X.2.1 dX4_fillUnions_2 rfl (lv_at hl 1 rfl) ?_
      refine lv_aload_n X.1 X.2.1 dX4_fillUnions_3 rfl (lv_at hl 0 rfl) ?_
      refine wm_get X hP hlt0 hE0 rfl wm_inX4 6 (by decide) wq1_160 rfl dX4_fillUnions_4 ?_
      refine wm_icmp_ge (x := i) (y := sc) (tgt := 40) X (by omega) (by omega) dX4_fillUnions_7 (by decide) (fun hc7 => ?_) (fun hc7 => ?_)
      · exact wm_vret (post := pX4_fillUnions C b E sc mc mk un) X hr hP hS ⟨un1, hE2, hfr, (fun S h => h1 S (by omega))⟩ hQ dX4_fillUnions_40
      · refine lv_aload_n X.1 X.2.1 dX4_fillUnions_10 rfl (lv_at hl 0 rfl) ?_
        refine wm_get X hP hlt0 hE0 rfl wm_inX4 3 (by decide) wq1_157 rfl dX4_fillUnions_11 ?_
        refine lv_iload_n X.1 X.2.1 dX4_fillUnions_14 rfl (lv_at hl 1 rfl) ?_
        refine lv_aload_n X.1 X.2.1 dX4_fillUnions_15 rfl (lv_at hl 0 rfl) ?_
        refine wm_get X hP hlt0 hE0 rfl wm_inX4 1 (by decide) wq1_155 rfl dX4_fillUnions_16 ?_
        refine lv_iload_n X.1 X.2.1 dX4_fillUnions_19 rfl (lv_at hl 1 rfl) ?_
        refine wm_zald (i := i) X hP hlt1 hE1 (by omega) (by decide) dX4_fillUnions_20 ?_
        refine wm_ifz_eq (x := (mk i)) (tgt := 28) X dX4_fillUnions_21 (by decide) (fun hc21 => ?_) (fun hc21 => ?_)
        · refine lv_aload_n X.1 X.2.1 dX4_fillUnions_28 rfl (lv_at hl 0 rfl) ?_
          refine lv_iload_n X.1 X.2.1 dX4_fillUnions_29 rfl (lv_at hl 1 rfl) ?_
          refine wm_callVi (k := 1) (As := [.int (nI i)]) (rest := [.int (nI i), .ref (b + 97)]) X hP hS hlt0 hE0 rfl (kX4_unionOfSmaller l D C b n E1 sc mc i un1 hlt0 hE0 hlt2 hE2 (by omega)) wq5_9 wq5_11 wqP2_14 wq1_6 wq5_12 (by decide) (by rw [hRe]; exact ⟨Nat.le_of_ble_eq_true rfl, Nat.le_of_ble_eq_true rfl⟩) rfl hl.1 rfl (Nat.le_of_ble_eq_true rfl) (Nat.zero_le _) (Nat.zero_le _) dX4_fillUnions_30 (fun r4 E4 H locs hw hP hS => ?_)
          obtain ⟨hrt, hEe⟩ := hw
          subst hrt
          subst hEe
          refine wm_iast (i := i) (x := (wm_us un1 i)) X hP hS hlt2 hE2 (by omega) (by decide) dX4_fillUnions_33 (fun H locs E5 hP hS hE2 hq => ?_)
          have hE0 := (hq 93 (by decide)).trans hE0
          have hE1 := (hq 95 (by decide)).trans hE1
          have hfr : ∀ j, j ≠ 97 → E5 j = E j := fun j h0 => (hq j h0).trans (hfr j h0)
          refine lv_iinc (v := nI (i + 1)) (lv' := [(1, .int (nI (i + 1))), (0, .ref (b + 93))]) X.1 X.2.1 dX4_fillUnions_34 hl (k := 1) rfl (wm_inc i) (by decide) rfl (fun ls hl => ?_)
          refine lv_goto (tgt := 2) X.1 X.2.1 dX4_fillUnions_37 (by decide) ?_
          exact ih2 (i + 1) (va_up un1 i (wm_us un1 i)) (by omega) (by omega) (wm_uns h1 (wm_un2 hc21 (by omega) h1)) E5 _ _ _ hP hS hE0 hE1 hE2 hfr (lv_sub hl [1, 0] rfl)
        · refine lv_iload_n X.1 X.2.1 dX4_fillUnions_24 rfl (lv_at hl 1 rfl) ?_
          refine lv_goto (tgt := 33) X.1 X.2.1 dX4_fillUnions_25 (by decide) ?_
          refine wm_iast (i := i) (x := i) X hP hS hlt2 hE2 (by omega) (by decide) dX4_fillUnions_33 (fun H locs E6 hP hS hE2 hq => ?_)
          have hE0 := (hq 93 (by decide)).trans hE0
          have hE1 := (hq 95 (by decide)).trans hE1
          have hfr : ∀ j, j ≠ 97 → E6 j = E j := fun j h0 => (hq j h0).trans (hfr j h0)
          refine lv_iinc (v := nI (i + 1)) (lv' := [(1, .int (nI (i + 1))), (0, .ref (b + 93))]) X.1 X.2.1 dX4_fillUnions_34 hl (k := 1) rfl (wm_inc i) (by decide) rfl (fun ls hl => ?_)
          refine lv_goto (tgt := 2) X.1 X.2.1 dX4_fillUnions_37 (by decide) ?_
          exact ih2 (i + 1) (va_up un1 i i) (by omega) (by omega) (wm_uns h1 (wm_un1 hc21 (by omega))) E6 _ _ _ hP hS hE0 hE1 hE2 hfr (lv_sub hl [1, 0] rfl)
  exact L2 (sc - 0 + 1) 0 un (Nat.lt_succ_self _) (by omega) (fun S h => absurd h (Nat.not_lt_zero _)) E _ _ _ hP hS hE0 hE1 hE2 hfr (lv_sub hl [1, 0] rfl)
def pX4_countRests (C : Nat → ClassId) (b : Nat) (E : Nat → va_E) (sc mc t tg cn st en t2 tg2 : Nat) (sp : Nat → Nat) (mk : Nat → Bool) (mt un g g2 : Nat → Nat) : Int32 → (Nat → va_E) → Prop := fun r E' => ∃ (sp1 : Nat → Nat) (mk1 : Nat → Bool) (mt1 : Nat → Nat) (un1 : Nat → Nat), r = nI ((wm_vf (fun j => un1 ((2 ^ cn - 1) &&& ((wm_sets g cn st).getD j 0 ^^^ 4294967295))) (wm_sets g cn st).length []).length) ∧ E' 93 = .inr (4, [.ref (b + 94), .ref (b + 95), .ref (b + 96), .ref (b + 97), .ref (b + 98), .ref (b + 99), .int (nI (2 ^ cn)), .int (nI ((wm_sets g cn st).length))]) ∧ E' 94 = wm_I C 16384 sp1 ∧ E' 95 = wm_Z C 2048 mk1 ∧ E' 96 = wm_I C 2048 mt1 ∧ E' 97 = wm_I C 2048 un1 ∧ (∀ j, j ≠ 93 → j ≠ 94 → j ≠ 95 → j ≠ 96 → j ≠ 97 → E' j = E j) ∧ (∀ S, S < 2 ^ cn → wm_un (fun x => decide (x ∈ (wm_sets g2 cn en))) (2 ^ cn) S (un1 S))
set_option maxHeartbeats 4000000 in
set_option maxRecDepth 100000 in
theorem kX4_countRests (l : Launch) (D : va_G) (C : Nat → ClassId) (b n : Nat) (E : Nat → va_E) (sc mc t tg cn st en t2 tg2 : Nat) (sp : Nat → Nat) (mk : Nat → Bool) (mt un g g2 : Nat → Nat) (hlt0 : 93 < n) (hE0 : E 93 = .inr (4, [.ref (b + 94), .ref (b + 95), .ref (b + 96), .ref (b + 97), .ref (b + 98), .ref (b + 99), .int (nI sc), .int (nI mc)])) (hlt1 : 94 < n) (hE1 : E 94 = wm_I C 16384 sp) (hlt2 : 95 < n) (hE2 : E 95 = wm_Z C 2048 mk) (hlt3 : 96 < n) (hE3 : E 96 = wm_I C 2048 mt) (hlt4 : 97 < n) (hE4 : E 97 = wm_I C 2048 un) (hlt5 : t < n) (hE5 : E t = .inr (2, [.ref (b + tg), .int (nI cn), .int (nI st), .int (nI en)])) (hlt6 : tg < n) (hE6 : E tg = wm_I C 192 g) (hlt7 : t2 < n) (hE7 : E t2 = .inr (2, [.ref (b + tg2), .int (nI cn), .int (nI en), .int (nI st)])) (hlt8 : tg2 < n) (hE8 : E tg2 = wm_I C 192 g2) (hmt : t < 4 ∨ 103 ≤ t) (hmg : tg < 4 ∨ 103 ≤ tg) (hne : t ≠ tg) (hmt2 : t2 < 4 ∨ 103 ≤ t2) (hmg2 : tg2 < 4 ∨ 103 ≤ tg2) (hne2 : t2 ≠ tg2) (hc : cn ≤ 11) (hst : st < 2 ^ cn) (hen : en < 2 ^ cn) (hg : ∀ a x, a < 8 → x < cn → g (a * 24 + x) < 2 ^ cn) (hg2 : ∀ a x, a < 8 → x < cn → g2 (a * 24 + x) < 2 ^ cn) : Met l yX4_countRests (wm_ws yX4_countRests cX4_countRests 6 (some .int)) { frames := 3, cells := 0, slots := 0, locals := 70 } (va_Pc [.ref (b + 93), .ref (b + t), .ref (b + t2)] (wm_G D C b n E)) (va_Qi (pX4_countRests C b E sc mc t tg cn st en t2 tg2 sp mk mt un g g2) (fun E' t => wm_P D b n E' t.heap) (wm_A b)) 0 0 (wm_A b) := by
  refine wm_ofW (by decide) (Nat.le_of_ble_eq_true rfl) (fun p e s m below meth c ls R args Q hRe hQ X hr hnm hP hS hl => ?_)
  have hl : lv_has ls 6 [(0, .ref (b + 93)), (1, .ref (b + t)), (2, .ref (b + t2))] := hl
  have hfr : ∀ j, j ≠ 93 → j ≠ 94 → j ≠ 95 → j ≠ 96 → j ≠ 97 → E j = E j := fun _ _ _ _ _ _ => rfl
  have h2c : 2 ^ cn ≤ 2048 := Nat.pow_le_pow_right (show 0 < 2 by decide) hc
  have h2p : 0 < 2 ^ cn := Nat.two_pow_pos cn
  refine lv_aload_n X.1 X.2.1 dX4_countRests_0 rfl (lv_at hl 0 rfl) ?_
  refine lv_aload_n X.1 X.2.1 dX4_countRests_1 rfl (lv_at hl 2 rfl) ?_
  refine wm_callVv (k := 1) (As := [.ref (b + t2)]) (rest := []) X hP hS hlt0 hE0 rfl (kX4_meetAll l D C b n E sc mc t2 tg2 cn en st sp mk mt g2 hlt0 hE0 hlt1 hE1 hlt2 hE2 hlt3 hE3 hlt7 hE7 hlt8 hE8 (by omega) (by omega) (by omega) (by omega) hen hg2) wq4_197 wq4_198 wq4_199 wq1_6 wq4_200 (by decide) (by rw [hRe]; exact ⟨Nat.le_of_ble_eq_true rfl, Nat.le_of_ble_eq_true rfl⟩) rfl hl.1 rfl (Nat.le_of_ble_eq_true rfl) (Nat.zero_le _) (Nat.zero_le _) dX4_countRests_2 (fun E1 H locs hw hP hS => ?_)
  obtain ⟨sp11, mk11, mt11, hE0, hE1, hE2, hE3, hq, hp1_0, hp1_1⟩ := hw
  have hE4 := (hq 97 (by decide) (by decide) (by decide) (by decide)).trans hE4
  have hE5 := (hq t (by omega) (by omega) (by omega) (by omega)).trans hE5
  have hE6 := (hq tg (by omega) (by omega) (by omega) (by omega)).trans hE6
  have hE7 := (hq t2 (by omega) (by omega) (by omega) (by omega)).trans hE7
  have hE8 := (hq tg2 (by omega) (by omega) (by omega) (by omega)).trans hE8
  have hfr : ∀ j, j ≠ 93 → j ≠ 94 → j ≠ 95 → j ≠ 96 → j ≠ 97 → E1 j = E j := fun j h0 h1 h2 h3 h4 => (hq j h0 h1 h2 h3).trans (hfr j h0 h1 h2 h3 h4)
  have hml2 := hp1_1
  refine lv_aload_n X.1 X.2.1 dX4_countRests_5 rfl (lv_at hl 0 rfl) ?_
  refine wm_callVv (k := 0) (As := []) (rest := []) X hP hS hlt0 hE0 rfl (kX4_fillUnions l D C b n E1 (2 ^ cn) ((wm_sets g2 cn en).length) mk11 un hlt0 hE0 hlt2 hE2 hlt4 hE4 h2c) wq5_5 wq5_7 wqP2_13 wq1_6 wq5_8 (by decide) (by rw [hRe]; exact ⟨Nat.le_of_ble_eq_true rfl, Nat.le_of_ble_eq_true rfl⟩) rfl hl.1 rfl (Nat.le_of_ble_eq_true rfl) (Nat.zero_le _) (Nat.zero_le _) dX4_countRests_6 (fun E2 H locs hw hP hS => ?_)
  obtain ⟨un12, hE4, hq, hp2_0⟩ := hw
  have hE0 := (hq 93 (by decide)).trans hE0
  have hE1 := (hq 94 (by decide)).trans hE1
  have hE2 := (hq 95 (by decide)).trans hE2
  have hE3 := (hq 96 (by decide)).trans hE3
  have hE5 := (hq t (by omega)).trans hE5
  have hE6 := (hq tg (by omega)).trans hE6
  have hE7 := (hq t2 (by omega)).trans hE7
  have hE8 := (hq tg2 (by omega)).trans hE8
  have hfr : ∀ j, j ≠ 93 → j ≠ 94 → j ≠ 95 → j ≠ 96 → j ≠ 97 → E2 j = E j := fun j h0 h1 h2 h3 h4 => (hq j h4).trans (hfr j h0 h1 h2 h3 h4)
  have hun := hp2_0
  obtain ⟨unn, hunn⟩ : ∃ z : Nat → Nat, z = un12 := ⟨_, rfl⟩
  rw [← hunn] at hun hE4
  refine lv_aload_n X.1 X.2.1 dX4_countRests_9 rfl (lv_at hl 0 rfl) ?_
  refine lv_aload_n X.1 X.2.1 dX4_countRests_10 rfl (lv_at hl 1 rfl) ?_
  refine wm_callVv (k := 1) (As := [.ref (b + t)]) (rest := []) X hP hS hlt0 hE0 rfl (kX4_meetAll l D C b n E2 (2 ^ cn) ((wm_sets g2 cn en).length) t tg cn st en sp11 mk11 mt11 g hlt0 hE0 hlt1 hE1 hlt2 hE2 hlt3 hE3 hlt5 hE5 hlt6 hE6 (by omega) (by omega) (by omega) (by omega) hst hg) wq4_197 wq4_198 wq4_199 wq1_6 wq4_200 (by decide) (by rw [hRe]; exact ⟨Nat.le_of_ble_eq_true rfl, Nat.le_of_ble_eq_true rfl⟩) rfl hl.1 rfl (Nat.le_of_ble_eq_true rfl) (Nat.zero_le _) (Nat.zero_le _) dX4_countRests_11 (fun E3 H locs hw hP hS => ?_)
  obtain ⟨sp13, mk13, mt13, hE0, hE1, hE2, hE3, hq, hp3_0, hp3_1⟩ := hw
  have hE4 := (hq 97 (by decide) (by decide) (by decide) (by decide)).trans hE4
  have hE5 := (hq t (by omega) (by omega) (by omega) (by omega)).trans hE5
  have hE6 := (hq tg (by omega) (by omega) (by omega) (by omega)).trans hE6
  have hE7 := (hq t2 (by omega) (by omega) (by omega) (by omega)).trans hE7
  have hE8 := (hq tg2 (by omega) (by omega) (by omega) (by omega)).trans hE8
  have hfr : ∀ j, j ≠ 93 → j ≠ 94 → j ≠ 95 → j ≠ 96 → j ≠ 97 → E3 j = E j := fun j h0 h1 h2 h3 h4 => (hq j h0 h1 h2 h3).trans (hfr j h0 h1 h2 h3 h4)
  have hml := hp3_1
  have hlen2 := wm_ml_len hml
  refine lv_aload_n X.1 X.2.1 dX4_countRests_14 rfl (lv_at hl 0 rfl) ?_
  refine wm_callVv (k := 0) (As := []) (rest := []) X hP hS hlt0 hE0 rfl (kX4_clearMarks l D C b n E3 (2 ^ cn) ((wm_sets g cn st).length) mk13 hlt0 hE0 hlt2 hE2 h2c) wq4_202 wq4_204 wqP2_8 wq1_6 wq4_205 (by decide) (by rw [hRe]; exact ⟨Nat.le_of_ble_eq_true rfl, Nat.le_of_ble_eq_true rfl⟩) rfl hl.1 rfl (Nat.le_of_ble_eq_true rfl) (Nat.zero_le _) (Nat.zero_le _) dX4_countRests_15 (fun E4 H locs hw hP hS => ?_)
  obtain ⟨mk14, hE2, hq, hp4_0⟩ := hw
  have hE0 := (hq 93 (by decide)).trans hE0
  have hE1 := (hq 94 (by decide)).trans hE1
  have hE3 := (hq 96 (by decide)).trans hE3
  have hE4 := (hq 97 (by decide)).trans hE4
  have hE5 := (hq t (by omega)).trans hE5
  have hE6 := (hq tg (by omega)).trans hE6
  have hE7 := (hq t2 (by omega)).trans hE7
  have hE8 := (hq tg2 (by omega)).trans hE8
  have hfr : ∀ j, j ≠ 93 → j ≠ 94 → j ≠ 95 → j ≠ 96 → j ≠ 97 → E4 j = E j := fun j h0 h1 h2 h3 h4 => (hq j h2).trans (hfr j h0 h1 h2 h3 h4)
  refine lv_aload_n X.1 X.2.1 dX4_countRests_18 rfl (lv_at hl 0 rfl) ?_
  refine wm_get X hP hlt0 hE0 rfl wm_inX4 6 (by decide) wq1_160 rfl dX4_countRests_19 ?_
  refine lv_iconst (v := nI 1) X.1 X.2.1 dX4_countRests_22 (by decide) ?_
  refine wm_isub (x := (2 ^ cn)) (y := 1) X (by omega) dX4_countRests_23 ?_
  refine lv_istore_n (lv' := [(3, .int (nI ((2 ^ cn) - 1))), (0, .ref (b + 93)), (1, .ref (b + t)), (2, .ref (b + t2))]) X.1 X.2.1 dX4_countRests_24 rfl hl (by decide) rfl (fun ls hl => ?_)
  refine lv_iconst (v := nI 0) X.1 X.2.1 dX4_countRests_25 (by decide) ?_
  refine lv_istore (lv' := [(4, .int (nI 0)), (3, .int (nI ((2 ^ cn) - 1))), (0, .ref (b + 93)), (1, .ref (b + t)), (2, .ref (b + t2))]) X.1 X.2.1 dX4_countRests_26 hl (by decide) rfl (fun ls hl => ?_)
  refine lv_iconst (v := nI 0) X.1 X.2.1 dX4_countRests_28 (by decide) ?_
  refine lv_istore (lv' := [(5, .int (nI 0)), (4, .int (nI 0)), (3, .int (nI ((2 ^ cn) - 1))), (0, .ref (b + 93)), (1, .ref (b + t)), (2, .ref (b + t2))]) X.1 X.2.1 dX4_countRests_29 hl (by decide) rfl (fun ls hl => ?_)
  have L31 : ∀ (fu : Nat) (k : Nat) (i : Nat) (mk2 : Nat → Bool), (wm_sets g cn st).length - i < fu → (i ≤ (wm_sets g cn st).length) → (k = (wm_vf (fun j => unn ((2 ^ cn - 1) &&& ((wm_sets g cn st).getD j 0 ^^^ 4294967295))) i []).length) → (∀ S, S < 2 ^ cn → mk2 S = decide (S ∈ wm_vf (fun j => unn ((2 ^ cn - 1) &&& ((wm_sets g cn st).getD j 0 ^^^ 4294967295))) i [])) → ∀ (E5 : Nat → va_E) (H : Heap) (locs : List Loc) (ls : Array Slot), wm_P D b n E5 H → wm_S b s.heap H locs → E5 93 = .inr (4, [.ref (b + 94), .ref (b + 95), .ref (b + 96), .ref (b + 97), .ref (b + 98), .ref (b + 99), .int (nI (2 ^ cn)), .int (nI ((wm_sets g cn st).length))]) → E5 94 = wm_I C 16384 sp13 → E5 95 = wm_Z C 2048 mk2 → E5 96 = wm_I C 2048 mt13 → E5 97 = wm_I C 2048 unn → E5 t = .inr (2, [.ref (b + tg), .int (nI cn), .int (nI st), .int (nI en)]) → E5 tg = wm_I C 192 g → E5 t2 = .inr (2, [.ref (b + tg2), .int (nI cn), .int (nI en), .int (nI st)]) → E5 tg2 = wm_I C 192 g2 → (∀ j, j ≠ 93 → j ≠ 94 → j ≠ 95 → j ≠ 96 → j ≠ 97 → E5 j = E j) → lv_has ls 6 [(0, .ref (b + 93)), (1, .ref (b + t)), (2, .ref (b + t2)), (3, .int (nI (2 ^ cn - 1))), (4, .int (nI k)), (5, .int (nI i))] → W p l e R s m args below meth c H locs 0 0 Q (F0 m 31 ls []) := by
    intro fu
    induction fu with
    | zero => intro k i mk2 hm; exact absurd hm (Nat.not_lt_zero _)
    | succ fu ih31 =>
      intro k i mk2 hm hi hk hm2 E5 H locs ls hP hS hE0 hE1 hE2 hE3 hE4 hE5 hE6 hE7 hE8 hfr hl
      refine lv_iload X.1 X.2.1 dX4_countRests_31 (lv_at hl 5 rfl) ?_
      refine lv_aload_n X.1 X.2.1 dX4_countRests_33 rfl (lv_at hl 0 rfl) ?_
      refine wm_get X hP hlt0 hE0 rfl wm_inX4 7 (by decide) wq1_162 rfl dX4_countRests_34 ?_
      refine wm_icmp_ge (x := i) (y := ((wm_sets g cn st).length)) (tgt := 72) X (by omega) (by omega) dX4_countRests_37 (by decide) (fun hc37 => ?_) (fun hc37 => ?_)
      · refine lv_iload X.1 X.2.1 dX4_countRests_72 (lv_at hl 4 rfl) ?_
        have hil : i = (wm_sets g cn st).length := by omega
        exact wm_iret (post := pX4_countRests C b E sc mc t tg cn st en t2 tg2 sp mk mt un g g2) X hr hP hS ⟨sp13, mk2, mt13, unn, (by rw [hk, hil]), hE0, hE1, hE2, hE3, hE4, hfr, (fun S hS i => (hun S hS i).trans (by constructor <;> (rintro ⟨T, q1, q2, q3, q4⟩; exact ⟨T, q1, by first | (rw [hml2.1 T q1] at q2; exact q2) | (show _ = true; rw [hml2.1 T q1]; exact q2), q3, q4⟩)))⟩ hQ dX4_countRests_74
      · refine lv_aload_n X.1 X.2.1 dX4_countRests_40 rfl (lv_at hl 0 rfl) ?_
        refine lv_aload_n X.1 X.2.1 dX4_countRests_41 rfl (lv_at hl 0 rfl) ?_
        refine wm_get X hP hlt0 hE0 rfl wm_inX4 3 (by decide) wq1_157 rfl dX4_countRests_42 ?_
        refine lv_iload_n X.1 X.2.1 dX4_countRests_45 rfl (lv_at hl 3 rfl) ?_
        refine lv_aload_n X.1 X.2.1 dX4_countRests_46 rfl (lv_at hl 0 rfl) ?_
        refine wm_get X hP hlt0 hE0 rfl wm_inX4 2 (by decide) wq1_156 rfl dX4_countRests_47 ?_
        refine lv_iload X.1 X.2.1 dX4_countRests_50 (lv_at hl 5 rfl) ?_
        refine wm_iald (i := i) X hP hlt3 hE3 (by omega) (by decide) dX4_countRests_52 ?_
        rw [show mt13 i = (wm_sets g cn st).getD i 0 from hml.2.1 i hc37]
        refine lv_iconst (v := nI 4294967295) X.1 X.2.1 dX4_countRests_53 (by decide) ?_
        refine wm_ixor (x := ((wm_sets g cn st).getD i 0)) (y := 4294967295) X dX4_countRests_54 ?_
        have hkey : (2 ^ cn - 1) &&& ((wm_sets g cn st).getD i 0 ^^^ 4294967295) < 2 ^ cn := Nat.lt_of_le_of_lt Nat.and_le_left (by omega)
        have hul := wm_un_lt (hun _ hkey) hkey
        refine wm_iand (x := (2 ^ cn - 1)) (y := (((wm_sets g cn st).getD i 0) ^^^ 4294967295)) X dX4_countRests_55 ?_
        refine wm_iald (i := ((2 ^ cn - 1) &&& (((wm_sets g cn st).getD i 0) ^^^ 4294967295))) X hP hlt4 hE4 (by omega) (by decide) dX4_countRests_56 ?_
        refine wm_callVi (k := 1) (As := [.int (nI (unn ((2 ^ cn - 1) &&& (((wm_sets g cn st).getD i 0) ^^^ 4294967295))))]) (rest := []) X hP hS hlt0 hE0 rfl (kX4_markNew l D C b n E5 (2 ^ cn) ((wm_sets g cn st).length) (unn ((2 ^ cn - 1) &&& (((wm_sets g cn st).getD i 0) ^^^ 4294967295))) mk2 hlt0 hE0 hlt2 hE2 (by omega)) wq4_210 wq4_212 wqP2_10 wq1_6 wq4_213 (by decide) (by rw [hRe]; exact ⟨Nat.le_of_ble_eq_true rfl, Nat.le_of_ble_eq_true rfl⟩) rfl hl.1 rfl (Nat.le_of_ble_eq_true rfl) (Nat.zero_le _) (Nat.zero_le _) dX4_countRests_57 (fun r7 E7 H locs hw hP hS => ?_)
        obtain ⟨hrt, hE2, hq⟩ := hw
        subst hrt
        have hE0 := (hq 93 (by decide)).trans hE0
        have hE1 := (hq 94 (by decide)).trans hE1
        have hE3 := (hq 96 (by decide)).trans hE3
        have hE4 := (hq 97 (by decide)).trans hE4
        have hE5 := (hq t (by omega)).trans hE5
        have hE6 := (hq tg (by omega)).trans hE6
        have hE7 := (hq t2 (by omega)).trans hE7
        have hE8 := (hq tg2 (by omega)).trans hE8
        have hfr : ∀ j, j ≠ 93 → j ≠ 94 → j ≠ 95 → j ≠ 96 → j ≠ 97 → E7 j = E j := fun j h0 h1 h2 h3 h4 => (hq j h2).trans (hfr j h0 h1 h2 h3 h4)
        have hdm := hm2 _ hul
        refine wm_ifz_eq (x := (!mk2 (unn ((2 ^ cn - 1) &&& (((wm_sets g cn st).getD i 0) ^^^ 4294967295))))) (tgt := 66) X dX4_countRests_60 (by decide) (fun hc60 => ?_) (fun hc60 => ?_)
        · have hvO := wm_dcO hdm (by simpa using hc60)
          refine lv_iinc (v := nI (i + 1)) (lv' := [(5, .int (nI (i + 1))), (0, .ref (b + 93)), (1, .ref (b + t)), (2, .ref (b + t2)), (3, .int (nI (2 ^ cn - 1))), (4, .int (nI k))]) X.1 X.2.1 dX4_countRests_66 hl (k := 5) rfl (wm_inc i) (by decide) rfl (fun ls hl => ?_)
          refine lv_goto (tgt := 31) X.1 X.2.1 dX4_countRests_69 (by decide) ?_
          exact ih31 k (i + 1) (va_up mk2 (unn ((2 ^ cn - 1) &&& (((wm_sets g cn st).getD i 0) ^^^ 4294967295))) true) (by omega) (by omega) (wm_dc1 hk hvO hk) (wm_dc2 hm2) E7 _ _ _ hP hS hE0 hE1 hE2 hE3 hE4 hE5 hE6 hE7 hE8 hfr (lv_sub hl [1, 2, 3, 4, 5, 0] rfl)
        · have hvN := wm_dcN hdm (by simpa using hc60)
          refine lv_iinc (v := nI (k + 1)) (lv' := [(4, .int (nI (k + 1))), (0, .ref (b + 93)), (1, .ref (b + t)), (2, .ref (b + t2)), (3, .int (nI (2 ^ cn - 1))), (5, .int (nI i))]) X.1 X.2.1 dX4_countRests_63 hl (k := 4) rfl (wm_inc k) (by decide) rfl (fun ls hl => ?_)
          refine lv_iinc (v := nI (i + 1)) (lv' := [(5, .int (nI (i + 1))), (4, .int (nI (k + 1))), (0, .ref (b + 93)), (1, .ref (b + t)), (2, .ref (b + t2)), (3, .int (nI (2 ^ cn - 1)))]) X.1 X.2.1 dX4_countRests_66 hl (k := 5) rfl (wm_inc i) (by decide) rfl (fun ls hl => ?_)
          refine lv_goto (tgt := 31) X.1 X.2.1 dX4_countRests_69 (by decide) ?_
          exact ih31 (k + 1) (i + 1) (va_up mk2 (unn ((2 ^ cn - 1) &&& (((wm_sets g cn st).getD i 0) ^^^ 4294967295))) true) (by omega) (by omega) (wm_dc1 hk hvN (by rw [hk]; simp)) (wm_dc2 hm2) E7 _ _ _ hP hS hE0 hE1 hE2 hE3 hE4 hE5 hE6 hE7 hE8 hfr (lv_sub hl [2, 3, 4, 5, 1, 0] rfl)
  exact L31 ((wm_sets g cn st).length - 0 + 1) 0 0 mk14 (Nat.lt_succ_self _) (by omega) rfl (fun S hS => by rw [hp4_0 S hS]; exact (decide_eq_false List.not_mem_nil).symm) E4 _ _ _ hP hS hE0 hE1 hE2 hE3 hE4 hE5 hE6 hE7 hE8 hfr (lv_sub hl [3, 4, 5, 2, 1, 0] rfl)
