def pntz0 (C : Nat → ClassId) (b : Nat) (E : Nat → va_E) (S : Nat) : Int32 → (Nat → va_E) → Prop := fun r E' => ∃ (r1 : Nat), r = nI r1 ∧ E = E' ∧ (r1 ≤ 32) ∧ (∀ j, j < r1 → S.testBit j = false) ∧ (0 < S → S.testBit r1 = true)
set_option maxHeartbeats 4000000 in
set_option maxRecDepth 100000 in
theorem kntz0 (l : Launch) (D : va_G) (C : Nat → ClassId) (b n : Nat) (E : Nat → va_E) (S : Nat) (h0 : S = 0) : Met l yJ6_numberOfTrailingZeros_0f7a4 (wm_ws yJ6_numberOfTrailingZeros_0f7a4 cJ6_numberOfTrailingZeros_0f7a4 2 (some .int)) { frames := 0, cells := 0, slots := 0, locals := 0 } (va_Pc [.int (nI S)] (wm_G D C b n E)) (va_Qi (pntz0 C b E S) (fun E' t => wm_P D b n E' t.heap) (wm_A b)) 0 0 (wm_A b) := by
  refine wm_ofW (by decide) (Nat.le_of_ble_eq_true rfl) (fun p e s m below meth c ls R args Q hRe hQ X hr hnm hP hS hl => ?_)
  have hl : lv_has ls 2 [(0, .int (nI S))] := hl
  refine lv_iload_n X.1 X.2.1 dJ6_numberOfTrailingZeros_0f7a4_0 rfl (lv_at hl 0 rfl) ?_
  refine lv_iconst (v := nI 4294967295) X.1 X.2.1 dJ6_numberOfTrailingZeros_0f7a4_1 (by decide) ?_
  refine wm_ixor (x := S) (y := 4294967295) X dJ6_numberOfTrailingZeros_0f7a4_2 ?_
  refine lv_iload_n X.1 X.2.1 dJ6_numberOfTrailingZeros_0f7a4_3 rfl (lv_at hl 0 rfl) ?_
  refine lv_iconst (v := nI 1) X.1 X.2.1 dJ6_numberOfTrailingZeros_0f7a4_4 (by decide) ?_
  refine lv_isub X.1 X.2.1 dJ6_numberOfTrailingZeros_0f7a4_5 ?_
  rw [show nI S - nI 1 = nI 4294967295 from by rw [h0]; decide]
  refine wm_iand (x := (S ^^^ 4294967295)) (y := 4294967295) X dJ6_numberOfTrailingZeros_0f7a4_6 ?_
  rw [show (S ^^^ 4294967295) &&& 4294967295 = 4294967295 from by rw [h0]; decide]
  refine lv_istore_n (lv' := [(0, .int (nI 4294967295))]) X.1 X.2.1 dJ6_numberOfTrailingZeros_0f7a4_7 rfl hl (by decide) rfl (fun ls hl => ?_)
  refine lv_iload_n X.1 X.2.1 dJ6_numberOfTrailingZeros_0f7a4_8 rfl (lv_at hl 0 rfl) ?_
  refine lv_if_gt (tgt := 17) X.1 X.2.1 dJ6_numberOfTrailingZeros_0f7a4_9 (by decide) (fun h => absurd h (by decide)) (fun _ => ?_)
  refine lv_iload_n X.1 X.2.1 dJ6_numberOfTrailingZeros_0f7a4_12 rfl (lv_at hl 0 rfl) ?_
  refine lv_bipush (v := nI 32) X.1 X.2.1 dJ6_numberOfTrailingZeros_0f7a4_13 (by decide) ?_
  refine wm_iand (x := 4294967295) (y := 32) X dJ6_numberOfTrailingZeros_0f7a4_15 ?_
  exact wm_iret (post := pntz0 C b E S) X hr hP hS ⟨32, (by decide), rfl, (Nat.le_refl _), (fun j _ => by rw [h0, Nat.zero_testBit]), (fun h => absurd h (by omega))⟩ hQ dJ6_numberOfTrailingZeros_0f7a4_16
def pntz1 (C : Nat → ClassId) (b : Nat) (E : Nat → va_E) (S : Nat) : Int32 → (Nat → va_E) → Prop := fun r E' => ∃ (r1 : Nat), r = nI r1 ∧ E = E' ∧ (r1 ≤ 32) ∧ (∀ j, j < r1 → S.testBit j = false) ∧ (0 < S → S.testBit r1 = true)
set_option maxHeartbeats 4000000 in
set_option maxRecDepth 100000 in
theorem kntz1 (l : Launch) (D : va_G) (C : Nat → ClassId) (b n : Nat) (E : Nat → va_E) (S : Nat) (h0 : 0 < S) (hSb : S < 2 ^ 31) : Met l yJ6_numberOfTrailingZeros_0f7a4 (wm_ws yJ6_numberOfTrailingZeros_0f7a4 cJ6_numberOfTrailingZeros_0f7a4 2 (some .int)) { frames := 0, cells := 0, slots := 0, locals := 0 } (va_Pc [.int (nI S)] (wm_G D C b n E)) (va_Qi (pntz1 C b E S) (fun E' t => wm_P D b n E' t.heap) (wm_A b)) 0 0 (wm_A b) := by
  refine wm_ofW (by decide) (Nat.le_of_ble_eq_true rfl) (fun p e s m below meth c ls R args Q hRe hQ X hr hnm hP hS hl => ?_)
  have hl : lv_has ls 2 [(0, .int (nI S))] := hl
  obtain ⟨k, hk, hz, hbit, hlow⟩ := wm_low h0 hSb
  have hpk : 0 < 2 ^ k := Nat.two_pow_pos k
  have hpk2 : 2 ^ k ≤ 2 ^ 30 := Nat.pow_le_pow_right (by decide) (by omega)
  generalize hzz : (S ^^^ 4294967295) &&& (S - 1) = z at hz
  have hz31 : z < 2 ^ 31 := by omega
  refine lv_iload_n X.1 X.2.1 dJ6_numberOfTrailingZeros_0f7a4_0 rfl (lv_at hl 0 rfl) ?_
  refine lv_iconst (v := nI 4294967295) X.1 X.2.1 dJ6_numberOfTrailingZeros_0f7a4_1 (by decide) ?_
  refine wm_ixor (x := S) (y := 4294967295) X dJ6_numberOfTrailingZeros_0f7a4_2 ?_
  refine lv_iload_n X.1 X.2.1 dJ6_numberOfTrailingZeros_0f7a4_3 rfl (lv_at hl 0 rfl) ?_
  refine lv_iconst (v := nI 1) X.1 X.2.1 dJ6_numberOfTrailingZeros_0f7a4_4 (by decide) ?_
  refine wm_isub (x := S) (y := 1) X (by omega) dJ6_numberOfTrailingZeros_0f7a4_5 ?_
  refine wm_iand (x := (S ^^^ 4294967295)) (y := (S - 1)) X dJ6_numberOfTrailingZeros_0f7a4_6 ?_
  rw [show (S ^^^ 4294967295) &&& (S - 1) = z from hzz]
  refine lv_istore_n (lv' := [(0, .int (nI z))]) X.1 X.2.1 dJ6_numberOfTrailingZeros_0f7a4_7 rfl hl (by decide) rfl (fun ls hl => ?_)
  refine lv_iload_n X.1 X.2.1 dJ6_numberOfTrailingZeros_0f7a4_8 rfl (lv_at hl 0 rfl) ?_
  refine wm_if_gt (x := z) (tgt := 17) X (by omega) dJ6_numberOfTrailingZeros_0f7a4_9 (by decide) (fun hc9 => ?_) (fun hc9 => ?_)
  · have hk0 : 0 < k := Nat.pos_of_ne_zero (fun q => by rw [q] at hz; simp at hz; omega)
    have hkF := wm_nzk k hk hk0
    refine lv_iconst (v := nI 1) X.1 X.2.1 dJ6_numberOfTrailingZeros_0f7a4_17 (by decide) ?_
    refine lv_istore_n (lv' := [(1, .int (nI 1)), (0, .int (nI z))]) X.1 X.2.1 dJ6_numberOfTrailingZeros_0f7a4_18 rfl hl (by decide) rfl (fun ls hl => ?_)
    refine lv_iload_n X.1 X.2.1 dJ6_numberOfTrailingZeros_0f7a4_19 rfl (lv_at hl 1 rfl) ?_
    refine wm_ldcw (v := nI 65536) X wq3_100 dJ6_numberOfTrailingZeros_0f7a4_20 ?_
    refine wm_icmp_le (x := z) (y := 65536) (tgt := 34) X (by omega) (by decide) dJ6_numberOfTrailingZeros_0f7a4_23 (by decide) (fun hc23 => ?_) (fun hc23 => ?_)
    · refine lv_iload_n X.1 X.2.1 dJ6_numberOfTrailingZeros_0f7a4_34 rfl (lv_at hl 1 rfl) ?_
      refine lv_sipush (v := nI 256) X.1 X.2.1 dJ6_numberOfTrailingZeros_0f7a4_35 (by decide) ?_
      refine wm_icmp_le (x := z) (y := 256) (tgt := 49) X (by omega) (by decide) dJ6_numberOfTrailingZeros_0f7a4_38 (by decide) (fun hc38 => ?_) (fun hc38 => ?_)
      · refine lv_iload_n X.1 X.2.1 dJ6_numberOfTrailingZeros_0f7a4_49 rfl (lv_at hl 1 rfl) ?_
        refine lv_bipush (v := nI 16) X.1 X.2.1 dJ6_numberOfTrailingZeros_0f7a4_50 (by decide) ?_
        refine wm_icmp_le (x := z) (y := 16) (tgt := 62) X (by omega) (by decide) dJ6_numberOfTrailingZeros_0f7a4_52 (by decide) (fun hc52 => ?_) (fun hc52 => ?_)
        · refine lv_iload_n X.1 X.2.1 dJ6_numberOfTrailingZeros_0f7a4_62 rfl (lv_at hl 1 rfl) ?_
          refine lv_iconst (v := nI 4) X.1 X.2.1 dJ6_numberOfTrailingZeros_0f7a4_63 (by decide) ?_
          refine wm_icmp_le (x := z) (y := 4) (tgt := 74) X (by omega) (by decide) dJ6_numberOfTrailingZeros_0f7a4_64 (by decide) (fun hc64 => ?_) (fun hc64 => ?_)
          · refine lv_iload_n X.1 X.2.1 dJ6_numberOfTrailingZeros_0f7a4_74 rfl (lv_at hl 0 rfl) ?_
            refine lv_iload_n X.1 X.2.1 dJ6_numberOfTrailingZeros_0f7a4_75 rfl (lv_at hl 1 rfl) ?_
            refine lv_iconst (v := nI 1) X.1 X.2.1 dJ6_numberOfTrailingZeros_0f7a4_76 (by decide) ?_
            refine wm_iushr (x := z) (y := 1) X (by omega) (by omega) dJ6_numberOfTrailingZeros_0f7a4_77 ?_
            refine wm_iadd (x := 1) (y := (z >>> 1)) X dJ6_numberOfTrailingZeros_0f7a4_78 ?_
            exact wm_iret (post := pntz1 C b E S) X hr hP hS ⟨k, (congrArg nI (by rw [← hkF, ← hz]; unfold wm_nz1 wm_nz2 wm_nz3 wm_nz4; repeat (first | rw [if_pos (by omega)] | rw [if_neg (by omega)]))), rfl, (by omega), hlow, (fun _ => hbit)⟩ hQ dJ6_numberOfTrailingZeros_0f7a4_79
          · refine lv_iinc (v := nI 3) (lv' := [(1, .int (nI 3)), (0, .int (nI z))]) X.1 X.2.1 dJ6_numberOfTrailingZeros_0f7a4_67 hl (k := 0) rfl (by decide) (by decide) rfl (fun ls hl => ?_)
            refine lv_iload_n X.1 X.2.1 dJ6_numberOfTrailingZeros_0f7a4_70 rfl (lv_at hl 1 rfl) ?_
            refine lv_iconst (v := nI 2) X.1 X.2.1 dJ6_numberOfTrailingZeros_0f7a4_71 (by decide) ?_
            refine wm_iushr (x := z) (y := 2) X (by omega) (by omega) dJ6_numberOfTrailingZeros_0f7a4_72 ?_
            refine lv_istore_n (lv' := [(0, .int (nI (z >>> 2))), (1, .int (nI 3))]) X.1 X.2.1 dJ6_numberOfTrailingZeros_0f7a4_73 rfl hl (by decide) rfl (fun ls hl => ?_)
            refine lv_iload_n X.1 X.2.1 dJ6_numberOfTrailingZeros_0f7a4_74 rfl (lv_at hl 1 rfl) ?_
            refine lv_iload_n X.1 X.2.1 dJ6_numberOfTrailingZeros_0f7a4_75 rfl (lv_at hl 0 rfl) ?_
            refine lv_iconst (v := nI 1) X.1 X.2.1 dJ6_numberOfTrailingZeros_0f7a4_76 (by decide) ?_
            refine wm_iushr (x := (z >>> 2)) (y := 1) X (by omega) (by omega) dJ6_numberOfTrailingZeros_0f7a4_77 ?_
            refine wm_iadd (x := 3) (y := ((z >>> 2) >>> 1)) X dJ6_numberOfTrailingZeros_0f7a4_78 ?_
            exact wm_iret (post := pntz1 C b E S) X hr hP hS ⟨k, (congrArg nI (by rw [← hkF, ← hz]; unfold wm_nz1 wm_nz2 wm_nz3 wm_nz4; repeat (first | rw [if_pos (by omega)] | rw [if_neg (by omega)]))), rfl, (by omega), hlow, (fun _ => hbit)⟩ hQ dJ6_numberOfTrailingZeros_0f7a4_79
        · refine lv_iinc (v := nI 5) (lv' := [(1, .int (nI 5)), (0, .int (nI z))]) X.1 X.2.1 dJ6_numberOfTrailingZeros_0f7a4_55 hl (k := 0) rfl (by decide) (by decide) rfl (fun ls hl => ?_)
          refine lv_iload_n X.1 X.2.1 dJ6_numberOfTrailingZeros_0f7a4_58 rfl (lv_at hl 1 rfl) ?_
          refine lv_iconst (v := nI 4) X.1 X.2.1 dJ6_numberOfTrailingZeros_0f7a4_59 (by decide) ?_
          refine wm_iushr (x := z) (y := 4) X (by omega) (by omega) dJ6_numberOfTrailingZeros_0f7a4_60 ?_
          refine lv_istore_n (lv' := [(0, .int (nI (z >>> 4))), (1, .int (nI 5))]) X.1 X.2.1 dJ6_numberOfTrailingZeros_0f7a4_61 rfl hl (by decide) rfl (fun ls hl => ?_)
          refine lv_iload_n X.1 X.2.1 dJ6_numberOfTrailingZeros_0f7a4_62 rfl (lv_at hl 0 rfl) ?_
          refine lv_iconst (v := nI 4) X.1 X.2.1 dJ6_numberOfTrailingZeros_0f7a4_63 (by decide) ?_
          refine wm_icmp_le (x := (z >>> 4)) (y := 4) (tgt := 74) X (by omega) (by decide) dJ6_numberOfTrailingZeros_0f7a4_64 (by decide) (fun hc64 => ?_) (fun hc64 => ?_)
          · refine lv_iload_n X.1 X.2.1 dJ6_numberOfTrailingZeros_0f7a4_74 rfl (lv_at hl 1 rfl) ?_
            refine lv_iload_n X.1 X.2.1 dJ6_numberOfTrailingZeros_0f7a4_75 rfl (lv_at hl 0 rfl) ?_
            refine lv_iconst (v := nI 1) X.1 X.2.1 dJ6_numberOfTrailingZeros_0f7a4_76 (by decide) ?_
            refine wm_iushr (x := (z >>> 4)) (y := 1) X (by omega) (by omega) dJ6_numberOfTrailingZeros_0f7a4_77 ?_
            refine wm_iadd (x := 5) (y := ((z >>> 4) >>> 1)) X dJ6_numberOfTrailingZeros_0f7a4_78 ?_
            exact wm_iret (post := pntz1 C b E S) X hr hP hS ⟨k, (congrArg nI (by rw [← hkF, ← hz]; unfold wm_nz1 wm_nz2 wm_nz3 wm_nz4; repeat (first | rw [if_pos (by omega)] | rw [if_neg (by omega)]))), rfl, (by omega), hlow, (fun _ => hbit)⟩ hQ dJ6_numberOfTrailingZeros_0f7a4_79
          · refine lv_iinc (v := nI 7) (lv' := [(1, .int (nI 7)), (0, .int (nI (z >>> 4)))]) X.1 X.2.1 dJ6_numberOfTrailingZeros_0f7a4_67 hl (k := 1) rfl (by decide) (by decide) rfl (fun ls hl => ?_)
            refine lv_iload_n X.1 X.2.1 dJ6_numberOfTrailingZeros_0f7a4_70 rfl (lv_at hl 1 rfl) ?_
            refine lv_iconst (v := nI 2) X.1 X.2.1 dJ6_numberOfTrailingZeros_0f7a4_71 (by decide) ?_
            refine wm_iushr (x := (z >>> 4)) (y := 2) X (by omega) (by omega) dJ6_numberOfTrailingZeros_0f7a4_72 ?_
            refine lv_istore_n (lv' := [(0, .int (nI ((z >>> 4) >>> 2))), (1, .int (nI 7))]) X.1 X.2.1 dJ6_numberOfTrailingZeros_0f7a4_73 rfl hl (by decide) rfl (fun ls hl => ?_)
            refine lv_iload_n X.1 X.2.1 dJ6_numberOfTrailingZeros_0f7a4_74 rfl (lv_at hl 1 rfl) ?_
            refine lv_iload_n X.1 X.2.1 dJ6_numberOfTrailingZeros_0f7a4_75 rfl (lv_at hl 0 rfl) ?_
            refine lv_iconst (v := nI 1) X.1 X.2.1 dJ6_numberOfTrailingZeros_0f7a4_76 (by decide) ?_
            refine wm_iushr (x := ((z >>> 4) >>> 2)) (y := 1) X (by omega) (by omega) dJ6_numberOfTrailingZeros_0f7a4_77 ?_
            refine wm_iadd (x := 7) (y := (((z >>> 4) >>> 2) >>> 1)) X dJ6_numberOfTrailingZeros_0f7a4_78 ?_
            exact wm_iret (post := pntz1 C b E S) X hr hP hS ⟨k, (congrArg nI (by rw [← hkF, ← hz]; unfold wm_nz1 wm_nz2 wm_nz3 wm_nz4; repeat (first | rw [if_pos (by omega)] | rw [if_neg (by omega)]))), rfl, (by omega), hlow, (fun _ => hbit)⟩ hQ dJ6_numberOfTrailingZeros_0f7a4_79
      · refine lv_iinc (v := nI 9) (lv' := [(1, .int (nI 9)), (0, .int (nI z))]) X.1 X.2.1 dJ6_numberOfTrailingZeros_0f7a4_41 hl (k := 0) rfl (by decide) (by decide) rfl (fun ls hl => ?_)
        refine lv_iload_n X.1 X.2.1 dJ6_numberOfTrailingZeros_0f7a4_44 rfl (lv_at hl 1 rfl) ?_
        refine lv_bipush (v := nI 8) X.1 X.2.1 dJ6_numberOfTrailingZeros_0f7a4_45 (by decide) ?_
        refine wm_iushr (x := z) (y := 8) X (by omega) (by omega) dJ6_numberOfTrailingZeros_0f7a4_47 ?_
        refine lv_istore_n (lv' := [(0, .int (nI (z >>> 8))), (1, .int (nI 9))]) X.1 X.2.1 dJ6_numberOfTrailingZeros_0f7a4_48 rfl hl (by decide) rfl (fun ls hl => ?_)
        refine lv_iload_n X.1 X.2.1 dJ6_numberOfTrailingZeros_0f7a4_49 rfl (lv_at hl 0 rfl) ?_
        refine lv_bipush (v := nI 16) X.1 X.2.1 dJ6_numberOfTrailingZeros_0f7a4_50 (by decide) ?_
        refine wm_icmp_le (x := (z >>> 8)) (y := 16) (tgt := 62) X (by omega) (by decide) dJ6_numberOfTrailingZeros_0f7a4_52 (by decide) (fun hc52 => ?_) (fun hc52 => ?_)
        · refine lv_iload_n X.1 X.2.1 dJ6_numberOfTrailingZeros_0f7a4_62 rfl (lv_at hl 0 rfl) ?_
          refine lv_iconst (v := nI 4) X.1 X.2.1 dJ6_numberOfTrailingZeros_0f7a4_63 (by decide) ?_
          refine wm_icmp_le (x := (z >>> 8)) (y := 4) (tgt := 74) X (by omega) (by decide) dJ6_numberOfTrailingZeros_0f7a4_64 (by decide) (fun hc64 => ?_) (fun hc64 => ?_)
          · refine lv_iload_n X.1 X.2.1 dJ6_numberOfTrailingZeros_0f7a4_74 rfl (lv_at hl 1 rfl) ?_
            refine lv_iload_n X.1 X.2.1 dJ6_numberOfTrailingZeros_0f7a4_75 rfl (lv_at hl 0 rfl) ?_
            refine lv_iconst (v := nI 1) X.1 X.2.1 dJ6_numberOfTrailingZeros_0f7a4_76 (by decide) ?_
            refine wm_iushr (x := (z >>> 8)) (y := 1) X (by omega) (by omega) dJ6_numberOfTrailingZeros_0f7a4_77 ?_
            refine wm_iadd (x := 9) (y := ((z >>> 8) >>> 1)) X dJ6_numberOfTrailingZeros_0f7a4_78 ?_
            exact wm_iret (post := pntz1 C b E S) X hr hP hS ⟨k, (congrArg nI (by rw [← hkF, ← hz]; unfold wm_nz1 wm_nz2 wm_nz3 wm_nz4; repeat (first | rw [if_pos (by omega)] | rw [if_neg (by omega)]))), rfl, (by omega), hlow, (fun _ => hbit)⟩ hQ dJ6_numberOfTrailingZeros_0f7a4_79
          · refine lv_iinc (v := nI 11) (lv' := [(1, .int (nI 11)), (0, .int (nI (z >>> 8)))]) X.1 X.2.1 dJ6_numberOfTrailingZeros_0f7a4_67 hl (k := 1) rfl (by decide) (by decide) rfl (fun ls hl => ?_)
            refine lv_iload_n X.1 X.2.1 dJ6_numberOfTrailingZeros_0f7a4_70 rfl (lv_at hl 1 rfl) ?_
            refine lv_iconst (v := nI 2) X.1 X.2.1 dJ6_numberOfTrailingZeros_0f7a4_71 (by decide) ?_
            refine wm_iushr (x := (z >>> 8)) (y := 2) X (by omega) (by omega) dJ6_numberOfTrailingZeros_0f7a4_72 ?_
            refine lv_istore_n (lv' := [(0, .int (nI ((z >>> 8) >>> 2))), (1, .int (nI 11))]) X.1 X.2.1 dJ6_numberOfTrailingZeros_0f7a4_73 rfl hl (by decide) rfl (fun ls hl => ?_)
            refine lv_iload_n X.1 X.2.1 dJ6_numberOfTrailingZeros_0f7a4_74 rfl (lv_at hl 1 rfl) ?_
            refine lv_iload_n X.1 X.2.1 dJ6_numberOfTrailingZeros_0f7a4_75 rfl (lv_at hl 0 rfl) ?_
            refine lv_iconst (v := nI 1) X.1 X.2.1 dJ6_numberOfTrailingZeros_0f7a4_76 (by decide) ?_
            refine wm_iushr (x := ((z >>> 8) >>> 2)) (y := 1) X (by omega) (by omega) dJ6_numberOfTrailingZeros_0f7a4_77 ?_
            refine wm_iadd (x := 11) (y := (((z >>> 8) >>> 2) >>> 1)) X dJ6_numberOfTrailingZeros_0f7a4_78 ?_
            exact wm_iret (post := pntz1 C b E S) X hr hP hS ⟨k, (congrArg nI (by rw [← hkF, ← hz]; unfold wm_nz1 wm_nz2 wm_nz3 wm_nz4; repeat (first | rw [if_pos (by omega)] | rw [if_neg (by omega)]))), rfl, (by omega), hlow, (fun _ => hbit)⟩ hQ dJ6_numberOfTrailingZeros_0f7a4_79
        · refine lv_iinc (v := nI 13) (lv' := [(1, .int (nI 13)), (0, .int (nI (z >>> 8)))]) X.1 X.2.1 dJ6_numberOfTrailingZeros_0f7a4_55 hl (k := 1) rfl (by decide) (by decide) rfl (fun ls hl => ?_)
          refine lv_iload_n X.1 X.2.1 dJ6_numberOfTrailingZeros_0f7a4_58 rfl (lv_at hl 1 rfl) ?_
          refine lv_iconst (v := nI 4) X.1 X.2.1 dJ6_numberOfTrailingZeros_0f7a4_59 (by decide) ?_
          refine wm_iushr (x := (z >>> 8)) (y := 4) X (by omega) (by omega) dJ6_numberOfTrailingZeros_0f7a4_60 ?_
          refine lv_istore_n (lv' := [(0, .int (nI ((z >>> 8) >>> 4))), (1, .int (nI 13))]) X.1 X.2.1 dJ6_numberOfTrailingZeros_0f7a4_61 rfl hl (by decide) rfl (fun ls hl => ?_)
          refine lv_iload_n X.1 X.2.1 dJ6_numberOfTrailingZeros_0f7a4_62 rfl (lv_at hl 0 rfl) ?_
          refine lv_iconst (v := nI 4) X.1 X.2.1 dJ6_numberOfTrailingZeros_0f7a4_63 (by decide) ?_
          refine wm_icmp_le (x := ((z >>> 8) >>> 4)) (y := 4) (tgt := 74) X (by omega) (by decide) dJ6_numberOfTrailingZeros_0f7a4_64 (by decide) (fun hc64 => ?_) (fun hc64 => ?_)
          · refine lv_iload_n X.1 X.2.1 dJ6_numberOfTrailingZeros_0f7a4_74 rfl (lv_at hl 1 rfl) ?_
            refine lv_iload_n X.1 X.2.1 dJ6_numberOfTrailingZeros_0f7a4_75 rfl (lv_at hl 0 rfl) ?_
            refine lv_iconst (v := nI 1) X.1 X.2.1 dJ6_numberOfTrailingZeros_0f7a4_76 (by decide) ?_
            refine wm_iushr (x := ((z >>> 8) >>> 4)) (y := 1) X (by omega) (by omega) dJ6_numberOfTrailingZeros_0f7a4_77 ?_
            refine wm_iadd (x := 13) (y := (((z >>> 8) >>> 4) >>> 1)) X dJ6_numberOfTrailingZeros_0f7a4_78 ?_
            exact wm_iret (post := pntz1 C b E S) X hr hP hS ⟨k, (congrArg nI (by rw [← hkF, ← hz]; unfold wm_nz1 wm_nz2 wm_nz3 wm_nz4; repeat (first | rw [if_pos (by omega)] | rw [if_neg (by omega)]))), rfl, (by omega), hlow, (fun _ => hbit)⟩ hQ dJ6_numberOfTrailingZeros_0f7a4_79
          · refine lv_iinc (v := nI 15) (lv' := [(1, .int (nI 15)), (0, .int (nI ((z >>> 8) >>> 4)))]) X.1 X.2.1 dJ6_numberOfTrailingZeros_0f7a4_67 hl (k := 1) rfl (by decide) (by decide) rfl (fun ls hl => ?_)
            refine lv_iload_n X.1 X.2.1 dJ6_numberOfTrailingZeros_0f7a4_70 rfl (lv_at hl 1 rfl) ?_
            refine lv_iconst (v := nI 2) X.1 X.2.1 dJ6_numberOfTrailingZeros_0f7a4_71 (by decide) ?_
            refine wm_iushr (x := ((z >>> 8) >>> 4)) (y := 2) X (by omega) (by omega) dJ6_numberOfTrailingZeros_0f7a4_72 ?_
            refine lv_istore_n (lv' := [(0, .int (nI (((z >>> 8) >>> 4) >>> 2))), (1, .int (nI 15))]) X.1 X.2.1 dJ6_numberOfTrailingZeros_0f7a4_73 rfl hl (by decide) rfl (fun ls hl => ?_)
            refine lv_iload_n X.1 X.2.1 dJ6_numberOfTrailingZeros_0f7a4_74 rfl (lv_at hl 1 rfl) ?_
            refine lv_iload_n X.1 X.2.1 dJ6_numberOfTrailingZeros_0f7a4_75 rfl (lv_at hl 0 rfl) ?_
            refine lv_iconst (v := nI 1) X.1 X.2.1 dJ6_numberOfTrailingZeros_0f7a4_76 (by decide) ?_
            refine wm_iushr (x := (((z >>> 8) >>> 4) >>> 2)) (y := 1) X (by omega) (by omega) dJ6_numberOfTrailingZeros_0f7a4_77 ?_
            refine wm_iadd (x := 15) (y := ((((z >>> 8) >>> 4) >>> 2) >>> 1)) X dJ6_numberOfTrailingZeros_0f7a4_78 ?_
            exact wm_iret (post := pntz1 C b E S) X hr hP hS ⟨k, (congrArg nI (by rw [← hkF, ← hz]; unfold wm_nz1 wm_nz2 wm_nz3 wm_nz4; repeat (first | rw [if_pos (by omega)] | rw [if_neg (by omega)]))), rfl, (by omega), hlow, (fun _ => hbit)⟩ hQ dJ6_numberOfTrailingZeros_0f7a4_79
    · refine lv_iinc (v := nI 17) (lv' := [(1, .int (nI 17)), (0, .int (nI z))]) X.1 X.2.1 dJ6_numberOfTrailingZeros_0f7a4_26 hl (k := 0) rfl (by decide) (by decide) rfl (fun ls hl => ?_)
      refine lv_iload_n X.1 X.2.1 dJ6_numberOfTrailingZeros_0f7a4_29 rfl (lv_at hl 1 rfl) ?_
      refine lv_bipush (v := nI 16) X.1 X.2.1 dJ6_numberOfTrailingZeros_0f7a4_30 (by decide) ?_
      refine wm_iushr (x := z) (y := 16) X (by omega) (by omega) dJ6_numberOfTrailingZeros_0f7a4_32 ?_
      refine lv_istore_n (lv' := [(0, .int (nI (z >>> 16))), (1, .int (nI 17))]) X.1 X.2.1 dJ6_numberOfTrailingZeros_0f7a4_33 rfl hl (by decide) rfl (fun ls hl => ?_)
      refine lv_iload_n X.1 X.2.1 dJ6_numberOfTrailingZeros_0f7a4_34 rfl (lv_at hl 0 rfl) ?_
      refine lv_sipush (v := nI 256) X.1 X.2.1 dJ6_numberOfTrailingZeros_0f7a4_35 (by decide) ?_
      refine wm_icmp_le (x := (z >>> 16)) (y := 256) (tgt := 49) X (by omega) (by decide) dJ6_numberOfTrailingZeros_0f7a4_38 (by decide) (fun hc38 => ?_) (fun hc38 => ?_)
      · refine lv_iload_n X.1 X.2.1 dJ6_numberOfTrailingZeros_0f7a4_49 rfl (lv_at hl 0 rfl) ?_
        refine lv_bipush (v := nI 16) X.1 X.2.1 dJ6_numberOfTrailingZeros_0f7a4_50 (by decide) ?_
        refine wm_icmp_le (x := (z >>> 16)) (y := 16) (tgt := 62) X (by omega) (by decide) dJ6_numberOfTrailingZeros_0f7a4_52 (by decide) (fun hc52 => ?_) (fun hc52 => ?_)
        · refine lv_iload_n X.1 X.2.1 dJ6_numberOfTrailingZeros_0f7a4_62 rfl (lv_at hl 0 rfl) ?_
          refine lv_iconst (v := nI 4) X.1 X.2.1 dJ6_numberOfTrailingZeros_0f7a4_63 (by decide) ?_
          refine wm_icmp_le (x := (z >>> 16)) (y := 4) (tgt := 74) X (by omega) (by decide) dJ6_numberOfTrailingZeros_0f7a4_64 (by decide) (fun hc64 => ?_) (fun hc64 => ?_)
          · refine lv_iload_n X.1 X.2.1 dJ6_numberOfTrailingZeros_0f7a4_74 rfl (lv_at hl 1 rfl) ?_
            refine lv_iload_n X.1 X.2.1 dJ6_numberOfTrailingZeros_0f7a4_75 rfl (lv_at hl 0 rfl) ?_
            refine lv_iconst (v := nI 1) X.1 X.2.1 dJ6_numberOfTrailingZeros_0f7a4_76 (by decide) ?_
            refine wm_iushr (x := (z >>> 16)) (y := 1) X (by omega) (by omega) dJ6_numberOfTrailingZeros_0f7a4_77 ?_
            refine wm_iadd (x := 17) (y := ((z >>> 16) >>> 1)) X dJ6_numberOfTrailingZeros_0f7a4_78 ?_
            exact wm_iret (post := pntz1 C b E S) X hr hP hS ⟨k, (congrArg nI (by rw [← hkF, ← hz]; unfold wm_nz1 wm_nz2 wm_nz3 wm_nz4; repeat (first | rw [if_pos (by omega)] | rw [if_neg (by omega)]))), rfl, (by omega), hlow, (fun _ => hbit)⟩ hQ dJ6_numberOfTrailingZeros_0f7a4_79
          · refine lv_iinc (v := nI 19) (lv' := [(1, .int (nI 19)), (0, .int (nI (z >>> 16)))]) X.1 X.2.1 dJ6_numberOfTrailingZeros_0f7a4_67 hl (k := 1) rfl (by decide) (by decide) rfl (fun ls hl => ?_)
            refine lv_iload_n X.1 X.2.1 dJ6_numberOfTrailingZeros_0f7a4_70 rfl (lv_at hl 1 rfl) ?_
            refine lv_iconst (v := nI 2) X.1 X.2.1 dJ6_numberOfTrailingZeros_0f7a4_71 (by decide) ?_
            refine wm_iushr (x := (z >>> 16)) (y := 2) X (by omega) (by omega) dJ6_numberOfTrailingZeros_0f7a4_72 ?_
            refine lv_istore_n (lv' := [(0, .int (nI ((z >>> 16) >>> 2))), (1, .int (nI 19))]) X.1 X.2.1 dJ6_numberOfTrailingZeros_0f7a4_73 rfl hl (by decide) rfl (fun ls hl => ?_)
            refine lv_iload_n X.1 X.2.1 dJ6_numberOfTrailingZeros_0f7a4_74 rfl (lv_at hl 1 rfl) ?_
            refine lv_iload_n X.1 X.2.1 dJ6_numberOfTrailingZeros_0f7a4_75 rfl (lv_at hl 0 rfl) ?_
            refine lv_iconst (v := nI 1) X.1 X.2.1 dJ6_numberOfTrailingZeros_0f7a4_76 (by decide) ?_
            refine wm_iushr (x := ((z >>> 16) >>> 2)) (y := 1) X (by omega) (by omega) dJ6_numberOfTrailingZeros_0f7a4_77 ?_
            refine wm_iadd (x := 19) (y := (((z >>> 16) >>> 2) >>> 1)) X dJ6_numberOfTrailingZeros_0f7a4_78 ?_
            exact wm_iret (post := pntz1 C b E S) X hr hP hS ⟨k, (congrArg nI (by rw [← hkF, ← hz]; unfold wm_nz1 wm_nz2 wm_nz3 wm_nz4; repeat (first | rw [if_pos (by omega)] | rw [if_neg (by omega)]))), rfl, (by omega), hlow, (fun _ => hbit)⟩ hQ dJ6_numberOfTrailingZeros_0f7a4_79
        · refine lv_iinc (v := nI 21) (lv' := [(1, .int (nI 21)), (0, .int (nI (z >>> 16)))]) X.1 X.2.1 dJ6_numberOfTrailingZeros_0f7a4_55 hl (k := 1) rfl (by decide) (by decide) rfl (fun ls hl => ?_)
          refine lv_iload_n X.1 X.2.1 dJ6_numberOfTrailingZeros_0f7a4_58 rfl (lv_at hl 1 rfl) ?_
          refine lv_iconst (v := nI 4) X.1 X.2.1 dJ6_numberOfTrailingZeros_0f7a4_59 (by decide) ?_
          refine wm_iushr (x := (z >>> 16)) (y := 4) X (by omega) (by omega) dJ6_numberOfTrailingZeros_0f7a4_60 ?_
          refine lv_istore_n (lv' := [(0, .int (nI ((z >>> 16) >>> 4))), (1, .int (nI 21))]) X.1 X.2.1 dJ6_numberOfTrailingZeros_0f7a4_61 rfl hl (by decide) rfl (fun ls hl => ?_)
          refine lv_iload_n X.1 X.2.1 dJ6_numberOfTrailingZeros_0f7a4_62 rfl (lv_at hl 0 rfl) ?_
          refine lv_iconst (v := nI 4) X.1 X.2.1 dJ6_numberOfTrailingZeros_0f7a4_63 (by decide) ?_
          refine wm_icmp_le (x := ((z >>> 16) >>> 4)) (y := 4) (tgt := 74) X (by omega) (by decide) dJ6_numberOfTrailingZeros_0f7a4_64 (by decide) (fun hc64 => ?_) (fun hc64 => ?_)
          · refine lv_iload_n X.1 X.2.1 dJ6_numberOfTrailingZeros_0f7a4_74 rfl (lv_at hl 1 rfl) ?_
            refine lv_iload_n X.1 X.2.1 dJ6_numberOfTrailingZeros_0f7a4_75 rfl (lv_at hl 0 rfl) ?_
            refine lv_iconst (v := nI 1) X.1 X.2.1 dJ6_numberOfTrailingZeros_0f7a4_76 (by decide) ?_
            refine wm_iushr (x := ((z >>> 16) >>> 4)) (y := 1) X (by omega) (by omega) dJ6_numberOfTrailingZeros_0f7a4_77 ?_
            refine wm_iadd (x := 21) (y := (((z >>> 16) >>> 4) >>> 1)) X dJ6_numberOfTrailingZeros_0f7a4_78 ?_
            exact wm_iret (post := pntz1 C b E S) X hr hP hS ⟨k, (congrArg nI (by rw [← hkF, ← hz]; unfold wm_nz1 wm_nz2 wm_nz3 wm_nz4; repeat (first | rw [if_pos (by omega)] | rw [if_neg (by omega)]))), rfl, (by omega), hlow, (fun _ => hbit)⟩ hQ dJ6_numberOfTrailingZeros_0f7a4_79
          · refine lv_iinc (v := nI 23) (lv' := [(1, .int (nI 23)), (0, .int (nI ((z >>> 16) >>> 4)))]) X.1 X.2.1 dJ6_numberOfTrailingZeros_0f7a4_67 hl (k := 1) rfl (by decide) (by decide) rfl (fun ls hl => ?_)
            refine lv_iload_n X.1 X.2.1 dJ6_numberOfTrailingZeros_0f7a4_70 rfl (lv_at hl 1 rfl) ?_
            refine lv_iconst (v := nI 2) X.1 X.2.1 dJ6_numberOfTrailingZeros_0f7a4_71 (by decide) ?_
            refine wm_iushr (x := ((z >>> 16) >>> 4)) (y := 2) X (by omega) (by omega) dJ6_numberOfTrailingZeros_0f7a4_72 ?_
            refine lv_istore_n (lv' := [(0, .int (nI (((z >>> 16) >>> 4) >>> 2))), (1, .int (nI 23))]) X.1 X.2.1 dJ6_numberOfTrailingZeros_0f7a4_73 rfl hl (by decide) rfl (fun ls hl => ?_)
            refine lv_iload_n X.1 X.2.1 dJ6_numberOfTrailingZeros_0f7a4_74 rfl (lv_at hl 1 rfl) ?_
            refine lv_iload_n X.1 X.2.1 dJ6_numberOfTrailingZeros_0f7a4_75 rfl (lv_at hl 0 rfl) ?_
            refine lv_iconst (v := nI 1) X.1 X.2.1 dJ6_numberOfTrailingZeros_0f7a4_76 (by decide) ?_
            refine wm_iushr (x := (((z >>> 16) >>> 4) >>> 2)) (y := 1) X (by omega) (by omega) dJ6_numberOfTrailingZeros_0f7a4_77 ?_
            refine wm_iadd (x := 23) (y := ((((z >>> 16) >>> 4) >>> 2) >>> 1)) X dJ6_numberOfTrailingZeros_0f7a4_78 ?_
            exact wm_iret (post := pntz1 C b E S) X hr hP hS ⟨k, (congrArg nI (by rw [← hkF, ← hz]; unfold wm_nz1 wm_nz2 wm_nz3 wm_nz4; repeat (first | rw [if_pos (by omega)] | rw [if_neg (by omega)]))), rfl, (by omega), hlow, (fun _ => hbit)⟩ hQ dJ6_numberOfTrailingZeros_0f7a4_79
      · refine lv_iinc (v := nI 25) (lv' := [(1, .int (nI 25)), (0, .int (nI (z >>> 16)))]) X.1 X.2.1 dJ6_numberOfTrailingZeros_0f7a4_41 hl (k := 1) rfl (by decide) (by decide) rfl (fun ls hl => ?_)
        refine lv_iload_n X.1 X.2.1 dJ6_numberOfTrailingZeros_0f7a4_44 rfl (lv_at hl 1 rfl) ?_
        refine lv_bipush (v := nI 8) X.1 X.2.1 dJ6_numberOfTrailingZeros_0f7a4_45 (by decide) ?_
        refine wm_iushr (x := (z >>> 16)) (y := 8) X (by omega) (by omega) dJ6_numberOfTrailingZeros_0f7a4_47 ?_
        refine lv_istore_n (lv' := [(0, .int (nI ((z >>> 16) >>> 8))), (1, .int (nI 25))]) X.1 X.2.1 dJ6_numberOfTrailingZeros_0f7a4_48 rfl hl (by decide) rfl (fun ls hl => ?_)
        refine lv_iload_n X.1 X.2.1 dJ6_numberOfTrailingZeros_0f7a4_49 rfl (lv_at hl 0 rfl) ?_
        refine lv_bipush (v := nI 16) X.1 X.2.1 dJ6_numberOfTrailingZeros_0f7a4_50 (by decide) ?_
        refine wm_icmp_le (x := ((z >>> 16) >>> 8)) (y := 16) (tgt := 62) X (by omega) (by decide) dJ6_numberOfTrailingZeros_0f7a4_52 (by decide) (fun hc52 => ?_) (fun hc52 => ?_)
        · refine lv_iload_n X.1 X.2.1 dJ6_numberOfTrailingZeros_0f7a4_62 rfl (lv_at hl 0 rfl) ?_
          refine lv_iconst (v := nI 4) X.1 X.2.1 dJ6_numberOfTrailingZeros_0f7a4_63 (by decide) ?_
          refine wm_icmp_le (x := ((z >>> 16) >>> 8)) (y := 4) (tgt := 74) X (by omega) (by decide) dJ6_numberOfTrailingZeros_0f7a4_64 (by decide) (fun hc64 => ?_) (fun hc64 => ?_)
          · refine lv_iload_n X.1 X.2.1 dJ6_numberOfTrailingZeros_0f7a4_74 rfl (lv_at hl 1 rfl) ?_
            refine lv_iload_n X.1 X.2.1 dJ6_numberOfTrailingZeros_0f7a4_75 rfl (lv_at hl 0 rfl) ?_
            refine lv_iconst (v := nI 1) X.1 X.2.1 dJ6_numberOfTrailingZeros_0f7a4_76 (by decide) ?_
            refine wm_iushr (x := ((z >>> 16) >>> 8)) (y := 1) X (by omega) (by omega) dJ6_numberOfTrailingZeros_0f7a4_77 ?_
            refine wm_iadd (x := 25) (y := (((z >>> 16) >>> 8) >>> 1)) X dJ6_numberOfTrailingZeros_0f7a4_78 ?_
            exact wm_iret (post := pntz1 C b E S) X hr hP hS ⟨k, (congrArg nI (by rw [← hkF, ← hz]; unfold wm_nz1 wm_nz2 wm_nz3 wm_nz4; repeat (first | rw [if_pos (by omega)] | rw [if_neg (by omega)]))), rfl, (by omega), hlow, (fun _ => hbit)⟩ hQ dJ6_numberOfTrailingZeros_0f7a4_79
          · refine lv_iinc (v := nI 27) (lv' := [(1, .int (nI 27)), (0, .int (nI ((z >>> 16) >>> 8)))]) X.1 X.2.1 dJ6_numberOfTrailingZeros_0f7a4_67 hl (k := 1) rfl (by decide) (by decide) rfl (fun ls hl => ?_)
            refine lv_iload_n X.1 X.2.1 dJ6_numberOfTrailingZeros_0f7a4_70 rfl (lv_at hl 1 rfl) ?_
            refine lv_iconst (v := nI 2) X.1 X.2.1 dJ6_numberOfTrailingZeros_0f7a4_71 (by decide) ?_
            refine wm_iushr (x := ((z >>> 16) >>> 8)) (y := 2) X (by omega) (by omega) dJ6_numberOfTrailingZeros_0f7a4_72 ?_
            refine lv_istore_n (lv' := [(0, .int (nI (((z >>> 16) >>> 8) >>> 2))), (1, .int (nI 27))]) X.1 X.2.1 dJ6_numberOfTrailingZeros_0f7a4_73 rfl hl (by decide) rfl (fun ls hl => ?_)
            refine lv_iload_n X.1 X.2.1 dJ6_numberOfTrailingZeros_0f7a4_74 rfl (lv_at hl 1 rfl) ?_
            refine lv_iload_n X.1 X.2.1 dJ6_numberOfTrailingZeros_0f7a4_75 rfl (lv_at hl 0 rfl) ?_
            refine lv_iconst (v := nI 1) X.1 X.2.1 dJ6_numberOfTrailingZeros_0f7a4_76 (by decide) ?_
            refine wm_iushr (x := (((z >>> 16) >>> 8) >>> 2)) (y := 1) X (by omega) (by omega) dJ6_numberOfTrailingZeros_0f7a4_77 ?_
            refine wm_iadd (x := 27) (y := ((((z >>> 16) >>> 8) >>> 2) >>> 1)) X dJ6_numberOfTrailingZeros_0f7a4_78 ?_
            exact wm_iret (post := pntz1 C b E S) X hr hP hS ⟨k, (congrArg nI (by rw [← hkF, ← hz]; unfold wm_nz1 wm_nz2 wm_nz3 wm_nz4; repeat (first | rw [if_pos (by omega)] | rw [if_neg (by omega)]))), rfl, (by omega), hlow, (fun _ => hbit)⟩ hQ dJ6_numberOfTrailingZeros_0f7a4_79
        · refine lv_iinc (v := nI 29) (lv' := [(1, .int (nI 29)), (0, .int (nI ((z >>> 16) >>> 8)))]) X.1 X.2.1 dJ6_numberOfTrailingZeros_0f7a4_55 hl (k := 1) rfl (by decide) (by decide) rfl (fun ls hl => ?_)
          refine lv_iload_n X.1 X.2.1 dJ6_numberOfTrailingZeros_0f7a4_58 rfl (lv_at hl 1 rfl) ?_
          refine lv_iconst (v := nI 4) X.1 X.2.1 dJ6_numberOfTrailingZeros_0f7a4_59 (by decide) ?_
          refine wm_iushr (x := ((z >>> 16) >>> 8)) (y := 4) X (by omega) (by omega) dJ6_numberOfTrailingZeros_0f7a4_60 ?_
          refine lv_istore_n (lv' := [(0, .int (nI (((z >>> 16) >>> 8) >>> 4))), (1, .int (nI 29))]) X.1 X.2.1 dJ6_numberOfTrailingZeros_0f7a4_61 rfl hl (by decide) rfl (fun ls hl => ?_)
          refine lv_iload_n X.1 X.2.1 dJ6_numberOfTrailingZeros_0f7a4_62 rfl (lv_at hl 0 rfl) ?_
          refine lv_iconst (v := nI 4) X.1 X.2.1 dJ6_numberOfTrailingZeros_0f7a4_63 (by decide) ?_
          refine wm_icmp_le (x := (((z >>> 16) >>> 8) >>> 4)) (y := 4) (tgt := 74) X (by omega) (by decide) dJ6_numberOfTrailingZeros_0f7a4_64 (by decide) (fun hc64 => ?_) (fun hc64 => ?_)
          · refine lv_iload_n X.1 X.2.1 dJ6_numberOfTrailingZeros_0f7a4_74 rfl (lv_at hl 1 rfl) ?_
            refine lv_iload_n X.1 X.2.1 dJ6_numberOfTrailingZeros_0f7a4_75 rfl (lv_at hl 0 rfl) ?_
            refine lv_iconst (v := nI 1) X.1 X.2.1 dJ6_numberOfTrailingZeros_0f7a4_76 (by decide) ?_
            refine wm_iushr (x := (((z >>> 16) >>> 8) >>> 4)) (y := 1) X (by omega) (by omega) dJ6_numberOfTrailingZeros_0f7a4_77 ?_
            refine wm_iadd (x := 29) (y := ((((z >>> 16) >>> 8) >>> 4) >>> 1)) X dJ6_numberOfTrailingZeros_0f7a4_78 ?_
            exact wm_iret (post := pntz1 C b E S) X hr hP hS ⟨k, (congrArg nI (by rw [← hkF, ← hz]; unfold wm_nz1 wm_nz2 wm_nz3 wm_nz4; repeat (first | rw [if_pos (by omega)] | rw [if_neg (by omega)]))), rfl, (by omega), hlow, (fun _ => hbit)⟩ hQ dJ6_numberOfTrailingZeros_0f7a4_79
          · refine lv_iinc (v := nI 31) (lv' := [(1, .int (nI 31)), (0, .int (nI (((z >>> 16) >>> 8) >>> 4)))]) X.1 X.2.1 dJ6_numberOfTrailingZeros_0f7a4_67 hl (k := 1) rfl (by decide) (by decide) rfl (fun ls hl => ?_)
            refine lv_iload_n X.1 X.2.1 dJ6_numberOfTrailingZeros_0f7a4_70 rfl (lv_at hl 1 rfl) ?_
            refine lv_iconst (v := nI 2) X.1 X.2.1 dJ6_numberOfTrailingZeros_0f7a4_71 (by decide) ?_
            refine wm_iushr (x := (((z >>> 16) >>> 8) >>> 4)) (y := 2) X (by omega) (by omega) dJ6_numberOfTrailingZeros_0f7a4_72 ?_
            refine lv_istore_n (lv' := [(0, .int (nI ((((z >>> 16) >>> 8) >>> 4) >>> 2))), (1, .int (nI 31))]) X.1 X.2.1 dJ6_numberOfTrailingZeros_0f7a4_73 rfl hl (by decide) rfl (fun ls hl => ?_)
            refine lv_iload_n X.1 X.2.1 dJ6_numberOfTrailingZeros_0f7a4_74 rfl (lv_at hl 1 rfl) ?_
            refine lv_iload_n X.1 X.2.1 dJ6_numberOfTrailingZeros_0f7a4_75 rfl (lv_at hl 0 rfl) ?_
            refine lv_iconst (v := nI 1) X.1 X.2.1 dJ6_numberOfTrailingZeros_0f7a4_76 (by decide) ?_
            refine wm_iushr (x := ((((z >>> 16) >>> 8) >>> 4) >>> 2)) (y := 1) X (by omega) (by omega) dJ6_numberOfTrailingZeros_0f7a4_77 ?_
            refine wm_iadd (x := 31) (y := (((((z >>> 16) >>> 8) >>> 4) >>> 2) >>> 1)) X dJ6_numberOfTrailingZeros_0f7a4_78 ?_
            exact wm_iret (post := pntz1 C b E S) X hr hP hS ⟨k, (congrArg nI (by rw [← hkF, ← hz]; unfold wm_nz1 wm_nz2 wm_nz3 wm_nz4; repeat (first | rw [if_pos (by omega)] | rw [if_neg (by omega)]))), rfl, (by omega), hlow, (fun _ => hbit)⟩ hQ dJ6_numberOfTrailingZeros_0f7a4_79
  · refine lv_iload_n X.1 X.2.1 dJ6_numberOfTrailingZeros_0f7a4_12 rfl (lv_at hl 0 rfl) ?_
    refine lv_bipush (v := nI 32) X.1 X.2.1 dJ6_numberOfTrailingZeros_0f7a4_13 (by decide) ?_
    refine wm_iand (x := z) (y := 32) X dJ6_numberOfTrailingZeros_0f7a4_15 ?_
    exact wm_iret (post := pntz1 C b E S) X hr hP hS ⟨0, (by rw [hc9]; decide), rfl, (by omega), (fun j h => absurd h (Nat.not_lt_zero _)), (fun _ => by have : k = 0 := Nat.eq_zero_of_not_pos (fun q => by have h9 : 2 ^ 1 ≤ 2 ^ k := Nat.pow_le_pow_right (by decide) q; omega); rw [← this]; exact hbit)⟩ hQ dJ6_numberOfTrailingZeros_0f7a4_16
theorem kntz (l : Launch) (D : va_G) (C : Nat → ClassId) (b n : Nat) (E : Nat → va_E) (S : Nat) (hSb : S < 2 ^ 31) : Met l yJ6_numberOfTrailingZeros_0f7a4 (wm_ws yJ6_numberOfTrailingZeros_0f7a4 cJ6_numberOfTrailingZeros_0f7a4 2 (some .int)) { frames := 0, cells := 0, slots := 0, locals := 0 } (va_Pc [.int (nI S)] (wm_G D C b n E)) (va_Qi (pntz1 C b E S) (fun E' t => wm_P D b n E' t.heap) (wm_A b)) 0 0 (wm_A b) := by
  rcases Nat.eq_zero_or_pos S with h | h
  · exact kntz0 l D C b n E S h
  · exact kntz1 l D C b n E S h hSb
def pX2_goalsOfSet (C : Nat → ClassId) (b : Nat) (E : Nat → va_E) (t tg cn st en S lr : Nat) (g : Nat → Nat) : Int32 → (Nat → va_E) → Prop := fun r E' => r = nI (wm_st g cn lr S) ∧ E = E'
set_option maxHeartbeats 4000000 in
set_option maxRecDepth 100000 in
theorem kX2_goalsOfSet (l : Launch) (D : va_G) (C : Nat → ClassId) (b n : Nat) (E : Nat → va_E) (t tg cn st en S lr : Nat) (g : Nat → Nat) (hlt0 : t < n) (hE0 : E t = .inr (2, [.ref (b + tg), .int (nI cn), .int (nI st), .int (nI en)])) (hlt1 : tg < n) (hE1 : E tg = wm_I C 192 g) (hc : cn ≤ 24) (hlr : lr < 8) (hSb : S < 2 ^ 31) : Met l yX2_goalsOfSet (wm_ws yX2_goalsOfSet cX2_goalsOfSet 5 (some .int)) { frames := 1, cells := 0, slots := 0, locals := 22 } (va_Pc [.ref (b + t), .int (nI S), .int (nI lr)] (wm_G D C b n E)) (va_Qi (pX2_goalsOfSet C b E t tg cn st en S lr g) (fun E' t => wm_P D b n E' t.heap) (wm_A b)) 0 0 (wm_A b) := by
  refine wm_ofW (by decide) (Nat.le_of_ble_eq_true rfl) (fun p e s m below meth c ls R args Q hRe hQ X hr hnm hP hS hl => ?_)
  have hl : lv_has ls 5 [(0, .ref (b + t)), (1, .int (nI S)), (2, .int (nI lr))] := hl
  refine lv_iconst (v := nI 0) X.1 X.2.1 dX2_goalsOfSet_0 (by decide) ?_
  refine lv_istore_n (lv' := [(3, .int (nI 0)), (0, .ref (b + t)), (1, .int (nI S)), (2, .int (nI lr))]) X.1 X.2.1 dX2_goalsOfSet_1 rfl hl (by decide) rfl (fun ls hl => ?_)
  refine lv_iload_n X.1 X.2.1 dX2_goalsOfSet_2 rfl (lv_at hl 2 rfl) ?_
  refine wm_callSi (k := 1) (As := [.int (nI S)]) (rest := []) X hP hS  (kntz l D C b n E S (by omega)) wq3_97 wq3_98 wq1_16 wq3_99 (by decide) (by rw [hRe]; exact ⟨Nat.le_of_ble_eq_true rfl, Nat.le_of_ble_eq_true rfl⟩) rfl hl.1 rfl (Nat.le_of_ble_eq_true rfl) (Nat.zero_le _) (Nat.zero_le _) dX2_goalsOfSet_3 (fun r1 E1 H locs hw hP hS => ?_)
  obtain ⟨r11, hrt, hEe, hp1_0, hp1_1, hp1_2⟩ := hw
  subst hrt
  subst hEe
  have hpL := hp1_1
  refine lv_istore (lv' := [(4, .int (nI r11)), (3, .int (nI 0)), (0, .ref (b + t)), (1, .int (nI S)), (2, .int (nI lr))]) X.1 X.2.1 dX2_goalsOfSet_6 hl (by decide) rfl (fun ls hl => ?_)
  have L8 : ∀ (fu : Nat) (a : Nat) (i : Nat), 33 - i < fu → (i ≤ 32) → (a = wm_or (min i cn) (fun x => if S.testBit x then g (lr * 24 + x) else 0)) → ∀ (H : Heap) (locs : List Loc) (ls : Array Slot), wm_P D b n E H → wm_S b s.heap H locs → E t = .inr (2, [.ref (b + tg), .int (nI cn), .int (nI st), .int (nI en)]) → E tg = wm_I C 192 g → lv_has ls 5 [(0, .ref (b + t)), (1, .int (nI S)), (2, .int (nI lr)), (3, .int (nI a)), (4, .int (nI i))] → W p l e R s m args below meth c H locs 0 0 Q (F0 m 8 ls []) := by
    intro fu
    induction fu with
    | zero => intro a i hm; exact absurd hm (Nat.not_lt_zero _)
    | succ fu ih8 =>
      intro a i hm hi ha H locs ls hP hS hE0 hE1 hl
      refine lv_iload X.1 X.2.1 dX2_goalsOfSet_8 (lv_at hl 4 rfl) ?_
      refine lv_aload_n X.1 X.2.1 dX2_goalsOfSet_10 rfl (lv_at hl 0 rfl) ?_
      refine wm_get X hP hlt0 hE0 rfl wm_inX2 1 (by decide) wq1_42 rfl dX2_goalsOfSet_11 ?_
      refine wm_icmp_ge (x := i) (y := cn) (tgt := 49) X (by omega) (by omega) dX2_goalsOfSet_14 (by decide) (fun hc14 => ?_) (fun hc14 => ?_)
      · refine lv_iload_n X.1 X.2.1 dX2_goalsOfSet_49 rfl (lv_at hl 3 rfl) ?_
        exact wm_iret (post := pX2_goalsOfSet C b E t tg cn st en S lr g) X hr hP hS ⟨(congrArg nI (ha.trans (wm_gs1 hc14))), rfl⟩ hQ dX2_goalsOfSet_50
      · refine lv_iload_n X.1 X.2.1 dX2_goalsOfSet_17 rfl (lv_at hl 1 rfl) ?_
        refine lv_iload X.1 X.2.1 dX2_goalsOfSet_18 (lv_at hl 4 rfl) ?_
        refine wm_iushr (x := S) (y := i) X (by omega) (by omega) dX2_goalsOfSet_20 ?_
        refine wm_if_eq (x := (S >>> i)) (tgt := 49) X (Nat.lt_of_le_of_lt (Nat.shiftRight_le _ _) (by omega)) dX2_goalsOfSet_21 (by decide) (fun hc21 => ?_) (fun hc21 => ?_)
        · refine lv_iload_n X.1 X.2.1 dX2_goalsOfSet_49 rfl (lv_at hl 3 rfl) ?_
          exact wm_iret (post := pX2_goalsOfSet C b E t tg cn st en S lr g) X hr hP hS ⟨(congrArg nI (ha.trans (wm_gs2 hc14 hc21))), rfl⟩ hQ dX2_goalsOfSet_50
        · refine lv_iload_n X.1 X.2.1 dX2_goalsOfSet_24 rfl (lv_at hl 1 rfl) ?_
          refine lv_iload X.1 X.2.1 dX2_goalsOfSet_25 (lv_at hl 4 rfl) ?_
          refine wm_callNi (k := 2) (As := [.int (nI S), .int (nI i)]) (rest := []) X hP hS  (kX6_hasBit l D C b n E S i (by omega) (by omega)) (host := "WordMachines") (by decide) wq2_210 wq1_1 wq2_211 (by decide) (by rw [hRe]; exact ⟨Nat.le_of_ble_eq_true rfl, Nat.le_of_ble_eq_true rfl⟩) rfl hl.1 rfl (Nat.le_of_ble_eq_true rfl) (Nat.zero_le _) (Nat.zero_le _) dX2_goalsOfSet_27 (fun r4 E4 H locs hw hP hS => ?_)
          obtain ⟨hrt, hEe⟩ := hw
          subst hrt
          subst hEe
          refine wm_ifz_eq (x := (S.testBit i)) (tgt := 43) X dX2_goalsOfSet_30 (by decide) (fun hc30 => ?_) (fun hc30 => ?_)
          · refine lv_iinc (v := nI (i + 1)) (lv' := [(4, .int (nI (i + 1))), (0, .ref (b + t)), (1, .int (nI S)), (2, .int (nI lr)), (3, .int (nI a))]) X.1 X.2.1 dX2_goalsOfSet_43 hl (k := 4) rfl (wm_inc i) (by decide) rfl (fun ls hl => ?_)
            refine lv_goto (tgt := 8) X.1 X.2.1 dX2_goalsOfSet_46 (by decide) ?_
            exact ih8 a (i + 1) (by omega) (by omega) (wm_gs3y hc14 ha hc30) _ _ _ hP hS hE0 hE1 (lv_sub hl [1, 2, 3, 4, 0] rfl)
          · refine lv_iload_n X.1 X.2.1 dX2_goalsOfSet_33 rfl (lv_at hl 3 rfl) ?_
            refine lv_aload_n X.1 X.2.1 dX2_goalsOfSet_34 rfl (lv_at hl 0 rfl) ?_
            refine lv_iload X.1 X.2.1 dX2_goalsOfSet_35 (lv_at hl 4 rfl) ?_
            refine lv_iload_n X.1 X.2.1 dX2_goalsOfSet_37 rfl (lv_at hl 2 rfl) ?_
            refine wm_callVi (k := 2) (As := [.int (nI i), .int (nI lr)]) (rest := [.int (nI a)]) X hP hS hlt0 hE0 rfl (kX2_goalsOf l D C b n E t tg cn st en i lr g hlt0 hE0 hlt1 hE1 (by omega)) wq3_40 wq3_9 wq3_10 wq1_2 wq3_11 (by decide) (by rw [hRe]; exact ⟨Nat.le_of_ble_eq_true rfl, Nat.le_of_ble_eq_true rfl⟩) rfl hl.1 rfl (Nat.le_of_ble_eq_true rfl) (Nat.zero_le _) (Nat.zero_le _) dX2_goalsOfSet_38 (fun r6 E6 H locs hw hP hS => ?_)
            obtain ⟨hrt, hEe⟩ := hw
            subst hrt
            subst hEe
            refine wm_ior (x := a) (y := (g (lr * 24 + i))) X dX2_goalsOfSet_41 ?_
            refine lv_istore_n (lv' := [(3, .int (nI (a ||| (g (lr * 24 + i))))), (0, .ref (b + t)), (1, .int (nI S)), (2, .int (nI lr)), (4, .int (nI i))]) X.1 X.2.1 dX2_goalsOfSet_42 rfl hl (by decide) rfl (fun ls hl => ?_)
            refine lv_iinc (v := nI (i + 1)) (lv' := [(4, .int (nI (i + 1))), (3, .int (nI (a ||| (g (lr * 24 + i))))), (0, .ref (b + t)), (1, .int (nI S)), (2, .int (nI lr))]) X.1 X.2.1 dX2_goalsOfSet_43 hl (k := 4) rfl (wm_inc i) (by decide) rfl (fun ls hl => ?_)
            refine lv_goto (tgt := 8) X.1 X.2.1 dX2_goalsOfSet_46 (by decide) ?_
            exact ih8 (a ||| (g (lr * 24 + i))) (i + 1) (by omega) (by omega) (wm_gs3x hc14 ha hc30) _ _ _ hP hS hE0 hE1 (lv_sub hl [2, 3, 4, 1, 0] rfl)
  exact L8 (33 - r11 + 1) 0 r11 (Nat.lt_succ_self _) (by omega) (wm_gs0 hpL) _ _ _ hP hS hE0 hE1 (lv_sub hl [2, 3, 4, 1, 0] rfl)
def pX2_clear (C : Nat → ClassId) (b : Nat) (E : Nat → va_E) (t tg cn st en k : Nat) (g : Nat → Nat) : (Nat → va_E) → Prop := fun E' => ∃ (g1 : Nat → Nat), E' t = .inr (2, [.ref (b + tg), .int (nI k), .int (nI 0), .int (nI 0)]) ∧ E' tg = wm_I C 192 g1 ∧ (∀ j, j ≠ t → j ≠ tg → E' j = E j) ∧ (∀ j, j < 192 → g1 j = 0)
set_option maxHeartbeats 4000000 in
set_option maxRecDepth 100000 in
theorem kX2_clear (l : Launch) (D : va_G) (C : Nat → ClassId) (b n : Nat) (E : Nat → va_E) (t tg cn st en k : Nat) (g : Nat → Nat) (hlt0 : t < n) (hE0 : E t = .inr (2, [.ref (b + tg), .int (nI cn), .int (nI st), .int (nI en)])) (hlt1 : tg < n) (hE1 : E tg = wm_I C 192 g) (hne : t ≠ tg) : Met l yX2_clear (wm_ws yX2_clear cX2_clear 2 none) { frames := 1, cells := 0, slots := 0, locals := 23 } (va_Pc [.ref (b + t), .int (nI k)] (wm_G D C b n E)) (va_Qv (pX2_clear C b E t tg cn st en k g) (fun E' t => wm_P D b n E' t.heap) (wm_A b)) 0 0 (wm_A b) := by
  refine wm_ofW (by decide) (Nat.le_of_ble_eq_true rfl) (fun p e s m below meth c ls R args Q hRe hQ X hr hnm hP hS hl => ?_)
  have hl : lv_has ls 2 [(0, .ref (b + t)), (1, .int (nI k))] := hl
  have hfr : ∀ j, j ≠ t → j ≠ tg → E j = E j := fun _ _ _ => rfl
  refine lv_aload_n X.1 X.2.1 dX2_clear_0 rfl (lv_at hl 0 rfl) ?_
  refine lv_iload_n X.1 X.2.1 dX2_clear_1 rfl (lv_at hl 1 rfl) ?_
  refine wm_put (v := .int (nI k)) X hP hS hlt0 hE0 rfl wm_inX2 tyX2 tyX2_ok nmX2 1 (by decide) wq1_42 rfl rfl rfl (fs1 := [.ref (b + tg), .int (nI k), .int (nI st), .int (nI en)]) rfl (Nat.le_of_ble_eq_true rfl) dX2_clear_2 (fun H locs E1 hP hS hE0 hq => ?_)
  have hE1 := (hq tg (by omega)).trans hE1
  have hfr : ∀ j, j ≠ t → j ≠ tg → E1 j = E j := fun j h0 h1 => (hq j h0).trans (hfr j h0 h1)
  refine lv_aload_n X.1 X.2.1 dX2_clear_5 rfl (lv_at hl 0 rfl) ?_
  refine lv_iconst (v := nI 0) X.1 X.2.1 dX2_clear_6 (by decide) ?_
  refine wm_put (v := .int (nI 0)) X hP hS hlt0 hE0 rfl wm_inX2 tyX2 tyX2_ok nmX2 2 (by decide) wq1_45 rfl rfl rfl (fs1 := [.ref (b + tg), .int (nI k), .int (nI 0), .int (nI en)]) rfl (Nat.le_of_ble_eq_true rfl) dX2_clear_7 (fun H locs E2 hP hS hE0 hq => ?_)
  have hE1 := (hq tg (by omega)).trans hE1
  have hfr : ∀ j, j ≠ t → j ≠ tg → E2 j = E j := fun j h0 h1 => (hq j h0).trans (hfr j h0 h1)
  refine lv_aload_n X.1 X.2.1 dX2_clear_10 rfl (lv_at hl 0 rfl) ?_
  refine lv_iconst (v := nI 0) X.1 X.2.1 dX2_clear_11 (by decide) ?_
  refine wm_put (v := .int (nI 0)) X hP hS hlt0 hE0 rfl wm_inX2 tyX2 tyX2_ok nmX2 3 (by decide) wq1_50 rfl rfl rfl (fs1 := [.ref (b + tg), .int (nI k), .int (nI 0), .int (nI 0)]) rfl (Nat.le_of_ble_eq_true rfl) dX2_clear_12 (fun H locs E3 hP hS hE0 hq => ?_)
  have hE1 := (hq tg (by omega)).trans hE1
  have hfr : ∀ j, j ≠ t → j ≠ tg → E3 j = E j := fun j h0 h1 => (hq j h0).trans (hfr j h0 h1)
  refine lv_aload_n X.1 X.2.1 dX2_clear_15 rfl (lv_at hl 0 rfl) ?_
  refine wm_get X hP hlt0 hE0 rfl wm_inX2 0 (by decide) wq1_41 rfl dX2_clear_16 ?_
  refine lv_iconst (v := nI 0) X.1 X.2.1 dX2_clear_19 (by decide) ?_
  refine wm_callSv (k := 2) (As := [.ref (b + tg), .int (nI 0)]) (rest := []) X hP hS  (kJ7_fill_53178 l D C b n E3 tg 192 0 g hlt1 hE1 (by omega)) wq2_202 wq2_203 wq1_14 wq2_204 (by decide) (by rw [hRe]; exact ⟨Nat.le_of_ble_eq_true rfl, Nat.le_of_ble_eq_true rfl⟩) rfl hl.1 rfl (Nat.le_of_ble_eq_true rfl) (Nat.zero_le _) (Nat.zero_le _) dX2_clear_20 (fun E4 H locs hw hP hS => ?_)
  obtain ⟨g4, hE1, hq, hp4_0⟩ := hw
  have hE0 := (hq t (by omega)).trans hE0
  have hfr : ∀ j, j ≠ t → j ≠ tg → E4 j = E j := fun j h0 h1 => (hq j h1).trans (hfr j h0 h1)
  exact wm_vret (post := pX2_clear C b E t tg cn st en k g) X hr hP hS ⟨g4, hE0, hE1, hfr, hp4_0⟩ hQ dX2_clear_23
def pX2_becomeCopy (C : Nat → ClassId) (b : Nat) (E : Nat → va_E) (t tg cn st en t2 tg2 c2 s2 e2 : Nat) (g g2 : Nat → Nat) : (Nat → va_E) → Prop := fun E' => ∃ (g1 : Nat → Nat), E' t = .inr (2, [.ref (b + tg), .int (nI c2), .int (nI s2), .int (nI e2)]) ∧ E' tg = wm_I C 192 g1 ∧ (∀ j, j ≠ t → j ≠ tg → E' j = E j) ∧ (∀ j, j < 192 → g1 j = g2 j)
set_option maxHeartbeats 4000000 in
set_option maxRecDepth 100000 in
theorem kX2_becomeCopy (l : Launch) (D : va_G) (C : Nat → ClassId) (b n : Nat) (E : Nat → va_E) (t tg cn st en t2 tg2 c2 s2 e2 : Nat) (g g2 : Nat → Nat) (hlt0 : t < n) (hE0 : E t = .inr (2, [.ref (b + tg), .int (nI cn), .int (nI st), .int (nI en)])) (hlt1 : tg < n) (hE1 : E tg = wm_I C 192 g) (hlt2 : t2 < n) (hE2 : E t2 = .inr (2, [.ref (b + tg2), .int (nI c2), .int (nI s2), .int (nI e2)])) (hlt3 : tg2 < n) (hE3 : E tg2 = wm_I C 192 g2) (n1 : t ≠ tg) (n2 : t ≠ t2) (n3 : t ≠ tg2) (n4 : tg ≠ t2) (n5 : tg ≠ tg2) : Met l yX2_becomeCopy (wm_ws yX2_becomeCopy cX2_becomeCopy 2 none) { frames := 1, cells := 0, slots := 0, locals := 18 } (va_Pc [.ref (b + t), .ref (b + t2)] (wm_G D C b n E)) (va_Qv (pX2_becomeCopy C b E t tg cn st en t2 tg2 c2 s2 e2 g g2) (fun E' t => wm_P D b n E' t.heap) (wm_A b)) 0 0 (wm_A b) := by
  refine wm_ofW (by decide) (Nat.le_of_ble_eq_true rfl) (fun p e s m below meth c ls R args Q hRe hQ X hr hnm hP hS hl => ?_)
  have hl : lv_has ls 2 [(0, .ref (b + t)), (1, .ref (b + t2))] := hl
  have hfr : ∀ j, j ≠ t → j ≠ tg → E j = E j := fun _ _ _ => rfl
  refine lv_aload_n X.1 X.2.1 dX2_becomeCopy_0 rfl (lv_at hl 0 rfl) ?_
  refine lv_aload_n X.1 X.2.1 dX2_becomeCopy_1 rfl (lv_at hl 1 rfl) ?_
  refine wm_get X hP hlt2 hE2 rfl wm_inX2 1 (by decide) wq1_42 rfl dX2_becomeCopy_2 ?_
  refine wm_put (v := .int (nI c2)) X hP hS hlt0 hE0 rfl wm_inX2 tyX2 tyX2_ok nmX2 1 (by decide) wq1_42 rfl rfl rfl (fs1 := [.ref (b + tg), .int (nI c2), .int (nI st), .int (nI en)]) rfl (Nat.le_of_ble_eq_true rfl) dX2_becomeCopy_5 (fun H locs E1 hP hS hE0 hq => ?_)
  have hE1 := (hq tg (by omega)).trans hE1
  have hE2 := (hq t2 (by omega)).trans hE2
  have hE3 := (hq tg2 (by omega)).trans hE3
  have hfr : ∀ j, j ≠ t → j ≠ tg → E1 j = E j := fun j h0 h1 => (hq j h0).trans (hfr j h0 h1)
  refine lv_aload_n X.1 X.2.1 dX2_becomeCopy_8 rfl (lv_at hl 0 rfl) ?_
  refine lv_aload_n X.1 X.2.1 dX2_becomeCopy_9 rfl (lv_at hl 1 rfl) ?_
  refine wm_get X hP hlt2 hE2 rfl wm_inX2 2 (by decide) wq1_45 rfl dX2_becomeCopy_10 ?_
  refine wm_put (v := .int (nI s2)) X hP hS hlt0 hE0 rfl wm_inX2 tyX2 tyX2_ok nmX2 2 (by decide) wq1_45 rfl rfl rfl (fs1 := [.ref (b + tg), .int (nI c2), .int (nI s2), .int (nI en)]) rfl (Nat.le_of_ble_eq_true rfl) dX2_becomeCopy_13 (fun H locs E2 hP hS hE0 hq => ?_)
  have hE1 := (hq tg (by omega)).trans hE1
  have hE2 := (hq t2 (by omega)).trans hE2
  have hE3 := (hq tg2 (by omega)).trans hE3
  have hfr : ∀ j, j ≠ t → j ≠ tg → E2 j = E j := fun j h0 h1 => (hq j h0).trans (hfr j h0 h1)
  refine lv_aload_n X.1 X.2.1 dX2_becomeCopy_16 rfl (lv_at hl 0 rfl) ?_
  refine lv_aload_n X.1 X.2.1 dX2_becomeCopy_17 rfl (lv_at hl 1 rfl) ?_
  refine wm_get X hP hlt2 hE2 rfl wm_inX2 3 (by decide) wq1_50 rfl dX2_becomeCopy_18 ?_
  refine wm_put (v := .int (nI e2)) X hP hS hlt0 hE0 rfl wm_inX2 tyX2 tyX2_ok nmX2 3 (by decide) wq1_50 rfl rfl rfl (fs1 := [.ref (b + tg), .int (nI c2), .int (nI s2), .int (nI e2)]) rfl (Nat.le_of_ble_eq_true rfl) dX2_becomeCopy_21 (fun H locs E3 hP hS hE0 hq => ?_)
  have hE1 := (hq tg (by omega)).trans hE1
  have hE2 := (hq t2 (by omega)).trans hE2
  have hE3 := (hq tg2 (by omega)).trans hE3
  have hfr : ∀ j, j ≠ t → j ≠ tg → E3 j = E j := fun j h0 h1 => (hq j h0).trans (hfr j h0 h1)
  refine lv_aload_n X.1 X.2.1 dX2_becomeCopy_24 rfl (lv_at hl 1 rfl) ?_
  refine wm_get X hP hlt2 hE2 rfl wm_inX2 0 (by decide) wq1_41 rfl dX2_becomeCopy_25 ?_
  refine lv_iconst (v := nI 0) X.1 X.2.1 dX2_becomeCopy_28 (by decide) ?_
  refine lv_aload_n X.1 X.2.1 dX2_becomeCopy_29 rfl (lv_at hl 0 rfl) ?_
  refine wm_get X hP hlt0 hE0 rfl wm_inX2 0 (by decide) wq1_41 rfl dX2_becomeCopy_30 ?_
  refine lv_iconst (v := nI 0) X.1 X.2.1 dX2_becomeCopy_33 (by decide) ?_
  refine lv_aload_n X.1 X.2.1 dX2_becomeCopy_34 rfl (lv_at hl 0 rfl) ?_
  refine wm_get X hP hlt0 hE0 rfl wm_inX2 0 (by decide) wq1_41 rfl dX2_becomeCopy_35 ?_
  refine wm_alen (N := 192) (k := 0) X hP hlt1 hE1 rfl rfl dX2_becomeCopy_38 ?_
  refine wm_copy X hP hS hlt3 hE3 hlt1 hE1 (by decide) wq3_52 wq3_54 wq3_53 wq1_15 hl.1 (by rw [hRe]; exact Nat.le_of_ble_eq_true rfl) (by rw [hRe]; exact Nat.le_of_ble_eq_true rfl) dX2_becomeCopy_39 (fun H locs E4 hP hS hE1 hq => ?_)
  have hE0 := (hq t (by omega)).trans hE0
  have hE2 := (hq t2 (by omega)).trans hE2
  have hE3 := (hq tg2 (by omega)).trans hE3
  have hfr : ∀ j, j ≠ t → j ≠ tg → E4 j = E j := fun j h0 h1 => (hq j h1).trans (hfr j h0 h1)
  exact wm_vret (post := pX2_becomeCopy C b E t tg cn st en t2 tg2 c2 s2 e2 g g2) X hr hP hS ⟨(va_cpy g2 g 0 0 192), hE0, hE1, hfr, wm_cpy⟩ hQ dX2_becomeCopy_42
def pX2_turnArcs (C : Nat → ClassId) (b : Nat) (E : Nat → va_E) (t tg cn st en fr lr S : Nat) (g : Nat → Nat) : (Nat → va_E) → Prop := fun E' => ∃ (g1 : Nat → Nat), E' tg = wm_I C 192 g1 ∧ (∀ j, j ≠ tg → E' j = E j) ∧ wm_ta cn lr fr S cn g g1
set_option maxHeartbeats 4000000 in
set_option maxRecDepth 100000 in
theorem kX2_turnArcs (l : Launch) (D : va_G) (C : Nat → ClassId) (b n : Nat) (E : Nat → va_E) (t tg cn st en fr lr S : Nat) (g : Nat → Nat) (hlt0 : t < n) (hE0 : E t = .inr (2, [.ref (b + tg), .int (nI cn), .int (nI st), .int (nI en)])) (hlt1 : tg < n) (hE1 : E tg = wm_I C 192 g) (hne : t ≠ tg) (hc : cn ≤ 24) (hf : fr < 24) (hlr : lr < 8) (hSb : S < 2 ^ 32) (hg : ∀ j, j < 192 → g j < 2 ^ 24) : Met l yX2_turnArcs (wm_ws yX2_turnArcs cX2_turnArcs 5 none) { frames := 1, cells := 0, slots := 0, locals := 23 } (va_Pc [.ref (b + t), .int (nI fr), .int (nI lr), .int (nI S)] (wm_G D C b n E)) (va_Qv (pX2_turnArcs C b E t tg cn st en fr lr S g) (fun E' t => wm_P D b n E' t.heap) (wm_A b)) 0 0 (wm_A b) := by
  refine wm_ofW (by decide) (Nat.le_of_ble_eq_true rfl) (fun p e s m below meth c ls R args Q hRe hQ X hr hnm hP hS hl => ?_)
  have hl : lv_has ls 5 [(0, .ref (b + t)), (1, .int (nI fr)), (2, .int (nI lr)), (3, .int (nI S))] := hl
  have hfr : ∀ j, j ≠ tg → E j = E j := fun _ _ => rfl
  refine lv_iconst (v := nI 0) X.1 X.2.1 dX2_turnArcs_0 (by decide) ?_
  refine lv_istore (lv' := [(4, .int (nI 0)), (0, .ref (b + t)), (1, .int (nI fr)), (2, .int (nI lr)), (3, .int (nI S))]) X.1 X.2.1 dX2_turnArcs_1 hl (by decide) rfl (fun ls hl => ?_)
  have L3 : ∀ (fu : Nat) (i : Nat) (g1 : Nat → Nat), cn - i < fu → (i ≤ cn) → (wm_ta cn lr fr S i g g1) → ∀ (E1 : Nat → va_E) (H : Heap) (locs : List Loc) (ls : Array Slot), wm_P D b n E1 H → wm_S b s.heap H locs → E1 t = .inr (2, [.ref (b + tg), .int (nI cn), .int (nI st), .int (nI en)]) → E1 tg = wm_I C 192 g1 → (∀ j, j ≠ tg → E1 j = E j) → lv_has ls 5 [(0, .ref (b + t)), (1, .int (nI fr)), (2, .int (nI lr)), (3, .int (nI S)), (4, .int (nI i))] → W p l e R s m args below meth c H locs 0 0 Q (F0 m 3 ls []) := by
    intro fu
    induction fu with
    | zero => intro i g1 hm; exact absurd hm (Nat.not_lt_zero _)
    | succ fu ih3 =>
      intro i g1 hm hi h1 E1 H locs ls hP hS hE0 hE1 hfr hl
      refine lv_iload X.1 X.2.1 dX2_turnArcs_3 (lv_at hl 4 rfl) ?_
      refine lv_aload_n X.1 X.2.1 dX2_turnArcs_5 rfl (lv_at hl 0 rfl) ?_
      refine wm_get X hP hlt0 hE0 rfl wm_inX2 1 (by decide) wq1_42 rfl dX2_turnArcs_6 ?_
      refine wm_icmp_ge (x := i) (y := cn) (tgt := 46) X (by omega) (by omega) dX2_turnArcs_9 (by decide) (fun hc9 => ?_) (fun hc9 => ?_)
      · exact wm_vret (post := pX2_turnArcs C b E t tg cn st en fr lr S g) X hr hP hS ⟨g1, hE1, hfr, (show wm_ta cn lr fr S cn g g1 from (show i = cn from by omega) ▸ h1)⟩ hQ dX2_turnArcs_46
      · refine lv_iload_n X.1 X.2.1 dX2_turnArcs_12 rfl (lv_at hl 3 rfl) ?_
        refine lv_iload X.1 X.2.1 dX2_turnArcs_13 (lv_at hl 4 rfl) ?_
        refine wm_callNi (k := 2) (As := [.int (nI S), .int (nI i)]) (rest := []) X hP hS  (kX6_hasBit l D C b n E1 S i (by omega) (by omega)) (host := "WordMachines") (by decide) wq2_210 wq1_1 wq2_211 (by decide) (by rw [hRe]; exact ⟨Nat.le_of_ble_eq_true rfl, Nat.le_of_ble_eq_true rfl⟩) rfl hl.1 rfl (Nat.le_of_ble_eq_true rfl) (Nat.zero_le _) (Nat.zero_le _) dX2_turnArcs_15 (fun r3 E3 H locs hw hP hS => ?_)
        obtain ⟨hrt, hEe⟩ := hw
        subst hrt
        subst hEe
        refine wm_ifz_eq (x := (S.testBit i)) (tgt := 40) X dX2_turnArcs_18 (by decide) (fun hc18 => ?_) (fun hc18 => ?_)
        · refine lv_iinc (v := nI (i + 1)) (lv' := [(4, .int (nI (i + 1))), (0, .ref (b + t)), (1, .int (nI fr)), (2, .int (nI lr)), (3, .int (nI S))]) X.1 X.2.1 dX2_turnArcs_40 hl (k := 4) rfl (wm_inc i) (by decide) rfl (fun ls hl => ?_)
          refine lv_goto (tgt := 3) X.1 X.2.1 dX2_turnArcs_43 (by decide) ?_
          exact ih3 (i + 1) g1 (by omega) (by omega) (wm_ta2 h1 hc18) E1 _ _ _ hP hS hE0 hE1 hfr (lv_sub hl [1, 2, 3, 4, 0] rfl)
        · refine lv_aload_n X.1 X.2.1 dX2_turnArcs_21 rfl (lv_at hl 0 rfl) ?_
          refine lv_iload X.1 X.2.1 dX2_turnArcs_22 (lv_at hl 4 rfl) ?_
          refine lv_iload_n X.1 X.2.1 dX2_turnArcs_24 rfl (lv_at hl 2 rfl) ?_
          refine lv_aload_n X.1 X.2.1 dX2_turnArcs_25 rfl (lv_at hl 0 rfl) ?_
          refine lv_iload X.1 X.2.1 dX2_turnArcs_26 (lv_at hl 4 rfl) ?_
          refine lv_iload_n X.1 X.2.1 dX2_turnArcs_28 rfl (lv_at hl 2 rfl) ?_
          refine wm_callVi (k := 2) (As := [.int (nI i), .int (nI lr)]) (rest := [.int (nI lr), .int (nI i), .ref (b + t)]) X hP hS hlt0 hE0 rfl (kX2_goalsOf l D C b n E1 t tg cn st en i lr g1 hlt0 hE0 hlt1 hE1 (by omega)) wq3_40 wq3_9 wq3_10 wq1_2 wq3_11 (by decide) (by rw [hRe]; exact ⟨Nat.le_of_ble_eq_true rfl, Nat.le_of_ble_eq_true rfl⟩) rfl hl.1 rfl (Nat.le_of_ble_eq_true rfl) (Nat.zero_le _) (Nat.zero_le _) dX2_turnArcs_29 (fun r5 E5 H locs hw hP hS => ?_)
          obtain ⟨hrt, hEe⟩ := hw
          subst hrt
          subst hEe
          refine lv_iload_n X.1 X.2.1 dX2_turnArcs_32 rfl (lv_at hl 1 rfl) ?_
          refine lv_iconst (v := nI 1) X.1 X.2.1 dX2_turnArcs_33 (by decide) ?_
          refine wm_callNi (k := 3) (As := [.int (nI (g1 (lr * 24 + i))), .int (nI fr), .int (nI true.toNat)]) (rest := [.int (nI lr), .int (nI i), .ref (b + t)]) X hP hS  (kX6_withBit l D C b n E1 (g1 (lr * 24 + i)) fr true (Nat.lt_trans (wm_ta_lt h1 hf (by omega) hg) (by decide)) (by omega)) (host := "WordMachines") (by decide) wq2_238 wq1_1 wq2_239 (by decide) (by rw [hRe]; exact ⟨Nat.le_of_ble_eq_true rfl, Nat.le_of_ble_eq_true rfl⟩) rfl hl.1 rfl (Nat.le_of_ble_eq_true rfl) (Nat.zero_le _) (Nat.zero_le _) dX2_turnArcs_34 (fun r6 E6 H locs hw hP hS => ?_)
          obtain ⟨hrt, hEe⟩ := hw
          subst hrt
          subst hEe
          refine wm_callVv (k := 3) (As := [.int (nI i), .int (nI lr), .int (nI (wm_wb (g1 (lr * 24 + i)) fr true))]) (rest := []) X hP hS hlt0 hE0 rfl (kX2_putGoals l D C b n E1 t tg cn st en i lr (wm_wb (g1 (lr * 24 + i)) fr true) g1 hlt0 hE0 hlt1 hE1 (by omega) (by omega)) wq3_47 wq2_213 wq2_214 wq1_2 wq2_215 (by decide) (by rw [hRe]; exact ⟨Nat.le_of_ble_eq_true rfl, Nat.le_of_ble_eq_true rfl⟩) rfl hl.1 rfl (Nat.le_of_ble_eq_true rfl) (Nat.zero_le _) (Nat.zero_le _) dX2_turnArcs_37 (fun E7 H locs hw hP hS => ?_)
          obtain ⟨hE1, hq⟩ := hw
          have hE0 := (hq t (by omega)).trans hE0
          have hfr : ∀ j, j ≠ tg → E7 j = E j := fun j h0 => (hq j h0).trans (hfr j h0)
          refine lv_iinc (v := nI (i + 1)) (lv' := [(4, .int (nI (i + 1))), (0, .ref (b + t)), (1, .int (nI fr)), (2, .int (nI lr)), (3, .int (nI S))]) X.1 X.2.1 dX2_turnArcs_40 hl (k := 4) rfl (wm_inc i) (by decide) rfl (fun ls hl => ?_)
          refine lv_goto (tgt := 3) X.1 X.2.1 dX2_turnArcs_43 (by decide) ?_
          exact ih3 (i + 1) (va_up g1 (lr * 24 + i) (wm_wb (g1 (lr * 24 + i)) fr true)) (by omega) (by omega) (wm_ta1 h1 hc18) E7 _ _ _ hP hS hE0 hE1 hfr (lv_sub hl [1, 2, 3, 4, 0] rfl)
  exact L3 (cn - 0 + 1) 0 g (Nat.lt_succ_self _) (by omega) wm_ta0 E _ _ _ hP hS hE0 hE1 hfr (lv_sub hl [1, 2, 3, 4, 0] rfl)
def pX2_becomeTurned (C : Nat → ClassId) (b : Nat) (E : Nat → va_E) (t tg cn st en t2 tg2 c2 s2 e2 : Nat) (g g2 : Nat → Nat) : (Nat → va_E) → Prop := fun E' => ∃ (g1 : Nat → Nat), E' t = .inr (2, [.ref (b + tg), .int (nI c2), .int (nI e2), .int (nI s2)]) ∧ E' tg = wm_I C 192 g1 ∧ (∀ j, j ≠ t → j ≠ tg → E' j = E j) ∧ wm_bt c2 8 0 g2 g1
set_option maxHeartbeats 4000000 in
set_option maxRecDepth 100000 in
theorem kX2_becomeTurned (l : Launch) (D : va_G) (C : Nat → ClassId) (b n : Nat) (E : Nat → va_E) (t tg cn st en t2 tg2 c2 s2 e2 : Nat) (g g2 : Nat → Nat) (hlt0 : t < n) (hE0 : E t = .inr (2, [.ref (b + tg), .int (nI cn), .int (nI st), .int (nI en)])) (hlt1 : tg < n) (hE1 : E tg = wm_I C 192 g) (hlt2 : t2 < n) (hE2 : E t2 = .inr (2, [.ref (b + tg2), .int (nI c2), .int (nI s2), .int (nI e2)])) (hlt3 : tg2 < n) (hE3 : E tg2 = wm_I C 192 g2) (n1 : t ≠ tg) (n2 : t ≠ t2) (n3 : t ≠ tg2) (n4 : tg ≠ t2) (n5 : tg ≠ tg2) (hc : c2 ≤ 24) (hg : ∀ a x, a < 8 → x < c2 → g2 (a * 24 + x) < 2 ^ 32) : Met l yX2_becomeTurned (wm_ws yX2_becomeTurned cX2_becomeTurned 4 none) { frames := 2, cells := 0, slots := 0, locals := 47 } (va_Pc [.ref (b + t), .ref (b + t2)] (wm_G D C b n E)) (va_Qv (pX2_becomeTurned C b E t tg cn st en t2 tg2 c2 s2 e2 g g2) (fun E' t => wm_P D b n E' t.heap) (wm_A b)) 0 0 (wm_A b) := by
  refine wm_ofW (by decide) (Nat.le_of_ble_eq_true rfl) (fun p e s m below meth c ls R args Q hRe hQ X hr hnm hP hS hl => ?_)
  have hl : lv_has ls 4 [(0, .ref (b + t)), (1, .ref (b + t2))] := hl
  have hfr : ∀ j, j ≠ t → j ≠ tg → E j = E j := fun _ _ _ => rfl
  refine lv_aload_n X.1 X.2.1 dX2_becomeTurned_0 rfl (lv_at hl 0 rfl) ?_
  refine lv_aload_n X.1 X.2.1 dX2_becomeTurned_1 rfl (lv_at hl 1 rfl) ?_
  refine wm_get X hP hlt2 hE2 rfl wm_inX2 1 (by decide) wq1_42 rfl dX2_becomeTurned_2 ?_
  refine wm_callVv (k := 1) (As := [.int (nI c2)]) (rest := []) X hP hS hlt0 hE0 rfl (kX2_clear l D C b n E t tg cn st en c2 g hlt0 hE0 hlt1 hE1 (by omega)) wq3_39 wq2_199 wq2_200 wq1_2 wq2_201 (by decide) (by rw [hRe]; exact ⟨Nat.le_of_ble_eq_true rfl, Nat.le_of_ble_eq_true rfl⟩) rfl hl.1 rfl (Nat.le_of_ble_eq_true rfl) (Nat.zero_le _) (Nat.zero_le _) dX2_becomeTurned_5 (fun E1 H locs hw hP hS => ?_)
  obtain ⟨g11, hE0, hE1, hq, hp1_0⟩ := hw
  have hE2 := (hq t2 (by omega) (by omega)).trans hE2
  have hE3 := (hq tg2 (by omega) (by omega)).trans hE3
  have hfr : ∀ j, j ≠ t → j ≠ tg → E1 j = E j := fun j h0 h1 => (hq j h0 h1).trans (hfr j h0 h1)
  refine lv_aload_n X.1 X.2.1 dX2_becomeTurned_8 rfl (lv_at hl 0 rfl) ?_
  refine lv_aload_n X.1 X.2.1 dX2_becomeTurned_9 rfl (lv_at hl 1 rfl) ?_
  refine wm_get X hP hlt2 hE2 rfl wm_inX2 3 (by decide) wq1_50 rfl dX2_becomeTurned_10 ?_
  refine wm_put (v := .int (nI e2)) X hP hS hlt0 hE0 rfl wm_inX2 tyX2 tyX2_ok nmX2 2 (by decide) wq1_45 rfl rfl rfl (fs1 := [.ref (b + tg), .int (nI c2), .int (nI e2), .int (nI 0)]) rfl (Nat.le_of_ble_eq_true rfl) dX2_becomeTurned_13 (fun H locs E2 hP hS hE0 hq => ?_)
  have hE1 := (hq tg (by omega)).trans hE1
  have hE2 := (hq t2 (by omega)).trans hE2
  have hE3 := (hq tg2 (by omega)).trans hE3
  have hfr : ∀ j, j ≠ t → j ≠ tg → E2 j = E j := fun j h0 h1 => (hq j h0).trans (hfr j h0 h1)
  refine lv_aload_n X.1 X.2.1 dX2_becomeTurned_16 rfl (lv_at hl 0 rfl) ?_
  refine lv_aload_n X.1 X.2.1 dX2_becomeTurned_17 rfl (lv_at hl 1 rfl) ?_
  refine wm_get X hP hlt2 hE2 rfl wm_inX2 2 (by decide) wq1_45 rfl dX2_becomeTurned_18 ?_
  refine wm_put (v := .int (nI s2)) X hP hS hlt0 hE0 rfl wm_inX2 tyX2 tyX2_ok nmX2 3 (by decide) wq1_50 rfl rfl rfl (fs1 := [.ref (b + tg), .int (nI c2), .int (nI e2), .int (nI s2)]) rfl (Nat.le_of_ble_eq_true rfl) dX2_becomeTurned_21 (fun H locs E3 hP hS hE0 hq => ?_)
  have hE1 := (hq tg (by omega)).trans hE1
  have hE2 := (hq t2 (by omega)).trans hE2
  have hE3 := (hq tg2 (by omega)).trans hE3
  have hfr : ∀ j, j ≠ t → j ≠ tg → E3 j = E j := fun j h0 h1 => (hq j h0).trans (hfr j h0 h1)
  refine lv_iconst (v := nI 0) X.1 X.2.1 dX2_becomeTurned_24 (by decide) ?_
  refine lv_istore_n (lv' := [(2, .int (nI 0)), (0, .ref (b + t)), (1, .ref (b + t2))]) X.1 X.2.1 dX2_becomeTurned_25 rfl hl (by decide) rfl (fun ls hl => ?_)
  have L26 : ∀ (fu : Nat) (L : Nat) (g1 : Nat → Nat), 8 - L < fu → (L ≤ 8) → (wm_bt c2 L 0 g2 g1) → ∀ (E4 : Nat → va_E) (H : Heap) (locs : List Loc) (ls : Array Slot), wm_P D b n E4 H → wm_S b s.heap H locs → E4 t = .inr (2, [.ref (b + tg), .int (nI c2), .int (nI e2), .int (nI s2)]) → E4 tg = wm_I C 192 g1 → E4 t2 = .inr (2, [.ref (b + tg2), .int (nI c2), .int (nI s2), .int (nI e2)]) → E4 tg2 = wm_I C 192 g2 → (∀ j, j ≠ t → j ≠ tg → E4 j = E j) → lv_has ls 4 [(0, .ref (b + t)), (1, .ref (b + t2)), (2, .int (nI L))] → W p l e R s m args below meth c H locs 0 0 Q (F0 m 26 ls []) := by
    intro fu
    induction fu with
    | zero => intro L g1 hm; exact absurd hm (Nat.not_lt_zero _)
    | succ fu ih26 =>
      intro L g1 hm hL h1 E4 H locs ls hP hS hE0 hE1 hE2 hE3 hfr hl
      refine lv_iload_n X.1 X.2.1 dX2_becomeTurned_26 rfl (lv_at hl 2 rfl) ?_
      refine lv_bipush (v := nI 8) X.1 X.2.1 dX2_becomeTurned_27 (by decide) ?_
      refine wm_icmp_ge (x := L) (y := 8) (tgt := 66) X (by omega) (by decide) dX2_becomeTurned_29 (by decide) (fun hc29 => ?_) (fun hc29 => ?_)
      · exact wm_vret (post := pX2_becomeTurned C b E t tg cn st en t2 tg2 c2 s2 e2 g g2) X hr hP hS ⟨g1, hE0, hE1, hfr, (show wm_bt c2 8 0 g2 g1 from (show L = 8 from by omega) ▸ h1)⟩ hQ dX2_becomeTurned_66
      · refine lv_iconst (v := nI 0) X.1 X.2.1 dX2_becomeTurned_32 (by decide) ?_
        refine lv_istore_n (lv' := [(3, .int (nI 0)), (0, .ref (b + t)), (1, .ref (b + t2)), (2, .int (nI L))]) X.1 X.2.1 dX2_becomeTurned_33 rfl hl (by decide) rfl (fun ls hl => ?_)
        have L34 : ∀ (fu : Nat) (F : Nat) (g3 : Nat → Nat), c2 - F < fu → (F ≤ c2) → (wm_bt c2 L F g2 g3) → ∀ (E6 : Nat → va_E) (H : Heap) (locs : List Loc) (ls : Array Slot), wm_P D b n E6 H → wm_S b s.heap H locs → E6 t = .inr (2, [.ref (b + tg), .int (nI c2), .int (nI e2), .int (nI s2)]) → E6 tg = wm_I C 192 g3 → E6 t2 = .inr (2, [.ref (b + tg2), .int (nI c2), .int (nI s2), .int (nI e2)]) → E6 tg2 = wm_I C 192 g2 → (∀ j, j ≠ t → j ≠ tg → E6 j = E j) → lv_has ls 4 [(0, .ref (b + t)), (1, .ref (b + t2)), (2, .int (nI L)), (3, .int (nI F))] → W p l e R s m args below meth c H locs 0 0 Q (F0 m 34 ls []) := by
          intro fu
          induction fu with
          | zero => intro F g3 hm; exact absurd hm (Nat.not_lt_zero _)
          | succ fu ih34 =>
            intro F g3 hm hF h2 E6 H locs ls hP hS hE0 hE1 hE2 hE3 hfr hl
            refine lv_iload_n X.1 X.2.1 dX2_becomeTurned_34 rfl (lv_at hl 3 rfl) ?_
            refine lv_aload_n X.1 X.2.1 dX2_becomeTurned_35 rfl (lv_at hl 0 rfl) ?_
            refine wm_get X hP hlt0 hE0 rfl wm_inX2 1 (by decide) wq1_42 rfl dX2_becomeTurned_36 ?_
            refine wm_icmp_ge (x := F) (y := c2) (tgt := 60) X (by omega) (by omega) dX2_becomeTurned_39 (by decide) (fun hc39 => ?_) (fun hc39 => ?_)
            · refine lv_iinc (v := nI (L + 1)) (lv' := [(2, .int (nI (L + 1))), (0, .ref (b + t)), (1, .ref (b + t2)), (3, .int (nI F))]) X.1 X.2.1 dX2_becomeTurned_60 hl (k := 2) rfl (wm_inc L) (by decide) rfl (fun ls hl => ?_)
              refine lv_goto (tgt := 26) X.1 X.2.1 dX2_becomeTurned_63 (by decide) ?_
              exact ih26 (L + 1) g3 (by omega) (by omega) (wm_btL h2 hc39) E6 _ _ _ hP hS hE0 hE1 hE2 hE3 hfr (lv_sub hl [1, 2, 0] rfl)
            · refine lv_aload_n X.1 X.2.1 dX2_becomeTurned_42 rfl (lv_at hl 0 rfl) ?_
              refine lv_iload_n X.1 X.2.1 dX2_becomeTurned_43 rfl (lv_at hl 3 rfl) ?_
              refine lv_iload_n X.1 X.2.1 dX2_becomeTurned_44 rfl (lv_at hl 2 rfl) ?_
              refine lv_aload_n X.1 X.2.1 dX2_becomeTurned_45 rfl (lv_at hl 1 rfl) ?_
              refine lv_iload_n X.1 X.2.1 dX2_becomeTurned_46 rfl (lv_at hl 3 rfl) ?_
              refine lv_iload_n X.1 X.2.1 dX2_becomeTurned_47 rfl (lv_at hl 2 rfl) ?_
              refine wm_callVi (k := 2) (As := [.int (nI F), .int (nI L)]) (rest := [.int (nI L), .int (nI F), .ref (b + t)]) X hP hS hlt2 hE2 rfl (kX2_goalsOf l D C b n E6 t2 tg2 c2 s2 e2 F L g2 hlt2 hE2 hlt3 hE3 (by omega)) wq3_40 wq3_9 wq3_10 wq1_2 wq3_11 (by decide) (by rw [hRe]; exact ⟨Nat.le_of_ble_eq_true rfl, Nat.le_of_ble_eq_true rfl⟩) rfl hl.1 rfl (Nat.le_of_ble_eq_true rfl) (Nat.zero_le _) (Nat.zero_le _) dX2_becomeTurned_48 (fun r8 E8 H locs hw hP hS => ?_)
              obtain ⟨hrt, hEe⟩ := hw
              subst hrt
              subst hEe
              refine wm_callVv (k := 3) (As := [.int (nI F), .int (nI L), .int (nI (g2 (L * 24 + F)))]) (rest := []) X hP hS hlt0 hE0 rfl (kX2_turnArcs l D C b n E6 t tg c2 e2 s2 F L (g2 (L * 24 + F)) g3 hlt0 hE0 hlt1 hE1 (by omega) (by omega) (by omega) (by omega) (hg L F hc29 hc39) (wm_bt_lt h2 hc)) wq3_41 wq3_43 wqP2_1 wq1_2 wq3_44 (by decide) (by rw [hRe]; exact ⟨Nat.le_of_ble_eq_true rfl, Nat.le_of_ble_eq_true rfl⟩) rfl hl.1 rfl (Nat.le_of_ble_eq_true rfl) (Nat.zero_le _) (Nat.zero_le _) dX2_becomeTurned_51 (fun E9 H locs hw hP hS => ?_)
              obtain ⟨g19, hE1, hq, hp9_0⟩ := hw
              have hE0 := (hq t (by omega)).trans hE0
              have hE2 := (hq t2 (by omega)).trans hE2
              have hE3 := (hq tg2 (by omega)).trans hE3
              have hfr : ∀ j, j ≠ t → j ≠ tg → E9 j = E j := fun j h0 h1 => (hq j h1).trans (hfr j h0 h1)
              refine lv_iinc (v := nI (F + 1)) (lv' := [(3, .int (nI (F + 1))), (0, .ref (b + t)), (1, .ref (b + t2)), (2, .int (nI L))]) X.1 X.2.1 dX2_becomeTurned_54 hl (k := 3) rfl (wm_inc F) (by decide) rfl (fun ls hl => ?_)
              refine lv_goto (tgt := 34) X.1 X.2.1 dX2_becomeTurned_57 (by decide) ?_
              exact ih34 (F + 1) g19 (by omega) (by omega) (wm_bt1 h2 hc39 hc29 hc hp9_0) E9 _ _ _ hP hS hE0 hE1 hE2 hE3 hfr (lv_sub hl [1, 2, 3, 0] rfl)
        exact L34 (c2 - 0 + 1) 0 g1 (Nat.lt_succ_self _) (by omega) h1 E4 _ _ _ hP hS hE0 hE1 hE2 hE3 hfr (lv_sub hl [1, 2, 3, 0] rfl)
  exact L26 (8 - 0 + 1) 0 g11 (Nat.lt_succ_self _) (by omega) (wm_bt0 hp1_0) E3 _ _ _ hP hS hE0 hE1 hE2 hE3 hfr (lv_sub hl [1, 2, 0] rfl)
def pX2_pairs (C : Nat → ClassId) (b : Nat) (E : Nat → va_E) (t1 t2 S1 S2 c1 c2 : Nat) (q1 q2 a1 a2 b1 b2 : Nat) : Int32 → (Nat → va_E) → Prop := fun r E' => r = nI (wm_pr S1 S2 c1 c2) ∧ E = E'
set_option maxHeartbeats 4000000 in
set_option maxRecDepth 100000 in
theorem kX2_pairs (l : Launch) (D : va_G) (C : Nat → ClassId) (b n : Nat) (E : Nat → va_E) (t1 t2 S1 S2 c1 c2 : Nat) (q1 q2 a1 a2 b1 b2 : Nat) (hlt0 : t1 < n) (hE0 : E t1 = .inr (2, [.ref (b + q1), .int (nI c1), .int (nI a1), .int (nI b1)])) (hlt1 : t2 < n) (hE1 : E t2 = .inr (2, [.ref (b + q2), .int (nI c2), .int (nI a2), .int (nI b2)])) (hc : c1 * c2 ≤ 24) (hc1 : c1 ≤ 24) (hSb : S1 < 2 ^ 32) : Met l yX2_pairs (wm_ws yX2_pairs cX2_pairs 6 (some .int)) { frames := 1, cells := 0, slots := 0, locals := 21 } (va_Pc [.ref (b + t1), .int (nI S1), .ref (b + t2), .int (nI S2)] (wm_G D C b n E)) (va_Qi (pX2_pairs C b E t1 t2 S1 S2 c1 c2 q1 q2 a1 a2 b1 b2) (fun E' t => wm_P D b n E' t.heap) (wm_A b)) 0 0 (wm_A b) := by
  refine wm_ofW (by decide) (Nat.le_of_ble_eq_true rfl) (fun p e s m below meth c ls R args Q hRe hQ X hr hnm hP hS hl => ?_)
  have hl : lv_has ls 6 [(0, .ref (b + t1)), (1, .int (nI S1)), (2, .ref (b + t2)), (3, .int (nI S2))] := hl
  refine lv_iconst (v := nI 0) X.1 X.2.1 dX2_pairs_0 (by decide) ?_
  refine lv_istore (lv' := [(4, .int (nI 0)), (0, .ref (b + t1)), (1, .int (nI S1)), (2, .ref (b + t2)), (3, .int (nI S2))]) X.1 X.2.1 dX2_pairs_1 hl (by decide) rfl (fun ls hl => ?_)
  refine lv_iconst (v := nI 0) X.1 X.2.1 dX2_pairs_3 (by decide) ?_
  refine lv_istore (lv' := [(5, .int (nI 0)), (4, .int (nI 0)), (0, .ref (b + t1)), (1, .int (nI S1)), (2, .ref (b + t2)), (3, .int (nI S2))]) X.1 X.2.1 dX2_pairs_4 hl (by decide) rfl (fun ls hl => ?_)
  have L6 : ∀ (fu : Nat) (a : Nat) (i : Nat), c1 - i < fu → (i ≤ c1) → (a = wm_or i (fun x => if S1.testBit x then S2 <<< (x * c2) else 0)) → ∀ (H : Heap) (locs : List Loc) (ls : Array Slot), wm_P D b n E H → wm_S b s.heap H locs → E t1 = .inr (2, [.ref (b + q1), .int (nI c1), .int (nI a1), .int (nI b1)]) → E t2 = .inr (2, [.ref (b + q2), .int (nI c2), .int (nI a2), .int (nI b2)]) → lv_has ls 6 [(0, .ref (b + t1)), (1, .int (nI S1)), (2, .ref (b + t2)), (3, .int (nI S2)), (4, .int (nI a)), (5, .int (nI i))] → W p l e R s m args below meth c H locs 0 0 Q (F0 m 6 ls []) := by
    intro fu
    induction fu with
    | zero => intro a i hm; exact absurd hm (Nat.not_lt_zero _)
    | succ fu ih6 =>
      intro a i hm hi ha H locs ls hP hS hE0 hE1 hl
      refine lv_iload X.1 X.2.1 dX2_pairs_6 (lv_at hl 5 rfl) ?_
      refine lv_aload_n X.1 X.2.1 dX2_pairs_8 rfl (lv_at hl 0 rfl) ?_
      refine wm_get X hP hlt0 hE0 rfl wm_inX2 1 (by decide) wq1_42 rfl dX2_pairs_9 ?_
      refine wm_icmp_ge (x := i) (y := c1) (tgt := 44) X (by omega) (by omega) dX2_pairs_12 (by decide) (fun hc12 => ?_) (fun hc12 => ?_)
      · refine lv_iload X.1 X.2.1 dX2_pairs_44 (lv_at hl 4 rfl) ?_
        exact wm_iret (post := pX2_pairs C b E t1 t2 S1 S2 c1 c2 q1 q2 a1 a2 b1 b2) X hr hP hS ⟨(congrArg nI (ha.trans (show wm_or i _ = wm_or c1 _ from (show i = c1 from by omega) ▸ rfl))), rfl⟩ hQ dX2_pairs_46
      · refine lv_iload_n X.1 X.2.1 dX2_pairs_15 rfl (lv_at hl 1 rfl) ?_
        refine lv_iload X.1 X.2.1 dX2_pairs_16 (lv_at hl 5 rfl) ?_
        refine wm_callNi (k := 2) (As := [.int (nI S1), .int (nI i)]) (rest := []) X hP hS  (kX6_hasBit l D C b n E S1 i (by omega) (by omega)) (host := "WordMachines") (by decide) wq2_210 wq1_1 wq2_211 (by decide) (by rw [hRe]; exact ⟨Nat.le_of_ble_eq_true rfl, Nat.le_of_ble_eq_true rfl⟩) rfl hl.1 rfl (Nat.le_of_ble_eq_true rfl) (Nat.zero_le _) (Nat.zero_le _) dX2_pairs_18 (fun r2 E2 H locs hw hP hS => ?_)
        obtain ⟨hrt, hEe⟩ := hw
        subst hrt
        subst hEe
        refine wm_ifz_eq (x := (S1.testBit i)) (tgt := 38) X dX2_pairs_21 (by decide) (fun hc21 => ?_) (fun hc21 => ?_)
        · refine lv_iinc (v := nI (i + 1)) (lv' := [(5, .int (nI (i + 1))), (0, .ref (b + t1)), (1, .int (nI S1)), (2, .ref (b + t2)), (3, .int (nI S2)), (4, .int (nI a))]) X.1 X.2.1 dX2_pairs_38 hl (k := 5) rfl (wm_inc i) (by decide) rfl (fun ls hl => ?_)
          refine lv_goto (tgt := 6) X.1 X.2.1 dX2_pairs_41 (by decide) ?_
          exact ih6 a (i + 1) (by omega) (by omega) (wm_pr_f ha (if_neg (by rw [hc21]; decide))) _ _ _ hP hS hE0 hE1 (lv_sub hl [1, 2, 3, 4, 5, 0] rfl)
        · refine lv_iload X.1 X.2.1 dX2_pairs_24 (lv_at hl 4 rfl) ?_
          refine lv_iload_n X.1 X.2.1 dX2_pairs_26 rfl (lv_at hl 3 rfl) ?_
          refine lv_iload X.1 X.2.1 dX2_pairs_27 (lv_at hl 5 rfl) ?_
          refine lv_aload_n X.1 X.2.1 dX2_pairs_29 rfl (lv_at hl 2 rfl) ?_
          refine wm_get X hP hlt1 hE1 rfl wm_inX2 1 (by decide) wq1_42 rfl dX2_pairs_30 ?_
          refine wm_imul (x := i) (y := c2) X dX2_pairs_33 ?_
          refine wm_ishl (x := S2) (y := (i * c2)) X (wm_mul32 hc12 hc) dX2_pairs_34 ?_
          refine wm_ior (x := a) (y := (S2 <<< (i * c2))) X dX2_pairs_35 ?_
          refine lv_istore (lv' := [(4, .int (nI (a ||| (S2 <<< (i * c2))))), (0, .ref (b + t1)), (1, .int (nI S1)), (2, .ref (b + t2)), (3, .int (nI S2)), (5, .int (nI i))]) X.1 X.2.1 dX2_pairs_36 hl (by decide) rfl (fun ls hl => ?_)
          refine lv_iinc (v := nI (i + 1)) (lv' := [(5, .int (nI (i + 1))), (4, .int (nI (a ||| (S2 <<< (i * c2))))), (0, .ref (b + t1)), (1, .int (nI S1)), (2, .ref (b + t2)), (3, .int (nI S2))]) X.1 X.2.1 dX2_pairs_38 hl (k := 5) rfl (wm_inc i) (by decide) rfl (fun ls hl => ?_)
          refine lv_goto (tgt := 6) X.1 X.2.1 dX2_pairs_41 (by decide) ?_
          exact ih6 (a ||| (S2 <<< (i * c2))) (i + 1) (by omega) (by omega) (wm_pr_t ha _ (if_pos hc21)) _ _ _ hP hS hE0 hE1 (lv_sub hl [2, 3, 4, 5, 1, 0] rfl)
  exact L6 (c1 - 0 + 1) 0 0 (Nat.lt_succ_self _) (by omega) rfl _ _ _ hP hS hE0 hE1 (lv_sub hl [2, 3, 4, 5, 1, 0] rfl)
