set_option maxHeartbeats 2000000 in
theorem wm_switch {p : Program} {l : Launch} {e : Env} {R : Room} {s : State} {m : MethodId} {args : Array Value} {below : List Frame} {meth : Method} {c : Code} {Q : State → Prop} {D : va_G} {C : Nat → ClassId} {b a L : Nat} {xs : Nat → Int32} {i cells slots : Nat} {E : Nat → va_E} {H : Heap} {locs : List Loc} {ls : Array Slot} {S : wm_St} {th : Nat} {f : Nat → Int64} (V : wm_env p l R s m args meth c D C b a L xs) (hi : i + 6 ≤ L) (hcl : cells + 1 ≤ R.cells) (hsl : slots + 6 ≤ R.slots) (nx : wm_next p l e R s m args below meth c Q D C b a i (cells + 1) (slots + 6)) (st : wm_st9 D C b s E H locs S th f) (hl : lv_has ls 8 (wm_lvs a b i)) {k : Nat} (hk : k < 32) : W p l e R s m args below meth c H locs cells slots Q (F0 m 40 ls [.int (nI k)]) := by
  have X := V.2.1
  have hks : k = 0 ∨ k = 1 ∨ k = 2 ∨ k = 3 ∨ k = 4 ∨ k = 5 ∨ k = 6 ∨ k = 7 ∨ k = 8 ∨ k = 9 ∨ k = 10 ∨ k = 11 ∨ k = 12 ∨ k = 13 ∨ k = 14 ∨ k = 15 ∨ k = 16 ∨ k = 17 ∨ k = 18 ∨ k = 19 ∨ k = 20 ∨ k = 21 ∨ k = 22 ∨ k = 23 ∨ k = 24 ∨ k = 25 ∨ k = 26 ∨ k = 27 ∨ k = 28 ∨ k = 29 ∨ k = 30 ∨ k = 31 := by omega
  rcases hks with rfl | rfl | rfl | rfl | rfl | rfl | rfl | rfl | rfl | rfl | rfl | rfl | rfl | rfl | rfl | rfl | rfl | rfl | rfl | rfl | rfl | rfl | rfl | rfl | rfl | rfl | rfl | rfl | rfl | rfl | rfl | rfl
  · refine lv_tableIn (tgt := 136) X.1 X.2.1 dL_law_40 (by decide) (by decide) rfl (by decide) ?_
    exact s_feed V hi hcl hsl nx st hl
  · refine lv_tableIn (tgt := 236) X.1 X.2.1 dL_law_40 (by decide) (by decide) rfl (by decide) ?_
    exact s_wipe V hi hcl hsl nx st hl
  · refine lv_tableIn (tgt := 249) X.1 X.2.1 dL_law_40 (by decide) (by decide) rfl (by decide) ?_
    exact s_read V hi hcl hsl nx st hl
  · refine lv_tableIn (tgt := 305) X.1 X.2.1 dL_law_40 (by decide) (by decide) rfl (by decide) ?_
    exact s_fault V hi hcl hsl nx st hl
  · refine lv_tableIn (tgt := 318) X.1 X.2.1 dL_law_40 (by decide) (by decide) rfl (by decide) ?_
    exact s_place V hi hcl hsl nx st hl
  · refine lv_tableIn (tgt := 331) X.1 X.2.1 dL_law_40 (by decide) (by decide) rfl (by decide) ?_
    exact s_blank V hi hcl hsl nx st hl
  · refine lv_tableIn (tgt := 379) X.1 X.2.1 dL_law_40 (by decide) (by decide) rfl (by decide) ?_
    exact s_mark V hi hcl hsl nx st hl
  · refine lv_tableIn (tgt := 439) X.1 X.2.1 dL_law_40 (by decide) (by decide) rfl (by decide) ?_
    exact s_arc V hi hcl hsl nx st hl
  · refine lv_tableIn (tgt := 566) X.1 X.2.1 dL_law_40 (by decide) (by decide) rfl (by decide) ?_
    exact s_arcs V hi hcl hsl nx st hl
  · refine lv_tableIn (tgt := 646) X.1 X.2.1 dL_law_40 (by decide) (by decide) rfl (by decide) ?_
    exact s_states V hi hcl hsl nx st hl
  · refine lv_tableIn (tgt := 702) X.1 X.2.1 dL_law_40 (by decide) (by decide) rfl (by decide) ?_
    exact s_turn V hi hcl hsl nx st hl
  · refine lv_tableIn (tgt := 750) X.1 X.2.1 dL_law_40 (by decide) (by decide) rfl (by decide) ?_
    exact s_either V hi hcl hsl nx st hl
  · refine lv_tableIn (tgt := 830) X.1 X.2.1 dL_law_40 (by decide) (by decide) rfl (by decide) ?_
    exact s_both V hi hcl hsl nx st hl
  · refine lv_tableIn (tgt := 910) X.1 X.2.1 dL_law_40 (by decide) (by decide) rfl (by decide) ?_
    exact s_takes V hi hcl hsl nx st hl
  · refine lv_tableIn (tgt := 973) X.1 X.2.1 dL_law_40 (by decide) (by decide) rfl (by decide) ?_
    exact s_within V hi hcl hsl nx st hl
  · refine lv_tableIn (tgt := 1048) X.1 X.2.1 dL_law_40 (by decide) (by decide) rfl (by decide) ?_
    exact s_length V hi hcl hsl nx st hl
  · refine lv_tableIn (tgt := 1061) X.1 X.2.1 dL_law_40 (by decide) (by decide) rfl (by decide) ?_
    exact s_letter V hi hcl hsl nx st hl
  · refine lv_tableIn (tgt := 1117) X.1 X.2.1 dL_law_40 (by decide) (by decide) rfl (by decide) ?_
    exact s_words V hi hcl hsl nx st hl
  · refine lv_tableIn (tgt := 1184) X.1 X.2.1 dL_law_40 (by decide) (by decide) rfl (by decide) ?_
    exact s_sets V hi hcl hsl nx st hl
  · refine lv_tableIn (tgt := 1240) X.1 X.2.1 dL_law_40 (by decide) (by decide) rfl (by decide) ?_
    exact s_rests V hi hcl hsl nx st hl
  · refine lv_tableOut (tgt := 1296) X.1 X.2.1 dL_law_40 (by decide) (by decide) ?_
    refine wm_wide (k := cells + 1) (n := slots + 6) (by omega) (by omega) ?_
    exact nx _ _ _ _ _ _ _ st hl
  · refine lv_tableOut (tgt := 1296) X.1 X.2.1 dL_law_40 (by decide) (by decide) ?_
    refine wm_wide (k := cells + 1) (n := slots + 6) (by omega) (by omega) ?_
    exact nx _ _ _ _ _ _ _ st hl
  · refine lv_tableOut (tgt := 1296) X.1 X.2.1 dL_law_40 (by decide) (by decide) ?_
    refine wm_wide (k := cells + 1) (n := slots + 6) (by omega) (by omega) ?_
    exact nx _ _ _ _ _ _ _ st hl
  · refine lv_tableOut (tgt := 1296) X.1 X.2.1 dL_law_40 (by decide) (by decide) ?_
    refine wm_wide (k := cells + 1) (n := slots + 6) (by omega) (by omega) ?_
    exact nx _ _ _ _ _ _ _ st hl
  · refine lv_tableOut (tgt := 1296) X.1 X.2.1 dL_law_40 (by decide) (by decide) ?_
    refine wm_wide (k := cells + 1) (n := slots + 6) (by omega) (by omega) ?_
    exact nx _ _ _ _ _ _ _ st hl
  · refine lv_tableOut (tgt := 1296) X.1 X.2.1 dL_law_40 (by decide) (by decide) ?_
    refine wm_wide (k := cells + 1) (n := slots + 6) (by omega) (by omega) ?_
    exact nx _ _ _ _ _ _ _ st hl
  · refine lv_tableOut (tgt := 1296) X.1 X.2.1 dL_law_40 (by decide) (by decide) ?_
    refine wm_wide (k := cells + 1) (n := slots + 6) (by omega) (by omega) ?_
    exact nx _ _ _ _ _ _ _ st hl
  · refine lv_tableOut (tgt := 1296) X.1 X.2.1 dL_law_40 (by decide) (by decide) ?_
    refine wm_wide (k := cells + 1) (n := slots + 6) (by omega) (by omega) ?_
    exact nx _ _ _ _ _ _ _ st hl
  · refine lv_tableOut (tgt := 1296) X.1 X.2.1 dL_law_40 (by decide) (by decide) ?_
    refine wm_wide (k := cells + 1) (n := slots + 6) (by omega) (by omega) ?_
    exact nx _ _ _ _ _ _ _ st hl
  · refine lv_tableOut (tgt := 1296) X.1 X.2.1 dL_law_40 (by decide) (by decide) ?_
    refine wm_wide (k := cells + 1) (n := slots + 6) (by omega) (by omega) ?_
    exact nx _ _ _ _ _ _ _ st hl
  · refine lv_tableOut (tgt := 1296) X.1 X.2.1 dL_law_40 (by decide) (by decide) ?_
    refine wm_wide (k := cells + 1) (n := slots + 6) (by omega) (by omega) ?_
    exact nx _ _ _ _ _ _ _ st hl
  · refine lv_tableOut (tgt := 1296) X.1 X.2.1 dL_law_40 (by decide) (by decide) ?_
    refine wm_wide (k := cells + 1) (n := slots + 6) (by omega) (by omega) ?_
    exact nx _ _ _ _ _ _ _ st hl
set_option maxHeartbeats 2000000 in
theorem wm_loop {p : Program} {l : Launch} {e : Env} {R : Room} {s : State} {m : MethodId} {args : Array Value} {below : List Frame} {meth : Method} {c : Code} {Q : State → Prop} {D : va_G} {C : Nat → ClassId} {b a L : Nat} {xs : Nat → Int32} (V : wm_env p l R s m args meth c D C b a L xs) (hRc : 1000 ≤ R.cells) (hRs : 500000 ≤ R.slots) (fin : ∀ (H : Heap) (locs : List Loc) (ls : Array Slot) (cells slots : Nat), (∀ q ∈ locs, b ≤ q.base) → cells ≤ 1000 → slots ≤ 500000 → W p l e R s m args below meth c H locs cells slots Q (F0 m 1302 ls [])) : ∀ (fu it : Nat), L - 6 * it < fu → 6 * it ≤ L → ∀ (E : Nat → va_E) (H : Heap) (locs : List Loc) (ls : Array Slot) (S : wm_St) (th : Nat) (f : Nat → Int64), wm_st9 D C b s E H locs S th f → lv_has ls 8 (wm_lvs a b (6 * it)) → W p l e R s m args below meth c H locs (147 + it) (436648 + 6 * it) Q (F0 m 23 ls []) := by
  intro fu
  obtain ⟨hst, X, hV, hNc, hX, ha, hab, hL, hRf, hRl⟩ := id V
  induction fu with
  | zero => intro it hm; exact absurd hm (Nat.not_lt_zero _)
  | succ fu ih =>
    intro it hm hit E H locs ls S th f st hl
    have hS := st.2.1
    have hfin : W p l e R s m args below meth c H locs (147 + it) (436648 + 6 * it) Q (F0 m 1302 ls []) := fin H locs ls _ _ hS.2.2 (by omega) (by omega)
    refine lv_iload X.1 X.2.1 dL_law_23 (lv_at hl 0 rfl) ?_
    refine lv_aload_n X.1 X.2.1 dL_law_25 rfl (lv_at hl 1 rfl) ?_
    refine wm_slen X hX ha hab hS dL_law_26 ?_
    refine lv_bipush (v := nI 6) X.1 X.2.1 dL_law_27 (by decide) ?_
    rcases Nat.lt_or_ge L 6 with hL6 | hL6
    · have h0 : it = 0 := by omega
      subst h0
      have hLs : L = 0 ∨ L = 1 ∨ L = 2 ∨ L = 3 ∨ L = 4 ∨ L = 5 := by omega
      refine lv_isub X.1 X.2.1 dL_law_29 ?_
      refine lv_icmp_gt (tgt := 1302) X.1 X.2.1 dL_law_30 (by decide) (fun _ => hfin) (fun h => ?_)
      exfalso
      revert h
      rcases hLs with rfl | rfl | rfl | rfl | rfl | rfl <;> decide
    · refine wm_isub (x := L) (y := 6) X (by omega) dL_law_29 ?_
      refine wm_icmp_gt (x := 6 * it) (y := L - 6) (tgt := 1302) X (by omega) (by omega) dL_law_30 (by decide) (fun _ => hfin) (fun hc => ?_)
      refine lv_aload_n X.1 X.2.1 dL_law_33 rfl (lv_at hl 1 rfl) ?_
      refine lv_iload X.1 X.2.1 dL_law_34 (lv_at hl 0 rfl) ?_
      refine wm_sld (k := 6 * it) X hX ha hab hS (by omega) (by omega) dL_law_36 ?_
      obtain ⟨j, hj⟩ := wm_intN (xs (6 * it))
      rw [hj]
      refine lv_bipush (v := nI 31) X.1 X.2.1 dL_law_37 (by decide) ?_
      refine wm_iand (x := j) (y := 31) X dL_law_39 ?_
      have h31 : j &&& 31 < 32 := Nat.lt_of_le_of_lt Nat.and_le_right (by decide)
      refine wm_switch V (by omega) (by omega) (by omega) (fun E H locs ls S th f st hl => ?_) st hl h31
      refine lv_iinc (v := nI (6 * (it + 1))) (lv' := wm_lvs a b (6 * (it + 1))) X.1 X.2.1 dL_law_1296 hl (k := 0) rfl (by rw [show 6 * (it + 1) = 6 * it + 6 by omega]; exact nI_add (6 * it) 6) (by decide) rfl (fun ls hl => ?_)
      refine lv_goto (tgt := 23) X.1 X.2.1 dL_law_1299 (by decide) ?_
      have h := ih (it + 1) (by omega) (by omega) E H locs ls S th f st hl
      exact wm_Wcg (by omega) (by omega) h
