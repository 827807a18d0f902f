def pmrests1 (C : Nat → ClassId) (b : Nat) (E : Nat → va_E) (th sz fa pl ats aa op fi la wa wc kl : Nat) (be : Bool) (k : Nat) (ar ss sa se fn bk : Nat → Nat) (mk : Nat → Bool) : Int32 → (Nat → va_E) → Prop := fun r E' => ∃ (mk1 : Nat → Bool) (fn1 : Nat → Nat) (bk1 : Nat → Nat), r = nI ((wm_vf (fun j9 => wm_gr (wm_bfs (fun S a => wm_bf ar k (ss k) a S) 2049 0 [se k]) ((wm_bfs (fun S a => wm_af ar k (ss k) a S) 2049 0 [sa k]).getD j9 0) (wm_bfs (fun S a => wm_bf ar k (ss k) a S) 2049 0 [se k]).length) (wm_bfs (fun S a => wm_af ar k (ss k) a S) 2049 0 [sa k]).length []).length) ∧ E' 119 = .inr (7, [.int (nI 0), .ref (b + 120), .int (nI sz), .int (nI fa), .int (nI pl), .ref (b + 121), .ref (b + 122), .ref (b + 123), .ref (b + 124), .ref (b + 125), .ref (b + 126), .ref (b + 127), .int (nI ats), .int (nI aa), .ref (b + 128), .ref (b + 129), .ref (b + 130), .ref (b + 131), .ref (b + 132), .ref (b + 133), .int (nI op), .int (nI be.toNat), .int (nI fi), .int (nI la), .ref (b + 134), .ref (b + 135), .ref (b + 136), .int (nI wa), .ref (b + 137), .ref (b + 138), .ref (b + 139), .int (nI wc), .ref (b + 140), .int (nI kl), .ref (b + 141), .ref (b + 142), .ref (b + 143), .ref (b + 144), .ref (b + 145)]) ∧ E' 143 = wm_I C 2048 fn1 ∧ E' 144 = wm_I C 2048 bk1 ∧ E' 145 = wm_Z C 2048 mk1 ∧ (∀ j, j ≠ 119 → j ≠ 143 → j ≠ 144 → j ≠ 145 → E' j = E j)
set_option maxHeartbeats 4000000 in
set_option maxRecDepth 100000 in
theorem kmrests1 (l : Launch) (D : va_G) (C : Nat → ClassId) (b n : Nat) (E : Nat → va_E) (th sz fa pl ats aa op fi la wa wc kl : Nat) (be : Bool) (k : Nat) (ar ss sa se fn bk : Nat → Nat) (mk : Nat → Bool) (hlt0 : 119 < n) (hE0 : E 119 = .inr (7, [.int (nI th), .ref (b + 120), .int (nI sz), .int (nI fa), .int (nI pl), .ref (b + 121), .ref (b + 122), .ref (b + 123), .ref (b + 124), .ref (b + 125), .ref (b + 126), .ref (b + 127), .int (nI ats), .int (nI aa), .ref (b + 128), .ref (b + 129), .ref (b + 130), .ref (b + 131), .ref (b + 132), .ref (b + 133), .int (nI op), .int (nI be.toNat), .int (nI fi), .int (nI la), .ref (b + 134), .ref (b + 135), .ref (b + 136), .int (nI wa), .ref (b + 137), .ref (b + 138), .ref (b + 139), .int (nI wc), .ref (b + 140), .int (nI kl), .ref (b + 141), .ref (b + 142), .ref (b + 143), .ref (b + 144), .ref (b + 145)])) (hlt1 : 121 < n) (hE1 : E 121 = wm_I C 1536 ar) (hlt2 : 122 < n) (hE2 : E 122 = wm_I C 8 ss) (hlt3 : 123 < n) (hE3 : E 123 = wm_I C 8 sa) (hlt4 : 124 < n) (hE4 : E 124 = wm_I C 8 se) (hlt5 : 143 < n) (hE5 : E 143 = wm_I C 2048 fn) (hlt6 : 144 < n) (hE6 : E 144 = wm_I C 2048 bk) (hlt7 : 145 < n) (hE7 : E 145 = wm_Z C 2048 mk) (hkk : k < 8) (hsk : ss k ≤ 11) (hsa : sa k < 2 ^ ss k) (hg : ∀ a x, a < 8 → x < ss k → ar (192 * k + 8 * x + a) < 2 ^ ss k) (hse : se k < 2 ^ ss k) : Met l yX7_rests (wm_ws yX7_rests cX7_rests 8 (some .int)) { frames := 3, cells := 0, slots := 0, locals := 72 } (va_Pc [.ref (b + 119), .int (nI k)] (wm_G D C b n E)) (va_Qi (pmrests1 C b E th sz fa pl ats aa op fi la wa wc kl be k ar ss sa se fn bk mk) (fun E' t => wm_P D b n E' t.heap) (wm_A b)) 0 0 (wm_A b) := by
  refine wm_ofW (by decide) (Nat.le_of_ble_eq_true rfl) (fun p e s m below meth c ls R args Q hRe hQ X hr hnm hP hS hl => ?_)
  have hl : lv_has ls 8 [(0, .ref (b + 119)), (1, .int (nI k))] := hl
  have hfr : ∀ j, j ≠ 119 → j ≠ 143 → j ≠ 144 → j ≠ 145 → E j = E j := fun _ _ _ _ _ => rfl
  have h2c : 2 ^ ss k ≤ 2048 := Nat.pow_le_pow_right (show 0 < 2 by decide) hsk
  refine lv_aload_n X.1 X.2.1 dX7_rests_0 rfl (lv_at hl 0 rfl) ?_
  refine lv_aload_n X.1 X.2.1 dX7_rests_1 rfl (lv_at hl 0 rfl) ?_
  refine lv_iload_n X.1 X.2.1 dX7_rests_2 rfl (lv_at hl 1 rfl) ?_
  refine wm_callVi (k := 1) (As := [.int (nI k)]) (rest := [.ref (b + 119)]) X hP hS hlt0 hE0 rfl (knoMach l D C b n E k (by omega)) wq5_157 wq5_159 wqP2_15 wq1_8 wq5_160 (by decide) (by rw [hRe]; exact ⟨Nat.le_of_ble_eq_true rfl, Nat.le_of_ble_eq_true rfl⟩) rfl hl.1 rfl (Nat.le_of_ble_eq_true rfl) (Nat.zero_le _) (Nat.zero_le _) dX7_rests_3 (fun r1 E1 H locs hw hP hS => ?_)
  obtain ⟨hrt, hEe⟩ := hw
  subst hrt
  subst hEe
  refine wm_ifz_eq (x := false) (tgt := 13) X dX7_rests_6 (by decide) (fun _ => ?_) (fun h => by exfalso; revert h; decide)
  refine lv_aload_n X.1 X.2.1 dX7_rests_13 rfl (lv_at hl 0 rfl) ?_
  refine lv_iload_n X.1 X.2.1 dX7_rests_14 rfl (lv_at hl 1 rfl) ?_
  refine wm_callVi (k := 1) (As := [.int (nI k)]) (rest := [.ref (b + 119)]) X hP hS hlt0 hE0 rfl (kX7_isGreat l D C b n E th sz fa pl ats aa op fi la wa wc kl be k ss hlt0 hE0 hlt2 hE2 (by omega) (by omega)) wq6_59 wq6_61 wqP4_2 wq1_8 wq6_62 (by decide) (by rw [hRe]; exact ⟨Nat.le_of_ble_eq_true rfl, Nat.le_of_ble_eq_true rfl⟩) rfl hl.1 rfl (Nat.le_of_ble_eq_true rfl) (Nat.zero_le _) (Nat.zero_le _) dX7_rests_15 (fun r2 E2 H locs hw hP hS => ?_)
  obtain ⟨hrt, hEe⟩ := hw
  subst hrt
  subst hEe
  refine wm_ifz_eq (x := (decide (11 < ss k))) (tgt := 25) X dX7_rests_18 (by decide) (fun hc18 => ?_) (fun hc18 => ?_)
  · refine lv_iconst (v := nI 0) X.1 X.2.1 dX7_rests_25 (by decide) ?_
    refine wm_put (v := .int (nI 0)) X hP hS hlt0 hE0 rfl wm_inX7 tyX7 tyX7_ok nmX7 0 (by decide) wq5_22 rfl rfl rfl (fs1 := [.int (nI 0), .ref (b + 120), .int (nI sz), .int (nI fa), .int (nI pl), .ref (b + 121), .ref (b + 122), .ref (b + 123), .ref (b + 124), .ref (b + 125), .ref (b + 126), .ref (b + 127), .int (nI ats), .int (nI aa), .ref (b + 128), .ref (b + 129), .ref (b + 130), .ref (b + 131), .ref (b + 132), .ref (b + 133), .int (nI op), .int (nI be.toNat), .int (nI fi), .int (nI la), .ref (b + 134), .ref (b + 135), .ref (b + 136), .int (nI wa), .ref (b + 137), .ref (b + 138), .ref (b + 139), .int (nI wc), .ref (b + 140), .int (nI kl), .ref (b + 141), .ref (b + 142), .ref (b + 143), .ref (b + 144), .ref (b + 145)]) rfl (Nat.le_of_ble_eq_true rfl) dX7_rests_26 (fun H locs E4 hP hS hE0 hq => ?_)
    have hE1 := (hq 121 (by decide)).trans hE1
    have hE2 := (hq 122 (by decide)).trans hE2
    have hE3 := (hq 123 (by decide)).trans hE3
    have hE4 := (hq 124 (by decide)).trans hE4
    have hE5 := (hq 143 (by decide)).trans hE5
    have hE6 := (hq 144 (by decide)).trans hE6
    have hE7 := (hq 145 (by decide)).trans hE7
    have hfr : ∀ j, j ≠ 119 → j ≠ 143 → j ≠ 144 → j ≠ 145 → E4 j = E j := fun j h0 h1 h2 h3 => (hq j h0).trans (hfr j h0 h1 h2 h3)
    refine lv_aload_n X.1 X.2.1 dX7_rests_29 rfl (lv_at hl 0 rfl) ?_
    refine wm_get X hP hlt0 hE0 rfl wm_inX7 0 (by decide) wq5_22 rfl dX7_rests_30 ?_
    refine lv_if_le (tgt := 38) X.1 X.2.1 dX7_rests_33 (by decide) (fun _ => ?_) (fun h => by exfalso; revert h; decide)
    refine lv_aload_n X.1 X.2.1 dX7_rests_38 rfl (lv_at hl 0 rfl) ?_
    refine lv_iload_n X.1 X.2.1 dX7_rests_39 rfl (lv_at hl 1 rfl) ?_
    refine wm_callVi (k := 1) (As := [.int (nI k)]) (rest := []) X hP hS hlt0 hE0 rfl (kX7_findSets l D C b n E4 0 sz fa pl ats aa op fi la wa wc kl be k ar ss sa fn mk hlt0 hE0 hlt1 hE1 hlt2 hE2 hlt3 hE3 hlt5 hE5 hlt7 hE7 (by omega) (by omega) (by omega) hg) wq6_67 wq6_69 wqP4_3 wq1_8 wq6_70 (by decide) (by rw [hRe]; exact ⟨Nat.le_of_ble_eq_true rfl, Nat.le_of_ble_eq_true rfl⟩) rfl hl.1 rfl (Nat.le_of_ble_eq_true rfl) (Nat.zero_le _) (Nat.zero_le _) dX7_rests_40 (fun r5 E5 H locs hw hP hS => ?_)
    obtain ⟨mk15, fn15, hrt, hE5, hE7, hq, hp5_0⟩ := hw
    subst hrt
    have hE0 := (hq 119 (by decide) (by decide)).trans hE0
    have hE1 := (hq 121 (by decide) (by decide)).trans hE1
    have hE2 := (hq 122 (by decide) (by decide)).trans hE2
    have hE3 := (hq 123 (by decide) (by decide)).trans hE3
    have hE4 := (hq 124 (by decide) (by decide)).trans hE4
    have hE6 := (hq 144 (by decide) (by decide)).trans hE6
    have hfr : ∀ j, j ≠ 119 → j ≠ 143 → j ≠ 144 → j ≠ 145 → E5 j = E j := fun j h0 h1 h2 h3 => (hq j h1 h3).trans (hfr j h0 h1 h2 h3)
    have hmlA := hp5_0
    obtain ⟨LA, hLA⟩ : ∃ z, z = (wm_bfs (fun S a => wm_af ar k (ss k) a S) 2049 0 [sa k]) := ⟨_, rfl⟩
    rw [← hLA] at hmlA ⊢
    have hlenA := wm_ml_len hmlA
    obtain ⟨fn9, hfn9⟩ : ∃ z : Nat → Nat, z = fn15 := ⟨_, rfl⟩
    rw [← hfn9] at hmlA hE5
    clear hp5_0
    refine lv_istore_n (lv' := [(2, .int (nI LA.length)), (0, .ref (b + 119)), (1, .int (nI k))]) X.1 X.2.1 dX7_rests_43 rfl hl (by decide) rfl (fun ls hl => ?_)
    refine lv_aload_n X.1 X.2.1 dX7_rests_44 rfl (lv_at hl 1 rfl) ?_
    refine wm_callVv (k := 0) (As := []) (rest := []) X hP hS hlt0 hE0 rfl (kX7_unmark l D C b n E5 0 sz fa pl ats aa op fi la wa wc kl be mk15 hlt0 hE0 hlt7 hE7) wq6_71 wq6_73 wqP4_4 wq1_8 wq6_74 (by decide) (by rw [hRe]; exact ⟨Nat.le_of_ble_eq_true rfl, Nat.le_of_ble_eq_true rfl⟩) rfl hl.1 rfl (Nat.le_of_ble_eq_true rfl) (Nat.zero_le _) (Nat.zero_le _) dX7_rests_45 (fun E6 H locs hw hP hS => ?_)
    obtain ⟨mk16, hE7, hq, hp6_0⟩ := hw
    have hE0 := (hq 119 (by decide)).trans hE0
    have hE1 := (hq 121 (by decide)).trans hE1
    have hE2 := (hq 122 (by decide)).trans hE2
    have hE3 := (hq 123 (by decide)).trans hE3
    have hE4 := (hq 124 (by decide)).trans hE4
    have hE5 := (hq 143 (by decide)).trans hE5
    have hE6 := (hq 144 (by decide)).trans hE6
    have hfr : ∀ j, j ≠ 119 → j ≠ 143 → j ≠ 144 → j ≠ 145 → E6 j = E j := fun j h0 h1 h2 h3 => (hq j h3).trans (hfr j h0 h1 h2 h3)
    have hcl := hp6_0
    refine lv_aload_n X.1 X.2.1 dX7_rests_48 rfl (lv_at hl 1 rfl) ?_
    refine lv_aload_n X.1 X.2.1 dX7_rests_49 rfl (lv_at hl 1 rfl) ?_
    refine wm_get X hP hlt0 hE0 rfl wm_inX7 37 (by decide) wq5_59 rfl dX7_rests_50 ?_
    refine lv_iconst (v := nI 0) X.1 X.2.1 dX7_rests_53 (by decide) ?_
    refine lv_aload_n X.1 X.2.1 dX7_rests_54 rfl (lv_at hl 1 rfl) ?_
    refine wm_get X hP hlt0 hE0 rfl wm_inX7 8 (by decide) wq5_30 rfl dX7_rests_55 ?_
    refine lv_iload_n X.1 X.2.1 dX7_rests_58 rfl (lv_at hl 2 rfl) ?_
    refine wm_iald (i := k) X hP hlt4 hE4 (by omega) (by decide) dX7_rests_59 ?_
    refine wm_callVi (k := 3) (As := [.ref (b + 144), .int (nI (([] : List Nat).length)), .int (nI (se k))]) (rest := []) X hP hS hlt0 hE0 rfl (kX7_visit l D C b n E6 0 sz fa pl ats aa op fi la wa wc kl be 144 (se k) ([] : List Nat) mk16 bk hlt0 hE0 hlt6 hE6 hlt7 hE7 (Or.inr rfl) (Nat.lt_of_lt_of_le hse h2c) (wm_ml0 hcl)) wq6_75 wq6_77 wqP4_5 wq1_8 wq6_78 (by decide) (by rw [hRe]; exact ⟨Nat.le_of_ble_eq_true rfl, Nat.le_of_ble_eq_true rfl⟩) rfl hl.1 rfl (Nat.le_of_ble_eq_true rfl) (Nat.zero_le _) (Nat.zero_le _) dX7_rests_60 (fun r7 E7 H locs hw hP hS => ?_)
    obtain ⟨mk17, li17, hrt, hE6, hE7, hq, hp7_0⟩ := hw
    subst hrt
    have hE0 := (hq 119 (by decide) (by decide)).trans hE0
    have hE1 := (hq 121 (by decide) (by decide)).trans hE1
    have hE2 := (hq 122 (by decide) (by decide)).trans hE2
    have hE3 := (hq 123 (by decide) (by decide)).trans hE3
    have hE4 := (hq 124 (by decide) (by decide)).trans hE4
    have hE5 := (hq 143 (by decide) (by decide)).trans hE5
    have hfr : ∀ j, j ≠ 119 → j ≠ 143 → j ≠ 144 → j ≠ 145 → E7 j = E j := fun j h0 h1 h2 h3 => (hq j h2 h3).trans (hfr j h0 h1 h2 h3)
    refine lv_istore_n (lv' := [(3, .int (nI ([se k].length))), (2, .int (nI LA.length)), (0, .ref (b + 119)), (1, .int (nI k))]) X.1 X.2.1 dX7_rests_63 rfl hl (by decide) rfl (fun ls hl => ?_)
    refine lv_iconst (v := nI 0) X.1 X.2.1 dX7_rests_64 (by decide) ?_
    refine lv_istore (lv' := [(4, .int (nI 0)), (3, .int (nI ([se k].length))), (2, .int (nI LA.length)), (0, .ref (b + 119)), (1, .int (nI k))]) X.1 X.2.1 dX7_rests_65 hl (by decide) rfl (fun ls hl => ?_)
    have L67 : ∀ (fu : Nat) (i : Nat) (L : List Nat) (mk2 : Nat → Bool) (fn2 : Nat → Nat), 2049 - i < fu → (i ≤ L.length) → (wm_ml L 2048 mk2 fn2) → (wm_bfs (fun S a => wm_bf ar k (ss k) a S) (2049 - i) i L = (wm_bfs (fun S a => wm_bf ar k (ss k) a S) 2049 0 [se k])) → ∀ (E8 : Nat → va_E) (H : Heap) (locs : List Loc) (ls : Array Slot), wm_P D b n E8 H → wm_S b s.heap H locs → E8 119 = .inr (7, [.int (nI 0), .ref (b + 120), .int (nI sz), .int (nI fa), .int (nI pl), .ref (b + 121), .ref (b + 122), .ref (b + 123), .ref (b + 124), .ref (b + 125), .ref (b + 126), .ref (b + 127), .int (nI ats), .int (nI aa), .ref (b + 128), .ref (b + 129), .ref (b + 130), .ref (b + 131), .ref (b + 132), .ref (b + 133), .int (nI op), .int (nI be.toNat), .int (nI fi), .int (nI la), .ref (b + 134), .ref (b + 135), .ref (b + 136), .int (nI wa), .ref (b + 137), .ref (b + 138), .ref (b + 139), .int (nI wc), .ref (b + 140), .int (nI kl), .ref (b + 141), .ref (b + 142), .ref (b + 143), .ref (b + 144), .ref (b + 145)]) → E8 121 = wm_I C 1536 ar → E8 122 = wm_I C 8 ss → E8 123 = wm_I C 8 sa → E8 124 = wm_I C 8 se → E8 143 = wm_I C 2048 fn9 → E8 144 = wm_I C 2048 fn2 → E8 145 = wm_Z C 2048 mk2 → (∀ j, j ≠ 119 → j ≠ 143 → j ≠ 144 → j ≠ 145 → E8 j = E j) → lv_has ls 8 [(0, .ref (b + 119)), (1, .int (nI k)), (2, .int (nI LA.length)), (3, .int (nI L.length)), (4, .int (nI i))] → W p l e R s m args below meth c H locs 0 0 Q (F0 m 67 ls []) := by
      intro fu
      induction fu with
      | zero => intro i L mk2 fn2 hm; exact absurd hm (Nat.not_lt_zero _)
      | succ fu ih67 =>
        intro i L mk2 fn2 hm hi hml hbf E8 H locs ls hP hS hE0 hE1 hE2 hE3 hE4 hE5 hE6 hE7 hfr hl
        have hlen := wm_ml_len hml
        refine lv_iload X.1 X.2.1 dX7_rests_67 (lv_at hl 4 rfl) ?_
        refine lv_iload_n X.1 X.2.1 dX7_rests_69 rfl (lv_at hl 3 rfl) ?_
        refine wm_icmp_ge (x := i) (y := L.length) (tgt := 119) X (by omega) (by omega) dX7_rests_70 (by decide) (fun hc70 => ?_) (fun hc70 => ?_)
        · have hfin : L = (wm_bfs (fun S a => wm_bf ar k (ss k) a S) 2049 0 [se k]) := by rw [← hbf]; exact (wm_bfs_e hc70).symm
          clear hbf
          obtain ⟨LB, hLB⟩ : ∃ z, z = L := ⟨_, rfl⟩
          rw [← hLB] at hml hl hfin hlen
          refine lv_aload_n X.1 X.2.1 dX7_rests_119 rfl (lv_at hl 0 rfl) ?_
          refine wm_callVv (k := 0) (As := []) (rest := []) X hP hS hlt0 hE0 rfl (kX7_unmark l D C b n E8 0 sz fa pl ats aa op fi la wa wc kl be mk2 hlt0 hE0 hlt7 hE7) wq6_71 wq6_73 wqP4_4 wq1_8 wq6_74 (by decide) (by rw [hRe]; exact ⟨Nat.le_of_ble_eq_true rfl, Nat.le_of_ble_eq_true rfl⟩) rfl hl.1 rfl (Nat.le_of_ble_eq_true rfl) (Nat.zero_le _) (Nat.zero_le _) dX7_rests_120 (fun E10 H locs hw hP hS => ?_)
          obtain ⟨mk110, hE7, hq, hp10_0⟩ := hw
          have hE0 := (hq 119 (by decide)).trans hE0
          have hE1 := (hq 121 (by decide)).trans hE1
          have hE2 := (hq 122 (by decide)).trans hE2
          have hE3 := (hq 123 (by decide)).trans hE3
          have hE4 := (hq 124 (by decide)).trans hE4
          have hE5 := (hq 143 (by decide)).trans hE5
          have hE6 := (hq 144 (by decide)).trans hE6
          have hfr : ∀ j, j ≠ 119 → j ≠ 143 → j ≠ 144 → j ≠ 145 → E10 j = E j := fun j h0 h1 h2 h3 => (hq j h3).trans (hfr j h0 h1 h2 h3)
          refine lv_iconst (v := nI 0) X.1 X.2.1 dX7_rests_123 (by decide) ?_
          refine lv_istore (lv' := [(4, .int (nI 0)), (0, .ref (b + 119)), (1, .int (nI k)), (2, .int (nI LA.length)), (3, .int (nI LB.length))]) X.1 X.2.1 dX7_rests_124 hl (by decide) rfl (fun ls hl => ?_)
          refine lv_iconst (v := nI 0) X.1 X.2.1 dX7_rests_126 (by decide) ?_
          refine lv_istore (lv' := [(5, .int (nI 0)), (4, .int (nI 0)), (0, .ref (b + 119)), (1, .int (nI k)), (2, .int (nI LA.length)), (3, .int (nI LB.length))]) X.1 X.2.1 dX7_rests_127 hl (by decide) rfl (fun ls hl => ?_)
          have L129 : ∀ (fu : Nat) (q : Nat) (i2 : Nat) (mk4 : Nat → Bool), LA.length - i2 < fu → (i2 ≤ LA.length) → (q = (wm_vf (fun j9 => wm_gr LB (LA.getD j9 0) LB.length) i2 []).length) → (∀ S, S < 2048 → mk4 S = decide (S ∈ wm_vf (fun j9 => wm_gr LB (LA.getD j9 0) LB.length) i2 [])) → ∀ (E11 : Nat → va_E) (H : Heap) (locs : List Loc) (ls : Array Slot), wm_P D b n E11 H → wm_S b s.heap H locs → E11 119 = .inr (7, [.int (nI 0), .ref (b + 120), .int (nI sz), .int (nI fa), .int (nI pl), .ref (b + 121), .ref (b + 122), .ref (b + 123), .ref (b + 124), .ref (b + 125), .ref (b + 126), .ref (b + 127), .int (nI ats), .int (nI aa), .ref (b + 128), .ref (b + 129), .ref (b + 130), .ref (b + 131), .ref (b + 132), .ref (b + 133), .int (nI op), .int (nI be.toNat), .int (nI fi), .int (nI la), .ref (b + 134), .ref (b + 135), .ref (b + 136), .int (nI wa), .ref (b + 137), .ref (b + 138), .ref (b + 139), .int (nI wc), .ref (b + 140), .int (nI kl), .ref (b + 141), .ref (b + 142), .ref (b + 143), .ref (b + 144), .ref (b + 145)]) → E11 121 = wm_I C 1536 ar → E11 122 = wm_I C 8 ss → E11 123 = wm_I C 8 sa → E11 124 = wm_I C 8 se → E11 143 = wm_I C 2048 fn9 → E11 144 = wm_I C 2048 fn2 → E11 145 = wm_Z C 2048 mk4 → (∀ j, j ≠ 119 → j ≠ 143 → j ≠ 144 → j ≠ 145 → E11 j = E j) → lv_has ls 8 [(0, .ref (b + 119)), (1, .int (nI k)), (2, .int (nI LA.length)), (3, .int (nI LB.length)), (4, .int (nI q)), (5, .int (nI i2))] → W p l e R s m args below meth c H locs 0 0 Q (F0 m 129 ls []) := by
            intro fu
            induction fu with
            | zero => intro q i2 mk4 hm; exact absurd hm (Nat.not_lt_zero _)
            | succ fu ih129 =>
              intro q i2 mk4 hm hi2 hq9 hm4 E11 H locs ls hP hS hE0 hE1 hE2 hE3 hE4 hE5 hE6 hE7 hfr hl
              refine lv_iload X.1 X.2.1 dX7_rests_129 (lv_at hl 5 rfl) ?_
              refine lv_iload_n X.1 X.2.1 dX7_rests_131 rfl (lv_at hl 2 rfl) ?_
              refine wm_icmp_ge (x := i2) (y := LA.length) (tgt := 227) X (by omega) (by omega) dX7_rests_132 (by decide) (fun hc132 => ?_) (fun hc132 => ?_)
              · refine lv_iload X.1 X.2.1 dX7_rests_227 (lv_at hl 4 rfl) ?_
                have hil : i2 = LA.length := by omega
                exact wm_iret (post := pmrests1 C b E th sz fa pl ats aa op fi la wa wc kl be k ar ss sa se fn bk mk) X hr hP hS ⟨mk4, fn9, fn2, (by rw [hq9, hil, hLA, hfin]), hE0, hE5, hE6, hE7, hfr⟩ hQ dX7_rests_229
              · refine lv_sipush (v := nI 2047) X.1 X.2.1 dX7_rests_135 (by decide) ?_
                refine lv_istore (lv' := [(6, .int (nI 2047)), (0, .ref (b + 119)), (1, .int (nI k)), (2, .int (nI LA.length)), (3, .int (nI LB.length)), (4, .int (nI q)), (5, .int (nI i2))]) X.1 X.2.1 dX7_rests_138 hl (by decide) rfl (fun ls hl => ?_)
                refine lv_iconst (v := nI 0) X.1 X.2.1 dX7_rests_140 (by decide) ?_
                refine lv_istore (lv' := [(7, .int (nI 0)), (6, .int (nI 2047)), (0, .ref (b + 119)), (1, .int (nI k)), (2, .int (nI LA.length)), (3, .int (nI LB.length)), (4, .int (nI q)), (5, .int (nI i2))]) X.1 X.2.1 dX7_rests_141 hl (by decide) rfl (fun ls hl => ?_)
                have L143 : ∀ (fu : Nat) (gr : Nat) (j2 : Nat), LB.length - j2 < fu → (j2 ≤ LB.length) → (gr = wm_gr LB (LA.getD i2 0) j2) → ∀ (E13 : Nat → va_E) (H : Heap) (locs : List Loc) (ls : Array Slot), wm_P D b n E13 H → wm_S b s.heap H locs → E13 119 = .inr (7, [.int (nI 0), .ref (b + 120), .int (nI sz), .int (nI fa), .int (nI pl), .ref (b + 121), .ref (b + 122), .ref (b + 123), .ref (b + 124), .ref (b + 125), .ref (b + 126), .ref (b + 127), .int (nI ats), .int (nI aa), .ref (b + 128), .ref (b + 129), .ref (b + 130), .ref (b + 131), .ref (b + 132), .ref (b + 133), .int (nI op), .int (nI be.toNat), .int (nI fi), .int (nI la), .ref (b + 134), .ref (b + 135), .ref (b + 136), .int (nI wa), .ref (b + 137), .ref (b + 138), .ref (b + 139), .int (nI wc), .ref (b + 140), .int (nI kl), .ref (b + 141), .ref (b + 142), .ref (b + 143), .ref (b + 144), .ref (b + 145)]) → E13 121 = wm_I C 1536 ar → E13 122 = wm_I C 8 ss → E13 123 = wm_I C 8 sa → E13 124 = wm_I C 8 se → E13 143 = wm_I C 2048 fn9 → E13 144 = wm_I C 2048 fn2 → E13 145 = wm_Z C 2048 mk4 → (∀ j, j ≠ 119 → j ≠ 143 → j ≠ 144 → j ≠ 145 → E13 j = E j) → lv_has ls 8 [(0, .ref (b + 119)), (1, .int (nI k)), (2, .int (nI LA.length)), (3, .int (nI LB.length)), (4, .int (nI q)), (5, .int (nI i2)), (6, .int (nI gr)), (7, .int (nI j2))] → W p l e R s m args below meth c H locs 0 0 Q (F0 m 143 ls []) := by
                  intro fu
                  induction fu with
                  | zero => intro gr j2 hm; exact absurd hm (Nat.not_lt_zero _)
                  | succ fu ih143 =>
                    intro gr j2 hm hj2 hgr E13 H locs ls hP hS hE0 hE1 hE2 hE3 hE4 hE5 hE6 hE7 hfr hl
                    refine lv_iload X.1 X.2.1 dX7_rests_143 (lv_at hl 7 rfl) ?_
                    refine lv_iload_n X.1 X.2.1 dX7_rests_145 rfl (lv_at hl 3 rfl) ?_
                    refine wm_icmp_ge (x := j2) (y := LB.length) (tgt := 192) X (by omega) (by omega) dX7_rests_146 (by decide) (fun hc146 => ?_) (fun hc146 => ?_)
                    · have hj9 : j2 = LB.length := by omega
                      have hgk : gr = (fun j9 => wm_gr LB (LA.getD j9 0) LB.length) i2 := by rw [hgr, hj9]
                      have hgl : gr < 2048 := by rw [hgk]; exact wm_gr_lt _ _ _
                      have hdm := hm4 gr hgl
                      refine lv_aload_n X.1 X.2.1 dX7_rests_192 rfl (lv_at hl 0 rfl) ?_
                      refine wm_get X hP hlt0 hE0 rfl wm_inX7 38 (by decide) wq5_60 rfl dX7_rests_193 ?_
                      refine lv_iload X.1 X.2.1 dX7_rests_196 (lv_at hl 6 rfl) ?_
                      refine wm_zald (i := gr) X hP hlt7 hE7 (by omega) (by decide) dX7_rests_198 ?_
                      refine wm_ifz_eq (x := (mk4 gr)) (tgt := 207) X dX7_rests_199 (by decide) (fun hc199 => ?_) (fun hc199 => ?_)
                      · have hvN : wm_vis (wm_vf (fun j9 => wm_gr LB (LA.getD j9 0) LB.length) i2 []) ((fun j9 => wm_gr LB (LA.getD j9 0) LB.length) i2) = wm_vf (fun j9 => wm_gr LB (LA.getD j9 0) LB.length) i2 [] ++ [gr] := by rw [← hgk]; exact wm_dcN hdm hc199
                        refine lv_iload X.1 X.2.1 dX7_rests_207 (lv_at hl 4 rfl) ?_
                        refine lv_iconst (v := nI 1) X.1 X.2.1 dX7_rests_209 (by decide) ?_
                        refine wm_iadd (x := q) (y := 1) X dX7_rests_210 ?_
                        refine lv_istore (lv' := [(4, .int (nI (q + 1))), (0, .ref (b + 119)), (1, .int (nI k)), (2, .int (nI LA.length)), (3, .int (nI LB.length)), (5, .int (nI i2)), (6, .int (nI gr)), (7, .int (nI j2))]) X.1 X.2.1 dX7_rests_211 hl (by decide) rfl (fun ls hl => ?_)
                        refine lv_aload_n X.1 X.2.1 dX7_rests_213 rfl (lv_at hl 1 rfl) ?_
                        refine wm_get X hP hlt0 hE0 rfl wm_inX7 38 (by decide) wq5_60 rfl dX7_rests_214 ?_
                        refine lv_iload X.1 X.2.1 dX7_rests_217 (lv_at hl 6 rfl) ?_
                        refine lv_iconst (v := nI 1) X.1 X.2.1 dX7_rests_219 (by decide) ?_
                        refine wm_zast (i := gr) (x := true) X hP hS hlt7 hE7 (by omega) (by decide) dX7_rests_220 (fun H locs E16 hP hS hE7 hq => ?_)
                        have hE0 := (hq 119 (by decide)).trans hE0
                        have hE1 := (hq 121 (by decide)).trans hE1
                        have hE2 := (hq 122 (by decide)).trans hE2
                        have hE3 := (hq 123 (by decide)).trans hE3
                        have hE4 := (hq 124 (by decide)).trans hE4
                        have hE5 := (hq 143 (by decide)).trans hE5
                        have hE6 := (hq 144 (by decide)).trans hE6
                        have hfr : ∀ j, j ≠ 119 → j ≠ 143 → j ≠ 144 → j ≠ 145 → E16 j = E j := fun j h0 h1 h2 h3 => (hq j h3).trans (hfr j h0 h1 h2 h3)
                        refine lv_iinc (v := nI (i2 + 1)) (lv' := [(5, .int (nI (i2 + 1))), (4, .int (nI (q + 1))), (0, .ref (b + 119)), (1, .int (nI k)), (2, .int (nI LA.length)), (3, .int (nI LB.length)), (6, .int (nI gr)), (7, .int (nI j2))]) X.1 X.2.1 dX7_rests_221 hl (k := 5) rfl (wm_inc i2) (by decide) rfl (fun ls hl => ?_)
                        refine lv_goto (tgt := 129) X.1 X.2.1 dX7_rests_224 (by decide) ?_
                        exact ih129 (q + 1) (i2 + 1) (va_up mk4 gr true) (by omega) (by omega) (wm_dc1 hq9 hvN (by rw [hq9]; simp)) (by rw [hgk]; exact wm_dc2 hm4) E16 _ _ _ hP hS hE0 hE1 hE2 hE3 hE4 hE5 hE6 hE7 hfr (lv_sub hl [2, 3, 4, 5, 1, 0] rfl)
                      · have hvO : wm_vis (wm_vf (fun j9 => wm_gr LB (LA.getD j9 0) LB.length) i2 []) ((fun j9 => wm_gr LB (LA.getD j9 0) LB.length) i2) = wm_vf (fun j9 => wm_gr LB (LA.getD j9 0) LB.length) i2 [] := by rw [← hgk]; exact wm_dcO hdm hc199
                        refine lv_iload X.1 X.2.1 dX7_rests_202 (lv_at hl 4 rfl) ?_
                        refine lv_goto (tgt := 211) X.1 X.2.1 dX7_rests_204 (by decide) ?_
                        refine lv_istore (lv' := [(4, .int (nI q)), (0, .ref (b + 119)), (1, .int (nI k)), (2, .int (nI LA.length)), (3, .int (nI LB.length)), (5, .int (nI i2)), (6, .int (nI gr)), (7, .int (nI j2))]) X.1 X.2.1 dX7_rests_211 hl (by decide) rfl (fun ls hl => ?_)
                        refine lv_aload_n X.1 X.2.1 dX7_rests_213 rfl (lv_at hl 1 rfl) ?_
                        refine wm_get X hP hlt0 hE0 rfl wm_inX7 38 (by decide) wq5_60 rfl dX7_rests_214 ?_
                        refine lv_iload X.1 X.2.1 dX7_rests_217 (lv_at hl 6 rfl) ?_
                        refine lv_iconst (v := nI 1) X.1 X.2.1 dX7_rests_219 (by decide) ?_
                        refine wm_zast (i := gr) (x := true) X hP hS hlt7 hE7 (by omega) (by decide) dX7_rests_220 (fun H locs E17 hP hS hE7 hq => ?_)
                        have hE0 := (hq 119 (by decide)).trans hE0
                        have hE1 := (hq 121 (by decide)).trans hE1
                        have hE2 := (hq 122 (by decide)).trans hE2
                        have hE3 := (hq 123 (by decide)).trans hE3
                        have hE4 := (hq 124 (by decide)).trans hE4
                        have hE5 := (hq 143 (by decide)).trans hE5
                        have hE6 := (hq 144 (by decide)).trans hE6
                        have hfr : ∀ j, j ≠ 119 → j ≠ 143 → j ≠ 144 → j ≠ 145 → E17 j = E j := fun j h0 h1 h2 h3 => (hq j h3).trans (hfr j h0 h1 h2 h3)
                        refine lv_iinc (v := nI (i2 + 1)) (lv' := [(5, .int (nI (i2 + 1))), (4, .int (nI q)), (0, .ref (b + 119)), (1, .int (nI k)), (2, .int (nI LA.length)), (3, .int (nI LB.length)), (6, .int (nI gr)), (7, .int (nI j2))]) X.1 X.2.1 dX7_rests_221 hl (k := 5) rfl (wm_inc i2) (by decide) rfl (fun ls hl => ?_)
                        refine lv_goto (tgt := 129) X.1 X.2.1 dX7_rests_224 (by decide) ?_
                        exact ih129 q (i2 + 1) (va_up mk4 gr true) (by omega) (by omega) (wm_dc1 hq9 hvO hq9) (by rw [hgk]; exact wm_dc2 hm4) E17 _ _ _ hP hS hE0 hE1 hE2 hE3 hE4 hE5 hE6 hE7 hfr (lv_sub hl [2, 3, 4, 5, 1, 0] rfl)
                    · have hbi : fn2 j2 = LB.getD j2 0 := hml.2.1 j2 hc146
                      have hai : fn9 i2 = LA.getD i2 0 := hmlA.2.1 i2 hc132
                      have hblt := wm_bit_ml hml hc146
                      refine lv_aload_n X.1 X.2.1 dX7_rests_149 rfl (lv_at hl 0 rfl) ?_
                      refine wm_get X hP hlt0 hE0 rfl wm_inX7 37 (by decide) wq5_59 rfl dX7_rests_150 ?_
                      refine lv_iload X.1 X.2.1 dX7_rests_153 (lv_at hl 7 rfl) ?_
                      refine wm_iald (i := j2) X hP hlt6 hE6 (by omega) (by decide) dX7_rests_155 ?_
                      rw [show fn2 j2 = LB.getD j2 0 from hbi]
                      refine lv_aload_n X.1 X.2.1 dX7_rests_156 rfl (lv_at hl 0 rfl) ?_
                      refine wm_get X hP hlt0 hE0 rfl wm_inX7 36 (by decide) wq5_58 rfl dX7_rests_157 ?_
                      refine lv_iload X.1 X.2.1 dX7_rests_160 (lv_at hl 5 rfl) ?_
                      refine wm_iald (i := i2) X hP hlt5 hE5 (by omega) (by decide) dX7_rests_162 ?_
                      rw [show fn9 i2 = LA.getD i2 0 from hai]
                      refine wm_iand (x := (LB.getD j2 0)) (y := (LA.getD i2 0)) X dX7_rests_163 ?_
                      refine wm_if_ne (x := ((LB.getD j2 0) &&& (LA.getD i2 0))) (tgt := 182) X (Nat.lt_of_le_of_lt Nat.and_le_left (by omega)) dX7_rests_164 (by decide) (fun hc164 => ?_) (fun hc164 => ?_)
                      · refine lv_iload X.1 X.2.1 dX7_rests_182 (lv_at hl 6 rfl) ?_
                        refine lv_istore (lv' := [(6, .int (nI gr)), (0, .ref (b + 119)), (1, .int (nI k)), (2, .int (nI LA.length)), (3, .int (nI LB.length)), (4, .int (nI q)), (5, .int (nI i2)), (7, .int (nI j2))]) X.1 X.2.1 dX7_rests_184 hl (by decide) rfl (fun ls hl => ?_)
                        refine lv_iinc (v := nI (j2 + 1)) (lv' := [(7, .int (nI (j2 + 1))), (6, .int (nI gr)), (0, .ref (b + 119)), (1, .int (nI k)), (2, .int (nI LA.length)), (3, .int (nI LB.length)), (4, .int (nI q)), (5, .int (nI i2))]) X.1 X.2.1 dX7_rests_186 hl (k := 7) rfl (wm_inc j2) (by decide) rfl (fun ls hl => ?_)
                        refine lv_goto (tgt := 143) X.1 X.2.1 dX7_rests_189 (by decide) ?_
                        exact ih143 gr (j2 + 1) (by omega) (by omega) (by rw [hgr, wm_gr, if_neg hc164]) E13 _ _ _ hP hS hE0 hE1 hE2 hE3 hE4 hE5 hE6 hE7 hfr (lv_sub hl [2, 3, 4, 5, 6, 7, 1, 0] rfl)
                      · refine lv_iload X.1 X.2.1 dX7_rests_167 (lv_at hl 6 rfl) ?_
                        refine lv_aload_n X.1 X.2.1 dX7_rests_169 rfl (lv_at hl 0 rfl) ?_
                        refine wm_get X hP hlt0 hE0 rfl wm_inX7 37 (by decide) wq5_59 rfl dX7_rests_170 ?_
                        refine lv_iload X.1 X.2.1 dX7_rests_173 (lv_at hl 7 rfl) ?_
                        refine wm_iald (i := j2) X hP hlt6 hE6 (by omega) (by decide) dX7_rests_175 ?_
                        rw [show fn2 j2 = LB.getD j2 0 from hbi]
                        refine lv_iconst (v := nI 4294967295) X.1 X.2.1 dX7_rests_176 (by decide) ?_
                        refine wm_ixor (x := (LB.getD j2 0)) (y := 4294967295) X dX7_rests_177 ?_
                        refine wm_iand (x := gr) (y := ((LB.getD j2 0) ^^^ 4294967295)) X dX7_rests_178 ?_
                        refine lv_goto (tgt := 184) X.1 X.2.1 dX7_rests_179 (by decide) ?_
                        refine lv_istore (lv' := [(6, .int (nI (gr &&& ((LB.getD j2 0) ^^^ 4294967295)))), (0, .ref (b + 119)), (1, .int (nI k)), (2, .int (nI LA.length)), (3, .int (nI LB.length)), (4, .int (nI q)), (5, .int (nI i2)), (7, .int (nI j2))]) X.1 X.2.1 dX7_rests_184 hl (by decide) rfl (fun ls hl => ?_)
                        refine lv_iinc (v := nI (j2 + 1)) (lv' := [(7, .int (nI (j2 + 1))), (6, .int (nI (gr &&& ((LB.getD j2 0) ^^^ 4294967295)))), (0, .ref (b + 119)), (1, .int (nI k)), (2, .int (nI LA.length)), (3, .int (nI LB.length)), (4, .int (nI q)), (5, .int (nI i2))]) X.1 X.2.1 dX7_rests_186 hl (k := 7) rfl (wm_inc j2) (by decide) rfl (fun ls hl => ?_)
                        refine lv_goto (tgt := 143) X.1 X.2.1 dX7_rests_189 (by decide) ?_
                        exact ih143 (gr &&& ((LB.getD j2 0) ^^^ 4294967295)) (j2 + 1) (by omega) (by omega) (by rw [hgr, wm_gr, if_pos hc164]) E13 _ _ _ hP hS hE0 hE1 hE2 hE3 hE4 hE5 hE6 hE7 hfr (lv_sub hl [2, 3, 4, 5, 6, 7, 1, 0] rfl)
                exact L143 (LB.length - 0 + 1) 2047 0 (Nat.lt_succ_self _) (by omega) rfl E11 _ _ _ hP hS hE0 hE1 hE2 hE3 hE4 hE5 hE6 hE7 hfr (lv_sub hl [2, 3, 4, 5, 6, 7, 1, 0] rfl)
          exact L129 (LA.length - 0 + 1) 0 0 mk110 (Nat.lt_succ_self _) (by omega) rfl (fun S hS => by rw [hp10_0 S hS]; exact (decide_eq_false List.not_mem_nil).symm) E10 _ _ _ hP hS hE0 hE1 hE2 hE3 hE4 hE5 hE6 hE7 hfr (lv_sub hl [2, 3, 4, 5, 1, 0] rfl)
        · refine lv_iconst (v := nI 0) X.1 X.2.1 dX7_rests_73 (by decide) ?_
          refine lv_istore (lv' := [(5, .int (nI 0)), (0, .ref (b + 119)), (1, .int (nI k)), (2, .int (nI LA.length)), (3, .int (nI L.length)), (4, .int (nI i))]) X.1 X.2.1 dX7_rests_74 hl (by decide) rfl (fun ls hl => ?_)
          have L76 : ∀ (fu : Nat) (a : Nat) (mk3 : Nat → Bool) (fn3 : Nat → Nat), 8 - a < fu → (a ≤ 8) → (wm_ml (wm_vf (fun a => wm_bf ar k (ss k) a (L.getD i 0)) a L) 2048 mk3 fn3) → ∀ (E19 : Nat → va_E) (H : Heap) (locs : List Loc) (ls : Array Slot), wm_P D b n E19 H → wm_S b s.heap H locs → E19 119 = .inr (7, [.int (nI 0), .ref (b + 120), .int (nI sz), .int (nI fa), .int (nI pl), .ref (b + 121), .ref (b + 122), .ref (b + 123), .ref (b + 124), .ref (b + 125), .ref (b + 126), .ref (b + 127), .int (nI ats), .int (nI aa), .ref (b + 128), .ref (b + 129), .ref (b + 130), .ref (b + 131), .ref (b + 132), .ref (b + 133), .int (nI op), .int (nI be.toNat), .int (nI fi), .int (nI la), .ref (b + 134), .ref (b + 135), .ref (b + 136), .int (nI wa), .ref (b + 137), .ref (b + 138), .ref (b + 139), .int (nI wc), .ref (b + 140), .int (nI kl), .ref (b + 141), .ref (b + 142), .ref (b + 143), .ref (b + 144), .ref (b + 145)]) → E19 121 = wm_I C 1536 ar → E19 122 = wm_I C 8 ss → E19 123 = wm_I C 8 sa → E19 124 = wm_I C 8 se → E19 143 = wm_I C 2048 fn9 → E19 144 = wm_I C 2048 fn3 → E19 145 = wm_Z C 2048 mk3 → (∀ j, j ≠ 119 → j ≠ 143 → j ≠ 144 → j ≠ 145 → E19 j = E j) → lv_has ls 8 [(0, .ref (b + 119)), (1, .int (nI k)), (2, .int (nI LA.length)), (3, .int (nI ((wm_vf (fun a => wm_bf ar k (ss k) a (L.getD i 0)) a L).length))), (4, .int (nI i)), (5, .int (nI a))] → W p l e R s m args below meth c H locs 0 0 Q (F0 m 76 ls []) := by
            intro fu
            induction fu with
            | zero => intro a mk3 fn3 hm; exact absurd hm (Nat.not_lt_zero _)
            | succ fu ih76 =>
              intro a mk3 fn3 hm ha hml2 E19 H locs ls hP hS hE0 hE1 hE2 hE3 hE4 hE5 hE6 hE7 hfr hl
              have hlen2 := wm_ml_len hml2
              have hpre := wm_vf_pre (fun a => wm_bf ar k (ss k) a (L.getD i 0)) L a
              refine lv_iload X.1 X.2.1 dX7_rests_76 (lv_at hl 5 rfl) ?_
              refine lv_bipush (v := nI 8) X.1 X.2.1 dX7_rests_78 (by decide) ?_
              refine wm_icmp_ge (x := a) (y := 8) (tgt := 113) X (by omega) (by decide) dX7_rests_80 (by decide) (fun hc80 => ?_) (fun hc80 => ?_)
              · refine lv_iinc (v := nI (i + 1)) (lv' := [(4, .int (nI (i + 1))), (0, .ref (b + 119)), (1, .int (nI k)), (2, .int (nI LA.length)), (3, .int (nI ((wm_vf (fun a => wm_bf ar k (ss k) a (L.getD i 0)) a L).length))), (5, .int (nI a))]) X.1 X.2.1 dX7_rests_113 hl (k := 4) rfl (wm_inc i) (by decide) rfl (fun ls hl => ?_)
                refine lv_goto (tgt := 67) X.1 X.2.1 dX7_rests_116 (by decide) ?_
                have ha8 : a = 8 := by omega
                have hpre := wm_vf_pre (fun a => wm_bf ar k (ss k) a (L.getD i 0)) L a
                exact ih67 (i + 1) (wm_vf (fun a => wm_bf ar k (ss k) a (L.getD i 0)) a L) mk3 fn3 (by omega) (by omega) hml2 (by rw [ha8, ← hbf, show 2049 - i = 2049 - (i + 1) + 1 by omega, wm_bfs_s hc70]) E19 _ _ _ hP hS hE0 hE1 hE2 hE3 hE4 hE5 hE6 hE7 hfr (lv_sub hl [1, 2, 3, 4, 0] rfl)
              · refine lv_aload_n X.1 X.2.1 dX7_rests_83 rfl (lv_at hl 0 rfl) ?_
                refine lv_aload_n X.1 X.2.1 dX7_rests_84 rfl (lv_at hl 0 rfl) ?_
                refine wm_get X hP hlt0 hE0 rfl wm_inX7 37 (by decide) wq5_59 rfl dX7_rests_85 ?_
                refine lv_iload_n X.1 X.2.1 dX7_rests_88 rfl (lv_at hl 3 rfl) ?_
                refine lv_aload_n X.1 X.2.1 dX7_rests_89 rfl (lv_at hl 0 rfl) ?_
                refine lv_iload_n X.1 X.2.1 dX7_rests_90 rfl (lv_at hl 1 rfl) ?_
                refine lv_aload_n X.1 X.2.1 dX7_rests_91 rfl (lv_at hl 0 rfl) ?_
                refine wm_get X hP hlt0 hE0 rfl wm_inX7 37 (by decide) wq5_59 rfl dX7_rests_92 ?_
                refine lv_iload X.1 X.2.1 dX7_rests_95 (lv_at hl 4 rfl) ?_
                refine wm_iald (i := i) X hP hlt6 hE6 (by omega) (by decide) dX7_rests_97 ?_
                have hmi : fn3 i = L.getD i 0 := (hml2.2.1 i (by omega)).trans (hpre.2 i hc70)
                have hin := wm_bit_ml hml hc70
                rw [show fn3 i = L.getD i 0 from hmi]
                refine lv_iload X.1 X.2.1 dX7_rests_98 (lv_at hl 5 rfl) ?_
                refine wm_callVi (k := 3) (As := [.int (nI k), .int (nI (L.getD i 0)), .int (nI a)]) (rest := [.int (nI ((wm_vf (fun a => wm_bf ar k (ss k) a (L.getD i 0)) a L).length)), .ref (b + 144), .ref (b + 119)]) X hP hS hlt0 hE0 rfl (kX7_before l D C b n E19 0 sz fa pl ats aa op fi la wa wc kl be k (L.getD i 0) a ar ss hlt0 hE0 hlt1 hE1 hlt2 hE2 (by omega) (by omega) (by omega) (by omega)) wq6_83 wq6_85 wqP4_6 wq1_8 wq6_86 (by decide) (by rw [hRe]; exact ⟨Nat.le_of_ble_eq_true rfl, Nat.le_of_ble_eq_true rfl⟩) rfl hl.1 rfl (Nat.le_of_ble_eq_true rfl) (Nat.zero_le _) (Nat.zero_le _) dX7_rests_100 (fun r21 E21 H locs hw hP hS => ?_)
                obtain ⟨hrt, hEe⟩ := hw
                subst hrt
                subst hEe
                refine wm_callVi (k := 3) (As := [.ref (b + 144), .int (nI ((wm_vf (fun a => wm_bf ar k (ss k) a (L.getD i 0)) a L).length)), .int (nI (wm_bf ar k (ss k) a (L.getD i 0)))]) (rest := []) X hP hS hlt0 hE0 rfl (kX7_visit l D C b n E19 0 sz fa pl ats aa op fi la wa wc kl be 144 (wm_bf ar k (ss k) a (L.getD i 0)) (wm_vf (fun a => wm_bf ar k (ss k) a (L.getD i 0)) a L) mk3 fn3 hlt0 hE0 hlt6 hE6 hlt7 hE7 (Or.inr rfl) (Nat.lt_of_lt_of_le wm_bf_lt h2c) hml2) wq6_75 wq6_77 wqP4_5 wq1_8 wq6_78 (by decide) (by rw [hRe]; exact ⟨Nat.le_of_ble_eq_true rfl, Nat.le_of_ble_eq_true rfl⟩) rfl hl.1 rfl (Nat.le_of_ble_eq_true rfl) (Nat.zero_le _) (Nat.zero_le _) dX7_rests_103 (fun r22 E22 H locs hw hP hS => ?_)
                obtain ⟨mk122, li122, hrt, hE6, hE7, hq, hp22_0⟩ := hw
                subst hrt
                have hE0 := (hq 119 (by decide) (by decide)).trans hE0
                have hE1 := (hq 121 (by decide) (by decide)).trans hE1
                have hE2 := (hq 122 (by decide) (by decide)).trans hE2
                have hE3 := (hq 123 (by decide) (by decide)).trans hE3
                have hE4 := (hq 124 (by decide) (by decide)).trans hE4
                have hE5 := (hq 143 (by decide) (by decide)).trans hE5
                have hfr : ∀ j, j ≠ 119 → j ≠ 143 → j ≠ 144 → j ≠ 145 → E22 j = E j := fun j h0 h1 h2 h3 => (hq j h2 h3).trans (hfr j h0 h1 h2 h3)
                refine lv_istore_n (lv' := [(3, .int (nI ((wm_vf (fun a => wm_bf ar k (ss k) a (L.getD i 0)) (a + 1) L).length))), (0, .ref (b + 119)), (1, .int (nI k)), (2, .int (nI LA.length)), (4, .int (nI i)), (5, .int (nI a))]) X.1 X.2.1 dX7_rests_106 rfl hl (by decide) rfl (fun ls hl => ?_)
                refine lv_iinc (v := nI (a + 1)) (lv' := [(5, .int (nI (a + 1))), (3, .int (nI ((wm_vf (fun a => wm_bf ar k (ss k) a (L.getD i 0)) (a + 1) L).length))), (0, .ref (b + 119)), (1, .int (nI k)), (2, .int (nI LA.length)), (4, .int (nI i))]) X.1 X.2.1 dX7_rests_107 hl (k := 5) rfl (wm_inc a) (by decide) rfl (fun ls hl => ?_)
                refine lv_goto (tgt := 76) X.1 X.2.1 dX7_rests_110 (by decide) ?_
                exact ih76 (a + 1) mk122 li122 (by omega) (by omega) hp22_0 E22 _ _ _ hP hS hE0 hE1 hE2 hE3 hE4 hE5 hE6 hE7 hfr (lv_sub hl [2, 3, 4, 1, 5, 0] rfl)
          exact L76 (8 - 0 + 1) 0 mk2 fn2 (Nat.lt_succ_self _) (by omega) hml E8 _ _ _ hP hS hE0 hE1 hE2 hE3 hE4 hE5 hE6 hE7 hfr (lv_sub hl [1, 2, 3, 4, 5, 0] rfl)
    exact L67 (2049 - 0 + 1) 0 ([se k]) mk17 li17 (Nat.lt_succ_self _) (Nat.zero_le _) hp7_0 rfl E7 _ _ _ hP hS hE0 hE1 hE2 hE3 hE4 hE5 hE6 hE7 hfr (lv_sub hl [3, 4, 2, 1, 0] rfl)
  · exact absurd hc18 (by rw [decide_eq_false (show ¬ 11 < ss k by omega)]; decide)
