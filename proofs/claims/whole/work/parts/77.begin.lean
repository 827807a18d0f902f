def wm_zi0 : wm_pst := ((0, 0, 0, false, 0), (fun _ => 0), (fun _ => 0), (fun _ => false), fun _ _ => (false, 0, 0))
def wm_S0 : wm_St := ((fun _ => (1, 0, 0, fun _ => 0)), (0, fun _ => 0), (0, 4294967295), (4294967295, fun _ => 0), wm_zi0)
theorem wm_z00 : wm_zb (wm_z0 wm_zi0) := ⟨⟨Nat.le_of_ble_eq_true rfl, Nat.le_of_ble_eq_true rfl, Nat.le_of_ble_eq_true rfl, Nat.le_of_ble_eq_true rfl, Nat.le_of_ble_eq_true rfl⟩, fun _ => Nat.two_pow_pos 24, fun _ => Nat.two_pow_pos 8, wm_pt_b (fun _ _ => wm_e0_b) wm_e0_b wm_e1_b wm_e1_b⟩
theorem wm_BD0 : wm_BD wm_S0 := ⟨Nat.zero_le _, fun _ => Nat.le_of_ble_eq_true rfl, fun _ _ => ⟨Nat.le_refl _, Nat.le_of_ble_eq_true rfl, Nat.two_pow_pos 1, Nat.two_pow_pos 1, fun _ _ _ _ => Nat.two_pow_pos 1⟩, Or.inl rfl⟩
set_option maxHeartbeats 4000000 in
set_option maxRecDepth 100000 in
theorem wm_begin {p : Program} {l : Launch} {e : Env} {R : Room} {s : State} {m : MethodId} {args : Array Value} {below : List Frame} {meth : Method} {c : Code} {Q : State → Prop} {D : va_G} {C : Nat → ClassId} {b a L : Nat} {xs : Nat → Int32} {ls : Array Slot} (V : wm_env p l R s m args meth c D C b a L xs) (hb : s.heap.size = b) (hA : wm_AA s) (hRe : R = room_1) (fin : ∀ (H : Heap) (locs : List Loc) (ls : Array Slot) (cells slots : Nat), (∀ q ∈ locs, b ≤ q.base) → cells ≤ 1000 → slots ≤ 500000 → W p l e R s m args below meth c H locs cells slots Q (F0 m 1302 ls [])) (hl : lv_has ls 8 [(0, .ref a)]) : W p l e R s m args below meth c s.heap [] 0 0 Q (F0 m 0 ls []) := by
  obtain ⟨hst, X, hV, hNc, hX, ha, hab, hL, hRf, hRl⟩ := id V
  have hz0 : s.heap.size = b + 0 := hb
  have hP : wm_P D b 0 (fun _ => .inr (0, [])) s.heap := fun k q hq => absurd (wm_of hq).1 (Nat.not_lt_zero _)
  have hS : wm_S b s.heap s.heap [] := va_S.rf
  generalize (fun _ => .inr (0, []) : Nat → va_E) = E at hP
  refine wm_newo (n := 0) X hP hS (by omega) (ci := 6) rfl wm_inX6 tyX6 tyX6_ok wq1_26 wq1_27 wq1_1 (fs := [.null, .null, .null, .int (nI 0), .null, .null, .null]) (by decide) (by rw [hRe]; exact Nat.le_of_ble_eq_true rfl) (by rw [hRe]; exact Nat.le_of_ble_eq_true rfl) dL_law_0 (fun H E1 hP hS hN1 hq => ?_)
  have hP := wm_Pcg (n' := 1) hP (by omega)
  refine wm_Wcg (a := 1) (d := 7) (by omega) (by omega) ?_
  refine lv_dup X.1 X.2.1 dL_law_3 rfl ?_
  refine wm_init (n := 1) (n1 := 119) (t := 0) (rest := [.ref (b + 0)]) X hA hP hS (by omega) (kX6_init l D C b E1  hN1) wq1_28 wq1_29 wq1_1 wq1_30 rfl (by decide) (by rw [hRe]; exact ⟨Nat.le_of_ble_eq_true rfl, Nat.le_of_ble_eq_true rfl⟩) hl.1 (Nat.le_of_ble_eq_true rfl) (by rw [hRe]; exact Nat.le_of_ble_eq_true rfl) (by rw [hRe]; exact Nat.le_of_ble_eq_true rfl) dL_law_4 (fun E2 H locs hw hP hS => ?_)
  obtain ⟨hN1, hI2_1, hI2_2, hI2_3, hI2_4, hI2_5, hI2_6, hI2_7, hI2_8, hI2_9, hI2_10, hI2_11, hI2_12, hI2_13, hI2_14, hI2_15, hI2_16, hI2_17, hI2_18, hq, hp2_0, hp2_1⟩ := hw
  have hN1 : E2 0 = .inr (6, [.ref (b + 1), .ref (b + 2), .ref (b + 4), .int (nI 0), .ref (b + 5), .ref (b + 93), .ref (b + 100)]) := hN1
  have hI2_1 : E2 1 = wm_Q C 4 8 (fun x9 => some (b + (103 + 2 * x9))) := hI2_1
  have hI2_2 : E2 2 = .inr (2, [.ref (b + 3), .int (nI 1), .int (nI 0), .int (nI 0)]) := hI2_2
  have hI2_3 : E2 3 = wm_I C 192 (fun _ => 0) := hI2_3
  have hI2_4 : E2 4 = wm_B C 200 (fun j => wm_sb ((fun _ => 0) j)) := hI2_4
  have hI2_5 : E2 5 = .inr (0, [.int (nI 0), .int (nI 4294967295), .ref (b + 6), .ref (b + 7), .ref (b + 8), .int (nI 0), .int (nI 0), .int (nI 0), .int (nI false.toNat), .int (nI 0)]) := hI2_5
  have hI2_6 : E2 6 = wm_Q C 5 21 (fun i => some (b + (9 + 4 * i))) := hI2_6
  have hI2_7 : E2 7 = wm_I C 24 (fun _ => 0) := hI2_7
  have hI2_8 : E2 8 = wm_I C 24 (fun _ => 0) := hI2_8
  have hI2_9 : E2 93 = .inr (4, [.ref (b + 94), .ref (b + 95), .ref (b + 96), .ref (b + 97), .ref (b + 98), .ref (b + 99), .int (nI 0), .int (nI 0)]) := hI2_9
  have hI2_10 : E2 94 = wm_I C 16384 (fun _ => 0) := hI2_10
  have hI2_11 : E2 95 = wm_Z C 2048 (fun _ => false) := hI2_11
  have hI2_12 : E2 96 = wm_I C 2048 (fun _ => 0) := hI2_12
  have hI2_13 : E2 97 = wm_I C 2048 (fun _ => 0) := hI2_13
  have hI2_14 : E2 98 = wm_J C 2048 (fun _ => 0) := hI2_14
  have hI2_15 : E2 99 = wm_J C 2048 (fun _ => 0) := hI2_15
  have hI2_16 : E2 100 = .inr (5, [.ref (b + 101), .ref (b + 102), .int (nI 0), .int (nI 0), .int (nI 4294967295)]) := hI2_16
  have hI2_17 : E2 101 = wm_J C 49152 (fun _ => 0) := hI2_17
  have hI2_18 : E2 102 = wm_I C 2048 (fun _ => 0) := hI2_18
  have hlw := hp2_0
  have hmc := hp2_1
  have hP := wm_Pcg (n' := 119) hP (by omega)
  refine wm_Wcg (a := 119) (d := 80168) (by omega) (by omega) ?_
  refine lv_astore_n (lv' := [(1, .ref (b + 0)), (0, .ref a)]) X.1 X.2.1 dL_law_7 rfl hl (by decide) rfl (fun ls hl => ?_)
  refine wm_newo (n := 119) X hP hS (by omega) (ci := 7) rfl wm_inX7 tyX7 tyX7_ok wq5_14 wq5_15 wq1_8 (fs := [.int (nI 0), .null, .int (nI 0), .int (nI 0), .int (nI 0), .null, .null, .null, .null, .null, .null, .null, .int (nI 0), .int (nI 0), .null, .null, .null, .null, .null, .null, .int (nI 0), .int (nI false.toNat), .int (nI 0), .int (nI 0), .null, .null, .null, .int (nI 0), .null, .null, .null, .int (nI 0), .null, .int (nI 0), .null, .null, .null, .null, .null]) (by decide) (by rw [hRe]; exact Nat.le_of_ble_eq_true rfl) (by rw [hRe]; exact Nat.le_of_ble_eq_true rfl) dL_law_8 (fun H E3 hP hS hN3 hq => ?_)
  have hN1 := (hq 0 (by decide)).trans hN1
  have hI2_1 := (hq 1 (by decide)).trans hI2_1
  have hI2_2 := (hq 2 (by decide)).trans hI2_2
  have hI2_3 := (hq 3 (by decide)).trans hI2_3
  have hI2_4 := (hq 4 (by decide)).trans hI2_4
  have hI2_5 := (hq 5 (by decide)).trans hI2_5
  have hI2_6 := (hq 6 (by decide)).trans hI2_6
  have hI2_7 := (hq 7 (by decide)).trans hI2_7
  have hI2_8 := (hq 8 (by decide)).trans hI2_8
  have hI2_9 := (hq 93 (by decide)).trans hI2_9
  have hI2_10 := (hq 94 (by decide)).trans hI2_10
  have hI2_11 := (hq 95 (by decide)).trans hI2_11
  have hI2_12 := (hq 96 (by decide)).trans hI2_12
  have hI2_13 := (hq 97 (by decide)).trans hI2_13
  have hI2_14 := (hq 98 (by decide)).trans hI2_14
  have hI2_15 := (hq 99 (by decide)).trans hI2_15
  have hI2_16 := (hq 100 (by decide)).trans hI2_16
  have hI2_17 := (hq 101 (by decide)).trans hI2_17
  have hI2_18 := (hq 102 (by decide)).trans hI2_18
  have hlw : wm_lw b E3 (fun _ => false) (fun _ _ => (false, 0, 0)) := fun k hk => ⟨(hq _ (by omega)).trans (hlw k hk).1, (hq _ (by omega)).trans (hlw k hk).2.1, (hq _ (by omega)).trans (hlw k hk).2.2.1, (hq _ (by omega)).trans (hlw k hk).2.2.2⟩
  have hmc : ∀ k, k < 8 → E3 (103 + 2 * k) = .inr (2, [.ref (b + (104 + 2 * k)), .int (nI 1), .int (nI 0), .int (nI 0)]) ∧ E3 (104 + 2 * k) = wm_I C 192 (fun _ => 0) := fun k hk => ⟨(hq _ (by omega)).trans (hmc k hk).1, (hq _ (by omega)).trans (hmc k hk).2⟩
  have hP := wm_Pcg (n' := 120) hP (by omega)
  refine wm_Wcg (a := 120) (d := 80207) (by omega) (by omega) ?_
  refine lv_dup X.1 X.2.1 dL_law_11 rfl ?_
  refine wm_init (n := 120) (n1 := 146) (t := 119) (rest := [.ref (b + 119)]) X hA hP hS (by omega) (kX7_init l D C b E3  hN3) wq5_16 wq5_17 wq1_8 wq5_18 rfl (by decide) (by rw [hRe]; exact ⟨Nat.le_of_ble_eq_true rfl, Nat.le_of_ble_eq_true rfl⟩) hl.1 (Nat.le_of_ble_eq_true rfl) (by rw [hRe]; exact Nat.le_of_ble_eq_true rfl) (by rw [hRe]; exact Nat.le_of_ble_eq_true rfl) dL_law_12 (fun E4 H locs hw hP hS => ?_)
  obtain ⟨hN3, hI4_1, hI4_2, hI4_3, hI4_4, hI4_5, hI4_6, hI4_7, hI4_8, hI4_9, hI4_10, hI4_11, hI4_12, hI4_13, hI4_14, hI4_15, hI4_16, hI4_17, hI4_18, hI4_19, hI4_20, hI4_21, hI4_22, hI4_23, hI4_24, hI4_25, hI4_26, hq⟩ := hw
  have hN1 := (hq 0 (by omega)).trans hN1
  have hI2_1 := (hq 1 (by omega)).trans hI2_1
  have hI2_2 := (hq 2 (by omega)).trans hI2_2
  have hI2_3 := (hq 3 (by omega)).trans hI2_3
  have hI2_4 := (hq 4 (by omega)).trans hI2_4
  have hI2_5 := (hq 5 (by omega)).trans hI2_5
  have hI2_6 := (hq 6 (by omega)).trans hI2_6
  have hI2_7 := (hq 7 (by omega)).trans hI2_7
  have hI2_8 := (hq 8 (by omega)).trans hI2_8
  have hI2_9 := (hq 93 (by omega)).trans hI2_9
  have hI2_10 := (hq 94 (by omega)).trans hI2_10
  have hI2_11 := (hq 95 (by omega)).trans hI2_11
  have hI2_12 := (hq 96 (by omega)).trans hI2_12
  have hI2_13 := (hq 97 (by omega)).trans hI2_13
  have hI2_14 := (hq 98 (by omega)).trans hI2_14
  have hI2_15 := (hq 99 (by omega)).trans hI2_15
  have hI2_16 := (hq 100 (by omega)).trans hI2_16
  have hI2_17 := (hq 101 (by omega)).trans hI2_17
  have hI2_18 := (hq 102 (by omega)).trans hI2_18
  have hN3 : E4 119 = .inr (7, [.int (nI 0), .ref (b + 120), .int (nI 0), .int (nI 0), .int (nI 4294967295), .ref (b + 121), .ref (b + 122), .ref (b + 123), .ref (b + 124), .ref (b + 125), .ref (b + 126), .ref (b + 127), .int (nI 0), .int (nI 0), .ref (b + 128), .ref (b + 129), .ref (b + 130), .ref (b + 131), .ref (b + 132), .ref (b + 133), .int (nI 0), .int (nI false.toNat), .int (nI 0), .int (nI 0), .ref (b + 134), .ref (b + 135), .ref (b + 136), .int (nI 0), .ref (b + 137), .ref (b + 138), .ref (b + 139), .int (nI 0), .ref (b + 140), .int (nI 4294967295), .ref (b + 141), .ref (b + 142), .ref (b + 143), .ref (b + 144), .ref (b + 145)]) := hN3
  have hI4_1 : E4 120 = wm_I C 200 (fun _ => 0) := hI4_1
  have hI4_2 : E4 121 = wm_I C 1536 (fun _ => 0) := hI4_2
  have hI4_3 : E4 122 = wm_I C 8 (fun j => if j < 8 then 1 else 0) := hI4_3
  have hI4_4 : E4 123 = wm_I C 8 (fun _ => 0) := hI4_4
  have hI4_5 : E4 124 = wm_I C 8 (fun _ => 0) := hI4_5
  have hI4_6 : E4 125 = wm_I C 192 (fun _ => 0) := hI4_6
  have hI4_7 : E4 126 = wm_I C 24 (fun _ => 0) := hI4_7
  have hI4_8 : E4 127 = wm_I C 24 (fun _ => 0) := hI4_8
  have hI4_9 : E4 128 = wm_Z C 22 (fun _ => false) := hI4_9
  have hI4_10 : E4 129 = wm_I C 22 (fun _ => 0) := hI4_10
  have hI4_11 : E4 130 = wm_I C 22 (fun _ => 0) := hI4_11
  have hI4_12 : E4 131 = wm_Z C 22 (fun _ => false) := hI4_12
  have hI4_13 : E4 132 = wm_I C 22 (fun _ => 0) := hI4_13
  have hI4_14 : E4 133 = wm_I C 22 (fun _ => 0) := hI4_14
  have hI4_15 : E4 134 = wm_I C 49152 (fun _ => 0) := hI4_15
  have hI4_16 : E4 135 = wm_I C 49152 (fun _ => 0) := hI4_16
  have hI4_17 : E4 136 = wm_Z C 49152 (fun _ => false) := hI4_17
  have hI4_18 : E4 137 = wm_I C 49153 (fun _ => 0) := hI4_18
  have hI4_19 : E4 138 = wm_I C 49153 (fun _ => 0) := hI4_19
  have hI4_20 : E4 139 = wm_I C 49153 (fun _ => 0) := hI4_20
  have hI4_21 : E4 140 = wm_I C 49153 (fun _ => 0) := hI4_21
  have hI4_22 : E4 141 = wm_J C 2048 (fun _ => 0) := hI4_22
  have hI4_23 : E4 142 = wm_J C 2048 (fun _ => 0) := hI4_23
  have hI4_24 : E4 143 = wm_I C 2048 (fun _ => 0) := hI4_24
  have hI4_25 : E4 144 = wm_I C 2048 (fun _ => 0) := hI4_25
  have hI4_26 : E4 145 = wm_Z C 2048 (fun _ => false) := hI4_26
  have hlw : wm_lw b E4 (fun _ => false) (fun _ _ => (false, 0, 0)) := fun k hk => ⟨(hq _ (by omega)).trans (hlw k hk).1, (hq _ (by omega)).trans (hlw k hk).2.1, (hq _ (by omega)).trans (hlw k hk).2.2.1, (hq _ (by omega)).trans (hlw k hk).2.2.2⟩
  have hmc : ∀ k, k < 8 → E4 (103 + 2 * k) = .inr (2, [.ref (b + (104 + 2 * k)), .int (nI 1), .int (nI 0), .int (nI 0)]) ∧ E4 (104 + 2 * k) = wm_I C 192 (fun _ => 0) := fun k hk => ⟨(hq _ (by omega)).trans (hmc k hk).1, (hq _ (by omega)).trans (hmc k hk).2⟩
  have hP := wm_Pcg (n' := 146) hP (by omega)
  refine wm_Wcg (a := 146) (d := 436647) (by omega) (by omega) ?_
  refine lv_astore_n (lv' := [(2, .ref (b + 119)), (1, .ref (b + 0)), (0, .ref a)]) X.1 X.2.1 dL_law_15 rfl hl (by decide) rfl (fun ls hl => ?_)
  refine lv_iconst (v := nI 1) X.1 X.2.1 dL_law_16 (by decide) ?_
  refine wm_newa (n := 146) (N := 1) (k := 1) (atype := .long) (ty := .long) (a0 := wm_aJ 1) X hP hS (by omega) rfl rfl (fun h => h) wq1_182 (wm_dJ 1) (by decide) (by decide) (by rw [hRe]; exact Nat.le_of_ble_eq_true rfl) (by rw [hRe]; exact Nat.le_of_ble_eq_true rfl) dL_law_17 (fun H E5 hP hS hN5 hq => ?_)
  have hN5 : E5 146 = wm_J C 1 (fun _ => 0) := hN5
  have hN1 := (hq 0 (by decide)).trans hN1
  have hI2_1 := (hq 1 (by decide)).trans hI2_1
  have hI2_2 := (hq 2 (by decide)).trans hI2_2
  have hI2_3 := (hq 3 (by decide)).trans hI2_3
  have hI2_4 := (hq 4 (by decide)).trans hI2_4
  have hI2_5 := (hq 5 (by decide)).trans hI2_5
  have hI2_6 := (hq 6 (by decide)).trans hI2_6
  have hI2_7 := (hq 7 (by decide)).trans hI2_7
  have hI2_8 := (hq 8 (by decide)).trans hI2_8
  have hI2_9 := (hq 93 (by decide)).trans hI2_9
  have hI2_10 := (hq 94 (by decide)).trans hI2_10
  have hI2_11 := (hq 95 (by decide)).trans hI2_11
  have hI2_12 := (hq 96 (by decide)).trans hI2_12
  have hI2_13 := (hq 97 (by decide)).trans hI2_13
  have hI2_14 := (hq 98 (by decide)).trans hI2_14
  have hI2_15 := (hq 99 (by decide)).trans hI2_15
  have hI2_16 := (hq 100 (by decide)).trans hI2_16
  have hI2_17 := (hq 101 (by decide)).trans hI2_17
  have hI2_18 := (hq 102 (by decide)).trans hI2_18
  have hN3 := (hq 119 (by decide)).trans hN3
  have hI4_1 := (hq 120 (by decide)).trans hI4_1
  have hI4_2 := (hq 121 (by decide)).trans hI4_2
  have hI4_3 := (hq 122 (by decide)).trans hI4_3
  have hI4_4 := (hq 123 (by decide)).trans hI4_4
  have hI4_5 := (hq 124 (by decide)).trans hI4_5
  have hI4_6 := (hq 125 (by decide)).trans hI4_6
  have hI4_7 := (hq 126 (by decide)).trans hI4_7
  have hI4_8 := (hq 127 (by decide)).trans hI4_8
  have hI4_9 := (hq 128 (by decide)).trans hI4_9
  have hI4_10 := (hq 129 (by decide)).trans hI4_10
  have hI4_11 := (hq 130 (by decide)).trans hI4_11
  have hI4_12 := (hq 131 (by decide)).trans hI4_12
  have hI4_13 := (hq 132 (by decide)).trans hI4_13
  have hI4_14 := (hq 133 (by decide)).trans hI4_14
  have hI4_15 := (hq 134 (by decide)).trans hI4_15
  have hI4_16 := (hq 135 (by decide)).trans hI4_16
  have hI4_17 := (hq 136 (by decide)).trans hI4_17
  have hI4_18 := (hq 137 (by decide)).trans hI4_18
  have hI4_19 := (hq 138 (by decide)).trans hI4_19
  have hI4_20 := (hq 139 (by decide)).trans hI4_20
  have hI4_21 := (hq 140 (by decide)).trans hI4_21
  have hI4_22 := (hq 141 (by decide)).trans hI4_22
  have hI4_23 := (hq 142 (by decide)).trans hI4_23
  have hI4_24 := (hq 143 (by decide)).trans hI4_24
  have hI4_25 := (hq 144 (by decide)).trans hI4_25
  have hI4_26 := (hq 145 (by decide)).trans hI4_26
  have hlw : wm_lw b E5 (fun _ => false) (fun _ _ => (false, 0, 0)) := fun k hk => ⟨(hq _ (by omega)).trans (hlw k hk).1, (hq _ (by omega)).trans (hlw k hk).2.1, (hq _ (by omega)).trans (hlw k hk).2.2.1, (hq _ (by omega)).trans (hlw k hk).2.2.2⟩
  have hmc : ∀ k, k < 8 → E5 (103 + 2 * k) = .inr (2, [.ref (b + (104 + 2 * k)), .int (nI 1), .int (nI 0), .int (nI 0)]) ∧ E5 (104 + 2 * k) = wm_I C 192 (fun _ => 0) := fun k hk => ⟨(hq _ (by omega)).trans (hmc k hk).1, (hq _ (by omega)).trans (hmc k hk).2⟩
  have hP := wm_Pcg (n' := 147) hP (by omega)
  refine wm_Wcg (a := 147) (d := 436648) (by omega) (by omega) ?_
  refine lv_astore_n (lv' := [(3, .ref (b + 146)), (2, .ref (b + 119)), (1, .ref (b + 0)), (0, .ref a)]) X.1 X.2.1 dL_law_19 rfl hl (by decide) rfl (fun ls hl => ?_)
  refine lv_iconst (v := nI 0) X.1 X.2.1 dL_law_20 (by decide) ?_
  refine lv_istore (lv' := [(4, .int (nI 0)), (3, .ref (b + 146)), (2, .ref (b + 119)), (1, .ref (b + 0)), (0, .ref a)]) X.1 X.2.1 dL_law_21 hl (by decide) rfl (fun ls hl => ?_)
  have hC : wm_CI C b wm_S0 E5 := ⟨⟨hN1, hI2_1⟩, ⟨_, _, _, _, hI2_2, hI2_3⟩, hI2_4, ⟨⟨hI2_5, hI2_6, hI2_7, hI2_8, hlw⟩, wm_z00⟩, ⟨_, _, _, _, _, _, _, _, hI2_9, hI2_10, hI2_11, hI2_12, hI2_13, hI2_14, hI2_15⟩, ⟨_, _, _, _, hI2_16, hI2_17, hI2_18, Or.inl rfl⟩, hmc⟩
  have hM : wm_MI C b wm_S0 0 E5 := ⟨⟨_, _, _, _, _, _, _, _, hN3⟩, hI4_1, ⟨_, _, _, _, hI4_2, hI4_3, hI4_4, hI4_5, fun k hk => ⟨if_pos hk, rfl, rfl, fun _ _ _ _ => rfl⟩⟩, ⟨_, hI4_6⟩, ⟨_, _, _, _, _, _, _, _, hI4_7, hI4_8, hI4_9, hI4_10, hI4_11, hI4_12, hI4_13, hI4_14⟩, ⟨_, _, _, _, _, _, hI4_15, hI4_16, hI4_17, hI4_18, hI4_19, hI4_20⟩, ⟨_, hI4_21, Or.inl rfl⟩, ⟨_, _, _, _, _, hI4_22, hI4_23, hI4_24, hI4_25, hI4_26⟩⟩
  exact wm_loop V (by rw [hRe]; decide) (by rw [hRe]; decide) fin (L + 1) 0 (by omega) (by omega) _ _ _ _ wm_S0 0 _ ⟨hP, hS, hC, wm_BD0, hM, hN5⟩ (lv_sub hl [0, 4, 3, 2, 1] rfl)
