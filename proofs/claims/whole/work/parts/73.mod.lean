theorem wm_mO_x {b sz fa pl kl th : Nat} {E : Nat → va_E} (h : wm_mO b th sz fa pl kl E) : wm_mO b th sz fa pl kl E := h
theorem m_feed (l : Launch) (D : va_G) (C : Nat → ClassId) (b : Nat) (E : Nat → va_E) (S S' : wm_St) (th kc : Nat) (v : Nat) (x : Int32) (v0 : Nat) (hM : wm_MI C b S th E) (hB : wm_BD S) (ho : wo_feed S x v0 S' kc v) : Met l yX7_feed (wm_ws yX7_feed cX7_feed 5 (some .int)) { frames := 3, cells := 0, slots := 0, locals := 72 } (va_Pc [.ref (b + 119), .int x, .long (lN v0)] (wm_G D C b 147 E)) (va_Qi (fun r E' => ∃ v' : Nat, r = nI v' ∧ (kc = 0 → v' = v) ∧ wm_MI C b S' kc E' ∧ ∀ j, (j < 119 ∨ 146 ≤ j) → E' j = E j) (fun E' t => wm_P D b 147 E' t.heap) (wm_A b)) 0 0 (wm_A b) := by
  obtain ⟨⟨ats, aa, op, fi, la, wa, wc, be, h119⟩, h120, ⟨ar, ss, sa, se, h121, h122, h123, h124, hA⟩, ⟨na, h125⟩, ⟨ml, fo, pF, pL, rF, rL, pB, rB, h126, h127, h128, h129, h130, h131, h132, h133⟩, ⟨qs, qw, wb, wl, ws, sn, h134, h135, h136, h137, h138, h139⟩, ⟨kp, h140, hkp⟩, ⟨e1, e2, fn, bk, mk, h141, h142, h143, h144, h145⟩⟩ := id hM
  rcases ho with ⟨rfl, rfl, hk⟩ | ⟨rfl, k, hk1, hk2, rfl, hg⟩
  · refine wm_wi (kmfeedX l D C b 147 E _ _ _ _ _ _ _ _ _ _ _ _ _ _ _ (by omega) h119 hk) ⟨Nat.le_of_ble_eq_true rfl, Nat.le_of_ble_eq_true rfl⟩ (fun r E' h => ?_)
    obtain ⟨q0, q1, q2⟩ := h
    exact ⟨_, q0, (fun h => absurd h (by decide)), hM.o ⟨_, _, _, _, _, _, _, _, q1⟩ (fun j _ _ => q2 j (by omega)), fun j hj => q2 j (by omega)⟩
  · rcases hg with ⟨hc, rfl, rfl⟩ | ⟨hc, rfl, rfl⟩
    · refine wm_wi (kmfeed0 l D C b 147 E _ _ _ _ _ _ _ _ _ _ _ _ _ _ _ (by omega) h119 ⟨hk1, hk2⟩ hB.1 hc) ⟨Nat.le_of_ble_eq_true rfl, Nat.le_of_ble_eq_true rfl⟩ (fun r E' h => ?_)
      obtain ⟨q0, q1, q2⟩ := h
      exact ⟨_, q0, fun _ => rfl, hM.o ⟨_, _, _, _, _, _, _, _, q1⟩ (fun j _ _ => q2 j (by omega)), fun j hj => q2 j (by omega)⟩
    · refine wm_wi (kmfeed1 l D C b 147 E _ _ _ _ _ _ _ _ _ _ _ _ _ _ _ _ (by omega) h119 (by omega) h120 ⟨hk1, hk2⟩ hc) ⟨Nat.le_of_ble_eq_true rfl, Nat.le_of_ble_eq_true rfl⟩ (fun r E' h => ?_)
      obtain ⟨q0, q1, q2, q3⟩ := h
      exact ⟨_, q0, fun _ => rfl, ⟨⟨_, _, _, _, _, _, _, _, q1⟩, q2, hM.2.2.1.cg (fun j _ _ => q3 j (by omega) (by omega)), hM.2.2.2.1.cg (q3 _ (by omega) (by omega)), hM.2.2.2.2.1.cg (fun j _ _ => q3 j (by omega) (by omega)), hM.2.2.2.2.2.1.cg (fun j _ _ => q3 j (by omega) (by omega)), hM.2.2.2.2.2.2.1.cg (q3 _ (by omega) (by omega)), hM.2.2.2.2.2.2.2.cg (fun j _ _ => q3 j (by omega) (by omega))⟩, fun j hj => q3 j (by omega) (by omega)⟩
theorem m_read (l : Launch) (D : va_G) (C : Nat → ClassId) (b : Nat) (E : Nat → va_E) (S S' : wm_St) (th kc : Nat) (v : Nat) (x : Int32) (hM : wm_MI C b S th E) (hB : wm_BD S) (ho : wo_read S x S' kc v) (hz : wm_zb (wm_z0 S.2.2.2.2)) : Met l yX7_read (wm_ws yX7_read cX7_read 6 (some .int)) { frames := 3, cells := 0, slots := 0, locals := 72 } (va_Pc [.ref (b + 119), .int x] (wm_G D C b 147 E)) (va_Qi (fun r E' => ∃ v' : Nat, r = nI v' ∧ (kc = 0 → v' = v) ∧ wm_MI C b S' kc E' ∧ ∀ j, (j < 119 ∨ 146 ≤ j) → E' j = E j) (fun E' t => wm_P D b 147 E' t.heap) (wm_A b)) 0 0 (wm_A b) := by
  obtain ⟨⟨ats, aa, op, fi, la, wa, wc, be, h119⟩, h120, ⟨ar, ss, sa, se, h121, h122, h123, h124, hA⟩, ⟨na, h125⟩, ⟨ml, fo, pF, pL, rF, rL, pB, rB, h126, h127, h128, h129, h130, h131, h132, h133⟩, ⟨qs, qw, wb, wl, ws, sn, h134, h135, h136, h137, h138, h139⟩, ⟨kp, h140, hkp⟩, ⟨e1, e2, fn, bk, mk, h141, h142, h143, h144, h145⟩⟩ := id hM
  rcases ho with ⟨rfl, rfl, hk⟩ | ⟨rfl, k, hkk, rfl, hg⟩
  · refine wm_wi (kmreadX l D C b 147 E _ _ _ _ _ _ _ _ _ _ _ _ _ _ (by omega) h119 hk) ⟨Nat.le_of_ble_eq_true rfl, Nat.le_of_ble_eq_true rfl⟩ (fun r E' h => ?_)
    obtain ⟨q0, q1, q2⟩ := h
    exact ⟨_, q0, (fun h => absurd h (by decide)), hM.o ⟨_, _, _, _, _, _, _, _, q1⟩ (fun j _ _ => q2 j (by omega)), fun j hj => q2 j (by omega)⟩
  · rcases hg with ⟨hd, rfl, rfl⟩ | ⟨hd, rfl, g1, hw, rfl⟩
    · refine wm_wi (kmreadz0 l D C b 147 E _ _ _ _ _ _ _ _ _ _ _ _ _ _ S.2.2.2.2 _ _ _ _ _ _ _ _ _ (by omega) h119 (by omega) h120 (by omega) h126 (by omega) h127 (by omega) h128 (by omega) h129 (by omega) h130 (by omega) h131 (by omega) h132 (by omega) h133 hkk hB.1 hB.2.1 hz hd) ⟨Nat.le_of_ble_eq_true rfl, Nat.le_of_ble_eq_true rfl⟩ (fun r E' h => ?_)
      obtain ⟨aav, atv, opv, bev, fiv, lav, mlv, fov, pBv, pFv, pLv, rBv, rFv, rLv, q0, q1, q2, q3, q4, q5, q6, q7, q8, q9, qf⟩ := h
      exact ⟨_, q0, fun _ => rfl, ⟨⟨_, _, _, _, _, _, _, _, q1⟩, (qf 120 (by omega) (by omega) (by omega) (by omega) (by omega) (by omega) (by omega) (by omega) (by omega)).trans hM.2.1, hM.2.2.1.cg (fun j _ _ => qf j (by omega) (by omega) (by omega) (by omega) (by omega) (by omega) (by omega) (by omega) (by omega)), hM.2.2.2.1.cg (qf _ (by omega) (by omega) (by omega) (by omega) (by omega) (by omega) (by omega) (by omega) (by omega)), ⟨_, _, _, _, _, _, _, _, q2, q3, q4, q5, q6, q7, q8, q9⟩, hM.2.2.2.2.2.1.cg (fun j _ _ => qf j (by omega) (by omega) (by omega) (by omega) (by omega) (by omega) (by omega) (by omega) (by omega)), hM.2.2.2.2.2.2.1.cg (qf _ (by omega) (by omega) (by omega) (by omega) (by omega) (by omega) (by omega) (by omega) (by omega)), hM.2.2.2.2.2.2.2.cg (fun j _ _ => qf j (by omega) (by omega) (by omega) (by omega) (by omega) (by omega) (by omega) (by omega) (by omega))⟩, fun j hj => qf j (by omega) (by omega) (by omega) (by omega) (by omega) (by omega) (by omega) (by omega) (by omega)⟩
    · refine wm_wi (kmreadz1 l D C b 147 E _ _ _ _ _ _ _ _ _ _ _ _ _ _ S.2.2.2.2 _ _ _ _ _ _ _ _ _ _ _ _ _ _ (by omega) h119 (by omega) h120 (by omega) h126 (by omega) h127 (by omega) h128 (by omega) h129 (by omega) h130 (by omega) h131 (by omega) h132 (by omega) h133 (by omega) h121 (by omega) h122 (by omega) h123 (by omega) h124 (by omega) h125 hkk hB.1 hB.2.1 hz hd) ⟨Nat.le_of_ble_eq_true rfl, Nat.le_of_ble_eq_true rfl⟩ (fun r E' h => ?_)
      obtain ⟨aav, atv, opv, bev, fiv, lav, mlv, fov, pBv, pFv, pLv, rBv, rFv, rLv, ar1, na1, q0, q1, q2, q3, q4, q5, q6, q7, q8, q9, r1, r2, r3, r4, r5, qf, hna, hcp⟩ := h
      have hb := wm_read_mb hz hw
      exact ⟨_, q0, fun _ => rfl, ⟨⟨_, _, _, _, _, _, _, _, q1⟩, (qf 120 (by omega) (by omega) (by omega) (by omega) (by omega) (by omega) (by omega) (by omega) (by omega) (by omega) (by omega) (by omega) (by omega) (by omega)).trans hM.2.1, wm_mA.up (q := (_, 1, _, g1)) hA (fun i hi => (hB.2.2.1 i hi).2.1) hcp r1 r2 r3 r4 (wm_read_sm hb.2.1 hna hcp hw), ⟨_, r5⟩, ⟨_, _, _, _, _, _, _, _, q2, q3, q4, q5, q6, q7, q8, q9⟩, hM.2.2.2.2.2.1.cg (fun j _ _ => qf j (by omega) (by omega) (by omega) (by omega) (by omega) (by omega) (by omega) (by omega) (by omega) (by omega) (by omega) (by omega) (by omega) (by omega)), hM.2.2.2.2.2.2.1.cg (qf _ (by omega) (by omega) (by omega) (by omega) (by omega) (by omega) (by omega) (by omega) (by omega) (by omega) (by omega) (by omega) (by omega) (by omega)), hM.2.2.2.2.2.2.2.cg (fun j _ _ => qf j (by omega) (by omega) (by omega) (by omega) (by omega) (by omega) (by omega) (by omega) (by omega) (by omega) (by omega) (by omega) (by omega) (by omega))⟩, fun j hj => qf j (by omega) (by omega) (by omega) (by omega) (by omega) (by omega) (by omega) (by omega) (by omega) (by omega) (by omega) (by omega) (by omega) (by omega)⟩
theorem m_states (l : Launch) (D : va_G) (C : Nat → ClassId) (b : Nat) (E : Nat → va_E) (S S' : wm_St) (th kc : Nat) (v : Nat) (x : Int32) (hM : wm_MI C b S th E) (hB : wm_BD S) (ho : wo_states S x S' kc v) : Met l yX7_states (wm_ws yX7_states cX7_states 2 (some .int)) { frames := 3, cells := 0, slots := 0, locals := 72 } (va_Pc [.ref (b + 119), .int x] (wm_G D C b 147 E)) (va_Qi (fun r E' => ∃ v' : Nat, r = nI v' ∧ (kc = 0 → v' = v) ∧ wm_MI C b S' kc E' ∧ ∀ j, (j < 119 ∨ 146 ≤ j) → E' j = E j) (fun E' t => wm_P D b 147 E' t.heap) (wm_A b)) 0 0 (wm_A b) := by
  obtain ⟨⟨ats, aa, op, fi, la, wa, wc, be, h119⟩, h120, ⟨ar, ss, sa, se, h121, h122, h123, h124, hA⟩, ⟨na, h125⟩, ⟨ml, fo, pF, pL, rF, rL, pB, rB, h126, h127, h128, h129, h130, h131, h132, h133⟩, ⟨qs, qw, wb, wl, ws, sn, h134, h135, h136, h137, h138, h139⟩, ⟨kp, h140, hkp⟩, ⟨e1, e2, fn, bk, mk, h141, h142, h143, h144, h145⟩⟩ := id hM
  rcases ho with ⟨rfl, rfl, hk⟩ | ⟨rfl, k, hkk, rfl, rfl, rfl⟩
  · refine wm_wi (kmstatesX l D C b 147 E _ _ _ _ _ _ _ _ _ _ _ _ _ _ (by omega) h119 hk) ⟨Nat.le_of_ble_eq_true rfl, Nat.le_of_ble_eq_true rfl⟩ (fun r E' h => ?_)
    obtain ⟨q0, q1, q2⟩ := h
    exact ⟨_, q0, (fun h => absurd h (by decide)), hM.o ⟨_, _, _, _, _, _, _, _, q1⟩ (fun j _ _ => q2 j (by omega)), fun j hj => q2 j (by omega)⟩
  · refine wm_wi (kmstates1 l D C b 147 E _ _ _ _ _ _ _ _ _ _ _ _ _ _ _ (by omega) h119 (by omega) h122 hkk) ⟨Nat.le_of_ble_eq_true rfl, Nat.le_of_ble_eq_true rfl⟩ (fun r E' h => ?_)
    obtain ⟨q0, q1, q2⟩ := h
    exact ⟨_, q0, fun _ => (hA k hkk).1, hM.o ⟨_, _, _, _, _, _, _, _, q1⟩ (fun j _ _ => q2 j (by omega)), fun j hj => q2 j (by omega)⟩
theorem m_takes (l : Launch) (D : va_G) (C : Nat → ClassId) (b : Nat) (E : Nat → va_E) (S S' : wm_St) (th kc : Nat) (v : Bool) (x : Int32) (hM : wm_MI C b S th E) (hB : wm_BD S) (ho : wo_takes S x S' kc v) : Met l yX7_takes (wm_ws yX7_takes cX7_takes 4 (some .boolean)) { frames := 3, cells := 0, slots := 0, locals := 72 } (va_Pc [.ref (b + 119), .int x] (wm_G D C b 147 E)) (va_Qi (fun r E' => ∃ v' : Bool, r = nI v'.toNat ∧ (kc = 0 → v' = v) ∧ wm_MI C b S' kc E' ∧ ∀ j, (j < 119 ∨ 146 ≤ j) → E' j = E j) (fun E' t => wm_P D b 147 E' t.heap) (wm_A b)) 0 0 (wm_A b) := by
  obtain ⟨⟨ats, aa, op, fi, la, wa, wc, be, h119⟩, h120, ⟨ar, ss, sa, se, h121, h122, h123, h124, hA⟩, ⟨na, h125⟩, ⟨ml, fo, pF, pL, rF, rL, pB, rB, h126, h127, h128, h129, h130, h131, h132, h133⟩, ⟨qs, qw, wb, wl, ws, sn, h134, h135, h136, h137, h138, h139⟩, ⟨kp, h140, hkp⟩, ⟨e1, e2, fn, bk, mk, h141, h142, h143, h144, h145⟩⟩ := id hM
  rcases ho with ⟨rfl, rfl, hk⟩ | ⟨rfl, k, hkk, rfl, rfl, rfl⟩
  · refine wm_wi (kmtakesX l D C b 147 E _ _ _ _ _ _ _ _ _ _ _ _ _ _ (by omega) h119 hk) ⟨Nat.le_of_ble_eq_true rfl, Nat.le_of_ble_eq_true rfl⟩ (fun r E' h => ?_)
    obtain ⟨q0, q1, q2⟩ := h
    exact ⟨_, q0, (fun h => absurd h (by decide)), hM.o ⟨_, _, _, _, _, _, _, _, q1⟩ (fun j _ _ => q2 j (by omega)), fun j hj => q2 j (by omega)⟩
  · refine wm_wi (kmtakes1 l D C b 147 E _ _ _ _ _ _ _ _ _ _ _ _ _ _ _ _ _ _ _ (by omega) h119 (by omega) h120 (by omega) h121 (by omega) h122 (by omega) h123 (by omega) h124 hkk (by rw [(hA k hkk).1]; exact (hB.2.2.1 k hkk).2.1) hB.1 (by rw [(hA k hkk).2.1]; exact (hB.2.2.1 k hkk).s24) (by rw [(hA k hkk).2.2.1]; exact (hB.2.2.1 k hkk).e24) (fun i _ => hB.2.1 i) (fun a x ha hx => by rw [(hA k hkk).1] at hx; rw [(hA k hkk).2.2.2 a x ha hx]; exact (hB.2.2.1 k hkk).g24 a x ha hx)) ⟨Nat.le_of_ble_eq_true rfl, Nat.le_of_ble_eq_true rfl⟩ (fun r E' h => ?_)
    obtain ⟨q0, q1, q2⟩ := h
    exact ⟨_, q0, fun _ => (by rw [(hA k hkk).1, (hA k hkk).2.1, (hA k hkk).2.2.1]; exact (wm_tk_mt (hA k hkk).2.2.2 _ _ _).symm), hM.o ⟨_, _, _, _, _, _, _, _, q1⟩ (fun j _ _ => q2 j (by omega)), fun j hj => q2 j (by omega)⟩
theorem m_blank (l : Launch) (D : va_G) (C : Nat → ClassId) (b : Nat) (E : Nat → va_E) (S S' : wm_St) (th kc : Nat) (x : Int32) (y : Int32) (hM : wm_MI C b S th E) (hB : wm_BD S) (ho : wo_blank S x y S' kc) : Met l yX7_blank (wm_ws yX7_blank cX7_blank 3 none) { frames := 3, cells := 0, slots := 0, locals := 72 } (va_Pc [.ref (b + 119), .int x, .int y] (wm_G D C b 147 E)) (va_Qv (fun E' => wm_MI C b S' kc E' ∧ ∀ j, (j < 119 ∨ 146 ≤ j) → E' j = E j) (fun E' t => wm_P D b 147 E' t.heap) (wm_A b)) 0 0 (wm_A b) := by
  obtain ⟨⟨ats, aa, op, fi, la, wa, wc, be, h119⟩, h120, ⟨ar, ss, sa, se, h121, h122, h123, h124, hA⟩, ⟨na, h125⟩, ⟨ml, fo, pF, pL, rF, rL, pB, rB, h126, h127, h128, h129, h130, h131, h132, h133⟩, ⟨qs, qw, wb, wl, ws, sn, h134, h135, h136, h137, h138, h139⟩, ⟨kp, h140, hkp⟩, ⟨e1, e2, fn, bk, mk, h141, h142, h143, h144, h145⟩⟩ := id hM
  rcases ho with ⟨rfl, rfl, hk⟩ | ⟨rfl, rfl, k, hkk, rfl, hk⟩ | ⟨rfl, k, yy, hkk, rfl, hy1, hy2, rfl, g1, hg, rfl⟩
  · refine wm_wv (kmblankX l D C b 147 E _ _ _ _ _ _ _ _ _ _ _ _ _ _ _ (by omega) h119 hk) ⟨Nat.le_of_ble_eq_true rfl, Nat.le_of_ble_eq_true rfl⟩ (fun E' h => ?_)
    obtain ⟨q1, q2⟩ := h
    exact ⟨hM.o ⟨_, _, _, _, _, _, _, _, q1⟩ (fun j _ _ => q2 j (by omega)), fun j hj => q2 j (by omega)⟩
  · refine wm_wv (kmblankA l D C b 147 E _ _ _ _ _ _ _ _ _ _ _ _ _ _ _ (by omega) h119 hkk hk) ⟨Nat.le_of_ble_eq_true rfl, Nat.le_of_ble_eq_true rfl⟩ (fun E' h => ?_)
    obtain ⟨q1, q2⟩ := h
    exact ⟨hM.o ⟨_, _, _, _, _, _, _, _, q1⟩ (fun j _ _ => q2 j (by omega)), fun j hj => q2 j (by omega)⟩
  · refine wm_wv (kmblank1 l D C b 147 E _ _ _ _ _ _ _ _ _ _ _ _ _ _ _ _ _ _ _ _ (by omega) h119 (by omega) h121 (by omega) h122 (by omega) h123 (by omega) h124 (by omega) h125 hkk ⟨hy1, hy2⟩) ⟨Nat.le_of_ble_eq_true rfl, Nat.le_of_ble_eq_true rfl⟩ (fun E' h => ?_)
    obtain ⟨ar1, na1, q1, r1, r2, r3, r4, r5, qf, h0, hcp⟩ := h
    exact ⟨hM.m ⟨_, _, _, _, _, _, _, _, q1⟩ (wm_mA.up (q := (yy, 0, 0, g1)) hA (fun i hi => (hB.2.2.1 i hi).2.1) hcp r1 r2 r3 r4 (wm_blank_sm hy2 h0 hcp hg)) ⟨_, r5⟩ (fun j _ _ _ => qf j (by omega) (by omega) (by omega) (by omega) (by omega) (by omega)), fun j hj => qf j (by omega) (by omega) (by omega) (by omega) (by omega) (by omega)⟩
theorem m_mark (l : Launch) (D : va_G) (C : Nat → ClassId) (b : Nat) (E : Nat → va_E) (S S' : wm_St) (th kc : Nat) (x : Int32) (y : Int32) (z : Int32) (hM : wm_MI C b S th E) (hB : wm_BD S) (ho : wo_mark S x y z S' kc) : Met l yX7_mark (wm_ws yX7_mark cX7_mark 4 none) { frames := 3, cells := 0, slots := 0, locals := 72 } (va_Pc [.ref (b + 119), .int x, .int y, .int z] (wm_G D C b 147 E)) (va_Qv (fun E' => wm_MI C b S' kc E' ∧ ∀ j, (j < 119 ∨ 146 ≤ j) → E' j = E j) (fun E' t => wm_P D b 147 E' t.heap) (wm_A b)) 0 0 (wm_A b) := by
  obtain ⟨⟨ats, aa, op, fi, la, wa, wc, be, h119⟩, h120, ⟨ar, ss, sa, se, h121, h122, h123, h124, hA⟩, ⟨na, h125⟩, ⟨ml, fo, pF, pL, rF, rL, pB, rB, h126, h127, h128, h129, h130, h131, h132, h133⟩, ⟨qs, qw, wb, wl, ws, sn, h134, h135, h136, h137, h138, h139⟩, ⟨kp, h140, hkp⟩, ⟨e1, e2, fn, bk, mk, h141, h142, h143, h144, h145⟩⟩ := id hM
  rcases ho with ⟨rfl, rfl, hk | ⟨k, hkk, rfl, hk⟩⟩ | ⟨rfl, rfl, k, sv, hkk, rfl, hsv, rfl, hk⟩ | ⟨rfl, k, sv, zz, hkk, rfl, hsv, rfl, hz3, rfl, rfl⟩
  · refine wm_wv (kmmarkX l D C b 147 E _ _ _ _ _ _ _ _ _ _ _ _ _ _ _ _ (by omega) h119 hk) ⟨Nat.le_of_ble_eq_true rfl, Nat.le_of_ble_eq_true rfl⟩ (fun E' h => ?_)
    obtain ⟨q1, q2⟩ := h
    exact ⟨hM.o ⟨_, _, _, _, _, _, _, _, q1⟩ (fun j _ _ => q2 j (by omega)), fun j hj => q2 j (by omega)⟩
  · refine wm_wv (kmmarkS l D C b 147 E _ _ _ _ _ _ _ _ _ _ _ _ _ _ _ _ _ (by omega) h119 (by omega) h122 hkk (by rw [(hA k hkk).1]; exact hk)) ⟨Nat.le_of_ble_eq_true rfl, Nat.le_of_ble_eq_true rfl⟩ (fun E' h => ?_)
    obtain ⟨q1, q2⟩ := h
    exact ⟨hM.o ⟨_, _, _, _, _, _, _, _, q1⟩ (fun j _ _ => q2 j (by omega)), fun j hj => q2 j (by omega)⟩
  · refine wm_wv (kmmarkA l D C b 147 E _ _ _ _ _ _ _ _ _ _ _ _ _ _ _ _ _ (by omega) h119 (by omega) h122 hkk (by rw [(hA k hkk).1]; exact hsv) (by rw [(hA k hkk).1]; exact (hB.2.2.1 k hkk).2.1) hk) ⟨Nat.le_of_ble_eq_true rfl, Nat.le_of_ble_eq_true rfl⟩ (fun E' h => ?_)
    obtain ⟨q1, q2⟩ := h
    exact ⟨hM.o ⟨_, _, _, _, _, _, _, _, q1⟩ (fun j _ _ => q2 j (by omega)), fun j hj => q2 j (by omega)⟩
  · refine wm_wv (kmmark1 l D C b 147 E _ _ _ _ _ _ _ _ _ _ _ _ _ _ _ _ _ _ _ (by omega) h119 (by omega) h122 (by omega) h123 (by omega) h124 hkk (by rw [(hA k hkk).1]; exact hsv) (by rw [(hA k hkk).1]; exact (hB.2.2.1 k hkk).2.1) hz3) ⟨Nat.le_of_ble_eq_true rfl, Nat.le_of_ble_eq_true rfl⟩ (fun E' h => ?_)
    obtain ⟨q1, r3, r4, qf⟩ := h
    rw [(hA k hkk).2.1, ← (wm_mk1 zz (by omega)).1] at r3
    rw [(hA k hkk).2.2.1, ← (wm_mk1 zz (by omega)).2] at r4
    exact ⟨hM.m ⟨_, _, _, _, _, _, _, _, q1⟩ (wm_mA_mark hA hkk ((qf 121 (by omega) (by omega) (by omega)).trans h121) ((qf 122 (by omega) (by omega) (by omega)).trans h122) r3 r4) (hM.2.2.2.1.cg (qf _ (by omega) (by omega) (by omega))) (fun j _ _ _ => qf j (by omega) (by omega) (by omega)), fun j hj => qf j (by omega) (by omega) (by omega)⟩
theorem m_arc (l : Launch) (D : va_G) (C : Nat → ClassId) (b : Nat) (E : Nat → va_E) (S S' : wm_St) (th kc : Nat) (v : Bool) (x : Int32) (y : Int32) (z : Int32) (w : Int32) (v0 : Bool) (hM : wm_MI C b S th E) (hB : wm_BD S) (ho : wo_arc S x y z w v0 S' kc v) : Met l yX7_arc (wm_ws yX7_arc cX7_arc 7 (some .boolean)) { frames := 3, cells := 0, slots := 0, locals := 72 } (va_Pc [.ref (b + 119), .int x, .int y, .int z, .int w, .int (nI v0.toNat)] (wm_G D C b 147 E)) (va_Qi (fun r E' => ∃ v' : Bool, r = nI v'.toNat ∧ (kc = 0 → v' = v) ∧ wm_MI C b S' kc E' ∧ ∀ j, (j < 119 ∨ 146 ≤ j) → E' j = E j) (fun E' t => wm_P D b 147 E' t.heap) (wm_A b)) 0 0 (wm_A b) := by
  obtain ⟨⟨ats, aa, op, fi, la, wa, wc, be, h119⟩, h120, ⟨ar, ss, sa, se, h121, h122, h123, h124, hA⟩, ⟨na, h125⟩, ⟨ml, fo, pF, pL, rF, rL, pB, rB, h126, h127, h128, h129, h130, h131, h132, h133⟩, ⟨qs, qw, wb, wl, ws, sn, h134, h135, h136, h137, h138, h139⟩, ⟨kp, h140, hkp⟩, ⟨e1, e2, fn, bk, mk, h141, h142, h143, h144, h145⟩⟩ := id hM
  rcases ho with ⟨rfl, rfl, hk | ⟨k, hkk, rfl, hk | ⟨sv, hsv, rfl, hk⟩⟩⟩ | ⟨rfl, rfl, k, sv, sw, hkk, rfl, hsv, rfl, hsw, rfl, hk⟩ | ⟨rfl, k, sv, lr, sw, hkk, rfl, hsv, rfl, hlr, rfl, hsw, rfl, rfl, rfl⟩
  · refine wm_wi (kmarcX l D C b 147 E _ _ _ _ _ _ _ _ _ _ _ _ _ _ _ _ _ _ (by omega) h119 hk) ⟨Nat.le_of_ble_eq_true rfl, Nat.le_of_ble_eq_true rfl⟩ (fun r E' h => ?_)
    obtain ⟨q0, q1, q2⟩ := h
    exact ⟨_, q0, (fun h => absurd h (by decide)), hM.o ⟨_, _, _, _, _, _, _, _, q1⟩ (fun j _ _ => q2 j (by omega)), fun j hj => q2 j (by omega)⟩
  · refine wm_wi (kmarcS l D C b 147 E _ _ _ _ _ _ _ _ _ _ _ _ _ _ _ _ _ _ _ (by omega) h119 (by omega) h122 hkk (by rw [(hA k hkk).1]; exact hk)) ⟨Nat.le_of_ble_eq_true rfl, Nat.le_of_ble_eq_true rfl⟩ (fun r E' h => ?_)
    obtain ⟨q0, q1, q2⟩ := h
    exact ⟨_, q0, (fun h => absurd h (by decide)), hM.o ⟨_, _, _, _, _, _, _, _, q1⟩ (fun j _ _ => q2 j (by omega)), fun j hj => q2 j (by omega)⟩
  · refine wm_wi (kmarcT l D C b 147 E _ _ _ _ _ _ _ _ _ _ _ _ _ _ _ _ _ _ _ (by omega) h119 (by omega) h122 hkk (by rw [(hA k hkk).1]; exact hsv) (by rw [(hA k hkk).1]; exact (hB.2.2.1 k hkk).2.1) (by rw [(hA k hkk).1]; exact hk)) ⟨Nat.le_of_ble_eq_true rfl, Nat.le_of_ble_eq_true rfl⟩ (fun r E' h => ?_)
    obtain ⟨q0, q1, q2⟩ := h
    exact ⟨_, q0, (fun h => absurd h (by decide)), hM.o ⟨_, _, _, _, _, _, _, _, q1⟩ (fun j _ _ => q2 j (by omega)), fun j hj => q2 j (by omega)⟩
  · refine wm_wi (kmarcA l D C b 147 E _ _ _ _ _ _ _ _ _ _ _ _ _ _ _ _ _ _ _ (by omega) h119 (by omega) h122 hkk (by rw [(hA k hkk).1]; exact hsv) (by rw [(hA k hkk).1]; exact (hB.2.2.1 k hkk).2.1) (by rw [(hA k hkk).1]; exact hsw) hk) ⟨Nat.le_of_ble_eq_true rfl, Nat.le_of_ble_eq_true rfl⟩ (fun r E' h => ?_)
    obtain ⟨q0, q1, q2⟩ := h
    exact ⟨_, q0, (fun h => absurd h (by decide)), hM.o ⟨_, _, _, _, _, _, _, _, q1⟩ (fun j _ _ => q2 j (by omega)), fun j hj => q2 j (by omega)⟩
  · refine wm_wi (kmarc1 l D C b 147 E _ _ _ _ _ _ _ _ _ _ _ _ _ _ _ _ _ _ _ _ (by omega) h119 (by omega) h122 (by omega) h121 hkk (by rw [(hA k hkk).1]; exact hsv) (by rw [(hA k hkk).1]; exact (hB.2.2.1 k hkk).2.1) (by rw [(hA k hkk).1]; exact hsw) hlr (by rw [(hA k hkk).2.2.2 lr sv hlr hsv]; exact Nat.lt_trans ((hB.2.2.1 k hkk).g24 lr sv hlr hsv) (by decide))) ⟨Nat.le_of_ble_eq_true rfl, Nat.le_of_ble_eq_true rfl⟩ (fun r E' h => ?_)
    obtain ⟨q0, q1, r1, qf⟩ := h
    rw [(hA k hkk).2.2.2 lr sv hlr hsv] at q0 r1
    exact ⟨_, q0, fun _ => rfl, hM.m ⟨_, _, _, _, _, _, _, _, q1⟩ (wm_mA_arc hA (fun i hi => (hB.2.2.1 i hi).2.1) hkk hlr hsv r1 ((qf 122 (by omega) (by omega)).trans h122) ((qf 123 (by omega) (by omega)).trans h123) ((qf 124 (by omega) (by omega)).trans h124)) (hM.2.2.2.1.cg (qf _ (by omega) (by omega))) (fun j _ _ _ => qf j (by omega) (by omega)), fun j hj => qf j (by omega) (by omega)⟩
theorem m_arcs (l : Launch) (D : va_G) (C : Nat → ClassId) (b : Nat) (E : Nat → va_E) (S S' : wm_St) (th kc : Nat) (v : Nat) (x : Int32) (y : Int32) (z : Int32) (hM : wm_MI C b S th E) (hB : wm_BD S) (ho : wo_arcs S x y z S' kc v) : Met l yX7_arcs (wm_ws yX7_arcs cX7_arcs 4 (some .int)) { frames := 3, cells := 0, slots := 0, locals := 72 } (va_Pc [.ref (b + 119), .int x, .int y, .int z] (wm_G D C b 147 E)) (va_Qi (fun r E' => ∃ v' : Nat, r = nI v' ∧ (kc = 0 → v' = v) ∧ wm_MI C b S' kc E' ∧ ∀ j, (j < 119 ∨ 146 ≤ j) → E' j = E j) (fun E' t => wm_P D b 147 E' t.heap) (wm_A b)) 0 0 (wm_A b) := by
  obtain ⟨⟨ats, aa, op, fi, la, wa, wc, be, h119⟩, h120, ⟨ar, ss, sa, se, h121, h122, h123, h124, hA⟩, ⟨na, h125⟩, ⟨ml, fo, pF, pL, rF, rL, pB, rB, h126, h127, h128, h129, h130, h131, h132, h133⟩, ⟨qs, qw, wb, wl, ws, sn, h134, h135, h136, h137, h138, h139⟩, ⟨kp, h140, hkp⟩, ⟨e1, e2, fn, bk, mk, h141, h142, h143, h144, h145⟩⟩ := id hM
  rcases ho with ⟨rfl, rfl, hk | ⟨k, hkk, rfl, hk⟩⟩ | ⟨rfl, rfl, k, sv, hkk, rfl, hsv, rfl, hk⟩ | ⟨rfl, k, sv, lr, hkk, rfl, hsv, rfl, hlr, rfl, rfl, rfl⟩
  · refine wm_wi (kmarcsX l D C b 147 E _ _ _ _ _ _ _ _ _ _ _ _ _ _ _ _ (by omega) h119 hk) ⟨Nat.le_of_ble_eq_true rfl, Nat.le_of_ble_eq_true rfl⟩ (fun r E' h => ?_)
    obtain ⟨q0, q1, q2⟩ := h
    exact ⟨_, q0, (fun h => absurd h (by decide)), hM.o ⟨_, _, _, _, _, _, _, _, q1⟩ (fun j _ _ => q2 j (by omega)), fun j hj => q2 j (by omega)⟩
  · refine wm_wi (kmarcsS l D C b 147 E _ _ _ _ _ _ _ _ _ _ _ _ _ _ _ _ _ (by omega) h119 (by omega) h122 hkk (by rw [(hA k hkk).1]; exact hk)) ⟨Nat.le_of_ble_eq_true rfl, Nat.le_of_ble_eq_true rfl⟩ (fun r E' h => ?_)
    obtain ⟨q0, q1, q2⟩ := h
    exact ⟨_, q0, (fun h => absurd h (by decide)), hM.o ⟨_, _, _, _, _, _, _, _, q1⟩ (fun j _ _ => q2 j (by omega)), fun j hj => q2 j (by omega)⟩
  · refine wm_wi (kmarcsA l D C b 147 E _ _ _ _ _ _ _ _ _ _ _ _ _ _ _ _ _ (by omega) h119 (by omega) h122 hkk (by rw [(hA k hkk).1]; exact hsv) (by rw [(hA k hkk).1]; exact (hB.2.2.1 k hkk).2.1) hk) ⟨Nat.le_of_ble_eq_true rfl, Nat.le_of_ble_eq_true rfl⟩ (fun r E' h => ?_)
    obtain ⟨q0, q1, q2⟩ := h
    exact ⟨_, q0, (fun h => absurd h (by decide)), hM.o ⟨_, _, _, _, _, _, _, _, q1⟩ (fun j _ _ => q2 j (by omega)), fun j hj => q2 j (by omega)⟩
  · refine wm_wi (kmarcs1 l D C b 147 E _ _ _ _ _ _ _ _ _ _ _ _ _ _ _ _ _ _ _ _ (by omega) h119 (by omega) h121 (by omega) h122 (by omega) h123 (by omega) h124 hkk (by rw [(hA k hkk).1]; exact hsv) (by rw [(hA k hkk).1]; exact (hB.2.2.1 k hkk).2.1) hlr (by rw [(hA k hkk).2.1]; exact (hB.2.2.1 k hkk).s24) (by rw [(hA k hkk).2.2.1]; exact (hB.2.2.1 k hkk).e24)) ⟨Nat.le_of_ble_eq_true rfl, Nat.le_of_ble_eq_true rfl⟩ (fun r E' h => ?_)
    obtain ⟨q0, q1, q2⟩ := h
    exact ⟨_, q0, fun _ => (by rw [(hA k hkk).2.1, (hA k hkk).2.2.1]; exact wm_arcs_eq (hA k hkk).2.2.2 hsv hlr), hM.o ⟨_, _, _, _, _, _, _, _, q1⟩ (fun j _ _ => q2 j (by omega)), fun j hj => q2 j (by omega)⟩
theorem m_turn (l : Launch) (D : va_G) (C : Nat → ClassId) (b : Nat) (E : Nat → va_E) (S S' : wm_St) (th kc : Nat) (x : Int32) (y : Int32) (hM : wm_MI C b S th E) (hB : wm_BD S) (ho : wo_turn S x y S' kc) : Met l yX7_turn (wm_ws yX7_turn cX7_turn 7 none) { frames := 3, cells := 0, slots := 0, locals := 72 } (va_Pc [.ref (b + 119), .int x, .int y] (wm_G D C b 147 E)) (va_Qv (fun E' => wm_MI C b S' kc E' ∧ ∀ j, (j < 119 ∨ 146 ≤ j) → E' j = E j) (fun E' t => wm_P D b 147 E' t.heap) (wm_A b)) 0 0 (wm_A b) := by
  obtain ⟨⟨ats, aa, op, fi, la, wa, wc, be, h119⟩, h120, ⟨ar, ss, sa, se, h121, h122, h123, h124, hA⟩, ⟨na, h125⟩, ⟨ml, fo, pF, pL, rF, rL, pB, rB, h126, h127, h128, h129, h130, h131, h132, h133⟩, ⟨qs, qw, wb, wl, ws, sn, h134, h135, h136, h137, h138, h139⟩, ⟨kp, h140, hkp⟩, ⟨e1, e2, fn, bk, mk, h141, h142, h143, h144, h145⟩⟩ := id hM
  rcases ho with ⟨rfl, rfl, hk⟩ | ⟨rfl, k, i, hkk, rfl, hii, rfl, g1, g3, hbt, h13, rfl⟩
  · by_cases hc : 0 ≤ x ∧ x < nI 8
    · obtain ⟨k, hkk, rfl⟩ := wm_lt_n (by decide) hc
      have hk : wm_no8 y := hk.elim (fun q => absurd hc q) id
      refine wm_wv (kmturnY l D C b 147 E _ _ _ _ _ _ _ _ _ _ _ _ _ _ _ (by omega) h119 hkk hk) ⟨Nat.le_of_ble_eq_true rfl, Nat.le_of_ble_eq_true rfl⟩ (fun E' h => ?_)
      obtain ⟨q1, q2⟩ := h
      exact ⟨hM.o ⟨_, _, _, _, _, _, _, _, q1⟩ (fun j _ _ => q2 j (by omega)), fun j hj => q2 j (by omega)⟩
    · refine wm_wv (kmturnX l D C b 147 E _ _ _ _ _ _ _ _ _ _ _ _ _ _ _ (by omega) h119 hc) ⟨Nat.le_of_ble_eq_true rfl, Nat.le_of_ble_eq_true rfl⟩ (fun E' h => ?_)
      obtain ⟨q1, q2⟩ := h
      exact ⟨hM.o ⟨_, _, _, _, _, _, _, _, q1⟩ (fun j _ _ => q2 j (by omega)), fun j hj => q2 j (by omega)⟩
  · refine wm_wv (kmturn1 l D C b 147 E _ _ _ _ _ _ _ _ _ _ _ _ _ _ _ _ _ _ _ _ (by omega) h119 (by omega) h121 (by omega) h122 (by omega) h123 (by omega) h124 (by omega) h125 hkk hii (by rw [(hA i hii).1]; exact (hB.2.2.1 i hii).2.1) (fun a x ha hx => by rw [(hA i hii).1] at hx; rw [(hA i hii).2.2.2 a x ha hx]; exact Nat.lt_trans ((hB.2.2.1 i hii).g24 a x ha hx) (by decide))) ⟨Nat.le_of_ble_eq_true rfl, Nat.le_of_ble_eq_true rfl⟩ (fun E' h => ?_)
    obtain ⟨ar1, na1, q1, r1, r2, r3, r4, r5, qf, ht3, hcp⟩ := h
    rw [(hA i hii).1] at r2 ht3
    rw [(hA i hii).2.2.1] at r3
    rw [(hA i hii).2.1] at r4
    exact ⟨hM.m ⟨_, _, _, _, _, _, _, _, q1⟩ (wm_mA.up (q := ((S.1 i).1, (S.1 i).2.2.1, (S.1 i).2.1, g1)) hA (fun i hi => (hB.2.2.1 i hi).2.1) hcp r1 r2 r3 r4 (wm_turn_sm (hA i hii).2.2.2 (hB.2.2.1 i hii).2.1 (hB.2.2.1 i hii).2.2.2.2 hbt h13 ht3 hcp)) ⟨_, r5⟩ (fun j _ _ _ => qf j (by omega) (by omega) (by omega) (by omega) (by omega) (by omega)), fun j hj => qf j (by omega) (by omega) (by omega) (by omega) (by omega) (by omega)⟩
theorem m_either (l : Launch) (D : va_G) (C : Nat → ClassId) (b : Nat) (E : Nat → va_E) (S S' : wm_St) (th kc : Nat) (v : Nat) (x : Int32) (y : Int32) (z : Int32) (hM : wm_MI C b S th E) (hB : wm_BD S) (ho : wo_either S x y z S' kc v) : Met l yX7_either (wm_ws yX7_either cX7_either 8 (some .int)) { frames := 3, cells := 0, slots := 0, locals := 72 } (va_Pc [.ref (b + 119), .int x, .int y, .int z] (wm_G D C b 147 E)) (va_Qi (fun r E' => ∃ v' : Nat, r = nI v' ∧ (kc = 0 → v' = v) ∧ wm_MI C b S' kc E' ∧ ∀ j, (j < 119 ∨ 146 ≤ j) → E' j = E j) (fun E' t => wm_P D b 147 E' t.heap) (wm_A b)) 0 0 (wm_A b) := by
  obtain ⟨⟨ats, aa, op, fi, la, wa, wc, be, h119⟩, h120, ⟨ar, ss, sa, se, h121, h122, h123, h124, hA⟩, ⟨na, h125⟩, ⟨ml, fo, pF, pL, rF, rL, pB, rB, h126, h127, h128, h129, h130, h131, h132, h133⟩, ⟨qs, qw, wb, wl, ws, sn, h134, h135, h136, h137, h138, h139⟩, ⟨kp, h140, hkp⟩, ⟨e1, e2, fn, bk, mk, h141, h142, h143, h144, h145⟩⟩ := id hM
  rcases ho with ⟨rfl, rfl, hk⟩ | ⟨rfl, k, i, jj, hkk, rfl, hii, rfl, hjj, rfl, hg⟩
  · by_cases hc : 0 ≤ x ∧ x < nI 8
    · obtain ⟨k, hkk, rfl⟩ := wm_lt_n (by decide) hc
      by_cases hd : 0 ≤ y ∧ y < nI 8
      · obtain ⟨i, hii, rfl⟩ := wm_lt_n (by decide) hd
        have hk : wm_no8 z := hk.elim (fun q => absurd hc q) (fun q => q.elim (fun q => absurd hd q) id)
        refine wm_wi (kmeitherZ l D C b 147 E _ _ _ _ _ _ _ _ _ _ _ _ _ _ _ _ (by omega) h119 hkk hii hk) ⟨Nat.le_of_ble_eq_true rfl, Nat.le_of_ble_eq_true rfl⟩ (fun r E' h => ?_)
        obtain ⟨q0, q1, q2⟩ := h
        exact ⟨_, q0, (fun h => absurd h (by decide)), hM.o ⟨_, _, _, _, _, _, _, _, q1⟩ (fun j _ _ => q2 j (by omega)), fun j hj => q2 j (by omega)⟩
      · refine wm_wi (kmeitherY l D C b 147 E _ _ _ _ _ _ _ _ _ _ _ _ _ _ _ _ (by omega) h119 hkk hd) ⟨Nat.le_of_ble_eq_true rfl, Nat.le_of_ble_eq_true rfl⟩ (fun r E' h => ?_)
        obtain ⟨q0, q1, q2⟩ := h
        exact ⟨_, q0, (fun h => absurd h (by decide)), hM.o ⟨_, _, _, _, _, _, _, _, q1⟩ (fun j _ _ => q2 j (by omega)), fun j hj => q2 j (by omega)⟩
    · refine wm_wi (kmeitherX l D C b 147 E _ _ _ _ _ _ _ _ _ _ _ _ _ _ _ _ (by omega) h119 hc) ⟨Nat.le_of_ble_eq_true rfl, Nat.le_of_ble_eq_true rfl⟩ (fun r E' h => ?_)
      obtain ⟨q0, q1, q2⟩ := h
      exact ⟨_, q0, (fun h => absurd h (by decide)), hM.o ⟨_, _, _, _, _, _, _, _, q1⟩ (fun j _ _ => q2 j (by omega)), fun j hj => q2 j (by omega)⟩
  · rcases hg with ⟨hc, rfl, rfl⟩ | ⟨hc, rfl, g1, g3, hbb, h13, rfl⟩
    · refine wm_wi (kmeither0 l D C b 147 E _ _ _ _ _ _ _ _ _ _ _ _ _ _ _ _ _ (by omega) h119 (by omega) h122 hkk hii hjj (by rw [(hA i hii).1]; exact (hB.2.2.1 i hii).2.1) (by rw [(hA jj hjj).1]; exact (hB.2.2.1 jj hjj).2.1) (by rw [(hA i hii).1, (hA jj hjj).1]; exact hc)) ⟨Nat.le_of_ble_eq_true rfl, Nat.le_of_ble_eq_true rfl⟩ (fun r E' h => ?_)
      obtain ⟨q0, q1, q2⟩ := h
      exact ⟨_, q0, fun _ => rfl, hM.o ⟨_, _, _, _, _, _, _, _, q1⟩ (fun j _ _ => q2 j (by omega)), fun j hj => q2 j (by omega)⟩
    · refine wm_wi (kmeither1 l D C b 147 E _ _ _ _ _ _ _ _ _ _ _ _ _ _ _ _ _ _ _ _ _ (by omega) h119 (by omega) h121 (by omega) h122 (by omega) h123 (by omega) h124 (by omega) h125 hkk hii hjj (by rw [(hA i hii).1]; exact (hB.2.2.1 i hii).2.1) (by rw [(hA jj hjj).1]; exact (hB.2.2.1 jj hjj).2.1) (by rw [(hA i hii).1, (hA jj hjj).1]; exact hc)) ⟨Nat.le_of_ble_eq_true rfl, Nat.le_of_ble_eq_true rfl⟩ (fun r E' h => ?_)
      obtain ⟨ar1, na1, q0, q1, r1, r2, r3, r4, r5, qf, ht2, hcp⟩ := h
      rw [(hA i hii).1, (hA jj hjj).1] at r2 q0
      rw [(hA i hii).1, (hA i hii).2.1, (hA jj hjj).2.1] at r3
      rw [(hA i hii).1, (hA i hii).2.2.1, (hA jj hjj).2.2.1] at r4
      rw [(hA i hii).1, (hA jj hjj).1] at ht2
      exact ⟨_, q0, fun _ => rfl, hM.m ⟨_, _, _, _, _, _, _, _, q1⟩ (wm_mA.up (q := ((S.1 i).1 + (S.1 jj).1, (S.1 i).2.1 ||| (S.1 jj).2.1 <<< (S.1 i).1, (S.1 i).2.2.1 ||| (S.1 jj).2.2.1 <<< (S.1 i).1, g1)) hA (fun i hi => (hB.2.2.1 i hi).2.1) hcp r1 r2 r3 r4 (wm_either_sm (hA i hii).2.2.2 (hA jj hjj).2.2.2 hc hbb h13 ht2 hcp)) ⟨_, r5⟩ (fun j _ _ _ => qf j (by omega) (by omega) (by omega) (by omega) (by omega) (by omega)), fun j hj => qf j (by omega) (by omega) (by omega) (by omega) (by omega) (by omega)⟩
theorem m_both (l : Launch) (D : va_G) (C : Nat → ClassId) (b : Nat) (E : Nat → va_E) (S S' : wm_St) (th kc : Nat) (v : Nat) (x : Int32) (y : Int32) (z : Int32) (hM : wm_MI C b S th E) (hB : wm_BD S) (ho : wo_both S x y z S' kc v) : Met l yX7_both (wm_ws yX7_both cX7_both 8 (some .int)) { frames := 3, cells := 0, slots := 0, locals := 72 } (va_Pc [.ref (b + 119), .int x, .int y, .int z] (wm_G D C b 147 E)) (va_Qi (fun r E' => ∃ v' : Nat, r = nI v' ∧ (kc = 0 → v' = v) ∧ wm_MI C b S' kc E' ∧ ∀ j, (j < 119 ∨ 146 ≤ j) → E' j = E j) (fun E' t => wm_P D b 147 E' t.heap) (wm_A b)) 0 0 (wm_A b) := by
  obtain ⟨⟨ats, aa, op, fi, la, wa, wc, be, h119⟩, h120, ⟨ar, ss, sa, se, h121, h122, h123, h124, hA⟩, ⟨na, h125⟩, ⟨ml, fo, pF, pL, rF, rL, pB, rB, h126, h127, h128, h129, h130, h131, h132, h133⟩, ⟨qs, qw, wb, wl, ws, sn, h134, h135, h136, h137, h138, h139⟩, ⟨kp, h140, hkp⟩, ⟨e1, e2, fn, bk, mk, h141, h142, h143, h144, h145⟩⟩ := id hM
  rcases ho with ⟨rfl, rfl, hk⟩ | ⟨rfl, k, i, jj, hkk, rfl, hii, rfl, hjj, rfl, hg⟩
  · by_cases hc : 0 ≤ x ∧ x < nI 8
    · obtain ⟨k, hkk, rfl⟩ := wm_lt_n (by decide) hc
      by_cases hd : 0 ≤ y ∧ y < nI 8
      · obtain ⟨i, hii, rfl⟩ := wm_lt_n (by decide) hd
        have hk : wm_no8 z := hk.elim (fun q => absurd hc q) (fun q => q.elim (fun q => absurd hd q) id)
        refine wm_wi (kmbothZ l D C b 147 E _ _ _ _ _ _ _ _ _ _ _ _ _ _ _ _ (by omega) h119 hkk hii hk) ⟨Nat.le_of_ble_eq_true rfl, Nat.le_of_ble_eq_true rfl⟩ (fun r E' h => ?_)
        obtain ⟨q0, q1, q2⟩ := h
        exact ⟨_, q0, (fun h => absurd h (by decide)), hM.o ⟨_, _, _, _, _, _, _, _, q1⟩ (fun j _ _ => q2 j (by omega)), fun j hj => q2 j (by omega)⟩
      · refine wm_wi (kmbothY l D C b 147 E _ _ _ _ _ _ _ _ _ _ _ _ _ _ _ _ (by omega) h119 hkk hd) ⟨Nat.le_of_ble_eq_true rfl, Nat.le_of_ble_eq_true rfl⟩ (fun r E' h => ?_)
        obtain ⟨q0, q1, q2⟩ := h
        exact ⟨_, q0, (fun h => absurd h (by decide)), hM.o ⟨_, _, _, _, _, _, _, _, q1⟩ (fun j _ _ => q2 j (by omega)), fun j hj => q2 j (by omega)⟩
    · refine wm_wi (kmbothX l D C b 147 E _ _ _ _ _ _ _ _ _ _ _ _ _ _ _ _ (by omega) h119 hc) ⟨Nat.le_of_ble_eq_true rfl, Nat.le_of_ble_eq_true rfl⟩ (fun r E' h => ?_)
      obtain ⟨q0, q1, q2⟩ := h
      exact ⟨_, q0, (fun h => absurd h (by decide)), hM.o ⟨_, _, _, _, _, _, _, _, q1⟩ (fun j _ _ => q2 j (by omega)), fun j hj => q2 j (by omega)⟩
  · rcases hg with ⟨hc, rfl, rfl⟩ | ⟨hc, rfl, g1, g3, hbb, h13, rfl⟩
    · refine wm_wi (kmboth0 l D C b 147 E _ _ _ _ _ _ _ _ _ _ _ _ _ _ _ _ _ (by omega) h119 (by omega) h122 hkk hii hjj (by rw [(hA i hii).1]; exact (hB.2.2.1 i hii).2.1) (by rw [(hA jj hjj).1]; exact (hB.2.2.1 jj hjj).2.1) (by rw [(hA i hii).1, (hA jj hjj).1]; exact hc) (by rw [(hA i hii).1, (hA jj hjj).1]; exact wm_mul_lt (hB.2.2.1 i hii).2.1 (hB.2.2.1 jj hjj).2.1)) ⟨Nat.le_of_ble_eq_true rfl, Nat.le_of_ble_eq_true rfl⟩ (fun r E' h => ?_)
      obtain ⟨q0, q1, q2⟩ := h
      exact ⟨_, q0, fun _ => rfl, hM.o ⟨_, _, _, _, _, _, _, _, q1⟩ (fun j _ _ => q2 j (by omega)), fun j hj => q2 j (by omega)⟩
    · refine wm_wi (kmboth1 l D C b 147 E _ _ _ _ _ _ _ _ _ _ _ _ _ _ _ _ _ _ _ _ _ (by omega) h119 (by omega) h121 (by omega) h122 (by omega) h123 (by omega) h124 (by omega) h125 hkk hii hjj (by rw [(hA i hii).1]; exact (hB.2.2.1 i hii).2.1) (by rw [(hA jj hjj).1]; exact (hB.2.2.1 jj hjj).2.1) (by rw [(hA jj hjj).1]; exact (hB.2.2.1 jj hjj).1) (by rw [(hA i hii).1]; exact (hB.2.2.1 i hii).1) (by rw [(hA i hii).1, (hA jj hjj).1]; exact hc) (by rw [(hA i hii).2.1]; exact Nat.lt_trans (hB.2.2.1 i hii).s24 (by decide)) (by rw [(hA i hii).2.2.1]; exact Nat.lt_trans (hB.2.2.1 i hii).e24 (by decide)) (fun a x ha hx => by rw [(hA i hii).1] at hx; rw [(hA i hii).2.2.2 a x ha hx]; exact Nat.lt_trans ((hB.2.2.1 i hii).g24 a x ha hx) (by decide))) ⟨Nat.le_of_ble_eq_true rfl, Nat.le_of_ble_eq_true rfl⟩ (fun r E' h => ?_)
      obtain ⟨ar1, na1, s2, t2, q0, q1, r1, r2, r3, r4, r5, qf, es, et, ht2, hcp⟩ := h
      rw [(hA i hii).1, (hA jj hjj).1] at r2 q0
      rw [es, (hA i hii).2.1, (hA jj hjj).2.1, (hA jj hjj).1, wm_pm_pr (hB.2.2.1 i hii).2.2.1 hc (hB.2.2.1 jj hjj).1] at r3
      rw [et, (hA i hii).2.2.1, (hA jj hjj).2.2.1, (hA jj hjj).1, wm_pm_pr (hB.2.2.1 i hii).2.2.2.1 hc (hB.2.2.1 jj hjj).1] at r4
      rw [(hA i hii).1, (hA jj hjj).1] at ht2
      exact ⟨_, q0, fun _ => rfl, hM.m ⟨_, _, _, _, _, _, _, _, q1⟩ (wm_mA.up (q := ((S.1 i).1 * (S.1 jj).1, wm_pr (S.1 i).2.1 (S.1 jj).2.1 (S.1 i).1 (S.1 jj).1, wm_pr (S.1 i).2.2.1 (S.1 jj).2.2.1 (S.1 i).1 (S.1 jj).1, g1)) hA (fun i hi => (hB.2.2.1 i hi).2.1) hcp r1 r2 r3 r4 (wm_both_sm (hA i hii).2.2.2 (hA jj hjj).2.2.2 hc (hB.2.2.1 jj hjj).1 (hB.2.2.1 i hii).2.2.2.2 hbb h13 ht2 hcp)) ⟨_, r5⟩ (fun j _ _ _ => qf j (by omega) (by omega) (by omega) (by omega) (by omega) (by omega)), fun j hj => qf j (by omega) (by omega) (by omega) (by omega) (by omega) (by omega)⟩
theorem m_letter (l : Launch) (D : va_G) (C : Nat → ClassId) (b : Nat) (E : Nat → va_E) (S S' : wm_St) (th kc : Nat) (v : Nat) (x : Int32) (hM : wm_MI C b S th E) (hB : wm_BD S) (ho : wo_letter S x S' kc v) : Met l yX7_letter (wm_ws yX7_letter cX7_letter 2 (some .int)) { frames := 3, cells := 0, slots := 0, locals := 72 } (va_Pc [.ref (b + 119), .int x] (wm_G D C b 147 E)) (va_Qi (fun r E' => ∃ v' : Nat, r = nI v' ∧ (kc = 0 → v' = v) ∧ wm_MI C b S' kc E' ∧ ∀ j, (j < 119 ∨ 146 ≤ j) → E' j = E j) (fun E' t => wm_P D b 147 E' t.heap) (wm_A b)) 0 0 (wm_A b) := by
  obtain ⟨⟨ats, aa, op, fi, la, wa, wc, be, h119⟩, h120, ⟨ar, ss, sa, se, h121, h122, h123, h124, hA⟩, ⟨na, h125⟩, ⟨ml, fo, pF, pL, rF, rL, pB, rB, h126, h127, h128, h129, h130, h131, h132, h133⟩, ⟨qs, qw, wb, wl, ws, sn, h134, h135, h136, h137, h138, h139⟩, ⟨kp, h140, hkp⟩, ⟨e1, e2, fn, bk, mk, h141, h142, h143, h144, h145⟩⟩ := id hM
  rcases ho with ⟨rfl, rfl, hk⟩ | ⟨rfl, t1, ht, hs, rfl, rfl, rfl⟩
  · refine wm_wi (kmletterX l D C b 147 E _ _ _ _ _ _ _ _ _ _ _ _ _ _ (by omega) h119 hk) ⟨Nat.le_of_ble_eq_true rfl, Nat.le_of_ble_eq_true rfl⟩ (fun r E' h => ?_)
    obtain ⟨q0, q1, q2⟩ := h
    exact ⟨_, q0, (fun h => absurd h (by decide)), hM.o ⟨_, _, _, _, _, _, _, _, q1⟩ (fun j _ _ => q2 j (by omega)), fun j hj => q2 j (by omega)⟩
  · have hle := hB.2.2.2.resolve_left hs
    refine wm_wi (kmletter1 l D C b 147 E _ _ _ _ _ _ _ _ _ _ _ _ _ _ _ (by omega) h119 (by omega) h140 ht (by omega)) ⟨Nat.le_of_ble_eq_true rfl, Nat.le_of_ble_eq_true rfl⟩ (fun r E' h => ?_)
    obtain ⟨q0, q1, q2⟩ := h
    exact ⟨_, q0, fun _ => (hkp.elim (fun q => absurd q hs) (fun q => q t1 ht)), hM.o ⟨_, _, _, _, _, _, _, _, q1⟩ (fun j _ _ => q2 j (by omega)), fun j hj => q2 j (by omega)⟩
theorem m_words (l : Launch) (D : va_G) (C : Nat → ClassId) (b : Nat) (E : Nat → va_E) (S S' : wm_St) (th kc : Nat) (v : Nat) (x : Int32) (y : Int32) (hM : wm_MI C b S th E) (hB : wm_BD S) (ho : wo_words S x y S' kc v) : Met l yX7_words (wm_ws yX7_words cX7_words 7 (some .long)) { frames := 3, cells := 0, slots := 0, locals := 72 } (va_Pc [.ref (b + 119), .int x, .int y] (wm_G D C b 147 E)) (va_Ql (fun r E' => ∃ v' : Nat, r = lN v' ∧ (kc = 0 → v' = v) ∧ wm_MI C b S' kc E' ∧ ∀ j, (j < 119 ∨ 146 ≤ j) → E' j = E j) (fun E' t => wm_P D b 147 E' t.heap) (wm_A b)) 0 0 (wm_A b) := by
  obtain ⟨⟨ats, aa, op, fi, la, wa, wc, be, h119⟩, h120, ⟨ar, ss, sa, se, h121, h122, h123, h124, hA⟩, ⟨na, h125⟩, ⟨ml, fo, pF, pL, rF, rL, pB, rB, h126, h127, h128, h129, h130, h131, h132, h133⟩, ⟨qs, qw, wb, wl, ws, sn, h134, h135, h136, h137, h138, h139⟩, ⟨kp, h140, hkp⟩, ⟨e1, e2, fn, bk, mk, h141, h142, h143, h144, h145⟩⟩ := id hM
  rcases ho with ⟨rfl, rfl, hk⟩ | ⟨rfl, rfl, k, hkk, rfl, hc | ⟨hc, hk⟩⟩ | ⟨rfl, k, len, hkk, rfl, hc, hlen, rfl, rfl, hv⟩
  · refine wm_wl2 (kmwordsX l D C b 147 E _ _ _ _ _ _ _ _ _ _ _ _ _ _ _ (by omega) h119 hk) ⟨Nat.le_of_ble_eq_true rfl, Nat.le_of_ble_eq_true rfl⟩ (fun r E' h => ?_)
    obtain ⟨q0, q1, q2⟩ := h
    exact ⟨_, q0, (fun h => absurd h (by decide)), hM.o ⟨_, _, _, _, _, _, _, _, q1⟩ (fun j _ _ => q2 j (by omega)), fun j hj => q2 j (by omega)⟩
  · refine wm_wl2 (kmwordsA l D C b 147 E _ _ _ _ _ _ _ _ _ _ _ _ _ _ _ _ (by omega) h119 (by omega) h122 hkk (by rw [(hA k hkk).1]; exact hc) (by rw [(hA k hkk).1]; exact (hB.2.2.1 k hkk).2.1)) ⟨Nat.le_of_ble_eq_true rfl, Nat.le_of_ble_eq_true rfl⟩ (fun r E' h => ?_)
    obtain ⟨q0, q1, q2⟩ := h
    exact ⟨_, q0, (fun h => absurd h (by decide)), hM.o ⟨_, _, _, _, _, _, _, _, q1⟩ (fun j _ _ => q2 j (by omega)), fun j hj => q2 j (by omega)⟩
  · refine wm_wl2 (kmwordsB l D C b 147 E _ _ _ _ _ _ _ _ _ _ _ _ _ _ _ _ (by omega) h119 (by omega) h122 hkk (by rw [(hA k hkk).1]; exact hc) hk) ⟨Nat.le_of_ble_eq_true rfl, Nat.le_of_ble_eq_true rfl⟩ (fun r E' h => ?_)
    obtain ⟨q0, q1, q2⟩ := h
    exact ⟨_, q0, (fun h => absurd h (by decide)), hM.o ⟨_, _, _, _, _, _, _, _, q1⟩ (fun j _ _ => q2 j (by omega)), fun j hj => q2 j (by omega)⟩
  · refine wm_wl2 (kmwords1 l D C b 147 E _ _ _ _ _ _ _ _ _ _ _ _ _ _ _ _ _ _ _ _ _ (by omega) h119 (by omega) h121 (by omega) h122 (by omega) h123 (by omega) h124 (by omega) h141 (by omega) h142 hkk (by rw [(hA k hkk).1]; exact hc) (by rw [(hA k hkk).1, (hA k hkk).2.1]; exact (hB.2.2.1 k hkk).2.2.1) (fun a x ha hx => by rw [(hA k hkk).1] at hx; rw [(hA k hkk).2.2.2 a x ha hx]; rw [(hA k hkk).1]; exact (hB.2.2.1 k hkk).2.2.2.2 a x ha hx) (by rw [(hA k hkk).1, (hA k hkk).2.2.1]; exact (hB.2.2.1 k hkk).2.2.2.1) hlen) ⟨Nat.le_of_ble_eq_true rfl, Nat.le_of_ble_eq_true rfl⟩ (fun r E' h => ?_)
    obtain ⟨f1, f2, q0, q1, r1, r2, qf⟩ := h
    rw [(hA k hkk).1, (hA k hkk).2.1, (hA k hkk).2.2.1, wm_words_eq (hA k hkk).2.2.2 hc (hB.2.2.1 k hkk).2.2.1 (hB.2.2.1 k hkk).2.2.2.2] at q0
    exact ⟨_, q0, fun _ => hv.symm, ⟨⟨_, _, _, _, _, _, _, _, q1⟩, (qf 120 (by omega) (by omega) (by omega)).trans hM.2.1, hM.2.2.1.cg (fun j _ _ => qf j (by omega) (by omega) (by omega)), hM.2.2.2.1.cg (qf _ (by omega) (by omega) (by omega)), hM.2.2.2.2.1.cg (fun j _ _ => qf j (by omega) (by omega) (by omega)), hM.2.2.2.2.2.1.cg (fun j _ _ => qf j (by omega) (by omega) (by omega)), hM.2.2.2.2.2.2.1.cg (qf _ (by omega) (by omega) (by omega)), ⟨_, _, fn, bk, mk, r1, r2, (qf 143 (by omega) (by omega) (by omega)).trans h143, (qf 144 (by omega) (by omega) (by omega)).trans h144, (qf 145 (by omega) (by omega) (by omega)).trans h145⟩⟩, fun j hj => qf j (by omega) (by omega) (by omega)⟩
theorem m_sets (l : Launch) (D : va_G) (C : Nat → ClassId) (b : Nat) (E : Nat → va_E) (S S' : wm_St) (th kc : Nat) (v : Nat) (x : Int32) (hM : wm_MI C b S th E) (hB : wm_BD S) (ho : wo_sets S x S' kc v) : Met l yX7_sets (wm_ws yX7_sets cX7_sets 2 (some .int)) { frames := 3, cells := 0, slots := 0, locals := 72 } (va_Pc [.ref (b + 119), .int x] (wm_G D C b 147 E)) (va_Qi (fun r E' => ∃ v' : Nat, r = nI v' ∧ (kc = 0 → v' = v) ∧ wm_MI C b S' kc E' ∧ ∀ j, (j < 119 ∨ 146 ≤ j) → E' j = E j) (fun E' t => wm_P D b 147 E' t.heap) (wm_A b)) 0 0 (wm_A b) := by
  obtain ⟨⟨ats, aa, op, fi, la, wa, wc, be, h119⟩, h120, ⟨ar, ss, sa, se, h121, h122, h123, h124, hA⟩, ⟨na, h125⟩, ⟨ml, fo, pF, pL, rF, rL, pB, rB, h126, h127, h128, h129, h130, h131, h132, h133⟩, ⟨qs, qw, wb, wl, ws, sn, h134, h135, h136, h137, h138, h139⟩, ⟨kp, h140, hkp⟩, ⟨e1, e2, fn, bk, mk, h141, h142, h143, h144, h145⟩⟩ := id hM
  rcases ho with ⟨rfl, rfl, hk⟩ | ⟨rfl, rfl, k, hkk, rfl, hc⟩ | ⟨rfl, k, hkk, rfl, hc, rfl, hv⟩
  · refine wm_wi (kmsetsX l D C b 147 E _ _ _ _ _ _ _ _ _ _ _ _ _ _ (by omega) h119 hk) ⟨Nat.le_of_ble_eq_true rfl, Nat.le_of_ble_eq_true rfl⟩ (fun r E' h => ?_)
    obtain ⟨q0, q1, q2⟩ := h
    exact ⟨_, q0, (fun h => absurd h (by decide)), hM.o ⟨_, _, _, _, _, _, _, _, q1⟩ (fun j _ _ => q2 j (by omega)), fun j hj => q2 j (by omega)⟩
  · refine wm_wi (kmsetsA l D C b 147 E _ _ _ _ _ _ _ _ _ _ _ _ _ _ _ (by omega) h119 (by omega) h122 hkk (by rw [(hA k hkk).1]; exact hc) (by rw [(hA k hkk).1]; exact (hB.2.2.1 k hkk).2.1)) ⟨Nat.le_of_ble_eq_true rfl, Nat.le_of_ble_eq_true rfl⟩ (fun r E' h => ?_)
    obtain ⟨q0, q1, q2⟩ := h
    exact ⟨_, q0, (fun h => absurd h (by decide)), hM.o ⟨_, _, _, _, _, _, _, _, q1⟩ (fun j _ _ => q2 j (by omega)), fun j hj => q2 j (by omega)⟩
  · refine wm_wi (kmsets1 l D C b 147 E _ _ _ _ _ _ _ _ _ _ _ _ _ _ _ _ _ _ _ (by omega) h119 (by omega) h121 (by omega) h122 (by omega) h123 (by omega) h143 (by omega) h145 hkk (by rw [(hA k hkk).1]; exact hc) (by rw [(hA k hkk).1, (hA k hkk).2.1]; exact (hB.2.2.1 k hkk).2.2.1) (fun a x ha hx => by rw [(hA k hkk).1] at hx; rw [(hA k hkk).2.2.2 a x ha hx]; rw [(hA k hkk).1]; exact (hB.2.2.1 k hkk).2.2.2.2 a x ha hx)) ⟨Nat.le_of_ble_eq_true rfl, Nat.le_of_ble_eq_true rfl⟩ (fun r E' h => ?_)
    obtain ⟨mk1, fn1, q0, q1, r1, r2, qf⟩ := h
    rw [(hA k hkk).1, (hA k hkk).2.1, wm_sets_eq (hA k hkk).2.2.2] at q0
    exact ⟨_, q0, fun _ => hv.symm, ⟨⟨_, _, _, _, _, _, _, _, q1⟩, (qf 120 (by omega) (by omega) (by omega)).trans hM.2.1, hM.2.2.1.cg (fun j _ _ => qf j (by omega) (by omega) (by omega)), hM.2.2.2.1.cg (qf _ (by omega) (by omega) (by omega)), hM.2.2.2.2.1.cg (fun j _ _ => qf j (by omega) (by omega) (by omega)), hM.2.2.2.2.2.1.cg (fun j _ _ => qf j (by omega) (by omega) (by omega)), hM.2.2.2.2.2.2.1.cg (qf _ (by omega) (by omega) (by omega)), ⟨e1, e2, _, bk, _, (qf 141 (by omega) (by omega) (by omega)).trans h141, (qf 142 (by omega) (by omega) (by omega)).trans h142, r1, (qf 144 (by omega) (by omega) (by omega)).trans h144, r2⟩⟩, fun j hj => qf j (by omega) (by omega) (by omega)⟩
theorem m_rests (l : Launch) (D : va_G) (C : Nat → ClassId) (b : Nat) (E : Nat → va_E) (S S' : wm_St) (th kc : Nat) (v : Nat) (x : Int32) (hM : wm_MI C b S th E) (hB : wm_BD S) (ho : wo_rests S x S' kc v) : Met l yX7_rests (wm_ws yX7_rests cX7_rests 8 (some .int)) { frames := 3, cells := 0, slots := 0, locals := 72 } (va_Pc [.ref (b + 119), .int x] (wm_G D C b 147 E)) (va_Qi (fun r E' => ∃ v' : Nat, r = nI v' ∧ (kc = 0 → v' = v) ∧ wm_MI C b S' kc E' ∧ ∀ j, (j < 119 ∨ 146 ≤ j) → E' j = E j) (fun E' t => wm_P D b 147 E' t.heap) (wm_A b)) 0 0 (wm_A b) := by
  obtain ⟨⟨ats, aa, op, fi, la, wa, wc, be, h119⟩, h120, ⟨ar, ss, sa, se, h121, h122, h123, h124, hA⟩, ⟨na, h125⟩, ⟨ml, fo, pF, pL, rF, rL, pB, rB, h126, h127, h128, h129, h130, h131, h132, h133⟩, ⟨qs, qw, wb, wl, ws, sn, h134, h135, h136, h137, h138, h139⟩, ⟨kp, h140, hkp⟩, ⟨e1, e2, fn, bk, mk, h141, h142, h143, h144, h145⟩⟩ := id hM
  rcases ho with ⟨rfl, rfl, hk⟩ | ⟨rfl, rfl, k, hkk, rfl, hc⟩ | ⟨rfl, k, hkk, rfl, hc, rfl, g3, un1, hbt, hun, hv⟩
  · refine wm_wi (kmrestsX l D C b 147 E _ _ _ _ _ _ _ _ _ _ _ _ _ _ (by omega) h119 hk) ⟨Nat.le_of_ble_eq_true rfl, Nat.le_of_ble_eq_true rfl⟩ (fun r E' h => ?_)
    obtain ⟨q0, q1, q2⟩ := h
    exact ⟨_, q0, (fun h => absurd h (by decide)), hM.o ⟨_, _, _, _, _, _, _, _, q1⟩ (fun j _ _ => q2 j (by omega)), fun j hj => q2 j (by omega)⟩
  · refine wm_wi (kmrestsA l D C b 147 E _ _ _ _ _ _ _ _ _ _ _ _ _ _ _ (by omega) h119 (by omega) h122 hkk (by rw [(hA k hkk).1]; exact hc) (by rw [(hA k hkk).1]; exact (hB.2.2.1 k hkk).2.1)) ⟨Nat.le_of_ble_eq_true rfl, Nat.le_of_ble_eq_true rfl⟩ (fun r E' h => ?_)
    obtain ⟨q0, q1, q2⟩ := h
    exact ⟨_, q0, (fun h => absurd h (by decide)), hM.o ⟨_, _, _, _, _, _, _, _, q1⟩ (fun j _ _ => q2 j (by omega)), fun j hj => q2 j (by omega)⟩
  · refine wm_wi (kmrests1 l D C b 147 E _ _ _ _ _ _ _ _ _ _ _ _ _ _ _ _ _ _ _ _ _ (by omega) h119 (by omega) h121 (by omega) h122 (by omega) h123 (by omega) h124 (by omega) h143 (by omega) h144 (by omega) h145 hkk (by rw [(hA k hkk).1]; exact hc) (by rw [(hA k hkk).1, (hA k hkk).2.1]; exact (hB.2.2.1 k hkk).2.2.1) (fun a x ha hx => by rw [(hA k hkk).1] at hx; rw [(hA k hkk).2.2.2 a x ha hx]; rw [(hA k hkk).1]; exact (hB.2.2.1 k hkk).2.2.2.2 a x ha hx) (by rw [(hA k hkk).1, (hA k hkk).2.2.1]; exact (hB.2.2.1 k hkk).2.2.2.1)) ⟨Nat.le_of_ble_eq_true rfl, Nat.le_of_ble_eq_true rfl⟩ (fun r E' h => ?_)
    obtain ⟨mk1, fn1, bk1, q0, q1, r1, r2, r3, qf⟩ := h
    rw [(hA k hkk).1, (hA k hkk).2.1, (hA k hkk).2.2.1, wm_rests_eq2 (hA k hkk).2.2.2 hc (hB.2.2.1 k hkk).2.2.2.1 (hB.2.2.1 k hkk).2.2.2.2 hbt hun] at q0
    exact ⟨_, q0, fun _ => hv.symm, ⟨⟨_, _, _, _, _, _, _, _, q1⟩, (qf 120 (by omega) (by omega) (by omega) (by omega)).trans hM.2.1, hM.2.2.1.cg (fun j _ _ => qf j (by omega) (by omega) (by omega) (by omega)), hM.2.2.2.1.cg (qf _ (by omega) (by omega) (by omega) (by omega)), hM.2.2.2.2.1.cg (fun j _ _ => qf j (by omega) (by omega) (by omega) (by omega)), hM.2.2.2.2.2.1.cg (fun j _ _ => qf j (by omega) (by omega) (by omega) (by omega)), hM.2.2.2.2.2.2.1.cg (qf _ (by omega) (by omega) (by omega) (by omega)), ⟨e1, e2, _, _, _, (qf 141 (by omega) (by omega) (by omega) (by omega)).trans h141, (qf 142 (by omega) (by omega) (by omega) (by omega)).trans h142, r1, r2, r3⟩⟩, fun j hj => qf j (by omega) (by omega) (by omega) (by omega)⟩
theorem m_within (l : Launch) (D : va_G) (C : Nat → ClassId) (b : Nat) (E : Nat → va_E) (S S' : wm_St) (th kc : Nat) (v : Bool) (x : Int32) (y : Int32) (hM : wm_MI C b S th E) (hB : wm_BD S) (ho : wo_within S x y S' kc v) : Met l yX7_within (wm_ws yX7_within cX7_within 14 (some .boolean)) { frames := 3, cells := 0, slots := 0, locals := 72 } (va_Pc [.ref (b + 119), .int x, .int y] (wm_G D C b 147 E)) (va_Qi (fun r E' => ∃ v' : Bool, r = nI v'.toNat ∧ (kc = 0 → v' = v) ∧ wm_MI C b S' kc E' ∧ ∀ j, (j < 119 ∨ 146 ≤ j) → E' j = E j) (fun E' t => wm_P D b 147 E' t.heap) (wm_A b)) 0 0 (wm_A b) := by
  obtain ⟨⟨ats, aa, op, fi, la, wa, wc, be, h119⟩, h120, ⟨ar, ss, sa, se, h121, h122, h123, h124, hA⟩, ⟨na, h125⟩, ⟨ml, fo, pF, pL, rF, rL, pB, rB, h126, h127, h128, h129, h130, h131, h132, h133⟩, ⟨qs, qw, wb, wl, ws, sn, h134, h135, h136, h137, h138, h139⟩, ⟨kp, h140, hkp⟩, ⟨e1, e2, fn, bk, mk, h141, h142, h143, h144, h145⟩⟩ := id hM
  rcases ho with ⟨rfl, rfl, hk⟩ | ⟨rfl, rfl, k, i, hkk, rfl, hii, rfl, hc⟩ | ⟨rfl, k, i, hkk, rfl, hii, rfl, hc, hg⟩
  · by_cases hc : 0 ≤ x ∧ x < nI 8
    · obtain ⟨k, hkk, rfl⟩ := wm_lt_n (by decide) hc
      have hk : wm_no8 y := hk.elim (fun q => absurd hc q) id
      refine wm_wi (kmwithinY l D C b 147 E _ _ _ _ _ _ _ _ _ _ _ _ _ _ _ (by omega) h119 hkk hk) ⟨Nat.le_of_ble_eq_true rfl, Nat.le_of_ble_eq_true rfl⟩ (fun r E' h => ?_)
      obtain ⟨q0, q1, q2⟩ := h
      exact ⟨_, q0, (fun h => absurd h (by decide)), hM.o ⟨_, _, _, _, _, _, _, _, q1⟩ (fun j _ _ => q2 j (by omega)), fun j hj => q2 j (by omega)⟩
    · refine wm_wi (kmwithinX l D C b 147 E _ _ _ _ _ _ _ _ _ _ _ _ _ _ _ (by omega) h119 hc) ⟨Nat.le_of_ble_eq_true rfl, Nat.le_of_ble_eq_true rfl⟩ (fun r E' h => ?_)
      obtain ⟨q0, q1, q2⟩ := h
      exact ⟨_, q0, (fun h => absurd h (by decide)), hM.o ⟨_, _, _, _, _, _, _, _, q1⟩ (fun j _ _ => q2 j (by omega)), fun j hj => q2 j (by omega)⟩
  · refine wm_wi (kmwithinA l D C b 147 E _ _ _ _ _ _ _ _ _ _ _ _ _ _ _ _ (by omega) h119 (by omega) h122 hkk hii (by rw [(hA i hii).1]; exact hc) (by rw [(hA i hii).1]; exact (hB.2.2.1 i hii).2.1)) ⟨Nat.le_of_ble_eq_true rfl, Nat.le_of_ble_eq_true rfl⟩ (fun r E' h => ?_)
    obtain ⟨q0, q1, q2⟩ := h
    exact ⟨_, q0, (fun h => absurd h (by decide)), hM.o ⟨_, _, _, _, _, _, _, _, q1⟩ (fun j _ _ => q2 j (by omega)), fun j hj => q2 j (by omega)⟩
  · refine wm_wi (kmwithin1 l D C b 147 E _ _ _ _ _ _ _ _ _ _ _ _ _ _ _ _ _ _ _ _ _ _ _ _ _ _ (by omega) h119 (by omega) h121 (by omega) h122 (by omega) h123 (by omega) h124 (by omega) h134 (by omega) h135 (by omega) h136 (by omega) h137 (by omega) h138 (by omega) h139 (by omega) h140 hkk hii (by rw [(hA k hkk).1]; exact (hB.2.2.1 k hkk).2.1) (by rw [(hA i hii).1]; exact hc) (by rw [(hA k hkk).1, (hA k hkk).2.1]; exact (hB.2.2.1 k hkk).2.2.1) (by rw [(hA k hkk).1, (hA k hkk).2.2.1]; exact (hB.2.2.1 k hkk).2.2.2.1) (by rw [(hA i hii).1, (hA i hii).2.1]; exact (hB.2.2.1 i hii).2.2.1) (by rw [(hA i hii).1, (hA i hii).2.2.1]; exact (hB.2.2.1 i hii).2.2.2.1) (fun a x ha hx => by rw [(hA k hkk).1] at hx; rw [(hA k hkk).2.2.2 a x ha hx]; rw [(hA k hkk).1]; exact (hB.2.2.1 k hkk).2.2.2.2 a x ha hx) (fun a x ha hx => by rw [(hA i hii).1] at hx; rw [(hA i hii).2.2.2 a x ha hx]; rw [(hA i hii).1]; exact (hB.2.2.1 i hii).2.2.2.2 a x ha hx)) ⟨Nat.le_of_ble_eq_true rfl, Nat.le_of_ble_eq_true rfl⟩ (fun r E' h => ?_)
    obtain ⟨qs1, qw1, sn1, wb1, wl1, ws1, wa1, wc1, kl1, kp1, q0, q1, r1, r2, r3, r4, r5, r6, r7, qf, hr⟩ := h
    rw [(hA k hkk).1, (hA k hkk).2.1, (hA k hkk).2.2.1, (hA i hii).1, (hA i hii).2.1, (hA i hii).2.2.1, wm_run_eq (hA k hkk).2.2.2 (hA i hii).2.2.2] at q0 hr
    rcases hg with ⟨g1, rfl, rfl⟩ | ⟨w, g1, g2, rfl, g3, rfl⟩
    · rcases hr with ⟨u1, rfl⟩ | ⟨w, u1, -⟩
      · rw [g1] at q0
        exact ⟨true, q0.trans (by rw [decide_eq_true rfl]), fun _ => rfl, ⟨⟨_, _, _, _, _, _, _, _, q1⟩, (qf 120 (by omega) (by omega) (by omega) (by omega) (by omega) (by omega) (by omega) (by omega)).trans hM.2.1, hM.2.2.1.cg (fun j _ _ => qf j (by omega) (by omega) (by omega) (by omega) (by omega) (by omega) (by omega) (by omega)), hM.2.2.2.1.cg (qf _ (by omega) (by omega) (by omega) (by omega) (by omega) (by omega) (by omega) (by omega)), hM.2.2.2.2.1.cg (fun j _ _ => qf j (by omega) (by omega) (by omega) (by omega) (by omega) (by omega) (by omega) (by omega)), ⟨_, _, _, _, _, _, r1, r2, r3, r4, r5, r6⟩, ⟨_, r7, Or.inl rfl⟩, hM.2.2.2.2.2.2.2.cg (fun j _ _ => qf j (by omega) (by omega) (by omega) (by omega) (by omega) (by omega) (by omega) (by omega))⟩, fun j hj => qf j (by omega) (by omega) (by omega) (by omega) (by omega) (by omega) (by omega) (by omega)⟩
      · rw [g1] at u1; cases u1
    · rcases hr with ⟨u1, rfl⟩ | ⟨w2, u1, u2, rfl, u4⟩
      · rw [g1] at u1; cases u1
      · cases Option.some.inj (g1.symm.trans u1)
        rw [g1] at q0
        exact ⟨false, q0.trans (by rw [decide_eq_false (by simp)]), fun _ => rfl, ⟨⟨_, _, _, _, _, _, _, _, q1⟩, (qf 120 (by omega) (by omega) (by omega) (by omega) (by omega) (by omega) (by omega) (by omega)).trans hM.2.1, hM.2.2.1.cg (fun j _ _ => qf j (by omega) (by omega) (by omega) (by omega) (by omega) (by omega) (by omega) (by omega)), hM.2.2.2.1.cg (qf _ (by omega) (by omega) (by omega) (by omega) (by omega) (by omega) (by omega) (by omega)), hM.2.2.2.2.1.cg (fun j _ _ => qf j (by omega) (by omega) (by omega) (by omega) (by omega) (by omega) (by omega) (by omega)), ⟨_, _, _, _, _, _, r1, r2, r3, r4, r5, r6⟩, ⟨_, r7, Or.inr (fun t ht => u4 t ht)⟩, hM.2.2.2.2.2.2.2.cg (fun j _ _ => qf j (by omega) (by omega) (by omega) (by omega) (by omega) (by omega) (by omega) (by omega))⟩, fun j hj => qf j (by omega) (by omega) (by omega) (by omega) (by omega) (by omega) (by omega) (by omega)⟩
theorem m_fault (l : Launch) (D : va_G) (C : Nat → ClassId) (b : Nat) (E : Nat → va_E) (S S' : wm_St) (th v : Nat) (hM : wm_MI C b S th E) (hB : wm_BD S) (ho : S' = S ∧ v = S.2.2.1.1) : Met l yX7_fault (wm_ws yX7_fault cX7_fault 1 (some .int)) { frames := 3, cells := 0, slots := 0, locals := 72 } (va_Pc [.ref (b + 119)] (wm_G D C b 147 E)) (va_Qi (fun r E' => r = nI v ∧ wm_MI C b S' 0 E' ∧ ∀ j, (j < 119 ∨ 146 ≤ j) → E' j = E j) (fun E' t => wm_P D b 147 E' t.heap) (wm_A b)) 0 0 (wm_A b) := by
  obtain ⟨⟨ats, aa, op, fi, la, wa, wc, be, h119⟩, h120, ⟨ar, ss, sa, se, h121, h122, h123, h124, hA⟩, ⟨na, h125⟩, ⟨ml, fo, pF, pL, rF, rL, pB, rB, h126, h127, h128, h129, h130, h131, h132, h133⟩, ⟨qs, qw, wb, wl, ws, sn, h134, h135, h136, h137, h138, h139⟩, ⟨kp, h140, hkp⟩, ⟨e1, e2, fn, bk, mk, h141, h142, h143, h144, h145⟩⟩ := id hM
  obtain ⟨rfl, rfl⟩ := ho
  refine wm_wi (kX7_fault l D C b 147 E _ _ _ _ _ _ _ _ _ _ _ _ _ (by omega) h119 ) ⟨Nat.le_of_ble_eq_true rfl, Nat.le_of_ble_eq_true rfl⟩ (fun r E' h => ?_)
  obtain ⟨q0, q1, q2⟩ := h
  exact ⟨q0, hM.o ⟨_, _, _, _, _, _, _, _, q1⟩ (fun j _ _ => q2 j (by omega)), fun j hj => q2 j (by omega)⟩
theorem m_place (l : Launch) (D : va_G) (C : Nat → ClassId) (b : Nat) (E : Nat → va_E) (S S' : wm_St) (th v : Nat) (hM : wm_MI C b S th E) (hB : wm_BD S) (ho : S' = S ∧ v = S.2.2.1.2) : Met l yX7_place (wm_ws yX7_place cX7_place 1 (some .int)) { frames := 3, cells := 0, slots := 0, locals := 72 } (va_Pc [.ref (b + 119)] (wm_G D C b 147 E)) (va_Qi (fun r E' => r = nI v ∧ wm_MI C b S' 0 E' ∧ ∀ j, (j < 119 ∨ 146 ≤ j) → E' j = E j) (fun E' t => wm_P D b 147 E' t.heap) (wm_A b)) 0 0 (wm_A b) := by
  obtain ⟨⟨ats, aa, op, fi, la, wa, wc, be, h119⟩, h120, ⟨ar, ss, sa, se, h121, h122, h123, h124, hA⟩, ⟨na, h125⟩, ⟨ml, fo, pF, pL, rF, rL, pB, rB, h126, h127, h128, h129, h130, h131, h132, h133⟩, ⟨qs, qw, wb, wl, ws, sn, h134, h135, h136, h137, h138, h139⟩, ⟨kp, h140, hkp⟩, ⟨e1, e2, fn, bk, mk, h141, h142, h143, h144, h145⟩⟩ := id hM
  obtain ⟨rfl, rfl⟩ := ho
  refine wm_wi (kX7_place l D C b 147 E _ _ _ _ _ _ _ _ _ _ _ _ _ (by omega) h119 ) ⟨Nat.le_of_ble_eq_true rfl, Nat.le_of_ble_eq_true rfl⟩ (fun r E' h => ?_)
  obtain ⟨q0, q1, q2⟩ := h
  exact ⟨q0, hM.o ⟨_, _, _, _, _, _, _, _, q1⟩ (fun j _ _ => q2 j (by omega)), fun j hj => q2 j (by omega)⟩
theorem m_length (l : Launch) (D : va_G) (C : Nat → ClassId) (b : Nat) (E : Nat → va_E) (S S' : wm_St) (th v : Nat) (hM : wm_MI C b S th E) (hB : wm_BD S) (ho : S' = S ∧ v = S.2.2.2.1.1) : Met l yX7_length (wm_ws yX7_length cX7_length 1 (some .int)) { frames := 3, cells := 0, slots := 0, locals := 72 } (va_Pc [.ref (b + 119)] (wm_G D C b 147 E)) (va_Qi (fun r E' => r = nI v ∧ wm_MI C b S' 0 E' ∧ ∀ j, (j < 119 ∨ 146 ≤ j) → E' j = E j) (fun E' t => wm_P D b 147 E' t.heap) (wm_A b)) 0 0 (wm_A b) := by
  obtain ⟨⟨ats, aa, op, fi, la, wa, wc, be, h119⟩, h120, ⟨ar, ss, sa, se, h121, h122, h123, h124, hA⟩, ⟨na, h125⟩, ⟨ml, fo, pF, pL, rF, rL, pB, rB, h126, h127, h128, h129, h130, h131, h132, h133⟩, ⟨qs, qw, wb, wl, ws, sn, h134, h135, h136, h137, h138, h139⟩, ⟨kp, h140, hkp⟩, ⟨e1, e2, fn, bk, mk, h141, h142, h143, h144, h145⟩⟩ := id hM
  obtain ⟨rfl, rfl⟩ := ho
  refine wm_wi (kX7_length l D C b 147 E _ _ _ _ _ _ _ _ _ _ _ _ _ (by omega) h119 ) ⟨Nat.le_of_ble_eq_true rfl, Nat.le_of_ble_eq_true rfl⟩ (fun r E' h => ?_)
  obtain ⟨q0, q1, q2⟩ := h
  exact ⟨q0, hM.o ⟨_, _, _, _, _, _, _, _, q1⟩ (fun j _ _ => q2 j (by omega)), fun j hj => q2 j (by omega)⟩
theorem m_wipe (l : Launch) (D : va_G) (C : Nat → ClassId) (b : Nat) (E : Nat → va_E) (S S' : wm_St) (th v : Nat) (hM : wm_MI C b S th E) (hB : wm_BD S) (ho : wg_wipe S S' v) : Met l yX7_wipe (wm_ws yX7_wipe cX7_wipe 2 (some .int)) { frames := 3, cells := 0, slots := 0, locals := 72 } (va_Pc [.ref (b + 119)] (wm_G D C b 147 E)) (va_Qi (fun r E' => r = nI v ∧ wm_MI C b S' 0 E' ∧ ∀ j, (j < 119 ∨ 146 ≤ j) → E' j = E j) (fun E' t => wm_P D b 147 E' t.heap) (wm_A b)) 0 0 (wm_A b) := by
  obtain ⟨⟨ats, aa, op, fi, la, wa, wc, be, h119⟩, h120, ⟨ar, ss, sa, se, h121, h122, h123, h124, hA⟩, ⟨na, h125⟩, ⟨ml, fo, pF, pL, rF, rL, pB, rB, h126, h127, h128, h129, h130, h131, h132, h133⟩, ⟨qs, qw, wb, wl, ws, sn, h134, h135, h136, h137, h138, h139⟩, ⟨kp, h140, hkp⟩, ⟨e1, e2, fn, bk, mk, h141, h142, h143, h144, h145⟩⟩ := id hM
  obtain ⟨rfl, rfl⟩ := ho
  refine wm_wi (kX7_wipe l D C b 147 E _ _ _ _ _ _ _ _ _ _ _ _ _ (by omega) h119 ) ⟨Nat.le_of_ble_eq_true rfl, Nat.le_of_ble_eq_true rfl⟩ (fun r E' h => ?_)
  obtain ⟨q0, q1, q2⟩ := h
  exact ⟨q0, ⟨⟨_, _, _, _, _, _, _, _, q1⟩, (q2 _ (by omega)).trans hM.2.1, hM.2.2.1.cg (fun j _ _ => q2 j (by omega)), hM.2.2.2.1.cg (q2 _ (by omega)), hM.2.2.2.2.1.cg (fun j _ _ => q2 j (by omega)), hM.2.2.2.2.2.1.cg (fun j _ _ => q2 j (by omega)), hM.2.2.2.2.2.2.1.cg (q2 _ (by omega)), hM.2.2.2.2.2.2.2.cg (fun j _ _ => q2 j (by omega))⟩, fun j hj => q2 j (by omega)⟩
theorem m_thrown (l : Launch) (D : va_G) (C : Nat → ClassId) (b : Nat) (E : Nat → va_E) (S : wm_St) (th : Nat) (hM : wm_MI C b S th E) : Met l yX7_thrown (wm_ws yX7_thrown cX7_thrown 1 (some .int)) { frames := 3, cells := 0, slots := 0, locals := 72 } (va_Pc [.ref (b + 119)] (wm_G D C b 147 E)) (va_Qi (fun r E' => r = nI th ∧ E = E') (fun E' t => wm_P D b 147 E' t.heap) (wm_A b)) 0 0 (wm_A b) := by
  obtain ⟨⟨ats, aa, op, fi, la, wa, wc, be, h119⟩, -⟩ := id hM
  refine wm_wi (kX7_thrown l D C b 147 E _ _ _ _ _ _ _ _ _ _ _ _ _ (by omega) h119 ) ⟨Nat.le_of_ble_eq_true rfl, Nat.le_of_ble_eq_true rfl⟩ (fun r E' h => ?_)
  exact h
