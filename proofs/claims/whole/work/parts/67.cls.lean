theorem c_states (l : Launch) (D : va_G) (C : Nat → ClassId) (b : Nat) (E : Nat → va_E) (S : wm_St) (k : Nat) (hC : wm_CI C b S E) (hB : wm_BD S) (hk : k < 8) : Met l yX6_states (wm_ws yX6_states cX6_states 2 (some .int)) { frames := 1, cells := 0, slots := 0, locals := 21 } (va_Pc [.ref (b + 0), .int (nI k)] (wm_G D C b 147 E)) (va_Qi (fun r E' => ∃ (S' : wm_St) (v : Nat), r = nI v ∧ wg_states S k S' v ∧ wm_CI C b S' E' ∧ wm_BD S' ∧ ∀ j, 119 ≤ j → E' j = E j) (fun E' t => wm_P D b 147 E' t.heap) (wm_A b)) 0 0 (wm_A b) := by
  obtain ⟨⟨h0, h1⟩, ⟨c0, s0, e0, g0, h2, h3⟩, h4, ⟨hz, hzb⟩, ⟨sc, mc, sp, mt, un, e1, e2, mk, h93, h94, h95, h96, h97, h98, h99⟩, ⟨gc, wg, gr, mw, h100, h101, h102, hwd⟩, hm⟩ := id hC
  refine wm_wi (kX6_states l D C b 147 E _ _ _ _ _ (by omega) h0 (by omega) h1 (by omega) (hm _ hk).1 (by omega)) ⟨Nat.le_of_ble_eq_true rfl, Nat.le_of_ble_eq_true rfl⟩ (fun r E' h => ?_)
  obtain ⟨rfl, rfl⟩ := h
  exact ⟨S, _, rfl, ⟨rfl, rfl⟩, hC, hB, fun _ _ => rfl⟩
theorem c_blank (l : Launch) (D : va_G) (C : Nat → ClassId) (b : Nat) (E : Nat → va_E) (S : wm_St) (k y : Nat) (hC : wm_CI C b S E) (hB : wm_BD S) (hk : k < 8) (hy : 1 ≤ y ∧ y ≤ 24) : Met l yX6_blank (wm_ws yX6_blank cX6_blank 4 none) { frames := 2, cells := 0, slots := 0, locals := 44 } (va_Pc [.ref (b + 0), .int (nI k), .int (nI y)] (wm_G D C b 147 E)) (va_Qv (fun E' => ∃ S' : wm_St, wg_blank S k y S' ∧ wm_CI C b S' E' ∧ wm_BD S' ∧ ∀ j, 119 ≤ j → E' j = E j) (fun E' t => wm_P D b 147 E' t.heap) (wm_A b)) 0 0 (wm_A b) := by
  obtain ⟨⟨h0, h1⟩, ⟨c0, s0, e0, g0, h2, h3⟩, h4, ⟨hz, hzb⟩, ⟨sc, mc, sp, mt, un, e1, e2, mk, h93, h94, h95, h96, h97, h98, h99⟩, ⟨gc, wg, gr, mw, h100, h101, h102, hwd⟩, hm⟩ := id hC
  refine wm_wv (kX6_blank l D C b 147 E _ _ _ _ _ _ _ (by omega) h0 (by omega) h1 (by omega) (hm _ hk).1 (by omega) (hm _ hk).2 (by omega) hy) ⟨Nat.le_of_ble_eq_true rfl, Nat.le_of_ble_eq_true rfl⟩ (fun E' h => ?_)
  obtain ⟨g1, q1, q2, q3, q4⟩ := h
  exact ⟨_, ⟨g1, q4, rfl⟩, hC.m (hC.2.1.cg (q3 2 (by omega) (by omega)) (q3 3 (by omega) (by omega))) ⟨q1, q2⟩ (fun j _ _ _ h5 h6 => q3 j h5 h6), hB.m ⟨hy.1, hy.2, Nat.two_pow_pos _, Nat.two_pow_pos _, fun a x ha hx => by show g1 _ < _; rw [q4 _ (by have := hy.2; have : x < y := hx; omega)]; exact Nat.two_pow_pos _⟩, fun j hj => q3 j (by omega) (by omega)⟩
theorem c_mark (l : Launch) (D : va_G) (C : Nat → ClassId) (b : Nat) (E : Nat → va_E) (S : wm_St) (k sv z : Nat) (hC : wm_CI C b S E) (hB : wm_BD S) (hk : k < 8) (hsv : sv < (S.1 k).1) (hz3 : z ≤ 3) : Met l yX6_mark (wm_ws yX6_mark cX6_mark 5 none) { frames := 1, cells := 0, slots := 0, locals := 22 } (va_Pc [.ref (b + 0), .int (nI k), .int (nI sv), .int (nI z)] (wm_G D C b 147 E)) (va_Qv (fun E' => ∃ S' : wm_St, wg_mark S k sv z S' ∧ wm_CI C b S' E' ∧ wm_BD S' ∧ ∀ j, 119 ≤ j → E' j = E j) (fun E' t => wm_P D b 147 E' t.heap) (wm_A b)) 0 0 (wm_A b) := by
  obtain ⟨⟨h0, h1⟩, ⟨c0, s0, e0, g0, h2, h3⟩, h4, ⟨hz, hzb⟩, ⟨sc, mc, sp, mt, un, e1, e2, mk, h93, h94, h95, h96, h97, h98, h99⟩, ⟨gc, wg, gr, mw, h100, h101, h102, hwd⟩, hm⟩ := id hC
  refine wm_wv (kX6_mark l D C b 147 E _ _ _ _ _ _ _ (by omega) h0 (by omega) h1 (by omega) (hm _ hk).1 (by omega) (hB.2.2.1 k hk).2.1 hsv hz3 (hB.2.2.1 k hk).s24 (hB.2.2.1 k hk).e24) ⟨Nat.le_of_ble_eq_true rfl, Nat.le_of_ble_eq_true rfl⟩ (fun E' h => ?_)
  have mb := hB.2.2.1 k hk
  obtain ⟨q1, q2⟩ := h
  exact ⟨_, rfl, hC.m (hC.2.1.cg (q2 2 (by omega)) (q2 3 (by omega))) ⟨q1, (q2 _ (by omega)).trans (hm k hk).2⟩ (fun j _ _ _ h5 _ => q2 j h5), hB.m ⟨mb.1, mb.2.1, wm_wb_lt mb.2.2.1 hsv, wm_wb_lt mb.2.2.2.1 hsv, mb.2.2.2.2⟩, fun j hj => q2 j (by omega)⟩
theorem wm_ite_b {p : Prop} [Decidable p] {x y : Nat} (hx : x < 256) (hy : y < 256) : (if p then x else y) < 256 := by split <;> assumption
theorem wm_goal_up {c j0 v : Nat} {g : Nat → Nat} (h : ∀ a x, a < 8 → x < c → g (a * 24 + x) < 2 ^ c) (hv : v < 2 ^ c) : ∀ a x, a < 8 → x < c → va_up g j0 v (a * 24 + x) < 2 ^ c := fun a x ha hx => by
  by_cases e : a * 24 + x = j0
  · rw [e, va_up_self]; exact hv
  · rw [va_up_ne _ _ e]; exact h a x ha hx
theorem c_arc (l : Launch) (D : va_G) (C : Nat → ClassId) (b : Nat) (E : Nat → va_E) (S : wm_St) (k sv lr sw : Nat) (v0 : Bool) (hC : wm_CI C b S E) (hB : wm_BD S) (hk : k < 8) (hsv : sv < (S.1 k).1) (hsw : sw < (S.1 k).1) (hlr : lr < 8) : Met l yX6_arc (wm_ws yX6_arc cX6_arc 8 (some .boolean)) { frames := 1, cells := 0, slots := 0, locals := 23 } (va_Pc [.ref (b + 0), .int (nI k), .int (nI sv), .int (nI lr), .int (nI sw), .int (nI v0.toNat)] (wm_G D C b 147 E)) (va_Qi (fun r E' => ∃ (S' : wm_St) (v : Bool), r = nI v.toNat ∧ wg_arc S k sv lr sw v0 S' v ∧ wm_CI C b S' E' ∧ wm_BD S' ∧ ∀ j, 119 ≤ j → E' j = E j) (fun E' t => wm_P D b 147 E' t.heap) (wm_A b)) 0 0 (wm_A b) := by
  obtain ⟨⟨h0, h1⟩, ⟨c0, s0, e0, g0, h2, h3⟩, h4, ⟨hz, hzb⟩, ⟨sc, mc, sp, mt, un, e1, e2, mk, h93, h94, h95, h96, h97, h98, h99⟩, ⟨gc, wg, gr, mw, h100, h101, h102, hwd⟩, hm⟩ := id hC
  refine wm_wi (kX6_arc l D C b 147 E _ _ _ _ _ _ _ _ _ _ (by omega) h0 (by omega) h1 (by omega) (hm _ hk).1 (by omega) (hm _ hk).2 (by omega) (hB.2.2.1 k hk).2.1 hsv hsw hlr (Nat.lt_trans ((hB.2.2.1 k hk).g24 lr sv hlr hsv) (by decide))) ⟨Nat.le_of_ble_eq_true rfl, Nat.le_of_ble_eq_true rfl⟩ (fun r E' h => ?_)
  have mb := hB.2.2.1 k hk
  obtain ⟨q0, q1, q2⟩ := h
  exact ⟨_, _, q0, ⟨rfl, rfl⟩, hC.m (hC.2.1.cg (q2 2 (by omega)) (q2 3 (by omega))) ⟨(q2 _ (by omega)).trans (hm k hk).1, q1⟩ (fun j _ _ _ _ h6 => q2 j h6), hB.m ⟨mb.1, mb.2.1, mb.2.2.1, mb.2.2.2.1, wm_goal_up mb.2.2.2.2 (wm_wb_lt (mb.2.2.2.2 lr sv hlr hsv) hsw)⟩, fun j hj => q2 j (by omega)⟩
theorem c_arcs (l : Launch) (D : va_G) (C : Nat → ClassId) (b : Nat) (E : Nat → va_E) (S : wm_St) (k sv lr : Nat) (hC : wm_CI C b S E) (hB : wm_BD S) (hk : k < 8) (hsv : sv < (S.1 k).1) (hlr : lr ≤ 8) : Met l yX6_arcs (wm_ws yX6_arcs cX6_arcs 5 (some .int)) { frames := 1, cells := 0, slots := 0, locals := 22 } (va_Pc [.ref (b + 0), .int (nI k), .int (nI sv), .int (nI lr)] (wm_G D C b 147 E)) (va_Qi (fun r E' => ∃ (S' : wm_St) (v : Nat), r = nI v ∧ wg_arcs S k sv lr S' v ∧ wm_CI C b S' E' ∧ wm_BD S' ∧ ∀ j, 119 ≤ j → E' j = E j) (fun E' t => wm_P D b 147 E' t.heap) (wm_A b)) 0 0 (wm_A b) := by
  obtain ⟨⟨h0, h1⟩, ⟨c0, s0, e0, g0, h2, h3⟩, h4, ⟨hz, hzb⟩, ⟨sc, mc, sp, mt, un, e1, e2, mk, h93, h94, h95, h96, h97, h98, h99⟩, ⟨gc, wg, gr, mw, h100, h101, h102, hwd⟩, hm⟩ := id hC
  refine wm_wi (kX6_arcs l D C b 147 E _ _ _ _ _ _ _ _ (by omega) h0 (by omega) h1 (by omega) (hm _ hk).1 (by omega) (hm _ hk).2 (by omega) (hB.2.2.1 k hk).2.1 hsv hlr (hB.2.2.1 k hk).s24 (hB.2.2.1 k hk).e24) ⟨Nat.le_of_ble_eq_true rfl, Nat.le_of_ble_eq_true rfl⟩ (fun r E' h => ?_)
  obtain ⟨rfl, rfl⟩ := h
  exact ⟨S, _, rfl, ⟨rfl, rfl⟩, hC, hB, fun _ _ => rfl⟩
theorem c_turn (l : Launch) (D : va_G) (C : Nat → ClassId) (b : Nat) (E : Nat → va_E) (S : wm_St) (k i : Nat) (hC : wm_CI C b S E) (hB : wm_BD S) (hk : k < 8) (hi : i < 8) : Met l yX6_turn (wm_ws yX6_turn cX6_turn 5 none) { frames := 3, cells := 0, slots := 0, locals := 70 } (va_Pc [.ref (b + 0), .int (nI k), .int (nI i)] (wm_G D C b 147 E)) (va_Qv (fun E' => ∃ S' : wm_St, wg_turn S k i S' ∧ wm_CI C b S' E' ∧ wm_BD S' ∧ ∀ j, 119 ≤ j → E' j = E j) (fun E' t => wm_P D b 147 E' t.heap) (wm_A b)) 0 0 (wm_A b) := by
  obtain ⟨⟨h0, h1⟩, ⟨c0, s0, e0, g0, h2, h3⟩, h4, ⟨hz, hzb⟩, ⟨sc, mc, sp, mt, un, e1, e2, mk, h93, h94, h95, h96, h97, h98, h99⟩, ⟨gc, wg, gr, mw, h100, h101, h102, hwd⟩, hm⟩ := id hC
  refine wm_wv (kX6_turn l D C b 147 E _ _ _ _ _ _ _ _ _ _ _ _ _ _ _ (by omega) h0 (by omega) h1 (by omega) h2 (by omega) h3 (by omega) (hm _ hk).1 (by omega) (hm _ hk).2 (by omega) (hm _ hi).1 (by omega) (hm _ hi).2 (by omega) (by omega) (hB.2.2.1 i hi).2.1 (fun a x ha hx => Nat.lt_trans ((hB.2.2.1 i hi).g24 a x ha hx) (by decide))) ⟨Nat.le_of_ble_eq_true rfl, Nat.le_of_ble_eq_true rfl⟩ (fun E' h => ?_)
  have mi := hB.2.2.1 i hi
  obtain ⟨g1, g3, q1, q2, q3, q4, q5, q6, q7⟩ := h
  exact ⟨_, ⟨g1, g3, q6, q7, rfl⟩, hC.m ⟨_, _, _, g3, q1, q2⟩ ⟨q3, q4⟩ (fun j _ a1 a2 a3 a4 => q5 j a1 a2 a3 a4), hB.m ⟨mi.1, mi.2.1, mi.2.2.2.1, mi.2.2.1, fun a x ha hx => by show g1 _ < _; rw [q7 _ (by have := mi.2.1; have : x < (S.1 i).1 := hx; omega)]; exact wm_bt_cn q6 mi.2.1 a x ha hx⟩, fun j hj => q5 j (by omega) (by omega) (by omega) (by omega)⟩
theorem wm_shl_lt {x c d : Nat} (h : x < 2 ^ c) : x <<< d < 2 ^ (d + c) := by
  rw [Nat.shiftLeft_eq, Nat.pow_add, Nat.mul_comm]
  exact Nat.mul_lt_mul_of_pos_left h (Nat.two_pow_pos d)
theorem wm_either_mb {p q : Nat × Nat × Nat × (Nat → Nat)} {g1 g3 : Nat → Nat} (hp : wm_mb p) (hq : wm_mb q) (hc : p.1 + q.1 ≤ 24) (h : wm_bb p.1 q.1 8 0 p.2.2.2 q.2.2.2 g3) (h1 : ∀ j, j < 192 → g1 j = g3 j) : wm_mb (p.1 + q.1, p.2.1 ||| q.2.1 <<< p.1, p.2.2.1 ||| q.2.2.1 <<< p.1, g1) := by
  have up : ∀ {x : Nat}, x < 2 ^ p.1 → x < 2 ^ (p.1 + q.1) := fun hx => Nat.lt_of_lt_of_le hx (Nat.pow_le_pow_right (by decide) (Nat.le_add_right _ _))
  refine ⟨by have := hp.1; show 1 ≤ p.1 + q.1; omega, hc, Nat.or_lt_two_pow (up hp.2.2.1) (wm_shl_lt hq.2.2.1), Nat.or_lt_two_pow (up hp.2.2.2.1) (wm_shl_lt hq.2.2.2.1), fun a x ha hx => ?_⟩
  have hx : x < p.1 + q.1 := hx
  show g1 _ < 2 ^ (p.1 + q.1)
  rw [h1 _ (by omega), h a x ha (by omega)]
  by_cases e : p.1 ≤ x
  · rw [if_pos ⟨e, hx, Or.inl ha⟩]; exact wm_shl_lt (hq.2.2.2.2 a _ ha (by omega))
  · rw [if_neg (by omega)]; exact up (hp.2.2.2.2 a x ha (by omega))
theorem wm_pr_lt {S1 S2 c1 c2 : Nat} (h2 : S2 < 2 ^ c2) : wm_pr S1 S2 c1 c2 < 2 ^ (c1 * c2) := wm_or_lt (fun j hj => by
  split
  · refine Nat.lt_of_lt_of_le (wm_shl_lt h2) (Nat.pow_le_pow_right (by decide) ?_)
    have := Nat.mul_le_mul_right c2 hj
    rw [Nat.succ_mul] at this
    exact this
  · exact Nat.two_pow_pos _)
theorem wm_both_mb {p q : Nat × Nat × Nat × (Nat → Nat)} {g1 g3 : Nat → Nat} (hp : wm_mb p) (hq : wm_mb q) (hc : p.1 * q.1 ≤ 24) (h : wm_bp p.1 q.1 p.1 0 p.2.2.2 q.2.2.2 g3) (h1 : ∀ j, j < 192 → g1 j = g3 j) : wm_mb (p.1 * q.1, wm_pr p.2.1 q.2.1 p.1 q.1, wm_pr p.2.2.1 q.2.2.1 p.1 q.1, g1) := by
  refine ⟨Nat.mul_pos hp.1 hq.1, hc, wm_pr_lt hq.2.2.1, wm_pr_lt hq.2.2.2.1, fun a x ha hx => ?_⟩
  have hx : x < p.1 * q.1 := hx
  have hd : x / q.1 < p.1 := (Nat.div_lt_iff_lt_mul hq.1).mpr hx
  have hm : x % q.1 < q.1 := Nat.mod_lt _ hq.1
  have e : x / q.1 * q.1 + x % q.1 = x := Nat.div_add_mod' x q.1
  show g1 _ < 2 ^ (p.1 * q.1)
  rw [h1 _ (by omega)]
  have h4 := h a (x / q.1) (x % q.1) ha hd hm (Or.inl hd)
  rw [e] at h4
  rw [h4]
  exact wm_pr_lt (hq.2.2.2.2 a _ ha hm)
theorem c_either (l : Launch) (D : va_G) (C : Nat → ClassId) (b : Nat) (E : Nat → va_E) (S : wm_St) (k i jj : Nat) (hC : wm_CI C b S E) (hB : wm_BD S) (hk : k < 8) (hi : i < 8) (hjj : jj < 8) : Met l yX6_either (wm_ws yX6_either cX6_either 7 (some .int)) { frames := 3, cells := 0, slots := 0, locals := 63 } (va_Pc [.ref (b + 0), .int (nI k), .int (nI i), .int (nI jj)] (wm_G D C b 147 E)) (va_Qi (fun r E' => ∃ (S' : wm_St) (v : Nat), r = nI v ∧ wg_either S k i jj S' v ∧ wm_CI C b S' E' ∧ wm_BD S' ∧ ∀ j, 119 ≤ j → E' j = E j) (fun E' t => wm_P D b 147 E' t.heap) (wm_A b)) 0 0 (wm_A b) := by
  obtain ⟨⟨h0, h1⟩, ⟨c0, s0, e0, g0, h2, h3⟩, h4, ⟨hz, hzb⟩, ⟨sc, mc, sp, mt, un, e1, e2, mk, h93, h94, h95, h96, h97, h98, h99⟩, ⟨gc, wg, gr, mw, h100, h101, h102, hwd⟩, hm⟩ := id hC
  rcases Nat.lt_or_ge 24 ((S.1 i).1 + (S.1 jj).1) with hc | hc
  · refine wm_wi (keither0 l D C b 147 E _ _ _ _ _ _ _ _ _ _ (by omega) h0 (by omega) h1 (by omega) (hm _ hi).1 (by omega) (hm _ hjj).1 (by omega) (by omega) (by omega) (hB.2.2.1 i hi).2.1 (hB.2.2.1 jj hjj).2.1 hc (by have := (hB.2.2.1 i hi).2.1; have := (hB.2.2.1 jj hjj).2.1; omega)) ⟨Nat.le_of_ble_eq_true rfl, Nat.le_of_ble_eq_true rfl⟩ (fun r E' h => ?_)
    obtain ⟨rfl, rfl⟩ := h
    exact ⟨S, _, rfl, Or.inl ⟨hc, rfl, rfl⟩, hC, hB, fun _ _ => rfl⟩
  · refine wm_wi (keither1 l D C b 147 E _ _ _ _ _ _ _ _ _ _ _ _ _ _ _ _ _ _ _ _ (by omega) h0 (by omega) h1 (by omega) h2 (by omega) h3 (by omega) (hm _ hk).1 (by omega) (hm _ hk).2 (by omega) (hm _ hi).1 (by omega) (hm _ hi).2 (by omega) (hm _ hjj).1 (by omega) (hm _ hjj).2 (by omega) (by omega) (by omega) hc) ⟨Nat.le_of_ble_eq_true rfl, Nat.le_of_ble_eq_true rfl⟩ (fun r E' h => ?_)
    obtain ⟨g1, g3, q0, q1, q2, q3, q4, q5, q6, q7⟩ := h
    exact ⟨_, _, q0, Or.inr ⟨hc, rfl, g1, g3, q6, q7, rfl⟩, hC.m ⟨_, _, _, g3, q1, q2⟩ ⟨q3, q4⟩ (fun j _ a1 a2 a3 a4 => q5 j a1 a2 a3 a4), hB.m (wm_either_mb (hB.2.2.1 i hi) (hB.2.2.1 jj hjj) hc q6 q7), fun j hj => q5 j (by omega) (by omega) (by omega) (by omega)⟩
theorem wm_mul_lt {x y : Nat} (h1 : x ≤ 24) (h2 : y ≤ 24) : x * y < 2 ^ 31 := Nat.lt_of_le_of_lt (Nat.mul_le_mul h1 h2) (by decide)
theorem c_both (l : Launch) (D : va_G) (C : Nat → ClassId) (b : Nat) (E : Nat → va_E) (S : wm_St) (k i jj : Nat) (hC : wm_CI C b S E) (hB : wm_BD S) (hk : k < 8) (hi : i < 8) (hjj : jj < 8) : Met l yX6_both (wm_ws yX6_both cX6_both 7 (some .int)) { frames := 4, cells := 0, slots := 0, locals := 96 } (va_Pc [.ref (b + 0), .int (nI k), .int (nI i), .int (nI jj)] (wm_G D C b 147 E)) (va_Qi (fun r E' => ∃ (S' : wm_St) (v : Nat), r = nI v ∧ wg_both S k i jj S' v ∧ wm_CI C b S' E' ∧ wm_BD S' ∧ ∀ j, 119 ≤ j → E' j = E j) (fun E' t => wm_P D b 147 E' t.heap) (wm_A b)) 0 0 (wm_A b) := by
  obtain ⟨⟨h0, h1⟩, ⟨c0, s0, e0, g0, h2, h3⟩, h4, ⟨hz, hzb⟩, ⟨sc, mc, sp, mt, un, e1, e2, mk, h93, h94, h95, h96, h97, h98, h99⟩, ⟨gc, wg, gr, mw, h100, h101, h102, hwd⟩, hm⟩ := id hC
  rcases Nat.lt_or_ge 24 ((S.1 i).1 * (S.1 jj).1) with hc | hc
  · refine wm_wi (kboth0 l D C b 147 E _ _ _ _ _ _ _ _ _ _ (by omega) h0 (by omega) h1 (by omega) (hm _ hi).1 (by omega) (hm _ hjj).1 (by omega) (by omega) (by omega) (hB.2.2.1 i hi).2.1 (hB.2.2.1 jj hjj).2.1 hc (wm_mul_lt (hB.2.2.1 i hi).2.1 (hB.2.2.1 jj hjj).2.1)) ⟨Nat.le_of_ble_eq_true rfl, Nat.le_of_ble_eq_true rfl⟩ (fun r E' h => ?_)
    obtain ⟨rfl, rfl⟩ := h
    exact ⟨S, _, rfl, Or.inl ⟨hc, rfl, rfl⟩, hC, hB, fun _ _ => rfl⟩
  · refine wm_wi (kboth1 l D C b 147 E _ _ _ _ _ _ _ _ _ _ _ _ _ _ _ _ _ _ _ _ (by omega) h0 (by omega) h1 (by omega) h2 (by omega) h3 (by omega) (hm _ hk).1 (by omega) (hm _ hk).2 (by omega) (hm _ hi).1 (by omega) (hm _ hi).2 (by omega) (hm _ hjj).1 (by omega) (hm _ hjj).2 (by omega) (by omega) (by omega) hc (hB.2.2.1 i hi).2.1 (hB.2.2.1 jj hjj).2.1 (Nat.lt_trans (hB.2.2.1 i hi).s24 (by decide)) (Nat.lt_trans (hB.2.2.1 i hi).e24 (by decide)) (fun a x ha hx => Nat.lt_trans ((hB.2.2.1 i hi).g24 a x ha hx) (by decide))) ⟨Nat.le_of_ble_eq_true rfl, Nat.le_of_ble_eq_true rfl⟩ (fun r E' h => ?_)
    obtain ⟨g1, g3, q0, q1, q2, q3, q4, q5, q6, q7⟩ := h
    exact ⟨_, _, q0, Or.inr ⟨hc, rfl, g1, g3, q6, q7, rfl⟩, hC.m ⟨_, _, _, g3, q1, q2⟩ ⟨q3, q4⟩ (fun j _ a1 a2 a3 a4 => q5 j a1 a2 a3 a4), hB.m (wm_both_mb (hB.2.2.1 i hi) (hB.2.2.1 jj hjj) hc q6 q7), fun j hj => q5 j (by omega) (by omega) (by omega) (by omega)⟩
theorem c_takes (l : Launch) (D : va_G) (C : Nat → ClassId) (b : Nat) (E : Nat → va_E) (S : wm_St) (k : Nat) (hC : wm_CI C b S E) (hB : wm_BD S) (hk : k < 8) : Met l yX6_takes (wm_ws yX6_takes cX6_takes 6 (some .boolean)) { frames := 2, cells := 0, slots := 0, locals := 46 } (va_Pc [.ref (b + 0), .int (nI k)] (wm_G D C b 147 E)) (va_Qi (fun r E' => ∃ (S' : wm_St) (v : Bool), r = nI v.toNat ∧ wg_takes S k S' v ∧ wm_CI C b S' E' ∧ wm_BD S' ∧ ∀ j, 119 ≤ j → E' j = E j) (fun E' t => wm_P D b 147 E' t.heap) (wm_A b)) 0 0 (wm_A b) := by
  obtain ⟨⟨h0, h1⟩, ⟨c0, s0, e0, g0, h2, h3⟩, h4, ⟨hz, hzb⟩, ⟨sc, mc, sp, mt, un, e1, e2, mk, h93, h94, h95, h96, h97, h98, h99⟩, ⟨gc, wg, gr, mw, h100, h101, h102, hwd⟩, hm⟩ := id hC
  refine wm_wi (kX6_takes l D C b 147 E _ _ _ _ _ _ _ (by omega) h0 (by omega) h1 (by omega) (hm _ hk).1 (by omega) (hm _ hk).2 (by omega) h4 (by omega) (hB.2.2.1 k hk).2.1 hB.1 (hB.2.2.1 k hk).s24 (hB.2.2.1 k hk).e24 hB.2.1 (hB.2.2.1 k hk).g24) ⟨Nat.le_of_ble_eq_true rfl, Nat.le_of_ble_eq_true rfl⟩ (fun r E' h => ?_)
  obtain ⟨rfl, rfl⟩ := h
  exact ⟨S, _, rfl, ⟨rfl, rfl⟩, hC, hB, fun _ _ => rfl⟩
theorem c_words (l : Launch) (D : va_G) (C : Nat → ClassId) (b : Nat) (E : Nat → va_E) (S : wm_St) (k len : Nat) (hC : wm_CI C b S E) (hB : wm_BD S) (hk : k < 8) (hc : (S.1 k).1 ≤ 11) (hlen : len ≤ 20) : Met l yX6_words (wm_ws yX6_words cX6_words 4 (some .long)) { frames := 4, cells := 0, slots := 0, locals := 98 } (va_Pc [.ref (b + 0), .int (nI k), .int (nI len)] (wm_G D C b 147 E)) (va_Ql (fun r E' => ∃ (S' : wm_St) (v : Nat), r = lN v ∧ wg_words S k len S' v ∧ wm_CI C b S' E' ∧ wm_BD S' ∧ ∀ j, 119 ≤ j → E' j = E j) (fun E' t => wm_P D b 147 E' t.heap) (wm_A b)) 0 0 (wm_A b) := by
  obtain ⟨⟨h0, h1⟩, ⟨c0, s0, e0, g0, h2, h3⟩, h4, ⟨hz, hzb⟩, ⟨sc, mc, sp, mt, un, e1, e2, mk, h93, h94, h95, h96, h97, h98, h99⟩, ⟨gc, wg, gr, mw, h100, h101, h102, hwd⟩, hm⟩ := id hC
  refine wm_wl2 (kX6_words l D C b 147 E _ _ _ _ _ _ _ _ _ _ _ _ _ _ (by omega) h0 (by omega) h1 (by omega) h93 (by omega) h94 (by omega) h95 (by omega) h96 (by omega) h98 (by omega) h99 (by omega) (hm _ hk).1 (by omega) (hm _ hk).2 (by omega) hc (hB.2.2.1 k hk).2.2.1 (hB.2.2.1 k hk).2.2.2.1 (hB.2.2.1 k hk).2.2.2.2 hlen) ⟨Nat.le_of_ble_eq_true rfl, Nat.le_of_ble_eq_true rfl⟩ (fun r E' h => ?_)
  obtain ⟨sp1, mk1, mt1, f1, f2, q0, q1, q2, q3, q4, q5, q6, q7⟩ := h
  exact ⟨S, _, q0, ⟨rfl, rfl⟩, hC.w (hC.2.1.cg (q7 2 (by omega) (by omega) (by omega) (by omega) (by omega) (by omega)) (q7 3 (by omega) (by omega) (by omega) (by omega) (by omega) (by omega))) ⟨_, _, sp1, mt1, un, f1, f2, mk1, q1, q2, q3, q4, (q7 97 (by omega) (by omega) (by omega) (by omega) (by omega) (by omega)).trans h97, q5, q6⟩ (fun j _ _ _ a => q7 j (by omega) (by omega) (by omega) (by omega) (by omega) (by omega)), hB, fun j hj => q7 j (by omega) (by omega) (by omega) (by omega) (by omega) (by omega)⟩
theorem c_sets (l : Launch) (D : va_G) (C : Nat → ClassId) (b : Nat) (E : Nat → va_E) (S : wm_St) (k : Nat) (hC : wm_CI C b S E) (hB : wm_BD S) (hk : k < 8) (hc : (S.1 k).1 ≤ 11) : Met l yX6_sets (wm_ws yX6_sets cX6_sets 3 (some .int)) { frames := 3, cells := 0, slots := 0, locals := 70 } (va_Pc [.ref (b + 0), .int (nI k)] (wm_G D C b 147 E)) (va_Qi (fun r E' => ∃ (S' : wm_St) (v : Nat), r = nI v ∧ wg_sets S k S' v ∧ wm_CI C b S' E' ∧ wm_BD S' ∧ ∀ j, 119 ≤ j → E' j = E j) (fun E' t => wm_P D b 147 E' t.heap) (wm_A b)) 0 0 (wm_A b) := by
  obtain ⟨⟨h0, h1⟩, ⟨c0, s0, e0, g0, h2, h3⟩, h4, ⟨hz, hzb⟩, ⟨sc, mc, sp, mt, un, e1, e2, mk, h93, h94, h95, h96, h97, h98, h99⟩, ⟨gc, wg, gr, mw, h100, h101, h102, hwd⟩, hm⟩ := id hC
  refine wm_wi (kX6_sets l D C b 147 E _ _ _ _ _ _ _ _ _ _ _ (by omega) h0 (by omega) h1 (by omega) h93 (by omega) h94 (by omega) h95 (by omega) h96 (by omega) (hm _ hk).1 (by omega) (hm _ hk).2 (by omega) hc (hB.2.2.1 k hk).2.2.1 (hB.2.2.1 k hk).2.2.2.1 (hB.2.2.1 k hk).2.2.2.2) ⟨Nat.le_of_ble_eq_true rfl, Nat.le_of_ble_eq_true rfl⟩ (fun r E' h => ?_)
  obtain ⟨sp1, mk1, mt1, q0, q1, q2, q3, q4, q7⟩ := h
  exact ⟨S, _, q0, ⟨rfl, rfl⟩, hC.w (hC.2.1.cg (q7 2 (by omega) (by omega) (by omega) (by omega)) (q7 3 (by omega) (by omega) (by omega) (by omega))) ⟨_, _, sp1, mt1, un, e1, e2, mk1, q1, q2, q3, q4, (q7 97 (by omega) (by omega) (by omega) (by omega)).trans h97, (q7 98 (by omega) (by omega) (by omega) (by omega)).trans h98, (q7 99 (by omega) (by omega) (by omega) (by omega)).trans h99⟩ (fun j _ _ _ a => q7 j (by omega) (by omega) (by omega) (by omega)), hB, fun j hj => q7 j (by omega) (by omega) (by omega) (by omega)⟩
theorem c_rests (l : Launch) (D : va_G) (C : Nat → ClassId) (b : Nat) (E : Nat → va_E) (S : wm_St) (k : Nat) (hC : wm_CI C b S E) (hB : wm_BD S) (hk : k < 8) (hc : (S.1 k).1 ≤ 11) : Met l yX6_rests (wm_ws yX6_rests cX6_rests 3 (some .int)) { frames := 4, cells := 0, slots := 0, locals := 95 } (va_Pc [.ref (b + 0), .int (nI k)] (wm_G D C b 147 E)) (va_Qi (fun r E' => ∃ (S' : wm_St) (v : Nat), r = nI v ∧ wg_rests S k S' v ∧ wm_CI C b S' E' ∧ wm_BD S' ∧ ∀ j, 119 ≤ j → E' j = E j) (fun E' t => wm_P D b 147 E' t.heap) (wm_A b)) 0 0 (wm_A b) := by
  obtain ⟨⟨h0, h1⟩, ⟨c0, s0, e0, g0, h2, h3⟩, h4, ⟨hz, hzb⟩, ⟨sc, mc, sp, mt, un, e1, e2, mk, h93, h94, h95, h96, h97, h98, h99⟩, ⟨gc, wg, gr, mw, h100, h101, h102, hwd⟩, hm⟩ := id hC
  refine wm_wi (kX6_rests l D C b 147 E _ _ _ _ _ _ _ _ _ _ _ _ _ _ _ _ (by omega) h0 (by omega) h1 (by omega) h2 (by omega) h3 (by omega) h93 (by omega) h94 (by omega) h95 (by omega) h96 (by omega) h97 (by omega) (hm _ hk).1 (by omega) (hm _ hk).2 (by omega) hc (hB.2.2.1 k hk).2.2.1 (hB.2.2.1 k hk).2.2.2.1 (hB.2.2.1 k hk).2.2.2.2) ⟨Nat.le_of_ble_eq_true rfl, Nat.le_of_ble_eq_true rfl⟩ (fun r E' h => ?_)
  obtain ⟨g3, sp1, mk1, mt1, un1, q0, q1, q2, q3, q4, q5, q6, q7, q8, q9, q10⟩ := h
  exact ⟨S, _, q0, ⟨rfl, g3, un1, q9, q10, rfl⟩, hC.w ⟨_, _, _, g3, q1, q2⟩ ⟨_, _, sp1, mt1, un1, e1, e2, mk1, q3, q4, q5, q6, q7, (q8 98 (by omega) (by omega) (by omega) (by omega) (by omega) (by omega) (by omega)).trans h98, (q8 99 (by omega) (by omega) (by omega) (by omega) (by omega) (by omega) (by omega)).trans h99⟩ (fun j _ _ _ a => q8 j (by omega) (by omega) (by omega) (by omega) (by omega) (by omega) (by omega)), hB, fun j hj => q8 j (by omega) (by omega) (by omega) (by omega) (by omega) (by omega) (by omega)⟩
theorem c_within (l : Launch) (D : va_G) (C : Nat → ClassId) (b : Nat) (E : Nat → va_E) (S : wm_St) (i jj : Nat) (hC : wm_CI C b S E) (hB : wm_BD S) (hi : i < 8) (hjj : jj < 8) (hc : (S.1 jj).1 ≤ 11) : Met l yX6_within (wm_ws yX6_within cX6_within 5 (some .boolean)) { frames := 3, cells := 0, slots := 0, locals := 73 } (va_Pc [.ref (b + 0), .int (nI i), .int (nI jj)] (wm_G D C b 147 E)) (va_Qi (fun r E' => ∃ (S' : wm_St) (v : Bool), r = nI v.toNat ∧ wg_within S i jj S' v ∧ wm_CI C b S' E' ∧ wm_BD S' ∧ ∀ j, 119 ≤ j → E' j = E j) (fun E' t => wm_P D b 147 E' t.heap) (wm_A b)) 0 0 (wm_A b) := by
  obtain ⟨⟨h0, h1⟩, ⟨c0, s0, e0, g0, h2, h3⟩, h4, ⟨hz, hzb⟩, ⟨sc, mc, sp, mt, un, e1, e2, mk, h93, h94, h95, h96, h97, h98, h99⟩, ⟨gc, wg, gr, mw, h100, h101, h102, hwd⟩, hm⟩ := id hC
  refine wm_wi (kX6_within l D C b 147 E _ _ _ _ _ _ _ _ _ _ _ _ _ _ _ _ _ _ _ (by omega) h0 (by omega) h1 (by omega) h93 (by omega) h94 (by omega) h100 (by omega) h101 (by omega) h102 (by omega) (hm _ hi).1 (by omega) (hm _ hi).2 (by omega) (hm _ hjj).1 (by omega) (hm _ hjj).2 (by omega) (by omega) (hB.2.2.1 i hi).2.1 hc (hB.2.2.1 i hi).s24 (hB.2.2.1 i hi).e24 (hB.2.2.1 jj hjj).2.2.1 (hB.2.2.1 jj hjj).2.2.2.1 (hB.2.2.1 i hi).g24 (hB.2.2.1 jj hjj).2.2.2.2) ⟨Nat.le_of_ble_eq_true rfl, Nat.le_of_ble_eq_true rfl⟩ (fun r E' h => ?_)
  obtain ⟨sp1, wg1, wl1, gr1, mw1, q0, q1, q2, q3, q4, q5, q6, q7, q8⟩ := h
  have hsc : 2 ^ (S.1 jj).1 ≤ 2048 := Nat.pow_le_pow_right (by decide) hc
  have hcg : ∀ (wl : Nat) (lt : Nat → Nat), wm_cH C b wl lt E' → wm_CI C b (S.1, S.2.1, S.2.2.1, (wl, lt), S.2.2.2.2) E' := fun wl lt hH => ⟨hC.1.cg (q6 _ (by omega) (by omega) (by omega) (by omega) (by omega)) (q6 _ (by omega) (by omega) (by omega) (by omega) (by omega)), hC.2.1.cg (q6 _ (by omega) (by omega) (by omega) (by omega) (by omega)) (q6 _ (by omega) (by omega) (by omega) (by omega) (by omega)), hC.2.2.1.cg (q6 _ (by omega) (by omega) (by omega) (by omega) (by omega)), hC.2.2.2.1.cg (fun j _ _ => q6 j (by omega) (by omega) (by omega) (by omega) (by omega)), ⟨_, _, sp1, mt, un, e1, e2, mk, q1, q2, (q6 95 (by omega) (by omega) (by omega) (by omega) (by omega)).trans h95, (q6 96 (by omega) (by omega) (by omega) (by omega) (by omega)).trans h96, (q6 97 (by omega) (by omega) (by omega) (by omega) (by omega)).trans h97, (q6 98 (by omega) (by omega) (by omega) (by omega) (by omega)).trans h98, (q6 99 (by omega) (by omega) (by omega) (by omega) (by omega)).trans h99⟩, hH, hC.2.2.2.2.2.2.cg (fun j _ _ => q6 j (by omega) (by omega) (by omega) (by omega) (by omega))⟩
  rcases q8 with ⟨r1, r2, r3⟩ | ⟨w, r1, r2, r3, r4⟩
  · subst r2
    exact ⟨_, true, q0, Or.inl ⟨r1, rfl, rfl⟩, hcg _ _ ⟨_, _, gr1, mw1, q3, q4, q5, Or.inl rfl⟩, ⟨hB.1, hB.2.1, hB.2.2.1, Or.inl rfl⟩, fun j hj => q6 j (by omega) (by omega) (by omega) (by omega) (by omega)⟩
  · have hle := wm_dep_le q7.1 w r2
    have hlen := wm_gg_len q7.1 hsc
    have hw : wm_dp (wg_run S i jj).1 w ≤ 49152 := by show wm_dp (wm_hunt _ _ _ _ _ _ _).1 w ≤ 49152; omega
    subst r3
    refine ⟨_, false, ?_, Or.inr ⟨wg1, r1, r2, rfl, hw, rfl⟩, hcg _ _ ⟨_, _, gr1, mw1, by rw [r4] at q3; exact q3, q4, q5, Or.inr ⟨_, _, hsc, q7.1, q7.2.1, r2, rfl, fun t ht => rfl⟩⟩, ⟨hB.1, hB.2.1, hB.2.2.1, Or.inr hw⟩, fun j hj => q6 j (by omega) (by omega) (by omega) (by omega) (by omega)⟩
    rw [q0, decide_eq_false (by omega)]
theorem c_length (l : Launch) (D : va_G) (C : Nat → ClassId) (b : Nat) (E : Nat → va_E) (S : wm_St)  (hC : wm_CI C b S E) (hB : wm_BD S)  : Met l yX6_length (wm_ws yX6_length cX6_length 1 (some .int)) { frames := 0, cells := 0, slots := 0, locals := 0 } (va_Pc [.ref (b + 0)] (wm_G D C b 147 E)) (va_Qi (fun r E' => ∃ (S' : wm_St) (v : Nat), r = nI v ∧ (S' = S ∧ v = S.2.2.2.1.1) ∧ wm_CI C b S' E' ∧ wm_BD S' ∧ ∀ j, 119 ≤ j → E' j = E j) (fun E' t => wm_P D b 147 E' t.heap) (wm_A b)) 0 0 (wm_A b) := by
  obtain ⟨⟨h0, h1⟩, ⟨c0, s0, e0, g0, h2, h3⟩, h4, ⟨hz, hzb⟩, ⟨sc, mc, sp, mt, un, e1, e2, mk, h93, h94, h95, h96, h97, h98, h99⟩, ⟨gc, wg, gr, mw, h100, h101, h102, hwd⟩, hm⟩ := id hC
  refine wm_wi (kX6_length l D C b 147 E _ _ _ _ (by omega) h0 (by omega) h100 ) ⟨Nat.le_of_ble_eq_true rfl, Nat.le_of_ble_eq_true rfl⟩ (fun r E' h => ?_)
  obtain ⟨rfl, rfl⟩ := h
  exact ⟨S, _, rfl, ⟨rfl, rfl⟩, hC, hB, fun _ _ => rfl⟩
theorem c_fault (l : Launch) (D : va_G) (C : Nat → ClassId) (b : Nat) (E : Nat → va_E) (S : wm_St)  (hC : wm_CI C b S E) (hB : wm_BD S)  : Met l yX6_fault (wm_ws yX6_fault cX6_fault 1 (some .int)) { frames := 0, cells := 0, slots := 0, locals := 0 } (va_Pc [.ref (b + 0)] (wm_G D C b 147 E)) (va_Qi (fun r E' => ∃ (S' : wm_St) (v : Nat), r = nI v ∧ (S' = S ∧ v = S.2.2.1.1) ∧ wm_CI C b S' E' ∧ wm_BD S' ∧ ∀ j, 119 ≤ j → E' j = E j) (fun E' t => wm_P D b 147 E' t.heap) (wm_A b)) 0 0 (wm_A b) := by
  obtain ⟨⟨h0, h1⟩, ⟨c0, s0, e0, g0, h2, h3⟩, h4, ⟨hz, hzb⟩, ⟨sc, mc, sp, mt, un, e1, e2, mk, h93, h94, h95, h96, h97, h98, h99⟩, ⟨gc, wg, gr, mw, h100, h101, h102, hwd⟩, hm⟩ := id hC
  refine wm_wi (kX6_fault l D C b 147 E _ _ _ _ _ _ _ _ (by omega) h0 (by omega) hz.1 ) ⟨Nat.le_of_ble_eq_true rfl, Nat.le_of_ble_eq_true rfl⟩ (fun r E' h => ?_)
  obtain ⟨rfl, rfl⟩ := h
  exact ⟨S, _, rfl, ⟨rfl, rfl⟩, hC, hB, fun _ _ => rfl⟩
theorem c_place (l : Launch) (D : va_G) (C : Nat → ClassId) (b : Nat) (E : Nat → va_E) (S : wm_St)  (hC : wm_CI C b S E) (hB : wm_BD S)  : Met l yX6_place (wm_ws yX6_place cX6_place 1 (some .int)) { frames := 0, cells := 0, slots := 0, locals := 0 } (va_Pc [.ref (b + 0)] (wm_G D C b 147 E)) (va_Qi (fun r E' => ∃ (S' : wm_St) (v : Nat), r = nI v ∧ (S' = S ∧ v = S.2.2.1.2) ∧ wm_CI C b S' E' ∧ wm_BD S' ∧ ∀ j, 119 ≤ j → E' j = E j) (fun E' t => wm_P D b 147 E' t.heap) (wm_A b)) 0 0 (wm_A b) := by
  obtain ⟨⟨h0, h1⟩, ⟨c0, s0, e0, g0, h2, h3⟩, h4, ⟨hz, hzb⟩, ⟨sc, mc, sp, mt, un, e1, e2, mk, h93, h94, h95, h96, h97, h98, h99⟩, ⟨gc, wg, gr, mw, h100, h101, h102, hwd⟩, hm⟩ := id hC
  refine wm_wi (kX6_place l D C b 147 E _ _ _ _ _ _ _ _ (by omega) h0 (by omega) hz.1 ) ⟨Nat.le_of_ble_eq_true rfl, Nat.le_of_ble_eq_true rfl⟩ (fun r E' h => ?_)
  obtain ⟨rfl, rfl⟩ := h
  exact ⟨S, _, rfl, ⟨rfl, rfl⟩, hC, hB, fun _ _ => rfl⟩
theorem c_wipe (l : Launch) (D : va_G) (C : Nat → ClassId) (b : Nat) (E : Nat → va_E) (S : wm_St)  (hC : wm_CI C b S E) (hB : wm_BD S)  : Met l yX6_wipe (wm_ws yX6_wipe cX6_wipe 2 (some .int)) { frames := 0, cells := 0, slots := 0, locals := 0 } (va_Pc [.ref (b + 0)] (wm_G D C b 147 E)) (va_Qi (fun r E' => ∃ (S' : wm_St) (v : Nat), r = nI v ∧ wg_wipe S S' v ∧ wm_CI C b S' E' ∧ wm_BD S' ∧ ∀ j, 119 ≤ j → E' j = E j) (fun E' t => wm_P D b 147 E' t.heap) (wm_A b)) 0 0 (wm_A b) := by
  obtain ⟨⟨h0, h1⟩, ⟨c0, s0, e0, g0, h2, h3⟩, h4, ⟨hz, hzb⟩, ⟨sc, mc, sp, mt, un, e1, e2, mk, h93, h94, h95, h96, h97, h98, h99⟩, ⟨gc, wg, gr, mw, h100, h101, h102, hwd⟩, hm⟩ := id hC
  refine wm_wi (kX6_wipe l D C b 147 E _ (by omega) h0 ) ⟨Nat.le_of_ble_eq_true rfl, Nat.le_of_ble_eq_true rfl⟩ (fun r E' h => ?_)
  obtain ⟨q0, q1, q2⟩ := h
  exact ⟨_, _, q0, ⟨rfl, rfl⟩, ⟨⟨q1, (q2 1 (by omega)).trans h1⟩, hC.2.1.cg (q2 _ (by omega)) (q2 _ (by omega)), hC.2.2.1.cg (q2 _ (by omega)), hC.2.2.2.1.cg (fun j _ _ => q2 j (by omega)), hC.2.2.2.2.1.cg (fun j _ _ => q2 j (by omega)), hC.2.2.2.2.2.1.cg (fun j _ _ => q2 j (by omega)), hC.2.2.2.2.2.2.cg (fun j _ _ => q2 j (by omega))⟩, ⟨Nat.zero_le _, hB.2⟩, fun j hj => q2 j (by omega)⟩
theorem c_letter (l : Launch) (D : va_G) (C : Nat → ClassId) (b : Nat) (E : Nat → va_E) (S : wm_St) (t1 : Nat) (hC : wm_CI C b S E) (hB : wm_BD S) (ht : t1 < S.2.2.2.1.1) (hs : S.2.2.2.1.1 ≠ 4294967295) : Met l yX6_letter (wm_ws yX6_letter cX6_letter 2 (some .int)) { frames := 2, cells := 0, slots := 0, locals := 44 } (va_Pc [.ref (b + 0), .int (nI t1)] (wm_G D C b 147 E)) (va_Qi (fun r E' => ∃ (S' : wm_St) (v : Nat), r = nI v ∧ wg_letter S t1 S' v ∧ wm_CI C b S' E' ∧ wm_BD S' ∧ ∀ j, 119 ≤ j → E' j = E j) (fun E' t => wm_P D b 147 E' t.heap) (wm_A b)) 0 0 (wm_A b) := by
  obtain ⟨⟨h0, h1⟩, ⟨c0, s0, e0, g0, h2, h3⟩, h4, ⟨hz, hzb⟩, ⟨sc, mc, sp, mt, un, e1, e2, mk, h93, h94, h95, h96, h97, h98, h99⟩, ⟨gc, wg, gr, mw, h100, h101, h102, hwd⟩, hm⟩ := id hC
  rcases hwd with q | ⟨sc2, G, r1, r2, r3, r4, r5, r6⟩
  · exact absurd q hs
  · rw [r5] at h100 ht
    refine wm_wi (kX6_letter l D C b 147 E _ _ _ t1 sc2 G gr (by omega) h0 (by omega) h100 (by omega) h101 r1 r2 r3 r4 ht) ⟨Nat.le_of_ble_eq_true rfl, Nat.le_of_ble_eq_true rfl⟩ (fun r E' h => ?_)
    obtain ⟨q0, rfl⟩ := h
    exact ⟨S, _, q0, ⟨rfl, (r6 t1 ht).symm⟩, hC, hB, fun _ _ => rfl⟩
theorem c_feed (l : Launch) (D : va_G) (C : Nat → ClassId) (b : Nat) (E : Nat → va_E) (S : wm_St) (k v0 : Nat) (hC : wm_CI C b S E) (hB : wm_BD S) (hk1 : 1 ≤ k ∧ k ≤ 8) (hv0 : v0 < 2 ^ 64) : Met l yX6_feed (wm_ws yX6_feed cX6_feed 5 (some .int)) { frames := 0, cells := 0, slots := 0, locals := 0 } (va_Pc [.ref (b + 0), .int (nI k), .long (lN v0)] (wm_G D C b 147 E)) (va_Qi (fun r E' => ∃ (S' : wm_St) (v : Nat), r = nI v ∧ wg_feed S k v0 S' v ∧ wm_CI C b S' E' ∧ wm_BD S' ∧ ∀ j, 119 ≤ j → E' j = E j) (fun E' t => wm_P D b 147 E' t.heap) (wm_A b)) 0 0 (wm_A b) := by
  obtain ⟨⟨h0, h1⟩, ⟨c0, s0, e0, g0, h2, h3⟩, h4, ⟨hz, hzb⟩, ⟨sc, mc, sp, mt, un, e1, e2, mk, h93, h94, h95, h96, h97, h98, h99⟩, ⟨gc, wg, gr, mw, h100, h101, h102, hwd⟩, hm⟩ := id hC
  rcases Nat.lt_or_ge 200 (S.2.1.1 + k) with hc | hc
  · refine wm_wi (kfeed0 l D C b 147 E _ _ _ (by omega) h0 hk1 hB.1 hc) ⟨Nat.le_of_ble_eq_true rfl, Nat.le_of_ble_eq_true rfl⟩ (fun r E' h => ?_)
    obtain ⟨rfl, rfl⟩ := h
    exact ⟨S, _, rfl, Or.inl ⟨hc, rfl, rfl⟩, hC, hB, fun _ _ => rfl⟩
  · refine wm_wi (kfeed1 l D C b 147 E _ _ _ _ (by omega) h0 (by omega) h4 hk1 hc hv0) ⟨Nat.le_of_ble_eq_true rfl, Nat.le_of_ble_eq_true rfl⟩ (fun r E' h => ?_)
    obtain ⟨q0, q1, q2, q3⟩ := h
    exact ⟨_, _, q0, Or.inr ⟨hc, rfl, rfl⟩, ⟨⟨q1, (q3 1 (by omega) (by omega)).trans h1⟩, hC.2.1.cg (q3 _ (by omega) (by omega)) (q3 _ (by omega) (by omega)), q2, hC.2.2.2.1.cg (fun j _ _ => q3 j (by omega) (by omega)), hC.2.2.2.2.1.cg (fun j _ _ => q3 j (by omega) (by omega)), hC.2.2.2.2.2.1.cg (fun j _ _ => q3 j (by omega) (by omega)), hC.2.2.2.2.2.2.cg (fun j _ _ => q3 j (by omega) (by omega))⟩, ⟨hc, fun i => wm_ite_b (Nat.mod_lt _ (by decide)) (hB.2.1 i), hB.2.2⟩, fun j hj => q3 j (by omega) (by omega)⟩
theorem c_read (l : Launch) (D : va_G) (C : Nat → ClassId) (b : Nat) (E : Nat → va_E) (S : wm_St) (k : Nat) (hC : wm_CI C b S E) (hB : wm_BD S) (hk : k < 8) : Met l yX6_read (wm_ws yX6_read cX6_read 3 (some .int)) { frames := 10, cells := 0, slots := 0, locals := 306 } (va_Pc [.ref (b + 0), .int (nI k)] (wm_G D C b 147 E)) (va_Qi (fun r E' => ∃ (S' : wm_St) (v : Nat), r = nI v ∧ wg_read S k S' v ∧ wm_CI C b S' E' ∧ wm_BD S' ∧ ∀ j, 119 ≤ j → E' j = E j) (fun E' t => wm_P D b 147 E' t.heap) (wm_A b)) 0 0 (wm_A b) := by
  obtain ⟨⟨h0, h1⟩, ⟨c0, s0, e0, g0, h2, h3⟩, h4, ⟨hz, hzb⟩, ⟨sc, mc, sp, mt, un, e1, e2, mk, h93, h94, h95, h96, h97, h98, h99⟩, ⟨gc, wg, gr, mw, h100, h101, h102, hwd⟩, hm⟩ := id hC
  rcases Nat.eq_zero_or_pos (wm_kd (wm_go S.2.1.2 S.2.1.1 0 (wm_z0 S.2.2.2.2))) with hd | hd
  · refine wm_wi (kreadz1 l D C b 147 E _ _ _ _ _ _ _ _ _ _ (by omega) h0 (by omega) h1 (by omega) h4 (by omega) (hm _ hk).1 (by omega) (hm _ hk).2 (by omega) hz hzb hB.1 hB.2.1 (by omega) hd) ⟨Nat.le_of_ble_eq_true rfl, Nat.le_of_ble_eq_true rfl⟩ (fun r E' h => ?_)
    obtain ⟨g1, q0, q1, q2, q3, q4, q5⟩ := h
    exact ⟨_, _, q0, Or.inr ⟨hd, rfl, g1, q5, rfl⟩, ⟨hC.1.cg (q1 _ (by omega)) (q1 _ (by omega)), hC.2.1.cg (q1 _ (by omega)) (q1 _ (by omega)), hC.2.2.1.cg (q1 _ (by omega)), ⟨q4, wm_z0_b (wm_z9_b (wm_go_b _ _ _ _ hzb))⟩, hC.2.2.2.2.1.cg (fun j _ _ => q1 j (by omega)), hC.2.2.2.2.2.1.cg (fun j _ _ => q1 j (by omega)), hC.2.2.2.2.2.2.up ⟨q2, q3⟩ (fun j _ _ a1 a2 => q1 j (by omega))⟩, ⟨hB.1, hB.2.1, (hB.m (wm_read_mb hzb q5)).2.2.1, hB.2.2.2⟩, fun j hj => q1 j (by omega)⟩
  · refine wm_wi (kreadz0 l D C b 147 E _ _ _ _ 0 0 0 _ _ (fun _ => 0) (by omega) h0 (by omega) h1 (by omega) h4 (by omega) hz hzb hB.1 hB.2.1 (by omega) (by omega)) ⟨Nat.le_of_ble_eq_true rfl, Nat.le_of_ble_eq_true rfl⟩ (fun r E' h => ?_)
    obtain ⟨q0, q1, q4⟩ := h
    exact ⟨_, _, q0, Or.inl ⟨by omega, rfl, rfl⟩, ⟨hC.1.cg (q1 _ (by omega)) (q1 _ (by omega)), hC.2.1.cg (q1 _ (by omega)) (q1 _ (by omega)), hC.2.2.1.cg (q1 _ (by omega)), ⟨q4, wm_z0_b (wm_go_b _ _ _ _ hzb)⟩, hC.2.2.2.2.1.cg (fun j _ _ => q1 j (by omega)), hC.2.2.2.2.2.1.cg (fun j _ _ => q1 j (by omega)), hC.2.2.2.2.2.2.cg (fun j _ _ => q1 j (by omega))⟩, ⟨hB.1, hB.2.1, hB.2.2.1, hB.2.2.2⟩, fun j hj => q1 j (by omega)⟩
