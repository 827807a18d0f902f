/-! THE STATE THAT BOTH SIDES HOLD: machines, text, fault, word, the reader's leavings -/
abbrev wm_St : Type := (Nat → Nat × Nat × Nat × (Nat → Nat)) × (Nat × (Nat → Nat)) × (Nat × Nat) × (Nat × (Nat → Nat)) × wm_pst
/-- bounds of a machine -/
def wm_mb (q : Nat × Nat × Nat × (Nat → Nat)) : Prop := 1 ≤ q.1 ∧ q.1 ≤ 24 ∧ q.2.1 < 2 ^ q.1 ∧ q.2.2.1 < 2 ^ q.1 ∧ ∀ a x, a < 8 → x < q.1 → q.2.2.2 (a * 24 + x) < 2 ^ q.1
def wm_BD (S : wm_St) : Prop := S.2.1.1 ≤ 200 ∧ (∀ i, S.2.1.2 i < 256) ∧ (∀ k, k < 8 → wm_mb (S.1 k)) ∧ (S.2.2.2.1.1 = 4294967295 ∨ S.2.2.2.1.1 ≤ 49152)
theorem wm_p24 {c : Nat} (h : c ≤ 24) : 2 ^ c ≤ 2 ^ 24 := Nat.pow_le_pow_right (by decide) h
theorem wm_mb.s24 {q : Nat × Nat × Nat × (Nat → Nat)} (h : wm_mb q) : q.2.1 < 2 ^ 24 := Nat.lt_of_lt_of_le h.2.2.1 (wm_p24 h.2.1)
theorem wm_mb.e24 {q : Nat × Nat × Nat × (Nat → Nat)} (h : wm_mb q) : q.2.2.1 < 2 ^ 24 := Nat.lt_of_lt_of_le h.2.2.2.1 (wm_p24 h.2.1)
theorem wm_mb.g24 {q : Nat × Nat × Nat × (Nat → Nat)} (h : wm_mb q) : ∀ a x, a < 8 → x < q.1 → q.2.2.2 (a * 24 + x) < 2 ^ 24 := fun a x h1 h2 => Nat.lt_of_lt_of_le (h.2.2.2.2 a x h1 h2) (wm_p24 h.2.1)
/-- the class's cells -/
def wm_cA (C : Nat → ClassId) (b ts : Nat) (E : Nat → va_E) : Prop := E 0 = .inr (6, [.ref (b + 1), .ref (b + 2), .ref (b + 4), .int (nI ts), .ref (b + 5), .ref (b + 93), .ref (b + 100)]) ∧ E 1 = wm_Q C 4 8 (fun x9 => some (b + (103 + 2 * x9)))
def wm_cB (C : Nat → ClassId) (b : Nat) (E : Nat → va_E) : Prop := ∃ (c0 s0 e0 : Nat) (g0 : Nat → Nat), E 2 = .inr (2, [.ref (b + 3), .int (nI c0), .int (nI s0), .int (nI e0)]) ∧ E 3 = wm_I C 192 g0
def wm_cT (C : Nat → ClassId) (tx : Nat → Nat) (E : Nat → va_E) : Prop := E 4 = wm_B C 200 (fun j => wm_sb (tx j))
def wm_cR (C : Nat → ClassId) (b fk fp : Nat) (z : wm_pst) (E : Nat → va_E) : Prop := wm_rd C b E fk fp z ∧ wm_zb (wm_z0 z)
def wm_cW (C : Nat → ClassId) (b : Nat) (E : Nat → va_E) : Prop := ∃ (sc mc : Nat) (sp mt un e1 e2 : Nat → Nat) (mk : Nat → Bool), E 93 = .inr (4, [.ref (b + 94), .ref (b + 95), .ref (b + 96), .ref (b + 97), .ref (b + 98), .ref (b + 99), .int (nI sc), .int (nI mc)]) ∧ E 94 = wm_I C 16384 sp ∧ E 95 = wm_Z C 2048 mk ∧ E 96 = wm_I C 2048 mt ∧ E 97 = wm_I C 2048 un ∧ E 98 = wm_J C 2048 e1 ∧ E 99 = wm_J C 2048 e2
def wm_cH (C : Nat → ClassId) (b wl : Nat) (lt : Nat → Nat) (E : Nat → va_E) : Prop := ∃ (gc wg : Nat) (gr mw : Nat → Nat), E 100 = .inr (5, [.ref (b + 101), .ref (b + 102), .int (nI gc), .int (nI wg), .int (nI wl)]) ∧ E 101 = wm_J C 49152 gr ∧ E 102 = wm_I C 2048 mw ∧ (wl = 4294967295 ∨ ∃ (sc : Nat) (G : List wm_gp), sc ≤ 2048 ∧ wm_gg sc G ∧ (∀ i, i < G.length → gr i = wm_enc (G.getD i wm_g0)) ∧ wg < G.length ∧ wl = wm_dp G wg ∧ ∀ t, t < wm_dp G wg → lt t = (G.getD (wm_upg G (wm_dp G wg - 1 - t) wg) wm_g0).2.2.1)
def wm_cK (C : Nat → ClassId) (b k : Nat) (q : Nat × Nat × Nat × (Nat → Nat)) (E : Nat → va_E) : Prop := E (103 + 2 * k) = .inr (2, [.ref (b + (104 + 2 * k)), .int (nI q.1), .int (nI q.2.1), .int (nI q.2.2.1)]) ∧ E (104 + 2 * k) = wm_I C 192 q.2.2.2
def wm_cM (C : Nat → ClassId) (b : Nat) (M : Nat → Nat × Nat × Nat × (Nat → Nat)) (E : Nat → va_E) : Prop := ∀ k, k < 8 → wm_cK C b k (M k) E
def wm_CI (C : Nat → ClassId) (b : Nat) (S : wm_St) (E : Nat → va_E) : Prop := wm_cA C b S.2.1.1 E ∧ wm_cB C b E ∧ wm_cT C S.2.1.2 E ∧ wm_cR C b S.2.2.1.1 S.2.2.1.2 S.2.2.2.2 E ∧ wm_cW C b E ∧ wm_cH C b S.2.2.2.1.1 S.2.2.2.1.2 E ∧ wm_cM C b S.1 E
section WMI
variable {C : Nat → ClassId} {b : Nat} {E E' : Nat → va_E}
theorem wm_cA.cg {ts : Nat} (h : wm_cA C b ts E) (h0 : E' 0 = E 0) (h1 : E' 1 = E 1) : wm_cA C b ts E' := ⟨h0.trans h.1, h1.trans h.2⟩
theorem wm_cB.cg (h : wm_cB C b E) (h0 : E' 2 = E 2) (h1 : E' 3 = E 3) : wm_cB C b E' := by
  obtain ⟨c0, s0, e0, g0, q1, q2⟩ := h
  exact ⟨c0, s0, e0, g0, h0.trans q1, h1.trans q2⟩
theorem wm_cT.cg {tx : Nat → Nat} (h : wm_cT C tx E) (h0 : E' 4 = E 4) : wm_cT C tx E' := h0.trans h
theorem wm_cR.cg {fk fp : Nat} {z : wm_pst} (h : wm_cR C b fk fp z E) (h0 : ∀ j, 5 ≤ j → j < 93 → E' j = E j) : wm_cR C b fk fp z E' := by
  obtain ⟨⟨q1, q2, q3, q4, q5⟩, q6⟩ := h
  refine ⟨⟨(h0 5 (by omega) (by omega)).trans q1, (h0 6 (by omega) (by omega)).trans q2, (h0 7 (by omega) (by omega)).trans q3, (h0 8 (by omega) (by omega)).trans q4, fun i hi => ?_⟩, q6⟩
  obtain ⟨r1, r2, r3, r4⟩ := q5 i hi
  exact ⟨(h0 _ (by omega) (by omega)).trans r1, (h0 _ (by omega) (by omega)).trans r2, (h0 _ (by omega) (by omega)).trans r3, (h0 _ (by omega) (by omega)).trans r4⟩
theorem wm_cW.cg (h : wm_cW C b E) (h0 : ∀ j, 93 ≤ j → j < 100 → E' j = E j) : wm_cW C b E' := by
  obtain ⟨sc, mc, sp, mt, un, e1, e2, mk, q1, q2, q3, q4, q5, q6, q7⟩ := h
  exact ⟨sc, mc, sp, mt, un, e1, e2, mk, (h0 93 (by omega) (by omega)).trans q1, (h0 94 (by omega) (by omega)).trans q2, (h0 95 (by omega) (by omega)).trans q3, (h0 96 (by omega) (by omega)).trans q4, (h0 97 (by omega) (by omega)).trans q5, (h0 98 (by omega) (by omega)).trans q6, (h0 99 (by omega) (by omega)).trans q7⟩
theorem wm_cH.cg {wl : Nat} {lt : Nat → Nat} (h : wm_cH C b wl lt E) (h0 : ∀ j, 100 ≤ j → j < 103 → E' j = E j) : wm_cH C b wl lt E' := by
  obtain ⟨gc, wg, gr, mw, q1, q2, q3, q4⟩ := h
  exact ⟨gc, wg, gr, mw, (h0 100 (by omega) (by omega)).trans q1, (h0 101 (by omega) (by omega)).trans q2, (h0 102 (by omega) (by omega)).trans q3, q4⟩
theorem wm_cM.cg {M : Nat → Nat × Nat × Nat × (Nat → Nat)} (h : wm_cM C b M E) (h0 : ∀ j, 103 ≤ j → j < 119 → E' j = E j) : wm_cM C b M E' := fun k hk => ⟨(h0 _ (by omega) (by omega)).trans (h k hk).1, (h0 _ (by omega) (by omega)).trans (h k hk).2⟩
theorem wm_cM.up {M : Nat → Nat × Nat × Nat × (Nat → Nat)} {k : Nat} {q : Nat × Nat × Nat × (Nat → Nat)} (h : wm_cM C b M E) (hq : wm_cK C b k q E') (h0 : ∀ j, 103 ≤ j → j < 119 → j ≠ 103 + 2 * k → j ≠ 104 + 2 * k → E' j = E j) : wm_cM C b (va_up M k q) E' := fun i hi => by
  by_cases e : i = k
  · subst e; rw [va_up_self]; exact hq
  · rw [va_up_ne _ _ e]
    exact ⟨(h0 _ (by omega) (by omega) (by omega) (by omega)).trans (h i hi).1, (h0 _ (by omega) (by omega) (by omega) (by omega)).trans (h i hi).2⟩
/-- nothing of the class has changed -/
theorem wm_CI.cg {S : wm_St} (h : wm_CI C b S E) (h0 : ∀ j, j < 119 → E' j = E j) : wm_CI C b S E' := ⟨h.1.cg (h0 _ (by omega)) (h0 _ (by omega)), h.2.1.cg (h0 _ (by omega)) (h0 _ (by omega)), h.2.2.1.cg (h0 _ (by omega)), h.2.2.2.1.cg (fun j _ _ => h0 j (by omega)), h.2.2.2.2.1.cg (fun j _ _ => h0 j (by omega)), h.2.2.2.2.2.1.cg (fun j _ _ => h0 j (by omega)), h.2.2.2.2.2.2.cg (fun j _ _ => h0 j (by omega))⟩
/-- a machine has changed, and perhaps the spare one -/
theorem wm_CI.m {S : wm_St} {k : Nat} {q : Nat × Nat × Nat × (Nat → Nat)} (h : wm_CI C b S E) (hB : wm_cB C b E') (hq : wm_cK C b k q E') (h0 : ∀ j, j < 119 → j ≠ 2 → j ≠ 3 → j ≠ 103 + 2 * k → j ≠ 104 + 2 * k → E' j = E j) : wm_CI C b (va_up S.1 k q, S.2) E' := ⟨h.1.cg (h0 _ (by omega) (by omega) (by omega) (by omega) (by omega)) (h0 _ (by omega) (by omega) (by omega) (by omega) (by omega)), hB, h.2.2.1.cg (h0 _ (by omega) (by omega) (by omega) (by omega) (by omega)), h.2.2.2.1.cg (fun j _ _ => h0 j (by omega) (by omega) (by omega) (by omega) (by omega)), h.2.2.2.2.1.cg (fun j _ _ => h0 j (by omega) (by omega) (by omega) (by omega) (by omega)), h.2.2.2.2.2.1.cg (fun j _ _ => h0 j (by omega) (by omega) (by omega) (by omega) (by omega)), h.2.2.2.2.2.2.up hq (fun j _ _ h1 h2 => h0 j (by omega) (by omega) (by omega) h1 h2)⟩
/-- the walk's rows have changed, and perhaps the spare machine -/
theorem wm_CI.w {S : wm_St} (h : wm_CI C b S E) (hB : wm_cB C b E') (hW : wm_cW C b E') (h0 : ∀ j, j < 119 → j ≠ 2 → j ≠ 3 → (j < 93 ∨ 100 ≤ j) → E' j = E j) : wm_CI C b S E' := ⟨h.1.cg (h0 _ (by omega) (by omega) (by omega) (by omega)) (h0 _ (by omega) (by omega) (by omega) (by omega)), hB, h.2.2.1.cg (h0 _ (by omega) (by omega) (by omega) (by omega)), h.2.2.2.1.cg (fun j _ _ => h0 j (by omega) (by omega) (by omega) (by omega)), hW, h.2.2.2.2.2.1.cg (fun j _ _ => h0 j (by omega) (by omega) (by omega) (by omega)), h.2.2.2.2.2.2.cg (fun j _ _ => h0 j (by omega) (by omega) (by omega) (by omega))⟩
end WMI
theorem wm_BD.m {S : wm_St} {k : Nat} {q : Nat × Nat × Nat × (Nat → Nat)} (h : wm_BD S) (hq : wm_mb q) : wm_BD (va_up S.1 k q, S.2) := ⟨h.1, h.2.1, fun i hi => by
  by_cases e : i = k
  · subst e
    show wm_mb (va_up S.1 i q i)
    rw [va_up_self]; exact hq
  · show wm_mb (va_up S.1 k q i)
    rw [va_up_ne _ _ e]; exact h.2.2.1 i hi, h.2.2.2⟩
/-- the reference's cells -/
def wm_mO (b th sz fa pl kl : Nat) (E : Nat → va_E) : Prop := ∃ (ats aa op fi la wa wc : Nat) (be : Bool), E 119 = .inr (7, [.int (nI th), .ref (b + 120), .int (nI sz), .int (nI fa), .int (nI pl), .ref (b + 121), .ref (b + 122), .ref (b + 123), .ref (b + 124), .ref (b + 125), .ref (b + 126), .ref (b + 127), .int (nI ats), .int (nI aa), .ref (b + 128), .ref (b + 129), .ref (b + 130), .ref (b + 131), .ref (b + 132), .ref (b + 133), .int (nI op), .int (nI be.toNat), .int (nI fi), .int (nI la), .ref (b + 134), .ref (b + 135), .ref (b + 136), .int (nI wa), .ref (b + 137), .ref (b + 138), .ref (b + 139), .int (nI wc), .ref (b + 140), .int (nI kl), .ref (b + 141), .ref (b + 142), .ref (b + 143), .ref (b + 144), .ref (b + 145)])
def wm_mA (C : Nat → ClassId) (M : Nat → Nat × Nat × Nat × (Nat → Nat)) (E : Nat → va_E) : Prop := ∃ ar ss sa se : Nat → Nat, E 121 = wm_I C 1536 ar ∧ E 122 = wm_I C 8 ss ∧ E 123 = wm_I C 8 sa ∧ E 124 = wm_I C 8 se ∧ ∀ k, k < 8 → ss k = (M k).1 ∧ sa k = (M k).2.1 ∧ se k = (M k).2.2.1 ∧ wm_sm k (M k).1 ar (M k).2.2.2
def wm_mN (C : Nat → ClassId) (E : Nat → va_E) : Prop := ∃ na : Nat → Nat, E 125 = wm_I C 192 na
def wm_mR (C : Nat → ClassId) (E : Nat → va_E) : Prop := ∃ (ml fo pF pL rF rL : Nat → Nat) (pB rB : Nat → Bool), E 126 = wm_I C 24 ml ∧ E 127 = wm_I C 24 fo ∧ E 128 = wm_Z C 22 pB ∧ E 129 = wm_I C 22 pF ∧ E 130 = wm_I C 22 pL ∧ E 131 = wm_Z C 22 rB ∧ E 132 = wm_I C 22 rF ∧ E 133 = wm_I C 22 rL
def wm_mQ (C : Nat → ClassId) (E : Nat → va_E) : Prop := ∃ (qs qw wb wl ws : Nat → Nat) (sn : Nat → Bool), E 134 = wm_I C 49152 qs ∧ E 135 = wm_I C 49152 qw ∧ E 136 = wm_Z C 49152 sn ∧ E 137 = wm_I C 49153 wb ∧ E 138 = wm_I C 49153 wl ∧ E 139 = wm_I C 49153 ws
def wm_mK (C : Nat → ClassId) (kl : Nat) (lt : Nat → Nat) (E : Nat → va_E) : Prop := ∃ kp : Nat → Nat, E 140 = wm_I C 49153 kp ∧ (kl = 4294967295 ∨ ∀ t, t < kl → kp t = lt t)
def wm_mW (C : Nat → ClassId) (E : Nat → va_E) : Prop := ∃ (e1 e2 fn bk : Nat → Nat) (mk : Nat → Bool), E 141 = wm_J C 2048 e1 ∧ E 142 = wm_J C 2048 e2 ∧ E 143 = wm_I C 2048 fn ∧ E 144 = wm_I C 2048 bk ∧ E 145 = wm_Z C 2048 mk
def wm_MI (C : Nat → ClassId) (b : Nat) (S : wm_St) (th : Nat) (E : Nat → va_E) : Prop := wm_mO b th S.2.1.1 S.2.2.1.1 S.2.2.1.2 S.2.2.2.1.1 E ∧ E 120 = wm_I C 200 S.2.1.2 ∧ wm_mA C S.1 E ∧ wm_mN C E ∧ wm_mR C E ∧ wm_mQ C E ∧ wm_mK C S.2.2.2.1.1 S.2.2.2.1.2 E ∧ wm_mW C E
section WMJ
variable {C : Nat → ClassId} {b : Nat} {E E' : Nat → va_E}
theorem wm_mO.cg {th sz fa pl kl : Nat} (h : wm_mO b th sz fa pl kl E) (h0 : E' 119 = E 119) : wm_mO b th sz fa pl kl E' := by
  obtain ⟨a1, a2, a3, a4, a5, a6, a7, a8, q⟩ := h
  exact ⟨a1, a2, a3, a4, a5, a6, a7, a8, h0.trans q⟩
theorem wm_mA.cg {M : Nat → Nat × Nat × Nat × (Nat → Nat)} (h : wm_mA C M E) (h0 : ∀ j, 121 ≤ j → j < 125 → E' j = E j) : wm_mA C M E' := by
  obtain ⟨ar, ss, sa, se, q1, q2, q3, q4, q5⟩ := h
  exact ⟨ar, ss, sa, se, (h0 121 (by omega) (by omega)).trans q1, (h0 122 (by omega) (by omega)).trans q2, (h0 123 (by omega) (by omega)).trans q3, (h0 124 (by omega) (by omega)).trans q4, q5⟩
theorem wm_mN.cg (h : wm_mN C E) (h0 : E' 125 = E 125) : wm_mN C E' := by
  obtain ⟨na, q⟩ := h
  exact ⟨na, h0.trans q⟩
theorem wm_mR.cg (h : wm_mR C E) (h0 : ∀ j, 126 ≤ j → j < 134 → E' j = E j) : wm_mR C E' := by
  obtain ⟨a1, a2, a3, a4, a5, a6, a7, a8, q1, q2, q3, q4, q5, q6, q7, q8⟩ := h
  exact ⟨a1, a2, a3, a4, a5, a6, a7, a8, (h0 126 (by omega) (by omega)).trans q1, (h0 127 (by omega) (by omega)).trans q2, (h0 128 (by omega) (by omega)).trans q3, (h0 129 (by omega) (by omega)).trans q4, (h0 130 (by omega) (by omega)).trans q5, (h0 131 (by omega) (by omega)).trans q6, (h0 132 (by omega) (by omega)).trans q7, (h0 133 (by omega) (by omega)).trans q8⟩
theorem wm_mQ.cg (h : wm_mQ C E) (h0 : ∀ j, 134 ≤ j → j < 140 → E' j = E j) : wm_mQ C E' := by
  obtain ⟨a1, a2, a3, a4, a5, a6, q1, q2, q3, q4, q5, q6⟩ := h
  exact ⟨a1, a2, a3, a4, a5, a6, (h0 134 (by omega) (by omega)).trans q1, (h0 135 (by omega) (by omega)).trans q2, (h0 136 (by omega) (by omega)).trans q3, (h0 137 (by omega) (by omega)).trans q4, (h0 138 (by omega) (by omega)).trans q5, (h0 139 (by omega) (by omega)).trans q6⟩
theorem wm_mK.cg {kl : Nat} {lt : Nat → Nat} (h : wm_mK C kl lt E) (h0 : E' 140 = E 140) : wm_mK C kl lt E' := by
  obtain ⟨kp, q1, q2⟩ := h
  exact ⟨kp, h0.trans q1, q2⟩
theorem wm_mW.cg (h : wm_mW C E) (h0 : ∀ j, 141 ≤ j → j < 146 → E' j = E j) : wm_mW C E' := by
  obtain ⟨a1, a2, a3, a4, a5, q1, q2, q3, q4, q5⟩ := h
  exact ⟨a1, a2, a3, a4, a5, (h0 141 (by omega) (by omega)).trans q1, (h0 142 (by omega) (by omega)).trans q2, (h0 143 (by omega) (by omega)).trans q3, (h0 144 (by omega) (by omega)).trans q4, (h0 145 (by omega) (by omega)).trans q5⟩
theorem wm_MI.cg {S : wm_St} {th : Nat} (h : wm_MI C b S th E) (h0 : ∀ j, 119 ≤ j → j < 146 → E' j = E j) : wm_MI C b S th E' := ⟨h.1.cg (h0 _ (by omega) (by omega)), (h0 _ (by omega) (by omega)).trans h.2.1, h.2.2.1.cg (fun j _ _ => h0 j (by omega) (by omega)), h.2.2.2.1.cg (h0 _ (by omega) (by omega)), h.2.2.2.2.1.cg (fun j _ _ => h0 j (by omega) (by omega)), h.2.2.2.2.2.1.cg (fun j _ _ => h0 j (by omega) (by omega)), h.2.2.2.2.2.2.1.cg (h0 _ (by omega) (by omega)), h.2.2.2.2.2.2.2.cg (fun j _ _ => h0 j (by omega) (by omega))⟩
/-- only the object's own fields have changed -/
theorem wm_MI.o {S : wm_St} {th th' : Nat} (h : wm_MI C b S th E) (hO : wm_mO b th' S.2.1.1 S.2.2.1.1 S.2.2.1.2 S.2.2.2.1.1 E') (h0 : ∀ j, 120 ≤ j → j < 146 → E' j = E j) : wm_MI C b S th' E' := ⟨hO, (h0 _ (by omega) (by omega)).trans h.2.1, h.2.2.1.cg (fun j _ _ => h0 j (by omega) (by omega)), h.2.2.2.1.cg (h0 _ (by omega) (by omega)), h.2.2.2.2.1.cg (fun j _ _ => h0 j (by omega) (by omega)), h.2.2.2.2.2.1.cg (fun j _ _ => h0 j (by omega) (by omega)), h.2.2.2.2.2.2.1.cg (h0 _ (by omega) (by omega)), h.2.2.2.2.2.2.2.cg (fun j _ _ => h0 j (by omega) (by omega))⟩
theorem wm_sm.up {k i cn : Nat} {ar ar1 na g : Nat → Nat} (h : wm_sm i cn ar g) (hp : wm_cp (192 * k) 192 na ar ar1) (hc : cn ≤ 24) (hki : i ≠ k) : wm_sm i cn ar1 g := fun a x ha hx => by
  rw [hp.2 _ (by omega)]; exact h a x ha hx
/-- a machine has been put -/
theorem wm_mA.up {M : Nat → Nat × Nat × Nat × (Nat → Nat)} {k : Nat} {q : Nat × Nat × Nat × (Nat → Nat)} {ar ss sa se ar1 na : Nat → Nat} (h : ∀ k, k < 8 → ss k = (M k).1 ∧ sa k = (M k).2.1 ∧ se k = (M k).2.2.1 ∧ wm_sm k (M k).1 ar (M k).2.2.2) (hM : ∀ i, i < 8 → (M i).1 ≤ 24) (hp : wm_cp (192 * k) 192 na ar ar1) (h1 : E' 121 = wm_I C 1536 ar1) (h2 : E' 122 = wm_I C 8 (va_up ss k q.1)) (h3 : E' 123 = wm_I C 8 (va_up sa k q.2.1)) (h4 : E' 124 = wm_I C 8 (va_up se k q.2.2.1)) (hs : wm_sm k q.1 ar1 q.2.2.2) : wm_mA C (va_up M k q) E' := by
  refine ⟨ar1, _, _, _, h1, h2, h3, h4, fun i hi => ?_⟩
  by_cases e : i = k
  · subst e
    rw [va_up_self, va_up_self, va_up_self, va_up_self]
    exact ⟨rfl, rfl, rfl, hs⟩
  · rw [va_up_ne _ _ e, va_up_ne _ _ e, va_up_ne _ _ e, va_up_ne _ _ e]
    exact ⟨(h i hi).1, (h i hi).2.1, (h i hi).2.2.1, (h i hi).2.2.2.up hp (hM i hi) e⟩
theorem wm_MI.m {S : wm_St} {th th' k : Nat} {q : Nat × Nat × Nat × (Nat → Nat)} (h : wm_MI C b S th E) (hO : wm_mO b th' S.2.1.1 S.2.2.1.1 S.2.2.1.2 S.2.2.2.1.1 E') (hA : wm_mA C (va_up S.1 k q) E') (hN : wm_mN C E') (h0 : ∀ j, 120 ≤ j → j < 146 → (j < 121 ∨ 126 ≤ j) → E' j = E j) : wm_MI C b (va_up S.1 k q, S.2) th' E' := ⟨hO, (h0 _ (by omega) (by omega) (by omega)).trans h.2.1, hA, hN, h.2.2.2.2.1.cg (fun j _ _ => h0 j (by omega) (by omega) (by omega)), h.2.2.2.2.2.1.cg (fun j _ _ => h0 j (by omega) (by omega) (by omega)), h.2.2.2.2.2.2.1.cg (h0 _ (by omega) (by omega) (by omega)), h.2.2.2.2.2.2.2.cg (fun j _ _ => h0 j (by omega) (by omega) (by omega))⟩
end WMJ
/-- arguments -/
abbrev wm_no8 (x : Int32) : Prop := ¬ (0 ≤ x ∧ x < nI 8)
theorem wm_lt_n {x : Int32} {k : Nat} (hk : k < 2 ^ 31) (h : 0 ≤ x ∧ x < nI k) : ∃ j, j < k ∧ x = nI j := by
  obtain ⟨j, hj, rfl⟩ := nI_of (show ¬ x < 0 from fun q => absurd h.1 (Int32.not_le.mpr q))
  refine ⟨j, ?_, rfl⟩
  rcases Nat.lt_or_ge j k with q | q
  · exact q
  · exact absurd h.2 (nI_nlt q hj)
theorem wm_le_n {x : Int32} {k : Nat} (hk : k < 2 ^ 31) (h : 0 ≤ x ∧ x ≤ nI k) : ∃ j, j ≤ k ∧ x = nI j := by
  obtain ⟨j, hj, rfl⟩ := nI_of (show ¬ x < 0 from fun q => absurd h.1 (Int32.not_le.mpr q))
  refine ⟨j, ?_, rfl⟩
  rcases Nat.lt_or_ge k j with q | q
  · exact absurd h.2 (nI_ge q hj)
  · exact q
