/-! the outer byte, all its cases -/
def wm_zb (z : wm_pst) : Prop := (z.1.1 ≤ 20 ∧ 1 ≤ z.1.2.1 ∧ z.1.2.1 ≤ 24 ∧ z.1.2.2.1 ≤ 5 ∧ z.1.2.2.2.2 < 8) ∧ (∀ i, z.2.1 i < 2 ^ 24) ∧ (∀ i, z.2.2.1 i < 2 ^ 8) ∧ ∀ i k, (z.2.2.2.2 i k).2.1 < 2 ^ 24 ∧ (z.2.2.2.2 i k).2.2 < 2 ^ 24
def wm_q (C : Nat → ClassId) (b : Nat) (E : Nat → va_E) (fk fp : Nat) (q : Nat × wm_pst) : Int32 → (Nat → va_E) → Prop := fun r E' => r = nI q.1 ∧ wm_rd C b E' fk fp q.2 ∧ ∀ j, (j < 5 ∨ 93 ≤ j) → E' j = E j
set_option maxHeartbeats 4000000 in
theorem kTO (l : Launch) (D : va_G) (C : Nat → ClassId) (b n : Nat) (E : Nat → va_E) (fk fp x : Nat) (z : wm_pst) (hn : 93 ≤ n) (hz : wm_rd C b E fk fp z) (hb : wm_zb z) (hx : x < 256) : Met l yX0_takeOutside (wm_ws yX0_takeOutside cX0_takeOutside 3 (some .int)) { frames := 8, cells := 0, slots := 0, locals := 260 } (va_Pc [.ref (b + 5), .int (wm_sb x)] (wm_G D C b n E)) (va_Qi (wm_q C b E fk fp (wm_to z x)) (fun E' t => wm_P D b n E' t.heap) (wm_A b)) 0 0 (wm_A b) := by
  obtain ⟨⟨op, cn, md, nt, rs⟩, fl, lt, hs, P⟩ := z
  obtain ⟨h5, h6, h7, h8, hw⟩ := hz
  obtain ⟨⟨b1, b2, b3, b4, b5⟩, b6, b7, b8⟩ := hb
  dsimp only at h5 h6 h7 h8 hw b1 b2 b3 b4 b5 b6 b7 b8
  have hr1 : (P op 1).2.2 < 2 ^ 32 := Nat.lt_trans (b8 op 1).2 (by decide)
  have hr2 : (P op 2).2.2 < 2 ^ 32 := Nat.lt_trans (b8 op 2).2 (by decide)
  by_cases hlo : wm_lo x ≠ 4294967295
  · have e : wm_to ((op, cn, md, nt, rs), fl, lt, hs, P) x = wm_as ((op, cn, md, nt, rs), fl, lt, hs, P) (1 <<< wm_lo x) := if_pos hlo
    rw [e]
    by_cases h24 : cn < 24
    · refine wm_mono (ktA1 l D C b n E fk fp op cn md rs x (P op 0).2.1 (P op 0).2.2 (P op 1).2.1 (P op 1).2.2 (P op 2).2.1 (P op 2).2.2 nt (hs op) (P op 0).1 (P op 1).1 (P op 2).1 fl lt (by omega) h5 (by omega) h6 (by omega) h7 (by omega) h8 (by omega) (hw op (by omega)).1 (by omega) (hw op (by omega)).2.1 (by omega) (hw op (by omega)).2.2.1 (by omega) (hw op (by omega)).2.2.2 hx b1 b3 b2 hr1 h24 hlo) ?_
      rintro r u ⟨h1, k5, k7, k8, g0, g1, g2, g3, hq⟩
      refine ⟨?_, ?_, fun j hj => hq j (by omega) (by omega) (by omega) (by omega) (by omega) (by omega) (by omega)⟩
      · unfold wm_as; rw [if_pos h24]; exact h1
      · unfold wm_as; rw [if_pos h24]; exact ⟨k5, (hq 6 (by omega) (by omega) (by omega) (by omega) (by omega) (by omega) (by omega)).trans h6, k7, k8, wm_lw_up hw g0 g1 g2 g3 (fun j _ _ _ _ _ _ => hq j (by omega) (by omega) (by omega) (by omega) (by omega) (by omega) (by omega))⟩
    · refine wm_mono (ktA0 l D C b n E fk fp op cn md rs x nt (by omega) h5 hx (by omega) hlo) ?_
      rintro r u ⟨h1, rfl⟩
      refine ⟨?_, ?_, fun _ _ => rfl⟩
      · unfold wm_as; rw [if_neg h24]; exact h1
      · unfold wm_as; rw [if_neg h24]; exact ⟨h5, h6, h7, h8, hw⟩
  · have hlo : wm_lo x = 4294967295 := Decidable.not_not.mp hlo
    by_cases x1 : x = 46
    · have e : wm_to ((op, cn, md, nt, rs), fl, lt, hs, P) x = wm_as ((op, cn, md, nt, rs), fl, lt, hs, P) 255 := by unfold wm_to; rw [if_neg (fun q => q hlo), if_pos (by omega)]
      rw [e]
      by_cases h24 : cn < 24
      · refine wm_mono (ktD1 l D C b n E fk fp op cn md rs x (P op 0).2.1 (P op 0).2.2 (P op 1).2.1 (P op 1).2.2 (P op 2).2.1 (P op 2).2.2 nt (hs op) (P op 0).1 (P op 1).1 (P op 2).1 fl lt (by omega) h5 (by omega) h6 (by omega) h7 (by omega) h8 (by omega) (hw op (by omega)).1 (by omega) (hw op (by omega)).2.1 (by omega) (hw op (by omega)).2.2.1 (by omega) (hw op (by omega)).2.2.2 hx b1 b3 b2 hr1 h24 x1) ?_
        rintro r u ⟨h1, k5, k7, k8, g0, g1, g2, g3, hq⟩
        refine ⟨?_, ?_, fun j hj => hq j (by omega) (by omega) (by omega) (by omega) (by omega) (by omega) (by omega)⟩
        · unfold wm_as; rw [if_pos h24]; exact h1
        · unfold wm_as; rw [if_pos h24]; exact ⟨k5, (hq 6 (by omega) (by omega) (by omega) (by omega) (by omega) (by omega) (by omega)).trans h6, k7, k8, wm_lw_up hw g0 g1 g2 g3 (fun j _ _ _ _ _ _ => hq j (by omega) (by omega) (by omega) (by omega) (by omega) (by omega) (by omega))⟩
      · refine wm_mono (ktD0 l D C b n E fk fp op cn md rs x nt (by omega) h5 hx (by omega) x1) ?_
        rintro r u ⟨h1, rfl⟩
        refine ⟨?_, ?_, fun _ _ => rfl⟩
        · unfold wm_as; rw [if_neg h24]; exact h1
        · unfold wm_as; rw [if_neg h24]; exact ⟨h5, h6, h7, h8, hw⟩
    by_cases x2 : x = 91
    · have e : wm_to ((op, cn, md, nt, rs), fl, lt, hs, P) x = wm_as ((op, cn, 1, false, rs), fl, lt, hs, P) 0 := by unfold wm_to; rw [if_neg (fun q => q hlo), if_neg (by omega), if_pos (by omega)]
      rw [e]
      by_cases h24 : cn < 24
      · refine wm_mono (ktB1 l D C b n E fk fp op cn md rs x (P op 0).2.1 (P op 0).2.2 (P op 1).2.1 (P op 1).2.2 (P op 2).2.1 (P op 2).2.2 nt (hs op) (P op 0).1 (P op 1).1 (P op 2).1 fl lt (by omega) h5 (by omega) h6 (by omega) h7 (by omega) h8 (by omega) (hw op (by omega)).1 (by omega) (hw op (by omega)).2.1 (by omega) (hw op (by omega)).2.2.1 (by omega) (hw op (by omega)).2.2.2 hx b1 b3 b2 hr1 h24 x2) ?_
        rintro r u ⟨h1, k5, k7, k8, g0, g1, g2, g3, hq⟩
        refine ⟨?_, ?_, fun j hj => hq j (by omega) (by omega) (by omega) (by omega) (by omega) (by omega) (by omega)⟩
        · unfold wm_as; rw [if_pos h24]; exact h1
        · unfold wm_as; rw [if_pos h24]; exact ⟨k5, (hq 6 (by omega) (by omega) (by omega) (by omega) (by omega) (by omega) (by omega)).trans h6, k7, k8, wm_lw_up hw g0 g1 g2 g3 (fun j _ _ _ _ _ _ => hq j (by omega) (by omega) (by omega) (by omega) (by omega) (by omega) (by omega))⟩
      · refine wm_mono (ktB0 l D C b n E fk fp op cn md rs x nt (by omega) h5 hx (by omega) x2) ?_
        rintro r u ⟨h1, k5, hq⟩
        refine ⟨?_, ?_, fun j hj => hq j (by omega)⟩
        · unfold wm_as; rw [if_neg h24]; exact h1
        · unfold wm_as; rw [if_neg h24]; exact ⟨k5, (hq 6 (by omega)).trans h6, (hq 7 (by omega)).trans h7, (hq 8 (by omega)).trans h8, wm_lw_kp hw (fun j _ _ => hq j (by omega))⟩
    by_cases x3 : x = 40
    · by_cases h20 : op < 20
      · have e : wm_to ((op, cn, md, nt, rs), fl, lt, hs, P) x = (0, ((op + 1, cn, md, nt, rs), fl, lt, va_up hs (op + 1) false, wm_pt P (op + 1) (false, 0, 0) wm_e1 wm_e1)) := by unfold wm_to; rw [if_neg (fun q => q hlo), if_neg (by omega), if_neg (by omega), if_pos (by omega), if_pos h20]
        rw [e]
        refine wm_mono (ktO1 l D C b n E fk fp op cn md rs x (P (op + 1) 0).2.1 (P (op + 1) 0).2.2 (P (op + 1) 1).2.1 (P (op + 1) 1).2.2 (P (op + 1) 2).2.1 (P (op + 1) 2).2.2 nt (hs (op + 1)) (P (op + 1) 0).1 (P (op + 1) 1).1 (P (op + 1) 2).1 (by omega) h5 (by omega) h6 (by omega) (hw (op + 1) (by omega)).1 (by omega) (hw (op + 1) (by omega)).2.1 (by omega) (hw (op + 1) (by omega)).2.2.1 (by omega) (hw (op + 1) (by omega)).2.2.2 hx h20 x3) ?_
        rintro r u ⟨h1, k5, g0, g1, g2, g3, hq⟩
        exact ⟨h1, ⟨k5, (hq 6 (by omega) (by omega) (by omega) (by omega) (by omega)).trans h6, (hq 7 (by omega) (by omega) (by omega) (by omega) (by omega)).trans h7, (hq 8 (by omega) (by omega) (by omega) (by omega) (by omega)).trans h8, wm_lw_up hw g0 g1 g2 g3 (fun j _ _ _ _ _ _ => hq j (by omega) (by omega) (by omega) (by omega) (by omega))⟩, fun j hj => hq j (by omega) (by omega) (by omega) (by omega) (by omega)⟩
      · have e : wm_to ((op, cn, md, nt, rs), fl, lt, hs, P) x = (3, ((op, cn, md, nt, rs), fl, lt, hs, P)) := by unfold wm_to; rw [if_neg (fun q => q hlo), if_neg (by omega), if_neg (by omega), if_pos (by omega), if_neg h20]
        rw [e]
        refine wm_mono (ktO0 l D C b n E fk fp op cn md rs x nt (by omega) h5 hx (by omega) x3) ?_
        rintro r u ⟨h1, rfl⟩
        exact ⟨h1, ⟨h5, h6, h7, h8, hw⟩, fun _ _ => rfl⟩
    by_cases x4 : x = 41
    · by_cases h20 : 0 < op
      · obtain ⟨op, rfl⟩ : ∃ k, op = k + 1 := ⟨op - 1, by omega⟩
        have hr3 : (P op 1).2.2 < 2 ^ 32 := Nat.lt_trans (b8 op 1).2 (by decide)
        have e : wm_to ((op + 1, cn, md, nt, rs), fl, lt, hs, P) x = (0, ((op, cn, md, nt, rs), wm_lk (wm_lk fl cn (P (op + 1) 1).2.2 (P (op + 1) 2).2.1) cn (P op 1).2.2 (P op 2).2.1, lt, va_up (va_up hs (op + 1) false) op true, wm_pt (wm_pt P (op + 1) (wm_ap (P (op + 1) 0) (wm_jp (P (op + 1) 1) (P (op + 1) 2))) wm_e1 wm_e1) op (P op 0) (wm_jp (P op 1) (P op 2)) (wm_ap (P (op + 1) 0) (wm_jp (P (op + 1) 1) (P (op + 1) 2))))) := by
          unfold wm_to; rw [if_neg (fun q => q hlo), if_neg (by omega), if_neg (by omega), if_neg (by omega), if_pos (by omega), if_pos h20]
          rfl
        rw [e]
        refine wm_mono (ktC1 l D C b n E fk fp op cn md rs x (P (op + 1) 0).2.1 (P (op + 1) 0).2.2 (P (op + 1) 1).2.1 (P (op + 1) 1).2.2 (P (op + 1) 2).2.1 (P (op + 1) 2).2.2 (P op 0).2.1 (P op 0).2.2 (P op 1).2.1 (P op 1).2.2 (P op 2).2.1 (P op 2).2.2 nt (hs (op + 1)) (P (op + 1) 0).1 (P (op + 1) 1).1 (P (op + 1) 2).1 (hs op) (P op 0).1 (P op 1).1 (P op 2).1 fl (by omega) h5 (by omega) h6 (by omega) h7 (by omega) (hw (op + 1) (by omega)).1 (by omega) (hw (op + 1) (by omega)).2.1 (by omega) (hw (op + 1) (by omega)).2.2.1 (by omega) (hw (op + 1) (by omega)).2.2.2 (by omega) (hw op (by omega)).1 (by omega) (hw op (by omega)).2.1 (by omega) (hw op (by omega)).2.2.1 (by omega) (hw op (by omega)).2.2.2 hx (by omega) b3 b2 hr1 hr3 x4) ?_
        rintro r u ⟨h1, k5, k7, g0, g1, g2, g3, f0, f1, f2, f3, hq⟩
        have hw1 : wm_lw b (fun j => if 9 + 4 * op ≤ j ∧ j ≤ 12 + 4 * op then E j else u j) (va_up hs (op + 1) false) (wm_pt P (op + 1) (wm_ap (P (op + 1) 0) (wm_jp (P (op + 1) 1) (P (op + 1) 2))) wm_e1 wm_e1) := by
          refine wm_lw_up hw ((if_neg (by omega)).trans g0) ((if_neg (by omega)).trans g1) ((if_neg (by omega)).trans g2) ((if_neg (by omega)).trans g3) (fun j _ _ _ _ _ _ => ?_)
          split
          · rfl
          · exact hq j (by omega) (by omega) (by omega) (by omega) (by omega) (by omega) (by omega) (by omega) (by omega) (by omega)
        refine ⟨h1, ⟨k5, (hq 6 (by omega) (by omega) (by omega) (by omega) (by omega) (by omega) (by omega) (by omega) (by omega) (by omega)).trans h6, k7, (hq 8 (by omega) (by omega) (by omega) (by omega) (by omega) (by omega) (by omega) (by omega) (by omega) (by omega)).trans h8, wm_lw_up hw1 f0 f1 f2 f3 (fun j _ _ _ _ _ _ => (if_neg (by omega)).symm)⟩, fun j hj => hq j (by omega) (by omega) (by omega) (by omega) (by omega) (by omega) (by omega) (by omega) (by omega) (by omega)⟩
      · have e : wm_to ((op, cn, md, nt, rs), fl, lt, hs, P) x = (1, ((op, cn, md, nt, rs), fl, lt, hs, P)) := by unfold wm_to; rw [if_neg (fun q => q hlo), if_neg (by omega), if_neg (by omega), if_neg (by omega), if_pos (by omega), if_neg h20]
        rw [e]
        refine wm_mono (ktC0 l D C b n E fk fp op cn md rs x nt (by omega) h5 hx (by omega) x4) ?_
        rintro r u ⟨h1, rfl⟩
        exact ⟨h1, ⟨h5, h6, h7, h8, hw⟩, fun _ _ => rfl⟩
    by_cases x5 : x = 124
    · have e : wm_to ((op, cn, md, nt, rs), fl, lt, hs, P) x = (0, wm_ep ((op, cn, md, nt, rs), fl, lt, hs, P) op) := by unfold wm_to; rw [if_neg (fun q => q hlo), if_neg (by omega), if_neg (by omega), if_neg (by omega), if_neg (by omega), if_pos (by omega)]
      rw [e]
      refine wm_mono (ktE l D C b n E fk fp op cn md rs x (P op 0).2.1 (P op 0).2.2 (P op 1).2.1 (P op 1).2.2 (P op 2).2.1 (P op 2).2.2 nt (hs op) (P op 0).1 (P op 1).1 (P op 2).1 fl (by omega) h5 (by omega) h6 (by omega) h7 (by omega) (hw op (by omega)).1 (by omega) (hw op (by omega)).2.1 (by omega) (hw op (by omega)).2.2.1 (by omega) (hw op (by omega)).2.2.2 hx b1 b3 b2 hr1 x5) ?_
      rintro r u ⟨h1, k7, g0, g1, g2, g3, hq⟩
      exact ⟨h1, ⟨(hq 5 (by omega) (by omega) (by omega) (by omega) (by omega)).trans h5, (hq 6 (by omega) (by omega) (by omega) (by omega) (by omega)).trans h6, k7, (hq 8 (by omega) (by omega) (by omega) (by omega) (by omega)).trans h8, wm_lw_up hw g0 g1 g2 g3 (fun j _ _ _ _ _ _ => hq j (by omega) (by omega) (by omega) (by omega) (by omega))⟩, fun j hj => hq j (by omega) (by omega) (by omega) (by omega) (by omega)⟩
    by_cases x6 : x = 42 ∨ x = 43 ∨ x = 63
    · have e : wm_to ((op, cn, md, nt, rs), fl, lt, hs, P) x = (if hs op then 0 else 1, ((op, cn, md, nt, rs), (if hs op && !decide (x = 63) then wm_lk fl cn (P op 2).2.2 (P op 2).2.1 else fl), lt, va_up hs op (hs op), wm_pt P op (P op 0) (P op 1) ((P op 2).1 || (hs op && !decide (x = 43)), (P op 2).2))) := by unfold wm_to; rw [if_neg (fun q => q hlo), if_neg (by omega), if_neg (by omega), if_neg (by omega), if_neg (by omega), if_neg (by omega), if_pos x6]
      rw [e]
      refine wm_mono (ktR l D C b n E fk fp op cn md rs x (P op 0).2.1 (P op 0).2.2 (P op 1).2.1 (P op 1).2.2 (P op 2).2.1 (P op 2).2.2 nt (hs op) (P op 0).1 (P op 1).1 (P op 2).1 fl (by omega) h5 (by omega) h6 (by omega) h7 (by omega) (hw op (by omega)).1 (by omega) (hw op (by omega)).2.1 (by omega) (hw op (by omega)).2.2.1 (by omega) (hw op (by omega)).2.2.2 hx b1 b3 b2 hr2 x6) ?_
      rintro r u ⟨h1, k7, g3, hq⟩
      exact ⟨h1, ⟨(hq 5 (by omega) (by omega)).trans h5, (hq 6 (by omega) (by omega)).trans h6, k7, (hq 8 (by omega) (by omega)).trans h8, wm_lw_up hw ((hq _ (by omega) (by omega)).trans (hw op (by omega)).1) ((hq _ (by omega) (by omega)).trans (hw op (by omega)).2.1) ((hq _ (by omega) (by omega)).trans (hw op (by omega)).2.2.1) g3 (fun j _ _ _ _ _ _ => hq j (by omega) (by omega))⟩, fun j hj => hq j (by omega) (by omega)⟩
    · have e : wm_to ((op, cn, md, nt, rs), fl, lt, hs, P) x = (1, ((op, cn, md, nt, rs), fl, lt, hs, P)) := by unfold wm_to; rw [if_neg (fun q => q hlo), if_neg (by omega), if_neg (by omega), if_neg (by omega), if_neg (by omega), if_neg (by omega), if_neg x6]
      rw [e]
      refine wm_mono (ktX l D C b n E x hx hlo (by omega) (by omega) (by omega) (by omega) (by omega) (by omega) (by omega) (by omega)) ?_
      rintro r u ⟨h1, rfl⟩
      exact ⟨h1, ⟨h5, h6, h7, h8, hw⟩, fun _ _ => rfl⟩
/-- one byte more -/
def wm_tz (z : wm_pst) (x : Nat) : Nat × wm_pst := ((wm_ti z.1.2.1 z.1.2.2.1 z.1.2.2.2.1 z.1.2.2.2.2 z.2.2.1 x).1, ((z.1.1, z.1.2.1, (wm_ti z.1.2.1 z.1.2.2.1 z.1.2.2.2.1 z.1.2.2.2.2 z.2.2.1 x).2.1, (wm_ti z.1.2.1 z.1.2.2.1 z.1.2.2.2.1 z.1.2.2.2.2 z.2.2.1 x).2.2.1, (wm_ti z.1.2.1 z.1.2.2.1 z.1.2.2.2.1 z.1.2.2.2.2 z.2.2.1 x).2.2.2.1), z.2.1, (wm_ti z.1.2.1 z.1.2.2.1 z.1.2.2.2.1 z.1.2.2.2.2 z.2.2.1 x).2.2.2.2, z.2.2.2))
def wm_by (z : wm_pst) (x : Nat) : Nat × wm_pst := if z.1.2.2.1 = 0 then wm_to z x else wm_tz z x
theorem kTI (l : Launch) (D : va_G) (C : Nat → ClassId) (b n : Nat) (E : Nat → va_E) (fk fp x : Nat) (z : wm_pst) (hn : 93 ≤ n) (hz : wm_rd C b E fk fp z) (hb : wm_zb z) (hx : x < 256) : Met l yX0_takeInside (wm_ws yX0_takeInside cX0_takeInside 3 (some .int)) { frames := 1, cells := 0, slots := 0, locals := 22 } (va_Pc [.ref (b + 5), .int (wm_sb x)] (wm_G D C b n E)) (va_Qi (wm_q C b E fk fp (wm_tz z x)) (fun E' t => wm_P D b n E' t.heap) (wm_A b)) 0 0 (wm_A b) := by
  obtain ⟨⟨op, cn, md, nt, rs⟩, fl, lt, hs, P⟩ := z
  obtain ⟨h5, h6, h7, h8, hw⟩ := hz
  obtain ⟨⟨b1, b2, b3, b4, b5⟩, b6, b7, b8⟩ := hb
  dsimp only at h5 h6 h7 h8 hw b1 b2 b3 b4 b5 b6 b7 b8
  refine wm_mono (kX0_takeInside l D C b n E fk fp op cn md rs x nt lt (by omega) h5 (by omega) h8 hx b3 b2 b4 b5) ?_
  rintro r u ⟨h1, k5, k8, hq⟩
  exact ⟨h1, ⟨k5, (hq 6 (by omega) (by omega)).trans h6, (hq 7 (by omega) (by omega)).trans h7, k8, wm_lw_kp hw (fun j _ _ => hq j (by omega) (by omega))⟩, fun j hj => hq j (by omega) (by omega)⟩
