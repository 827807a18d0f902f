/-! the reference's read -/
theorem wm_rel0 {z : wm_pst} {ml fo pF pL rF rL : Nat → Nat} {pB rB : Nat → Bool} : wm_rel (wm_z0 z) 0 0 ml fo (va_up pF 0 0) (va_up pL 0 0) (va_up rF 0 0) (va_up rL 0 0) (va_up pB 0 false) (va_up rB 0 true) := by
  refine ⟨⟨rfl, rfl, rfl, (show (1 : Nat) ≤ 24 by decide), Nat.zero_le _, fun x h1 h2 => ?_, fun i hi => ?_, fun i k hi hk => ?_⟩, fun x h1 h2 => ?_, fun i hi => ?_, fun _ => (show wm_pt z.2.2.2.2 0 (false, 0, 0) wm_e1 wm_e1 0 2 = wm_e1 from (wm_pt_at _ _ _ _ _).2.2)⟩
  · have h2 : x < 1 := h2
    omega
  · have e : i = 0 := by omega
    subst e
    rw [va_up_self, va_up_self, va_up_self]
    exact (show wm_pt z.2.2.2.2 0 (false, 0, 0) wm_e1 wm_e1 0 0 = (false, 0, 0) from (wm_pt_at _ _ _ _ _).1).symm
  · have e : i = 0 := by omega
    subst e
    have hk3 : k = 0 ∨ k = 1 ∨ k = 2 := by omega
    show (wm_pt z.2.2.2.2 0 (false, 0, 0) wm_e1 wm_e1 0 k).2.1 < 2 ^ 1 ∧ (wm_pt z.2.2.2.2 0 (false, 0, 0) wm_e1 wm_e1 0 k).2.2 < 2 ^ 1
    rcases hk3 with rfl | rfl | rfl
    · rw [(wm_pt_at _ _ _ _ _).1]; decide
    · rw [(wm_pt_at _ _ _ _ _).2.1]; decide
    · rw [(wm_pt_at _ _ _ _ _).2.2]; decide
  · have h2 : x < 1 := h2
    omega
  · have e : i = 0 := by omega
    subst e
    rw [va_up_self, va_up_self, va_up_self]
    show _ = wm_jp (wm_pt z.2.2.2.2 0 (false, 0, 0) wm_e1 wm_e1 0 1) (wm_pt z.2.2.2.2 0 (false, 0, 0) wm_e1 wm_e1 0 2)
    rw [(wm_pt_at _ _ _ _ _).2.1, (wm_pt_at _ _ _ _ _).2.2]
    rfl
def wm_inv (tx : Nat → Nat) (sz : Nat) (R : Nat × Nat × wm_pst) (fa pl aa ats op : Nat) (ml fo pF pL rF rL : Nat → Nat) (pB rB : Nat → Bool) : Prop := (fa = 0 ∧ pl = 4294967295 ∧ ∃ z, wm_go tx (sz - aa) aa z = R ∧ aa ≤ sz ∧ wm_rel z ats op ml fo pF pL rF rL pB rB ∧ (z.2.2.2.1 op = true → ¬ wm_sgn (wm_ba tx sz aa))) ∨ (fa ≠ 0 ∧ fa ≤ 4 ∧ wm_kd R = fa ∧ wm_pl R = pl)
theorem wm_inv_s {tx : Nat → Nat} {sz : Nat} {R R0 : Nat × Nat × wm_pst} {fa pl aa ats op pl0 a0 : Nat} {ml fo pF pL rF rL : Nat → Nat} {pB rB : Nat → Bool} (hR : R0 = R) (hp : pl0 = 4294967295) (h : (fa = 0 ∧ pl = pl0 ∧ wm_ok tx sz R0 a0 aa ats op ml fo pF pL rF rL pB rB) ∨ (fa ≠ 0 ∧ fa ≤ 4 ∧ wm_kd R0 = fa ∧ wm_pl R0 = pl)) : wm_inv tx sz R fa pl aa ats op ml fo pF pL rF rL pB rB ∧ (fa = 0 → a0 < aa ∧ aa ≤ sz) := by
  subst hR
  rcases h with ⟨h1, h2, z, b1, b2, b3, b4, b5⟩ | h
  · exact ⟨Or.inl ⟨h1, h2.trans hp, z, b1, b3, b4, b5⟩, fun _ => ⟨b2, b3⟩⟩
  · exact ⟨Or.inr h, fun q => absurd q h.1⟩
theorem wm_inv_le {tx : Nat → Nat} {sz : Nat} {R : Nat × Nat × wm_pst} {fa pl aa ats op : Nat} {ml fo pF pL rF rL : Nat → Nat} {pB rB : Nat → Bool} (h : wm_inv tx sz R fa pl aa ats op ml fo pF pL rF rL pB rB) : fa ≤ 4 := by
  rcases h with h | h
  · omega
  · exact h.2.1
/-- the text's end, nothing faulty so far -/
theorem wm_inv_e {tx : Nat → Nat} {sz : Nat} {R : Nat × Nat × wm_pst} {fa pl aa ats op : Nat} {ml fo pF pL rF rL : Nat → Nat} {pB rB : Nat → Bool} (h : wm_inv tx sz R fa pl aa ats op ml fo pF pL rF rL pB rB) (hf : fa = 0) (ha : sz ≤ aa) : pl = 4294967295 ∧ R.1 = 0 ∧ R.2.1 = sz ∧ wm_rel R.2.2 ats op ml fo pF pL rF rL pB rB := by
  rcases h with ⟨-, h2, z, b1, b2, b3, -⟩ | h
  · have e := wm_ge tx b1 ha
    rw [e]
    exact ⟨h2, rfl, by dsimp only; omega, b3⟩
  · exact absurd hf h.1
theorem wm_kd_op {R : Nat × Nat × wm_pst} {ats op : Nat} {ml fo pF pL rF rL : Nat → Nat} {pB rB : Nat → Bool} (h : wm_rel R.2.2 ats op ml fo pF pL rF rL pB rB) (h0 : R.1 = 0) : (0 < op → wm_kd R = 1 ∧ wm_pl R = R.2.1) ∧ (op = 0 → wm_kd R = 0 ∧ wm_pl R = 4294967295) := by
  have c2 := h.1.2.1
  have c3 := h.1.2.2.1
  refine ⟨fun q => ?_, fun q => ?_⟩
  · have e : wm_kd R = 1 := if_pos ⟨h0, Or.inr (by omega)⟩
    exact ⟨e, by unfold wm_pl; rw [e, if_neg (by decide)]⟩
  · have e : wm_kd R = 0 := by
      unfold wm_kd
      rw [if_neg (fun q2 => q2.2.elim (fun q3 => q3 c3) (fun q3 => by omega))]
      exact h0
    exact ⟨e, by unfold wm_pl; rw [e, if_pos rfl]⟩
/-- the row of the new machine -/
theorem wm_rdrow {z : wm_pst} {ats : Nat} {ml fo pF pL rF rL : Nat → Nat} {pB rB : Nat → Bool} (h : wm_rel z ats 0 ml fo pF pL rF rL pB rB) : (∀ s, s < z.1.2.1 → va_up fo 0 (pF 0 ||| rF 0) s = (wm_z9 z).2.1 s) ∧ (if pB 0 || rB 0 then (pL 0 ||| rL 0) ||| 1 else pL 0 ||| rL 0) = wm_en z := by
  obtain ⟨⟨op0, cn, md, nt, rs⟩, fl, lt, hs, P⟩ := z
  obtain ⟨⟨c1, c2, c3, c4, c5, c6, c7, c8⟩, h2, h3, h4⟩ := h
  dsimp only at *
  have hp0 := c7 0 (Nat.le_refl _)
  have hr0 := h3 0 (Nat.le_refl _)
  have e : (wm_ep ((op0, cn, md, nt, rs), fl, lt, hs, P) 0).2.2.2.2 0 0 = (pB 0 || rB 0, pF 0 ||| rF 0, pL 0 ||| rL 0) := by
    show wm_pt P 0 (wm_ap (P 0 0) (wm_jp (P 0 1) (P 0 2))) wm_e1 wm_e1 0 0 = _
    rw [(wm_pt_at _ _ _ _ _).1, ← hp0, ← hr0]
  refine ⟨fun s hs9 => ?_, ?_⟩
  · unfold wm_z9
    rw [e]
    dsimp only
    by_cases q : s = 0
    · rw [q, va_up_self, va_up_self]
    · rw [va_up_ne _ _ q, va_up_ne _ _ q, h2 s (by omega) hs9]
      show _ = wm_lk fl cn (P 0 1).2.2 (P 0 2).2.1 s
      rw [wm_lk_in (by omega) hs9]
      congr 1
      show wm_or 1 _ = _
      rw [show (1 : Nat) = 0 + 1 from rfl, wm_or_s]
      show 0 ||| _ = _
      rw [Nat.zero_or]
      rfl
  · unfold wm_en
    rw [e]
    dsimp only
    cases pB 0 || rB 0
    · simp
    · simp
theorem wm_rdlt {z : wm_pst} (hz : wm_zb z) : (∀ s, (wm_z9 z).2.1 s < 2 ^ 24) ∧ ∀ s, z.2.2.1 s < 2 ^ 8 := ⟨(wm_z9_b hz).2.1, hz.2.2.1⟩
theorem wm_rdna {z : wm_pst} {ats : Nat} {ml fo na : Nat → Nat} (hc : ats + 1 = z.1.2.1) (hc4 : z.1.2.1 ≤ 24) (hml : ∀ x, 1 ≤ x → x < z.1.2.1 → ml x = z.2.2.1 x) (hfo : ∀ s, s < z.1.2.1 → fo s = (wm_z9 z).2.1 s) (h : wm_t3 (fun s l t => if 1 ≤ t ∧ (fo s).testBit t = true ∧ (ml t).testBit l = true then 1 <<< t else 0) (ats + 1) (ats + 1) 0 0 na) : ∀ s l, s < z.1.2.1 → l < 8 → na (8 * s + l) = (wm_z9 z).2.1 s &&& wm_sw1 z.1.2.1 z.2.2.1 l := by
  intro s l hs hl
  rw [h s l (by omega) hl, if_pos (by omega), hc]
  apply wm_eqb
  intro i
  unfold wm_sw1
  rw [wm_or_tb, Nat.testBit_and, Bool.and_eq_true, wm_or_tb, ← hfo s hs]
  constructor
  · rintro ⟨t, ht, hb⟩
    dsimp only at hb
    by_cases q : 1 ≤ t ∧ (fo s).testBit t = true ∧ (ml t).testBit l = true
    · rw [if_pos q, Nat.one_shiftLeft, Nat.testBit_two_pow, decide_eq_true_eq] at hb
      subst hb
      exact ⟨q.2.1, t, ht, by rw [if_pos ⟨q.1, by rw [← hml t q.1 ht]; exact q.2.2⟩, Nat.one_shiftLeft, Nat.testBit_two_pow]; simp⟩
    · rw [if_neg q, Nat.zero_testBit] at hb; cases hb
  · rintro ⟨hb1, t, ht, hb⟩
    by_cases q : 1 ≤ t ∧ (z.2.2.1 t).testBit l = true
    · rw [if_pos q, Nat.one_shiftLeft, Nat.testBit_two_pow, decide_eq_true_eq] at hb
      subst hb
      exact ⟨t, ht, by dsimp only; rw [if_pos ⟨q.1, hb1, by rw [hml t q.1 ht]; exact q.2⟩, Nat.one_shiftLeft, Nat.testBit_two_pow]; simp⟩
    · rw [if_neg q, Nat.zero_testBit] at hb; cases hb
theorem wm_inv_aa {tx : Nat → Nat} {sz : Nat} {R : Nat × Nat × wm_pst} {fa pl aa ats op : Nat} {ml fo pF pL rF rL : Nat → Nat} {pB rB : Nat → Bool} (h : wm_inv tx sz R fa pl aa ats op ml fo pF pL rF rL pB rB) (hf : fa = 0) : aa ≤ sz := by
  rcases h with ⟨-, -, z, -, b2, -⟩ | h
  · exact b2
  · exact absurd hf h.1
theorem wm_mdec {fa fa1 aa aa1 sz fu : Nat} (hm : (if fa = 0 then 201 - aa else 0) < fu + 1) (hf : fa = 0) (ha : aa < sz) (h : fa1 = 0 → aa < aa1 ∧ aa1 ≤ sz) (hsz : sz ≤ 200 := by assumption) : (if fa1 = 0 then 201 - aa1 else 0) < fu := by
  rw [if_pos hf] at hm
  by_cases q : fa1 = 0
  · rw [if_pos q]; have := h q; omega
  · rw [if_neg q]; omega
theorem wm_z0_hs (z : wm_pst) : (wm_z0 z).2.2.2.1 0 = false := by
  show va_up z.2.2.2.1 0 false 0 = false
  exact va_up_self _ _ _
