/-! the two readers, side by side -/
def wm_pd (P : Nat → Nat → Bool × Nat × Nat) (x i : Nat) : Nat := if (P i 1).2.2.testBit x = true then (P i 2).2.1 else 0
def wm_relc (z : wm_pst) (ats op : Nat) (ml pF pL : Nat → Nat) (pB : Nat → Bool) : Prop := ats + 1 = z.1.2.1 ∧ op = z.1.1 ∧ z.1.2.2.1 = 0 ∧ z.1.2.1 ≤ 24 ∧ op ≤ 20 ∧ (∀ x, 1 ≤ x → x < z.1.2.1 → ml x = z.2.2.1 x) ∧ (∀ i, i ≤ op → (pB i, pF i, pL i) = z.2.2.2.2 i 0) ∧ ∀ i k, i ≤ op → k ≤ 2 → (z.2.2.2.2 i k).2.1 < 2 ^ z.1.2.1 ∧ (z.2.2.2.2 i k).2.2 < 2 ^ z.1.2.1
def wm_rel (z : wm_pst) (ats op : Nat) (ml fo pF pL rF rL : Nat → Nat) (pB rB : Nat → Bool) : Prop := wm_relc z ats op ml pF pL pB ∧ (∀ x, 1 ≤ x → x < z.1.2.1 → fo x = z.2.1 x ||| wm_or (op + 1) (wm_pd z.2.2.2.2 x)) ∧ (∀ i, i ≤ op → (rB i, rF i, rL i) = wm_jp (z.2.2.2.2 i 1) (z.2.2.2.2 i 2)) ∧ (z.2.2.2.1 op = false → z.2.2.2.2 op 2 = wm_e1)
/-- .. with a thing at hand that is not in its row yet -/
def wm_relT (z : wm_pst) (ats op : Nat) (be : Bool) (fi la : Nat) (ml fo pF pL rF rL : Nat → Nat) (pB rB : Nat → Bool) : Prop := wm_relc z ats op ml pF pL pB ∧ (∀ x, 1 ≤ x → x < z.1.2.1 → fo x = z.2.1 x ||| wm_or op (wm_pd z.2.2.2.2 x)) ∧ (∀ i, i < op → (rB i, rF i, rL i) = wm_jp (z.2.2.2.2 i 1) (z.2.2.2.2 i 2)) ∧ (rB op, rF op, rL op) = z.2.2.2.2 op 1 ∧ z.2.2.2.2 op 2 = (be, fi, la) ∧ z.2.2.2.1 op = true
abbrev wm_sgn (c : Nat) : Prop := c = 42 ∨ c = 43 ∨ c = 63
theorem wm_to_sg {z : wm_pst} {c : Nat} (h : wm_sgn c) (hh : z.2.2.2.1 z.1.1 = true) : wm_to z c = (0, (z.1, (if c = 63 then z.2.1 else wm_lk z.2.1 z.1.2.1 (z.2.2.2.2 z.1.1 2).2.2 (z.2.2.2.2 z.1.1 2).2.1), z.2.2.1, va_up z.2.2.2.1 z.1.1 true, wm_pt z.2.2.2.2 z.1.1 (z.2.2.2.2 z.1.1 0) (z.2.2.2.2 z.1.1 1) ((z.2.2.2.2 z.1.1 2).1 || !decide (c = 43), (z.2.2.2.2 z.1.1 2).2))) := by
  have hlo : wm_lo c = 4294967295 := by rcases h with h | h | h <;> (rw [h]; decide)
  unfold wm_to
  rw [if_neg (fun q => q hlo), if_neg (by omega), if_neg (by omega), if_neg (by omega), if_neg (by omega), if_neg (by omega), if_pos h, hh]
  simp only [if_true, Bool.true_and]
  congr 2
  by_cases e : c = 63
  · simp [e]
  · simp [e]
theorem wm_by0 {z : wm_pst} {c : Nat} (h : z.1.2.2.1 = 0) : wm_by z c = wm_to z c := if_pos h
theorem wm_pd_pt {P : Nat → Nat → Bool × Nat × Nat} {o x i : Nat} {p0 p1 p2 : Bool × Nat × Nat} (h : i ≠ o) : wm_pd (wm_pt P o p0 p1 p2) x i = wm_pd P x i := by
  unfold wm_pd
  rw [wm_pt_ne h, wm_pt_ne h]
theorem wm_pd_at {P : Nat → Nat → Bool × Nat × Nat} {o x : Nat} {p0 p1 p2 : Bool × Nat × Nat} : wm_pd (wm_pt P o p0 p1 p2) x o = if p1.2.2.testBit x = true then p2.2.1 else 0 := by
  unfold wm_pd
  rw [(wm_pt_at P o p0 p1 p2).2.1, (wm_pt_at P o p0 p1 p2).2.2]
theorem wm_orpd {P : Nat → Nat → Bool × Nat × Nat} {o x k : Nat} {p0 p1 p2 : Bool × Nat × Nat} (h : k ≤ o) : wm_or k (wm_pd (wm_pt P o p0 p1 p2) x) = wm_or k (wm_pd P x) := wm_or_cg (fun j hj => wm_pd_pt (by omega))
theorem wm_lk_in {fl : Nat → Nat} {k la fi x : Nat} (h1 : 1 ≤ x) (h2 : x < k) : wm_lk fl k la fi x = fl x ||| (if la.testBit x = true then fi else 0) := by
  unfold wm_lk
  by_cases h : la.testBit x = true
  · rw [if_pos ⟨h1, h2, h⟩, if_pos h]
  · rw [if_neg (fun q => h q.2.2), if_neg h, Nat.or_zero]
theorem wm_ld_in {fo : Nat → Nat} {y z x : Nat} (h : x < 24) : wm_ld fo 24 y z x = fo x ||| (if y.testBit x = true then z else 0) := by
  unfold wm_ld
  by_cases hb : y.testBit x = true
  · rw [if_pos ⟨h, hb⟩, if_pos hb]
  · rw [if_neg (fun q => hb q.2), if_neg hb, Nat.or_zero]
/-- one sign -/
theorem wm_relT_s {z : wm_pst} {ats op fi la c : Nat} {be : Bool} {ml fo pF pL rF rL : Nat → Nat} {pB rB : Nat → Bool} (h : wm_relT z ats op be fi la ml fo pF pL rF rL pB rB) (hc : wm_sgn c) : ∃ z1, wm_by z c = (0, z1) ∧ wm_relT z1 ats op (be || !decide (c = 43)) fi la ml (if c = 63 then fo else wm_ld fo 24 la fi) pF pL rF rL pB rB := by
  obtain ⟨⟨op0, cn, md, nt, rs⟩, fl, lt, hs, P⟩ := z
  obtain ⟨⟨c1, c2, c3, c4, c5, c6, c7, c8⟩, h2, h3, h4, h5, h6⟩ := h
  dsimp only at *
  subst c2
  have e := wm_to_sg (z := ((op, cn, md, nt, rs), fl, lt, hs, P)) hc h6
  refine ⟨_, (wm_by0 c3).trans e, ?_⟩
  dsimp only
  rw [h5]
  refine ⟨⟨c1, rfl, c3, c4, c5, c6, fun i hi => ?_, fun i k hi hk => ?_⟩, fun x hx1 hx2 => ?_, fun i hi => ?_, ?_, ?_, va_up_self _ _ _⟩
  all_goals (try dsimp only)
  · by_cases q : i = op
    · subst q; rw [(wm_pt_at P i _ _ _).1]; exact c7 i hi
    · rw [wm_pt_ne q]; exact c7 i hi
  · have h9 := c8 i k hi hk
    by_cases q : i = op
    · subst q
      have hk3 : k = 0 ∨ k = 1 ∨ k = 2 := by omega
      rcases hk3 with rfl | rfl | rfl
      · rw [(wm_pt_at P i _ _ _).1]; exact h9
      · rw [(wm_pt_at P i _ _ _).2.1]; exact h9
      · rw [(wm_pt_at P i _ _ _).2.2]; rw [h5] at h9; exact h9
    · rw [wm_pt_ne q]; exact h9
  · have hx2 : x < cn := hx2
    rw [wm_orpd (Nat.le_refl _)]
    have h9 := h2 x hx1 hx2
    by_cases e63 : c = 63
    · rw [if_pos e63, if_pos e63]; exact h9
    · rw [if_neg e63, if_neg e63, wm_ld_in (by omega), wm_lk_in hx1 hx2, h9, Nat.or_assoc, Nat.or_assoc, Nat.or_comm (wm_or op _)]
  · rw [wm_pt_ne (by omega), wm_pt_ne (by omega)]; exact h3 i hi
  · rw [(wm_pt_at P op _ _ _).2.1]; exact h4
  · rw [(wm_pt_at P op _ _ _).2.2]
theorem wm_tkL {tx : Nat → Nat} {sz ats op fi la : Nat} {ml pF pL rF rL : Nat → Nat} {pB rB : Nat → Bool} : ∀ (m aa : Nat) (be : Bool) (fo : Nat → Nat) (z : wm_pst), m = sz - aa → aa ≤ sz → wm_relT z ats op be fi la ml fo pF pL rF rL pB rB →
    ∃ z2, wm_go tx (sz - (wm_sg tx sz la fi m aa be fo).1) (wm_sg tx sz la fi m aa be fo).1 z2 = wm_go tx (sz - aa) aa z ∧ aa ≤ (wm_sg tx sz la fi m aa be fo).1 ∧ (wm_sg tx sz la fi m aa be fo).1 ≤ sz ∧ ¬ wm_sgn (wm_ba tx sz (wm_sg tx sz la fi m aa be fo).1) ∧ wm_relT z2 ats op (wm_sg tx sz la fi m aa be fo).2.1 fi la ml (wm_sg tx sz la fi m aa be fo).2.2 pF pL rF rL pB rB := by
  intro m
  induction m with
  | zero =>
    intro aa be fo z hm ha h
    rw [wm_sg]
    refine ⟨z, rfl, Nat.le_refl _, ha, ?_, h⟩
    have : wm_ba tx sz aa = 4294967295 := if_neg (by omega)
    rw [this]; decide
  | succ m ih =>
    intro aa be fo z hm ha h
    rw [wm_sg]
    by_cases hc : wm_sgn (wm_ba tx sz aa)
    · rw [if_pos hc]
      have hlt : aa < sz := by omega
      have hb : wm_ba tx sz aa = tx aa := if_pos hlt
      obtain ⟨z1, e1, h1⟩ := wm_relT_s h hc
      rw [hb] at e1
      obtain ⟨z2, a1, a2, a3, a4, a5⟩ := ih (aa + 1) _ _ z1 (by omega) (by omega) h1
      exact ⟨z2, a1.trans (wm_gs tx rfl hlt e1), by omega, a3, a4, a5⟩
    · rw [if_neg hc]
      exact ⟨z, rfl, Nat.le_refl _, ha, hc, h⟩
/-- the thing goes into its row -/
theorem wm_rel_tk {z : wm_pst} {ats op fi la : Nat} {be : Bool} {ml fo pF pL rF rL : Nat → Nat} {pB rB : Nat → Bool} (h : wm_relT z ats op be fi la ml fo pF pL rF rL pB rB) : wm_rel z ats op ml (wm_ld fo 24 (rL op) fi) pF pL (va_up rF op (if rB op then rF op ||| fi else rF op)) (va_up rL op (if be then rL op ||| la else la)) pB (va_up rB op (rB op && be)) := by
  obtain ⟨⟨op0, cn, md, nt, rs⟩, fl, lt, hs, P⟩ := z
  obtain ⟨⟨c1, c2, c3, c4, c5, c6, c7, c8⟩, h2, h3, h4, h5, h6⟩ := h
  dsimp only at *
  subst c2
  refine ⟨⟨c1, rfl, c3, c4, c5, c6, c7, c8⟩, fun x hx1 hx2 => ?_, fun i hi => ?_, fun q => ?_⟩
  · have hx2 : x < cn := hx2
    dsimp only
    rw [wm_ld_in (by omega), h2 x hx1 hx2, wm_or_s, Nat.or_assoc]
    congr 2
    unfold wm_pd
    rw [h5, ← h4]
  · dsimp only
    by_cases q : i = op
    · subst q
      rw [va_up_self, va_up_self, va_up_self, ← h4, h5]
      unfold wm_jp
      dsimp only
      congr 2
      · cases rB i <;> simp
      · cases be
        · simp
        · simp [Nat.or_comm]
    · rw [va_up_ne _ _ q, va_up_ne _ _ q, va_up_ne _ _ q]; exact h3 i (by omega)
  · dsimp only at q
    rw [h6] at q; cases q
/-- a new state stands for the thing -/
theorem wm_relT_as {z : wm_pst} {ats op v : Nat} {ml fo pF pL rF rL : Nat → Nat} {pB rB : Nat → Bool} (h : wm_rel z ats op ml fo pF pL rF rL pB rB) (hc : z.1.2.1 < 24) {nt : Bool} {rs : Nat} : wm_relT ((z.1.1, z.1.2.1 + 1, 0, nt, rs), wm_lk (va_up z.2.1 z.1.2.1 0) z.1.2.1 (z.2.2.2.2 z.1.1 1).2.2 (z.2.2.2.2 z.1.1 2).2.1, va_up z.2.2.1 z.1.2.1 v, va_up z.2.2.2.1 z.1.1 true, wm_pt z.2.2.2.2 z.1.1 (z.2.2.2.2 z.1.1 0) (wm_jp (z.2.2.2.2 z.1.1 1) (z.2.2.2.2 z.1.1 2)) (false, 1 <<< z.1.2.1, 1 <<< z.1.2.1)) (ats + 1) op false (1 <<< (ats + 1)) (1 <<< (ats + 1)) (va_up ml (ats + 1) v) (va_up fo (ats + 1) 0) pF pL rF rL pB rB := by
  obtain ⟨⟨op0, cn, md, nt0, rs0⟩, fl, lt, hs, P⟩ := z
  obtain ⟨⟨c1, c2, c3, c4, c5, c6, c7, c8⟩, h2, h3, h4⟩ := h
  dsimp only at *
  subst c2
  subst c1
  have hpow : 2 ^ (ats + 1) ≤ 2 ^ (ats + 1 + 1) := Nat.pow_le_pow_right (by decide) (by omega)
  have h1l : 1 <<< (ats + 1) < 2 ^ (ats + 1 + 1) := by rw [Nat.one_shiftLeft]; exact Nat.pow_lt_pow_right (by decide) (by omega)
  refine ⟨⟨rfl, rfl, rfl, hc, c5, fun x hx1 hx2 => ?_, fun i hi => ?_, fun i k hi hk => ?_⟩, fun x hx1 hx2 => ?_, fun i hi => ?_, ?_, ?_, va_up_self _ _ _⟩
  all_goals (try dsimp only)
  · have hx2 : x < ats + 1 + 1 := hx2
    by_cases q : x = ats + 1
    · rw [q, va_up_self, va_up_self]
    · rw [va_up_ne _ _ q, va_up_ne _ _ q]; exact c6 x hx1 (by omega)
  · by_cases q : i = op
    · subst q; rw [(wm_pt_at P i _ _ _).1]; exact c7 i hi
    · rw [wm_pt_ne q]; exact c7 i hi
  · by_cases q : i = op
    · subst q
      have hk3 : k = 0 ∨ k = 1 ∨ k = 2 := by omega
      have a1 := c8 i 1 hi (by decide)
      have a2 := c8 i 2 hi (by decide)
      rcases hk3 with rfl | rfl | rfl
      · rw [(wm_pt_at P i _ _ _).1]; have := c8 i 0 hi (by decide); exact ⟨by omega, by omega⟩
      · rw [(wm_pt_at P i _ _ _).2.1]
        refine ⟨Nat.or_lt_two_pow (by omega) ?_, Nat.or_lt_two_pow (by omega) ?_⟩
        · split
          · omega
          · exact Nat.two_pow_pos _
        · split
          · omega
          · exact Nat.two_pow_pos _
      · rw [(wm_pt_at P i _ _ _).2.2]; exact ⟨h1l, h1l⟩
    · rw [wm_pt_ne q]; have := c8 i k hi hk; exact ⟨by omega, by omega⟩
  · have hx2 : x < ats + 1 + 1 := hx2
    rw [wm_orpd (Nat.le_refl _)]
    by_cases q : x = ats + 1
    · subst q
      rw [va_up_self]
      have e1 : wm_lk (va_up fl (ats + 1) 0) (ats + 1) (P op 1).2.2 (P op 2).2.1 (ats + 1) = 0 := by
        unfold wm_lk
        rw [if_neg (by omega), va_up_self]
      rw [e1, Nat.zero_or, wm_or_z]
      intro j hj
      unfold wm_pd
      rw [wm_hi (c8 j 1 (by omega) (by decide)).2 (Nat.le_refl _)]
      rfl
    · rw [va_up_ne _ _ q, h2 x hx1 (by omega), wm_lk_in hx1 (by omega), va_up_ne _ _ q, wm_or_s, Nat.or_assoc]
      congr 1
      rw [Nat.or_comm]
      rfl
  · rw [wm_pt_ne (by omega), wm_pt_ne (by omega)]; exact h3 i (by omega)
  · rw [(wm_pt_at P op _ _ _).2.1]; exact h3 op (Nat.le_refl _)
  · rw [(wm_pt_at P op _ _ _).2.2]
def wm_ok (tx : Nat → Nat) (sz : Nat) (R : Nat × Nat × wm_pst) (a0 a1 ats op : Nat) (ml fo pF pL rF rL : Nat → Nat) (pB rB : Nat → Bool) : Prop := ∃ z, wm_go tx (sz - a1) a1 z = R ∧ a0 < a1 ∧ a1 ≤ sz ∧ wm_rel z ats op ml fo pF pL rF rL pB rB ∧ (z.2.2.2.1 op = true → ¬ wm_sgn (wm_ba tx sz a1))
theorem wm_okT {tx : Nat → Nat} {sz a0 a1 ats op fi la : Nat} {be : Bool} {R : Nat × Nat × wm_pst} {ml fo pF pL rF rL : Nat → Nat} {pB rB : Nat → Bool} {z : wm_pst} (hr : wm_go tx (sz - a1) a1 z = R) (h0 : a0 < a1) (h1 : a1 ≤ sz) (h : wm_relT z ats op be fi la ml fo pF pL rF rL pB rB) :
    wm_ok tx sz R a0 (wm_sg tx sz la fi (sz - a1) a1 be fo).1 ats op ml (wm_ld (wm_sg tx sz la fi (sz - a1) a1 be fo).2.2 24 (rL op) fi) pF pL (va_up rF op (if rB op then rF op ||| fi else rF op)) (va_up rL op (if (wm_sg tx sz la fi (sz - a1) a1 be fo).2.1 then rL op ||| la else la)) pB (va_up rB op (rB op && (wm_sg tx sz la fi (sz - a1) a1 be fo).2.1)) := by
  obtain ⟨z2, b1, b2, b3, b4, b5⟩ := wm_tkL (tx := tx) (sz := sz) _ a1 be fo z rfl h1 h
  exact ⟨z2, b1.trans hr, by omega, b3, wm_rel_tk b5, fun _ => b4⟩
/-- the state in which a new state was added, with the letters v -/
def wm_za (z : wm_pst) (nt : Bool) (rs v : Nat) : wm_pst := ((z.1.1, z.1.2.1 + 1, 0, nt, rs), wm_lk (va_up z.2.1 z.1.2.1 0) z.1.2.1 (z.2.2.2.2 z.1.1 1).2.2 (z.2.2.2.2 z.1.1 2).2.1, va_up z.2.2.1 z.1.2.1 v, va_up z.2.2.2.1 z.1.1 true, wm_pt z.2.2.2.2 z.1.1 (z.2.2.2.2 z.1.1 0) (wm_jp (z.2.2.2.2 z.1.1 1) (z.2.2.2.2 z.1.1 2)) (false, 1 <<< z.1.2.1, 1 <<< z.1.2.1))
theorem wm_stA {tx : Nat → Nat} {sz aa ats op v : Nat} {ml fo pF pL rF rL : Nat → Nat} {pB rB : Nat → Bool} {z : wm_pst} (h : wm_rel z ats op ml fo pF pL rF rL pB rB) (hc : ats < 23) (ha : aa < sz) (hv : ((97 ≤ tx aa ∧ tx aa ≤ 104) ∧ v = 1 <<< (tx aa - 97)) ∨ (tx aa = 46 ∧ v = 255)) : wm_go tx (sz - (aa + 1)) (aa + 1) (wm_za z z.1.2.2.2.1 z.1.2.2.2.2 v) = wm_go tx (sz - aa) aa z ∧ wm_relT (wm_za z z.1.2.2.2.1 z.1.2.2.2.2 v) (ats + 1) op false (1 <<< (ats + 1)) (1 <<< (ats + 1)) (va_up ml (ats + 1) v) (va_up fo (ats + 1) 0) pF pL rF rL pB rB := by
  have c1 := h.1.1
  have c3 := h.1.2.2.1
  have hc24 : z.1.2.1 < 24 := by omega
  refine ⟨wm_gs tx rfl ha ?_, wm_relT_as h hc24⟩
  rw [wm_by0 c3]
  have e : ∀ v, wm_as z v = (0, wm_za z z.1.2.2.2.1 z.1.2.2.2.2 v) := fun v => by
    unfold wm_as wm_za
    rw [if_pos hc24]
    obtain ⟨⟨op0, cn, md, nt0, rs0⟩, fl, lt, hs, P⟩ := z
    dsimp only at c3 ⊢
    rw [c3]
  unfold wm_to
  rcases hv with ⟨hx, rfl⟩ | ⟨hx, rfl⟩
  · rw [if_pos (wm_lo_l hx).2, (wm_lo_l hx).1]; exact e _
  · rw [hx, if_neg (by decide), if_pos rfl]; exact e _
def wm_z1b (z : wm_pst) : wm_pst := ((z.1.1, z.1.2.1 + 1, z.1.2.2), wm_lk (va_up z.2.1 z.1.2.1 0) z.1.2.1 (z.2.2.2.2 z.1.1 1).2.2 (z.2.2.2.2 z.1.1 2).2.1, z.2.2.1, va_up z.2.2.2.1 z.1.1 true, wm_pt z.2.2.2.2 z.1.1 (z.2.2.2.2 z.1.1 0) (wm_jp (z.2.2.2.2 z.1.1 1) (z.2.2.2.2 z.1.1 2)) (false, 1 <<< z.1.2.1, 1 <<< z.1.2.1))
theorem wm_stB0 {tx : Nat → Nat} {sz aa ats op : Nat} {ml fo pF pL rF rL : Nat → Nat} {pB rB : Nat → Bool} {z : wm_pst} (h : wm_rel z ats op ml fo pF pL rF rL pB rB) (hc : ats < 23) (ha : aa < sz) (hx : tx aa = 91) : wm_go tx (sz - (aa + 1)) (aa + 1) (wm_zi (wm_z1b z) 1 false z.1.2.2.2.2 0) = wm_go tx (sz - aa) aa z := by
  have c1 := h.1.1
  have c3 := h.1.2.2.1
  have hc24 : z.1.2.1 < 24 := by omega
  refine wm_gs tx rfl ha ?_
  rw [wm_by0 c3]
  unfold wm_to
  rw [hx, if_neg (by decide), if_neg (by decide), if_pos rfl]
  unfold wm_as
  rw [if_pos hc24]
  rfl
theorem wm_stB1 {z : wm_pst} {nt : Bool} {rs v : Nat} : wm_zi (wm_z1b z) 0 nt rs v = wm_za z nt rs v := rfl
theorem wm_to_f {z : wm_pst} {c : Nat} (hl : wm_lo c = 4294967295) (h1 : c ≠ 46) (h2 : c ≠ 91) (h3 : c ≠ 40) (h4 : c ≠ 124) (h5 : c = 41 → z.1.1 = 0) (h6 : wm_sgn c → z.2.2.2.1 z.1.1 = false) : ∃ z1, wm_to z c = (1, z1) := by
  unfold wm_to
  rw [if_neg (fun q => q hl), if_neg h1, if_neg h2, if_neg h3]
  by_cases e5 : c = 41
  · rw [if_pos e5, if_neg (by rw [h5 e5]; decide)]; exact ⟨_, rfl⟩
  · rw [if_neg e5, if_neg h4]
    by_cases e6 : wm_sgn c
    · rw [if_pos e6, h6 e6]; exact ⟨_, rfl⟩
    · rw [if_neg e6]; exact ⟨_, rfl⟩
theorem wm_stF {tx : Nat → Nat} {sz aa ats op : Nat} {ml fo pF pL rF rL : Nat → Nat} {pB rB : Nat → Bool} {z : wm_pst} (h : wm_rel z ats op ml fo pF pL rF rL pB rB) (ha : aa < sz) (hl : ¬ (97 ≤ tx aa ∧ tx aa ≤ 104)) (h1 : tx aa ≠ 46) (h2 : tx aa ≠ 91) (h3 : tx aa ≠ 40) (h4 : tx aa ≠ 124) (h5 : tx aa = 41 → op = 0) (h6 : z.2.2.2.1 op = true → ¬ wm_sgn (wm_ba tx sz aa)) : wm_kd (wm_go tx (sz - aa) aa z) = 1 ∧ wm_pl (wm_go tx (sz - aa) aa z) = aa := by
  have c2 := h.1.2.1
  obtain ⟨z1, e⟩ := wm_to_f (z := z) (wm_lo_n hl) h1 h2 h3 h4 (fun q => by rw [← c2]; exact h5 q) (fun q => by
    cases hh : z.2.2.2.1 z.1.1
    · rfl
    · rw [← c2] at hh
      have := h6 hh
      rw [show wm_ba tx sz aa = tx aa from if_pos ha] at this
      exact absurd q this)
  exact wm_gf tx rfl ha ((wm_by0 h.1.2.2.1).trans e) (by decide)
theorem wm_stF2 {tx : Nat → Nat} {sz aa ats op : Nat} {ml fo pF pL rF rL : Nat → Nat} {pB rB : Nat → Bool} {z : wm_pst} (h : wm_rel z ats op ml fo pF pL rF rL pB rB) (hc : ats = 23) (ha : aa < sz) (hv : (97 ≤ tx aa ∧ tx aa ≤ 104) ∨ tx aa = 46 ∨ tx aa = 91) : wm_kd (wm_go tx (sz - aa) aa z) = 2 ∧ wm_pl (wm_go tx (sz - aa) aa z) = aa := by
  have c1 := h.1.1
  have hc24 : ¬ z.1.2.1 < 24 := by omega
  have e : ∃ z1, wm_to z (tx aa) = (2, z1) := by
    unfold wm_to
    rcases hv with hx | hx | hx
    · rw [if_pos (wm_lo_l hx).2]; unfold wm_as; rw [if_neg hc24]; exact ⟨_, rfl⟩
    · rw [hx, if_neg (by decide), if_pos rfl]; unfold wm_as; rw [if_neg hc24]; exact ⟨_, rfl⟩
    · rw [hx, if_neg (by decide), if_neg (by decide), if_pos rfl]; unfold wm_as; rw [if_neg hc24]; exact ⟨_, rfl⟩
  obtain ⟨z1, e⟩ := e
  exact wm_gf tx rfl ha ((wm_by0 h.1.2.2.1).trans e) (by decide)
theorem wm_stF3 {tx : Nat → Nat} {sz aa ats op : Nat} {ml fo pF pL rF rL : Nat → Nat} {pB rB : Nat → Bool} {z : wm_pst} (h : wm_rel z ats op ml fo pF pL rF rL pB rB) (hc : op = 20) (ha : aa < sz) (hx : tx aa = 40) : wm_kd (wm_go tx (sz - aa) aa z) = 3 ∧ wm_pl (wm_go tx (sz - aa) aa z) = aa := by
  have c2 := h.1.2.1
  have e : ∃ z1, wm_to z (tx aa) = (3, z1) := by
    unfold wm_to
    rw [hx, if_neg (by decide), if_neg (by decide), if_neg (by decide), if_pos rfl, if_neg (by omega)]; exact ⟨_, rfl⟩
  obtain ⟨z1, e⟩ := e
  exact wm_gf tx rfl ha ((wm_by0 h.1.2.2.1).trans e) (by decide)
theorem wm_stO {tx : Nat → Nat} {sz aa ats op : Nat} {ml fo pF pL rF rL : Nat → Nat} {pB rB : Nat → Bool} {z : wm_pst} (h : wm_rel z ats op ml fo pF pL rF rL pB rB) (hc : op < 20) (ha : aa < sz) (hx : tx aa = 40) : wm_ok tx sz (wm_go tx (sz - aa) aa z) aa (aa + 1) ats (op + 1) ml fo (va_up pF (op + 1) 0) (va_up pL (op + 1) 0) (va_up rF (op + 1) 0) (va_up rL (op + 1) 0) (va_up pB (op + 1) false) (va_up rB (op + 1) true) := by
  obtain ⟨⟨op0, cn, md, nt, rs⟩, fl, lt, hs, P⟩ := z
  obtain ⟨⟨c1, c2, c3, c4, c5, c6, c7, c8⟩, h2, h3, h4⟩ := h
  dsimp only at *
  subst c2
  have e : wm_to ((op, cn, md, nt, rs), fl, lt, hs, P) (tx aa) = (0, ((op + 1, cn, md, nt, rs), fl, lt, va_up hs (op + 1) false, wm_pt P (op + 1) (false, 0, 0) wm_e1 wm_e1)) := by
    unfold wm_to
    rw [hx, if_neg (by decide), if_neg (by decide), if_neg (by decide), if_pos rfl, if_pos hc]
  refine ⟨_, wm_gs tx rfl ha ((wm_by0 c3).trans e), Nat.lt_succ_self _, ha, ⟨⟨c1, rfl, c3, c4, hc, c6, fun i hi => ?_, fun i k hi hk => ?_⟩, fun x hx1 hx2 => ?_, fun i hi => ?_, fun _ => ?_⟩, fun q => ?_⟩
  all_goals (try dsimp only)
  · by_cases q : i = op + 1
    · subst q; rw [(wm_pt_at P _ _ _ _).1, va_up_self, va_up_self, va_up_self]
    · rw [wm_pt_ne q, va_up_ne _ _ q, va_up_ne _ _ q, va_up_ne _ _ q]; exact c7 i (by omega)
  · by_cases q : i = op + 1
    · subst q
      have hk3 : k = 0 ∨ k = 1 ∨ k = 2 := by omega
      rcases hk3 with rfl | rfl | rfl
      · rw [(wm_pt_at P _ _ _ _).1]; exact ⟨Nat.two_pow_pos _, Nat.two_pow_pos _⟩
      · rw [(wm_pt_at P _ _ _ _).2.1]; exact ⟨Nat.two_pow_pos _, Nat.two_pow_pos _⟩
      · rw [(wm_pt_at P _ _ _ _).2.2]; exact ⟨Nat.two_pow_pos _, Nat.two_pow_pos _⟩
    · rw [wm_pt_ne q]; exact c8 i k (by omega) hk
  · have hx2 : x < cn := hx2
    rw [wm_or_s, wm_orpd (Nat.le_refl _), wm_pd_at, Nat.zero_testBit, h2 x hx1 hx2]
    simp
  · by_cases q : i = op + 1
    · subst q; rw [(wm_pt_at P _ _ _ _).2.1, (wm_pt_at P _ _ _ _).2.2, va_up_self, va_up_self, va_up_self]; rfl
    · rw [wm_pt_ne q, wm_pt_ne q, va_up_ne _ _ q, va_up_ne _ _ q, va_up_ne _ _ q]; exact h3 i (by omega)
  · exact (wm_pt_at P _ _ _ _).2.2
  · dsimp only at q
    rw [va_up_self] at q; cases q
theorem wm_stP {tx : Nat → Nat} {sz aa ats op : Nat} {ml fo pF pL rF rL : Nat → Nat} {pB rB : Nat → Bool} {z : wm_pst} (h : wm_rel z ats op ml fo pF pL rF rL pB rB) (ha : aa < sz) (hx : tx aa = 124) : wm_ok tx sz (wm_go tx (sz - aa) aa z) aa (aa + 1) ats op ml fo (va_up pF op (pF op ||| rF op)) (va_up pL op (pL op ||| rL op)) (va_up rF op 0) (va_up rL op 0) (va_up pB op (pB op || rB op)) (va_up rB op true) := by
  obtain ⟨⟨op0, cn, md, nt, rs⟩, fl, lt, hs, P⟩ := z
  obtain ⟨⟨c1, c2, c3, c4, c5, c6, c7, c8⟩, h2, h3, h4⟩ := h
  dsimp only at *
  subst c2
  have e : wm_to ((op, cn, md, nt, rs), fl, lt, hs, P) (tx aa) = (0, wm_ep ((op, cn, md, nt, rs), fl, lt, hs, P) op) := by
    unfold wm_to
    rw [hx, if_neg (by decide), if_neg (by decide), if_neg (by decide), if_neg (by decide), if_neg (by decide), if_pos rfl]
  unfold wm_ep at e
  dsimp only at e
  have hp0 := c7 op (Nat.le_refl _)
  have hr0 := h3 op (Nat.le_refl _)
  refine ⟨_, wm_gs tx rfl ha ((wm_by0 c3).trans e), Nat.lt_succ_self _, ha, ⟨⟨c1, rfl, c3, c4, c5, c6, fun i hi => ?_, fun i k hi hk => ?_⟩, fun x hx1 hx2 => ?_, fun i hi => ?_, fun _ => ?_⟩, fun q => ?_⟩
  all_goals (try dsimp only)
  · by_cases q : i = op
    · subst q; rw [(wm_pt_at P _ _ _ _).1, va_up_self, va_up_self, va_up_self, ← hp0, ← hr0]
    · rw [wm_pt_ne q, va_up_ne _ _ q, va_up_ne _ _ q, va_up_ne _ _ q]; exact c7 i (by omega)
  · by_cases q : i = op
    · subst q
      have hk3 : k = 0 ∨ k = 1 ∨ k = 2 := by omega
      have a0 := c8 i 0 hi (by decide)
      have a1 := c8 i 1 hi (by decide)
      have a2 := c8 i 2 hi (by decide)
      rcases hk3 with rfl | rfl | rfl
      · rw [(wm_pt_at P _ _ _ _).1]
        refine ⟨Nat.or_lt_two_pow a0.1 (Nat.or_lt_two_pow a1.1 ?_), Nat.or_lt_two_pow a0.2 (Nat.or_lt_two_pow a2.2 ?_)⟩
        · split
          · exact a2.1
          · exact Nat.two_pow_pos _
        · split
          · exact a1.2
          · exact Nat.two_pow_pos _
      · rw [(wm_pt_at P _ _ _ _).2.1]; exact ⟨Nat.two_pow_pos _, Nat.two_pow_pos _⟩
      · rw [(wm_pt_at P _ _ _ _).2.2]; exact ⟨Nat.two_pow_pos _, Nat.two_pow_pos _⟩
    · rw [wm_pt_ne q]; exact c8 i k (by omega) hk
  · have hx2 : x < cn := hx2
    rw [wm_or_s, wm_orpd (Nat.le_refl _), wm_pd_at, Nat.zero_testBit, h2 x hx1 hx2, wm_or_s, wm_lk_in hx1 hx2]
    simp only [Bool.false_eq_true, if_false, Nat.or_zero]
    rw [Nat.or_assoc]
    congr 1
    rw [Nat.or_comm]
    rfl
  · by_cases q : i = op
    · subst q; rw [(wm_pt_at P _ _ _ _).2.1, (wm_pt_at P _ _ _ _).2.2, va_up_self, va_up_self, va_up_self]; rfl
    · rw [wm_pt_ne q, wm_pt_ne q, va_up_ne _ _ q, va_up_ne _ _ q, va_up_ne _ _ q]; exact h3 i (by omega)
  · exact (wm_pt_at P _ _ _ _).2.2
  · dsimp only at q
    rw [va_up_self] at q; cases q
theorem wm_stC {tx : Nat → Nat} {sz aa ats op : Nat} {ml fo pF pL rF rL : Nat → Nat} {pB rB : Nat → Bool} {z : wm_pst} (h : wm_rel z ats (op + 1) ml fo pF pL rF rL pB rB) (ha : aa < sz) (hx : tx aa = 41) : ∃ z1, wm_go tx (sz - (aa + 1)) (aa + 1) z1 = wm_go tx (sz - aa) aa z ∧ wm_relT z1 ats op (pB (op + 1) || rB (op + 1)) (pF (op + 1) ||| rF (op + 1)) (pL (op + 1) ||| rL (op + 1)) ml fo (va_up pF (op + 1) (pF (op + 1) ||| rF (op + 1))) (va_up pL (op + 1) (pL (op + 1) ||| rL (op + 1))) rF rL (va_up pB (op + 1) (pB (op + 1) || rB (op + 1))) rB := by
  obtain ⟨⟨op0, cn, md, nt, rs⟩, fl, lt, hs, P⟩ := z
  obtain ⟨⟨c1, c2, c3, c4, c5, c6, c7, c8⟩, h2, h3, h4⟩ := h
  dsimp only at *
  subst c2
  have hp0 := c7 (op + 1) (Nat.le_refl _)
  have hr0 := h3 (op + 1) (Nat.le_refl _)
  have e : wm_to ((op + 1, cn, md, nt, rs), fl, lt, hs, P) (tx aa) = (0, ((op, cn, md, nt, rs), wm_lk (wm_lk fl cn (P (op + 1) 1).2.2 (P (op + 1) 2).2.1) cn (P op 1).2.2 (P op 2).2.1, lt, va_up (va_up hs (op + 1) false) op true, wm_pt (wm_pt P (op + 1) (wm_ap (P (op + 1) 0) (wm_jp (P (op + 1) 1) (P (op + 1) 2))) wm_e1 wm_e1) op (P op 0) (wm_jp (P op 1) (P op 2)) (wm_ap (P (op + 1) 0) (wm_jp (P (op + 1) 1) (P (op + 1) 2))))) := by
    unfold wm_to
    rw [hx, if_neg (by decide), if_neg (by decide), if_neg (by decide), if_neg (by decide), if_pos rfl, if_pos (Nat.succ_pos _)]
    rfl
  refine ⟨_, wm_gs tx rfl ha ((wm_by0 c3).trans e), ⟨c1, rfl, c3, c4, by omega, c6, fun i hi => ?_, fun i k hi hk => ?_⟩, fun x hx1 hx2 => ?_, fun i hi => ?_, ?_, ?_, va_up_self _ _ _⟩
  all_goals (try dsimp only)
  · have q1 : i ≠ op + 1 := by omega
    rw [va_up_ne _ _ q1, va_up_ne _ _ q1, va_up_ne _ _ q1]
    by_cases q : i = op
    · subst q; rw [(wm_pt_at _ _ _ _ _).1]; exact c7 i (by omega)
    · rw [wm_pt_ne q, wm_pt_ne q1]; exact c7 i (by omega)
  · have q1 : i ≠ op + 1 := by omega
    by_cases q : i = op
    · subst q
      have hk3 : k = 0 ∨ k = 1 ∨ k = 2 := by omega
      have a0 := c8 i 0 (by omega) (by decide)
      have a1 := c8 i 1 (by omega) (by decide)
      have a2 := c8 i 2 (by omega) (by decide)
      have b0 := c8 (i + 1) 0 (by omega) (by decide)
      have b1 := c8 (i + 1) 1 (by omega) (by decide)
      have b2 := c8 (i + 1) 2 (by omega) (by decide)
      rcases hk3 with rfl | rfl | rfl
      · rw [(wm_pt_at _ _ _ _ _).1]; exact a0
      · rw [(wm_pt_at _ _ _ _ _).2.1]
        refine ⟨Nat.or_lt_two_pow a1.1 ?_, Nat.or_lt_two_pow a2.2 ?_⟩
        · split
          · exact a2.1
          · exact Nat.two_pow_pos _
        · split
          · exact a1.2
          · exact Nat.two_pow_pos _
      · rw [(wm_pt_at _ _ _ _ _).2.2]
        refine ⟨Nat.or_lt_two_pow b0.1 (Nat.or_lt_two_pow b1.1 ?_), Nat.or_lt_two_pow b0.2 (Nat.or_lt_two_pow b2.2 ?_)⟩
        · split
          · exact b2.1
          · exact Nat.two_pow_pos _
        · split
          · exact b1.2
          · exact Nat.two_pow_pos _
    · rw [wm_pt_ne q, wm_pt_ne q1]; exact c8 i k (by omega) hk
  · have hx2 : x < cn := hx2
    rw [wm_orpd (Nat.le_refl _), wm_orpd (by omega), h2 x hx1 hx2, wm_or_s, wm_or_s, wm_lk_in hx1 hx2, wm_lk_in hx1 hx2]
    show fl x ||| (wm_or op (wm_pd P x) ||| wm_pd P x op ||| wm_pd P x (op + 1)) = fl x ||| wm_pd P x (op + 1) ||| wm_pd P x op ||| wm_or op (wm_pd P x)
    rw [Nat.or_assoc (fl x), Nat.or_assoc (fl x)]
    congr 1
    rw [Nat.or_comm (wm_or op _ ||| _), Nat.or_comm (wm_or op _), ← Nat.or_assoc]
  · have q1 : i ≠ op + 1 := by omega
    rw [wm_pt_ne (show i ≠ op by omega), wm_pt_ne (show i ≠ op by omega), wm_pt_ne q1, wm_pt_ne q1]; exact h3 i (by omega)
  · rw [(wm_pt_at _ _ _ _ _).2.1]; exact h3 op (by omega)
  · rw [(wm_pt_at _ _ _ _ _).2.2, ← hp0, ← hr0]
theorem wm_rl_lt {z : wm_pst} {ats op : Nat} {ml fo pF pL rF rL : Nat → Nat} {pB rB : Nat → Bool} (h : wm_rel z ats op ml fo pF pL rF rL pB rB) {i : Nat} (hi : i ≤ op) : rL i < 2 ^ z.1.2.1 := by
  have h1 := h.1.2.2.2.2.2.2.2 i 1 hi (by decide)
  have h2 := h.1.2.2.2.2.2.2.2 i 2 hi (by decide)
  have h3 := h.2.2.1 i hi
  have h4 : rL i = (z.2.2.2.2 i 2).2.2 ||| (if (z.2.2.2.2 i 2).1 then (z.2.2.2.2 i 1).2.2 else 0) := congrArg (fun q => q.2.2) h3
  rw [h4]
  refine Nat.or_lt_two_pow h2.2 ?_
  split
  · exact h1.2
  · exact Nat.two_pow_pos _
theorem wm_pl_lt {z : wm_pst} {ats op : Nat} {ml fo pF pL rF rL : Nat → Nat} {pB rB : Nat → Bool} (h : wm_rel z ats op ml fo pF pL rF rL pB rB) {i : Nat} (hi : i ≤ op) : pL i < 2 ^ z.1.2.1 := by
  have h1 := h.1.2.2.2.2.2.2.2 i 0 hi (by decide)
  have h3 := h.1.2.2.2.2.2.2.1 i hi
  have h4 : pL i = (z.2.2.2.2 i 0).2.2 := congrArg (fun q => q.2.2) h3
  rw [h4]
  exact h1.2
theorem wm_s31b {k : Nat} (h : k < 31) : 1 <<< k < 2 ^ 31 := by rw [Nat.one_shiftLeft]; exact Nat.pow_lt_pow_right (by decide) h
