/-! inside of [ ]: the class's run, byte by byte -/
def wm_zi (z : wm_pst) (md : Nat) (nt : Bool) (rs S : Nat) : wm_pst := ((z.1.1, z.1.2.1, md, nt, rs), z.2.1, va_up z.2.2.1 (z.1.2.1 - 1) S, z.2.2.2)
theorem wm_lo_l {x : Nat} (h : 97 ≤ x ∧ x ≤ 104) : wm_lo x = x - 97 ∧ wm_lo x ≠ 4294967295 := by
  have e : wm_lo x = x - 97 := if_pos ⟨h.1, by omega⟩
  exact ⟨e, by omega⟩
theorem wm_lo_n {x : Nat} (h : ¬ (97 ≤ x ∧ x ≤ 104)) : wm_lo x = 4294967295 := if_neg (by omega)
theorem wm_zi_tz (z : wm_pst) {md rs S x k md1 rs1 S1 : Nat} {nt nt1 : Bool} (hmd : md ≠ 0) (h : wm_ti z.1.2.1 md nt rs (va_up z.2.2.1 (z.1.2.1 - 1) S) x = (k, md1, nt1, rs1, va_up z.2.2.1 (z.1.2.1 - 1) S1)) : wm_by (wm_zi z md nt rs S) x = (k, wm_zi z md1 nt1 rs1 S1) := by
  unfold wm_by
  rw [if_neg (show (wm_zi z md nt rs S).1.2.2.1 ≠ 0 from hmd)]
  unfold wm_tz
  show ((wm_ti z.1.2.1 md nt rs (va_up z.2.2.1 (z.1.2.1 - 1) S) x).1, _) = _
  have e : ∀ q : Nat × Nat × Bool × Nat × (Nat → Nat), q = wm_ti z.1.2.1 md nt rs (va_up z.2.2.1 (z.1.2.1 - 1) S) x → (q.1, ((z.1.1, z.1.2.1, q.2.1, q.2.2.1, q.2.2.2.1), z.2.1, q.2.2.2.2, z.2.2.2)) = (k, wm_zi z md1 nt1 rs1 S1) := by
    intro q hq
    rw [hq, h]
    rfl
  exact e _ rfl
theorem wm_bl1 (z : wm_pst) {md rs S x : Nat} {nt : Bool} (hmd : md ≠ 0) (h4 : md ≠ 4) (hx : 97 ≤ x ∧ x ≤ 104) : wm_by (wm_zi z md nt rs S) x = (0, wm_zi z 3 nt (x - 97) (S ||| 1 <<< (x - 97))) := by
  refine wm_zi_tz z hmd ?_
  unfold wm_ti
  rw [if_pos (wm_lo_l hx).2, if_neg h4, (wm_lo_l hx).1, va_up_self, wm_up_up]
theorem wm_bl2 (z : wm_pst) {rs S x : Nat} {nt : Bool} (hx : 97 ≤ x ∧ x ≤ 104) (hr : rs ≤ x - 97) : wm_by (wm_zi z 4 nt rs S) x = (0, wm_zi z 5 nt rs (wm_rg S rs (x - 97 + 1))) := by
  refine wm_zi_tz z (by decide) ?_
  unfold wm_ti
  rw [if_pos (wm_lo_l hx).2, if_pos rfl, (wm_lo_l hx).1, if_neg (by omega), va_up_self, wm_up_up]
theorem wm_bl2f (z : wm_pst) {rs S x : Nat} {nt : Bool} (hx : 97 ≤ x ∧ x ≤ 104) (hr : x - 97 < rs) : wm_by (wm_zi z 4 nt rs S) x = (4, wm_zi z 4 nt rs S) := by
  refine wm_zi_tz z (by decide) ?_
  unfold wm_ti
  rw [if_pos (wm_lo_l hx).2, if_pos rfl, (wm_lo_l hx).1, if_pos hr]
theorem wm_bl3 (z : wm_pst) {rs S : Nat} {nt : Bool} : wm_by (wm_zi z 1 nt rs S) 94 = (0, wm_zi z 2 true rs S) := by
  refine wm_zi_tz z (by decide) ?_
  unfold wm_ti
  rw [if_neg (by decide), if_pos ⟨rfl, rfl⟩]
theorem wm_bl4 (z : wm_pst) {rs S : Nat} {nt : Bool} : wm_by (wm_zi z 3 nt rs S) 45 = (0, wm_zi z 4 nt rs S) := by
  refine wm_zi_tz z (by decide) ?_
  unfold wm_ti
  rw [if_neg (by decide), if_neg (by decide), if_pos ⟨rfl, rfl⟩]
theorem wm_bl5 (z : wm_pst) {md rs S : Nat} {nt : Bool} (h : md = 3 ∨ md = 5) : wm_by (wm_zi z md nt rs S) 93 = (0, wm_zi z 0 nt rs (if nt then S ^^^ 255 else S)) := by
  refine wm_zi_tz z (by omega) ?_
  unfold wm_ti
  rw [if_neg (by decide), if_neg (by omega), if_neg (by omega), if_pos ⟨rfl, h⟩]
  cases nt
  · rfl
  · simp only [if_true]
    rw [va_up_self, wm_up_up]
theorem wm_bl6 (z : wm_pst) {md rs S x : Nat} {nt : Bool} (hmd : md ≠ 0) (hx : ¬ (97 ≤ x ∧ x ≤ 104)) (h1 : ¬ (x = 94 ∧ md = 1)) (h2 : ¬ (x = 45 ∧ md = 3)) (h3 : ¬ (x = 93 ∧ (md = 3 ∨ md = 5))) : wm_by (wm_zi z md nt rs S) x = (1, wm_zi z md nt rs S) := by
  refine wm_zi_tz z hmd ?_
  unfold wm_ti
  rw [if_neg (fun q => q (wm_lo_n hx)), if_neg h1, if_neg h2, if_neg h3]
theorem wm_gs (f : Nat → Nat) {sz aa : Nat} {z : wm_pst} {R : Nat × Nat × wm_pst} (h : wm_go f (sz - aa) aa z = R) (ha : aa < sz) {z1 : wm_pst} (hb : wm_by z (f aa) = (0, z1)) : wm_go f (sz - (aa + 1)) (aa + 1) z1 = R := by
  rw [← h, show sz - aa = sz - (aa + 1) + 1 by omega, wm_go, hb, if_pos rfl]
theorem wm_gf (f : Nat → Nat) {sz aa k : Nat} {z : wm_pst} {R : Nat × Nat × wm_pst} (h : wm_go f (sz - aa) aa z = R) (ha : aa < sz) {z1 : wm_pst} (hb : wm_by z (f aa) = (k, z1)) (hk : k ≠ 0) : wm_kd R = k ∧ wm_pl R = aa := by
  rw [← h, show sz - aa = sz - (aa + 1) + 1 by omega, wm_go, hb, if_neg hk]
  have e : wm_kd (k, aa, z1) = k := if_neg (fun q => hk q.1)
  exact ⟨e, by unfold wm_pl; rw [e, if_neg hk]⟩
theorem wm_ge (f : Nat → Nat) {sz aa : Nat} {z : wm_pst} {R : Nat × Nat × wm_pst} (h : wm_go f (sz - aa) aa z = R) (ha : sz ≤ aa) : R = (0, aa, z) := by
  rw [← h, Nat.sub_eq_zero_of_le ha, wm_go]
/-- a byte that does not fit inside, or the text's end -/
theorem wm_g6 {f : Nat → Nat} {sz aa md rs S : Nat} {nt : Bool} {z : wm_pst} {R : Nat × Nat × wm_pst} (h : wm_go f (sz - aa) aa (wm_zi z md nt rs S) = R) (hmd : md ≠ 0) (hx : ¬ (97 ≤ wm_ba f sz aa ∧ wm_ba f sz aa ≤ 104)) (h1 : ¬ (wm_ba f sz aa = 94 ∧ md = 1)) (h2 : ¬ (wm_ba f sz aa = 45 ∧ md = 3)) (h3 : ¬ (wm_ba f sz aa = 93 ∧ (md = 3 ∨ md = 5))) : wm_kd R = 1 ∧ wm_pl R = aa := by
  rcases Nat.lt_or_ge aa sz with ha | ha
  · have e : wm_ba f sz aa = f aa := if_pos ha
    rw [e] at hx h1 h2 h3
    exact wm_gf f h ha (wm_bl6 z hmd hx h1 h2 h3) (by decide)
  · rw [wm_ge f h ha]
    have e : wm_kd (0, aa, wm_zi z md nt rs S) = 1 := if_pos ⟨rfl, Or.inl hmd⟩
    exact ⟨e, by unfold wm_pl; rw [e, if_neg (by decide)]⟩
theorem wm_rgx {S y z : Nat} (h : y < z) : wm_rg (S ||| 1 <<< y) y z = wm_rg S y z := by
  unfold wm_rg
  apply Nat.eq_of_testBit_eq
  intro i
  simp only [Nat.testBit_or]
  by_cases e : y = i
  · subst e
    have : (wm_or z (fun x => if y ≤ x then 1 <<< x else 0)).testBit y = true := by
      rw [wm_or_tb]
      exact ⟨y, h, by rw [if_pos (Nat.le_refl _), Nat.one_shiftLeft, Nat.testBit_two_pow]; simp⟩
    rw [this]; simp
  · rw [Nat.one_shiftLeft, Nat.testBit_two_pow, decide_eq_false e, Bool.or_false]
theorem wm_rgy {S y : Nat} : wm_rg S y (y + 1) = S ||| 1 <<< y := by rw [← wm_rg1 (Nat.le_refl y), ← wm_rg0]
theorem wm_x255 {S : Nat} (h : S < 256) : 255 &&& (S ^^^ 4294967295) = S ^^^ 255 := by
  have : ∀ S, S < 256 → 255 &&& (S ^^^ 4294967295) = S ^^^ 255 := by decide +kernel
  exact this S h
theorem wm_rg_b8 {S y z : Nat} (h : S < 256) (hz : z ≤ 8) : wm_rg S y z < 256 := wm_rg_b (show S < 2 ^ 8 from h) hz
theorem wm_ba_lt2 {tx : Nat → Nat} {sz i : Nat} (h : wm_ba tx sz i < 4294967295) : i < sz ∧ tx i = wm_ba tx sz i := by
  unfold wm_ba at h ⊢
  by_cases q : i < sz
  · rw [if_pos q]; exact ⟨q, rfl⟩
  · rw [if_neg q] at h; omega
