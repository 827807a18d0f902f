/-! machines: what their methods do, in numbers -/
theorem wm_low {S : Nat} (h0 : 0 < S) (h : S < 2 ^ 31) : ∃ k, k < 31 ∧ (S ^^^ 4294967295) &&& (S - 1) = 2 ^ k - 1 ∧ S.testBit k = true ∧ ∀ j, j < k → S.testBit j = false := by
  obtain ⟨k, hk, hl⟩ := pk_least (fun k => S.testBit k = true) (Nat.exists_testBit_of_ne_zero (by omega))
  have hl : ∀ j, j < k → S.testBit j = false := fun j hj => by
    cases hb : S.testBit j
    · rfl
    · exact absurd hb (hl j hj)
  have hk31 : k < 31 := by
    rcases Nat.lt_or_ge k 31 with h1 | h1
    · exact h1
    · have := Nat.testBit_lt_two_pow (Nat.lt_of_lt_of_le h (Nat.pow_le_pow_right (by decide) h1))
      rw [this] at hk; cases hk
  have hmod : S % 2 ^ k = 0 := by
    apply Nat.eq_of_testBit_eq
    intro i
    rw [Nat.testBit_mod_two_pow, Nat.zero_testBit]
    by_cases hi : i < k
    · simp [hi, hl i hi]
    · simp [hi]
  have hodd : S / 2 ^ k % 2 = 1 := by
    rw [Nat.testBit_eq_decide_div_mod_eq, decide_eq_true_eq] at hk
    exact hk
  have hS : S = 2 ^ k * (S / 2 ^ k) := by
    have := Nat.div_add_mod S (2 ^ k)
    omega
  have hpos : 0 < 2 ^ k := Nat.two_pow_pos k
  obtain ⟨q, hq⟩ : ∃ q, S / 2 ^ k = 2 * q + 1 := ⟨S / 2 ^ k / 2, by omega⟩
  have e1 : S - 1 = 2 ^ k * (2 * q) + (2 ^ k - 1) := by
    have : 2 ^ k * (2 * q + 1) = 2 ^ k * (2 * q) + 2 ^ k := by rw [Nat.mul_add, Nat.mul_one]
    rw [hq, this] at hS
    omega
  refine ⟨k, hk31, ?_, hk, hl⟩
  apply Nat.eq_of_testBit_eq
  intro j
  rw [Nat.testBit_and, Nat.testBit_xor, wm_ones, e1, Nat.testBit_two_pow_mul_add _ (by omega), Nat.testBit_two_pow_sub_one]
  by_cases hj : j < k
  · simp [hj, hl j hj, show j < 32 by omega, Nat.testBit_two_pow_sub_one]
  · rw [if_neg hj]
    by_cases hjk : j = k
    · subst hjk
      simp [hk, show j < 32 by omega]
    · have e2 : S.testBit j = (2 * q).testBit (j - k) := by
        have h1 : S.testBit j = (S / 2 ^ k).testBit (j - k) := by
          rw [Nat.testBit_div_two_pow]
          congr 1
          omega
        rw [h1, hq]
        obtain ⟨i, hi⟩ : ∃ i, j - k = i + 1 := ⟨j - k - 1, by omega⟩
        rw [hi, Nat.testBit_succ, Nat.testBit_succ]
        congr 1
        omega
      rw [e2]
      cases hb : (2 * q).testBit (j - k)
      · simp [hj]
      · have : j < 32 := by
          rcases Nat.lt_or_ge j 32 with h1 | h1
          · exact h1
          · have h2 := Nat.testBit_lt_two_pow (Nat.lt_of_lt_of_le h (Nat.pow_le_pow_right (show 0 < 2 by decide) (show 31 ≤ j by omega)))
            rw [e2, hb] at h2; cases h2
        simp [hj, this]
def wm_nz4 (z i : Nat) : Nat := if 4 < z then i + 2 + z >>> 2 >>> 1 else i + z >>> 1
def wm_nz3 (z i : Nat) : Nat := if 16 < z then wm_nz4 (z >>> 4) (i + 4) else wm_nz4 z i
def wm_nz2 (z i : Nat) : Nat := if 256 < z then wm_nz3 (z >>> 8) (i + 8) else wm_nz3 z i
def wm_nz1 (z : Nat) : Nat := if 65536 < z then wm_nz2 (z >>> 16) 17 else wm_nz2 z 1
theorem wm_nzk : ∀ k, k < 31 → 0 < k → wm_nz1 (2 ^ k - 1) = k := by decide +kernel
theorem wm_gs0 {g : Nat → Nat} {c lr S r : Nat} (h : ∀ j, j < r → S.testBit j = false) : 0 = wm_or (min r c) (fun x => if S.testBit x then g (lr * 24 + x) else 0) := by
  rw [wm_or_z]
  intro j hj
  rw [h j (by omega)]
  rfl
theorem wm_gs1 {f : Nat → Nat} {c i : Nat} (h : c ≤ i) : wm_or (min i c) f = wm_or c f := by rw [Nat.min_eq_right h]
theorem wm_gs2 {g : Nat → Nat} {c lr S i : Nat} (h : i < c) (h2 : S >>> i = 0) : wm_or (min i c) (fun x => if S.testBit x then g (lr * 24 + x) else 0) = wm_st g c lr S := by
  rw [Nat.min_eq_left (by omega)]
  refine (wm_or_ext (by omega) (fun j h3 _ => ?_)).symm
  show (if S.testBit j = true then _ else 0) = 0
  rw [wm_shr0 h2 j h3]
  rfl
theorem wm_gs3 {f : Nat → Nat} {c i a : Nat} (h : i < c) (ha : a = wm_or (min i c) f) : a ||| f i = wm_or (min (i + 1) c) f := by
  rw [ha, Nat.min_eq_left (by omega), Nat.min_eq_left (by omega), wm_or_s]
theorem wm_st_lt {g : Nat → Nat} {c lr S d : Nat} (h : ∀ x, x < c → g (lr * 24 + x) < 2 ^ d) : wm_st g c lr S < 2 ^ d := by
  refine wm_or_lt (fun j hj => ?_)
  show (if S.testBit j = true then _ else 0) < _
  cases S.testBit j
  · exact Nat.two_pow_pos d
  · exact h j hj
/-- bounded by its bits -/
theorem wm_lt_of {x k : Nat} (h : ∀ i, k ≤ i → x.testBit i = false) : x < 2 ^ k := Nat.lt_pow_two_of_testBit x (fun i hi => h i hi)
/-- turnArcs -/
def wm_ta (cn lr fr S i : Nat) (g g1 : Nat → Nat) : Prop := ∀ j, g1 j = if lr * 24 ≤ j ∧ j < lr * 24 + i ∧ S.testBit (j - lr * 24) = true then g j ||| 1 <<< fr else g j
theorem wm_ta0 {cn lr fr S : Nat} {g : Nat → Nat} : wm_ta cn lr fr S 0 g g := fun j => by rw [if_neg (by omega)]
theorem wm_ta1 {cn lr fr S i : Nat} {g g1 : Nat → Nat} (h : wm_ta cn lr fr S i g g1) (hb : S.testBit i = true) : wm_ta cn lr fr S (i + 1) g (va_up g1 (lr * 24 + i) (wm_wb (g1 (lr * 24 + i)) fr true)) := by
  intro j
  by_cases hj : j = lr * 24 + i
  · subst hj
    rw [va_up_self, wm_wb_t rfl, h, if_neg (by omega), if_pos ⟨by omega, by omega, by rw [Nat.add_sub_cancel_left]; exact hb⟩]
  · rw [va_up_ne _ _ hj, h]
    by_cases h2 : lr * 24 ≤ j ∧ j < lr * 24 + i ∧ S.testBit (j - lr * 24) = true
    · rw [if_pos h2, if_pos ⟨h2.1, by omega, h2.2.2⟩]
    · rw [if_neg h2, if_neg (fun q => h2 ⟨q.1, by omega, q.2.2⟩)]
theorem wm_ta2 {cn lr fr S i : Nat} {g g1 : Nat → Nat} (h : wm_ta cn lr fr S i g g1) (hb : S.testBit i = false) : wm_ta cn lr fr S (i + 1) g g1 := by
  intro j
  rw [h]
  by_cases h2 : lr * 24 ≤ j ∧ j < lr * 24 + i ∧ S.testBit (j - lr * 24) = true
  · rw [if_pos h2, if_pos ⟨h2.1, by omega, h2.2.2⟩]
  · rw [if_neg h2, if_neg (fun q => h2 ⟨q.1, ?_, q.2.2⟩)]
    rcases Nat.lt_or_ge j (lr * 24 + i) with h3 | h3
    · exact h3
    · have : j - lr * 24 = i := by omega
      rw [this, hb] at q
      exact absurd q.2.2 (by decide)
theorem wm_ta_lt {cn lr fr S i : Nat} {g g1 : Nat → Nat} (h : wm_ta cn lr fr S i g g1) (hf : fr < 24) {k : Nat} (hk : k < 192) (hg : ∀ j, j < 192 → g j < 2 ^ 24) : g1 k < 2 ^ 24 := by
  rw [h]
  split
  · exact Nat.or_lt_two_pow (hg k hk) (by rw [Nat.one_shiftLeft]; exact Nat.pow_lt_pow_right (by decide) hf)
  · exact hg k hk
/-- becomeTurned: the arcs of letters below L, and of letter L from states below F, are turned -/
def wm_bt (cn L F : Nat) (g g1 : Nat → Nat) : Prop := ∀ a x i, a < 8 → x < 24 → (g1 (a * 24 + x)).testBit i = (decide (x < cn ∧ i < cn ∧ (a < L ∨ (a = L ∧ i < F))) && (g (a * 24 + i)).testBit x)
theorem wm_bt0 {cn : Nat} {g g1 : Nat → Nat} (h : ∀ j, j < 192 → g1 j = 0) : wm_bt cn 0 0 g g1 := by
  intro a x i ha hx
  rw [h _ (by omega), Nat.zero_testBit, decide_eq_false (by omega), Bool.false_and]
theorem wm_btL {cn L F : Nat} {g g1 : Nat → Nat} (h : wm_bt cn L F g g1) (hF : cn ≤ F) : wm_bt cn (L + 1) 0 g g1 := by
  intro a x i ha hx
  rw [h a x i ha hx]
  congr 1
  exact decide_eq_decide.mpr (by omega)
theorem wm_bt1 {cn L F : Nat} {g g1 g2 : Nat → Nat} (h : wm_bt cn L F g g1) (hF : F < cn) (hL : L < 8) (hc : cn ≤ 24) (h2 : wm_ta cn L F (g (L * 24 + F)) cn g1 g2) : wm_bt cn L (F + 1) g g2 := by
  intro a x i ha hx
  rw [h2]
  by_cases hax : L * 24 ≤ a * 24 + x ∧ a * 24 + x < L * 24 + cn ∧ (g (L * 24 + F)).testBit (a * 24 + x - L * 24) = true
  · obtain ⟨q1, q2, q3⟩ := hax
    have hal : a = L := by omega
    subst hal
    have e : a * 24 + x - a * 24 = x := by omega
    rw [e] at q3
    rw [if_pos ⟨q1, q2, by rw [e]; exact q3⟩, Nat.testBit_or, h a x i ha hx, wm_1s]
    by_cases hi : i = F
    · subst hi
      rw [q3, decide_eq_true (p := i = i) rfl, Bool.or_true, decide_eq_true (by omega), Bool.true_and]
    · rw [decide_eq_false hi, Bool.or_false]
      congr 1
      exact decide_eq_decide.mpr (by omega)
  · rw [if_neg hax, h a x i ha hx]
    by_cases hi : a = L ∧ i = F ∧ x < cn
    · obtain ⟨rfl, rfl, hxc⟩ := hi
      have : (g (a * 24 + i)).testBit x = false := by
        cases hb : (g (a * 24 + i)).testBit x
        · rfl
        · exact absurd ⟨by omega, by omega, by rw [show a * 24 + x - a * 24 = x by omega]; exact hb⟩ hax
      rw [this, Bool.and_false, Bool.and_false]
    · congr 1
      exact decide_eq_decide.mpr (by omega)
theorem wm_bt_lt {cn L F : Nat} {g g1 : Nat → Nat} (h : wm_bt cn L F g g1) (hc : cn ≤ 24) : ∀ j, j < 192 → g1 j < 2 ^ 24 := by
  intro j hj
  have e : j = j / 24 * 24 + j % 24 := by omega
  rw [e]
  refine wm_lt_of (fun i hi => ?_)
  rw [h _ _ i (by omega) (by omega), decide_eq_false (by omega), Bool.false_and]
/-- pairs -/
def wm_pr (S1 S2 c1 c2 : Nat) : Nat := wm_or c1 (fun x => if S1.testBit x then S2 <<< (x * c2) else 0)
theorem wm_mul32 {x c1 c2 : Nat} (h : x < c1) (hc : c1 * c2 ≤ 24) : x * c2 < 32 := by
  have := Nat.mul_le_mul_right c2 (Nat.le_of_lt h)
  omega
theorem wm_idx {x y c1 c2 : Nat} (h : x < c1) (hy : y < c2) : x * c2 + y < c1 * c2 := by
  have h1 : (x + 1) * c2 ≤ c1 * c2 := Nat.mul_le_mul_right c2 h
  rw [Nat.add_mul, Nat.one_mul] at h1
  omega
theorem wm_pr_t {f : Nat → Nat} {i a : Nat} (ha : a = wm_or i f) (v : Nat) (hv : f i = v) : a ||| v = wm_or (i + 1) f := by rw [ha, wm_or_s, hv]
theorem wm_pr_f {f : Nat → Nat} {i a : Nat} (ha : a = wm_or i f) (hv : f i = 0) : a = wm_or (i + 1) f := by rw [ha, wm_or_s, hv, Nat.or_zero]
theorem wm_gs3x {g : Nat → Nat} {c lr S i a : Nat} (h : i < c) (ha : a = wm_or (min i c) (fun x => if S.testBit x then g (lr * 24 + x) else 0)) (hb : S.testBit i = true) : a ||| g (lr * 24 + i) = wm_or (min (i + 1) c) (fun x => if S.testBit x then g (lr * 24 + x) else 0) := by
  rw [← wm_gs3 h ha, if_pos hb]
theorem wm_gs3y {g : Nat → Nat} {c lr S i a : Nat} (h : i < c) (ha : a = wm_or (min i c) (fun x => if S.testBit x then g (lr * 24 + x) else 0)) (hb : S.testBit i = false) : a = wm_or (min (i + 1) c) (fun x => if S.testBit x then g (lr * 24 + x) else 0) := by
  rw [← wm_gs3 h ha, hb]
  exact (Nat.or_zero a).symm
