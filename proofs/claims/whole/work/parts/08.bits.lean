/-! bits of natural numbers -/
theorem wm_nz (x : Bool) : narrow .boolean (.int (nI x.toNat)) = .int (nI x.toNat) := by cases x <;> rfl
theorem wm_fz (x : Bool) : fits .boolean (.int (nI x.toNat)) = true := by cases x <;> rfl
theorem wm_and1_lt (x : Nat) : x &&& 1 < 2 := by rw [Nat.and_one_is_mod]; omega
theorem wm_tb {x y : Nat} (h : (x >>> y) &&& 1 ≠ 0) : x.testBit y = true := by
  rw [Nat.testBit_eq_decide_div_mod_eq, decide_eq_true_eq]
  rw [Nat.and_one_is_mod, Nat.shiftRight_eq_div_pow] at h
  omega
theorem wm_tbf {x y : Nat} (h : (x >>> y) &&& 1 = 0) : x.testBit y = false := by
  rw [Nat.testBit_eq_decide_div_mod_eq, decide_eq_false_iff_not]
  rw [Nat.and_one_is_mod, Nat.shiftRight_eq_div_pow] at h
  omega
/-- a set with a bit put or taken -/
def wm_wb (S k : Nat) (v : Bool) : Nat := if v then S ||| 1 <<< k else S &&& (1 <<< k ^^^ 4294967295)
theorem wm_wb_t {S k : Nat} {v : Bool} (h : v = true) : wm_wb S k v = S ||| 1 <<< k := by rw [h]; rfl
theorem wm_wb_f {S k : Nat} {v : Bool} (h : v = false) : wm_wb S k v = S &&& (1 <<< k ^^^ 4294967295) := by rw [h]; rfl
theorem wm_ones (i : Nat) : (4294967295 : Nat).testBit i = decide (i < 32) := by
  rw [show (4294967295 : Nat) = 2 ^ 32 - 1 from rfl, Nat.testBit_two_pow_sub_one]
theorem wm_1s (k i : Nat) : (1 <<< k : Nat).testBit i = decide (i = k) := by
  rw [Nat.one_shiftLeft, Nat.testBit_two_pow]
  by_cases h : k = i
  · simp [h]
  · simp [h, Ne.symm h]
theorem wm_wb_tb {S k : Nat} {v : Bool} {i : Nat} (hi : i < 32) : (wm_wb S k v).testBit i = if i = k then v else S.testBit i := by
  unfold wm_wb
  cases v
  · simp only [Bool.false_eq_true, if_false, Nat.testBit_and, Nat.testBit_xor, wm_1s, wm_ones, decide_eq_true hi]
    by_cases h : i = k <;> simp [h]
  · simp only [if_true, Nat.testBit_or, wm_1s]
    by_cases h : i = k <;> simp [h]
theorem wm_wb_lt {S k c : Nat} {v : Bool} (hS : S < 2 ^ c) (hk : k < c) : wm_wb S k v < 2 ^ c := by
  unfold wm_wb
  cases v
  · simp only [Bool.false_eq_true, if_false]
    exact Nat.lt_of_le_of_lt Nat.and_le_left hS
  · simp only [if_true]
    exact Nat.or_lt_two_pow hS (by rw [Nat.one_shiftLeft]; exact Nat.pow_lt_pow_right (by decide) hk)
/-- f 0 or f 1 or .. or f (k - 1) -/
def wm_or : Nat → (Nat → Nat) → Nat
  | 0, _ => 0
  | k + 1, f => wm_or k f ||| f k
theorem wm_or_s (k : Nat) (f : Nat → Nat) : wm_or (k + 1) f = wm_or k f ||| f k := rfl
theorem wm_or_ext {k : Nat} {f : Nat → Nat} : ∀ {k1 : Nat}, k ≤ k1 → (∀ j, k ≤ j → j < k1 → f j = 0) → wm_or k1 f = wm_or k f := by
  intro k1
  induction k1 with
  | zero => intro h _; rw [Nat.le_zero.mp h]
  | succ k1 ih =>
    intro h hz
    rcases Nat.lt_or_ge k1 k with h2 | h2
    · rw [show k1 + 1 = k by omega]
    · rw [wm_or_s, hz k1 h2 (Nat.lt_succ_self _), Nat.or_zero]
      exact ih h2 (fun j h3 h4 => hz j h3 (by omega))
theorem wm_or_z {k : Nat} {f : Nat → Nat} (h : ∀ j, j < k → f j = 0) : wm_or k f = 0 := by
  rw [wm_or_ext (k := 0) (Nat.zero_le _) (fun j _ h2 => h j h2)]
  rfl
theorem wm_or_cg {k : Nat} {f g : Nat → Nat} (h : ∀ j, j < k → f j = g j) : wm_or k f = wm_or k g := by
  induction k with
  | zero => rfl
  | succ k ih => rw [wm_or_s, wm_or_s, ih (fun j hj => h j (by omega)), h k (Nat.lt_succ_self _)]
theorem wm_or_tb (f : Nat → Nat) (i : Nat) : ∀ k, (wm_or k f).testBit i = true ↔ ∃ j, j < k ∧ (f j).testBit i = true := by
  intro k
  induction k with
  | zero => simp [wm_or]
  | succ k ih =>
    rw [wm_or_s, Nat.testBit_or, Bool.or_eq_true, ih]
    constructor
    · rintro (⟨j, h1, h2⟩ | h)
      · exact ⟨j, by omega, h2⟩
      · exact ⟨k, by omega, h⟩
    · rintro ⟨j, h1, h2⟩
      rcases Nat.lt_or_ge j k with h3 | h3
      · exact Or.inl ⟨j, h3, h2⟩
      · rw [show j = k by omega] at h2
        exact Or.inr h2
theorem wm_or_lt {c : Nat} {f : Nat → Nat} : ∀ {k : Nat}, (∀ j, j < k → f j < 2 ^ c) → wm_or k f < 2 ^ c := by
  intro k
  induction k with
  | zero => intro _; exact Nat.two_pow_pos c
  | succ k ih =>
    intro h
    exact Nat.or_lt_two_pow (ih (fun j hj => h j (by omega))) (h k (Nat.lt_succ_self _))
theorem wm_shr0 {S i : Nat} (h : S >>> i = 0) : ∀ j, i ≤ j → S.testBit j = false := by
  intro j hj
  have h1 : (S >>> i).testBit (j - i) = false := by rw [h, Nat.zero_testBit]
  rw [Nat.testBit_shiftRight, show i + (j - i) = j by omega] at h1
  exact h1
/-- where a set of states comes to with a letter -/
def wm_st (g : Nat → Nat) (c lr S : Nat) : Nat := wm_or c (fun x => if S.testBit x then g (lr * 24 + x) else 0)
theorem wm_ntzf : ∀ k, k < 31 → ∀ z : Nat, z = 2 ^ k - 1 → z < 2 ^ 31 := by
  intro k hk z hz
  have : 2 ^ k ≤ 2 ^ 30 := Nat.pow_le_pow_right (by decide) (by omega)
  omega
theorem wm_fill1 {g : Nat → Nat} {i v : Nat} (h : ∀ j, j < i → g j = v) : ∀ j, j < i + 1 → va_up g i v j = v := by
  intro j hj
  by_cases h1 : j = i
  · rw [h1, va_up_self]
  · rw [va_up_ne _ _ h1]; exact h j (by omega)
theorem wm_fill2 {g : Nat → Nat} {x i v : Nat} (h : ∀ j, x ≤ j → j < i → g j = v) : ∀ j, x ≤ j → j < i + 1 → va_up g i v j = v := by
  intro j h0 hj
  by_cases h1 : j = i
  · rw [h1, va_up_self]
  · rw [va_up_ne _ _ h1]; exact h j h0 (by omega)
theorem wm_fill3 {g f : Nat → Nat} {x y i v : Nat} (h : ∀ j, j < x ∨ y ≤ j → g j = f j) (h1 : x ≤ i) (h2 : i < y) : ∀ j, j < x ∨ y ≤ j → va_up g i v j = f j := by
  intro j hj
  rw [va_up_ne _ _ (by omega)]
  exact h j hj
