/-! the reader of expressions -/
def wm_lk (fl : Nat → Nat) (k la fi : Nat) : Nat → Nat := fun x => if 1 ≤ x ∧ x < k ∧ la.testBit x = true then fl x ||| fi else fl x
theorem wm_lk0 (fl : Nat → Nat) (la fi : Nat) : fl = wm_lk fl 1 la fi := by
  funext x
  unfold wm_lk
  rw [if_neg (by omega)]
theorem wm_lk1 {fl f1 : Nat → Nat} {i la fi : Nat} (h : f1 = wm_lk fl i la fi) (h1 : 1 ≤ i) (hb : la.testBit i = true) : va_up f1 i (f1 i ||| fi) = wm_lk fl (i + 1) la fi := by
  subst h
  funext x
  by_cases hx : x = i
  · subst hx
    rw [va_up_self]
    unfold wm_lk
    rw [if_neg (by omega), if_pos ⟨h1, by omega, hb⟩]
  · rw [va_up_ne _ _ hx]
    unfold wm_lk
    by_cases h2 : 1 ≤ x ∧ x < i ∧ la.testBit x = true
    · rw [if_pos h2, if_pos ⟨h2.1, by omega, h2.2.2⟩]
    · rw [if_neg h2, if_neg (fun q => h2 ⟨q.1, by omega, q.2.2⟩)]
theorem wm_lk2 {fl f1 : Nat → Nat} {i la fi : Nat} (h : f1 = wm_lk fl i la fi) (hb : la.testBit i = false) : f1 = wm_lk fl (i + 1) la fi := by
  subst h
  funext x
  unfold wm_lk
  by_cases h2 : 1 ≤ x ∧ x < i ∧ la.testBit x = true
  · rw [if_pos h2, if_pos ⟨h2.1, by omega, h2.2.2⟩]
  · rw [if_neg h2, if_neg (fun q => h2 ⟨q.1, ?_, q.2.2⟩)]
    rcases Nat.lt_or_ge x i with h3 | h3
    · exact h3
    · have : x = i := by omega
      subst this
      rw [hb] at q
      exact absurd q.2.2 (by decide)
def wm_sb (x : Nat) : Int32 := (nI x).toInt8.toInt32
def wm_lo (x : Nat) : Nat := if 97 ≤ x ∧ x < 105 then x - 97 else 4294967295
theorem wm_sb_lt97 : ∀ x, x < 256 → wm_sb x < nI 97 → wm_lo x = 4294967295 := by decide +kernel
theorem wm_sb_ge105 : ∀ x, x < 256 → nI 105 ≤ wm_sb x → wm_lo x = 4294967295 := by decide +kernel
theorem wm_sb_in : ∀ x, x < 256 → ¬ wm_sb x < nI 97 → ¬ nI 105 ≤ wm_sb x → wm_sb x - nI 97 = nI (wm_lo x) ∧ 97 ≤ x ∧ x < 105 := by decide +kernel
theorem wm_sb_eq {x k : Nat} (hx : x < 256) (hk : k < 128) : wm_sb x = nI k ↔ x = k := by
  have h : ∀ x, x < 256 → ∀ k, k < 128 → (wm_sb x = nI k ↔ x = k) := by decide +kernel
  exact h x hx k hk
theorem wm_lo_in {x : Nat} (h : wm_lo x ≠ 4294967295) : 97 ≤ x ∧ x < 105 ∧ wm_lo x = x - 97 := by
  unfold wm_lo at h ⊢
  split at h
  · rename_i q; exact ⟨q.1, q.2, if_pos q⟩
  · exact absurd rfl h
theorem wm_lo_lt (x : Nat) : wm_lo x < 2 ^ 32 := by unfold wm_lo; split <;> omega
theorem wm_lo_out {x : Nat} (h : wm_lo x = 4294967295) : ¬ (97 ≤ x ∧ x < 105) := by
  intro q
  unfold wm_lo at h
  rw [if_pos q] at h
  omega
/-- the letters from y up to but z put into a set -/
def wm_rg (S y z : Nat) : Nat := wm_or z (fun x => if y ≤ x then 1 <<< x else 0) ||| S
theorem wm_rg0 (S y : Nat) : S = wm_rg S y y := by
  unfold wm_rg
  rw [wm_or_z (fun j hj => if_neg (by omega)), Nat.zero_or]
theorem wm_rg1 {S y z : Nat} (h : y ≤ z) : wm_rg S y z ||| 1 <<< z = wm_rg S y (z + 1) := by
  unfold wm_rg
  rw [wm_or_s, if_pos h, Nat.or_assoc, Nat.or_comm S, ← Nat.or_assoc]
theorem wm_up_eq {f : Nat → Nat} {k v w : Nat} (h : v = w) : va_up f k v = va_up f k w := by rw [h]
theorem wm_up_up (f : Nat → Nat) (k v w : Nat) : va_up (va_up f k v) k w = va_up f k w := by
  funext x
  by_cases h : x = k
  · rw [h, va_up_self, va_up_self]
  · rw [va_up_ne _ _ h, va_up_ne _ _ h, va_up_ne _ _ h]
theorem wm_up_id (f : Nat → Nat) (k : Nat) : f = va_up f k (f k) := by
  funext x
  by_cases h : x = k
  · rw [h, va_up_self]
  · rw [va_up_ne _ _ h]
theorem wm_lke {fl f1 : Nat → Nat} {i cn la fi : Nat} (h : f1 = wm_lk fl i la fi) (hc : cn ≤ i) (hi : i ≤ cn) : wm_lk fl cn la fi = f1 := by
  rw [h, Nat.le_antisymm hc hi]
