/-! the reference's reader -/
def wm_ba (tx : Nat → Nat) (sz i : Nat) : Nat := if i < sz then tx i else 4294967295
theorem wm_ba_lt {tx : Nat → Nat} {sz i : Nat} (h : ∀ i, tx i < 256) : wm_ba tx sz i < 256 ∨ wm_ba tx sz i = 4294967295 := by
  unfold wm_ba
  split
  · exact Or.inl (h i)
  · exact Or.inr rfl
theorem wm_ba_32 {tx : Nat → Nat} {sz i : Nat} (h : ∀ i, tx i < 256) : wm_ba tx sz i < 2 ^ 32 := by
  rcases wm_ba_lt (sz := sz) (i := i) h with q | q <;> omega
theorem wm_ba_in {tx : Nat → Nat} {sz i k : Nat} (h : wm_ba tx sz i = k) (hk : k < 256) : i < sz ∧ tx i = k := by
  unfold wm_ba at h
  split at h
  · rename_i q; exact ⟨q, h⟩
  · omega
def wm_ld (fo : Nat → Nat) (k y z : Nat) : Nat → Nat := fun x => if x < k ∧ y.testBit x = true then fo x ||| z else fo x
theorem wm_ld0 (fo : Nat → Nat) (y z : Nat) : fo = wm_ld fo 0 y z := by
  funext x; unfold wm_ld; rw [if_neg (by omega)]
theorem wm_ld1 {fo f1 : Nat → Nat} {i y z : Nat} (h : f1 = wm_ld fo i y z) (hb : y.testBit i = true) : va_up f1 i (f1 i ||| z) = wm_ld fo (i + 1) y z := by
  subst h
  funext x
  by_cases e : x = i
  · subst e; rw [va_up_self]; unfold wm_ld; rw [if_neg (by omega), if_pos ⟨by omega, hb⟩]
  · rw [va_up_ne _ _ e]; unfold wm_ld
    by_cases h2 : x < i ∧ y.testBit x = true
    · rw [if_pos h2, if_pos ⟨by omega, h2.2⟩]
    · rw [if_neg h2, if_neg (fun q => h2 ⟨by omega, q.2⟩)]
theorem wm_ld2 {fo f1 : Nat → Nat} {i y z : Nat} (h : f1 = wm_ld fo i y z) (hb : y.testBit i = false) : va_up f1 i (f1 i) = wm_ld fo (i + 1) y z := by
  rw [← wm_up_id f1 i]
  subst h
  funext x
  unfold wm_ld
  by_cases h2 : x < i ∧ y.testBit x = true
  · rw [if_pos h2, if_pos ⟨by omega, h2.2⟩]
  · rw [if_neg h2, if_neg (fun q => h2 ⟨by
      rcases Nat.lt_or_ge x i with h3 | h3
      · exact h3
      · have : x = i := by omega
        rw [this, hb] at q; exact absurd q.2 (by decide), q.2⟩)]
/-- the signs behind a thing -/
def wm_sg (tx : Nat → Nat) (sz la fi : Nat) : Nat → Nat → Bool → (Nat → Nat) → Nat × Bool × (Nat → Nat)
  | 0, aa, be, fo => (aa, be, fo)
  | m + 1, aa, be, fo => if wm_ba tx sz aa = 42 ∨ wm_ba tx sz aa = 43 ∨ wm_ba tx sz aa = 63 then wm_sg tx sz la fi m (aa + 1) (be || !decide (wm_ba tx sz aa = 43)) (if wm_ba tx sz aa = 63 then fo else wm_ld fo 24 la fi) else (aa, be, fo)
theorem wm_sgs {tx : Nat → Nat} {sz la fi aa : Nat} {be : Bool} {fo : Nat → Nat} (h : wm_ba tx sz aa = 42 ∨ wm_ba tx sz aa = 43 ∨ wm_ba tx sz aa = 63) : wm_sg tx sz la fi (sz - aa) aa be fo = wm_sg tx sz la fi (sz - (aa + 1)) (aa + 1) (be || !decide (wm_ba tx sz aa = 43)) (if wm_ba tx sz aa = 63 then fo else wm_ld fo 24 la fi) := by
  have hlt : aa < sz := by
    rcases h with h | h | h <;> exact (wm_ba_in h (by decide)).1
  rw [show sz - aa = sz - (aa + 1) + 1 by omega, wm_sg, if_pos h]
theorem wm_sge {tx : Nat → Nat} {sz la fi aa : Nat} {be : Bool} {fo : Nat → Nat} (h : ¬ (wm_ba tx sz aa = 42 ∨ wm_ba tx sz aa = 43 ∨ wm_ba tx sz aa = 63)) : wm_sg tx sz la fi (sz - aa) aa be fo = (aa, be, fo) := by
  cases hd : sz - aa with
  | zero => rw [wm_sg]
  | succ k => rw [wm_sg, if_neg h]
theorem wm_sg_le {tx : Nat → Nat} {sz la fi : Nat} : ∀ m aa be fo, (wm_sg tx sz la fi m aa be fo).1 ≤ aa + m
  | 0, aa, be, fo => by rw [wm_sg]; exact Nat.le_refl _
  | m + 1, aa, be, fo => by
    rw [wm_sg]
    split
    · have := wm_sg_le (tx := tx) (sz := sz) (la := la) (fi := fi) m (aa + 1) (be || !decide (wm_ba tx sz aa = 43)) (if wm_ba tx sz aa = 63 then fo else wm_ld fo 24 la fi)
      omega
    · exact Nat.le_add_right _ _
