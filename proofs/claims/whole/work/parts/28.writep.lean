/-- writeTo: the goals written so far -/
def wm_sw1 (cn : Nat) (lt : Nat → Nat) (a : Nat) : Nat := wm_or cn (fun x => if 1 ≤ x ∧ (lt x).testBit a = true then 1 <<< x else 0)
def wm_wt (cn : Nat) (fl lt : Nat → Nat) (L F : Nat) (g1 : Nat → Nat) : Prop := ∀ a x, a < 8 → x < cn → (a < L ∨ (a = L ∧ x < F)) → g1 (a * 24 + x) = fl x &&& wm_sw1 cn lt a
theorem wm_wt0 {cn : Nat} {fl lt g1 : Nat → Nat} : wm_wt cn fl lt 0 0 g1 := fun a x _ _ h => absurd h (by omega)
theorem wm_wtL {cn L F : Nat} {fl lt g1 : Nat → Nat} (h : wm_wt cn fl lt L F g1) (hF : cn ≤ F) : wm_wt cn fl lt (L + 1) 0 g1 := fun a x h1 h2 h3 => h a x h1 h2 (by omega)
theorem wm_wt1 {cn L F : Nat} {fl lt g1 : Nat → Nat} (h : wm_wt cn fl lt L F g1) (hc : cn ≤ 24) (hF : F < cn) : wm_wt cn fl lt L (F + 1) (va_up g1 (L * 24 + F) (fl F &&& wm_sw1 cn lt L)) := by
  intro a x h1 h2 h3
  by_cases e : a * 24 + x = L * 24 + F
  · have e1 : a = L := by omega
    have e2 : x = F := by omega
    subst e1; subst e2
    rw [va_up_self]
  · rw [va_up_ne _ _ e]
    exact h a x h1 h2 (by omega)
