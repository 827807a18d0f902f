/-! pairs, as the reference counts them -/
def wm_pm (S1 S2 k : Nat) : Nat := wm_or 24 (fun x => if x * k < 24 ∧ S1.testBit x = true then S2 <<< (x * k) else 0)
theorem wm_pm_of {S1 S2 k r : Nat} (h : ∃ c, 24 ≤ c * k ∧ c ≤ 24 ∧ (∀ x, x < c → x * k < 24) ∧ r = wm_or c (fun x => if S1.testBit x then S2 <<< (x * k) else 0)) : r = wm_pm S1 S2 k := by
  obtain ⟨c, h1, h2, h3, h4⟩ := h
  rw [h4]
  unfold wm_pm
  rw [wm_or_ext h2 (fun j hj _ => if_neg (fun q => by have := Nat.mul_le_mul_right k hj; omega))]
  refine wm_or_cg (fun j hj => ?_)
  by_cases hb : S1.testBit j = true
  · rw [if_pos hb, if_pos ⟨h3 j hj, hb⟩]
  · rw [if_neg hb, if_neg (fun q => hb q.2)]
theorem wm_lowk {i k : Nat} (h : ∀ x, x < i → x * k < 24) (hi : i * k < 24) : ∀ x, x < i + 1 → x * k < 24 := fun x hx => by
  by_cases e : x = i
  · rw [e]; exact hi
  · exact h x (by omega)
