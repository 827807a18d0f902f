/-- becomeBeside -/
def wm_bb (c2 c3 L F : Nat) (g2 g3 g1 : Nat → Nat) : Prop := ∀ a x, a < 8 → x < 24 → g1 (a * 24 + x) = if c2 ≤ x ∧ x < c2 + c3 ∧ (a < L ∨ (a = L ∧ x < c2 + F)) then g3 (a * 24 + (x - c2)) <<< c2 else g2 (a * 24 + x)
theorem wm_bb0 {c2 c3 : Nat} {g2 g3 g1 : Nat → Nat} (h : ∀ j, j < 192 → g1 j = g2 j) : wm_bb c2 c3 0 0 g2 g3 g1 := by
  intro a x ha hx
  rw [h _ (by omega), if_neg (by omega)]
theorem wm_bbL {c2 c3 L F : Nat} {g2 g3 g1 : Nat → Nat} (h : wm_bb c2 c3 L F g2 g3 g1) (hF : c3 ≤ F) : wm_bb c2 c3 (L + 1) 0 g2 g3 g1 := by
  intro a x ha hx
  rw [h a x ha hx]
  by_cases h1 : c2 ≤ x ∧ x < c2 + c3 ∧ (a < L ∨ (a = L ∧ x < c2 + F))
  · rw [if_pos h1, if_pos (by omega)]
  · rw [if_neg h1, if_neg (by omega)]
theorem wm_bb1 {c2 c3 L F : Nat} {g2 g3 g1 : Nat → Nat} (h : wm_bb c2 c3 L F g2 g3 g1) (hF : F < c3) (hc : c2 + c3 ≤ 24) : wm_bb c2 c3 L (F + 1) g2 g3 (va_up g1 (L * 24 + (c2 + F)) (g3 (L * 24 + F) <<< c2)) := by
  intro a x ha hx
  by_cases he : a * 24 + x = L * 24 + (c2 + F)
  · have h1 : a = L := by omega
    have h2 : x = c2 + F := by omega
    subst h1; subst h2
    rw [va_up_self, if_pos (by omega), Nat.add_sub_cancel_left]
  · rw [va_up_ne _ _ he, h a x ha hx]
    by_cases h1 : c2 ≤ x ∧ x < c2 + c3 ∧ (a < L ∨ (a = L ∧ x < c2 + F))
    · rw [if_pos h1, if_pos (by omega)]
    · rw [if_neg h1, if_neg (by omega)]
/-- pairArcs -/
def wm_pa (c1 c2 xa ya L : Nat) (ga gb g g1 : Nat → Nat) : Prop := (∀ a, a < L → g1 (a * 24 + (xa * c2 + ya)) = wm_pr (ga (a * 24 + xa)) (gb (a * 24 + ya)) c1 c2) ∧ ∀ j, (∀ a, a < L → j ≠ a * 24 + (xa * c2 + ya)) → g1 j = g j
theorem wm_pa0 {c1 c2 xa ya : Nat} {ga gb g : Nat → Nat} : wm_pa c1 c2 xa ya 0 ga gb g g := ⟨fun a h => absurd h (Nat.not_lt_zero _), fun _ _ => rfl⟩
theorem wm_pa1 {c1 c2 xa ya L : Nat} {ga gb g g1 : Nat → Nat} (h : wm_pa c1 c2 xa ya L ga gb g g1) : wm_pa c1 c2 xa ya (L + 1) ga gb g (va_up g1 (L * 24 + (xa * c2 + ya)) (wm_pr (ga (L * 24 + xa)) (gb (L * 24 + ya)) c1 c2)) := by
  refine ⟨fun a ha => ?_, fun j hj => ?_⟩
  · by_cases he : a = L
    · subst he; rw [va_up_self]
    · rw [va_up_ne _ _ (by omega)]; exact h.1 a (by omega)
  · rw [va_up_ne _ _ (hj L (Nat.lt_succ_self _))]
    exact h.2 j (fun a ha => hj a (by omega))
/-- becomePairs -/
def wm_bp (c1 c2 xa ya : Nat) (ga gb g1 : Nat → Nat) : Prop := ∀ a x y, a < 8 → x < c1 → y < c2 → (x < xa ∨ (x = xa ∧ y < ya)) → g1 (a * 24 + (x * c2 + y)) = wm_pr (ga (a * 24 + x)) (gb (a * 24 + y)) c1 c2
theorem wm_bp0 {c1 c2 : Nat} {ga gb g1 : Nat → Nat} : wm_bp c1 c2 0 0 ga gb g1 := fun a x y _ _ _ h => absurd h (by omega)
theorem wm_bpL {c1 c2 xa ya : Nat} {ga gb g1 : Nat → Nat} (h : wm_bp c1 c2 xa ya ga gb g1) (hy : c2 ≤ ya) : wm_bp c1 c2 (xa + 1) 0 ga gb g1 := fun a x y h1 h2 h3 h4 => h a x y h1 h2 h3 (by omega)
theorem wm_pinj {x y x1 y1 k : Nat} (hy : y < k) (hy1 : y1 < k) (h : x * k + y = x1 * k + y1) : x = x1 ∧ y = y1 := by
  have h1 : (x * k + y) / k = x := by rw [Nat.mul_comm, Nat.mul_add_div (by omega), Nat.div_eq_of_lt hy, Nat.add_zero]
  have h2 : (x1 * k + y1) / k = x1 := by rw [Nat.mul_comm, Nat.mul_add_div (by omega), Nat.div_eq_of_lt hy1, Nat.add_zero]
  have h3 : x = x1 := by rw [← h1, h, h2]
  subst h3
  exact ⟨rfl, by omega⟩
theorem wm_bp1 {c1 c2 xa ya : Nat} {ga gb g1 g2 : Nat → Nat} (h : wm_bp c1 c2 xa ya ga gb g1) (hx : xa < c1) (hy : ya < c2) (hc : c1 * c2 ≤ 24) (h2 : wm_pa c1 c2 xa ya 8 ga gb g1 g2) : wm_bp c1 c2 xa (ya + 1) ga gb g2 := by
  intro a x y ha hx1 hy1 hd
  by_cases he : x = xa ∧ y = ya
  · obtain ⟨rfl, rfl⟩ := he
    exact h2.1 a ha
  · rw [h2.2]
    · exact h a x y ha hx1 hy1 (by omega)
    · intro a2 ha2 q
      have e1 := wm_idx hx1 hy1
      have e2 := wm_idx hx hy
      have e3 : x * c2 + y = xa * c2 + ya := by omega
      exact he (wm_pinj hy1 hy e3)
