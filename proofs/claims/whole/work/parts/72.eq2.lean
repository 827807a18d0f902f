/-! the answers of the two sides are the same -/
theorem wm_st_lt2 {g : Nat → Nat} {cn : Nat} (hg : ∀ a x, a < 8 → x < cn → g (a * 24 + x) < 2 ^ cn) : ∀ S a, S < 2 ^ cn → a < 8 → wm_st g cn a S < 2 ^ cn := fun S a _ ha => wm_or_lt (fun j hj => by
  split
  · exact hg a j ha hj
  · exact Nat.two_pow_pos _)
theorem wm_sets_eq {k cn st : Nat} {ar g : Nat → Nat} (h : wm_sm k cn ar g) : wm_bfs (fun S a => wm_af ar k cn a S) 2049 0 [st] = wm_sets g cn st := by
  unfold wm_sets
  exact wm_bfs_cg (fun S a ha => (wm_st_af h S a ha).symm) _ _ _
theorem wm_words_eq {k cn st en len : Nat} {ar g : Nat → Nat} (h : wm_sm k cn ar g) (hc : cn ≤ 11) (hst : st < 2 ^ cn) (hg : ∀ a x, a < 8 → x < cn → g (a * 24 + x) < 2 ^ cn) : wm_cwr (fun S a => wm_af ar k cn a S) (List.range 2048) st en len = wm_cwr (fun S a => wm_st g cn a S) (wm_sets g cn st) st en len := by
  have hp : 2 ^ cn ≤ 2048 := Nat.pow_le_pow_right (by decide) hc
  have hall := wm_bfs_all (F := fun S a => wm_st g cn a S) hp (wm_st_lt2 hg) hst
  rw [wm_cwr_cg (G := fun S a => wm_st g cn a S) (fun S a ha => (wm_st_af h S a ha).symm)]
  unfold wm_sets
  exact wm_cwr_all hall.1 (fun x hx => Nat.lt_of_lt_of_le (hall.2.1 x hx) hp) hall.2.2.1 hall.2.2.2
theorem wm_rests_eq2 {k cn st en : Nat} {ar g g3 un1 : Nat → Nat} (h : wm_sm k cn ar g) (hc : cn ≤ 11) (hen : en < 2 ^ cn) (hg : ∀ a x, a < 8 → x < cn → g (a * 24 + x) < 2 ^ cn) (h3 : wm_bt cn 8 0 g g3) (hu : ∀ T, T < 2 ^ cn → wm_un (fun x => decide (x ∈ (wm_sets g3 cn en))) (2 ^ cn) T (un1 T)) :
    (wm_vf (fun j9 => wm_gr (wm_bfs (fun S a => wm_bf ar k cn a S) 2049 0 [en]) ((wm_bfs (fun S a => wm_af ar k cn a S) 2049 0 [st]).getD j9 0) (wm_bfs (fun S a => wm_bf ar k cn a S) 2049 0 [en]).length) (wm_bfs (fun S a => wm_af ar k cn a S) 2049 0 [st]).length []).length = (wm_vf (fun j => un1 ((2 ^ cn - 1) &&& ((wm_sets g cn st).getD j 0 ^^^ 4294967295))) (wm_sets g cn st).length []).length := by
  have hp : 2 ^ cn ≤ 2048 := Nat.pow_le_pow_right (by decide) hc
  have e : wm_bfs (fun S a => wm_bf ar k cn a S) 2049 0 [en] = wm_sets g3 cn en := by
    unfold wm_sets
    exact wm_bfs_cg (fun S a ha => (wm_st_bf h (by omega) hg h3 S a ha).symm) _ _ _
  have hall : ∀ x ∈ wm_sets g3 cn en, x < 2 ^ cn := by
    unfold wm_sets
    exact (wm_bfs_all (F := fun S a => wm_st g3 cn a S) hp (wm_st_lt2 (wm_bt_cn h3 (by omega))) hen).2.1
  rw [wm_sets_eq h, e]
  exact wm_rests_eq hc hall hu
theorem wm_run_eq {i j : Nat} {S : wm_St} {ar : Nat → Nat} (hi : wm_sm i (S.1 i).1 ar (S.1 i).2.2.2) (hj : wm_sm j (S.1 j).1 ar (S.1 j).2.2.2) : wm_hunt (fun T a => wm_af ar i (S.1 i).1 a T) (fun T a => wm_af ar j (S.1 j).1 a T) (S.1 i).2.2.1 (S.1 j).2.2.1 49153 0 (wm_ag [] (S.1 i).2.1 (S.1 j).2.1 0 0) = wg_run S i j := by
  unfold wg_run
  exact wm_hunt_cg (fun T a ha => (wm_st_af hi T a ha).symm) (fun T a ha => (wm_st_af hj T a ha).symm) _ _ _
theorem wm_arcs_eq {k cn lr sv st en : Nat} {ar g : Nat → Nat} (h : wm_sm k cn ar g) (hsv : sv < cn) (hlr : lr ≤ 8) : (if lr < 8 then ar (192 * k + 8 * sv + lr) else (st >>> sv &&& 1) + 2 * (en >>> sv &&& 1)) = if lr = 8 then (if st.testBit sv then 1 else 0) ||| (if en.testBit sv then 2 else 0) else g (lr * 24 + sv) := by
  by_cases e : lr = 8
  · rw [if_neg (by omega), if_pos e, wm_arcs8]
  · rw [if_pos (by omega), if_neg e, h lr sv (by omega) hsv]
section WMK2
variable {C : Nat → ClassId} {b : Nat} {E E' : Nat → va_E} {M : Nat → Nat × Nat × Nat × (Nat → Nat)} {ar ss sa se : Nat → Nat} {k : Nat}
theorem wm_mA_mark {s1 t1 : Nat} (h : ∀ k, k < 8 → ss k = (M k).1 ∧ sa k = (M k).2.1 ∧ se k = (M k).2.2.1 ∧ wm_sm k (M k).1 ar (M k).2.2.2) (hk : k < 8) (h1 : E' 121 = wm_I C 1536 ar) (h2 : E' 122 = wm_I C 8 ss) (h3 : E' 123 = wm_I C 8 (va_up sa k s1)) (h4 : E' 124 = wm_I C 8 (va_up se k t1)) : wm_mA C (va_up M k ((M k).1, s1, t1, (M k).2.2.2)) E' := by
  refine ⟨ar, ss, _, _, h1, h2, h3, h4, fun i hi => ?_⟩
  by_cases e : i = k
  · subst e
    rw [va_up_self, va_up_self, va_up_self]
    exact ⟨(h i hi).1, rfl, rfl, (h i hi).2.2.2⟩
  · rw [va_up_ne _ _ e, va_up_ne _ _ e, va_up_ne _ _ e]
    exact h i hi
theorem wm_mA_arc {lr sv v : Nat} (h : ∀ k, k < 8 → ss k = (M k).1 ∧ sa k = (M k).2.1 ∧ se k = (M k).2.2.1 ∧ wm_sm k (M k).1 ar (M k).2.2.2) (hM : ∀ i, i < 8 → (M i).1 ≤ 24) (hk : k < 8) (hlr : lr < 8) (hsv : sv < (M k).1) (h1 : E' 121 = wm_I C 1536 (va_up ar (192 * k + 8 * sv + lr) v)) (h2 : E' 122 = wm_I C 8 ss) (h3 : E' 123 = wm_I C 8 sa) (h4 : E' 124 = wm_I C 8 se) : wm_mA C (va_up M k ((M k).1, (M k).2.1, (M k).2.2.1, va_up (M k).2.2.2 (lr * 24 + sv) v)) E' := by
  refine ⟨_, ss, sa, se, h1, h2, h3, h4, fun i hi => ?_⟩
  have hik := hM i hi
  have hkk := hM k hk
  by_cases e : i = k
  · subst e
    rw [va_up_self]
    refine ⟨(h i hi).1, (h i hi).2.1, (h i hi).2.2.1, fun a x ha hx => ?_⟩
    have hx : x < (M i).1 := hx
    show va_up ar _ v _ = va_up (M i).2.2.2 (lr * 24 + sv) v (a * 24 + x)
    by_cases q : a = lr ∧ x = sv
    · rw [q.1, q.2, va_up_self, va_up_self]
    · rw [va_up_ne _ _ (by omega), va_up_ne _ _ (by omega)]
      exact (h i hi).2.2.2 a x ha hx
  · rw [va_up_ne _ _ e]
    refine ⟨(h i hi).1, (h i hi).2.1, (h i hi).2.2.1, fun a x ha hx => ?_⟩
    rw [va_up_ne _ _ (by omega)]
    exact (h i hi).2.2.2 a x ha hx
theorem wm_blank_sm {y : Nat} {na ar1 g1 : Nat → Nat} (hy : y ≤ 24) (h0 : ∀ j, j < 192 → na j = 0) (hp : wm_cp (192 * k) 192 na ar ar1) (hg : ∀ j, j < 192 → g1 j = 0) : wm_sm k y ar1 g1 := fun a x ha hx => by
  rw [show 192 * k + 8 * x + a = 192 * k + (8 * x + a) by omega, hp.1 _ (by omega), h0 _ (by omega), hg _ (by omega)]
theorem wm_read_sm {cn : Nat} {na ar1 g1 fl lt : Nat → Nat} (hc : cn ≤ 24) (h0 : ∀ s l, s < cn → l < 8 → na (8 * s + l) = fl s &&& wm_sw1 cn lt l) (hp : wm_cp (192 * k) 192 na ar ar1) (hg : wm_wt cn fl lt 8 0 g1) : wm_sm k cn ar1 g1 := fun a x ha hx => by
  rw [show 192 * k + 8 * x + a = 192 * k + (8 * x + a) by omega, hp.1 _ (by omega), h0 x a hx ha, hg a x ha hx (Or.inl ha)]
end WMK2
