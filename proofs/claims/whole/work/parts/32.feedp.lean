/-! feed's bytes -/
theorem wm_sb_mod (y : Nat) : wm_sb y = wm_sb (y % 256) := by
  unfold wm_sb nI
  congr 1
  apply Int8.toBitVec_inj.mp
  apply BitVec.eq_of_toNat_eq
  simp
theorem wm_nar_sb : ∀ y, y < 256 → vp_nar .byte (wm_sb y) = wm_sb y := by decide +kernel
theorem wm_bput {C : Nat → ClassId} {N i y : Nat} {f : Nat → Nat} : (wm_B C N (upd (fun j => wm_sb (f j)) i (vp_nar .byte (wm_sb y))) : va_E) = wm_B C N (fun j => wm_sb (va_up f i (y % 256) j)) := by
  have h : upd (fun j => wm_sb (f j)) i (vp_nar .byte (wm_sb y)) = fun j => wm_sb (va_up f i (y % 256) j) := by
    funext j
    by_cases h : j = i
    · subst h
      rw [va_up_self, wm_sb_mod y, wm_nar_sb _ (Nat.mod_lt _ (by decide))]
      simp [upd]
    · rw [va_up_ne _ _ h]
      simp [upd, h]
  show (Sum.inl (C 3, N, Sum.inl _) : va_E) = _
  rw [h]
theorem wm_ftx {ts v i : Nat} {tx tx1 : Nat → Nat} (h : tx1 = fun j => if ts ≤ j ∧ j < ts + i then v >>> (8 * (j - ts)) % 256 else tx j) : va_up tx1 (ts + i) (v >>> (8 * i) % 256) = fun j => if ts ≤ j ∧ j < ts + (i + 1) then v >>> (8 * (j - ts)) % 256 else tx j := by
  funext j
  by_cases e : j = ts + i
  · subst e
    rw [va_up_self, if_pos (by omega), Nat.add_sub_cancel_left]
  · rw [va_up_ne _ _ e, h]
    dsimp only
    by_cases h1 : ts ≤ j ∧ j < ts + i
    · rw [if_pos h1, if_pos (by omega)]
    · rw [if_neg h1, if_neg (by omega)]
