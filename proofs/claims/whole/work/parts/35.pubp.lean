/-! takes -/
def wm_tk (g : Nat → Nat) (cn en : Nat) (tx : Nat → Nat) : Nat → Nat → Nat → Bool
  | 0, _, S => decide (S &&& en ≠ 0)
  | m + 1, i, S => if wm_lo (tx i) = 4294967295 then false else wm_tk g cn en tx m (i + 1) (wm_st g cn (wm_lo (tx i)) S)
theorem wm_tk0 {g tx : Nat → Nat} {cn en ts i S : Nat} {r : Bool} (h : wm_tk g cn en tx (ts - i) i S = r) (hi : ts ≤ i) : r = decide (S &&& en ≠ 0) := by
  rw [← h, Nat.sub_eq_zero_of_le hi, wm_tk]
theorem wm_tk1 {g tx : Nat → Nat} {cn en ts i S : Nat} {r : Bool} (h : wm_tk g cn en tx (ts - i) i S = r) (hi : i < ts) (hl : wm_lo (tx i) = 4294967295) : r = false := by
  rw [← h, show ts - i = ts - (i + 1) + 1 by omega, wm_tk, if_pos hl]
theorem wm_tk2 {g tx : Nat → Nat} {cn en ts i S : Nat} {r : Bool} (h : wm_tk g cn en tx (ts - i) i S = r) (hi : i < ts) (hl : wm_lo (tx i) ≠ 4294967295) : wm_tk g cn en tx (ts - (i + 1)) (i + 1) (wm_st g cn (wm_lo (tx i)) S) = r := by
  rw [← h, show ts - i = ts - (i + 1) + 1 by omega, wm_tk, if_neg hl]
theorem wm_and1 (z : Nat) (h : z < 4) : z &&& 1 = 0 ∨ z &&& 1 = 1 := by
  revert z; decide
theorem wm_bt_cn {cn : Nat} {g g3 : Nat → Nat} (h : wm_bt cn 8 0 g g3) (hc : cn ≤ 24) : ∀ a x, a < 8 → x < cn → g3 (a * 24 + x) < 2 ^ cn := fun a x ha hx => wm_lt_of (fun i hi => by
  rw [h a x i ha (by omega), decide_eq_false (by omega)]
  rfl)
theorem wm_wl {sc wl wg1 wg : Nat} {G : List wm_gp} {gr mw : Nat → Nat} {A : Prop} {B : Nat → Prop} (hw : wm_hw sc G gr mw) (hsc : sc ≤ 2048) (h : (A ∧ wl = 4294967295 ∧ wg1 = wg) ∨ ∃ w, B w ∧ w < G.length ∧ wg1 = w ∧ wl = wm_dp G w) : wl < 2 ^ 32 := by
  rcases h with ⟨-, h, -⟩ | ⟨w, -, h1, -, h2⟩
  · omega
  · have h3 := wm_gg_len hw.1 hsc
    have h4 := wm_dep_le hw.1 w h1
    omega
