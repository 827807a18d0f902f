/-! read: what writeTo leaves of the reader, and the machine that it writes -/
def wm_z9 (z : wm_pst) : wm_pst := ((wm_ep z 0).1, va_up (wm_ep z 0).2.1 0 ((wm_ep z 0).2.2.2.2 0 0).2.1, (wm_ep z 0).2.2)
def wm_en (z : wm_pst) : Nat := ((wm_ep z 0).2.2.2.2 0 0).2.2 ||| (if ((wm_ep z 0).2.2.2.2 0 0).1 then 1 else 0)
theorem wm_z9_b {z : wm_pst} (hz : wm_zb z) : wm_zb (wm_z9 z) := by
  obtain ⟨⟨b1, b2, b3, b4, b5⟩, b6, b7, b8⟩ := hz
  have h := wm_ap_b (b8 0 0) (wm_jp_b (b8 0 1) (b8 0 2))
  exact ⟨⟨b1, b2, b3, b4, b5⟩, wm_up_b (wm_lk_b b6 (b8 _ _).1) h.1, b7, wm_pt_b b8 h wm_e1_b wm_e1_b⟩
theorem wm_rd_z9 {C : Nat → ClassId} {b fk fp t tg : Nat} {E E1 : Nat → va_E} {z : wm_pst} (h : wm_rd C b E fk fp z) (ht : t < 4 ∨ 93 ≤ t) (htg : tg < 4 ∨ 93 ≤ tg) (h7 : E1 7 = wm_I C 24 (wm_z9 z).2.1) (h0 : E1 (9 + 4 * 0) = wm_le b 0 false) (h1 : E1 (10 + 4 * 0) = wm_pe (wm_ap (z.2.2.2.2 0 0) (wm_jp (z.2.2.2.2 0 1) (z.2.2.2.2 0 2)))) (h2 : E1 (11 + 4 * 0) = wm_pe wm_e1) (h3 : E1 (12 + 4 * 0) = wm_pe wm_e1) (hq : ∀ j, j ≠ t → j ≠ tg → j ≠ 7 → j ≠ 9 + 4 * 0 → j ≠ 10 + 4 * 0 → j ≠ 11 + 4 * 0 → j ≠ 12 + 4 * 0 → E1 j = E j) : wm_rd C b E1 fk fp (wm_z9 z) :=
  ⟨(hq 5 (by omega) (by omega) (by decide) (by decide) (by decide) (by decide) (by decide)).trans h.1, (hq 6 (by omega) (by omega) (by decide) (by decide) (by decide) (by decide) (by decide)).trans h.2.1, h7, (hq 8 (by omega) (by omega) (by decide) (by decide) (by decide) (by decide) (by decide)).trans h.2.2.2.1, wm_lw_up h.2.2.2.2 h0 h1 h2 h3 (fun j _ _ _ _ _ _ => hq j (by omega) (by omega) (by omega) (by omega) (by omega) (by omega) (by omega))⟩
theorem wm_go_k (f : Nat → Nat) : ∀ (k i : Nat) (z : wm_pst), (wm_go f k i z).1 ≤ 4
  | 0, _, _ => Nat.le_of_ble_eq_true rfl
  | k + 1, i, z => by
    unfold wm_go
    split
    · exact wm_go_k f k (i + 1) _
    · exact wm_by_k _ _
theorem wm_kd_k (f : Nat → Nat) (k i : Nat) (z : wm_pst) : wm_kd (wm_go f k i z) ≤ 4 := by
  unfold wm_kd
  split
  · decide
  · exact wm_go_k f k i z
