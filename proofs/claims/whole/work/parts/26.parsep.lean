/-! the run over a text -/
theorem wm_up_b {f : Nat → Nat} {k v N : Nat} (h : ∀ i, f i < N) (hv : v < N) : ∀ i, va_up f k v i < N := fun i => by
  by_cases e : i = k
  · rw [e, va_up_self]; exact hv
  · rw [va_up_ne _ _ e]; exact h i
theorem wm_lk_b {f : Nat → Nat} {k la fi c : Nat} (h : ∀ i, f i < 2 ^ c) (hv : fi < 2 ^ c) : ∀ i, wm_lk f k la fi i < 2 ^ c := fun i => by
  unfold wm_lk
  split
  · exact Nat.or_lt_two_pow (h i) hv
  · exact h i
abbrev wm_pb (q : Bool × Nat × Nat) : Prop := q.2.1 < 2 ^ 24 ∧ q.2.2 < 2 ^ 24
theorem wm_pt_b {P : Nat → Nat → Bool × Nat × Nat} {o : Nat} {p0 p1 p2 : Bool × Nat × Nat} (h : ∀ i k, wm_pb (P i k)) (h0 : wm_pb p0) (h1 : wm_pb p1) (h2 : wm_pb p2) : ∀ i k, wm_pb (wm_pt P o p0 p1 p2 i k) := fun i k => by
  unfold wm_pt
  split
  · split
    · exact h0
    · split
      · exact h1
      · exact h2
  · exact h i k
theorem wm_jp_b {r q : Bool × Nat × Nat} (h1 : wm_pb r) (h2 : wm_pb q) : wm_pb (wm_jp r q) := by
  refine ⟨Nat.or_lt_two_pow h1.1 ?_, Nat.or_lt_two_pow h2.2 ?_⟩
  · split
    · exact h2.1
    · decide
  · split
    · exact h1.2
    · decide
theorem wm_ap_b {r q : Bool × Nat × Nat} (h1 : wm_pb r) (h2 : wm_pb q) : wm_pb (wm_ap r q) := ⟨Nat.or_lt_two_pow h1.1 h2.1, Nat.or_lt_two_pow h1.2 h2.2⟩
theorem wm_e1_b : wm_pb wm_e1 := by decide
theorem wm_e0_b : wm_pb (false, 0, 0) := by decide
theorem wm_s24 {k : Nat} (h : k < 24) : 1 <<< k < 2 ^ 24 := by rw [Nat.one_shiftLeft]; exact Nat.pow_lt_pow_right (by decide) h
theorem wm_s8 {k : Nat} (h : k < 8) : 1 <<< k < 2 ^ 8 := by rw [Nat.one_shiftLeft]; exact Nat.pow_lt_pow_right (by decide) h
theorem wm_as_b {z : wm_pst} {v : Nat} (hz : wm_zb z) (hv : v < 2 ^ 8) : wm_zb (wm_as z v).2 := by
  obtain ⟨⟨b1, b2, b3, b4, b5⟩, b6, b7, b8⟩ := hz
  unfold wm_as
  split
  · rename_i h
    exact ⟨⟨b1, Nat.le_add_left 1 _, h, b4, b5⟩, wm_lk_b (wm_up_b b6 (by decide)) (b8 _ _).1, wm_up_b b7 hv, wm_pt_b b8 (b8 _ _) (wm_jp_b (b8 _ _) (b8 _ _)) ⟨wm_s24 h, wm_s24 h⟩⟩
  · exact ⟨⟨b1, b2, b3, b4, b5⟩, b6, b7, b8⟩
theorem wm_lo8 {x : Nat} (h : wm_lo x ≠ 4294967295) : wm_lo x < 8 := by
  obtain ⟨h1, h2, h3⟩ := wm_lo_in h
  omega
theorem wm_to_b {z : wm_pst} {x : Nat} (hz : wm_zb z) : wm_zb (wm_to z x).2 := by
  obtain ⟨⟨b1, b2, b3, b4, b5⟩, b6, b7, b8⟩ := id hz
  unfold wm_to
  split
  · rename_i h
    exact wm_as_b hz (wm_s8 (wm_lo8 h))
  split
  · exact wm_as_b hz (by decide)
  split
  · exact wm_as_b (z := ((z.1.1, z.1.2.1, 1, false, z.1.2.2.2.2), z.2)) ⟨⟨b1, b2, b3, Nat.le_of_ble_eq_true rfl, b5⟩, b6, b7, b8⟩ (by decide)
  split
  · split
    · rename_i h
      exact ⟨⟨h, b2, b3, b4, b5⟩, b6, b7, wm_pt_b b8 wm_e0_b wm_e1_b wm_e1_b⟩
    · exact hz
  split
  · split
    · rename_i h
      exact ⟨⟨Nat.le_trans (Nat.sub_le _ _) b1, b2, b3, b4, b5⟩, wm_lk_b (wm_lk_b b6 (b8 _ _).1) (b8 _ _).1, b7, wm_pt_b (wm_pt_b b8 (wm_ap_b (b8 _ _) (wm_jp_b (b8 _ _) (b8 _ _))) wm_e1_b wm_e1_b) (b8 _ _) (wm_jp_b (b8 _ _) (b8 _ _)) (wm_ap_b (b8 _ _) (wm_jp_b (b8 _ _) (b8 _ _)))⟩
    · exact hz
  split
  · exact ⟨⟨b1, b2, b3, b4, b5⟩, wm_lk_b b6 (b8 _ _).1, b7, wm_pt_b b8 (wm_ap_b (b8 _ _) (wm_jp_b (b8 _ _) (b8 _ _))) wm_e1_b wm_e1_b⟩
  split
  · refine ⟨⟨b1, b2, b3, b4, b5⟩, ?_, b7, wm_pt_b b8 (b8 _ _) (b8 _ _) (b8 _ _)⟩
    dsimp only
    split
    · exact wm_lk_b b6 (b8 _ _).1
    · exact b6
  · exact hz
theorem wm_rg_b {S y z : Nat} (h : S < 2 ^ 8) (hz : z ≤ 8) : wm_rg S y z < 2 ^ 8 := by
  refine Nat.or_lt_two_pow (wm_or_lt (fun j hj => ?_)) h
  split
  · exact wm_s8 (by omega)
  · decide
theorem wm_tz_b {z : wm_pst} {x : Nat} (hz : wm_zb z) : wm_zb (wm_tz z x).2 := by
  obtain ⟨⟨b1, b2, b3, b4, b5⟩, b6, b7, b8⟩ := hz
  have h : (wm_ti z.1.2.1 z.1.2.2.1 z.1.2.2.2.1 z.1.2.2.2.2 z.2.2.1 x).2.1 ≤ 5 ∧ (wm_ti z.1.2.1 z.1.2.2.1 z.1.2.2.2.1 z.1.2.2.2.2 z.2.2.1 x).2.2.2.1 < 8 ∧ ∀ i, (wm_ti z.1.2.1 z.1.2.2.1 z.1.2.2.2.1 z.1.2.2.2.2 z.2.2.1 x).2.2.2.2 i < 2 ^ 8 := by
    unfold wm_ti
    split
    · rename_i h
      have h8 := wm_lo8 h
      split
      · split
        · exact ⟨b4, b5, b7⟩
        · exact ⟨Nat.le_of_ble_eq_true rfl, b5, wm_up_b b7 (wm_rg_b (b7 _) h8)⟩
      · exact ⟨Nat.le_of_ble_eq_true rfl, h8, wm_up_b b7 (Nat.or_lt_two_pow (b7 _) (wm_s8 h8))⟩
    split
    · exact ⟨Nat.le_of_ble_eq_true rfl, b5, b7⟩
    split
    · exact ⟨Nat.le_of_ble_eq_true rfl, b5, b7⟩
    split
    · refine ⟨Nat.le_of_ble_eq_true rfl, b5, ?_⟩
      dsimp only
      split
      · exact wm_up_b b7 (Nat.xor_lt_two_pow (b7 _) (by decide))
      · exact b7
    · exact ⟨b4, b5, b7⟩
  exact ⟨⟨b1, b2, b3, h.1, h.2.1⟩, b6, h.2.2, b8⟩
theorem wm_by_b {z : wm_pst} {x : Nat} (hz : wm_zb z) : wm_zb (wm_by z x).2 := by
  unfold wm_by
  split
  · exact wm_to_b hz
  · exact wm_tz_b hz
theorem wm_as_k (z : wm_pst) (v : Nat) : (wm_as z v).1 ≤ 4 := by unfold wm_as; split <;> exact Nat.le_of_ble_eq_true rfl
theorem wm_to_k (z : wm_pst) (x : Nat) : (wm_to z x).1 ≤ 4 := by
  unfold wm_to
  split
  · exact wm_as_k _ _
  split
  · exact wm_as_k _ _
  split
  · exact wm_as_k _ _
  split
  · split <;> exact Nat.le_of_ble_eq_true rfl
  split
  · split <;> exact Nat.le_of_ble_eq_true rfl
  split
  · exact Nat.le_of_ble_eq_true rfl
  split
  · dsimp only; split <;> exact Nat.le_of_ble_eq_true rfl
  · exact Nat.le_of_ble_eq_true rfl
theorem wm_ti_k (cn md : Nat) (nt : Bool) (rs : Nat) (lt : Nat → Nat) (x : Nat) : (wm_ti cn md nt rs lt x).1 ≤ 4 := by
  unfold wm_ti
  split
  · split
    · split <;> exact Nat.le_of_ble_eq_true rfl
    · exact Nat.le_of_ble_eq_true rfl
  split
  · exact Nat.le_of_ble_eq_true rfl
  split
  · exact Nat.le_of_ble_eq_true rfl
  split
  · exact Nat.le_of_ble_eq_true rfl
  · exact Nat.le_of_ble_eq_true rfl
theorem wm_by_k (z : wm_pst) (x : Nat) : (wm_by z x).1 ≤ 4 := by
  unfold wm_by
  split
  · exact wm_to_k z x
  · exact wm_ti_k _ _ _ _ _ _
/-- byte by byte up to the first fault: its kind, where it came, the state -/
def wm_go (f : Nat → Nat) : Nat → Nat → wm_pst → Nat × Nat × wm_pst
  | 0, i, z => (0, i, z)
  | k + 1, i, z => if (wm_by z (f i)).1 = 0 then wm_go f k (i + 1) (wm_by z (f i)).2 else ((wm_by z (f i)).1, i, (wm_by z (f i)).2)
theorem wm_go_b (f : Nat → Nat) : ∀ (k i : Nat) (z : wm_pst), wm_zb z → wm_zb (wm_go f k i z).2.2
  | 0, _, _, h => h
  | k + 1, i, z, h => by
    unfold wm_go
    split
    · exact wm_go_b f k (i + 1) _ (wm_by_b h)
    · exact wm_by_b h
def wm_z0 (z : wm_pst) : wm_pst := ((0, 1, 0, z.1.2.2.2), z.2.1, z.2.2.1, va_up z.2.2.2.1 0 false, wm_pt z.2.2.2.2 0 (false, 0, 0) wm_e1 wm_e1)
theorem wm_z0_b {z : wm_pst} (hz : wm_zb z) : wm_zb (wm_z0 z) := by
  obtain ⟨⟨b1, b2, b3, b4, b5⟩, b6, b7, b8⟩ := hz
  exact ⟨⟨Nat.zero_le _, Nat.le_refl _, (show (1 : Nat) ≤ 24 by decide), Nat.zero_le _, b5⟩, b6, b7, wm_pt_b b8 wm_e0_b wm_e1_b wm_e1_b⟩
def wm_kd (q : Nat × Nat × wm_pst) : Nat := if q.1 = 0 ∧ (q.2.2.1.2.2.1 ≠ 0 ∨ 0 < q.2.2.1.1) then 1 else q.1
def wm_pl (q : Nat × Nat × wm_pst) : Nat := if wm_kd q = 0 then 4294967295 else q.2.1
theorem wm_rd_put {C : Nat → ClassId} {b fk fp fk1 fp1 : Nat} {E E1 : Nat → va_E} {z : wm_pst} (h : wm_rd C b E fk fp z) (h5 : E1 5 = wm_re b fk1 fp1 z.1) (hq : ∀ j, j ≠ 5 → E1 j = E j) : wm_rd C b E1 fk1 fp1 z := ⟨h5, (hq 6 (by decide)).trans h.2.1, (hq 7 (by decide)).trans h.2.2.1, (hq 8 (by decide)).trans h.2.2.2.1, wm_lw_kp h.2.2.2.2 (fun j _ _ => hq j (by omega))⟩
theorem wm_rd_kp {C : Nat → ClassId} {b fk fp : Nat} {E E1 : Nat → va_E} {z : wm_pst} (h : wm_rd C b E fk fp z) (hq : ∀ j, 5 ≤ j → j < 93 → E1 j = E j) : wm_rd C b E1 fk fp z := ⟨(hq 5 (by decide) (by decide)).trans h.1, (hq 6 (by decide) (by decide)).trans h.2.1, (hq 7 (by decide) (by decide)).trans h.2.2.1, (hq 8 (by decide) (by decide)).trans h.2.2.2.1, wm_lw_kp h.2.2.2.2 (fun j _ _ => hq j (by omega) (by omega))⟩
theorem wm_rd_z0 {C : Nat → ClassId} {b fk fp : Nat} {E E1 : Nat → va_E} {z : wm_pst} (h : wm_rd C b E fk fp z) (h5 : E1 5 = wm_re b fk fp (wm_z0 z).1) (h0 : E1 (9 + 4 * 0) = wm_le b 0 false) (h1 : E1 (10 + 4 * 0) = wm_pe (false, 0, 0)) (h2 : E1 (11 + 4 * 0) = wm_pe wm_e1) (h3 : E1 (12 + 4 * 0) = wm_pe wm_e1) (hq : ∀ j, j ≠ 5 → j ≠ 9 + 4 * 0 → j ≠ 10 + 4 * 0 → j ≠ 11 + 4 * 0 → j ≠ 12 + 4 * 0 → E1 j = E j) : wm_rd C b E1 fk fp (wm_z0 z) := ⟨h5, (hq 6 (by decide) (by decide) (by decide) (by decide) (by decide)).trans h.2.1, (hq 7 (by decide) (by decide) (by decide) (by decide) (by decide)).trans h.2.2.1, (hq 8 (by decide) (by decide) (by decide) (by decide) (by decide)).trans h.2.2.2.1, wm_lw_up h.2.2.2.2 h0 h1 h2 h3 (fun j _ _ _ _ _ _ => hq j (by omega) (by omega) (by omega) (by omega) (by omega))⟩
theorem wm_go0 {f : Nat → Nat} {sz i : Nat} {z z0 : wm_pst} (h : wm_go f (sz - i) i z = wm_go f sz 0 z0) (hi : sz ≤ i) : wm_go f sz 0 z0 = (0, i, z) := by
  rw [← h, Nat.sub_eq_zero_of_le hi, wm_go]
theorem wm_go1 {f : Nat → Nat} {sz i : Nat} {z z0 : wm_pst} (h : wm_go f (sz - i) i z = wm_go f sz 0 z0) (hi : i < sz) (hk : (wm_by z (f i)).1 = 0) : wm_go f (sz - (i + 1)) (i + 1) (wm_by z (f i)).2 = wm_go f sz 0 z0 := by
  rw [← h, show sz - i = (sz - (i + 1)) + 1 by omega, wm_go, if_pos hk]
theorem wm_go2 {f : Nat → Nat} {sz i : Nat} {z z0 : wm_pst} (h : wm_go f (sz - i) i z = wm_go f sz 0 z0) (hi : i < sz) (hk : (wm_by z (f i)).1 ≠ 0) : wm_go f sz 0 z0 = ((wm_by z (f i)).1, i, (wm_by z (f i)).2) := by
  rw [← h, show sz - i = (sz - (i + 1)) + 1 by omega, wm_go, if_neg hk]
theorem wm_fin {C : Nat → ClassId} {b : Nat} {E : Nat → va_E} {q q0 : Nat × Nat × wm_pst} {kk pp : Nat} (h : q0 = q) (hz : wm_rd C b E kk pp q.2.2) (hk : wm_kd q = kk) (hp : wm_pl q = pp) : wm_rd C b E (wm_kd q0) (wm_pl q0) q0.2.2 := by
  subst h hk hp
  exact hz
