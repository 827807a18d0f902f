/-! the reader's sets hold no state beyond its count -/
def wm_cb1 (c : Nat) (q : Bool × Nat × Nat) : Prop := q.2.1 < 2 ^ c ∧ q.2.2 < 2 ^ c
def wm_cb (z : wm_pst) : Prop := ∀ i k, i ≤ z.1.1 → wm_cb1 z.1.2.1 (z.2.2.2.2 i k)
theorem wm_cb1.z (c : Nat) (v : Bool) : wm_cb1 c (v, 0, 0) := ⟨Nat.two_pow_pos c, Nat.two_pow_pos c⟩
theorem wm_cb1.jp {c : Nat} {r q : Bool × Nat × Nat} (h1 : wm_cb1 c r) (h2 : wm_cb1 c q) : wm_cb1 c (wm_jp r q) := by
  refine ⟨Nat.or_lt_two_pow h1.1 ?_, Nat.or_lt_two_pow h2.2 ?_⟩
  · split
    · exact h2.1
    · exact Nat.two_pow_pos c
  · split
    · exact h1.2
    · exact Nat.two_pow_pos c
theorem wm_cb1.ap {c : Nat} {r q : Bool × Nat × Nat} (h1 : wm_cb1 c r) (h2 : wm_cb1 c q) : wm_cb1 c (wm_ap r q) := ⟨Nat.or_lt_two_pow h1.1 h2.1, Nat.or_lt_two_pow h1.2 h2.2⟩
theorem wm_cb1.up {c d : Nat} {q : Bool × Nat × Nat} (h : wm_cb1 c q) (hc : c ≤ d) : wm_cb1 d q := ⟨Nat.lt_of_lt_of_le h.1 (Nat.pow_le_pow_right (by decide) hc), Nat.lt_of_lt_of_le h.2 (Nat.pow_le_pow_right (by decide) hc)⟩
theorem wm_cb1.pt {c o m : Nat} {P : Nat → Nat → Bool × Nat × Nat} {p0 p1 p2 : Bool × Nat × Nat} (h : ∀ i k, i ≤ m → i ≠ o → wm_cb1 c (P i k)) (h0 : wm_cb1 c p0) (h1 : wm_cb1 c p1) (h2 : wm_cb1 c p2) : ∀ i k, i ≤ m → wm_cb1 c (wm_pt P o p0 p1 p2 i k) := fun i k hi => by
  unfold wm_pt
  split
  · split
    · exact h0
    · split
      · exact h1
      · exact h2
  · rename_i hn
    exact h i k hi hn
theorem wm_cb.as {z : wm_pst} {v : Nat} (h : wm_cb z) : wm_cb (wm_as z v).2 := by
  unfold wm_as
  split
  · have up : ∀ i k, i ≤ z.1.1 → wm_cb1 (z.1.2.1 + 1) (z.2.2.2.2 i k) := fun i k hi => (h i k hi).up (Nat.le_succ _)
    have hs : 1 <<< z.1.2.1 < 2 ^ (z.1.2.1 + 1) := by rw [Nat.one_shiftLeft]; exact Nat.pow_lt_pow_right (by decide) (Nat.lt_succ_self _)
    exact wm_cb1.pt (fun i k hi _ => up i k hi) (up _ _ (Nat.le_refl _)) ((up _ _ (Nat.le_refl _)).jp (up _ _ (Nat.le_refl _))) ⟨hs, hs⟩
  · exact h
theorem wm_cb.ep {z : wm_pst} {o : Nat} (h : wm_cb z) (ho : o ≤ z.1.1) : wm_cb (wm_ep z o) := wm_cb1.pt (fun i k hi _ => h i k hi) ((h _ _ ho).ap ((h _ _ ho).jp (h _ _ ho))) (wm_cb1.z _ _) (wm_cb1.z _ _)
theorem wm_cb.to {z : wm_pst} {x : Nat} (h : wm_cb z) : wm_cb (wm_to z x).2 := by
  have r := Nat.le_refl z.1.1
  unfold wm_to
  split
  · exact h.as
  split
  · exact h.as
  split
  · exact wm_cb.as (z := ((z.1.1, z.1.2.1, 1, false, z.1.2.2.2.2), z.2)) h
  split
  · split
    · exact wm_cb1.pt (m := z.1.1 + 1) (fun i k hi hn => h i k (by omega)) (wm_cb1.z _ _) (wm_cb1.z _ _) (wm_cb1.z _ _)
    · exact h
  split
  · split
    · have q : z.1.1 - 1 ≤ z.1.1 := Nat.sub_le _ _
      exact wm_cb1.pt (m := z.1.1 - 1) (fun i k hi _ => wm_cb1.pt (m := z.1.1) (fun i k hi _ => h i k hi) ((h _ _ r).ap ((h _ _ r).jp (h _ _ r))) (wm_cb1.z _ _) (wm_cb1.z _ _) i k (by omega)) (h _ _ q) ((h _ _ q).jp (h _ _ q)) ((h _ _ r).ap ((h _ _ r).jp (h _ _ r)))
    · exact h
  split
  · exact h.ep r
  split
  · exact wm_cb1.pt (m := z.1.1) (fun i k hi _ => h i k hi) (h _ _ r) (h _ _ r) (h z.1.1 2 r)
  · exact h
theorem wm_cb.byt {z : wm_pst} {x : Nat} (h : wm_cb z) : wm_cb (wm_by z x).2 := by
  unfold wm_by
  split
  · exact h.to
  · exact h
theorem wm_cb.go (f : Nat → Nat) : ∀ (k i : Nat) (z : wm_pst), wm_cb z → wm_cb (wm_go f k i z).2.2
  | 0, _, _, h => h
  | k + 1, i, z, h => by
    unfold wm_go
    split
    · exact wm_cb.go f k (i + 1) _ h.byt
    · exact h.byt
theorem wm_cb.z0 (z : wm_pst) : wm_cb (wm_z0 z) := wm_cb1.pt (m := 0) (fun i k hi hn => absurd (Nat.le_zero.mp hi) hn) (wm_cb1.z _ _) (wm_cb1.z _ _) (wm_cb1.z _ _)
theorem wm_en_lt {z : wm_pst} (h : wm_cb z) (h1 : 1 ≤ z.1.2.1) : wm_en z < 2 ^ z.1.2.1 := by
  have h2 : wm_cb1 z.1.2.1 ((wm_ep z 0).2.2.2.2 0 0) := h.ep (Nat.zero_le _) 0 0 (Nat.zero_le _)
  unfold wm_en
  refine Nat.or_lt_two_pow h2.2 ?_
  split
  · exact Nat.one_lt_two_pow (by omega)
  · exact Nat.two_pow_pos _
theorem wm_sw1_lt {cn a : Nat} {lt : Nat → Nat} : wm_sw1 cn lt a < 2 ^ cn := wm_or_lt (fun j hj => by
  split
  · rw [Nat.one_shiftLeft]; exact Nat.pow_lt_pow_right (by decide) hj
  · exact Nat.two_pow_pos cn)
/-- the machine that reading makes keeps the bounds -/
theorem wm_read_mb {f : Nat → Nat} {sz : Nat} {z : wm_pst} {g1 : Nat → Nat} (hz : wm_zb (wm_z0 z)) (hg : wm_wt (wm_go f sz 0 (wm_z0 z)).2.2.1.2.1 (wm_z9 (wm_go f sz 0 (wm_z0 z)).2.2).2.1 (wm_go f sz 0 (wm_z0 z)).2.2.2.2.1 8 0 g1) : wm_mb ((wm_go f sz 0 (wm_z0 z)).2.2.1.2.1, 1, wm_en (wm_go f sz 0 (wm_z0 z)).2.2, g1) := by
  have hb := wm_go_b f sz 0 _ hz
  have hc := wm_cb.go f sz 0 _ (wm_cb.z0 z)
  generalize (wm_go f sz 0 (wm_z0 z)).2.2 = y at hg hb hc ⊢
  refine ⟨hb.1.2.1, hb.1.2.2.1, Nat.one_lt_two_pow (by have := hb.1.2.1; omega), wm_en_lt hc hb.1.2.1, fun a x ha hx => ?_⟩
  rw [show (y.1.2.1, 1, wm_en y, g1).2.2.2 (a * 24 + x) = g1 (a * 24 + x) from rfl, hg a x ha hx (Or.inl ha)]
  exact Nat.lt_of_le_of_lt Nat.and_le_right wm_sw1_lt
