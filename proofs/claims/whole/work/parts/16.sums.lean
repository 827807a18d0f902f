/-! sums, words counted, unions -/
def wm_sum : Nat → (Nat → Nat) → Nat
  | 0, _ => 0
  | k + 1, f => wm_sum k f + f k
theorem wm_sum_s (k : Nat) (f : Nat → Nat) : wm_sum (k + 1) f = wm_sum k f + f k := rfl
theorem wm_sum_cg {f g : Nat → Nat} : ∀ {k : Nat}, (∀ j, j < k → f j = g j) → wm_sum k f = wm_sum k g := by
  intro k
  induction k with
  | zero => intro _; rfl
  | succ k ih => intro h; rw [wm_sum_s, wm_sum_s, ih (fun j hj => h j (by omega)), h k (Nat.lt_succ_self _)]
theorem wm_sum_0 {f : Nat → Nat} : ∀ {k : Nat}, (∀ j, j < k → f j = 0) → wm_sum k f = 0 := by
  intro k
  induction k with
  | zero => intro _; rfl
  | succ k ih => intro h; rw [wm_sum_s, ih (fun j hj => h j (by omega)), h k (Nat.lt_succ_self _)]
theorem wm_sum_le {f g : Nat → Nat} : ∀ {k : Nat}, (∀ j, j < k → f j ≤ g j) → wm_sum k f ≤ wm_sum k g := by
  intro k
  induction k with
  | zero => intro _; exact Nat.le_refl _
  | succ k ih => intro h; rw [wm_sum_s, wm_sum_s]; exact Nat.add_le_add (ih (fun j hj => h j (by omega))) (h k (Nat.lt_succ_self _))
theorem wm_sum_add {f g : Nat → Nat} : ∀ {k : Nat}, wm_sum k (fun j => f j + g j) = wm_sum k f + wm_sum k g := by
  intro k
  induction k with
  | zero => rfl
  | succ k ih => rw [wm_sum_s, wm_sum_s, wm_sum_s, ih]; omega
theorem wm_sum_swap {f : Nat → Nat → Nat} {k : Nat} : ∀ {i : Nat}, wm_sum i (fun x => wm_sum k (fun y => f x y)) = wm_sum k (fun y => wm_sum i (fun x => f x y)) := by
  intro i
  induction i with
  | zero => exact (wm_sum_0 (fun _ _ => rfl)).symm
  | succ i ih => rw [wm_sum_s, ih, ← wm_sum_add]; exact wm_sum_cg (fun _ _ => rfl)
theorem wm_sum_one {f : Nat → Nat} {i : Nat} : ∀ {k : Nat}, i < k → f i ≤ wm_sum k f := by
  intro k
  induction k with
  | zero => intro h; exact absurd h (Nat.not_lt_zero _)
  | succ k ih =>
    intro h
    rw [wm_sum_s]
    by_cases hi : i = k
    · subst hi; omega
    · have := ih (by omega); omega
theorem wm_sum_pick {x : Nat → Nat} {v c : Nat} : ∀ {k : Nat}, (∀ i j, i < k → j < k → x i = x j → i = j) → wm_sum k (fun i => if c = x i then v else 0) ≤ v := by
  intro k
  induction k with
  | zero => intro _; exact Nat.zero_le _
  | succ k ih =>
    intro h
    rw [wm_sum_s]
    by_cases hc : c = x k
    · rw [if_pos hc, wm_sum_0]
      · omega
      · intro j hj
        rw [if_neg (fun q => by have := h j k (by omega) (by omega) (q.symm.trans hc); omega)]
    · rw [if_neg hc]
      exact ih (fun i j hi hj => h i j (by omega) (by omega))
theorem wm_sum_const (v : Nat) : ∀ k, wm_sum k (fun _ => v) = k * v := by
  intro k
  induction k with
  | zero => rw [Nat.zero_mul]; rfl
  | succ k ih => rw [wm_sum_s, ih, Nat.add_mul, Nat.one_mul]
theorem wm_sum_mul {f : Nat → Nat} (c : Nat) : ∀ {k : Nat}, wm_sum k (fun j => c * f j) = c * wm_sum k f := by
  intro k
  induction k with
  | zero => rfl
  | succ k ih => rw [wm_sum_s, wm_sum_s, ih, Nat.mul_add]
/-- with the first k letters, from x to S1 -/
def wm_a8 (F : Nat → Nat → Nat) (v : Nat → Nat) (x k S1 : Nat) : Nat := wm_sum k (fun a => if F x a = S1 then v x else 0)
theorem wm_a8_0 {F : Nat → Nat → Nat} {v : Nat → Nat} {x k S1 : Nat} (h : v x = 0) : wm_a8 F v x k S1 = 0 := wm_sum_0 (fun j _ => by rw [h]; split <;> rfl)
/-- how many words of length t lead to a set, counted over the list L -/
def wm_cw (F : Nat → Nat → Nat) (L : List Nat) (s0 : Nat) : Nat → Nat → Nat
  | 0, S => if S = s0 then 1 else 0
  | t + 1, S => wm_sum L.length (fun j => wm_a8 F (wm_cw F L s0 t) (L.getD j 0) 8 S)
theorem wm_getD_inj {L : List Nat} (h : L.Nodup) : ∀ i j, i < L.length → j < L.length → L.getD i 0 = L.getD j 0 → i = j := by
  intro i j hi hj he
  rw [List.getD_eq_getElem?_getD, List.getD_eq_getElem?_getD, List.getElem?_eq_getElem hi, List.getElem?_eq_getElem hj] at he
  exact (List.getElem_inj h).mp he
theorem wm_cw_tot {F : Nat → Nat → Nat} {L : List Nat} {s0 : Nat} (h : L.Nodup) : ∀ t, wm_sum L.length (fun j => wm_cw F L s0 t (L.getD j 0)) ≤ 8 ^ t := by
  intro t
  induction t with
  | zero =>
    refine Nat.le_trans (Nat.le_of_eq (wm_sum_cg (g := fun j => if s0 = L.getD j 0 then 1 else 0) (fun j _ => ?_))) (wm_sum_pick (wm_getD_inj h))
    show (if L.getD j 0 = s0 then 1 else 0) = _
    by_cases q : L.getD j 0 = s0
    · rw [if_pos q, if_pos q.symm]
    · rw [if_neg q, if_neg (fun z => q z.symm)]
  | succ t ih =>
    have e1 : wm_sum L.length (fun j => wm_cw F L s0 (t + 1) (L.getD j 0)) = wm_sum L.length (fun i => wm_sum 8 (fun a => wm_sum L.length (fun j => if F (L.getD i 0) a = L.getD j 0 then wm_cw F L s0 t (L.getD i 0) else 0))) := by
      show wm_sum L.length (fun j => wm_sum L.length (fun i => wm_sum 8 (fun a => if F (L.getD i 0) a = L.getD j 0 then wm_cw F L s0 t (L.getD i 0) else 0))) = _
      rw [wm_sum_swap]
      exact wm_sum_cg (fun i _ => wm_sum_swap)
    have e2 : wm_sum L.length (fun i => wm_sum 8 (fun a => wm_sum L.length (fun j => if F (L.getD i 0) a = L.getD j 0 then wm_cw F L s0 t (L.getD i 0) else 0))) ≤ wm_sum L.length (fun i => 8 * wm_cw F L s0 t (L.getD i 0)) := by
      refine wm_sum_le (fun i _ => ?_)
      rw [← wm_sum_const]
      exact wm_sum_le (fun a _ => wm_sum_pick (wm_getD_inj h))
    rw [e1]
    refine Nat.le_trans e2 ?_
    rw [wm_sum_mul, Nat.pow_succ, Nat.mul_comm]
    exact Nat.mul_le_mul_right 8 ih
theorem wm_cw_lt {F : Nat → Nat → Nat} {L : List Nat} {s0 t j : Nat} (h : L.Nodup) (ht : t ≤ 20) (hj : j < L.length) : wm_cw F L s0 t (L.getD j 0) < 2 ^ 63 := by
  have h1 := wm_sum_one (f := fun j => wm_cw F L s0 t (L.getD j 0)) hj
  have h2 := wm_cw_tot (F := F) (s0 := s0) h t
  have h3 : 8 ^ t ≤ 8 ^ 20 := Nat.pow_le_pow_right (by decide) ht
  have h4 : (8 : Nat) ^ 20 < 2 ^ 63 := by decide
  have h1' : wm_cw F L s0 t (L.getD j 0) ≤ wm_sum L.length (fun j => wm_cw F L s0 t (L.getD j 0)) := h1
  omega
def wm_cwr (F : Nat → Nat → Nat) (L : List Nat) (s0 en t : Nat) : Nat := wm_sum L.length (fun j => if L.getD j 0 &&& en ≠ 0 then wm_cw F L s0 t (L.getD j 0) else 0)
/-- addLetterToWords, by its two loops -/
def wm_al (F : Nat → Nat → Nat) (L : List Nat) (nw : Nat → Nat) (sc i a : Nat) (nx : Nat → Nat) : Prop := ∀ S, S < sc → nx S = wm_sum i (fun j => wm_a8 F nw (L.getD j 0) 8 S) + wm_a8 F nw (L.getD i 0) a S
theorem wm_al0 {F : Nat → Nat → Nat} {L : List Nat} {nw nx : Nat → Nat} {sc : Nat} (h : ∀ j, 0 ≤ j → j < sc → nx j = 0) : wm_al F L nw sc 0 0 nx := fun S hS => by rw [h S (Nat.zero_le _) hS]; rfl
theorem wm_al1 {F : Nat → Nat → Nat} {L : List Nat} {nw nx : Nat → Nat} {sc i a : Nat} (h : wm_al F L nw sc i a nx) (hF : F (L.getD i 0) a < sc) : wm_al F L nw sc i (a + 1) (va_up nx (F (L.getD i 0) a) (nx (F (L.getD i 0) a) + nw (L.getD i 0))) := by
  intro S hS
  unfold wm_a8
  rw [wm_sum_s]
  by_cases hq : S = F (L.getD i 0) a
  · rw [hq, va_up_self, if_pos rfl, h _ hF, Nat.add_assoc]; rfl
  · rw [va_up_ne _ _ hq, if_neg (fun q => hq q.symm), h S hS]; rfl
theorem wm_al8 {F : Nat → Nat → Nat} {L : List Nat} {nw nx : Nat → Nat} {sc i : Nat} (h : wm_al F L nw sc i 8 nx) : wm_al F L nw sc (i + 1) 0 nx := fun S hS => by rw [h S hS, wm_sum_s]; rfl
theorem wm_alz {F : Nat → Nat → Nat} {L : List Nat} {nw nx : Nat → Nat} {sc i : Nat} (h : wm_al F L nw sc i 0 nx) (hz : nw (L.getD i 0) = 0) : wm_al F L nw sc (i + 1) 0 nx := fun S hS => by
  rw [h S hS, wm_sum_s, wm_a8_0 hz, wm_a8_0 hz]; rfl
/-- unions of marked sets -/
def wm_sub (T S : Nat) : Prop := ∀ j, T.testBit j = true → S.testBit j = true
def wm_un (mk : Nat → Bool) (sc S u : Nat) : Prop := ∀ i, u.testBit i = true ↔ ∃ T, T < sc ∧ mk T = true ∧ wm_sub T S ∧ T.testBit i = true
theorem wm_sub_le {T S : Nat} (h : wm_sub T S) : T ≤ S := by
  have : T &&& S = T := by
    apply wm_eqb
    intro i
    rw [Nat.testBit_and, Bool.and_eq_true]
    exact ⟨fun q => q.1, fun q => ⟨q, h i q⟩⟩
  rw [← this]
  exact Nat.and_le_right
def wm_us (un : Nat → Nat) (S : Nat) : Nat := wm_or 11 (fun x => if S.testBit x then un (S &&& (1 <<< x ^^^ 4294967295)) else 0)
theorem wm_minus {S x : Nat} (hS : S < 2048) (j : Nat) : (S &&& (1 <<< x ^^^ 4294967295)).testBit j = (S.testBit j && decide (j ≠ x)) := by
  rw [Nat.testBit_and, Nat.testBit_xor, wm_1s, wm_ones]
  by_cases hj : j < 32
  · by_cases hx : j = x <;> simp [hx, hj]
    subst hx; simp [hj]
  · have : S.testBit j = false := Nat.testBit_lt_two_pow (Nat.lt_of_lt_of_le hS (Nat.pow_le_pow_right (n := 2) (show 0 < 2 by decide) (show 11 ≤ j by omega)))
    rw [this, Bool.false_and, Bool.false_and]
theorem wm_un1 {mk : Nat → Bool} {sc S : Nat} (h : mk S = true) (hS : S < sc) : wm_un mk sc S S := fun i => ⟨fun q => ⟨S, hS, h, fun _ q => q, q⟩, fun ⟨_, _, _, h3, h4⟩ => h3 i h4⟩
theorem wm_un2 {mk : Nat → Bool} {sc S : Nat} {un : Nat → Nat} (h : mk S = false) (hS : S < 2048) (ih : ∀ T, T < S → wm_un mk sc T (un T)) : wm_un mk sc S (wm_us un S) := by
  have lt : ∀ x, S.testBit x = true → S &&& (1 <<< x ^^^ 4294967295) < S := fun x hx => by
    have h1 : S &&& (1 <<< x ^^^ 4294967295) ≤ S := Nat.and_le_left
    rcases Nat.lt_or_ge (S &&& (1 <<< x ^^^ 4294967295)) S with q | q
    · exact q
    · have e : S &&& (1 <<< x ^^^ 4294967295) = S := by omega
      have h2 := wm_minus (x := x) hS x
      rw [e, hx] at h2
      simp at h2
  intro i
  unfold wm_us
  rw [wm_or_tb]
  constructor
  · rintro ⟨x, h1, h2⟩
    by_cases hb : S.testBit x = true
    · rw [if_pos hb, ih _ (lt x hb)] at h2
      obtain ⟨T, q1, q2, q3, q4⟩ := h2
      refine ⟨T, q1, q2, fun j hj => ?_, q4⟩
      have := q3 j hj
      rw [wm_minus hS, Bool.and_eq_true] at this
      exact this.1
    · rw [if_neg hb, Nat.zero_testBit] at h2
      cases h2
  · rintro ⟨T, q1, q2, q3, q4⟩
    have hex : ∃ x, S.testBit x = true ∧ T.testBit x = false := Classical.byContradiction fun hno => by
      have : T = S := by
        apply wm_eqb
        intro j
        refine ⟨fun q => q3 j q, fun q => ?_⟩
        cases hT : T.testBit j
        · exact absurd ⟨j, q, hT⟩ hno
        · rfl
      rw [this, h] at q2
      cases q2
    obtain ⟨x, hx, hT⟩ := hex
    refine ⟨x, wm_bit_lt (c := 11) hx hS, ?_⟩
    rw [if_pos hx, ih _ (lt x hx)]
    refine ⟨T, q1, q2, fun j hj => ?_, q4⟩
    rw [wm_minus hS, q3 j hj]
    have : j ≠ x := fun q => by rw [q, hT] at hj; cases hj
    simp [this]
theorem wm_uns {mk : Nat → Bool} {sc i v : Nat} {un : Nat → Nat} (h : ∀ S, S < i → wm_un mk sc S (un S)) (hv : wm_un mk sc i v) : ∀ S, S < i + 1 → wm_un mk sc S (va_up un i v S) := by
  intro S hS
  by_cases h1 : S = i
  · subst h1; rw [va_up_self]; exact hv
  · rw [va_up_ne _ _ h1]; exact h S (by omega)
theorem wm_cw0 {F : Nat → Nat → Nat} {L : List Nat} {s0 sc : Nat} {g : Nat → Nat} (h : ∀ j, 0 ≤ j → j < sc → g j = 0) (hs : s0 < sc) : ∀ S, S < sc → va_up g s0 1 S = wm_cw F L s0 0 S := by
  intro S hS
  show _ = if S = s0 then 1 else 0
  by_cases h1 : S = s0
  · rw [h1, va_up_self, if_pos rfl]
  · rw [va_up_ne _ _ h1, if_neg h1, h S (Nat.zero_le _) hS]
theorem wm_cw1 {F : Nat → Nat → Nat} {L : List Nat} {s0 sc i : Nat} {nw nx : Nat → Nat} (h : ∀ S, S < sc → nw S = wm_cw F L s0 i S) (hL : ∀ j, j < L.length → L.getD j 0 < sc) (ha : wm_al F L nw sc L.length 0 nx) : ∀ S, S < sc → nx S = wm_cw F L s0 (i + 1) S := by
  intro S hS
  rw [ha S hS]
  show wm_sum L.length _ + 0 = wm_sum L.length _
  rw [Nat.add_zero]
  refine wm_sum_cg (fun j hj => wm_sum_cg (fun a _ => ?_))
  rw [h _ (hL j hj)]
theorem wm_un_lt {mk : Nat → Bool} {sc S u : Nat} (h : wm_un mk sc S u) (hS : S < sc) : u < sc := by
  refine Nat.lt_of_le_of_lt (wm_sub_le (fun i hi => ?_)) hS
  obtain ⟨T, _, _, h3, h4⟩ := (h i).mp hi
  exact h3 i h4
theorem wm_dcO {L : List Nat} {S : Nat} {x : Bool} (h : x = decide (S ∈ L)) (hx : x = true) : wm_vis L S = L := if_pos (of_decide_eq_true (h ▸ hx))
theorem wm_dcN {L : List Nat} {S : Nat} {x : Bool} (h : x = decide (S ∈ L)) (hx : x = false) : wm_vis L S = L ++ [S] := if_neg (of_decide_eq_false (h ▸ hx))
theorem wm_dc1 {f : Nat → Nat} {i k k1 : Nat} {L1 : List Nat} (hk : k = (wm_vf f i []).length) (hv : wm_vis (wm_vf f i []) (f i) = L1) : k1 = L1.length → k1 = (wm_vf f (i + 1) []).length := fun h => by
  show _ = (wm_vis (wm_vf f i []) (f i)).length
  rw [hv, h]
theorem wm_dc2 {f : Nat → Nat} {i sc : Nat} {mk : Nat → Bool} (h : ∀ S, S < sc → mk S = decide (S ∈ wm_vf f i [])) : ∀ S, S < sc → va_up mk (f i) true S = decide (S ∈ wm_vf f (i + 1) []) := by
  intro S hS
  show _ = decide (S ∈ wm_vis (wm_vf f i []) (f i))
  unfold wm_vis
  by_cases h1 : S = f i
  · rw [h1, va_up_self]
    split
    · rename_i q; exact (decide_eq_true q).symm
    · simp
  · rw [va_up_ne _ _ h1, h S hS]
    split
    · rfl
    · simp [h1]
