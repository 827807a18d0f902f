/-! sets of states: steps, lists of sets that are come to -/
theorem wm_pred {S k : Nat} (hk : S.testBit k = true) (hl : ∀ j, j < k → S.testBit j = false) (j : Nat) : (S &&& (S - 1)).testBit j = (S.testBit j && decide (j ≠ k)) := by
  have hmod : S % 2 ^ k = 0 := by
    apply Nat.eq_of_testBit_eq
    intro i
    rw [Nat.testBit_mod_two_pow, Nat.zero_testBit]
    by_cases hi : i < k
    · simp [hi, hl i hi]
    · simp [hi]
  have hodd : S / 2 ^ k % 2 = 1 := by
    rw [Nat.testBit_eq_decide_div_mod_eq, decide_eq_true_eq] at hk
    exact hk
  have hS : S = 2 ^ k * (S / 2 ^ k) := by
    have := Nat.div_add_mod S (2 ^ k)
    omega
  have hpos : 0 < 2 ^ k := Nat.two_pow_pos k
  obtain ⟨q, hq⟩ : ∃ q, S / 2 ^ k = 2 * q + 1 := ⟨S / 2 ^ k / 2, by omega⟩
  have e1 : S - 1 = 2 ^ k * (2 * q) + (2 ^ k - 1) := by
    have : 2 ^ k * (2 * q + 1) = 2 ^ k * (2 * q) + 2 ^ k := by rw [Nat.mul_add, Nat.mul_one]
    rw [hq, this] at hS
    omega
  rw [Nat.testBit_and, e1, Nat.testBit_two_pow_mul_add _ (by omega)]
  by_cases hj : j < k
  · rw [hl j hj, Bool.false_and, Bool.false_and]
  · rw [if_neg hj]
    by_cases hjk : j = k
    · subst hjk
      rw [Nat.sub_self, Nat.testBit_zero]
      simp
    · have e2 : S.testBit j = (2 * q).testBit (j - k) := by
        have h1 : S.testBit j = (S / 2 ^ k).testBit (j - k) := by
          rw [Nat.testBit_div_two_pow]
          congr 1
          omega
        rw [h1, hq]
        obtain ⟨i, hi⟩ : ∃ i, j - k = i + 1 := ⟨j - k - 1, by omega⟩
        rw [hi, Nat.testBit_succ, Nat.testBit_succ]
        congr 1
        omega
      rw [← e2, decide_eq_true hjk, Bool.and_true, Bool.and_self]
theorem wm_st_tb {g : Nat → Nat} {c lr S i : Nat} : (wm_st g c lr S).testBit i = true ↔ ∃ x, x < c ∧ S.testBit x = true ∧ (g (lr * 24 + x)).testBit i = true := by
  unfold wm_st
  rw [wm_or_tb]
  constructor
  · rintro ⟨x, h1, h2⟩
    by_cases hb : S.testBit x = true
    · rw [if_pos hb] at h2
      exact ⟨x, h1, hb, h2⟩
    · rw [if_neg hb, Nat.zero_testBit] at h2
      cases h2
  · rintro ⟨x, h1, h2, h3⟩
    exact ⟨x, h1, by rw [if_pos h2]; exact h3⟩
theorem wm_eqb {x y : Nat} (h : ∀ i, x.testBit i = true ↔ y.testBit i = true) : x = y := by
  apply Nat.eq_of_testBit_eq
  intro i
  have := h i
  cases h1 : x.testBit i <;> cases h2 : y.testBit i <;> simp_all
theorem wm_st0 (g : Nat → Nat) (c lr : Nat) : wm_st g c lr 0 = 0 := wm_or_z (fun j _ => by simp)
theorem wm_st_low {g : Nat → Nat} {c lr S k : Nat} (hk : S.testBit k = true) (hl : ∀ j, j < k → S.testBit j = false) (hc : k < c) : wm_st g c lr (S &&& (S - 1)) ||| g (lr * 24 + k) = wm_st g c lr S := by
  apply wm_eqb
  intro i
  rw [Nat.testBit_or, Bool.or_eq_true, wm_st_tb, wm_st_tb]
  constructor
  · rintro (⟨x, h1, h2, h3⟩ | h)
    · rw [wm_pred hk hl, Bool.and_eq_true] at h2
      exact ⟨x, h1, h2.1, h3⟩
    · exact ⟨k, hc, hk, h⟩
  · rintro ⟨x, h1, h2, h3⟩
    by_cases hx : x = k
    · subst hx; exact Or.inr h3
    · exact Or.inl ⟨x, h1, by rw [wm_pred hk hl, h2, decide_eq_true hx]; rfl, h3⟩
theorem wm_bit_lt {S k c : Nat} (hk : S.testBit k = true) (h : S < 2 ^ c) : k < c := by
  rcases Nat.lt_or_ge k c with h1 | h1
  · exact h1
  · have := Nat.testBit_lt_two_pow (Nat.lt_of_lt_of_le h (Nat.pow_le_pow_right (by decide) h1))
    rw [this] at hk; cases hk
/-- the table of steps, filled for letters below L and for letter L for sets below S0 -/
def wm_spt (cn L S0 : Nat) (g sp : Nat → Nat) : Prop := ∀ a S, a < 8 → S < 2 ^ cn → (a < L ∨ (a = L ∧ S < S0)) → sp (a * 2048 + S) = wm_st g cn a S
theorem wm_spt0 {cn : Nat} {g sp : Nat → Nat} : wm_spt cn 0 0 g sp := fun a S _ _ h => absurd h (by omega)
theorem wm_sptL {cn L S0 : Nat} {g sp : Nat → Nat} (h : wm_spt cn L S0 g sp) (hs : 2 ^ cn ≤ S0) : wm_spt cn (L + 1) 0 g sp := fun a S h1 h2 h3 => h a S h1 h2 (by omega)
theorem wm_sptz {cn L : Nat} {g sp : Nat → Nat} (h : wm_spt cn L 0 g sp) (hc : 2 ^ cn ≤ 2048) : wm_spt cn L 1 g (va_up sp (L * 2048) 0) := by
  intro a S h1 h2 h3
  by_cases he : a * 2048 + S = L * 2048
  · have : S = 0 := by omega
    subst this
    rw [he, va_up_self, wm_st0]
  · rw [va_up_ne _ _ he]; exact h a S h1 h2 (by omega)
theorem wm_spt1 {cn L S0 k : Nat} {g sp : Nat → Nat} (h : wm_spt cn L S0 g sp) (hc : 2 ^ cn ≤ 2048) (hL : L < 8) (hS : S0 < 2 ^ cn) (h0 : 0 < S0) (hk : S0.testBit k = true) (hl : ∀ j, j < k → S0.testBit j = false) : wm_spt cn L (S0 + 1) g (va_up sp (L * 2048 + S0) (sp (L * 2048 + (S0 &&& (S0 - 1))) ||| g (L * 24 + k))) := by
  intro a S h1 h2 h3
  have hlt : S0 &&& (S0 - 1) < S0 := by
    have := Nat.and_le_right (n := S0) (m := S0 - 1)
    omega
  by_cases he : a * 2048 + S = L * 2048 + S0
  · have e1 : a = L := by omega
    have e2 : S = S0 := by omega
    subst e1; subst e2
    rw [va_up_self, h a _ h1 (by omega) (by omega), wm_st_low hk hl (wm_bit_lt hk hS)]
  · rw [va_up_ne _ _ he]; exact h a S h1 h2 (by omega)
/-- a set is met -/
def wm_vis (L : List Nat) (S : Nat) : List Nat := if S ∈ L then L else L ++ [S]
def wm_vf (f : Nat → Nat) : Nat → List Nat → List Nat
  | 0, L => L
  | k + 1, L => wm_vis (wm_vf f k L) (f k)
def wm_bfs (st : Nat → Nat → Nat) : Nat → Nat → List Nat → List Nat
  | 0, _, L => L
  | fu + 1, i, L => if i < L.length then wm_bfs st fu (i + 1) (wm_vf (fun a => st (L.getD i 0) a) 8 L) else L
theorem wm_pig : ∀ (k : Nat) (L : List Nat), L.Nodup → (∀ x ∈ L, x < k) → L.length ≤ k := by
  intro k
  induction k with
  | zero =>
    intro L _ h
    cases L with
    | nil => exact Nat.le_refl _
    | cons a t => exact absurd (h a List.mem_cons_self) (Nat.not_lt_zero _)
  | succ k ih =>
    intro L hn h
    by_cases hk : k ∈ L
    · have h1 := ih (L.erase k) (hn.erase k) (fun x hx => by
        have h2 := h x (List.mem_of_mem_erase hx)
        have h3 : x ≠ k := fun q => by
          rw [q] at hx
          exact (hn.not_mem_erase) hx
        omega)
      rw [List.length_erase_of_mem hk] at h1
      omega
    · have h1 := ih L hn (fun x hx => by
        have h2 := h x hx
        have h3 : x ≠ k := fun q => hk (q ▸ hx)
        omega)
      omega
/-- the list, in marks and in a row -/
def wm_ml (L : List Nat) (sc : Nat) (mk : Nat → Bool) (mt : Nat → Nat) : Prop := (∀ S, S < sc → mk S = decide (S ∈ L)) ∧ (∀ j, j < L.length → mt j = L.getD j 0) ∧ L.Nodup ∧ ∀ S ∈ L, S < sc
theorem wm_ml_len {L : List Nat} {sc : Nat} {mk : Nat → Bool} {mt : Nat → Nat} (h : wm_ml L sc mk mt) : L.length ≤ sc := wm_pig sc L h.2.2.1 h.2.2.2
theorem wm_ml0 {sc : Nat} {mk : Nat → Bool} {mt : Nat → Nat} (h : ∀ S, S < sc → mk S = false) : wm_ml [] sc mk mt := ⟨fun S hS => by rw [h S hS]; simp, fun j hj => absurd hj (Nat.not_lt_zero _), List.nodup_nil, fun _ h => absurd h List.not_mem_nil⟩
theorem wm_ml_old {L : List Nat} {sc S : Nat} {mk : Nat → Bool} {mt : Nat → Nat} (h : wm_ml L sc mk mt) (hS : S < sc) (hm : mk S = true) : wm_vis L S = L ∧ wm_ml L sc (va_up mk S true) mt := by
  have hin : S ∈ L := by
    rw [h.1 S hS] at hm
    exact of_decide_eq_true hm
  refine ⟨if_pos hin, fun x hx => ?_, h.2⟩
  by_cases hxS : x = S
  · subst hxS; rw [va_up_self, decide_eq_true hin]
  · rw [va_up_ne _ _ hxS]; exact h.1 x hx
theorem wm_ml_new {L : List Nat} {sc S : Nat} {mk : Nat → Bool} {mt : Nat → Nat} (h : wm_ml L sc mk mt) (hS : S < sc) (hm : mk S = false) : wm_vis L S = L ++ [S] ∧ L.length < sc ∧ wm_ml (L ++ [S]) sc (va_up mk S true) (va_up mt L.length S) := by
  have hin : S ∉ L := by
    rw [h.1 S hS] at hm
    exact of_decide_eq_false hm
  have hml : wm_ml (L ++ [S]) sc (va_up mk S true) (va_up mt L.length S) := by
    refine ⟨fun x hx => ?_, fun j hj => ?_, ?_, fun x hx => ?_⟩
    · by_cases hxS : x = S
      · subst hxS; rw [va_up_self]; simp
      · rw [va_up_ne _ _ hxS, h.1 x hx]; simp [hxS]
    · by_cases hjl : j = L.length
      · subst hjl; rw [va_up_self]; simp
      · rw [List.length_append] at hj
        have hj2 : j < L.length := by simp at hj; omega
        rw [va_up_ne _ _ hjl, h.2.1 j hj2]
        simp [List.getD_eq_getElem?_getD, List.getElem?_append_left hj2]
    · rw [List.nodup_append]
      refine ⟨h.2.2.1, by simp, fun a ha b hb => ?_⟩
      rw [List.mem_singleton.mp hb]
      exact fun q => hin (q ▸ ha)
    · rcases List.mem_append.mp hx with h1 | h1
      · exact h.2.2.2 x h1
      · rw [List.mem_singleton.mp h1]; exact hS
  refine ⟨if_neg hin, ?_, hml⟩
  have := wm_ml_len hml
  rw [List.length_append, List.length_singleton] at this
  omega
theorem wm_vis_len (L : List Nat) (S : Nat) : L.length ≤ (wm_vis L S).length := by
  unfold wm_vis
  split
  · exact Nat.le_refl _
  · rw [List.length_append]; omega
theorem wm_vis_getD {L : List Nat} {S i : Nat} (hi : i < L.length) : (wm_vis L S).getD i 0 = L.getD i 0 := by
  unfold wm_vis
  split
  · rfl
  · simp [List.getD_eq_getElem?_getD, List.getElem?_append_left hi]
theorem wm_vf_pre (f : Nat → Nat) (L : List Nat) : ∀ k, L.length ≤ (wm_vf f k L).length ∧ ∀ i, i < L.length → (wm_vf f k L).getD i 0 = L.getD i 0 := by
  intro k
  induction k with
  | zero => exact ⟨Nat.le_refl _, fun _ _ => rfl⟩
  | succ k ih =>
    exact ⟨Nat.le_trans ih.1 (wm_vis_len _ _), fun i hi => (wm_vis_getD (Nat.lt_of_lt_of_le hi ih.1)).trans (ih.2 i hi)⟩
theorem wm_bfs_s {st : Nat → Nat → Nat} {fu i : Nat} {L : List Nat} (h : i < L.length) : wm_bfs st (fu + 1) i L = wm_bfs st fu (i + 1) (wm_vf (fun a => st (L.getD i 0) a) 8 L) := if_pos h
theorem wm_bfs_e {st : Nat → Nat → Nat} {fu i : Nat} {L : List Nat} (h : L.length ≤ i) : wm_bfs st fu i L = L := by
  cases fu with
  | zero => rfl
  | succ fu => exact if_neg (by omega)
/-- the sets that a machine comes to, in the order in which they are met -/
def wm_sets (g : Nat → Nat) (cn st : Nat) : List Nat := wm_bfs (fun S a => wm_st g cn a S) 2049 0 [st]
theorem wm_fillb {g : Nat → Bool} {i : Nat} (h : ∀ j, j < i → g j = false) : ∀ j, j < i + 1 → va_up g i false j = false := by
  intro j hj
  by_cases h1 : j = i
  · rw [h1, va_up_self]
  · rw [va_up_ne _ _ h1]; exact h j (by omega)
