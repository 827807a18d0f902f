/-! sets, rests and words, as the reference counts them -/
def wm_bf (ar : Nat → Nat) (k cn a S : Nat) : Nat := wm_or cn (fun x => if ar (192 * k + 8 * x + a) &&& S ≠ 0 then 1 <<< x else 0)
theorem wm_bf_lt {ar : Nat → Nat} {k cn a S : Nat} : wm_bf ar k cn a S < 2 ^ cn := by
  refine wm_or_lt (fun j hj => ?_)
  split
  · rw [Nat.one_shiftLeft]; exact Nat.pow_lt_pow_right (by decide) hj
  · exact Nat.two_pow_pos cn
def wm_gr (LB : List Nat) (S : Nat) : Nat → Nat
  | 0 => 2047
  | b + 1 => if LB.getD b 0 &&& S = 0 then wm_gr LB S b &&& (LB.getD b 0 ^^^ 4294967295) else wm_gr LB S b
theorem wm_gr_lt (LB : List Nat) (S : Nat) : ∀ b, wm_gr LB S b < 2048
  | 0 => (show (2047 : Nat) < 2048 by decide)
  | b + 1 => by
    unfold wm_gr
    split
    · exact Nat.lt_of_le_of_lt Nat.and_le_left (wm_gr_lt LB S b)
    · exact wm_gr_lt LB S b
theorem wm_bit_ml {L : List Nat} {sc i : Nat} {mk : Nat → Bool} {mt : Nat → Nat} (h : wm_ml L sc mk mt) (hi : i < L.length) : L.getD i 0 < sc := h.2.2.2 _ (by rw [List.getD_eq_getElem?_getD, List.getElem?_eq_getElem hi]; exact List.getElem_mem hi)
theorem wm_rgD {j : Nat} (h : j < 2048) : (List.range 2048).getD j 0 = j := by
  rw [List.getD_eq_getElem?_getD, List.getElem?_range h]; rfl
theorem wm_rgl : (List.range 2048).length = 2048 := List.length_range
theorem wm_ml_st {L : List Nat} {F : Nat → Nat} {a sc : Nat} {mk : Nat → Bool} {mt : Nat → Nat} : wm_ml (wm_vis (wm_vf F a L) (F a)) sc mk mt → wm_ml (wm_vf F (a + 1) L) sc mk mt := fun h => h
theorem wm_up_idb (f : Nat → Bool) (k : Nat) : f = va_up f k (f k) := by
  funext x
  by_cases h : x = k
  · rw [h, va_up_self]
  · rw [va_up_ne _ _ h]
theorem wm_put1 {f g : Nat → Nat} {i v : Nat} (h : ∀ S, S < i → f S = g S) (hv : v = g i) : ∀ S, S < i + 1 → va_up f i v S = g S := fun S hS => by
  by_cases e : S = i
  · rw [e, va_up_self, hv]
  · rw [va_up_ne _ _ e]; exact h S (by omega)
theorem wm_al_nz {F : Nat → Nat → Nat} {L : List Nat} {nw nx : Nat → Nat} {sc i a : Nat} (h : wm_al F L nw sc i a nx) (hz : nw (L.getD i 0) = 0) : wm_al F L nw sc i 0 nx := fun S hS => by
  rw [h S hS, wm_a8_0 hz, wm_a8_0 hz]
theorem wm_al1r {F : Nat → Nat → Nat} {nw nx : Nat → Nat} {i a : Nat} (h : wm_al F (List.range 2048) nw 2048 i a nx) (hi : i < 2048) (hF : F i a < 2048) : wm_al F (List.range 2048) nw 2048 i (a + 1) (va_up nx (F i a) (nx (F i a) + nw i)) := by
  have := wm_al1 h (by rw [wm_rgD hi]; exact hF)
  rwa [wm_rgD hi] at this
