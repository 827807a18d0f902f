/-! the reference: rows and sums -/
theorem wm_shb (v i : Nat) (hi : i < 8) : ((lN v >>> ((nI (8 * i)).toInt64 &&& 63)) &&& lN 255).toInt32 = nI (v >>> (8 * i) % 256) := by
  have h : ∀ i, i < 8 → ((nI (8 * i)).toInt64 &&& 63) = lN (8 * i) := by decide +kernel
  rw [h i hi]
  apply Int32.toBitVec_inj.mp
  apply BitVec.eq_of_getLsbD_eq
  intro j hj
  have e1 : ((lN v >>> lN (8 * i)) &&& lN 255).toInt32.toBitVec = BitVec.setWidth 32 (BitVec.sshiftRight (BitVec.ofNat 64 v) (8 * i) &&& 255#64) := by
    have h2 : ∀ i, i < 8 → (lN (8 * i)).toBitVec.smod 64 = BitVec.ofNat 64 (8 * i) ∧ (BitVec.ofNat 64 (8 * i)).toNat = 8 * i := by decide +kernel
    rw [Int64.toBitVec_toInt32, Int64.toBitVec_and, Int64.toBitVec_shiftRight, (h2 i hi).1]
    unfold BitVec.sshiftRight'
    rw [(h2 i hi).2, BitVec.signExtend_eq_setWidth_of_le _ (by decide)]
    rfl
  rw [e1]
  have e2 : (nI (v >>> (8 * i) % 256)).toBitVec = BitVec.ofNat 32 (v >>> (8 * i) % 256) := rfl
  rw [e2]
  have h255 : ∀ k, k < 64 → (255#64).getLsbD k = decide (k < 8) := by decide +kernel
  simp only [BitVec.getLsbD_setWidth, BitVec.getLsbD_and, BitVec.getLsbD_ofNat, hj, decide_true, Bool.true_and, h255 j (by omega)]
  rw [show (256 : Nat) = 2 ^ 8 from rfl, Nat.testBit_mod_two_pow, Nat.testBit_shiftRight]
  by_cases h8 : j < 8
  · simp only [h8, decide_true, Bool.and_true, Bool.true_and]
    rw [BitVec.getLsbD_sshiftRight]
    rw [if_pos (by omega), BitVec.getLsbD_ofNat]
    simp [show 8 * i + j < 64 by omega, show ¬ 64 ≤ j by omega]
  · simp [h8]
theorem wm_div0 : ∀ x, x < 25 → ∀ y, y < 25 → 0 < y → nI x / nI y = nI (x / y) ∧ nI x - nI x / nI y * nI y = nI (x % y) ∧ ¬ nI y = 0 := by decide +kernel
theorem wm_idiv {p : Program} {l : Launch} {e : Env} {R : Room} {s : State} {m : MethodId} {args : Array Value} {below : List Frame} {meth : Method} {c : Code} {H : Heap} {locs : List Loc} {cells slots : Nat} {Q : State → Prop} {cc : ByteArray} {pc nL : Nat} {ls : Array Slot} {rest : List Value} {D : va_G} {C : Nat → ClassId} {b : Nat} {own : String} {x y : Nat} (X : wm_cx p s m args meth c cc nL own D C b) (hx : x < 25) (hy : y < 25) (h0 : 0 < y) (hdg : decode cc pc = .ok (.idiv, 1)) (kk : W p l e R s m args below meth c H locs cells slots Q (F0 m (pc + 1) ls (.int (nI (x / y)) :: rest))) : W p l e R s m args below meth c H locs cells slots Q (F0 m pc ls (.int (nI y) :: .int (nI x) :: rest)) := by
  have h := wm_div0 x hx y hy h0
  refine lv_idiv X.1 X.2.1 hdg h.2.2 ?_
  rw [h.1]
  exact kk
theorem wm_irem {p : Program} {l : Launch} {e : Env} {R : Room} {s : State} {m : MethodId} {args : Array Value} {below : List Frame} {meth : Method} {c : Code} {H : Heap} {locs : List Loc} {cells slots : Nat} {Q : State → Prop} {cc : ByteArray} {pc nL : Nat} {ls : Array Slot} {rest : List Value} {D : va_G} {C : Nat → ClassId} {b : Nat} {own : String} {x y : Nat} (X : wm_cx p s m args meth c cc nL own D C b) (hx : x < 25) (hy : y < 25) (h0 : 0 < y) (hdg : decode cc pc = .ok (.irem, 1)) (kk : W p l e R s m args below meth c H locs cells slots Q (F0 m (pc + 1) ls (.int (nI (x % y)) :: rest))) : W p l e R s m args below meth c H locs cells slots Q (F0 m pc ls (.int (nI y) :: .int (nI x) :: rest)) := by
  have h := wm_div0 x hx y hy h0
  refine lv_irem X.1 X.2.1 hdg h.2.2 ?_
  rw [h.2.1]
  exact kk
/-- a row over three loops: S outermost, T the term, L innermost -/
def wm_t3 (f : Nat → Nat → Nat → Nat) (k S T L : Nat) (na : Nat → Nat) : Prop := ∀ s l, s < 24 → l < 8 → na (8 * s + l) = wm_or (if s < S then k else if s = S then (if l < L then T + 1 else T) else 0) (f s l)
theorem wm_t30 {f : Nat → Nat → Nat → Nat} {k : Nat} {na : Nat → Nat} (h : ∀ j, j < 192 → na j = 0) : wm_t3 f k 0 0 0 na := by
  intro s l hs hl
  rw [h _ (by omega)]
  have e : (if s < 0 then k else if s = 0 then (if l < 0 then 0 + 1 else 0) else 0) = 0 := by split <;> (try omega); split <;> (try split) <;> omega
  rw [e]
  rfl
theorem wm_t3L {f : Nat → Nat → Nat → Nat} {k S T L v : Nat} {na : Nat → Nat} (h : wm_t3 f k S T L na) (hL : L < 8) (hS : S < 24) (hv : v = na (8 * S + L) ||| f S L T) : wm_t3 f k S T (L + 1) (va_up na (8 * S + L) v) := by
  intro s l hs hl
  by_cases e : 8 * s + l = 8 * S + L
  · have e1 : s = S := by omega
    have e2 : l = L := by omega
    subst e1; subst e2
    rw [va_up_self, hv, h s l hs hl, if_neg (by omega), if_pos rfl, if_neg (by omega), if_neg (by omega), if_pos rfl, if_pos (by omega), wm_or_s]
  · rw [va_up_ne _ _ e, h s l hs hl]
    congr 1
    by_cases h1 : s < S
    · rw [if_pos h1, if_pos h1]
    · rw [if_neg h1, if_neg h1]
      by_cases h2 : s = S
      · rw [if_pos h2, if_pos h2]
        by_cases h3 : l < L
        · rw [if_pos h3, if_pos (by omega)]
        · rw [if_neg h3, if_neg (by omega)]
      · rw [if_neg h2, if_neg h2]
theorem wm_t3T {f : Nat → Nat → Nat → Nat} {k S T L : Nat} {na : Nat → Nat} (h : wm_t3 f k S T L na) (hL : 8 ≤ L) : wm_t3 f k S (T + 1) 0 na := by
  intro s l hs hl
  rw [h s l hs hl]
  congr 1
  by_cases h1 : s < S
  · rw [if_pos h1, if_pos h1]
  · rw [if_neg h1, if_neg h1]
    by_cases h2 : s = S
    · rw [if_pos h2, if_pos h2, if_pos (by omega), if_neg (by omega)]
    · rw [if_neg h2, if_neg h2]
theorem wm_t3S {f : Nat → Nat → Nat → Nat} {k S T : Nat} {na : Nat → Nat} (h : wm_t3 f k S T 0 na) (hT : T = k) : wm_t3 f k (S + 1) 0 0 na := by
  subst hT
  intro s l hs hl
  rw [h s l hs hl]
  congr 1
  by_cases h1 : s < S
  · rw [if_pos h1, if_pos (by omega)]
  · rw [if_neg h1]
    by_cases h2 : s = S
    · rw [if_pos h2, if_neg (by omega), if_pos (by omega)]
    · rw [if_neg h2]
      by_cases h3 : s < S + 1
      · omega
      · rw [if_neg h3]
        by_cases h4 : s = S + 1
        · rw [if_pos h4, if_neg (by omega)]
        · rw [if_neg h4]
theorem wm_t31 {f : Nat → Nat → Nat → Nat} {k S : Nat} {na : Nat → Nat} (h : wm_t3 f k S 0 0 na) (hf : ∀ s l, f s l 0 = 0) : wm_t3 f k S 1 0 na := by
  intro s l hs hl
  rw [h s l hs hl]
  by_cases h1 : s < S
  · rw [if_pos h1, if_pos h1]
  · rw [if_neg h1, if_neg h1]
    by_cases h2 : s = S
    · rw [if_pos h2, if_pos h2, if_neg (by omega), if_neg (by omega)]
      rw [show (1 : Nat) = 0 + 1 from rfl, wm_or_s, hf, Nat.or_zero]
    · rw [if_neg h2, if_neg h2]
def wm_t2 (h : Nat → Nat → Nat) (S L : Nat) (na : Nat → Nat) : Prop := ∀ s l, s < 24 → l < 8 → (s < S ∨ (s = S ∧ l < L)) → na (8 * s + l) = h s l
theorem wm_t20 {h : Nat → Nat → Nat} {na : Nat → Nat} : wm_t2 h 0 0 na := fun s l _ _ q => absurd q (by omega)
theorem wm_t2S {h : Nat → Nat → Nat} {S L : Nat} {na : Nat → Nat} (q : wm_t2 h S L na) (hL : 8 ≤ L) : wm_t2 h (S + 1) 0 na := fun s l h1 h2 h3 => q s l h1 h2 (by omega)
theorem wm_t2L {h : Nat → Nat → Nat} {S L v : Nat} {na : Nat → Nat} (q : wm_t2 h S L na) (hL : L < 8) (hv : v = h S L) : wm_t2 h S (L + 1) (va_up na (8 * S + L) v) := by
  intro s l h1 h2 h3
  by_cases e : 8 * s + l = 8 * S + L
  · have e1 : s = S := by omega
    have e2 : l = L := by omega
    subst e1; subst e2
    rw [va_up_self, hv]
  · rw [va_up_ne _ _ e]
    exact q s l h1 h2 (by omega)
/-- a copy into the part of a row from a on -/
def wm_cp (a i : Nat) (na ar ar1 : Nat → Nat) : Prop := (∀ j, j < i → ar1 (a + j) = na j) ∧ ∀ j, j < a ∨ a + i ≤ j → ar1 j = ar j
theorem wm_cp0 {a : Nat} {na ar : Nat → Nat} : wm_cp a 0 na ar ar := ⟨fun j h => absurd h (Nat.not_lt_zero _), fun _ _ => rfl⟩
theorem wm_cp1 {a i : Nat} {na ar ar1 : Nat → Nat} (h : wm_cp a i na ar ar1) : wm_cp a (i + 1) na ar (va_up ar1 (a + i) (na i)) := by
  refine ⟨fun j hj => ?_, fun j hj => ?_⟩
  · by_cases e : j = i
    · subst e; rw [va_up_self]
    · rw [va_up_ne _ _ (by omega)]; exact h.1 j (by omega)
  · rw [va_up_ne _ _ (by omega)]; exact h.2 j (by omega)
/-- after: the goals of a set -/
def wm_af (ar : Nat → Nat) (k cn a S : Nat) : Nat := wm_or cn (fun x => if S.testBit x then ar (192 * k + 8 * x + a) else 0)
theorem wm_af_lt {ar : Nat → Nat} {k cn a S d : Nat} (h : ∀ x, x < cn → ar (192 * k + 8 * x + a) < 2 ^ d) : wm_af ar k cn a S < 2 ^ d := by
  refine wm_or_lt (fun j hj => ?_)
  show (if S.testBit j = true then _ else 0) < _
  cases S.testBit j
  · exact Nat.two_pow_pos d
  · exact h j hj
def wm_mt (ar : Nat → Nat) (k cn en : Nat) (tx : Nat → Nat) : Nat → Nat → Nat → Bool
  | 0, _, S => decide (S &&& en ≠ 0)
  | m + 1, i, S => wm_mt ar k cn en tx m (i + 1) (if 97 ≤ tx i ∧ tx i ≤ 104 then wm_af ar k cn (tx i - 97) S else 0)
theorem wm_mt0 {ar tx : Nat → Nat} {k cn en ts i S : Nat} {r : Bool} (h : wm_mt ar k cn en tx (ts - i) i S = r) (hi : ts ≤ i) : r = decide (S &&& en ≠ 0) := by
  rw [← h, Nat.sub_eq_zero_of_le hi, wm_mt]
theorem wm_mt1 {ar tx : Nat → Nat} {k cn en ts i S S1 : Nat} {r : Bool} (h : wm_mt ar k cn en tx (ts - i) i S = r) (hi : i < ts) (hl : S1 = if 97 ≤ tx i ∧ tx i ≤ 104 then wm_af ar k cn (tx i - 97) S else 0) : wm_mt ar k cn en tx (ts - (i + 1)) (i + 1) S1 = r := by
  rw [← h, show ts - i = ts - (i + 1) + 1 by omega, wm_mt, hl]
theorem wm_sh1 {S k : Nat} (h : S >>> k &&& 1 = 1) : S.testBit k = true := by
  rw [Nat.testBit]
  simp [Nat.and_comm] at h ⊢
  omega
theorem wm_sh0 {S k : Nat} (h : S >>> k &&& 1 ≠ 1) : S.testBit k = false := by
  rw [Nat.testBit]
  simp [Nat.and_comm] at h ⊢
  omega
theorem wm_wb1 {S k : Nat} {v : Bool} (h : v = true) : wm_wb S k v = S ||| 1 <<< k := by rw [h, wm_wb_t rfl]
theorem wm_wb0 {S k : Nat} {v : Bool} (h : v = false) : wm_wb S k v = S &&& (1 <<< k ^^^ 4294967295) := by rw [h, wm_wb_f rfl]
theorem wm_le7 {x : Int32} (h : x ≤ nI 7) : x < nI 8 := by
  rw [Int32.lt_iff_toInt_lt]
  rw [Int32.le_iff_toInt_le] at h
  have h1 : (nI 7).toInt = 7 := by decide
  have h2 : (nI 8).toInt = 8 := by decide
  omega
