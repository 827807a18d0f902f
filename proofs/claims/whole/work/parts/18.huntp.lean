/-! the hunt for the least word: groups -/
theorem wm_lori (a b : Nat) : lN a ||| lN b = lN (a ||| b) := by
  apply Int64.toBitVec_inj.1
  show BitVec.ofNat 64 a ||| BitVec.ofNat 64 b = BitVec.ofNat 64 (a ||| b)
  apply BitVec.eq_of_getLsbD_eq
  intro i hi
  simp [hi]
theorem wm_lc63 : ∀ k, k < 64 → ((nI k).toInt64 &&& 63) = lN k := by decide +kernel
theorem wm_lcu63 : ∀ k, k < 64 → ((nI k).toInt64.toUInt64 &&& Int64.toUInt64 63) = UInt64.ofNat k := by decide +kernel
theorem wm_lsm63 : ∀ k, k < 64 → (BitVec.ofNat 64 k).smod 64 = BitVec.ofNat 64 k := by decide +kernel
theorem wm_lshli (x : Nat) {k : Nat} (hk : k < 64) : lN x <<< ((nI k).toInt64 &&& 63) = lN (x <<< k) := by
  rw [wm_lc63 k hk]
  apply Int64.toBitVec_inj.mp
  rw [Int64.toBitVec_shiftLeft]
  show BitVec.ofNat 64 x <<< (BitVec.ofNat 64 k).smod 64 = BitVec.ofNat 64 (x <<< k)
  rw [wm_lsm63 k hk]
  apply BitVec.eq_of_toNat_eq
  rw [BitVec.shiftLeft_eq', BitVec.toNat_shiftLeft, BitVec.toNat_ofNat, BitVec.toNat_ofNat, BitVec.toNat_ofNat, Nat.mod_eq_of_lt (show k < 2 ^ 64 by omega), Nat.shiftLeft_eq, Nat.shiftLeft_eq, Nat.mod_mul_mod]
theorem wm_lushri {x k : Nat} (hx : x < 2 ^ 64) (hk : k < 64) : ((lN x).toUInt64 >>> ((nI k).toInt64.toUInt64 &&& Int64.toUInt64 63)).toInt64 = lN (x >>> k) := by
  rw [wm_lcu63 k hk]
  apply Int64.toBitVec_inj.mp
  apply BitVec.eq_of_toNat_eq
  show ((lN x).toUInt64 >>> UInt64.ofNat k).toNat = (BitVec.ofNat 64 _).toNat
  have h1 : (UInt64.ofNat k).toNat = k := by
    show (BitVec.ofNat 64 k).toNat = k
    rw [BitVec.toNat_ofNat, Nat.mod_eq_of_lt (by omega)]
  have h2 : (lN x).toUInt64.toNat = x := by
    show (BitVec.ofNat 64 x).toNat = x
    rw [BitVec.toNat_ofNat, Nat.mod_eq_of_lt hx]
  rw [UInt64.toNat_shiftRight, h1, h2, Nat.mod_eq_of_lt hk, BitVec.toNat_ofNat, Nat.mod_eq_of_lt (Nat.lt_of_le_of_lt (Nat.shiftRight_le _ _) hx)]
section WML
variable {p : Program} {l : Launch} {e : Env} {R : Room} {s : State} {m : MethodId} {args : Array Value} {below : List Frame} {meth : Method} {c : Code} {H : Heap} {locs : List Loc} {cells slots : Nat} {Q : State → Prop}
variable {cc : ByteArray} {pc nL : Nat} {ls : Array Slot} {rest : List Value} {D : va_G} {C : Nat → ClassId} {b n : Nat} {E : Nat → va_E} {own : String}
theorem wm_l2i (X : wm_cx p s m args meth c cc nL own D C b) {x : Nat} (hdg : decode cc pc = .ok (.l2i, 1)) (k : W p l e R s m args below meth c H locs cells slots Q (F0 m (pc + 1) ls (.int (nI x) :: rest))) : W p l e R s m args below meth c H locs cells slots Q (F0 m pc ls (.long (lN x) :: rest)) := lv_l2i X.1 X.2.1 hdg (lN_i x) k
theorem wm_i2l (X : wm_cx p s m args meth c cc nL own D C b) {x : Nat} (hx : x < 2 ^ 31) (hdg : decode cc pc = .ok (.i2l, 1)) (k : W p l e R s m args below meth c H locs cells slots Q (F0 m (pc + 1) ls (.long (lN x) :: rest))) : W p l e R s m args below meth c H locs cells slots Q (F0 m pc ls (.int (nI x) :: rest)) := lv_i2l X.1 X.2.1 hdg (nI_l hx) k
theorem wm_lor (X : wm_cx p s m args meth c cc nL own D C b) {x y : Nat} (hdg : decode cc pc = .ok (.lor, 1)) (k : W p l e R s m args below meth c H locs cells slots Q (F0 m (pc + 1) ls (.long (lN (x ||| y)) :: rest))) : W p l e R s m args below meth c H locs cells slots Q (F0 m pc ls (.long (lN y) :: .long (lN x) :: rest)) := lv_lor X.1 X.2.1 hdg (by rw [wm_lori]; exact k)
theorem wm_lshl (X : wm_cx p s m args meth c cc nL own D C b) {x y : Nat} (hy : y < 64) (hdg : decode cc pc = .ok (.lshl, 1)) (k : W p l e R s m args below meth c H locs cells slots Q (F0 m (pc + 1) ls (.long (lN (x <<< y)) :: rest))) : W p l e R s m args below meth c H locs cells slots Q (F0 m pc ls (.int (nI y) :: .long (lN x) :: rest)) := lv_lshl X.1 X.2.1 hdg (wm_lshli x hy) k
theorem wm_lushr (X : wm_cx p s m args meth c cc nL own D C b) {x y : Nat} (hx : x < 2 ^ 64) (hy : y < 64) (hdg : decode cc pc = .ok (.lushr, 1)) (k : W p l e R s m args below meth c H locs cells slots Q (F0 m (pc + 1) ls (.long (lN (x >>> y)) :: rest))) : W p l e R s m args below meth c H locs cells slots Q (F0 m pc ls (.int (nI y) :: .long (lN x) :: rest)) := lv_lushr X.1 X.2.1 hdg (wm_lushri hx hy) k
end WML
abbrev wm_gp : Type := Nat × Nat × Nat × Nat
abbrev wm_g0 : wm_gp := (0, 0, 0, 0)
def wm_enc (q : wm_gp) : Nat := q.1 ||| q.2.1 <<< 24 ||| q.2.2.1 <<< 35 ||| q.2.2.2 <<< 38
def wm_gok (q : wm_gp) : Prop := q.1 < 2 ^ 24 ∧ q.2.1 < 2 ^ 11 ∧ q.2.2.1 < 2 ^ 3 ∧ q.2.2.2 < 2 ^ 16
theorem wm_hi {x k i : Nat} (h : x < 2 ^ k) (hi : k ≤ i) : x.testBit i = false := Nat.testBit_lt_two_pow (Nat.lt_of_lt_of_le h (Nat.pow_le_pow_right (by decide) hi))
theorem wm_enc_tb (q : wm_gp) (i : Nat) : (wm_enc q).testBit i = (q.1.testBit i || (decide (24 ≤ i) && q.2.1.testBit (i - 24)) || (decide (35 ≤ i) && q.2.2.1.testBit (i - 35)) || (decide (38 ≤ i) && q.2.2.2.testBit (i - 38))) := by
  unfold wm_enc
  simp only [Nat.testBit_or, Nat.testBit_shiftLeft]
theorem wm_m24 (i : Nat) : (16777215 : Nat).testBit i = decide (i < 24) := by rw [show (16777215 : Nat) = 2 ^ 24 - 1 from rfl, Nat.testBit_two_pow_sub_one]
theorem wm_m11 (i : Nat) : (2047 : Nat).testBit i = decide (i < 11) := by rw [show (2047 : Nat) = 2 ^ 11 - 1 from rfl, Nat.testBit_two_pow_sub_one]
theorem wm_m3 (i : Nat) : (7 : Nat).testBit i = decide (i < 3) := by rw [show (7 : Nat) = 2 ^ 3 - 1 from rfl, Nat.testBit_two_pow_sub_one]
theorem wm_dec1 {q : wm_gp} (h : wm_gok q) : wm_enc q &&& 16777215 = q.1 := by
  apply Nat.eq_of_testBit_eq
  intro i
  rw [Nat.testBit_and, wm_enc_tb, wm_m24]
  by_cases hi : i < 24
  · simp [hi, show ¬ 24 ≤ i by omega, show ¬ 35 ≤ i by omega, show ¬ 38 ≤ i by omega]
  · rw [wm_hi h.1 (by omega)]; simp [hi]
theorem wm_dec2 {q : wm_gp} (h : wm_gok q) : wm_enc q >>> 24 &&& 2047 = q.2.1 := by
  apply Nat.eq_of_testBit_eq
  intro i
  rw [Nat.testBit_and, Nat.testBit_shiftRight, wm_enc_tb, wm_m11, wm_hi h.1 (by omega)]
  by_cases hi : i < 11
  · simp [hi, show ¬ 35 ≤ 24 + i by omega, show ¬ 38 ≤ 24 + i by omega]
  · rw [wm_hi h.2.1 (show 11 ≤ i by omega)]; simp [hi]
theorem wm_dec3 {q : wm_gp} (h : wm_gok q) : wm_enc q >>> 35 &&& 7 = q.2.2.1 := by
  apply Nat.eq_of_testBit_eq
  intro i
  rw [Nat.testBit_and, Nat.testBit_shiftRight, wm_enc_tb, wm_m3, wm_hi h.1 (by omega), wm_hi h.2.1 (show 11 ≤ 35 + i - 24 by omega)]
  by_cases hi : i < 3
  · simp [hi, show ¬ 38 ≤ 35 + i by omega]
  · rw [wm_hi h.2.2.1 (show 3 ≤ i by omega)]; simp [hi]
theorem wm_dec4 {q : wm_gp} (h : wm_gok q) : wm_enc q >>> 38 = q.2.2.2 := by
  apply Nat.eq_of_testBit_eq
  intro i
  rw [Nat.testBit_shiftRight, wm_enc_tb, wm_hi h.1 (by omega), wm_hi h.2.1 (show 11 ≤ 38 + i - 24 by omega), wm_hi h.2.2.1 (show 3 ≤ 38 + i - 35 by omega)]
  simp
theorem wm_enc_lt {q : wm_gp} (h : wm_gok q) : wm_enc q < 2 ^ 64 := by
  refine wm_lt_of (fun i hi => ?_)
  rw [wm_enc_tb, wm_hi h.1 (by omega), wm_hi h.2.1 (by omega), wm_hi h.2.2.1 (by omega), wm_hi h.2.2.2 (by omega)]
  simp
/-- which states were met together with a set -/
def wm_mw (G : List wm_gp) (S : Nat) : Nat := wm_or G.length (fun i => if (G.getD i wm_g0).2.1 = S then (G.getD i wm_g0).1 else 0)
theorem wm_gd_l {G : List wm_gp} {q : wm_gp} {i : Nat} (h : i < G.length) : (G ++ [q]).getD i wm_g0 = G.getD i wm_g0 := by
  rw [List.getD_eq_getElem?_getD, List.getD_eq_getElem?_getD, List.getElem?_append_left h]
theorem wm_gd_r {G : List wm_gp} {q : wm_gp} : (G ++ [q]).getD G.length wm_g0 = q := by simp
theorem wm_mw_app {G : List wm_gp} {q : wm_gp} {S : Nat} : wm_mw (G ++ [q]) S = wm_mw G S ||| (if q.2.1 = S then q.1 else 0) := by
  unfold wm_mw
  rw [List.length_append, List.length_singleton, wm_or_s, wm_gd_r]
  congr 1
  exact wm_or_cg (fun j hj => by rw [wm_gd_l hj])
def wm_new (G : List wm_gp) (sts S : Nat) : Nat := sts &&& (wm_mw G S ^^^ 4294967295)
def wm_ag (G : List wm_gp) (sts S a bf : Nat) : List wm_gp := if wm_new G sts S = 0 then G else G ++ [(wm_new G sts S, S, a, bf)]
/-- a list of groups as the hunt makes them -/
def wm_gg (sc : Nat) (G : List wm_gp) : Prop := (∀ i, i < G.length → wm_gok (G.getD i wm_g0) ∧ (G.getD i wm_g0).1 ≠ 0 ∧ (G.getD i wm_g0).2.1 < sc ∧ ((G.getD i wm_g0).2.2.2 < i ∨ (i = 0 ∧ (G.getD i wm_g0).2.2.2 = 0))) ∧ ∀ i j, i < G.length → j < G.length → i ≠ j → (G.getD i wm_g0).2.1 = (G.getD j wm_g0).2.1 → (G.getD i wm_g0).1 &&& (G.getD j wm_g0).1 = 0
theorem wm_gg_len {sc : Nat} {G : List wm_gp} (h : wm_gg sc G) (hsc : sc ≤ 2048) : G.length ≤ 49152 := by
  have hex : ∀ i, ∃ x, i < G.length → (G.getD i wm_g0).1.testBit x = true := fun i => by
    by_cases hi : i < G.length
    · obtain ⟨x, hx⟩ := Nat.exists_testBit_of_ne_zero (h.1 i hi).2.1
      exact ⟨x, fun _ => hx⟩
    · exact ⟨0, fun q => absurd q hi⟩
  obtain ⟨f, hf⟩ : ∃ f : Nat → Nat, ∀ i, i < G.length → (G.getD i wm_g0).1.testBit (f i) = true := ⟨fun i => Classical.choose (hex i), fun i hi => Classical.choose_spec (hex i) hi⟩
  have hfl : ∀ i, i < G.length → f i < 24 := fun i hi => wm_bit_lt (hf i hi) (h.1 i hi).1.1
  have hinj : ∀ i j, i < G.length → j < G.length → f i * 2048 + (G.getD i wm_g0).2.1 = f j * 2048 + (G.getD j wm_g0).2.1 → i = j := by
    intro i j hi hj he
    have a1 := (h.1 i hi).2.2.1
    have a2 := (h.1 j hj).2.2.1
    have e1 : f i = f j := by omega
    have e2 : (G.getD i wm_g0).2.1 = (G.getD j wm_g0).2.1 := by omega
    by_cases hij : i = j
    · exact hij
    · have h3 := h.2 i j hi hj hij e2
      have h4 : ((G.getD i wm_g0).1 &&& (G.getD j wm_g0).1).testBit (f i) = true := by
        rw [Nat.testBit_and, hf i hi, e1, hf j hj]; rfl
      rw [h3, Nat.zero_testBit] at h4
      cases h4
  have hp := wm_pig 49152 ((List.range G.length).map (fun i => f i * 2048 + (G.getD i wm_g0).2.1)) (by
    rw [List.nodup_iff_pairwise_ne, List.pairwise_map]
    refine List.Pairwise.imp_of_mem ?_ (List.nodup_iff_pairwise_ne.mp List.nodup_range)
    intro x y hx hy hxy q
    exact hxy (hinj x y (List.mem_range.mp hx) (List.mem_range.mp hy) q)) (fun x hx => by
    obtain ⟨i, hi, rfl⟩ := List.mem_map.mp hx
    have := hfl i (List.mem_range.mp hi)
    have := (h.1 i (List.mem_range.mp hi)).2.2.1
    omega)
  simpa using hp
theorem wm_mw_bit {G : List wm_gp} {i x : Nat} (hi : i < G.length) (hx : (G.getD i wm_g0).1.testBit x = true) : (wm_mw G (G.getD i wm_g0).2.1).testBit x = true := by
  unfold wm_mw
  rw [wm_or_tb]
  exact ⟨i, hi, by rw [if_pos rfl]; exact hx⟩
theorem wm_gg_new {sc : Nat} {G : List wm_gp} {sts S a bf : Nat} (h : wm_gg sc G) (hsc : sc ≤ 2048) (h1 : sts < 2 ^ 24) (h2 : S < sc) (h3 : a < 8) (h4 : bf < G.length ∨ (G.length = 0 ∧ bf = 0)) (hn : wm_new G sts S ≠ 0) : wm_gg sc (G ++ [(wm_new G sts S, S, a, bf)]) := by
  have hlen := wm_gg_len h hsc
  have key : ∀ i, i < G.length → (G.getD i wm_g0).2.1 = S → (G.getD i wm_g0).1 &&& wm_new G sts S = 0 := by
    intro i hi he
    apply Nat.eq_of_testBit_eq
    intro x
    rw [Nat.zero_testBit, Nat.testBit_and]
    cases hx : (G.getD i wm_g0).1.testBit x
    · rfl
    · have h5 := wm_mw_bit hi hx
      rw [he] at h5
      have hx32 : x < 32 := by
        have := wm_bit_lt hx (h.1 i hi).1.1
        omega
      unfold wm_new
      rw [Nat.testBit_and, Nat.testBit_xor, h5, wm_ones]
      simp [hx32]
  refine ⟨fun i hi => ?_, fun i j hi hj hij he => ?_⟩
  · rw [List.length_append, List.length_singleton] at hi
    rcases Nat.lt_or_ge i G.length with q | q
    · rw [wm_gd_l q]; exact h.1 i q
    · have e : i = G.length := by omega
      subst e
      rw [wm_gd_r]
      exact ⟨⟨Nat.lt_of_le_of_lt Nat.and_le_left h1, by show S < 2 ^ 11; omega, by show a < 2 ^ 3; omega, by show bf < 2 ^ 16; omega⟩, hn, h2, h4⟩
  · rw [List.length_append, List.length_singleton] at hi hj
    rcases Nat.lt_or_ge i G.length with q | q <;> rcases Nat.lt_or_ge j G.length with q2 | q2
    · rw [wm_gd_l q, wm_gd_l q2] at *
      exact h.2 i j q q2 hij he
    · have e : j = G.length := by omega
      subst e
      rw [wm_gd_l q, wm_gd_r] at *
      exact key i q he
    · have e : i = G.length := by omega
      subst e
      rw [wm_gd_l q2, wm_gd_r] at *
      rw [Nat.and_comm]
      exact key j q2 he.symm
    · omega
/-- the groups, in the two rows -/
def wm_hw (sc : Nat) (G : List wm_gp) (gr mw : Nat → Nat) : Prop := wm_gg sc G ∧ (∀ i, i < G.length → gr i = wm_enc (G.getD i wm_g0)) ∧ ∀ S, S < sc → mw S = wm_mw G S
theorem wm_hw0 {sc : Nat} {gr mw : Nat → Nat} (h : ∀ j, 0 ≤ j → j < sc → mw j = 0) : wm_hw sc [] gr mw := ⟨⟨fun i hi => absurd hi (Nat.not_lt_zero _), fun i j hi => absurd hi (Nat.not_lt_zero _)⟩, fun i hi => absurd hi (Nat.not_lt_zero _), fun S hS => h S (Nat.zero_le _) hS⟩
theorem wm_hw_new {sc : Nat} {G : List wm_gp} {gr mw : Nat → Nat} {sts S a bf : Nat} (h : wm_hw sc G gr mw) (hsc : sc ≤ 2048) (h1 : sts < 2 ^ 24) (h2 : S < sc) (h3 : a < 8) (h4 : bf < G.length ∨ (G.length = 0 ∧ bf = 0)) (hn : wm_new G sts S ≠ 0) : G.length < 49152 ∧ wm_ag G sts S a bf = G ++ [(wm_new G sts S, S, a, bf)] ∧ wm_hw sc (G ++ [(wm_new G sts S, S, a, bf)]) (va_up gr G.length (wm_enc (wm_new G sts S, S, a, bf))) (va_up mw S (wm_mw G S ||| wm_new G sts S)) := by
  have hg := wm_gg_new h.1 hsc h1 h2 h3 h4 hn
  have hl := wm_gg_len hg hsc
  rw [List.length_append, List.length_singleton] at hl
  refine ⟨by omega, if_neg hn, hg, fun i hi => ?_, fun S1 hS1 => ?_⟩
  · rw [List.length_append, List.length_singleton] at hi
    by_cases e : i = G.length
    · subst e; rw [va_up_self, wm_gd_r]
    · rw [va_up_ne _ _ e, wm_gd_l (by omega)]; exact h.2.1 i (by omega)
  · rw [wm_mw_app]
    by_cases e : S1 = S
    · subst e; rw [va_up_self, if_pos rfl]
    · rw [va_up_ne _ _ e, if_neg (fun q => e q.symm), Nat.or_zero]; exact h.2.2 S1 hS1
/-- chains -/
def wm_dep (G : List wm_gp) : Nat → Nat → Nat
  | 0, _ => 0
  | fu + 1, w => if w = 0 then 0 else wm_dep G fu (G.getD w wm_g0).2.2.2 + 1
theorem wm_dep_0 (G : List wm_gp) (fu : Nat) : wm_dep G fu 0 = 0 := by cases fu <;> rfl
theorem wm_dep_n (G : List wm_gp) (fu : Nat) {w : Nat} (h : w ≠ 0) : wm_dep G (fu + 1) w = wm_dep G fu (G.getD w wm_g0).2.2.2 + 1 := if_neg h
def wm_upg (G : List wm_gp) : Nat → Nat → Nat
  | 0, w => w
  | k + 1, w => (G.getD (wm_upg G k w) wm_g0).2.2.2
theorem wm_dep_fu {sc : Nat} {G : List wm_gp} (h : wm_gg sc G) : ∀ (fu w : Nat), w < G.length → w ≤ fu → ∀ fu2, w ≤ fu2 → wm_dep G fu w = wm_dep G fu2 w := by
  intro fu
  induction fu with
  | zero =>
    intro w _ hf fu2 _
    have : w = 0 := by omega
    subst this
    cases fu2 <;> rfl
  | succ fu ih =>
    intro w hw hf fu2 hf2
    by_cases e : w = 0
    · subst e; cases fu2 <;> rfl
    · cases fu2 with
      | zero => omega
      | succ fu2 =>
        show (if w = 0 then 0 else _) = if w = 0 then 0 else _
        rw [if_neg e, if_neg e]
        have hb : (G.getD w wm_g0).2.2.2 < w := by
          rcases (h.1 w hw).2.2.2 with q | q
          · exact q
          · omega
        rw [ih _ (by omega) (by omega) fu2 (by omega)]
def wm_dp (G : List wm_gp) (w : Nat) : Nat := wm_dep G w w
theorem wm_dp_0 (G : List wm_gp) : wm_dp G 0 = 0 := rfl
theorem wm_dep_s {sc : Nat} {G : List wm_gp} {w : Nat} (h : wm_gg sc G) (hw : w < G.length) (h0 : 0 < w) : wm_dp G w = wm_dp G (G.getD w wm_g0).2.2.2 + 1 ∧ (G.getD w wm_g0).2.2.2 < w := by
  have hb : (G.getD w wm_g0).2.2.2 < w := by
    rcases (h.1 w hw).2.2.2 with q | q
    · exact q
    · omega
  refine ⟨?_, hb⟩
  obtain ⟨k, rfl⟩ : ∃ k, w = k + 1 := ⟨w - 1, by omega⟩
  unfold wm_dp
  rw [wm_dep_n G k (by omega), wm_dep_fu h k (G.getD (k + 1) wm_g0).2.2.2 (by omega) (by omega) _ (Nat.le_refl _)]
theorem wm_dep_le {sc : Nat} {G : List wm_gp} (h : wm_gg sc G) : ∀ w, w < G.length → wm_dp G w ≤ w := by
  intro w
  induction w using Nat.strongRecOn with
  | ind w ih =>
    intro hw
    by_cases e : w = 0
    · subst e; exact Nat.le_refl _
    · have := wm_dep_s h hw (by omega)
      have := ih _ this.2 (by omega)
      omega
theorem wm_upg_dep {sc : Nat} {G : List wm_gp} {w : Nat} (h : wm_gg sc G) (hw : w < G.length) : ∀ k, k ≤ wm_dp G w → wm_upg G k w ≤ w ∧ wm_dp G (wm_upg G k w) + k = wm_dp G w := by
  intro k
  induction k with
  | zero => intro _; exact ⟨Nat.le_refl _, rfl⟩
  | succ k ih =>
    intro hk
    obtain ⟨i1, i2⟩ := ih (by omega)
    have h0 : 0 < wm_upg G k w := by
      rcases Nat.eq_zero_or_pos (wm_upg G k w) with q | q
      · rw [q, wm_dp_0] at i2
        omega
      · exact q
    have h2 := wm_dep_s h (show wm_upg G k w < G.length by omega) h0
    exact ⟨by show (G.getD (wm_upg G k w) wm_g0).2.2.2 ≤ w; omega, by show wm_dp G (G.getD (wm_upg G k w) wm_g0).2.2.2 + (k + 1) = _; omega⟩
/-- the hunt itself -/
def wm_bad (e1 e2 : Nat) (q : wm_gp) : Prop := q.1 &&& e1 ≠ 0 ∧ q.2.1 &&& e2 = 0
def wm_ag8 (F1 F2 : Nat → Nat → Nat) (G : List wm_gp) (i : Nat) : Nat → List wm_gp
  | 0 => G
  | k + 1 => wm_ag (wm_ag8 F1 F2 G i k) (F1 (G.getD i wm_g0).1 k) (F2 (G.getD i wm_g0).2.1 k) k i
noncomputable def wm_hunt (F1 F2 : Nat → Nat → Nat) (e1 e2 : Nat) : Nat → Nat → List wm_gp → List wm_gp × Option Nat
  | 0, _, G => (G, none)
  | fu + 1, i, G => if i < G.length then (if (G.getD i wm_g0).1 &&& e1 ≠ 0 ∧ (G.getD i wm_g0).2.1 &&& e2 = 0 then (G, some i) else wm_hunt F1 F2 e1 e2 fu (i + 1) (wm_ag8 F1 F2 G i 8)) else (G, none)
theorem wm_ag_len (G : List wm_gp) (sts S a bf : Nat) : G.length ≤ (wm_ag G sts S a bf).length ∧ ∀ i, i < G.length → (wm_ag G sts S a bf).getD i wm_g0 = G.getD i wm_g0 := by
  unfold wm_ag
  split
  · exact ⟨Nat.le_refl _, fun _ _ => rfl⟩
  · rw [List.length_append]; exact ⟨by omega, fun i hi => wm_gd_l hi⟩
theorem wm_ag8_pre (F1 F2 : Nat → Nat → Nat) (G : List wm_gp) (i : Nat) : ∀ k, G.length ≤ (wm_ag8 F1 F2 G i k).length ∧ ∀ j, j < G.length → (wm_ag8 F1 F2 G i k).getD j wm_g0 = G.getD j wm_g0 := by
  intro k
  induction k with
  | zero => exact ⟨Nat.le_refl _, fun _ _ => rfl⟩
  | succ k ih =>
    have h := wm_ag_len (wm_ag8 F1 F2 G i k) (F1 (G.getD i wm_g0).1 k) (F2 (G.getD i wm_g0).2.1 k) k i
    exact ⟨Nat.le_trans ih.1 h.1, fun j hj => (h.2 j (by omega)).trans (ih.2 j hj)⟩
theorem wm_hunt_e {F1 F2 : Nat → Nat → Nat} {e1 e2 fu i : Nat} {G : List wm_gp} (h : G.length ≤ i) : wm_hunt F1 F2 e1 e2 fu i G = (G, none) := by
  cases fu with
  | zero => rfl
  | succ fu => exact if_neg (by omega)
theorem wm_hunt_b {F1 F2 : Nat → Nat → Nat} {e1 e2 fu i : Nat} {G : List wm_gp} (h : i < G.length) (hb : (G.getD i wm_g0).1 &&& e1 ≠ 0 ∧ (G.getD i wm_g0).2.1 &&& e2 = 0) : wm_hunt F1 F2 e1 e2 (fu + 1) i G = (G, some i) := by
  show (if i < G.length then _ else _) = _
  rw [if_pos h, if_pos hb]
theorem wm_hunt_s {F1 F2 : Nat → Nat → Nat} {e1 e2 fu i : Nat} {G : List wm_gp} (h : i < G.length) (hb : ¬ ((G.getD i wm_g0).1 &&& e1 ≠ 0 ∧ (G.getD i wm_g0).2.1 &&& e2 = 0)) : wm_hunt F1 F2 e1 e2 (fu + 1) i G = wm_hunt F1 F2 e1 e2 fu (i + 1) (wm_ag8 F1 F2 G i 8) := by
  show (if i < G.length then _ else _) = _
  rw [if_pos h, if_neg hb]
