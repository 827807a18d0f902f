/-! the reader byte by byte -/
def wm_ti (cn md : Nat) (nt : Bool) (rs : Nat) (lt : Nat → Nat) (x : Nat) : Nat × Nat × Bool × Nat × (Nat → Nat) :=
  if wm_lo x ≠ 4294967295 then
    (if md = 4 then (if wm_lo x < rs then (4, md, nt, rs, lt) else (0, 5, nt, rs, va_up lt (cn - 1) (wm_rg (lt (cn - 1)) rs (wm_lo x + 1))))
     else (0, 3, nt, wm_lo x, va_up lt (cn - 1) (lt (cn - 1) ||| 1 <<< wm_lo x)))
  else if x = 94 ∧ md = 1 then (0, 2, true, rs, lt)
  else if x = 45 ∧ md = 3 then (0, 4, nt, rs, lt)
  else if x = 93 ∧ (md = 3 ∨ md = 5) then (0, 0, nt, rs, if nt then va_up lt (cn - 1) (lt (cn - 1) ^^^ 255) else lt)
  else (1, md, nt, rs, lt)
theorem wm_sw0 : ∀ x, x < 256 → (x = 40 ∨ x = 41 ∨ x = 42 ∨ x = 43 ∨ x = 46 ∨ x = 63 ∨ x = 91 ∨ x = 124) ∨ Op.lookupswitch.offset [(40, 97), (41, 102), (42, 122), (43, 122), (46, 73), (63, 122), (91, 81), (124, 107)] 137 (wm_sb x).toInt = 137 := by decide +kernel
theorem wm_sw (x : Nat) (hx : x < 256) (h1 : x ≠ 40) (h2 : x ≠ 41) (h3 : x ≠ 42) (h4 : x ≠ 43) (h5 : x ≠ 46) (h6 : x ≠ 63) (h7 : x ≠ 91) (h8 : x ≠ 124) : Op.lookupswitch.offset [(40, 97), (41, 102), (42, 122), (43, 122), (46, 73), (63, 122), (91, 81), (124, 107)] 137 (wm_sb x).toInt = 137 := by
  rcases wm_sw0 x hx with q | q
  · omega
  · exact q
theorem wm_swr {x : Nat} (h : x = 42 ∨ x = 43 ∨ x = 63) : Op.lookupswitch.offset [(40, 97), (41, 102), (42, 122), (43, 122), (46, 73), (63, 122), (91, 81), (124, 107)] 137 (wm_sb x).toInt = 122 := by
  rcases h with q | q | q <;> (subst q; decide)
theorem wm_sbn : ∀ x, x < 128 → wm_sb x = nI x := by decide +kernel
/-- weaker ends -/
theorem wm_mono {l : Launch} {y : MethodName} {ws : List Cond} {rm : Room} {Pc : Array Value → State → Prop} {S : Type} {p1 p2 : Int32 → S → Prop} {B : S → State → Prop} {A : Nat → Prop} {mc ms : Nat} {free : Addr → Prop} (h : Met l y ws rm Pc (va_Qi p1 B A) mc ms free) (hp : ∀ r u, p1 r u → p2 r u) : Met l y ws rm Pc (va_Qi p2 B A) mc ms free := by
  intro p e ha hc hk s m args below hf happ hP hK
  obtain ⟨t, o, a1, a2, a3, ⟨⟨r, u, q1, q2, q3⟩, q4⟩, q5⟩ := h p e ha hc hk s m args below hf happ hP hK
  exact ⟨t, o, a1, a2, a3, ⟨⟨r, u, q1, hp r u q2, q3⟩, q4⟩, q5⟩
/-- the reader's state: open, count, mode, isNot, rangeStart; followers, letterSets; of each level whether it has a thing, and its parts, row and thing -/
abbrev wm_pst : Type := (Nat × Nat × Nat × Bool × Nat) × (Nat → Nat) × (Nat → Nat) × (Nat → Bool) × (Nat → Nat → Bool × Nat × Nat)
abbrev wm_pe (q : Bool × Nat × Nat) : va_E := .inr (3, [.int (nI q.1.toNat), .int (nI q.2.1), .int (nI q.2.2)])
abbrev wm_le (b i : Nat) (h : Bool) : va_E := .inr (1, [.ref (b + (10 + 4 * i)), .ref (b + (11 + 4 * i)), .ref (b + (12 + 4 * i)), .int (nI h.toNat)])
abbrev wm_re (b fk fp : Nat) (q : Nat × Nat × Nat × Bool × Nat) : va_E := .inr (0, [.int (nI fk), .int (nI fp), .ref (b + 6), .ref (b + 7), .ref (b + 8), .int (nI q.1), .int (nI q.2.1), .int (nI q.2.2.1), .int (nI q.2.2.2.1.toNat), .int (nI q.2.2.2.2)])
def wm_lw (b : Nat) (E : Nat → va_E) (hs : Nat → Bool) (P : Nat → Nat → Bool × Nat × Nat) : Prop := ∀ i, i < 21 → E (9 + 4 * i) = wm_le b i (hs i) ∧ E (10 + 4 * i) = wm_pe (P i 0) ∧ E (11 + 4 * i) = wm_pe (P i 1) ∧ E (12 + 4 * i) = wm_pe (P i 2)
def wm_rd (C : Nat → ClassId) (b : Nat) (E : Nat → va_E) (fk fp : Nat) (z : wm_pst) : Prop := E 5 = wm_re b fk fp z.1 ∧ E 6 = wm_Q C 5 21 (fun i => some (b + (9 + 4 * i))) ∧ E 7 = wm_I C 24 z.2.1 ∧ E 8 = wm_I C 24 z.2.2.1 ∧ wm_lw b E z.2.2.2.1 z.2.2.2.2
def wm_pt (P : Nat → Nat → Bool × Nat × Nat) (o : Nat) (p0 p1 p2 : Bool × Nat × Nat) : Nat → Nat → Bool × Nat × Nat := fun i k => if i = o then (if k = 0 then p0 else if k = 1 then p1 else p2) else P i k
theorem wm_pt_at (P : Nat → Nat → Bool × Nat × Nat) (o : Nat) (p0 p1 p2 : Bool × Nat × Nat) : wm_pt P o p0 p1 p2 o 0 = p0 ∧ wm_pt P o p0 p1 p2 o 1 = p1 ∧ wm_pt P o p0 p1 p2 o 2 = p2 := by simp [wm_pt]
theorem wm_pt_ne {P : Nat → Nat → Bool × Nat × Nat} {o i : Nat} {p0 p1 p2 : Bool × Nat × Nat} (h : i ≠ o) (k : Nat) : wm_pt P o p0 p1 p2 i k = P i k := if_neg h
theorem wm_lw_up {b o : Nat} {E E1 : Nat → va_E} {hs : Nat → Bool} {P : Nat → Nat → Bool × Nat × Nat} {h : Bool} {p0 p1 p2 : Bool × Nat × Nat} (hw : wm_lw b E hs P) (h0 : E1 (9 + 4 * o) = wm_le b o h) (h1 : E1 (10 + 4 * o) = wm_pe p0) (h2 : E1 (11 + 4 * o) = wm_pe p1) (h3 : E1 (12 + 4 * o) = wm_pe p2) (hq : ∀ j, 9 ≤ j → j < 93 → j ≠ 9 + 4 * o → j ≠ 10 + 4 * o → j ≠ 11 + 4 * o → j ≠ 12 + 4 * o → E1 j = E j) : wm_lw b E1 (va_up hs o h) (wm_pt P o p0 p1 p2) := by
  intro i hi
  by_cases e : i = o
  · subst e
    rw [va_up_self, (wm_pt_at P i p0 p1 p2).1, (wm_pt_at P i p0 p1 p2).2.1, (wm_pt_at P i p0 p1 p2).2.2]
    exact ⟨h0, h1, h2, h3⟩
  · rw [va_up_ne _ _ e, wm_pt_ne e, wm_pt_ne e, wm_pt_ne e]
    obtain ⟨q0, q1, q2, q3⟩ := hw i hi
    exact ⟨(hq _ (by omega) (by omega) (by omega) (by omega) (by omega) (by omega)).trans q0, (hq _ (by omega) (by omega) (by omega) (by omega) (by omega) (by omega)).trans q1, (hq _ (by omega) (by omega) (by omega) (by omega) (by omega) (by omega)).trans q2, (hq _ (by omega) (by omega) (by omega) (by omega) (by omega) (by omega)).trans q3⟩
theorem wm_lw_kp {b : Nat} {E E1 : Nat → va_E} {hs : Nat → Bool} {P : Nat → Nat → Bool × Nat × Nat} (hw : wm_lw b E hs P) (hq : ∀ j, 9 ≤ j → j < 93 → E1 j = E j) : wm_lw b E1 hs P := by
  intro i hi
  obtain ⟨q0, q1, q2, q3⟩ := hw i hi
  exact ⟨(hq _ (by omega) (by omega)).trans q0, (hq _ (by omega) (by omega)).trans q1, (hq _ (by omega) (by omega)).trans q2, (hq _ (by omega) (by omega)).trans q3⟩
abbrev wm_jp (r q : Bool × Nat × Nat) : Bool × Nat × Nat := (r.1 && q.1, r.2.1 ||| (if r.1 then q.2.1 else 0), q.2.2 ||| (if q.1 then r.2.2 else 0))
abbrev wm_ap (p r : Bool × Nat × Nat) : Bool × Nat × Nat := (p.1 || r.1, p.2.1 ||| r.2.1, p.2.2 ||| r.2.2)
abbrev wm_e1 : Bool × Nat × Nat := (true, 0, 0)
/-- a state is added -/
def wm_as (z : wm_pst) (v : Nat) : Nat × wm_pst := if z.1.2.1 < 24 then (0, ((z.1.1, z.1.2.1 + 1, z.1.2.2), wm_lk (va_up z.2.1 z.1.2.1 0) z.1.2.1 (z.2.2.2.2 z.1.1 1).2.2 (z.2.2.2.2 z.1.1 2).2.1, va_up z.2.2.1 z.1.2.1 v, va_up z.2.2.2.1 z.1.1 true, wm_pt z.2.2.2.2 z.1.1 (z.2.2.2.2 z.1.1 0) (wm_jp (z.2.2.2.2 z.1.1 1) (z.2.2.2.2 z.1.1 2)) (false, 1 <<< z.1.2.1, 1 <<< z.1.2.1))) else (2, z)
/-- the part at level o ends -/
def wm_ep (z : wm_pst) (o : Nat) : wm_pst := (z.1, wm_lk z.2.1 z.1.2.1 (z.2.2.2.2 o 1).2.2 (z.2.2.2.2 o 2).2.1, z.2.2.1, va_up z.2.2.2.1 o false, wm_pt z.2.2.2.2 o (wm_ap (z.2.2.2.2 o 0) (wm_jp (z.2.2.2.2 o 1) (z.2.2.2.2 o 2))) wm_e1 wm_e1)
def wm_to (z : wm_pst) (x : Nat) : Nat × wm_pst :=
  if wm_lo x ≠ 4294967295 then wm_as z (1 <<< wm_lo x)
  else if x = 46 then wm_as z 255
  else if x = 91 then wm_as ((z.1.1, z.1.2.1, 1, false, z.1.2.2.2.2), z.2) 0
  else if x = 40 then (if z.1.1 < 20 then (0, ((z.1.1 + 1, z.1.2), z.2.1, z.2.2.1, va_up z.2.2.2.1 (z.1.1 + 1) false, wm_pt z.2.2.2.2 (z.1.1 + 1) (false, 0, 0) wm_e1 wm_e1)) else (3, z))
  else if x = 41 then (if 0 < z.1.1 then (0, ((z.1.1 - 1, z.1.2), wm_lk (wm_lk z.2.1 z.1.2.1 (z.2.2.2.2 z.1.1 1).2.2 (z.2.2.2.2 z.1.1 2).2.1) z.1.2.1 (z.2.2.2.2 (z.1.1 - 1) 1).2.2 (z.2.2.2.2 (z.1.1 - 1) 2).2.1, z.2.2.1, va_up (va_up z.2.2.2.1 z.1.1 false) (z.1.1 - 1) true, wm_pt (wm_pt z.2.2.2.2 z.1.1 (wm_ap (z.2.2.2.2 z.1.1 0) (wm_jp (z.2.2.2.2 z.1.1 1) (z.2.2.2.2 z.1.1 2))) wm_e1 wm_e1) (z.1.1 - 1) (z.2.2.2.2 (z.1.1 - 1) 0) (wm_jp (z.2.2.2.2 (z.1.1 - 1) 1) (z.2.2.2.2 (z.1.1 - 1) 2)) (wm_ap (z.2.2.2.2 z.1.1 0) (wm_jp (z.2.2.2.2 z.1.1 1) (z.2.2.2.2 z.1.1 2))))) else (1, z))
  else if x = 124 then (0, wm_ep z z.1.1)
  else if x = 42 ∨ x = 43 ∨ x = 63 then (if z.2.2.2.1 z.1.1 then 0 else 1, (z.1, (if z.2.2.2.1 z.1.1 && !decide (x = 63) then wm_lk z.2.1 z.1.2.1 (z.2.2.2.2 z.1.1 2).2.2 (z.2.2.2.2 z.1.1 2).2.1 else z.2.1), z.2.2.1, va_up z.2.2.2.1 z.1.1 (z.2.2.2.1 z.1.1), wm_pt z.2.2.2.2 z.1.1 (z.2.2.2.2 z.1.1 0) (z.2.2.2.2 z.1.1 1) ((z.2.2.2.2 z.1.1 2).1 || (z.2.2.2.1 z.1.1 && !decide (x = 43)), (z.2.2.2.2 z.1.1 2).2)))
  else (1, z)
