/-! THE LAW: its loop's state, and what its instructions ask beyond the rest -/
abbrev wm_lvs (a b i : Nat) : List (Nat × Value) := [(4, .int (nI i)), (0, .ref a), (1, .ref (b + 0)), (2, .ref (b + 119)), (3, .ref (b + 146))]
def wm_st9 (D : va_G) (C : Nat → ClassId) (b : Nat) (s : State) (E : Nat → va_E) (H : Heap) (locs : List Loc) (S : wm_St) (th : Nat) (f : Nat → Int64) : Prop := wm_P D b 147 E H ∧ wm_S b s.heap H locs ∧ wm_CI C b S E ∧ wm_BD S ∧ wm_MI C b S th E ∧ E 146 = wm_JR C 1 f
def wm_env (p : Program) (l : Launch) (R : Room) (s : State) (m : MethodId) (args : Array Value) (meth : Method) (c : Code) (D : va_G) (C : Nat → ClassId) (b a L : Nat) (xs : Nat → Int32) : Prop := l.stackTraces = false ∧ wm_cx p s m args meth c cL_law 8 "WordMachinesLaw" D C b ∧ wm_V (wm_A b) s ∧ va_Nc wm_iae wm_iob s ∧ va_X a L xs s s.heap ∧ a < s.heap.size ∧ a < b ∧ L ≤ 3072 ∧ 20 ≤ R.frames ∧ 500 ≤ R.locals
def wm_next (p : Program) (l : Launch) (e : Env) (R : Room) (s : State) (m : MethodId) (args : Array Value) (below : List Frame) (meth : Method) (c : Code) (Q : State → Prop) (D : va_G) (C : Nat → ClassId) (b a i cells slots : Nat) : Prop := ∀ (E : Nat → va_E) (H : Heap) (locs : List Loc) (ls : Array Slot) (S : wm_St) (th : Nat) (f : Nat → Int64), wm_st9 D C b s E H locs S th f → lv_has ls 8 (wm_lvs a b i) → W p l e R s m args below meth c H locs cells slots Q (F0 m 1296 ls [])
theorem wm_intN (x : Int32) : ∃ j, x = nI j := ⟨x.toUInt32.toNat, by
  have h : nI x.toUInt32.toNat = (UInt32.ofNat x.toUInt32.toNat).toInt32 := rfl
  rw [h, UInt32.ofNat_toNat]
  rfl⟩
theorem wm_longN (x : Int64) : ∃ v, v < 2 ^ 64 ∧ x = lN v := ⟨x.toUInt64.toNat, x.toUInt64.toNat_lt, by
  have h : lN x.toUInt64.toNat = (UInt64.ofNat x.toUInt64.toNat).toInt64 := rfl
  rw [h, UInt64.ofNat_toNat]
  rfl⟩
theorem wm_cmp0 {x y : Int64} (h : x = y) : lg_cmp x y = 0 := by
  subst h
  unfold lg_cmp
  rw [if_neg (by exact Int64.lt_irrefl), if_pos rfl]
theorem wm_kc0 {k : Nat} (hk : k < 3) (h : nI k = 0) : k = 0 := by
  have : k = 0 ∨ k = 1 ∨ k = 2 := by omega
  rcases this with rfl | rfl | rfl
  · rfl
  · exact absurd h (by decide)
  · exact absurd h (by decide)
section WML2
variable {p : Program} {l : Launch} {e : Env} {R : Room} {s : State} {m : MethodId} {args : Array Value} {below : List Frame} {meth : Method} {c : Code} {H : Heap} {locs : List Loc} {cells slots : Nat} {Q : State → Prop}
variable {cc : ByteArray} {pc nL : Nat} {ls : Array Slot} {rest : List Value} {D : va_G} {C : Nat → ClassId} {b n : Nat} {E : Nat → va_E} {own : String}
theorem wm_sld {a L k : Nat} {xs : Nat → Int32} (X : wm_cx p s m args meth c cc nL own D C b) (hX : va_X a L xs s s.heap) (ha : a < s.heap.size) (hab : a < b) (hS : wm_S b s.heap H locs) (hk : k < L) (hL : L < 2 ^ 31) (hdg : decode cc pc = .ok (.iaload, 1)) (kk : W p l e R s m args below meth c H locs cells slots Q (F0 m (pc + 1) ls (.int (xs k) :: rest))) : W p l e R s m args below meth c H locs cells slots Q (F0 m pc ls (.int (nI k) :: .ref a :: rest)) := by
  refine va_sld X.1 X.2.1 hX ha (fun q => absurd (show b ≤ a from q) (by omega)) hS (vp_in_nI hk hL) hdg ?_
  rw [nI_clamp (Nat.lt_trans hk hL)]
  exact kk
theorem wm_slen {a L : Nat} {xs : Nat → Int32} (X : wm_cx p s m args meth c cc nL own D C b) (hX : va_X a L xs s s.heap) (ha : a < s.heap.size) (hab : a < b) (hS : wm_S b s.heap H locs) (hdg : decode cc pc = .ok (.arraylength, 1)) (kk : W p l e R s m args below meth c H locs cells slots Q (F0 m (pc + 1) ls (.int (nI L) :: rest))) : W p l e R s m args below meth c H locs cells slots Q (F0 m pc ls (.ref a :: rest)) :=
  va_slen X.1 X.2.1 hX ha (fun q => absurd (show b ≤ a from q) (by omega)) hS hdg kk
end WML2
