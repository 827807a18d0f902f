/-! MY WORLD: the cells lie side by side from the address b on; cell k is E k. Numbers are natural numbers (nI, lN). -/
abbrev wm_tys (C : Nat → ClassId) : List (ClassId × FieldType) := [(C 0, .int), (C 1, .long), (C 2, .boolean), (C 3, .byte), (C 4, .object "WordMachines$Machine"), (C 5, .object "WordMachines$Level")]
def wm_l (b n : Nat) (E : Nat → va_E) : va_W := (List.range n).map (fun k => (b + k, E k))
theorem wm_at {b n k : Nat} {E : Nat → va_E} (h : k < n) : (wm_l b n E)[k]? = some (b + k, E k) := by simp [wm_l, h]
theorem wm_at2 {b n k : Nat} {E : Nat → va_E} {e : va_E} (h : k < n) (he : E k = e) : (wm_l b n E)[k]? = some (b + k, e) := by rw [wm_at h, he]
theorem wm_of {b n k : Nat} {E : Nat → va_E} {q : Nat × va_E} (h : (wm_l b n E)[k]? = some q) : k < n ∧ q = (b + k, E k) := by
  by_cases hk : k < n
  · rw [wm_at hk] at h
    exact ⟨hk, (Option.some.inj h).symm⟩
  · simp [wm_l, hk] at h
theorem wm_set {b n k : Nat} {E : Nat → va_E} {e : va_E} (h : k < n) : (wm_l b n E).set k (b + k, e) = wm_l b n (va_up E k e) := by
  apply List.ext_getElem?
  intro j
  by_cases hj : j = k
  · subst hj
    rw [List.getElem?_set_self (by simpa [wm_l] using h), wm_at h, va_up_self]
  · rw [List.getElem?_set_ne (Ne.symm hj)]
    by_cases hn : j < n
    · rw [wm_at hn, wm_at hn, va_up_ne _ _ hj]
    · simp [wm_l, hn]
theorem wm_D {b n : Nat} {E : Nat → va_E} : va_D (fun q => b ≤ q) (wm_l b n E) := by
  refine ⟨fun i j p q hi hj hpq => ?_, fun k q hk => ?_⟩
  · obtain ⟨-, rfl⟩ := wm_of hi
    obtain ⟨-, rfl⟩ := wm_of hj
    have h9 : b + i = b + j := hpq
    omega
  · obtain ⟨-, rfl⟩ := wm_of hk
    exact Nat.le_add_right b k
def wm_P (D : va_G) (b n : Nat) (E : Nat → va_E) (H : Heap) : Prop := va_P D wm_cl (wm_l b n E) H
abbrev wm_A (b : Nat) : Nat → Prop := fun q => b ≤ q
abbrev wm_S (b : Nat) (H0 H : Heap) (locs : List Loc) : Prop := va_S (wm_A b) H0 H locs
/-- links between nest mates -/
def wm_nw : List Cond := [.methodLinkNest "WordMachines" 15 ⟨"WordMachines$Machine", "<init>", "()V"⟩ "WordMachines", .methodLinkNest "WordMachines$ExpressionReader" 31 ⟨"WordMachines$Level", "<init>", "()V"⟩ "WordMachines", .methodLinkNest "WordMachines$Level" 9 ⟨"WordMachines$Piece", "<init>", "()V"⟩ "WordMachines", .methodLinkNest "WordMachines" 37 ⟨"WordMachines$SetWalk", "<init>", "()V"⟩ "WordMachines", .methodLinkNest "WordMachines" 44 ⟨"WordMachines$WordHunt", "<init>", "()V"⟩ "WordMachines", .methodLinkNest "WordMachines$ExpressionReader" 97 ⟨"WordMachines", "letterOf", "(I)I"⟩ "WordMachines", .methodLinkNest "WordMachines$ExpressionReader" 90 ⟨"WordMachines", "hasBit", "(II)Z"⟩ "WordMachines", .methodLinkNest "WordMachines$Machine" 31 ⟨"WordMachines", "hasBit", "(II)Z"⟩ "WordMachines", .methodLinkNest "WordMachines$Machine" 59 ⟨"WordMachines", "withBit", "(IIZ)I"⟩ "WordMachines", .methodLinkNest "WordMachines$SetWalk" 101 ⟨"WordMachines", "hasBit", "(II)Z"⟩ "WordMachines"]
def wm_N (U : State) : Prop := ∀ (a : String) (i : Nat) (x : MethodName) (h : String), Cond.methodLinkNest a i x h ∈ wm_nw → va_Nw (.methodLinkNest a i x h) U
theorem wm_N.warm {s U : State} (hW : s.WarmedH U.vm) (h : wm_N s) : wm_N U := fun a i x g hm => va_Nw.warmM hW (h a i x g hm)
/-- what a method asks of the state in which it is called -/
def wm_G (D : va_G) (C : Nat → ClassId) (b n : Nat) (E : Nat → va_E) (U : State) : Prop := wm_P D b n E U.heap ∧ va_K D wm_cl (wm_tys C) U ∧ wm_N U ∧ b ≤ U.heap.size
theorem wm_blind {D : va_G} {C : Nat → ClassId} {b n : Nat} {E : Nat → va_E} {av : List Value} : FrameBlind (va_Pc av (wm_G D C b n E)) := fun a U g mk q => by
  obtain ⟨q0, q1, q2, q3, q4⟩ := q
  exact ⟨q0, q1, va_K.moved (u := U) (U := U.calling g mk a) (Vm.Alike.refl U.vm) q2, fun a i x h hm => va_Nw.same rfl (u := U) (U := U.calling g mk _) rfl (q3 a i x h hm), q4⟩
/-- a method's words: its code, and the tables' -/
abbrev wm_ws (y : MethodName) (cc : ByteArray) (nL : Nat) (ret : Option FieldType) : List Cond := .code y cc nL ret :: wm_tbl
theorem wm_good {w : Cond} (h : w ∈ wm_tbl) : (w.onTables && w.keeps) = true ∨ ∃ ty, w = .arrayClass ty := good_of_word (List.mem_filter.mp h).2
theorem wm_gI {y : MethodName} {cc : ByteArray} {nL : Nat} {ret : Option FieldType} (h : Cond.code y cc nL ret ∈ wm_tbl) : GoodIn wm_tbl (wm_ws y cc nL ret) := fun w hw => by
  rcases List.mem_cons.mp hw with rfl | hw
  · exact ⟨h, wm_good h⟩
  · exact ⟨hw, wm_good hw⟩
theorem wm_gV {own Cl : String} {index : Nat} {y : MethodName} {cc : ByteArray} {nL : Nat} {ret : Option FieldType} (h1 : Cond.methodLink own index y ∈ wm_tbl) (h2 : Cond.instanceMethod y ∈ wm_tbl) (h3 : Cond.selects Cl y y ∈ wm_tbl) (h4 : Cond.initialized Cl ∈ wm_tbl) (h5 : Cond.code y cc nL ret ∈ wm_tbl) : GoodIn wm_tbl (wsV own index Cl y (wm_ws y cc nL ret)) := fun w hw => by
  unfold wsV at hw
  rcases List.mem_append.mp hw with hw | hw
  · simp only [List.mem_cons, List.not_mem_nil, or_false] at hw
    rcases hw with rfl | rfl | rfl | rfl
    · exact ⟨h1, wm_good h1⟩
    · exact ⟨h2, wm_good h2⟩
    · exact ⟨h3, wm_good h3⟩
    · exact ⟨h4, wm_good h4⟩
  · exact wm_gI h5 w hw
theorem wm_gS {own : String} {index : Nat} {y : MethodName} {cc : ByteArray} {nL : Nat} {ret : Option FieldType} (h1 : Cond.methodLink own index y ∈ wm_tbl) (h2 : Cond.static y ∈ wm_tbl) (h4 : Cond.initialized y.cls ∈ wm_tbl) (h5 : Cond.code y cc nL ret ∈ wm_tbl) : GoodIn wm_tbl (va_wsS own index y (wm_ws y cc nL ret)) := fun w hw => by
  unfold va_wsS at hw
  rcases List.mem_append.mp hw with hw | hw
  · simp only [List.mem_cons, List.not_mem_nil, or_false] at hw
    rcases hw with rfl | rfl | rfl
    · exact ⟨h1, wm_good h1⟩
    · exact ⟨h2, wm_good h2⟩
    · exact ⟨h4, wm_good h4⟩
  · exact wm_gI h5 w hw
/-- where a method's body stands: the machine, its code, its class, the tables' words -/
def wm_cx (p : Program) (s : State) (m : MethodId) (args : Array Value) (meth : Method) (c : Code) (cc : ByteArray) (nL : Nat) (own : String) (D : va_G) (C : Nat → ClassId) (b : Nat) : Prop :=
  p.tables.exec = Jvm.exec ∧ c.code = cc ∧ c.maxLocals = nL ∧ s.vm.findClass own = some m.cls ∧ (∀ w ∈ wm_tbl, w.before args s = true) ∧ va_K D wm_cl (wm_tys C) s ∧ wm_N s ∧ b ≤ s.heap.size ∧ meth.locks = false
/-- arrays -/
abbrev wm_I (C : Nat → ClassId) (n : Nat) (f : Nat → Nat) : va_E := .inl (C 0, n, .inl (fun j => nI (f j)))
abbrev wm_J (C : Nat → ClassId) (n : Nat) (f : Nat → Nat) : va_E := .inl (C 1, n, .inr (.inl (fun j => lN (f j))))
abbrev wm_Z (C : Nat → ClassId) (n : Nat) (f : Nat → Bool) : va_E := .inl (C 2, n, .inl (fun j => nI (f j).toNat))
abbrev wm_B (C : Nat → ClassId) (n : Nat) (f : Nat → Int32) : va_E := .inl (C 3, n, .inl f)
abbrev wm_Q (C : Nat → ClassId) (k n : Nat) (f : Nat → Option Nat) : va_E := .inl (C k, n, .inr (.inr (.inr (.inr f))))
theorem wm_updI {f : Nat → Nat} {k x : Nat} : upd (fun j => nI (f j)) k (nI x) = fun j => nI (va_up f k x j) := by
  funext j
  by_cases h : j = k <;> simp [upd, va_up, h]
theorem wm_updJ {f : Nat → Nat} {k x : Nat} : vp_updL (fun j => lN (f j)) k (lN x) = fun j => lN (va_up f k x j) := by
  funext j
  by_cases h : j = k <;> simp [vp_updL, va_up, h]
theorem wm_updZ {f : Nat → Bool} {k : Nat} {x : Bool} : upd (fun j => nI (f j).toNat) k (nI x.toNat) = fun j => nI (va_up f k x j).toNat := by
  funext j
  by_cases h : j = k <;> simp [upd, va_up, h]
section WMR
variable {p : Program} {l : Launch} {e : Env} {R : Room} {s : State} {m : MethodId} {args : Array Value} {below : List Frame} {meth : Method} {c : Code} {H : Heap} {locs : List Loc} {cells slots : Nat} {Q : State → Prop}
variable {cc : ByteArray} {pc nL : Nat} {ls : Array Slot} {rest : List Value} {D : va_G} {C : Nat → ClassId} {b n : Nat} {E : Nat → va_E} {H0 : Heap} {own : String}
theorem wm_get (X : wm_cx p s m args meth c cc nL own D C b) (hP : wm_P D b n E H) {t ci : Nat} {fs : List Value} (ht : t < n) (hE : E t = .inr (ci, fs)) {Cl : String} {T : u_T} {N index : Nat} (hc : wm_cl[ci]? = some (Cl, T, N)) (hin : ∀ w ∈ u_ws Cl T N, w ∈ wm_tbl) (k : Nat) (hk : k < N) (hlink : Cond.fieldLink own index (T k).1 (T k).2.1 (T k).2.2.1 ∈ wm_tbl) {v : Value} (hv : fs[k]? = some v) (hdg : decode cc pc = .ok (.getfield index, 3))
    (kk : W p l e R s m args below meth c H locs cells slots Q (F0 m (pc + 3) ls (v :: rest))) : W p l e R s m args below meth c H locs cells slots Q (F0 m pc ls (.ref (b + t) :: rest)) :=
  va_get X.1 X.2.1 X.2.2.2.2.1 hin X.2.2.2.1 X.2.2.2.2.2.1 hP t (wm_at2 ht hE) hc k hk (X.2.2.2.2.1 _ hlink) (fun _ h => h) hv hdg kk
theorem wm_put (X : wm_cx p s m args meth c cc nL own D C b) (hP : wm_P D b n E H) (hS : wm_S b H0 H locs) {t ci : Nat} {fs : List Value} (ht : t < n) (hE : E t = .inr (ci, fs)) {Cl : String} {T : u_T} {N index : Nat} (hc : wm_cl[ci]? = some (Cl, T, N)) (hin : ∀ w ∈ u_ws Cl T N, w ∈ wm_tbl) (ty0 : Nat → FieldType) (hty : ∀ k, k < N → parseFieldDescriptor (T k).2.2.1 = some (ty0 k)) (hnm : ∀ a, a < N → ∀ b, b < N → a ≠ b → (T a).2.1 ≠ (T b).2.1) (k : Nat) (hk : k < N) (hlink : Cond.fieldLink own index (T k).1 (T k).2.1 (T k).2.2.1 ∈ wm_tbl) (hfin : (T k).2.2.2 = false) {v : Value} (hn : narrow (ty0 k) v = v) (hfit : fits (ty0 k) v = true) {fs1 : List Value} (hfs : fs.set k v = fs1) (hl : k < fs.length) (hdg : decode cc pc = .ok (.putfield index, 3))
    (kk : ∀ (H1 : Heap) (locs1 : List Loc) (E1 : Nat → va_E), wm_P D b n E1 H1 → wm_S b H0 H1 locs1 → E1 t = .inr (ci, fs1) → (∀ j, j ≠ t → E1 j = E j) → W p l e R s m args below meth c H1 locs1 cells slots Q (F0 m (pc + 3) ls rest)) : W p l e R s m args below meth c H locs cells slots Q (F0 m pc ls (v :: .ref (b + t) :: rest)) := by
  subst hfs
  refine va_put X.1 X.2.1 X.2.2.2.2.1 hin ty0 hty hnm X.2.2.2.1 X.2.2.2.2.2.1 hP wm_D hS t (wm_at2 ht hE) hc k hk (X.2.2.2.2.1 _ hlink) (fun _ h => h) hfin (hty k hk) hn hfit hl hdg (fun H1 locs1 h1 _ h3 => ?_)
  rw [wm_set ht] at h1
  exact kk H1 locs1 _ h1 h3 (va_up_self _ _ _) (fun j hj => va_up_ne _ _ hj)
theorem wm_iald (X : wm_cx p s m args meth c cc nL own D C b) (hP : wm_P D b n E H) {t N i : Nat} {f : Nat → Nat} (ht : t < n) (hE : E t = wm_I C N f) (hi : i < N) (hN : N < 2 ^ 31) (hdg : decode cc pc = .ok (.iaload, 1))
    (kk : W p l e R s m args below meth c H locs cells slots Q (F0 m (pc + 1) ls (.int (nI (f i)) :: rest))) : W p l e R s m args below meth c H locs cells slots Q (F0 m pc ls (.int (nI i) :: .ref (b + t) :: rest)) := by
  refine va_iald X.1 X.2.1 X.2.2.2.2.2.1 hP t 0 (wm_at2 ht hE) rfl (vp_in_nI hi hN) hdg ?_
  rw [nI_clamp (Nat.lt_trans hi hN)]
  exact kk
theorem wm_iast (X : wm_cx p s m args meth c cc nL own D C b) (hP : wm_P D b n E H) (hS : wm_S b H0 H locs) {t N i x : Nat} {f : Nat → Nat} (ht : t < n) (hE : E t = wm_I C N f) (hi : i < N) (hN : N < 2 ^ 31) (hdg : decode cc pc = .ok (.iastore, 1))
    (kk : ∀ (H1 : Heap) (locs1 : List Loc) (E1 : Nat → va_E), wm_P D b n E1 H1 → wm_S b H0 H1 locs1 → E1 t = wm_I C N (va_up f i x) → (∀ j, j ≠ t → E1 j = E j) → W p l e R s m args below meth c H1 locs1 cells slots Q (F0 m (pc + 1) ls rest)) : W p l e R s m args below meth c H locs cells slots Q (F0 m pc ls (.int (nI x) :: .int (nI i) :: .ref (b + t) :: rest)) := by
  refine va_iast X.1 X.2.1 X.2.2.2.2.2.1 hP wm_D hS t 0 (wm_at2 ht hE) rfl (vp_in_nI hi hN) hdg (fun H1 locs1 h1 _ h3 => ?_)
  rw [nI_clamp (Nat.lt_trans hi hN), wm_updI, wm_set ht] at h1
  exact kk H1 locs1 _ h1 h3 (va_up_self _ _ _) (fun j hj => va_up_ne _ _ hj)
theorem wm_lald (X : wm_cx p s m args meth c cc nL own D C b) (hP : wm_P D b n E H) {t N i : Nat} {f : Nat → Nat} (ht : t < n) (hE : E t = wm_J C N f) (hi : i < N) (hN : N < 2 ^ 31) (hdg : decode cc pc = .ok (.laload, 1))
    (kk : W p l e R s m args below meth c H locs cells slots Q (F0 m (pc + 1) ls (.long (lN (f i)) :: rest))) : W p l e R s m args below meth c H locs cells slots Q (F0 m pc ls (.int (nI i) :: .ref (b + t) :: rest)) := by
  refine va_lald X.1 X.2.1 X.2.2.2.2.2.1 hP t 1 (wm_at2 ht hE) rfl (vp_in_nI hi hN) hdg ?_
  rw [nI_clamp (Nat.lt_trans hi hN)]
  exact kk
theorem wm_last (X : wm_cx p s m args meth c cc nL own D C b) (hP : wm_P D b n E H) (hS : wm_S b H0 H locs) {t N i x : Nat} {f : Nat → Nat} (ht : t < n) (hE : E t = wm_J C N f) (hi : i < N) (hN : N < 2 ^ 31) (hdg : decode cc pc = .ok (.lastore, 1))
    (kk : ∀ (H1 : Heap) (locs1 : List Loc) (E1 : Nat → va_E), wm_P D b n E1 H1 → wm_S b H0 H1 locs1 → E1 t = wm_J C N (va_up f i x) → (∀ j, j ≠ t → E1 j = E j) → W p l e R s m args below meth c H1 locs1 cells slots Q (F0 m (pc + 1) ls rest)) : W p l e R s m args below meth c H locs cells slots Q (F0 m pc ls (.long (lN x) :: .int (nI i) :: .ref (b + t) :: rest)) := by
  refine va_last X.1 X.2.1 X.2.2.2.2.2.1 hP wm_D hS t 1 (wm_at2 ht hE) rfl (vp_in_nI hi hN) hdg (fun H1 locs1 h1 _ h3 => ?_)
  rw [nI_clamp (Nat.lt_trans hi hN), wm_updJ, wm_set ht] at h1
  exact kk H1 locs1 _ h1 h3 (va_up_self _ _ _) (fun j hj => va_up_ne _ _ hj)
theorem wm_zald (X : wm_cx p s m args meth c cc nL own D C b) (hP : wm_P D b n E H) {t N i : Nat} {f : Nat → Bool} (ht : t < n) (hE : E t = wm_Z C N f) (hi : i < N) (hN : N < 2 ^ 31) (hdg : decode cc pc = .ok (.baload, 1))
    (kk : W p l e R s m args below meth c H locs cells slots Q (F0 m (pc + 1) ls (.int (nI (f i).toNat) :: rest))) : W p l e R s m args below meth c H locs cells slots Q (F0 m pc ls (.int (nI i) :: .ref (b + t) :: rest)) := by
  refine va_zald X.1 X.2.1 X.2.2.2.2.2.1 hP t 2 (wm_at2 ht hE) rfl (vp_in_nI hi hN) hdg ?_
  rw [nI_clamp (Nat.lt_trans hi hN)]
  exact kk
theorem wm_narZ (x : Bool) : vp_nar .boolean (nI x.toNat) = nI x.toNat := by cases x <;> decide
theorem wm_zast (X : wm_cx p s m args meth c cc nL own D C b) (hP : wm_P D b n E H) (hS : wm_S b H0 H locs) {t N i : Nat} {x : Bool} {f : Nat → Bool} (ht : t < n) (hE : E t = wm_Z C N f) (hi : i < N) (hN : N < 2 ^ 31) (hdg : decode cc pc = .ok (.bastore, 1))
    (kk : ∀ (H1 : Heap) (locs1 : List Loc) (E1 : Nat → va_E), wm_P D b n E1 H1 → wm_S b H0 H1 locs1 → E1 t = wm_Z C N (va_up f i x) → (∀ j, j ≠ t → E1 j = E j) → W p l e R s m args below meth c H1 locs1 cells slots Q (F0 m (pc + 1) ls rest)) : W p l e R s m args below meth c H locs cells slots Q (F0 m pc ls (.int (nI x.toNat) :: .int (nI i) :: .ref (b + t) :: rest)) := by
  refine va_zast X.1 X.2.1 X.2.2.2.2.2.1 hP wm_D hS t 2 (wm_at2 ht hE) rfl (vp_in_nI hi hN) hdg (fun H1 locs1 h1 _ h3 => ?_)
  rw [nI_clamp (Nat.lt_trans hi hN), wm_narZ, wm_updZ, wm_set ht] at h1
  exact kk H1 locs1 _ h1 h3 (va_up_self _ _ _) (fun j hj => va_up_ne _ _ hj)
theorem wm_bald (X : wm_cx p s m args meth c cc nL own D C b) (hP : wm_P D b n E H) {t N i : Nat} {f : Nat → Int32} (ht : t < n) (hE : E t = wm_B C N f) (hi : i < N) (hN : N < 2 ^ 31) (hdg : decode cc pc = .ok (.baload, 1))
    (kk : W p l e R s m args below meth c H locs cells slots Q (F0 m (pc + 1) ls (.int (f i) :: rest))) : W p l e R s m args below meth c H locs cells slots Q (F0 m pc ls (.int (nI i) :: .ref (b + t) :: rest)) := by
  refine va_bald X.1 X.2.1 X.2.2.2.2.2.1 hP t 3 (wm_at2 ht hE) rfl (vp_in_nI hi hN) hdg ?_
  rw [nI_clamp (Nat.lt_trans hi hN)]
  exact kk
theorem wm_bast (X : wm_cx p s m args meth c cc nL own D C b) (hP : wm_P D b n E H) (hS : wm_S b H0 H locs) {t N i : Nat} {x : Int32} {f : Nat → Int32} (ht : t < n) (hE : E t = wm_B C N f) (hi : i < N) (hN : N < 2 ^ 31) (hdg : decode cc pc = .ok (.bastore, 1))
    (kk : ∀ (H1 : Heap) (locs1 : List Loc) (E1 : Nat → va_E), wm_P D b n E1 H1 → wm_S b H0 H1 locs1 → E1 t = wm_B C N (upd f i (vp_nar .byte x)) → (∀ j, j ≠ t → E1 j = E j) → W p l e R s m args below meth c H1 locs1 cells slots Q (F0 m (pc + 1) ls rest)) : W p l e R s m args below meth c H locs cells slots Q (F0 m pc ls (.int x :: .int (nI i) :: .ref (b + t) :: rest)) := by
  refine va_bast X.1 X.2.1 X.2.2.2.2.2.1 hP wm_D hS t 3 (wm_at2 ht hE) rfl (vp_in_nI hi hN) hdg (fun H1 locs1 h1 _ h3 => ?_)
  rw [nI_clamp (Nat.lt_trans hi hN), wm_set ht] at h1
  exact kk H1 locs1 _ h1 h3 (va_up_self _ _ _) (fun j hj => va_up_ne _ _ hj)
theorem wm_aald (X : wm_cx p s m args meth c cc nL own D C b) (hP : wm_P D b n E H) {t N i k q : Nat} {Cl : String} {f : Nat → Option Nat} (ht : t < n) (hE : E t = wm_Q C k N f) (hk : (wm_tys C)[k]? = some (C k, .object Cl)) (hi : i < N) (hN : N < 2 ^ 31) (hf : f i = some q) (hdg : decode cc pc = .ok (.aaload, 1))
    (kk : W p l e R s m args below meth c H locs cells slots Q (F0 m (pc + 1) ls (.ref q :: rest))) : W p l e R s m args below meth c H locs cells slots Q (F0 m pc ls (.int (nI i) :: .ref (b + t) :: rest)) := by
  refine va_aldq X.1 X.2.1 X.2.2.2.2.2.1 hP t k (wm_at2 ht hE) hk (vp_in_nI hi hN) hdg ?_
  rw [nI_clamp (Nat.lt_trans hi hN), hf]
  exact kk
theorem wm_alen (X : wm_cx p s m args meth c cc nL own D C b) (hP : wm_P D b n E H) {t k N : Nat} {x : vp_A} {ty : FieldType} (ht : t < n) (hE : E t = .inl (C k, x)) (hN : x.1 = N) (hk : (wm_tys C)[k]? = some (C k, ty)) (hdg : decode cc pc = .ok (.arraylength, 1))
    (kk : W p l e R s m args below meth c H locs cells slots Q (F0 m (pc + 1) ls (.int (nI N) :: rest))) : W p l e R s m args below meth c H locs cells slots Q (F0 m pc ls (.ref (b + t) :: rest)) := by
  subst hN
  exact va_alen X.1 X.2.1 X.2.2.2.2.2.1 hP t k (wm_at2 ht hE) hk rfl hdg kk
end WMR
