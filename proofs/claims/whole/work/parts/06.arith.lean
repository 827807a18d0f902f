/-! arithmetic on natural numbers, a row an instruction -/
theorem wm_s31 : ∀ n, n < 32 → ((nI n &&& 31).toBitVec.smod 32).toNat = n := by decide +kernel
theorem wm_u31 : ∀ n, n < 32 → (((nI n).toUInt32 &&& Int32.toUInt32 31).toBitVec % 32).toNat = n := by decide +kernel
theorem wm_nand (a b : Nat) : nI a &&& nI b = nI (a &&& b) := by
  apply Int32.toBitVec_inj.1
  show BitVec.ofNat 32 a &&& BitVec.ofNat 32 b = BitVec.ofNat 32 (a &&& b)
  apply BitVec.eq_of_getLsbD_eq
  intro i hi
  simp [hi]
theorem wm_nor (a b : Nat) : nI a ||| nI b = nI (a ||| b) := by
  apply Int32.toBitVec_inj.1
  show BitVec.ofNat 32 a ||| BitVec.ofNat 32 b = BitVec.ofNat 32 (a ||| b)
  apply BitVec.eq_of_getLsbD_eq
  intro i hi
  simp [hi]
theorem wm_nxor (a b : Nat) : nI a ^^^ nI b = nI (a ^^^ b) := by
  apply Int32.toBitVec_inj.1
  show BitVec.ofNat 32 a ^^^ BitVec.ofNat 32 b = BitVec.ofNat 32 (a ^^^ b)
  apply BitVec.eq_of_getLsbD_eq
  intro i hi
  simp [hi]
theorem wm_ntn (n : Nat) : (nI n).toBitVec.toNat = n % 2 ^ 32 := by
  show (BitVec.ofNat 32 n).toNat = _
  rw [BitVec.toNat_ofNat]
theorem wm_nshl (x : Nat) {k : Nat} (hk : k < 32) : nI x <<< (nI k &&& 31) = nI (x <<< k) := by
  apply Int32.toBitVec_inj.mp
  apply BitVec.eq_of_toNat_eq
  rw [pk_shl _ _ k (wm_s31 k hk), wm_ntn, wm_ntn, Nat.shiftLeft_eq, Nat.mod_mul_mod]
theorem wm_nshr {x k : Nat} (hx : x < 2 ^ 31) (hk : k < 32) : nI x >>> (nI k &&& 31) = nI (x >>> k) := by
  rw [pk_shrN hx _ k (wm_s31 k hk), Nat.shiftRight_eq_div_pow]
theorem wm_nushr {x k : Nat} (hx : x < 2 ^ 32) (hk : k < 32) : ((nI x).toUInt32 >>> ((nI k).toUInt32 &&& Int32.toUInt32 31)).toInt32 = nI (x >>> k) := by
  rw [pk_ushrN hx (nI k) k (wm_u31 k hk), Nat.shiftRight_eq_div_pow]
theorem wm_m1 : (-1 : Int32) = nI 4294967295 := by decide
theorem wm_eqN {a b : Nat} (ha : a < 2 ^ 32) (hb : b < 2 ^ 32) : nI a = nI b ↔ a = b := by
  refine ⟨fun h => ?_, fun h => by rw [h]⟩
  have h9 := congrArg (fun z : Int32 => z.toBitVec.toNat) h
  simp only [wm_ntn] at h9
  rw [Nat.mod_eq_of_lt ha, Nat.mod_eq_of_lt hb] at h9
  exact h9
section WMA
variable {p : Program} {l : Launch} {e : Env} {R : Room} {s : State} {m : MethodId} {args : Array Value} {below : List Frame} {meth : Method} {c : Code} {H : Heap} {locs : List Loc} {cells slots : Nat} {Q : State → Prop}
variable {cc : ByteArray} {pc nL : Nat} {ls : Array Slot} {rest : List Value} {D : va_G} {C : Nat → ClassId} {b n : Nat} {E : Nat → va_E} {own : String}
theorem wm_iadd (X : wm_cx p s m args meth c cc nL own D C b) {x y : Nat} (hdg : decode cc pc = .ok (.iadd, 1)) (k : W p l e R s m args below meth c H locs cells slots Q (F0 m (pc + 1) ls (.int (nI (x + y)) :: rest))) : W p l e R s m args below meth c H locs cells slots Q (F0 m pc ls (.int (nI y) :: .int (nI x) :: rest)) := lv_iadd X.1 X.2.1 hdg (by rw [nI_add]; exact k)
theorem wm_isub (X : wm_cx p s m args meth c cc nL own D C b) {x y : Nat} (h : y ≤ x) (hdg : decode cc pc = .ok (.isub, 1)) (k : W p l e R s m args below meth c H locs cells slots Q (F0 m (pc + 1) ls (.int (nI (x - y)) :: rest))) : W p l e R s m args below meth c H locs cells slots Q (F0 m pc ls (.int (nI y) :: .int (nI x) :: rest)) := lv_isub X.1 X.2.1 hdg (by rw [pk_sub h]; exact k)
theorem wm_imul (X : wm_cx p s m args meth c cc nL own D C b) {x y : Nat} (hdg : decode cc pc = .ok (.imul, 1)) (k : W p l e R s m args below meth c H locs cells slots Q (F0 m (pc + 1) ls (.int (nI (x * y)) :: rest))) : W p l e R s m args below meth c H locs cells slots Q (F0 m pc ls (.int (nI y) :: .int (nI x) :: rest)) := lv_imul X.1 X.2.1 hdg (by rw [pk_mul]; exact k)
theorem wm_iand (X : wm_cx p s m args meth c cc nL own D C b) {x y : Nat} (hdg : decode cc pc = .ok (.iand, 1)) (k : W p l e R s m args below meth c H locs cells slots Q (F0 m (pc + 1) ls (.int (nI (x &&& y)) :: rest))) : W p l e R s m args below meth c H locs cells slots Q (F0 m pc ls (.int (nI y) :: .int (nI x) :: rest)) := lv_iand X.1 X.2.1 hdg (by rw [wm_nand]; exact k)
theorem wm_ior (X : wm_cx p s m args meth c cc nL own D C b) {x y : Nat} (hdg : decode cc pc = .ok (.ior, 1)) (k : W p l e R s m args below meth c H locs cells slots Q (F0 m (pc + 1) ls (.int (nI (x ||| y)) :: rest))) : W p l e R s m args below meth c H locs cells slots Q (F0 m pc ls (.int (nI y) :: .int (nI x) :: rest)) := lv_ior X.1 X.2.1 hdg (by rw [wm_nor]; exact k)
theorem wm_ixor (X : wm_cx p s m args meth c cc nL own D C b) {x y : Nat} (hdg : decode cc pc = .ok (.ixor, 1)) (k : W p l e R s m args below meth c H locs cells slots Q (F0 m (pc + 1) ls (.int (nI (x ^^^ y)) :: rest))) : W p l e R s m args below meth c H locs cells slots Q (F0 m pc ls (.int (nI y) :: .int (nI x) :: rest)) := lv_ixor X.1 X.2.1 hdg (by rw [wm_nxor]; exact k)
theorem wm_ishl (X : wm_cx p s m args meth c cc nL own D C b) {x y : Nat} (hy : y < 32) (hdg : decode cc pc = .ok (.ishl, 1)) (k : W p l e R s m args below meth c H locs cells slots Q (F0 m (pc + 1) ls (.int (nI (x <<< y)) :: rest))) : W p l e R s m args below meth c H locs cells slots Q (F0 m pc ls (.int (nI y) :: .int (nI x) :: rest)) := lv_ishl X.1 X.2.1 hdg (by rw [wm_nshl x hy]; exact k)
theorem wm_ishr (X : wm_cx p s m args meth c cc nL own D C b) {x y : Nat} (hx : x < 2 ^ 31) (hy : y < 32) (hdg : decode cc pc = .ok (.ishr, 1)) (k : W p l e R s m args below meth c H locs cells slots Q (F0 m (pc + 1) ls (.int (nI (x >>> y)) :: rest))) : W p l e R s m args below meth c H locs cells slots Q (F0 m pc ls (.int (nI y) :: .int (nI x) :: rest)) := lv_ishr X.1 X.2.1 hdg (by rw [wm_nshr hx hy]; exact k)
theorem wm_iushr (X : wm_cx p s m args meth c cc nL own D C b) {x y : Nat} (hx : x < 2 ^ 32) (hy : y < 32) (hdg : decode cc pc = .ok (.iushr, 1)) (k : W p l e R s m args below meth c H locs cells slots Q (F0 m (pc + 1) ls (.int (nI (x >>> y)) :: rest))) : W p l e R s m args below meth c H locs cells slots Q (F0 m pc ls (.int (nI y) :: .int (nI x) :: rest)) := lv_iushr X.1 X.2.1 hdg (wm_nushr hx hy) k
theorem wm_icmp_lt (X : wm_cx p s m args meth c cc nL own D C b) {x y tgt : Nat} {off : Int} (hx : x < 2 ^ 31) (hy : y < 2 ^ 31) (hdg : decode cc pc = .ok (.if_icmp .lt off, 3)) (ht : (pc : Int) + off = (tgt : Int)) (kt : x < y → W p l e R s m args below meth c H locs cells slots Q (F0 m tgt ls rest)) (kf : y ≤ x → W p l e R s m args below meth c H locs cells slots Q (F0 m (pc + 3) ls rest)) : W p l e R s m args below meth c H locs cells slots Q (F0 m pc ls (.int (nI y) :: .int (nI x) :: rest)) := lv_icmp_lt X.1 X.2.1 hdg ht (fun h => kt ((nI_ltI hx hy).mp h)) (fun h => kf (Nat.not_lt.mp fun q => h ((nI_ltI hx hy).mpr q)))
theorem wm_icmp_ge (X : wm_cx p s m args meth c cc nL own D C b) {x y tgt : Nat} {off : Int} (hx : x < 2 ^ 31) (hy : y < 2 ^ 31) (hdg : decode cc pc = .ok (.if_icmp .ge off, 3)) (ht : (pc : Int) + off = (tgt : Int)) (kt : y ≤ x → W p l e R s m args below meth c H locs cells slots Q (F0 m tgt ls rest)) (kf : x < y → W p l e R s m args below meth c H locs cells slots Q (F0 m (pc + 3) ls rest)) : W p l e R s m args below meth c H locs cells slots Q (F0 m pc ls (.int (nI y) :: .int (nI x) :: rest)) := lv_icmp_ge X.1 X.2.1 hdg ht (fun h => kt ((nI_leI hy hx).mp h)) (fun h => kf (Nat.not_le.mp fun q => h ((nI_leI hy hx).mpr q)))
theorem wm_icmp_gt (X : wm_cx p s m args meth c cc nL own D C b) {x y tgt : Nat} {off : Int} (hx : x < 2 ^ 31) (hy : y < 2 ^ 31) (hdg : decode cc pc = .ok (.if_icmp .gt off, 3)) (ht : (pc : Int) + off = (tgt : Int)) (kt : y < x → W p l e R s m args below meth c H locs cells slots Q (F0 m tgt ls rest)) (kf : x ≤ y → W p l e R s m args below meth c H locs cells slots Q (F0 m (pc + 3) ls rest)) : W p l e R s m args below meth c H locs cells slots Q (F0 m pc ls (.int (nI y) :: .int (nI x) :: rest)) := lv_icmp_gt X.1 X.2.1 hdg ht (fun h => kt ((nI_ltI hy hx).mp h)) (fun h => kf (Nat.not_lt.mp fun q => h ((nI_ltI hy hx).mpr q)))
theorem wm_icmp_le (X : wm_cx p s m args meth c cc nL own D C b) {x y tgt : Nat} {off : Int} (hx : x < 2 ^ 31) (hy : y < 2 ^ 31) (hdg : decode cc pc = .ok (.if_icmp .le off, 3)) (ht : (pc : Int) + off = (tgt : Int)) (kt : x ≤ y → W p l e R s m args below meth c H locs cells slots Q (F0 m tgt ls rest)) (kf : y < x → W p l e R s m args below meth c H locs cells slots Q (F0 m (pc + 3) ls rest)) : W p l e R s m args below meth c H locs cells slots Q (F0 m pc ls (.int (nI y) :: .int (nI x) :: rest)) := lv_icmp_le X.1 X.2.1 hdg ht (fun h => kt ((nI_leI hx hy).mp h)) (fun h => kf (Nat.not_le.mp fun q => h ((nI_leI hx hy).mpr q)))
theorem wm_icmp_eq (X : wm_cx p s m args meth c cc nL own D C b) {x y tgt : Nat} {off : Int} (hx : x < 2 ^ 32) (hy : y < 2 ^ 32) (hdg : decode cc pc = .ok (.if_icmp .eq off, 3)) (ht : (pc : Int) + off = (tgt : Int)) (kt : x = y → W p l e R s m args below meth c H locs cells slots Q (F0 m tgt ls rest)) (kf : x ≠ y → W p l e R s m args below meth c H locs cells slots Q (F0 m (pc + 3) ls rest)) : W p l e R s m args below meth c H locs cells slots Q (F0 m pc ls (.int (nI y) :: .int (nI x) :: rest)) := lv_icmp_eq X.1 X.2.1 hdg ht (fun h => kt ((wm_eqN hx hy).mp h)) (fun h => kf (fun q => h ((wm_eqN hx hy).mpr q)))
theorem wm_icmp_ne (X : wm_cx p s m args meth c cc nL own D C b) {x y tgt : Nat} {off : Int} (hx : x < 2 ^ 32) (hy : y < 2 ^ 32) (hdg : decode cc pc = .ok (.if_icmp .ne off, 3)) (ht : (pc : Int) + off = (tgt : Int)) (kt : x ≠ y → W p l e R s m args below meth c H locs cells slots Q (F0 m tgt ls rest)) (kf : x = y → W p l e R s m args below meth c H locs cells slots Q (F0 m (pc + 3) ls rest)) : W p l e R s m args below meth c H locs cells slots Q (F0 m pc ls (.int (nI y) :: .int (nI x) :: rest)) := lv_icmp_ne X.1 X.2.1 hdg ht (fun h => kt (fun q => h ((wm_eqN hx hy).mpr q))) (fun h => kf ((wm_eqN hx hy).mp h))
theorem wm_if_eq (X : wm_cx p s m args meth c cc nL own D C b) {x tgt : Nat} {off : Int} (hx : x < 2 ^ 32) (hdg : decode cc pc = .ok (.ifCond .eq off, 3)) (ht : (pc : Int) + off = (tgt : Int)) (kt : x = 0 → W p l e R s m args below meth c H locs cells slots Q (F0 m tgt ls rest)) (kf : x ≠ 0 → W p l e R s m args below meth c H locs cells slots Q (F0 m (pc + 3) ls rest)) : W p l e R s m args below meth c H locs cells slots Q (F0 m pc ls (.int (nI x) :: rest)) := lv_if_eq X.1 X.2.1 hdg ht (fun h => kt ((wm_eqN (b := 0) hx (by decide)).mp h)) (fun h => kf (fun q => h ((wm_eqN (b := 0) hx (by decide)).mpr q)))
theorem wm_if_ne (X : wm_cx p s m args meth c cc nL own D C b) {x tgt : Nat} {off : Int} (hx : x < 2 ^ 32) (hdg : decode cc pc = .ok (.ifCond .ne off, 3)) (ht : (pc : Int) + off = (tgt : Int)) (kt : x ≠ 0 → W p l e R s m args below meth c H locs cells slots Q (F0 m tgt ls rest)) (kf : x = 0 → W p l e R s m args below meth c H locs cells slots Q (F0 m (pc + 3) ls rest)) : W p l e R s m args below meth c H locs cells slots Q (F0 m pc ls (.int (nI x) :: rest)) := lv_if_ne X.1 X.2.1 hdg ht (fun h => kt (fun q => h ((wm_eqN (b := 0) hx (by decide)).mpr q))) (fun h => kf ((wm_eqN (b := 0) hx (by decide)).mp h))
theorem wm_if_gt (X : wm_cx p s m args meth c cc nL own D C b) {x tgt : Nat} {off : Int} (hx : x < 2 ^ 31) (hdg : decode cc pc = .ok (.ifCond .gt off, 3)) (ht : (pc : Int) + off = (tgt : Int)) (kt : 0 < x → W p l e R s m args below meth c H locs cells slots Q (F0 m tgt ls rest)) (kf : x = 0 → W p l e R s m args below meth c H locs cells slots Q (F0 m (pc + 3) ls rest)) : W p l e R s m args below meth c H locs cells slots Q (F0 m pc ls (.int (nI x) :: rest)) := lv_if_gt X.1 X.2.1 hdg ht (fun h => kt ((nI_ltI (a := 0) (by decide) hx).mp h)) (fun h => kf (Nat.eq_zero_of_not_pos fun q => h ((nI_ltI (a := 0) (by decide) hx).mpr q)))
theorem wm_if_le (X : wm_cx p s m args meth c cc nL own D C b) {x tgt : Nat} {off : Int} (hx : x < 2 ^ 31) (hdg : decode cc pc = .ok (.ifCond .le off, 3)) (ht : (pc : Int) + off = (tgt : Int)) (kt : x = 0 → W p l e R s m args below meth c H locs cells slots Q (F0 m tgt ls rest)) (kf : 0 < x → W p l e R s m args below meth c H locs cells slots Q (F0 m (pc + 3) ls rest)) : W p l e R s m args below meth c H locs cells slots Q (F0 m pc ls (.int (nI x) :: rest)) := lv_if_le X.1 X.2.1 hdg ht (fun h => kt (Nat.le_zero.mp ((nI_leI (b := 0) hx (by decide)).mp h))) (fun h => kf (Nat.pos_of_ne_zero fun q => h (by rw [q]; exact (nI_leI (b := 0) (by decide) (by decide)).mpr (Nat.le_refl 0))))
theorem wm_if_lt (X : wm_cx p s m args meth c cc nL own D C b) {x tgt : Nat} {off : Int} (hx : x < 2 ^ 31) (hdg : decode cc pc = .ok (.ifCond .lt off, 3)) (ht : (pc : Int) + off = (tgt : Int)) (kf : W p l e R s m args below meth c H locs cells slots Q (F0 m (pc + 3) ls rest)) : W p l e R s m args below meth c H locs cells slots Q (F0 m pc ls (.int (nI x) :: rest)) := lv_if_lt X.1 X.2.1 hdg ht (fun h => absurd h (nI_pos hx)) (fun _ => kf)
theorem wm_if_ge (X : wm_cx p s m args meth c cc nL own D C b) {x tgt : Nat} {off : Int} (hx : x < 2 ^ 31) (hdg : decode cc pc = .ok (.ifCond .ge off, 3)) (ht : (pc : Int) + off = (tgt : Int)) (kt : W p l e R s m args below meth c H locs cells slots Q (F0 m tgt ls rest)) : W p l e R s m args below meth c H locs cells slots Q (F0 m pc ls (.int (nI x) :: rest)) := lv_if_ge X.1 X.2.1 hdg ht (fun _ => kt) (fun h => absurd (nI_pos' hx) h)
theorem wm_ifz_eq (X : wm_cx p s m args meth c cc nL own D C b) {x : Bool} {tgt : Nat} {off : Int} (hdg : decode cc pc = .ok (.ifCond .eq off, 3)) (ht : (pc : Int) + off = (tgt : Int)) (kt : x = false → W p l e R s m args below meth c H locs cells slots Q (F0 m tgt ls rest)) (kf : x = true → W p l e R s m args below meth c H locs cells slots Q (F0 m (pc + 3) ls rest)) : W p l e R s m args below meth c H locs cells slots Q (F0 m pc ls (.int (nI x.toNat) :: rest)) := by
  cases x
  · exact lv_if_eq X.1 X.2.1 hdg ht (fun _ => kt rfl) (fun h => absurd (by decide) h)
  · exact lv_if_eq X.1 X.2.1 hdg ht (fun h => absurd h (by decide)) (fun _ => kf rfl)
theorem wm_ifz_ne (X : wm_cx p s m args meth c cc nL own D C b) {x : Bool} {tgt : Nat} {off : Int} (hdg : decode cc pc = .ok (.ifCond .ne off, 3)) (ht : (pc : Int) + off = (tgt : Int)) (kt : x = true → W p l e R s m args below meth c H locs cells slots Q (F0 m tgt ls rest)) (kf : x = false → W p l e R s m args below meth c H locs cells slots Q (F0 m (pc + 3) ls rest)) : W p l e R s m args below meth c H locs cells slots Q (F0 m pc ls (.int (nI x.toNat) :: rest)) := by
  cases x
  · exact lv_if_ne X.1 X.2.1 hdg ht (fun h => absurd (by decide) h) (fun _ => kf rfl)
  · exact lv_if_ne X.1 X.2.1 hdg ht (fun _ => kt rfl) (fun h => absurd h (by decide))
/-! ends -/
theorem wm_iret {post : Int32 → (Nat → va_E) → Prop} {v : Int32} (X : wm_cx p s m args meth c cc nL own D C b) (hr : meth.sig.returnType = some .int) (hP : wm_P D b n E H) (hS : wm_S b s.heap H locs) (hp : post v E) (hQ : Q = MQ below (va_Qi post (fun E' t => wm_P D b n E' t.heap) (wm_A b)) args s cells slots (wm_A b)) (hdg : decode cc pc = .ok (.ireturn, 1)) : W p l e R s m args below meth c H locs cells slots Q (F0 m pc ls [.int v]) := by
  subst hQ
  exact W.iret X.1 X.2.1 hr (fun t ht _ => ⟨⟨v, E, rfl, hp, by show wm_P D b n E t.heap; rw [ht]; exact hP⟩, hS.F ht⟩) hS.2.2 hdg X.2.2.2.2.2.2.2.2
theorem wm_zret {post : Int32 → (Nat → va_E) → Prop} {v : Bool} (X : wm_cx p s m args meth c cc nL own D C b) (hr : meth.sig.returnType = some .boolean) (hP : wm_P D b n E H) (hS : wm_S b s.heap H locs) (hp : post (nI v.toNat) E) (hQ : Q = MQ below (va_Qi post (fun E' t => wm_P D b n E' t.heap) (wm_A b)) args s cells slots (wm_A b)) (hdg : decode cc pc = .ok (.ireturn, 1)) : W p l e R s m args below meth c H locs cells slots Q (F0 m pc ls [.int (nI v.toNat)]) := by
  subst hQ
  exact W.zret X.1 X.2.1 hr (by cases v <;> rfl) (fun t ht _ => ⟨⟨_, E, rfl, hp, by show wm_P D b n E t.heap; rw [ht]; exact hP⟩, hS.F ht⟩) hS.2.2 hdg X.2.2.2.2.2.2.2.2
theorem wm_lret {post : Int64 → (Nat → va_E) → Prop} {v : Int64} (X : wm_cx p s m args meth c cc nL own D C b) (hr : meth.sig.returnType = some .long) (hP : wm_P D b n E H) (hS : wm_S b s.heap H locs) (hp : post v E) (hQ : Q = MQ below (va_Ql post (fun E' t => wm_P D b n E' t.heap) (wm_A b)) args s cells slots (wm_A b)) (hdg : decode cc pc = .ok (.lreturn, 1)) : W p l e R s m args below meth c H locs cells slots Q (F0 m pc ls [.long v]) := by
  subst hQ
  exact W.lret X.1 X.2.1 hr (fun t ht _ => ⟨⟨v, E, rfl, hp, by show wm_P D b n E t.heap; rw [ht]; exact hP⟩, hS.F ht⟩) hS.2.2 hdg X.2.2.2.2.2.2.2.2
theorem wm_vret {post : (Nat → va_E) → Prop} (X : wm_cx p s m args meth c cc nL own D C b) (hr : meth.sig.returnType = none) (hP : wm_P D b n E H) (hS : wm_S b s.heap H locs) (hp : post E) (hQ : Q = MQ below (va_Qv post (fun E' t => wm_P D b n E' t.heap) (wm_A b)) args s cells slots (wm_A b)) (hdg : decode cc pc = .ok (.return_, 1)) : W p l e R s m args below meth c H locs cells slots Q (F0 m pc ls []) := by
  subst hQ
  exact W.vret X.1 X.2.1 hr (fun t ht _ => ⟨⟨E, rfl, hp, by show wm_P D b n E t.heap; rw [ht]; exact hP⟩, hS.F ht⟩) hS.2.2 hdg X.2.2.2.2.2.2.2.2
end WMA
/-- a method's contract out of the walk of its body -/
theorem wm_ofW {l : Launch} {y : MethodName} {cc : ByteArray} {nL : Nat} {ret : Option FieldType} {rm : Room} {D : va_G} {C : Nat → ClassId} {b n : Nat} {E : Nat → va_E} {av : List Value} {Qc : Array Value → State → Outcome → State → Prop} {mc ms : Nat} {free : Addr → Prop}
    (hy : plainName y.cls = true) (hlen : (lg_sl av).length ≤ nL)
    (body : ∀ (p : Program) (e : Env) (s : State) (m : MethodId) (below : List Frame) (meth : Method) (c : Code) (ls : Array Slot) (R : Room) (args : Array Value) (Q : State → Prop), R = rm → Q = MQ below Qc args s mc ms free → wm_cx p s m args meth c cc nL y.cls D C b → meth.sig.returnType = ret → meth.name = y.name → wm_P D b n E s.heap → wm_S b s.heap s.heap [] → lv_has ls nL (lv_args 0 av) →
      W p l e R s m args below meth c s.heap [] 0 0 Q (F0 m 0 ls [])) : Met l y (wm_ws y cc nL ret) rm (va_Pc av (wm_G D C b n E)) Qc mc ms free := by
  refine Met.ofW (cc := cc) (maxL := nL) (ret := ret) hy rfl ?_
  intro p e s m args below meth c s₁ B hml hv
  obtain ⟨rfl, hP, hK, hN, hbs⟩ := hv
  have hts := atoms_spec (ws := wm_ws y cc nL ret) B.pre
  rw [lg_entry_eq]
  exact body p e s m below meth c _ _ _ _ rfl rfl ⟨B.exec, B.bytes, hml, findClass_of_methodNamed B.named, fun w h => hts w (List.mem_cons_of_mem _ h), hK, hN, hbs, B.notSynchronized⟩ B.returns (name_of_methodNamed B.named B.method).1 hP va_S.rf (lv_entry av hlen)
theorem wm_inc (i : Nat) : nI i + Int32.ofInt 1 = nI (i + 1) := nI_1 i
