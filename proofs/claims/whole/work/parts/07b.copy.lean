section WMY
variable {p : Program} {l : Launch} {e : Env} {R : Room} {s : State} {m : MethodId} {args : Array Value} {below : List Frame} {meth : Method} {c : Code} {H : Heap} {locs : List Loc} {cells slots : Nat} {Q : State → Prop}
variable {cc : ByteArray} {pc nL : Nat} {ls : Array Slot} {rest : List Value} {D : va_G} {C : Nat → ClassId} {b n : Nat} {E : Nat → va_E} {own : String}
theorem wm_copy (X : wm_cx p s m args meth c cc nL own D C b) (hP : wm_P D b n E H) (hS : wm_S b s.heap H locs) {t0 t1 N index : Nat} {f g : Nat → Nat} (h0 : t0 < n) (hE0 : E t0 = wm_I C N f) (h1 : t1 < n) (hE1 : E t1 = wm_I C N g) (hN : N < 2 ^ 31) (w1 : Cond.methodLink own index arraycopyName ∈ wm_tbl) (w2 : Cond.native arraycopyName ∈ wm_tbl) (w3 : Cond.static arraycopyName ∈ wm_tbl) (w4 : Cond.initialized "java/lang/System" ∈ wm_tbl)
    (hsz : ls.size = nL) (hframes : 1 ≤ R.frames) (hlocals : (rest.map fun v => v.category).sum + (nativeFrameWords "java/lang/System" "arraycopy" 5 + 11) ≤ R.locals) (hdg : decode cc pc = .ok (.invokestatic index, 3))
    (kk : ∀ (H1 : Heap) (locs1 : List Loc) (E1 : Nat → va_E), wm_P D b n E1 H1 → wm_S b s.heap H1 locs1 → E1 t1 = wm_I C N (va_cpy f g 0 0 N) → (∀ j, j ≠ t1 → E1 j = E j) → W p l e R s m args below meth c H1 locs1 cells slots Q (F0 m (pc + 3) ls rest)) : W p l e R s m args below meth c H locs cells slots Q (F0 m pc ls (.int (nI N) :: .int (nI 0) :: .ref (b + t1) :: .int (nI 0) :: .ref (b + t0) :: rest)) := by
  have hz : (nI 0).toNatClampNeg = 0 := nI_clamp (by decide)
  have hc := nI_clamp hN
  refine va_copyi X.1 X.2.1 (X.2.2.1.trans hsz.symm) X.2.2.2.1 (X.2.2.2.2.1 _ w1) (X.2.2.2.2.1 _ w2) (X.2.2.2.2.1 _ w3) (X.2.2.2.2.1 _ w4) X.2.2.2.2.2.1 hP wm_D hS t0 t1 0 0 (wm_at2 h0 hE0) (wm_at2 h1 hE1) rfl rfl rfl (nI_pos (by decide)) (nI_pos (by decide)) (nI_pos hN) (by rw [hz, hc]; omega) (by rw [hz, hc]; omega) (fun i _ => rfl) hframes hlocals hdg (fun H1 locs1 p1 _ p3 => ?_)
  rw [hz, hc, wm_set h1] at p1
  refine kk H1 locs1 _ p1 p3 ?_ (fun j hj => va_up_ne _ _ hj)
  rw [va_up_self]
  refine congrArg (fun z => (Sum.inl (C 0, N, Sum.inl z) : va_E)) (funext fun j => ?_)
  show va_cpy _ _ 0 0 N j = nI (va_cpy f g 0 0 N j)
  unfold va_cpy
  split <;> rfl
theorem wm_cpy {f g : Nat → Nat} {N : Nat} : ∀ j, j < N → va_cpy f g 0 0 N j = f j := fun j hj => by
  unfold va_cpy
  rw [if_pos ⟨by omega, by omega⟩]
  congr 1
  omega
theorem wm_ldcw (X : wm_cx p s m args meth c cc nL own D C b) {index : Nat} {v : Int32} (hc : Cond.constant own index v ∈ wm_tbl) (hdg : decode cc pc = .ok (.ldc_w index, 3)) (k : W p l e R s m args below meth c H locs cells slots Q (F0 m (pc + 3) ls (.int v :: rest))) : W p l e R s m args below meth c H locs cells slots Q (F0 m pc ls rest) := by
  intro T hT Y
  obtain ⟨t, a1, b1⟩ := k T hT Y
  exact ⟨t, va_ldcwI Y X.1 X.2.2.2.1 (X.2.2.2.2.1 _ hc) (g := F0 m pc ls rest) rfl (by rw [X.2.1]; exact hdg) t a1, b1⟩
theorem wm_ladd (X : wm_cx p s m args meth c cc nL own D C b) {x y : Nat} (hdg : decode cc pc = .ok (.ladd, 1)) (k : W p l e R s m args below meth c H locs cells slots Q (F0 m (pc + 1) ls (.long (lN (x + y)) :: rest))) : W p l e R s m args below meth c H locs cells slots Q (F0 m pc ls (.long (lN y) :: .long (lN x) :: rest)) := lv_ladd X.1 X.2.1 hdg (by rw [lN_add]; exact k)
theorem wm_ifc_eq (X : wm_cx p s m args meth c cc nL own D C b) {x y tgt : Nat} {off : Int} (hx : x < 2 ^ 63) (hy : y < 2 ^ 63) (hdg : decode cc pc = .ok (.ifCond .eq off, 3)) (ht : (pc : Int) + off = (tgt : Int)) (kt : x = y → W p l e R s m args below meth c H locs cells slots Q (F0 m tgt ls rest)) (kf : x ≠ y → W p l e R s m args below meth c H locs cells slots Q (F0 m (pc + 3) ls rest)) : W p l e R s m args below meth c H locs cells slots Q (F0 m pc ls (.int (lg_cmp (lN x) (lN y)) :: rest)) := lv_if_eq X.1 X.2.1 hdg ht (fun h => kt ((pk_lEQ hx hy).mp ((lg_cmp_eq _ _).mp h))) (fun h => kf (fun q => h ((lg_cmp_eq _ _).mpr (by rw [q]))))
theorem wm_ifc_ne (X : wm_cx p s m args meth c cc nL own D C b) {x y tgt : Nat} {off : Int} (hx : x < 2 ^ 63) (hy : y < 2 ^ 63) (hdg : decode cc pc = .ok (.ifCond .ne off, 3)) (ht : (pc : Int) + off = (tgt : Int)) (kt : x ≠ y → W p l e R s m args below meth c H locs cells slots Q (F0 m tgt ls rest)) (kf : x = y → W p l e R s m args below meth c H locs cells slots Q (F0 m (pc + 3) ls rest)) : W p l e R s m args below meth c H locs cells slots Q (F0 m pc ls (.int (lg_cmp (lN x) (lN y)) :: rest)) := lv_if_ne X.1 X.2.1 hdg ht (fun h => kt (fun q => h ((lg_cmp_eq _ _).mpr (by rw [q])))) (fun h => kf ((pk_lEQ hx hy).mp ((lg_cmp_eq _ _).mp h)))
theorem wm_ifc_le (X : wm_cx p s m args meth c cc nL own D C b) {x y tgt : Nat} {off : Int} (hx : x < 2 ^ 63) (hy : y < 2 ^ 63) (hdg : decode cc pc = .ok (.ifCond .le off, 3)) (ht : (pc : Int) + off = (tgt : Int)) (kt : x ≤ y → W p l e R s m args below meth c H locs cells slots Q (F0 m tgt ls rest)) (kf : y < x → W p l e R s m args below meth c H locs cells slots Q (F0 m (pc + 3) ls rest)) : W p l e R s m args below meth c H locs cells slots Q (F0 m pc ls (.int (lg_cmp (lN x) (lN y)) :: rest)) := lv_if_le X.1 X.2.1 hdg ht (fun h => kt ((pk_lLE hx hy).mp ((lg_cmp_le _ _).mp h))) (fun h => kf (Nat.not_le.mp (fun q => h ((lg_cmp_le _ _).mpr ((pk_lLE hx hy).mpr q)))))
end WMY
