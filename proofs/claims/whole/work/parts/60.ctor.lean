/-! MAKING: the next cell stands at b + n -/
theorem wm_l_app {b n : Nat} {E : Nat → va_E} {e : va_E} : wm_l b (n + 1) (va_up E n e) = wm_l b n E ++ [(b + n, e)] := by
  apply List.ext_getElem?
  intro j
  by_cases h : j < n
  · rw [wm_at (by omega), va_up_ne _ _ (by omega), List.getElem?_append_left (by simpa [wm_l] using h), wm_at h]
  · by_cases e1 : j = n
    · subst e1
      rw [wm_at (by omega), va_up_self, List.getElem?_append_right (by simp [wm_l])]
      simp [wm_l]
    · rw [List.getElem?_append_right (by simp [wm_l]; omega)]
      have h1 : (wm_l b (n + 1) (va_up E n e))[j]? = none := by simp [wm_l]; omega
      rw [h1]
      simp [wm_l]
      omega
theorem wm_low_le {D : va_G} {b n : Nat} {E : Nat → va_E} {H : Heap} (hP : wm_P D b n E H) (hb : b ≤ H.size) : b + n ≤ H.size := by
  cases n with
  | zero => exact hb
  | succ k =>
    have := (hP k _ (wm_at (b := b) (E := E) (show k < k + 1 by omega))).lt
    dsimp only at this
    omega
theorem wm_Pcg {D : va_G} {b n n' : Nat} {E : Nat → va_E} {H : Heap} (h : wm_P D b n E H) (e : n = n') : wm_P D b n' E H := e ▸ h
/-- what a constructor asks of the state in which it is called -/
def wm_GC (D : va_G) (C : Nat → ClassId) (b n : Nat) (E : Nat → va_E) (U : State) : Prop := wm_G D C b n E U ∧ U.heap.size = b + n ∧ va_AO "WordMachines$Machine" U ∧ va_AO "WordMachines$Level" U
abbrev wm_AA (s : State) : Prop := va_AO "WordMachines$Machine" s ∧ va_AO "WordMachines$Level" s
theorem wm_Qeq {D : va_G} {C : Nat → ClassId} {b n k t N : Nat} {E : Nat → va_E} {H : Heap} {f g : Nat → Option Nat} (hP : wm_P D b n E H) (ht : t < n) (hE : E t = wm_Q C k N f) (h : ∀ j, j < N → f j = g j) : ∃ E1 : Nat → va_E, wm_P D b n E1 H ∧ E1 t = wm_Q C k N g ∧ ∀ j, j ≠ t → E1 j = E j := by
  refine ⟨va_up E t (wm_Q C k N g), fun i q hq => ?_, va_up_self _ _ _, fun j hj => va_up_ne _ _ hj⟩
  obtain ⟨hi, rfl⟩ := wm_of hq
  by_cases e : i = t
  · subst e
    rw [va_up_self]
    have h1 := hP i _ (wm_at2 ht hE)
    show H[b + i]? = some (vp_cell _ _)
    have h2 : H[b + i]? = some (vp_cell (C k) (N, .inr (.inr (.inr (.inr f))))) := h1
    rw [h2, vp_cell_q, vp_cell_q]
    unfold arrV
    congr 2
    apply congrArg
    funext j
    dsimp only
    rw [h j.val j.isLt]
  · rw [va_up_ne _ _ e]
    exact hP i _ (wm_at hi)
abbrev wm_aI (N : Nat) : vp_A := (N, .inl (fun j => nI ((fun _ => 0) j)))
abbrev wm_aJ (N : Nat) : vp_A := (N, .inr (.inl (fun j => lN ((fun _ => 0) j))))
abbrev wm_aZ (N : Nat) : vp_A := (N, .inl (fun j => nI ((fun _ => false) j).toNat))
abbrev wm_aB (N : Nat) : vp_A := (N, .inl (fun j => wm_sb ((fun _ => 0) j)))
theorem wm_dI (N : Nat) (cA : ClassId) : vp_cell cA (wm_aI N) = arrV cA N (fun _ => defaultValue .int) := rfl
theorem wm_dJ (N : Nat) (cA : ClassId) : vp_cell cA (wm_aJ N) = arrV cA N (fun _ => defaultValue .long) := rfl
theorem wm_dZ (N : Nat) (cA : ClassId) : vp_cell cA (wm_aZ N) = arrV cA N (fun _ => defaultValue .boolean) := rfl
theorem wm_dB (N : Nat) (cA : ClassId) : vp_cell cA (wm_aB N) = arrV cA N (fun _ => defaultValue .byte) := rfl
section WMN
variable {p : Program} {l : Launch} {e : Env} {R : Room} {s : State} {m : MethodId} {args : Array Value} {below : List Frame} {meth : Method} {c : Code} {H : Heap} {locs : List Loc} {cells slots : Nat} {Q : State → Prop}
variable {cc : ByteArray} {pc nL : Nat} {ls : Array Slot} {rest : List Value} {D : va_G} {C : Nat → ClassId} {b n : Nat} {E : Nat → va_E} {own : String}
theorem wm_Wcg {g : JFrame} {a d : Nat} (h1 : cells = a) (h2 : slots = d) (k : W p l e R s m args below meth c H locs a d Q g) : W p l e R s m args below meth c H locs cells slots Q g := by
  subst h1; subst h2; exact k
theorem wm_size {g : JFrame} (X : wm_cx p s m args meth c cc nL own D C b) (hP : wm_P D b n E H) (hS : wm_S b s.heap H locs) (hs : s.heap.size + cells = b + n) (kk : H.size = b + n → W p l e R s m args below meth c H locs cells slots Q g) : W p l e R s m args below meth c H locs cells slots Q g := by
  intro T hT St
  have h3 : T.heap.size ≤ s.heap.size + cells := St.same.2.2.1
  rw [hT] at h3
  have h4 := wm_low_le hP (Nat.le_trans X.2.2.2.2.2.2.2.1 hS.1)
  exact kk (by omega) T hT St
theorem wm_grown {H1 : Heap} {e0 : va_E} (hP : wm_P D b n E H) (hz : H.size = b + n) (o1 : ∀ q : Nat, q < b + n → H1[q]? = H[q]?) (he : va_at D wm_cl (b + n, e0) H1) : wm_P D b (n + 1) (va_up E n e0) H1 := by
  unfold wm_P
  rw [wm_l_app]
  refine va_P.app (va_P.kept hP (fun k x hx => o1 x.1 (by rw [← hz]; exact (hP k x hx).lt))) (fun k x hx => ?_)
  have hz1 : k < 1 := (List.getElem?_eq_some_iff.mp hx).1
  rw [show k = 0 by omega] at hx
  cases hx
  exact he
theorem wm_grownS {H1 : Heap} (hS : wm_S b s.heap H locs) (hz : H.size = b + n) (z1 : H1.size = b + n + 1) (o1 : ∀ q : Nat, q < b + n → H1[q]? = H[q]?) : wm_S b s.heap H1 locs := ⟨by have := hS.1; omega, fun q h1 h2 => (o1 q (by have := hS.1; omega)).trans (hS.2.1 q h1 h2), hS.2.2⟩
theorem wm_newo (X : wm_cx p s m args meth c cc nL own D C b) (hP : wm_P D b n E H) (hS : wm_S b s.heap H locs) (hs : s.heap.size + cells = b + n) {ci : Nat} {Cl : String} {T : u_T} {N index : Nat} (hc : wm_cl[ci]? = some (Cl, T, N)) (hin : ∀ w ∈ u_ws Cl T N, w ∈ wm_tbl) (ty : Nat → FieldType) (hty : ∀ k, k < N → parseFieldDescriptor (T k).2.2.1 = some (ty k)) (w1 : Cond.classLink own index Cl ∈ wm_tbl) (w2 : Cond.instantiable Cl N ∈ wm_tbl) (w3 : Cond.initialized Cl ∈ wm_tbl) {fs : List Value} (hfs : ∀ j, j < N → defaultValue (ty j) = vp_V fs j) (hcells : cells + 1 ≤ R.cells) (hslots : slots + N ≤ R.slots) (hdg : decode cc pc = .ok (.new index, 3))
    (kk : ∀ (H1 : Heap) (E1 : Nat → va_E), wm_P D b (n + 1) E1 H1 → wm_S b s.heap H1 locs → E1 n = .inr (ci, fs) → (∀ j, j ≠ n → E1 j = E j) → W p l e R s m args below meth c H1 locs (cells + 1) (slots + N) Q (F0 m (pc + 3) ls (.ref (b + n) :: rest))) : W p l e R s m args below meth c H locs cells slots Q (F0 m pc ls rest) := by
  refine wm_size X hP hS hs (fun hz => ?_)
  have hKn := X.2.2.2.2.2.1.1 ci _ hc
  refine W.newcK X.1 X.2.1 X.2.2.2.1 (X.2.2.2.2.1 _ w1) (X.2.2.2.2.1 _ w2) (X.2.2.2.2.1 _ w3) rfl hdg hcells hslots hKn.2.1 hz fun H1 kC hkC e1 z1 o1 => ?_
  exact kk H1 _ (wm_grown (e0 := .inr (ci, fs)) hP hz o1 ⟨_, hc, (u_born ty X.2.2.2.2.1 hin hKn hkC e1 hty).to hfs⟩) (wm_grownS hS hz z1 o1) (va_up_self _ _ _) (fun j hj => va_up_ne _ _ hj)
theorem wm_newa {atype : ArrayType} {ty : FieldType} {k : Nat} (X : wm_cx p s m args meth c cc nL own D C b) (hP : wm_P D b n E H) (hS : wm_S b s.heap H locs) (hs : s.heap.size + cells = b + n) (hty : newarray.typeOf atype = ty) (hk : (wm_tys C)[k]? = some (C k, ty)) (hR : va_RA s (C k) ty → s.vm.findClass ("[" ++ ty.toString) = some (C k)) (w1 : Cond.arrayClass ty ∈ wm_tbl) {N : Nat} {a0 : vp_A} (ha : ∀ cA : ClassId, vp_cell cA a0 = arrV cA N (fun _ => defaultValue ty)) (hN : N < 2 ^ 31) (hbytes : N * componentBytes ty ≤ 536870912) (hcells : cells + 1 ≤ R.cells) (hslots : slots + N ≤ R.slots) (hdg : decode cc pc = .ok (.newarray atype, 2))
    (kk : ∀ (H1 : Heap) (E1 : Nat → va_E), wm_P D b (n + 1) E1 H1 → wm_S b s.heap H1 locs → E1 n = .inl (C k, a0) → (∀ j, j ≠ n → E1 j = E j) → W p l e R s m args below meth c H1 locs (cells + 1) (slots + N) Q (F0 m (pc + 2) ls (.ref (b + n) :: rest))) : W p l e R s m args below meth c H locs cells slots Q (F0 m pc ls (.int (nI N) :: rest)) := by
  subst hty
  refine wm_size X hP hS hs (fun hz => ?_)
  refine va_newaK X.1 X.2.1 (X.2.2.2.2.1 _ w1) rfl hdg rfl (nI_pos hN) (nI_clamp hN) hbytes hcells hslots hz fun H1 cA e1 z1 o1 hAr hNm => ?_
  have hcA : cA = C k := Option.some.inj (hNm.symm.trans (hR (X.2.2.2.2.2.1.2 k _ hk).2))
  subst hcA
  exact kk H1 _ (wm_grown (e0 := .inl (C k, a0)) hP hz o1 (by show H1[b + n]? = some (vp_cell _ _); rw [ha]; exact e1)) (wm_grownS hS hz z1 o1) (va_up_self _ _ _) (fun j hj => va_up_ne _ _ hj)
theorem wm_newq {k : Nat} {Cl : String} {index : Nat} (X : wm_cx p s m args meth c cc nL own D C b) (hP : wm_P D b n E H) (hS : wm_S b s.heap H locs) (hs : s.heap.size + cells = b + n) (hov : va_AO Cl s) (hk : (wm_tys C)[k]? = some (C k, .object Cl)) (w1 : Cond.classLink own index Cl ∈ wm_tbl) {N : Nat} (hN : N < 2 ^ 31) (hbytes : N * 4 ≤ 536870912) (hcells : cells + 1 ≤ R.cells) (hslots : slots + N ≤ R.slots) (hdg : decode cc pc = .ok (.anewarray index, 3))
    (kk : ∀ (H1 : Heap) (E1 : Nat → va_E), wm_P D b (n + 1) E1 H1 → wm_S b s.heap H1 locs → E1 n = wm_Q C k N (fun _ => none) → (∀ j, j ≠ n → E1 j = E j) → W p l e R s m args below meth c H1 locs (cells + 1) (slots + N) Q (F0 m (pc + 3) ls (.ref (b + n) :: rest))) : W p l e R s m args below meth c H locs cells slots Q (F0 m pc ls (.int (nI N) :: rest)) := by
  refine wm_size X hP hS hs (fun hz => ?_)
  have hcl := nI_clamp hN
  refine W.anew X.1 X.2.1 X.2.2.2.1 (X.2.2.2.2.1 _ w1) (va_AO.use hov) rfl hdg rfl (nI_pos hN) (by rw [hcl]; exact hbytes) hcells (by rw [hcl]; exact hslots) fun cA kA comp f1 f2 f3 f4 => ?_
  obtain ⟨kA', comp', r1, r2, r3, r4⟩ := (X.2.2.2.2.2.1.2 k _ hk).2
  have hcA : cA = C k := Option.some.inj (f1.symm.trans r4)
  subst hcA
  generalize hH1 : H.push ({ cls := C k, slots := Array.replicate (nI N).toNatClampNeg .null, vm := .none } : Cell) = H1
  have z1 : H1.size = b + n + 1 := by rw [← hH1, Array.size_push, hz]
  have e1 : H1[b + n]? = some (arrV (C k) N (fun _ => .null)) := by rw [← hH1, ← hz, Array.getElem?_push_size, hcl, ← arrV_new]
  have o1 : ∀ q : Nat, q < b + n → H1[q]? = H[q]? := fun q hq => by rw [← hH1, Array.getElem?_push, if_neg (by omega)]
  rw [hz, hcl]
  exact kk H1 _ (wm_grown (e0 := wm_Q C k N (fun _ => none)) hP hz o1 (by show H1[b + n]? = some (vp_cell _ _); exact e1)) (wm_grownS hS hz z1 o1) (va_up_self _ _ _) (fun j hj => va_up_ne _ _ hj)
theorem wm_aast {H0 : Heap} (X : wm_cx p s m args meth c cc nL own D C b) (hP : wm_P D b n E H) (hS : wm_S b H0 H locs) {t N i k v ci : Nat} {r : vw_C} {vs : List Value} {f : Nat → Option Nat} (ht : t < n) (hE : E t = wm_Q C k N f) (hk : (wm_tys C)[k]? = some (C k, .object r.1)) (hv : v < n) (hEv : E v = .inr (ci, vs)) (hc : wm_cl[ci]? = some r) (hi : i < N) (hN : N < 2 ^ 31) (hdg : decode cc pc = .ok (.aastore, 1))
    (kk : ∀ (H1 : Heap) (locs1 : List Loc) (E1 : Nat → va_E), wm_P D b n E1 H1 → wm_S b H0 H1 locs1 → E1 t = wm_Q C k N (va_up f i (some (b + v))) → (∀ j, j ≠ t → E1 j = E j) → W p l e R s m args below meth c H1 locs1 cells slots Q (F0 m (pc + 1) ls rest)) : W p l e R s m args below meth c H locs cells slots Q (F0 m pc ls (.ref (b + v) :: .int (nI i) :: .ref (b + t) :: rest)) := by
  refine va_astq X.1 X.2.1 X.2.2.2.2.2.1 hP wm_D hS t k v ci (wm_at2 ht hE) hk (wm_at2 hv hEv) hc (vp_in_nI hi hN) hdg (fun H1 locs1 h1 _ h3 => ?_)
  rw [nI_clamp (Nat.lt_trans hi hN), wm_set ht] at h1
  exact kk H1 locs1 _ h1 h3 (va_up_self _ _ _) (fun j hj => va_up_ne _ _ hj)
theorem wm_putF {H0 : Heap} (X : wm_cx p s m args meth c cc nL own D C b) (hnm0 : meth.name = "<init>") (hP : wm_P D b n E H) (hS : wm_S b H0 H locs) {t ci : Nat} {fs : List Value} (ht : t < n) (hE : E t = .inr (ci, fs)) {T : u_T} {N index : Nat} (hc : wm_cl[ci]? = some (own, T, N)) (hin : ∀ w ∈ u_ws own T N, w ∈ wm_tbl) (ty0 : Nat → FieldType) (hty : ∀ k, k < N → parseFieldDescriptor (T k).2.2.1 = some (ty0 k)) (hnm : ∀ a, a < N → ∀ b, b < N → a ≠ b → (T a).2.1 ≠ (T b).2.1) (k : Nat) (hk : k < N) (hlink : Cond.fieldLink own index (T k).1 (T k).2.1 (T k).2.2.1 ∈ wm_tbl) (hfin : (T k).2.2.2 = true) (hdecl : (T k).1 = own) {v : Value} (hn : narrow (ty0 k) v = v) (hfit : fits (ty0 k) v = true) {fs1 : List Value} (hfs : fs.set k v = fs1) (hl : k < fs.length) (hdg : decode cc pc = .ok (.putfield index, 3))
    (kk : ∀ (H1 : Heap) (locs1 : List Loc) (E1 : Nat → va_E), wm_P D b n E1 H1 → wm_S b H0 H1 locs1 → E1 t = .inr (ci, fs1) → (∀ j, j ≠ t → E1 j = E j) → W p l e R s m args below meth c H1 locs1 cells slots Q (F0 m (pc + 3) ls rest)) : W p l e R s m args below meth c H locs cells slots Q (F0 m pc ls (v :: .ref (b + t) :: rest)) := by
  subst hfs
  refine va_putF X.1 X.2.1 X.2.2.2.2.1 hin ty0 hty hnm X.2.2.2.1 X.2.2.2.2.2.1 hP wm_D hS t (wm_at2 ht hE) hc k hk (X.2.2.2.2.1 _ hlink) (fun _ h => h) hfin hnm0 hdecl (hty k hk) hn hfit hl hdg (fun H1 locs1 h1 _ h3 => ?_)
  rw [wm_set ht] at h1
  exact kk H1 locs1 _ h1 h3 (va_up_self _ _ _) (fun j hj => va_up_ne _ _ hj)
theorem wm_GCb {av : List Value} : FrameBlind (va_Pc av (wm_GC D C b n E)) := fun a U g mk q => by
  obtain ⟨q0, ⟨q1, q2, q3, q4⟩, q5, q6, q7⟩ := q
  exact ⟨q0, ⟨q1, va_K.moved (u := U) (U := U.calling g mk a) (Vm.Alike.refl U.vm) q2, fun a i x h hm => va_Nw.same rfl (u := U) (U := U.calling g mk _) rfl (q3 a i x h hm), q4⟩, q5, q6.moved (u := U) (U := U.calling g mk a) (Vm.Alike.refl U.vm), q7.moved (u := U) (U := U.calling g mk a) (Vm.Alike.refl U.vm)⟩
theorem wm_preC (X : wm_cx p s m args meth c cc nL own D C b) (hA : wm_AA s) (hP : wm_P D b n E H) (hS : wm_S b s.heap H locs) (hz : H.size = b + n) {av : List Value} : ∀ U : State, U.heap = H → s.WarmedH U.vm → va_Pc av (wm_GC D C b n E) av.toArray U := fun U hU hW => ⟨rfl, ⟨by rw [hU]; exact hP, va_K.moved hW.alike X.2.2.2.2.2.1, wm_N.warm hW X.2.2.2.2.2.2.1, by rw [hU]; exact Nat.le_trans X.2.2.2.2.2.2.2.1 hS.1⟩, by rw [hU]; exact hz, hA.1.moved hW.alike, hA.2.moved hW.alike⟩
theorem wm_init {post : (Nat → va_E) → Prop} {y : MethodName} {bytes : ByteArray} {maxL index fr lo mc ms n1 t : Nat} (X : wm_cx p s m args meth c cc nL own D C b) (hA : wm_AA s) (hP : wm_P D b n E H) (hS : wm_S b s.heap H locs) (hs : s.heap.size + cells = b + n)
    (hM : Met l y (wm_ws y bytes maxL none) { frames := fr, cells := mc, slots := ms, locals := lo } (va_Pc [.ref (b + t)] (wm_GC D C b n E)) (va_Qv post (fun E' t => wm_P D b n1 E' t.heap) (wm_A b)) mc ms (wm_A b)) (w1 : Cond.methodLink own index y ∈ wm_tbl) (w2 : Cond.instanceMethod y ∈ wm_tbl) (w4 : Cond.initialized y.cls ∈ wm_tbl) (w5 : Cond.code y bytes maxL none ∈ wm_tbl) (hy : y.name = "<init>") (hd : y.cls ≠ "java/lang/invoke/MethodHandle" ∧ y.cls ≠ "java/lang/invoke/VarHandle" ∧ (parseMethodDescriptor y.desc).map (fun d => d.parameters.length) = some 0) (hR : fr + 1 ≤ R.frames ∧ 8 + (maxL + 11) + lo ≤ R.locals) (hsz : ls.size = nL) (hW : (rest.map fun v => v.category).sum ≤ 8) (hf1 : cells + mc ≤ R.cells) (hf2 : slots + ms ≤ R.slots) (hdg : decode cc pc = .ok (.invokespecial index, 3))
    (kk : ∀ (E1 : Nat → va_E) (H1 : Heap) (locs1 : List Loc), post E1 → wm_P D b n1 E1 H1 → wm_S b s.heap H1 locs1 → W p l e R s m args below meth c H1 locs1 (cells + mc) (slots + ms) Q (F0 m (pc + 3) ls rest)) : W p l e R s m args below meth c H locs cells slots Q (F0 m pc ls (.ref (b + t) :: rest)) := by
  refine wm_size X hP hS hs (fun hz => ?_)
  exact va_callv (va_runI (As := []) (rest := rest) ⟨X.1, X.2.1, X.2.2.1, X.2.2.2.1, X.2.2.2.2.1⟩ hM (cwI 0 X.2.2.2.2.1 (wm_gI w5) rfl rfl rfl (X.2.2.2.2.1 _ w4) (X.2.2.2.2.1 _ w1) (X.2.2.2.2.1 _ w2) hy hd hR) ⟨wm_GCb, wm_preC X hA hP hS hz⟩ rfl rfl hsz rfl (lv_room hW) hdg ⟨hf1, hf2⟩) hS (fun q _ h => h) (fun q h => h) (fun u t H1 locs1 ht1 _ hw hB _ _ hS1 => kk u H1 locs1 hw (by rw [← ht1]; exact hB) hS1)
theorem wm_initN {post : (Nat → va_E) → Prop} {y : MethodName} {bytes : ByteArray} {maxL index fr lo mc ms n1 t : Nat} (X : wm_cx p s m args meth c cc nL own D C b) (hA : wm_AA s) (hP : wm_P D b n E H) (hS : wm_S b s.heap H locs) (hs : s.heap.size + cells = b + n)
    (hM : Met l y (wm_ws y bytes maxL none) { frames := fr, cells := mc, slots := ms, locals := lo } (va_Pc [.ref (b + t)] (wm_GC D C b n E)) (va_Qv post (fun E' t => wm_P D b n1 E' t.heap) (wm_A b)) mc ms (wm_A b)) {host : String} (w1 : Cond.methodLinkNest own index y host ∈ wm_nw) (w2 : Cond.instanceMethod y ∈ wm_tbl) (w4 : Cond.initialized y.cls ∈ wm_tbl) (w5 : Cond.code y bytes maxL none ∈ wm_tbl) (hy : y.name = "<init>") (hd : y.cls ≠ "java/lang/invoke/MethodHandle" ∧ y.cls ≠ "java/lang/invoke/VarHandle" ∧ (parseMethodDescriptor y.desc).map (fun d => d.parameters.length) = some 0) (hR : fr + 1 ≤ R.frames ∧ 8 + (maxL + 11) + lo ≤ R.locals) (hsz : ls.size = nL) (hW : (rest.map fun v => v.category).sum ≤ 8) (hf1 : cells + mc ≤ R.cells) (hf2 : slots + ms ≤ R.slots) (hdg : decode cc pc = .ok (.invokespecial index, 3))
    (kk : ∀ (E1 : Nat → va_E) (H1 : Heap) (locs1 : List Loc), post E1 → wm_P D b n1 E1 H1 → wm_S b s.heap H1 locs1 → W p l e R s m args below meth c H1 locs1 (cells + mc) (slots + ms) Q (F0 m (pc + 3) ls rest)) : W p l e R s m args below meth c H locs cells slots Q (F0 m pc ls (.ref (b + t) :: rest)) := by
  refine wm_size X hP hS hs (fun hz => ?_)
  exact va_callv (va_runIN (As := []) (rest := rest) ⟨X.1, X.2.1, X.2.2.1, X.2.2.2.1, X.2.2.2.2.1⟩ hM ⟨va_cnB 0 X.2.2.2.2.1 (wm_gI w5) rfl rfl rfl (X.2.2.2.2.2.2.1 _ _ _ _ w1) (X.2.2.2.2.1 _ w4) hd hR, hy, X.2.2.2.2.1 _ w2⟩ ⟨wm_GCb, wm_preC X hA hP hS hz⟩ rfl rfl hsz rfl (lv_room hW) hdg ⟨hf1, hf2⟩) hS (fun q _ h => h) (fun q h => h) (fun u t H1 locs1 ht1 _ hw hB _ _ hS1 => kk u H1 locs1 hw (by rw [← ht1]; exact hB) hS1)
theorem wm_oinit {t idx : Nat} (X : wm_cx p s m args meth c cc nL own D C b) (w1 : Cond.methodLink own idx Lib.objectInit ∈ wm_tbl) (w2 : Cond.instanceMethod Lib.objectInit ∈ wm_tbl) (w3 : Cond.code Lib.objectInit ⟨#[0xb1]⟩ 1 none ∈ wm_tbl) (hsz : ls.size = nL) (hdg : decode cc pc = .ok (.invokespecial idx, 3)) (hf : 1 ≤ R.frames) (hlo : (rest.map fun v => v.category).sum + 12 ≤ R.locals) (kk : W p l e R s m args below meth c H locs cells slots Q (F0 m (pc + 3) ls rest)) : W p l e R s m args below meth c H locs cells slots Q (F0 m pc ls (.ref (b + t) :: rest)) :=
  W.objInit X.1 X.2.1 X.2.2.2.1 (X.2.2.2.2.1 _ w1) (X.2.2.2.2.1 _ w2) (X.2.2.2.2.1 _ w3) rfl (by rw [X.2.2.1]; exact hsz) rfl hdg hf (by show 2 * 0 + _ + 12 ≤ _; omega) kk
end WMN
/-- a constructor's contract out of the walk of its body -/
theorem wm_ofWC {l : Launch} {y : MethodName} {cc : ByteArray} {nL : Nat} {ret : Option FieldType} {rm : Room} {D : va_G} {C : Nat → ClassId} {b n : Nat} {E : Nat → va_E} {av : List Value} {Qc : Array Value → State → Outcome → State → Prop} {mc ms : Nat} {free : Addr → Prop}
    (hy : plainName y.cls = true) (hlen : (lg_sl av).length ≤ nL)
    (body : ∀ (p : Program) (e : Env) (s : State) (m : MethodId) (below : List Frame) (meth : Method) (c : Code) (ls : Array Slot) (R : Room) (args : Array Value) (Q : State → Prop), R = rm → Q = MQ below Qc args s mc ms free → wm_cx p s m args meth c cc nL y.cls D C b → meth.sig.returnType = ret → meth.name = y.name → wm_P D b n E s.heap → wm_S b s.heap s.heap [] → lv_has ls nL (lv_args 0 av) → s.heap.size = b + n → wm_AA s →
      W p l e R s m args below meth c s.heap [] 0 0 Q (F0 m 0 ls [])) : Met l y (wm_ws y cc nL ret) rm (va_Pc av (wm_GC D C b n E)) Qc mc ms free := by
  refine Met.ofW (cc := cc) (maxL := nL) (ret := ret) hy rfl ?_
  intro p e s m args below meth c s₁ B hml hv
  obtain ⟨rfl, ⟨hP, hK, hN, hbs⟩, hz, hA⟩ := hv
  have hts := atoms_spec (ws := wm_ws y cc nL ret) B.pre
  rw [lg_entry_eq]
  exact body p e s m below meth c _ _ _ _ rfl rfl ⟨B.exec, B.bytes, hml, findClass_of_methodNamed B.named, fun w h => hts w (List.mem_cons_of_mem _ h), hK, hN, hbs, B.notSynchronized⟩ B.returns (name_of_methodNamed B.named B.method).1 hP va_S.rf (lv_entry av hlen) hz hA
