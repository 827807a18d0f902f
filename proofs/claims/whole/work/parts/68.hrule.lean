/-! THE LAW'S HELPERS: bodies with handlers; a row of longs as it is -/
abbrev wm_JR (C : Nat → ClassId) (n : Nat) (f : Nat → Int64) : va_E := .inl (C 1, n, .inr (.inl f))
def wm_GN (D : va_G) (C : Nat → ClassId) (b n : Nat) (E : Nat → va_E) (U : State) : Prop := wm_GX D C b n E U ∧ va_Nc wm_iae wm_iob U
theorem wm_GNb {D : va_G} {C : Nat → ClassId} {b n : Nat} {E : Nat → va_E} {av : List Value} : FrameBlind (va_Pc av (wm_GN D C b n E)) := fun a U g mk q => ⟨q.1, (wm_blindX (av := av) a U g mk ⟨q.1, q.2.1⟩).2, q.2.2.moved (u := U) (U := U.calling g mk a) (Vm.Alike.refl U.vm)⟩
abbrev wm_wsW (y : MethodName) (cc : ByteArray) (nL : Nat) (ret : Option FieldType) (hh : List (Nat × Nat × Nat × Nat)) : List Cond := .codeWith y cc nL ret hh :: wm_tbl
theorem wm_gSW {own : String} {index : Nat} {y : MethodName} {cc : ByteArray} {nL : Nat} {ret : Option FieldType} {hh : List (Nat × Nat × Nat × Nat)} (h1 : Cond.methodLink own index y ∈ wm_tbl) (h2 : Cond.static y ∈ wm_tbl) (h4 : Cond.initialized y.cls ∈ wm_tbl) (h5 : Cond.codeWith y cc nL ret hh ∈ wm_tbl) : GoodIn wm_tbl (va_wsS own index y (wm_wsW y cc nL ret hh)) := fun w hw => by
  unfold va_wsS at hw
  rcases List.mem_append.mp hw with hw | hw
  · simp only [List.mem_cons, List.not_mem_nil, or_false] at hw
    rcases hw with rfl | rfl | rfl
    · exact ⟨h1, wm_good h1⟩
    · exact ⟨h2, wm_good h2⟩
    · exact ⟨h4, wm_good h4⟩
  · rcases List.mem_cons.mp hw with rfl | hw
    · exact ⟨h5, wm_good h5⟩
    · exact ⟨hw, wm_good hw⟩
theorem wm_ofWH {l : Launch} {y : MethodName} {cc : ByteArray} {nL : Nat} {ret : Option FieldType} {hh : List (Nat × Nat × Nat × Nat)} {rm : Room} {D : va_G} {C : Nat → ClassId} {b n : Nat} {E : Nat → va_E} {av : List Value} {Qc : Array Value → State → Outcome → State → Prop} {mc ms : Nat} {free : Addr → Prop}
    (hy : plainName y.cls = true) (hlen : (lg_sl av).length ≤ nL)
    (body : ∀ (p : Program) (e : Env) (s : State) (m : MethodId) (below : List Frame) (meth : Method) (c : Code) (ls : Array Slot) (R : Room) (args : Array Value) (Q : State → Prop), R = rm → Q = MQ below Qc args s mc ms free → wm_cx p s m args meth c cc nL y.cls D C b → meth.sig.returnType = ret → c.exceptionTable.toList = tableOf hh → wm_V (wm_A b) s → va_Nc wm_iae wm_iob s → wm_P D b n E s.heap → wm_S b s.heap s.heap [] → lv_has ls nL (lv_args 0 av) →
      W p l e R s m args below meth c s.heap [] 0 0 Q (F0 m 0 ls [])) : Met l y (wm_wsW y cc nL ret hh) rm (va_Pc av (wm_GN D C b n E)) Qc mc ms free := by
  refine va_MetW (cc := cc) (maxL := nL) (ret := ret) (hh := hh) hy rfl ?_
  intro p e s m args below meth c s₁ B hml hv
  obtain ⟨rfl, ⟨⟨hP, hK, hN, hbs⟩, hV⟩, hNc⟩ := hv
  have hts := atoms_spec (ws := wm_wsW y cc nL ret hh) B.pre
  rw [lg_entry_eq]
  exact body p e s m below meth c _ _ _ _ rfl rfl ⟨B.exec, B.bytes, hml, findClass_of_methodNamed B.named, fun w h => hts w (List.mem_cons_of_mem _ h), hK, hN, hbs, B.notSynchronized⟩ B.returns (vx_table (x := y) B (hts _ List.mem_cons_self)) hV hNc hP va_S.rf (lv_entry av hlen)
section WMH
variable {p : Program} {l : Launch} {e : Env} {R : Room} {s : State} {m : MethodId} {args : Array Value} {below : List Frame} {meth : Method} {c : Code} {H : Heap} {locs : List Loc} {cells slots : Nat} {Q : State → Prop}
variable {cc : ByteArray} {pc nL : Nat} {ls : Array Slot} {rest : List Value} {D : va_G} {C : Nat → ClassId} {b n : Nat} {E : Nat → va_E} {own : String}
theorem wm_lastR {H0 : Heap} (X : wm_cx p s m args meth c cc nL own D C b) (hP : wm_P D b n E H) (hS : wm_S b H0 H locs) {t N i : Nat} {x : Int64} {f : Nat → Int64} (ht : t < n) (hE : E t = wm_JR C N f) (hi : i < N) (hN : N < 2 ^ 31) (hdg : decode cc pc = .ok (.lastore, 1))
    (kk : ∀ (H1 : Heap) (locs1 : List Loc) (E1 : Nat → va_E), wm_P D b n E1 H1 → wm_S b H0 H1 locs1 → E1 t = wm_JR C N (vp_updL f i x) → (∀ j, j ≠ t → E1 j = E j) → W p l e R s m args below meth c H1 locs1 cells slots Q (F0 m (pc + 1) ls rest)) : W p l e R s m args below meth c H locs cells slots Q (F0 m pc ls (.long x :: .int (nI i) :: .ref (b + t) :: rest)) := by
  refine va_last X.1 X.2.1 X.2.2.2.2.2.1 hP wm_D hS t 1 (wm_at2 ht hE) rfl (vp_in_nI hi hN) hdg (fun H1 locs1 h1 _ h3 => ?_)
  rw [nI_clamp (Nat.lt_trans hi hN), wm_set ht] at h1
  exact kk H1 locs1 _ h1 h3 (va_up_self _ _ _) (fun j hj => va_up_ne _ _ hj)
theorem wm_laldR (X : wm_cx p s m args meth c cc nL own D C b) (hP : wm_P D b n E H) {t N i : Nat} {f : Nat → Int64} (ht : t < n) (hE : E t = wm_JR C N f) (hi : i < N) (hN : N < 2 ^ 31) (hdg : decode cc pc = .ok (.laload, 1))
    (kk : W p l e R s m args below meth c H locs cells slots Q (F0 m (pc + 1) ls (.long (f i) :: rest))) : W p l e R s m args below meth c H locs cells slots Q (F0 m pc ls (.int (nI i) :: .ref (b + t) :: rest)) := by
  refine va_lald X.1 X.2.1 X.2.2.2.2.2.1 hP t 1 (wm_at2 ht hE) rfl (vp_in_nI hi hN) hdg ?_
  rw [nI_clamp (Nat.lt_trans hi hN)]
  exact kk
theorem wm_catch {cl nm : String} {ce : Cell} {q : Addr} {pre suf : List ExceptionTableEntry} {x : ExceptionTableEntry} (X : wm_cx p s m args meth c cc nL own D C b) (hT : c.exceptionTable.toList = pre ++ x :: suf) (hp : ∀ y ∈ pre, covers y pc = true ∧ y.catchType ≠ 0 ∧ ∃ nm, Cond.classLink own y.catchType nm ∈ wm_tbl ∧ va_Nc cl nm s) (hx : covers x pc = true) (h0 : x.catchType ≠ 0) (w : Cond.classLink own x.catchType nm ∈ wm_tbl) (hc : (Cond.castable cl nm).before #[] s = true) (h1 : H[q]? = some ce) (h2 : ce.vm = .none) (h3 : s.vm.findClass cl = some ce.cls)
    (kk : W p l e R s m args below meth c H locs cells slots Q (F0 m x.handlerPc ls [.ref q])) : vx_W p l e R s m args below meth c H locs cells slots Q (F0 m pc ls rest) q := by
  intro T hTh St
  have hpl : e.platform.magicAccessors = ({} : Platform).magicAccessors := by rw [St.admits.platform]
  refine wm_take hT h1 h2 (by obtain ⟨k9, h9, -⟩ := Vm.findClass_spec h3; exact ⟨k9, h9⟩) (fun y hy => ?_) (wm_row1 (args := args) (m := m) hpl X.2.2.2.1 hx h0 (X.2.2.2.2.1 _ w) h3 hc) kk T hTh St
  obtain ⟨a1, a2, nm2, a3, a4⟩ := hp y hy
  exact wm_row0 (args := args) (m := m) hpl X.2.2.2.1 a1 a2 (X.2.2.2.2.1 _ a3) h3 a4
theorem wm_preN (X : wm_cx p s m args meth c cc nL own D C b) (hV : wm_V (wm_A b) s) (hNc : va_Nc wm_iae wm_iob s) (hP : wm_P D b n E H) (hS : wm_S b s.heap H locs) {av : List Value} : ∀ U : State, U.heap = H → s.WarmedH U.vm → va_Pc av (wm_GN D C b n E) av.toArray U := fun U hU hW => ⟨rfl, (wm_preX X hV hP hS (av := av) U hU hW).2, hNc.moved hW.alike⟩
theorem wm_callH {post : Int32 → (Nat → va_E) → Prop} {y : MethodName} {bytes : ByteArray} {maxL index k : Nat} {ret : Option FieldType} {hh : List (Nat × Nat × Nat × Nat)} {fr lo : Nat} {As st0 : List Value} (X : wm_cx p s m args meth c cc nL own D C b) (hV : wm_V (wm_A b) s) (hNc : va_Nc wm_iae wm_iob s) (hP : wm_P D b n E H) (hS : wm_S b s.heap H locs)
    (hM : Met l y (wm_wsW y bytes maxL ret hh) { frames := fr, cells := 1, slots := 6, locals := lo } (va_Pc As (wm_GN D C b n E)) (va_Qi post (fun E' t => wm_P D b n E' t.heap) (wm_A b)) 1 6 (wm_A b)) (w1 : Cond.methodLink own index y ∈ wm_tbl) (w2 : Cond.static y ∈ wm_tbl) (w4 : Cond.initialized y.cls ∈ wm_tbl) (w5 : Cond.codeWith y bytes maxL ret hh ∈ wm_tbl) (hd : y.cls ≠ "java/lang/invoke/MethodHandle" ∧ y.cls ≠ "java/lang/invoke/VarHandle" ∧ (parseMethodDescriptor y.desc).map (fun d => d.parameters.length) = some k) (hR : fr + 1 ≤ R.frames ∧ 8 + (maxL + 11) + lo ≤ R.locals) (hn : As.length = k) (hsz : ls.size = nL) (hst : st0 = As.reverse ++ rest) (hW : (rest.map fun v => v.category).sum ≤ 8) (hf1 : cells + 1 ≤ R.cells) (hf2 : slots + 6 ≤ R.slots) (hdg : decode cc pc = .ok (.invokestatic index, 3))
    (kk : ∀ (r : Int32) (E1 : Nat → va_E) (H1 : Heap) (locs1 : List Loc), post r E1 → wm_P D b n E1 H1 → wm_S b s.heap H1 locs1 → W p l e R s m args below meth c H1 locs1 (cells + 1) (slots + 6) Q (F0 m (pc + 3) ls (.int r :: rest))) : W p l e R s m args below meth c H locs cells slots Q (F0 m pc ls st0) := by
  subst hst
  exact va_calli (vx_runSW (As := As) (rest := rest) ⟨X.1, X.2.1, X.2.2.1, X.2.2.2.1, X.2.2.2.2.1⟩ hM (vx_cwSW k X.2.2.2.2.1 (wm_gSW w1 w2 w4 w5) rfl rfl rfl hd hR) ⟨wm_GNb, wm_preN X hV hNc hP hS⟩ rfl hn hsz rfl (lv_room hW) hdg ⟨hf1, hf2⟩) hS (fun q _ h => h) (fun q h => h) (fun r u t H1 locs1 ht1 _ hw hB _ _ hS1 => kk r u H1 locs1 hw (by rw [← ht1]; exact hB) hS1)
end WMH
theorem wm_cast1 {A : Nat → Prop} {s : State} (h : wm_V A s) : (Cond.castable wm_iob wm_iob).before #[] s = true ∧ (Cond.castable wm_iae wm_iae).before #[] s = true := ⟨h.1 _ (by decide), h.1 _ (by decide)⟩
