/-! THROWS: what a throw asks of the start, its row, calls of methods that throw -/
def wm_iob : String := "java/lang/IndexOutOfBoundsException"
def wm_iae : String := "java/lang/IllegalArgumentException"
abbrev wm_sup : List String := ["java/lang/RuntimeException", "java/lang/Exception"]
def wm_dw : List MethodName := [⟨"java/lang/RuntimeException", "<init>", "(Ljava/lang/String;)V"⟩, ⟨"java/lang/Exception", "<init>", "(Ljava/lang/String;)V"⟩, ⟨"java/lang/Throwable", "<init>", "(Ljava/lang/String;)V"⟩]
def wm_cws : List String := ["java/lang/IndexOutOfBoundsException", "java/lang/IllegalArgumentException"]
abbrev wm_xw : List Cond := wm_dw.map Cond.declares ++ wm_cws.map (fun c => Cond.castable c c)
def wm_strs : List (Nat × String) := [(51, "n is not 1 to 8"), (170, "there is no such machine"), (77, "n is not 1 to 24"), (172, "there is no such state"), (87, "what is not 0 to 3"), (99, "there is no such letter"), (174, "the machine has more than 11 states"), (148, "the word has no such letter"), (154, "length is not 0 to 20")]
def wm_V (A : Nat → Prop) (U : State) : Prop := (∀ w ∈ wm_xw, w.before #[] U = true) ∧ vx_Zq Bundle.tN "UNASSIGNED_STACK" Bundle.steD A U U.heap ∧ vx_Zq Bundle.tN "SUPPRESSED_SENTINEL" Bundle.listD A U U.heap ∧ ∀ q ∈ wm_strs, ∃ sa, vk_R "WordMachines" q.1 q.2 sa U
theorem wm_dmove {s U : State} {x : MethodName} (hA : s.vm.Alike U.vm) (h : (Cond.declares x).before #[] s = true) : (Cond.declares x).before #[] U = true := by
  refine va_tabs (u := s.setVm U.vm) rfl rfl (A := #[]) ?_
  obtain ⟨m, meth, h1, h2, h3, h4⟩ := Cond.declares_spec h
  have e1 : (s.setVm U.vm).methodNamed? x = some m := by rw [State.methodNamed?_setVm hA]; exact h1
  have e2 : (s.setVm U.vm).vm.method? m = some meth := by show U.vm.method? m = some meth; rw [hA.method?]; exact h2
  have e3 : U.vm.method? m = some meth := e2
  simp [Cond.before, Cond.holds, Cond.value, e1, e3, h3, h4]
theorem wm_cmove {s U : State} {x y : String} (hA : s.vm.Alike U.vm) (h : (Cond.castable x y).before #[] s = true) : (Cond.castable x y).before #[] U = true := by
  refine va_tabs (u := s.setVm U.vm) rfl rfl (A := #[]) ?_
  rw [Cond.castable_setVm hA]
  exact h
theorem wm_V.to {A : Nat → Prop} {s U : State} (hW : s.WarmedH U.vm) (hq : ∀ a : Nat, a < s.heap.size → ¬ A a → U.heap[a]? = s.heap[a]?) (h : wm_V A s) : wm_V A U := by
  obtain ⟨h1, h2, h3, h4⟩ := h
  refine ⟨fun w hw => ?_, vx_Zq.moved hW.alike (h2.kept hq), vx_Zq.moved hW.alike (h3.kept hq), fun q hm => ?_⟩
  · have h0 := h1 w hw
    rcases List.mem_append.mp hw with hw | hw
    · obtain ⟨x, -, rfl⟩ := List.mem_map.mp hw
      exact wm_dmove hW.alike h0
    · obtain ⟨x, -, rfl⟩ := List.mem_map.mp hw
      exact wm_cmove hW.alike h0
  · obtain ⟨sa, hs⟩ := h4 q hm
    exact ⟨sa, vk_R.warm hW hs⟩
def wm_GX (D : va_G) (C : Nat → ClassId) (b n : Nat) (E : Nat → va_E) (U : State) : Prop := wm_G D C b n E U ∧ wm_V (wm_A b) U
theorem wm_blindX {D : va_G} {C : Nat → ClassId} {b n : Nat} {E : Nat → va_E} {av : List Value} : FrameBlind (va_Pc av (wm_GX D C b n E)) := fun a U g mk q =>
  ⟨q.1, (wm_blind (av := av) a U g mk ⟨q.1, q.2.1⟩).2, wm_V.to (s := U) (U := U.calling g mk a) (State.WarmedH.refl U) (fun _ _ _ => rfl) q.2.2⟩
/-- what holds where a method has thrown: the exception's class, the world as it was -/
abbrev wm_XC (D : va_G) (b n : Nat) (E : Nat → va_E) (cl : String) : String → State → State → Prop := vx_X (fun _ : Unit => True) (fun c _ t => c = cl ∧ wm_P D b n E t.heap) (wm_A b)
abbrev wm_no : Array Value → State → Outcome → State → Prop := fun _ _ _ _ => False
theorem wm_ofX {l : Launch} {y : MethodName} {cc : ByteArray} {nL : Nat} {ret : Option FieldType} {rm : Room} {D : va_G} {C : Nat → ClassId} {b n : Nat} {E : Nat → va_E} {av : List Value} {Qc : Array Value → State → Outcome → State → Prop} {XC : String → State → State → Prop} {mc ms : Nat} {free : Addr → Prop}
    (hy : plainName y.cls = true) (hlen : (lg_sl av).length ≤ nL)
    (body : ∀ (p : Program) (e : Env) (s : State) (m : MethodId) (below : List Frame) (meth : Method) (c : Code) (ls : Array Slot) (R : Room) (args : Array Value) (Q : State → Prop), R = rm → Q = vx_MQ below Qc XC args s mc ms free → wm_cx p s m args meth c cc nL y.cls D C b → (∀ x ∈ c.exceptionTable.toList, False) → wm_V (wm_A b) s → wm_P D b n E s.heap → wm_S b s.heap s.heap [] → lv_has ls nL (lv_args 0 av) →
      W p l e R s m args below meth c s.heap [] 0 0 Q (F0 m 0 ls [])) : vx_Met l y (wm_ws y cc nL ret) rm (va_Pc av (wm_GX D C b n E)) Qc XC mc ms free := by
  refine vx_ofW (cc := cc) (maxL := nL) (ret := ret) hy rfl ?_
  intro p e s m args below meth c s₁ B hml hx hv
  obtain ⟨rfl, ⟨hP, hK, hN, hbs⟩, hV⟩ := hv
  have hts := atoms_spec (ws := wm_ws y cc nL ret) B.pre
  rw [lg_entry_eq]
  exact body p e s m below meth c _ _ _ _ rfl rfl ⟨B.exec, B.bytes, hml, findClass_of_methodNamed B.named, fun w h => hts w (List.mem_cons_of_mem _ h), hK, hN, hbs, B.notSynchronized⟩ hx hV hP va_S.rf (lv_entry av hlen)
/-- the words of the two exceptions' making -/
theorem wm_hat {args : Array Value} {s : State} {L : List Cond} (ht : ∀ w ∈ wm_tbl, w.before args s = true) (hx : ∀ w ∈ wm_xw, w.before #[] s = true) (hc : L.all (fun w => decide (w ∈ wm_tbl) || (decide (w ∈ wm_xw) && w.onTables)) = true) : ∀ w ∈ L, w.before args s = true := by
  intro w hw
  have h := List.all_eq_true.mp hc w hw
  rcases Bool.or_eq_true _ _ ▸ h with h | h
  · exact ht w (of_decide_eq_true h)
  · have h9 := Bool.and_eq_true _ _ ▸ h
    exact va_tabs h9.2 rfl (hx w (of_decide_eq_true h9.1))
