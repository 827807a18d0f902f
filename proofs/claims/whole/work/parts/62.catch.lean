/-! A THROW THAT A ROW OF THE METHOD'S OWN TABLE TAKES -/
/-- one covering row with a class: it takes the object, or the search goes on; the class is noted either way -/
theorem wm_hrow {Q : Handler → Pre} {E : CtlPost} {e : Env} {d : Bool} {acts : List Action} {s : State} {f : JFrame} {a : Addr} {x : ExceptionTableEntry} {t : List ExceptionTableEntry} {c : ClassId} {cell : Cell} (hx : covers x f.pc = true) (h0 : x.catchType ≠ 0)
    (hl : s.vm.ClassLinks e.platform f.method.cls x.catchType c) (hcell : s.heap[a]? = some cell) (hobj : ∀ k, cell.vm ≠ .statics k) (hk : ∃ k, s.vm.classes[cell.cls]? = some k) (hc : ∃ k, s.vm.classes[c]? = some k) :
    wp (findHandler.go f a (x :: t)) Q E e d acts s ↔ if s.vm.assignable cell.cls c = true then Q (.found x.handlerPc) d acts (s.setVm (s.vm.noted f.method.cls x.catchType (.cls c))) else wp (findHandler.go f a t) Q E e d acts (s.setVm (s.vm.noted f.method.cls x.catchType (.cls c))) := by
  simp only [covers] at hx
  have hres := (resolveClass_links e.toSetting hl).op (op := VmOp.resolveClass f.method.cls x.catchType) rfl
  have hal : s.vm.Alike (s.vm.noted f.method.cls x.catchType (.cls c)) := (Vm.Alike.refl s.vm).noted _ _ _
  obtain ⟨k1, hk1⟩ := hk
  obtain ⟨k2, hk2⟩ := hc
  obtain ⟨k3, hk3, -⟩ := hal.2.2 _ _ hk1
  obtain ⟨k4, hk4, -⟩ := hal.2.2 _ _ hk2
  have has : (s.vm.noted f.method.cls x.catchType (.cls c)).assignable cell.cls c = s.vm.assignable cell.cls c := hal.assignable ..
  cases hfit : s.vm.assignable cell.cls c <;> rw [hfit] at has <;> simp [findHandler.go, hx, h0, hres.1, hres.2, hcell, hobj, hk3, hk4, has, VmOp.dirties, VmOp.acts]
/-- a row as it is met: its class, linked, and whether it takes the object -/
def wm_row (pl : Platform) (s0 : State) (d pc : Nat) (thrown : ClassId) (x : ExceptionTableEntry) (v : Bool) : Prop := covers x pc = true ∧ x.catchType ≠ 0 ∧ ∃ c, s0.vm.ClassLinks pl d x.catchType c ∧ s0.vm.assignable thrown c = v
theorem wm_hgo {e : Env} {s0 : State} {f : JFrame} {a : Addr} {cell : Cell} (hobj : ∀ k, cell.vm ≠ .statics k) (hk0 : ∃ k, s0.vm.classes[cell.cls]? = some k) {x : ExceptionTableEntry} {rest : List ExceptionTableEntry} (hx : wm_row e.platform s0 f.method.cls f.pc cell.cls x true) :
    ∀ (pre : List ExceptionTableEntry), (∀ y ∈ pre, wm_row e.platform s0 f.method.cls f.pc cell.cls y false) → ∀ (S : State), s0.WarmedH S.vm → S.heap[a]? = some cell →
      ∃ vm', s0.WarmedH vm' ∧ ∀ (Q : Handler → Pre) (E : CtlPost) (d : Bool) (acts : List Action), wp (findHandler.go f a (pre ++ x :: rest)) Q E e d acts S ↔ Q (.found x.handlerPc) d acts (S.setVm vm') := by
  obtain ⟨k0, hk0⟩ := hk0
  have one : ∀ (y : ExceptionTableEntry) (v : Bool) (S : State), wm_row e.platform s0 f.method.cls f.pc cell.cls y v → s0.WarmedH S.vm → S.heap[a]? = some cell → ∃ vm', s0.WarmedH vm' ∧ ∀ (t : List ExceptionTableEntry) (Q : Handler → Pre) (E : CtlPost) (d : Bool) (acts : List Action), wp (findHandler.go f a (y :: t)) Q E e d acts S ↔ if v = true then Q (.found y.handlerPc) d acts (S.setVm vm') else wp (findHandler.go f a t) Q E e d acts (S.setVm vm') := by
    intro y v S hy hW hcell
    obtain ⟨h1, h2, c, hl, hv⟩ := hy
    obtain ⟨k3, hk3, -⟩ := hW.alike.2.2 _ _ hk0
    obtain ⟨dk, _, _, kt, hd, _, _, _, _, hkt, _, hopen⟩ := hl.here
    obtain ⟨k4, hk4, -⟩ := hW.alike.2.2 _ _ hkt
    refine ⟨_, hW.noted hd hopen (State.rightAt_cls hl), fun t Q E d acts => ?_⟩
    rw [wm_hrow h1 h2 (hW.classLinks hl) hcell hobj ⟨k3, hk3⟩ ⟨k4, hk4⟩, hW.alike.assignable, hv]
  intro pre
  induction pre with
  | nil =>
    intro _ S hW hcell
    obtain ⟨vm', hW', h⟩ := one x true S hx hW hcell
    exact ⟨vm', hW', fun Q E d acts => (h rest Q E d acts).trans (by rw [if_pos rfl])⟩
  | cons y ys ih =>
    intro hp S hW hcell
    obtain ⟨vm1, hW1, h⟩ := one y false S (hp y List.mem_cons_self) hW hcell
    obtain ⟨vm2, hW2, h2⟩ := ih (fun z hz => hp z (List.mem_cons_of_mem _ hz)) (S.setVm vm1) hW1 hcell
    exact ⟨vm2, hW2, fun Q E d acts => ((h (ys ++ x :: rest) Q E d acts).trans (by rw [if_neg (by decide)])).trans (h2 Q E d acts)⟩
theorem wm_cst {e : Env} {s : State} {a : Addr} {f : JFrame} {r : List Frame} {pc : Nat} {vm' : Vm} (h : ∀ (Q : Handler → Pre) (E : CtlPost) (d : Bool) (acts : List Action), wp (findHandler f a) Q E e d acts s ↔ Q (.found pc) d acts (s.setVm vm')) : (stepThrowing e s a (.java f :: r)).Is ((s.setVm vm').setFrames (.java { f with pc := pc, stack := [.ref a] } :: r)) [] := by
  simp only [stepThrowing, searchFrame, vmDo]
  generalize hr : Sem.go _ e false [] s = res
  obtain ⟨as, rfl, ha⟩ := Sem.eq_ok_of hr (a := Handler.found pc) (s' := s.setVm vm') (acts' := []) (by simp [h _ _ _ _])
  exact ⟨rfl, ha⟩
section WMK
variable {p : Program} {l : Launch} {e : Env} {R : Room} {s : State} {m : MethodId} {args : Array Value} {below : List Frame} {meth : Method} {c : Code} {H : Heap} {locs : List Loc} {cells slots : Nat} {Q : State → Prop}
variable {cc : ByteArray} {pc nL : Nat} {ls : Array Slot} {rest : List Value} {D : va_G} {C : Nat → ClassId} {b n : Nat} {E : Nat → va_E} {own : String}
theorem wm_take {cell : Cell} {q : Addr} {pre suf : List ExceptionTableEntry} {x : ExceptionTableEntry} (ht : c.exceptionTable.toList = pre ++ x :: suf) (hcell : H[q]? = some cell) (hv : cell.vm = .none) (hk0 : ∃ k, s.vm.classes[cell.cls]? = some k) (hp : ∀ y ∈ pre, wm_row e.platform s m.cls pc cell.cls y false) (hx : wm_row e.platform s m.cls pc cell.cls x true)
    (kk : W p l e R s m args below meth c H locs cells slots Q (F0 m x.handlerPc ls [.ref q])) : vx_W p l e R s m args below meth c H locs cells slots Q (F0 m pc ls rest) q := by
  intro T hT X
  obtain ⟨vm', hW', hf⟩ := wm_hgo (e := e) (s0 := s) (f := F0 m pc ls rest) (a := q) (cell := cell) (fun k h => by rw [hv] at h; cases h) hk0 (rest := suf) hx pre hp ((T.setTop (F0 m pc ls rest)).pushFrame (.throwing q)) X.warmed (by show T.heap[q]? = _; rw [hT]; exact hcell)
  have hf2 : ∀ (Q : Handler → Pre) (E : CtlPost) (d : Bool) (acts : List Action), wp (findHandler (F0 m pc ls rest) q) Q E e d acts ((T.setTop (F0 m pc ls rest)).pushFrame (.throwing q)) ↔ Q (.found x.handlerPc) d acts (((T.setTop (F0 m pc ls rest)).pushFrame (.throwing q)).setVm vm') := fun Q E d acts => by
    rw [Jvm.W.findHandler_eq X.method' X.code, ht]; exact hf Q E d acts
  obtain ⟨t, a1, b1⟩ := kk (T.setVm vm') hT (X.noted hW')
  refine ⟨t, ?_, b1⟩
  have h : At T (F0 m pc ls rest).method c below := X.here
  obtain ⟨hgo, hw⟩ := h.throwing q
  refine Steps.head hgo hw ?_
  rw [stepThread_throwing (frames_entered h.top _), (wm_cst hf2).1]
  obtain ⟨g0, hg⟩ := Option.isSome_iff_exists.mp h.top
  obtain ⟨r, hr⟩ := State.topJava?_eq_some.mp hg
  have hr2 : (T.setVm vm').frames = .java g0 :: r := hr
  rw [State.setTop_of_frames _ hr2] at a1
  have e1 : ∀ (u : State) (F G : List Frame), ((u.setFrames F).setVm vm').setFrames G = (u.setVm vm').setFrames G := fun u F G => by
    rw [show (u.setFrames F).setVm vm' = (u.setVm vm').setFrames F from rfl, State.setFrames_setFrames]
  rw [hr, List.tail_cons, State.pushFrame, e1, State.setTop_of_frames _ hr, e1]
  exact a1
/-- the row's class out of the words -/
theorem wm_row1 {own name thr : String} {x : ExceptionTableEntry} {cell : Cell} {pl : Platform} (hpl : pl.magicAccessors = ({} : Platform).magicAccessors) (hown : s.vm.findClass own = some m.cls) (hx : covers x pc = true) (h0 : x.catchType ≠ 0) (hl : (Cond.classLink own x.catchType name).before args s = true) (hcl : s.vm.findClass thr = some cell.cls) (hc : (Cond.castable thr name).before args s = true) : wm_row pl s m.cls pc cell.cls x true := by
  obtain ⟨c3, c4, hc3, hc4, hasg⟩ := Cond.castable_spec hc
  cases Option.some.inj (hc3.symm.trans hcl)
  obtain ⟨c5, hc5, hcl5⟩ := Cond.classLink_spec hown hl pl hpl
  cases Option.some.inj (hc4.symm.trans hc5)
  exact ⟨hx, h0, c4, hcl5, hasg⟩
theorem wm_row0 {own name thr : String} {x : ExceptionTableEntry} {cell : Cell} {pl : Platform} (hpl : pl.magicAccessors = ({} : Platform).magicAccessors) (hown : s.vm.findClass own = some m.cls) (hx : covers x pc = true) (h0 : x.catchType ≠ 0) (hl : (Cond.classLink own x.catchType name).before args s = true) (hcl : s.vm.findClass thr = some cell.cls) (hc : va_Nc thr name s) : wm_row pl s m.cls pc cell.cls x false := by
  obtain ⟨a8, b8, h1, h2, h3⟩ := hc
  obtain ⟨c5, hc5, hcl5⟩ := Cond.classLink_spec hown hl pl hpl
  cases Option.some.inj (h1.symm.trans hcl)
  cases Option.some.inj (h2.symm.trans hc5)
  exact ⟨hx, h0, _, hcl5, h3⟩
end WMK
