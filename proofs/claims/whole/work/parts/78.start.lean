/-! THE START: what the tables and the Statement give -/
theorem wm_tbl_sub {w : Cond} (h : w ∈ wm_tbl) : w ∈ lw_tbl := (List.mem_filter.mp h).1
theorem wm_arT {s : State} {cA : ClassId} {kA : Class} {comp : ClassId} {ty : FieldType} (h2 : s.vm.classes[cA]? = some kA) (h3 : kA.kind = .array comp ty) : ArrOfT s cA ty := fun n z => ⟨fun k h => (by cases h), kA, h2, comp, h3⟩
theorem wm_Kof {args : Array Value} {s : State} (hts : ∀ w ∈ wm_tbl, w.before args s = true) (hA1 : (Cond.arrayOver (.object "WordMachines$Machine")).before args s = true) (hA2 : (Cond.arrayOver (.object "WordMachines$Level")).before args s = true) : ∃ (D : va_G) (C : Nat → ClassId), va_K D wm_cl (wm_tys C) s := by
  obtain ⟨c0, i0, k0⟩ := u_known hts wm_inX0 (hts _ wq1_66)
  obtain ⟨c1, i1, k1⟩ := u_known hts wm_inX1 (hts _ wq1_73)
  obtain ⟨c2, i2, k2⟩ := u_known hts wm_inX2 (hts _ wq1_36)
  obtain ⟨c3, i3, k3⟩ := u_known hts wm_inX3 (hts _ wq1_79)
  obtain ⟨c4, i4, k4⟩ := u_known hts wm_inX4 (hts _ wq1_149)
  obtain ⟨c5, i5, k5⟩ := u_known hts wm_inX5 (hts _ wq1_184)
  obtain ⟨c6, i6, k6⟩ := u_known hts wm_inX6 (hts _ wq1_27)
  obtain ⟨c7, i7, k7⟩ := u_known hts wm_inX7 (hts _ wq5_15)
  obtain ⟨a0, b0, d0, f0, g0, h0⟩ := Cond.arrayClass_spec (hts _ wq1_64)
  obtain ⟨a1, b1, d1, f1, g1, h1⟩ := Cond.arrayClass_spec (hts _ wq1_182)
  obtain ⟨a2, b2, d2, f2, g2, h2⟩ := Cond.arrayClass_spec (hts _ wq1_181)
  obtain ⟨a3, b3, d3, f3, g3, h3⟩ := Cond.arrayClass_spec (hts _ wq1_97)
  obtain ⟨d4, a4, b4, e4, -, g4, h4, f4⟩ := Cond.arrayOver_spec hA1
  obtain ⟨d5, a5, b5, e5, -, g5, h5, f5⟩ := Cond.arrayOver_spec hA2
  refine ⟨(fun c => match c with | 0 => c0 | 1 => c1 | 2 => c2 | 3 => c3 | 4 => c4 | 5 => c5 | 6 => c6 | _ => c7, fun c => match c with | 0 => i0 | 1 => i1 | 2 => i2 | 3 => i3 | 4 => i4 | 5 => i5 | 6 => i6 | _ => i7), fun k => match k with | 0 => a0 | 1 => a1 | 2 => a2 | 3 => a3 | 4 => a4 | _ => a5, fun c q hq => ?_, fun k q hq => ?_⟩
  · have hc : c < 8 := (List.getElem?_eq_some_iff.mp hq).1
    have hs : c = 0 ∨ c = 1 ∨ c = 2 ∨ c = 3 ∨ c = 4 ∨ c = 5 ∨ c = 6 ∨ c = 7 := by omega
    rcases hs with rfl | rfl | rfl | rfl | rfl | rfl | rfl | rfl
    · cases Option.some.inj hq; exact k0
    · cases Option.some.inj hq; exact k1
    · cases Option.some.inj hq; exact k2
    · cases Option.some.inj hq; exact k3
    · cases Option.some.inj hq; exact k4
    · cases Option.some.inj hq; exact k5
    · cases Option.some.inj hq; exact k6
    · cases Option.some.inj hq; exact k7
  · have hc : k < 6 := (List.getElem?_eq_some_iff.mp hq).1
    have hs : k = 0 ∨ k = 1 ∨ k = 2 ∨ k = 3 ∨ k = 4 ∨ k = 5 := by omega
    rcases hs with rfl | rfl | rfl | rfl | rfl | rfl
    · cases Option.some.inj hq; exact ⟨wm_arT g0 h0, f0⟩
    · cases Option.some.inj hq; exact ⟨wm_arT g1 h1, f1⟩
    · cases Option.some.inj hq; exact ⟨wm_arT g2 h2, f2⟩
    · cases Option.some.inj hq; exact ⟨wm_arT g3 h3, f3⟩
    · cases Option.some.inj hq; exact ⟨wm_arT g4 h4, b4, d4, g4, h4, e4, f4⟩
    · cases Option.some.inj hq; exact ⟨wm_arT g5 h5, b5, d5, g5, h5, e5, f5⟩
theorem wm_notr {l : Launch} (h : l.flags = flags0) : l.stackTraces = false := by
  unfold Launch.stackTraces
  rw [h]
  decide
theorem wz_ao1 : (Jvm.Cond.arrayOver (Jvm.ClassFile.FieldType.object "WordMachines$Machine")) ∈ lw_tbl := List.mem_append_right _ (List.mem_append_left _ (List.mem_of_getElem? (i := 35) rfl))
theorem wz_ao2 : (Jvm.Cond.arrayOver (Jvm.ClassFile.FieldType.object "WordMachines$Level")) ∈ lw_tbl := List.mem_append_right _ (List.mem_append_left _ (List.mem_of_getElem? (i := 72) rfl))
theorem wz_n0 : (Jvm.Cond.methodLinkNest "WordMachines" (15 : Nat) ({ cls := "WordMachines$Machine", name := "<init>", desc := "()V" } : Jvm.MethodName) "WordMachines") ∈ lw_tbl := List.mem_append_right _ (List.mem_append_left _ (List.mem_of_getElem? (i := 37) rfl))
theorem wz_n1 : (Jvm.Cond.methodLinkNest "WordMachines$ExpressionReader" (31 : Nat) ({ cls := "WordMachines$Level", name := "<init>", desc := "()V" } : Jvm.MethodName) "WordMachines") ∈ lw_tbl := List.mem_append_right _ (List.mem_append_left _ (List.mem_of_getElem? (i := 74) rfl))
theorem wz_n2 : (Jvm.Cond.methodLinkNest "WordMachines$Level" (9 : Nat) ({ cls := "WordMachines$Piece", name := "<init>", desc := "()V" } : Jvm.MethodName) "WordMachines") ∈ lw_tbl := List.mem_append_right _ (List.mem_append_left _ (List.mem_of_getElem? (i := 80) rfl))
theorem wz_n3 : (Jvm.Cond.methodLinkNest "WordMachines" (37 : Nat) ({ cls := "WordMachines$SetWalk", name := "<init>", desc := "()V" } : Jvm.MethodName) "WordMachines") ∈ lw_tbl := List.mem_append_right _ (List.mem_append_left _ (List.mem_of_getElem? (i := 150) rfl))
theorem wz_n4 : (Jvm.Cond.methodLinkNest "WordMachines" (44 : Nat) ({ cls := "WordMachines$WordHunt", name := "<init>", desc := "()V" } : Jvm.MethodName) "WordMachines") ∈ lw_tbl := List.mem_append_right _ (List.mem_append_left _ (List.mem_of_getElem? (i := 185) rfl))
theorem wz_n5 : (Jvm.Cond.methodLinkNest "WordMachines$ExpressionReader" (97 : Nat) ({ cls := "WordMachines", name := "letterOf", desc := "(I)I" } : Jvm.MethodName) "WordMachines") ∈ lw_tbl := List.mem_append_right _ (List.mem_append_right _ (List.mem_append_left _ (List.mem_of_getElem? (i := 132) rfl)))
theorem wz_n6 : (Jvm.Cond.methodLinkNest "WordMachines$ExpressionReader" (90 : Nat) ({ cls := "WordMachines", name := "hasBit", desc := "(II)Z" } : Jvm.MethodName) "WordMachines") ∈ lw_tbl := List.mem_append_right _ (List.mem_append_right _ (List.mem_append_left _ (List.mem_of_getElem? (i := 209) rfl)))
theorem wz_n7 : (Jvm.Cond.methodLinkNest "WordMachines$Machine" (31 : Nat) ({ cls := "WordMachines", name := "hasBit", desc := "(II)Z" } : Jvm.MethodName) "WordMachines") ∈ lw_tbl := List.mem_append_right _ (List.mem_append_right _ (List.mem_append_right _ (List.mem_append_left _ (List.mem_of_getElem? (i := 45) rfl))))
theorem wz_n8 : (Jvm.Cond.methodLinkNest "WordMachines$Machine" (59 : Nat) ({ cls := "WordMachines", name := "withBit", desc := "(IIZ)I" } : Jvm.MethodName) "WordMachines") ∈ lw_tbl := List.mem_append_right _ (List.mem_append_right _ (List.mem_append_right _ (List.mem_append_left _ (List.mem_of_getElem? (i := 46) rfl))))
theorem wz_n9 : (Jvm.Cond.methodLinkNest "WordMachines$SetWalk" (101 : Nat) ({ cls := "WordMachines", name := "hasBit", desc := "(II)Z" } : Jvm.MethodName) "WordMachines") ∈ lw_tbl := List.mem_append_right _ (List.mem_append_right _ (List.mem_append_right _ (List.mem_append_right _ (List.mem_append_right _ (List.mem_append_left _ (List.mem_of_getElem? (i := 13) rfl))))))
theorem wz_ca : (Jvm.Cond.castable "java/lang/IllegalArgumentException" "java/lang/IllegalArgumentException") ∈ lw_tbl := List.mem_append_right _ (List.mem_append_right _ (List.mem_append_left _ (List.mem_of_getElem? (i := 15) rfl)))
theorem wz_co : (Jvm.Cond.castable "java/lang/IndexOutOfBoundsException" "java/lang/IndexOutOfBoundsException") ∈ lw_tbl := List.mem_append_right _ (List.mem_append_right _ (List.mem_append_left _ (List.mem_of_getElem? (i := 94) rfl)))
theorem wz_d0 : (Jvm.Cond.declares ({ cls := "java/lang/RuntimeException", name := "<init>", desc := "(Ljava/lang/String;)V" } : Jvm.MethodName)) ∈ lw_tbl := List.mem_append_right _ (List.mem_append_right _ (List.mem_append_left _ (List.mem_of_getElem? (i := 17) rfl)))
theorem wz_d1 : (Jvm.Cond.declares ({ cls := "java/lang/Exception", name := "<init>", desc := "(Ljava/lang/String;)V" } : Jvm.MethodName)) ∈ lw_tbl := List.mem_append_right _ (List.mem_append_right _ (List.mem_append_left _ (List.mem_of_getElem? (i := 19) rfl)))
theorem wz_d2 : (Jvm.Cond.declares ({ cls := "java/lang/Throwable", name := "<init>", desc := "(Ljava/lang/String;)V" } : Jvm.MethodName)) ∈ lw_tbl := List.mem_append_right _ (List.mem_append_right _ (List.mem_append_left _ (List.mem_of_getElem? (i := 21) rfl)))
theorem wz_l0 : (Jvm.Cond.laysStatic "java/lang/Throwable" "UNASSIGNED_STACK" "[Ljava/lang/StackTraceElement;") ∈ lw_tbl := List.mem_append_right _ (List.mem_append_right _ (List.mem_append_left _ (List.mem_of_getElem? (i := 40) rfl)))
theorem wz_l1 : (Jvm.Cond.laysStatic "java/lang/Throwable" "SUPPRESSED_SENTINEL" "Ljava/util/List;") ∈ lw_tbl := List.mem_append_right _ (List.mem_append_right _ (List.mem_append_left _ (List.mem_of_getElem? (i := 42) rfl)))
theorem wz_s0 : (Jvm.Cond.stringRef "WordMachines" (51 : Nat) "n is not 1 to 8") ∈ lw_tbl := List.mem_append_right _ (List.mem_append_right _ (List.mem_append_left _ (List.mem_of_getElem? (i := 54) rfl)))
theorem wz_s1 : (Jvm.Cond.stringRef "WordMachines" (170 : Nat) "there is no such machine") ∈ lw_tbl := List.mem_append_right _ (List.mem_append_right _ (List.mem_append_left _ (List.mem_of_getElem? (i := 101) rfl)))
theorem wz_s2 : (Jvm.Cond.stringRef "WordMachines" (77 : Nat) "n is not 1 to 24") ∈ lw_tbl := List.mem_append_right _ (List.mem_append_right _ (List.mem_append_left _ (List.mem_of_getElem? (i := 223) rfl)))
theorem wz_s3 : (Jvm.Cond.stringRef "WordMachines" (172 : Nat) "there is no such state") ∈ lw_tbl := List.mem_append_right _ (List.mem_append_right _ (List.mem_append_left _ (List.mem_of_getElem? (i := 235) rfl)))
theorem wz_s4 : (Jvm.Cond.stringRef "WordMachines" (87 : Nat) "what is not 0 to 3") ∈ lw_tbl := List.mem_append_right _ (List.mem_append_right _ (List.mem_append_left _ (List.mem_of_getElem? (i := 236) rfl)))
theorem wz_s5 : (Jvm.Cond.stringRef "WordMachines" (99 : Nat) "there is no such letter") ∈ lw_tbl := List.mem_append_right _ (List.mem_append_right _ (List.mem_append_right _ (List.mem_append_left _ (List.mem_of_getElem? (i := 7) rfl))))
theorem wz_s6 : (Jvm.Cond.stringRef "WordMachines" (174 : Nat) "the machine has more than 11 states") ∈ lw_tbl := List.mem_append_right _ (List.mem_append_right _ (List.mem_append_right _ (List.mem_append_left _ (List.mem_of_getElem? (i := 111) rfl))))
theorem wz_s7 : (Jvm.Cond.stringRef "WordMachines" (148 : Nat) "the word has no such letter") ∈ lw_tbl := List.mem_append_right _ (List.mem_append_right _ (List.mem_append_right _ (List.mem_append_right _ (List.mem_append_left _ (List.mem_of_getElem? (i := 180) rfl)))))
theorem wz_s8 : (Jvm.Cond.stringRef "WordMachines" (154 : Nat) "length is not 0 to 20") ∈ lw_tbl := List.mem_append_right _ (List.mem_append_right _ (List.mem_append_right _ (List.mem_append_right _ (List.mem_append_left _ (List.mem_of_getElem? (i := 192) rfl)))))
theorem wm_Nof {args : Array Value} {s : State} (hts : ∀ w ∈ lw_tbl, w.before args s = true) : wm_N s := by
  have h : ∀ w ∈ wm_nw, w.before args s = true := List.forall_mem_cons.mpr ⟨hts _ wz_n0, List.forall_mem_cons.mpr ⟨hts _ wz_n1, List.forall_mem_cons.mpr ⟨hts _ wz_n2, List.forall_mem_cons.mpr ⟨hts _ wz_n3, List.forall_mem_cons.mpr ⟨hts _ wz_n4, List.forall_mem_cons.mpr ⟨hts _ wz_n5, List.forall_mem_cons.mpr ⟨hts _ wz_n6, List.forall_mem_cons.mpr ⟨hts _ wz_n7, List.forall_mem_cons.mpr ⟨hts _ wz_n8, List.forall_mem_cons.mpr ⟨hts _ wz_n9, fun _ h => absurd h List.not_mem_nil⟩⟩⟩⟩⟩⟩⟩⟩⟩⟩
  exact fun a i x g hm => va_Nw.of rfl (h _ hm)
theorem wm_sof {args : Array Value} {s : State} {k : Nat} {tx : String} {cur : ClassId} (hc : s.vm.findClass "WordMachines" = some cur) (h : (Cond.stringRef "WordMachines" k tx).before args s = true) : ∃ sa, vk_R "WordMachines" k tx sa s := by
  obtain ⟨k9, cf, i, a, -, -, -, -, -, hev⟩ := Cond.stringRef_spec hc h
  exact ⟨a, vk_R.of h hev⟩
theorem wm_Vof {args : Array Value} {s : State} {cur : ClassId} (hts : ∀ w ∈ lw_tbl, w.before args s = true) (hc : s.vm.findClass "WordMachines" = some cur) (h1 : (Cond.isRef (.static Bundle.tN "UNASSIGNED_STACK" Bundle.steD)).before args s = true) (h2 : (Cond.isRef (.static Bundle.tN "SUPPRESSED_SENTINEL" Bundle.listD)).before args s = true) : wm_V (wm_A s.heap.size) s := by
  have hA : ∀ a : Nat, a < s.heap.size → ¬ wm_A s.heap.size a := fun a h q => absurd (show s.heap.size ≤ a from q) (by omega)
  have hini := hts _ (wm_tbl_sub wq1_9)
  refine ⟨?_, vx_Zqof (hts _ wz_l0) hini h1 hA, vx_Zqof (hts _ wz_l1) hini h2 hA, ?_⟩
  · exact List.forall_mem_cons.mpr ⟨va_tabs rfl rfl (hts _ wz_d0), List.forall_mem_cons.mpr ⟨va_tabs rfl rfl (hts _ wz_d1), List.forall_mem_cons.mpr ⟨va_tabs rfl rfl (hts _ wz_d2), List.forall_mem_cons.mpr ⟨va_tabs rfl rfl (hts _ wz_co), List.forall_mem_cons.mpr ⟨va_tabs rfl rfl (hts _ wz_ca), fun _ h => absurd h List.not_mem_nil⟩⟩⟩⟩⟩
  · exact List.forall_mem_cons.mpr ⟨wm_sof hc (hts _ wz_s0), List.forall_mem_cons.mpr ⟨wm_sof hc (hts _ wz_s1), List.forall_mem_cons.mpr ⟨wm_sof hc (hts _ wz_s2), List.forall_mem_cons.mpr ⟨wm_sof hc (hts _ wz_s3), List.forall_mem_cons.mpr ⟨wm_sof hc (hts _ wz_s4), List.forall_mem_cons.mpr ⟨wm_sof hc (hts _ wz_s5), List.forall_mem_cons.mpr ⟨wm_sof hc (hts _ wz_s6), List.forall_mem_cons.mpr ⟨wm_sof hc (hts _ wz_s7), List.forall_mem_cons.mpr ⟨wm_sof hc (hts _ wz_s8), fun _ h => absurd h List.not_mem_nil⟩⟩⟩⟩⟩⟩⟩⟩⟩
