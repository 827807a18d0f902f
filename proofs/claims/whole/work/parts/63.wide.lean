/-! CONTRACTS, WIDENED -/
theorem wm_roomle {s : State} {pl : Platform} {r r' : Room} (h : s.hasRoom pl r' = true) (h1 : r.frames ≤ r'.frames ∧ r.cells ≤ r'.cells ∧ r.slots ≤ r'.slots ∧ r.locals ≤ r'.locals) : s.hasRoom pl r = true := by
  unfold State.hasRoom at h ⊢
  simp only [Bool.and_eq_true, decide_eq_true_eq] at h ⊢
  obtain ⟨⟨⟨⟨a1, a2, a3, a4, a5, a6⟩, a7⟩, a8⟩, a9⟩ := h
  exact ⟨⟨⟨⟨by omega, by omega, by omega, by omega, by omega, a6⟩, by omega⟩, by omega⟩, a9⟩
theorem wm_metw {l : Launch} {y : MethodName} {ws : List Cond} {rm rm' : Room} {Pc Pc' : Array Value → State → Prop} {Qc Qc' : Array Value → State → Outcome → State → Prop} {mc ms mc' ms' : Nat} {free : Addr → Prop} (h : Met l y ws rm Pc Qc mc ms free) (h1 : rm.frames ≤ rm'.frames ∧ rm.cells ≤ rm'.cells ∧ rm.slots ≤ rm'.slots ∧ rm.locals ≤ rm'.locals) (h2 : mc ≤ mc' ∧ ms ≤ ms') (hP : ∀ a s, Pc' a s → Pc a s) (hQ : ∀ a st o t, Qc a st o t → Qc' a st o t) : Met l y ws rm' Pc' Qc' mc' ms' free := by
  intro p e ha hc hk s m args below hf happ hp hk'
  have happ2 : (headSpec ws rm).appliesLoose y e.platform s = true := by
    rw [Spec.appliesLoose_iff hf] at happ ⊢
    obtain ⟨b1, b2, b3, b4, b5, b6, b7, b8⟩ := happ
    exact ⟨b1, b2, b3, b4, b5, b6, wm_roomle b7 h1, b8⟩
  obtain ⟨n, o, a1, a2, a3, a4, L, a5, a6⟩ := h p e ha hc hk s m args below hf happ2 (hP _ _ hp) hk'
  exact ⟨n, o, a1, a2, a3, hQ _ _ _ _ a4, L, ⟨a5.1, a5.2.1, a5.2.2.mono h2.1 h2.2⟩, a6⟩
section WMM
variable {l : Launch} {y : MethodName} {ws : List Cond} {fr lo : Nat} {D : va_G} {C : Nat → ClassId} {b n : Nat} {E : Nat → va_E} {av : List Value}
/-- a contract of a method that makes nothing, its promise weakened and its room widened -/
theorem wm_wi {fr' lo' : Nat} {post post' : Int32 → (Nat → va_E) → Prop} (h : Met l y ws { frames := fr, cells := 0, slots := 0, locals := lo } (va_Pc av (wm_G D C b n E)) (va_Qi post (fun E' t => wm_P D b n E' t.heap) (wm_A b)) 0 0 (wm_A b)) (h1 : fr ≤ fr' ∧ lo ≤ lo') (hp : ∀ r E', post r E' → post' r E') : Met l y ws { frames := fr', cells := 0, slots := 0, locals := lo' } (va_Pc av (wm_G D C b n E)) (va_Qi post' (fun E' t => wm_P D b n E' t.heap) (wm_A b)) 0 0 (wm_A b) :=
  wm_metw h ⟨h1.1, Nat.le_refl _, Nat.le_refl _, h1.2⟩ ⟨Nat.le_refl _, Nat.le_refl _⟩ (fun _ _ q => q) (fun _ _ _ _ q => ⟨by obtain ⟨⟨r, u, e1, e2, e3⟩, -⟩ := q; exact ⟨r, u, e1, hp r u e2, e3⟩, q.2⟩)
theorem wm_wl2 {fr' lo' : Nat} {post post' : Int64 → (Nat → va_E) → Prop} (h : Met l y ws { frames := fr, cells := 0, slots := 0, locals := lo } (va_Pc av (wm_G D C b n E)) (va_Ql post (fun E' t => wm_P D b n E' t.heap) (wm_A b)) 0 0 (wm_A b)) (h1 : fr ≤ fr' ∧ lo ≤ lo') (hp : ∀ r E', post r E' → post' r E') : Met l y ws { frames := fr', cells := 0, slots := 0, locals := lo' } (va_Pc av (wm_G D C b n E)) (va_Ql post' (fun E' t => wm_P D b n E' t.heap) (wm_A b)) 0 0 (wm_A b) :=
  wm_metw h ⟨h1.1, Nat.le_refl _, Nat.le_refl _, h1.2⟩ ⟨Nat.le_refl _, Nat.le_refl _⟩ (fun _ _ q => q) (fun _ _ _ _ q => ⟨by obtain ⟨⟨r, u, e1, e2, e3⟩, -⟩ := q; exact ⟨r, u, e1, hp r u e2, e3⟩, q.2⟩)
theorem wm_wv {fr' lo' : Nat} {post post' : (Nat → va_E) → Prop} (h : Met l y ws { frames := fr, cells := 0, slots := 0, locals := lo } (va_Pc av (wm_G D C b n E)) (va_Qv post (fun E' t => wm_P D b n E' t.heap) (wm_A b)) 0 0 (wm_A b)) (h1 : fr ≤ fr' ∧ lo ≤ lo') (hp : ∀ E', post E' → post' E') : Met l y ws { frames := fr', cells := 0, slots := 0, locals := lo' } (va_Pc av (wm_G D C b n E)) (va_Qv post' (fun E' t => wm_P D b n E' t.heap) (wm_A b)) 0 0 (wm_A b) :=
  wm_metw h ⟨h1.1, Nat.le_refl _, Nat.le_refl _, h1.2⟩ ⟨Nat.le_refl _, Nat.le_refl _⟩ (fun _ _ q => q) (fun _ _ _ _ q => ⟨by obtain ⟨⟨u, e1, e2, e3⟩, -⟩ := q; exact ⟨u, e1, hp u e2, e3⟩, q.2⟩)
end WMM
theorem wm_wide {p : Program} {l : Launch} {e : Env} {R : Room} {s : State} {m : MethodId} {args : Array Value} {below : List Frame} {meth : Method} {c : Code} {H : Heap} {locs : List Loc} {cells slots : Nat} {Q : State → Prop} {g : JFrame} {k n : Nat} (h1 : cells ≤ k) (h2 : slots ≤ n) (kk : W p l e R s m args below meth c H locs k n Q g) : W p l e R s m args below meth c H locs cells slots Q g := fun T hT X => kk T hT (stand_widen X h1 h2)
