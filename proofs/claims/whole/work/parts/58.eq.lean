/-! THE TWO SIDES COUNT ALIKE -/
theorem wm_vf_cg {f g : Nat → Nat} {L : List Nat} : ∀ {k : Nat}, (∀ a, a < k → f a = g a) → wm_vf f k L = wm_vf g k L := by
  intro k
  induction k with
  | zero => intro _; rfl
  | succ k ih =>
    intro h
    show wm_vis _ _ = wm_vis _ _
    rw [ih (fun a ha => h a (by omega)), h k (Nat.lt_succ_self _)]
theorem wm_bfs_cg {F G : Nat → Nat → Nat} (h : ∀ S a, a < 8 → F S a = G S a) : ∀ (fu i : Nat) (L : List Nat), wm_bfs F fu i L = wm_bfs G fu i L := by
  intro fu
  induction fu with
  | zero => intro i L; rfl
  | succ fu ih =>
    intro i L
    show (if _ then _ else _) = (if _ then _ else _)
    by_cases hi : i < L.length
    · rw [if_pos hi, if_pos hi, ih, wm_vf_cg (fun a ha => h _ a ha)]
    · rw [if_neg hi, if_neg hi]
theorem wm_ag8_cg {F1 F2 G1 G2 : Nat → Nat → Nat} (h1 : ∀ S a, a < 8 → F1 S a = G1 S a) (h2 : ∀ S a, a < 8 → F2 S a = G2 S a) (G : List wm_gp) (i : Nat) : ∀ k, k ≤ 8 → wm_ag8 F1 F2 G i k = wm_ag8 G1 G2 G i k := by
  intro k
  induction k with
  | zero => intro _; rfl
  | succ k ih =>
    intro hk
    show wm_ag _ _ _ _ _ = wm_ag _ _ _ _ _
    rw [ih (by omega), h1 _ k (by omega), h2 _ k (by omega)]
theorem wm_hunt_cg {F1 F2 G1 G2 : Nat → Nat → Nat} {e1 e2 : Nat} (h1 : ∀ S a, a < 8 → F1 S a = G1 S a) (h2 : ∀ S a, a < 8 → F2 S a = G2 S a) : ∀ (fu i : Nat) (G : List wm_gp), wm_hunt F1 F2 e1 e2 fu i G = wm_hunt G1 G2 e1 e2 fu i G := by
  intro fu
  induction fu with
  | zero => intro i G; rfl
  | succ fu ih =>
    intro i G
    show (if _ then _ else _) = (if _ then _ else _)
    by_cases hi : i < G.length
    · rw [if_pos hi, if_pos hi, wm_ag8_cg h1 h2 G i 8 (Nat.le_refl _), ih]
    · rw [if_neg hi, if_neg hi]
theorem wm_a8_cg {F G : Nat → Nat → Nat} (h : ∀ S a, a < 8 → F S a = G S a) {v w : Nat → Nat} {x S : Nat} (hv : v x = w x) : wm_a8 F v x 8 S = wm_a8 G w x 8 S := wm_sum_cg (fun a ha => by rw [h x a ha, hv])
theorem wm_cw_cg {F G : Nat → Nat → Nat} (h : ∀ S a, a < 8 → F S a = G S a) (L : List Nat) (s0 : Nat) : ∀ t S, wm_cw F L s0 t S = wm_cw G L s0 t S := by
  intro t
  induction t with
  | zero => intro S; rfl
  | succ t ih =>
    intro S
    show wm_sum _ _ = wm_sum _ _
    exact wm_sum_cg (fun j _ => wm_a8_cg h (ih _))
theorem wm_cwr_cg {F G : Nat → Nat → Nat} (h : ∀ S a, a < 8 → F S a = G S a) (L : List Nat) (s0 en t : Nat) : wm_cwr F L s0 en t = wm_cwr G L s0 en t := wm_sum_cg (fun j _ => by rw [wm_cw_cg h])
/-! the list of sets is closed -/
theorem wm_vis_mem {L : List Nat} {S x : Nat} : x ∈ wm_vis L S ↔ x ∈ L ∨ x = S := by
  unfold wm_vis
  split
  · rename_i h
    exact ⟨Or.inl, fun q => q.elim id (fun e => e ▸ h)⟩
  · rw [List.mem_append, List.mem_singleton]
theorem wm_vf_mem {f : Nat → Nat} {L : List Nat} {x : Nat} : ∀ {k : Nat}, x ∈ wm_vf f k L ↔ x ∈ L ∨ ∃ a, a < k ∧ f a = x := by
  intro k
  induction k with
  | zero => exact ⟨Or.inl, fun q => q.elim id (fun ⟨a, h, _⟩ => absurd h (Nat.not_lt_zero _))⟩
  | succ k ih =>
    show x ∈ wm_vis _ _ ↔ _
    rw [wm_vis_mem, ih]
    constructor
    · rintro ((h | ⟨a, h1, h2⟩) | h)
      · exact Or.inl h
      · exact Or.inr ⟨a, by omega, h2⟩
      · exact Or.inr ⟨k, by omega, h.symm⟩
    · rintro (h | ⟨a, h1, h2⟩)
      · exact Or.inl (Or.inl h)
      · by_cases e : a = k
        · subst e; exact Or.inr h2.symm
        · exact Or.inl (Or.inr ⟨a, by omega, h2⟩)
theorem wm_vis_nd {L : List Nat} {S : Nat} (h : L.Nodup) : (wm_vis L S).Nodup := by
  unfold wm_vis
  split
  · exact h
  · rename_i hn
    rw [List.nodup_append]
    refine ⟨h, by simp, fun a ha b hb => ?_⟩
    rw [List.mem_singleton.mp hb]
    exact fun q => hn (q ▸ ha)
theorem wm_vf_nd {f : Nat → Nat} {L : List Nat} (h : L.Nodup) : ∀ {k : Nat}, (wm_vf f k L).Nodup := by
  intro k
  induction k with
  | zero => exact h
  | succ k ih => exact wm_vis_nd ih
theorem wm_getD_mem {L : List Nat} {i : Nat} (h : i < L.length) : L.getD i 0 ∈ L := by
  rw [List.getD_eq_getElem?_getD, List.getElem?_eq_getElem h]; exact List.getElem_mem h
theorem wm_mem_getD {L : List Nat} {x : Nat} (h : x ∈ L) : ∃ i, i < L.length ∧ L.getD i 0 = x := by
  obtain ⟨i, hi, e⟩ := List.getElem_of_mem h
  exact ⟨i, hi, by rw [List.getD_eq_getElem?_getD, List.getElem?_eq_getElem hi]; exact e⟩
theorem wm_bfs_ok {F : Nat → Nat → Nat} {sc s0 : Nat} (hsc : sc ≤ 2048) (hF : ∀ S a, S < sc → a < 8 → F S a < sc) : ∀ (fu i : Nat) (L : List Nat), 2049 ≤ fu + i → i ≤ L.length → L.Nodup → (∀ x ∈ L, x < sc) → s0 ∈ L → (∀ j, j < i → ∀ a, a < 8 → F (L.getD j 0) a ∈ L) → (wm_bfs F fu i L).Nodup ∧ (∀ x ∈ wm_bfs F fu i L, x < sc) ∧ s0 ∈ wm_bfs F fu i L ∧ ∀ x ∈ wm_bfs F fu i L, ∀ a, a < 8 → F x a ∈ wm_bfs F fu i L := by
  intro fu
  induction fu with
  | zero =>
    intro i L h1 h2 h3 h4 _ _
    have := wm_pig sc L h3 h4
    omega
  | succ fu ih =>
    intro i L h1 h2 h3 h4 h5 h6
    by_cases hi : i < L.length
    · rw [wm_bfs_s hi]
      have hx := h4 _ (wm_getD_mem hi)
      have hp := wm_vf_pre (fun a => F (L.getD i 0) a) L 8
      refine ih (i + 1) _ (by omega) (by omega) (wm_vf_nd h3) (fun x hx2 => ?_) (wm_vf_mem.mpr (Or.inl h5)) (fun j hj a ha => ?_)
      · rcases wm_vf_mem.mp hx2 with q | ⟨a, ha, q⟩
        · exact h4 x q
        · rw [← q]; exact hF _ a hx ha
      · rw [hp.2 j (by omega)]
        by_cases e : j = i
        · subst e; exact wm_vf_mem.mpr (Or.inr ⟨a, ha, rfl⟩)
        · exact wm_vf_mem.mpr (Or.inl (h6 j (by omega) a ha))
    · rw [wm_bfs_e (by omega)]
      refine ⟨h3, h4, h5, fun x hx a ha => ?_⟩
      obtain ⟨j, hj, rfl⟩ := wm_mem_getD hx
      exact h6 j (by omega) a ha
theorem wm_bfs_all {F : Nat → Nat → Nat} {sc s0 : Nat} (hsc : sc ≤ 2048) (hF : ∀ S a, S < sc → a < 8 → F S a < sc) (hs : s0 < sc) : (wm_bfs F 2049 0 [s0]).Nodup ∧ (∀ x ∈ wm_bfs F 2049 0 [s0], x < sc) ∧ s0 ∈ wm_bfs F 2049 0 [s0] ∧ ∀ x ∈ wm_bfs F 2049 0 [s0], ∀ a, a < 8 → F x a ∈ wm_bfs F 2049 0 [s0] := by
  refine wm_bfs_ok hsc hF 2049 0 [s0] (Nat.le_refl _) (Nat.zero_le _) (by simp) (fun x hx => ?_) (by simp) (fun j hj => absurd hj (Nat.not_lt_zero _))
  rw [List.mem_singleton.mp hx]; exact hs
/-! sums over a list and over all -/
theorem wm_sum_hit {x : Nat → Nat} {v c : Nat} : ∀ {k : Nat}, (∀ i j, i < k → j < k → x i = x j → i = j) → (∃ i, i < k ∧ c = x i) → wm_sum k (fun i => if c = x i then v else 0) = v := by
  intro k
  induction k with
  | zero => rintro _ ⟨i, h, _⟩; exact absurd h (Nat.not_lt_zero _)
  | succ k ih =>
    intro h hc
    rw [wm_sum_s]
    by_cases e : c = x k
    · rw [if_pos e, wm_sum_0, Nat.zero_add]
      intro j hj
      rw [if_neg (fun q => by have := h j k (by omega) (by omega) (q.symm.trans e); omega)]
    · rw [if_neg e, Nat.add_zero]
      obtain ⟨i, hi, hc⟩ := hc
      refine ih (fun i j hi hj => h i j (by omega) (by omega)) ⟨i, ?_, hc⟩
      by_cases e2 : i = k
      · subst e2; exact absurd hc e
      · omega
theorem wm_sum_list {L : List Nat} {f : Nat → Nat} {k : Nat} (hn : L.Nodup) (hl : ∀ x ∈ L, x < k) (hz : ∀ S, S < k → S ∉ L → f S = 0) : wm_sum k f = wm_sum L.length (fun j => f (L.getD j 0)) := by
  have h1 : wm_sum k f = wm_sum k (fun S => wm_sum L.length (fun j => if S = L.getD j 0 then f S else 0)) := by
    refine wm_sum_cg (fun S hS => ?_)
    by_cases hm : S ∈ L
    · obtain ⟨i, hi, e⟩ := wm_mem_getD hm
      exact (wm_sum_hit (wm_getD_inj hn) ⟨i, hi, e.symm⟩).symm
    · rw [hz S hS hm]
      exact (wm_sum_0 (fun j hj => by split <;> rfl)).symm
  rw [h1, wm_sum_swap]
  refine wm_sum_cg (fun j hj => ?_)
  have h2 := hl _ (wm_getD_mem hj)
  have h3 : wm_sum k (fun S => if S = L.getD j 0 then f S else 0) = wm_sum k (fun S => if L.getD j 0 = S then f (L.getD j 0) else 0) := wm_sum_cg (fun S _ => by
    by_cases e : S = L.getD j 0
    · rw [if_pos e, if_pos e.symm, e]
    · rw [if_neg e, if_neg (fun q => e q.symm)])
  rw [h3]
  exact wm_sum_hit (x := fun i => i) (fun i j _ _ h => h) ⟨_, h2, rfl⟩
theorem wm_cw_all {F : Nat → Nat → Nat} {L RL : List Nat} {s0 N : Nat} (hr : RL.length = N) (hd : ∀ j, j < N → RL.getD j 0 = j) (hn : L.Nodup) (hl : ∀ x ∈ L, x < N) (hs : s0 ∈ L) (hc : ∀ x ∈ L, ∀ a, a < 8 → F x a ∈ L) : ∀ t, (∀ S, S ∉ L → wm_cw F RL s0 t S = 0) ∧ ∀ S, wm_cw F RL s0 t S = wm_cw F L s0 t S := by
  intro t
  induction t with
  | zero => exact ⟨fun S hS => if_neg (fun e => hS (by rw [e]; exact hs)), fun S => rfl⟩
  | succ t ih =>
    have e1 : ∀ S, wm_cw F RL s0 (t + 1) S = wm_sum L.length (fun j => wm_a8 F (wm_cw F RL s0 t) (L.getD j 0) 8 S) := by
      intro S
      show wm_sum RL.length _ = _
      rw [hr]
      have e2 : wm_sum N (fun j => wm_a8 F (wm_cw F RL s0 t) (RL.getD j 0) 8 S) = wm_sum N (fun j => wm_a8 F (wm_cw F RL s0 t) j 8 S) := wm_sum_cg (fun j hj => by rw [hd j hj])
      rw [e2]
      exact wm_sum_list (f := fun j => wm_a8 F (wm_cw F RL s0 t) j 8 S) hn hl (fun x _ hx => wm_a8_0 (ih.1 x hx))
    refine ⟨fun S hS => ?_, fun S => ?_⟩
    · rw [e1]
      refine wm_sum_0 (fun j hj => wm_sum_0 (fun a ha => if_neg (fun e => hS ?_)))
      rw [← e]
      exact hc _ (wm_getD_mem hj) a ha
    · rw [e1]
      show _ = wm_sum L.length (fun j => wm_a8 F (wm_cw F L s0 t) (L.getD j 0) 8 S)
      exact wm_sum_cg (fun j hj => wm_a8_cg (fun _ _ _ => rfl) (ih.2 _))
theorem wm_cwr_all0 {F : Nat → Nat → Nat} {L RL : List Nat} {s0 en t N : Nat} (hr : RL.length = N) (hd : ∀ j, j < N → RL.getD j 0 = j) (hn : L.Nodup) (hl : ∀ x ∈ L, x < N) (hs : s0 ∈ L) (hc : ∀ x ∈ L, ∀ a, a < 8 → F x a ∈ L) : wm_cwr F RL s0 en t = wm_cwr F L s0 en t := by
  have h := wm_cw_all hr hd hn hl hs hc t
  show wm_sum RL.length _ = _
  rw [hr]
  have e2 : wm_sum N (fun j => if RL.getD j 0 &&& en ≠ 0 then wm_cw F RL s0 t (RL.getD j 0) else 0) = wm_sum N (fun j => if j &&& en ≠ 0 then wm_cw F RL s0 t j else 0) := wm_sum_cg (fun j hj => by rw [hd j hj])
  rw [e2, wm_sum_list (L := L) (f := fun j => if j &&& en ≠ 0 then wm_cw F RL s0 t j else 0) hn hl (fun x _ hx => by rw [h.1 x hx]; split <;> rfl)]
  exact wm_sum_cg (fun j _ => by rw [h.2])
theorem wm_cwr_all {F : Nat → Nat → Nat} {L : List Nat} {s0 en t : Nat} (hn : L.Nodup) (hl : ∀ x ∈ L, x < 2048) (hs : s0 ∈ L) (hc : ∀ x ∈ L, ∀ a, a < 8 → F x a ∈ L) : wm_cwr F (List.range 2048) s0 en t = wm_cwr F L s0 en t := wm_cwr_all0 wm_rgl (fun _ hj => wm_rgD hj) hn hl hs hc
/-! how many different keys -/
theorem wm_vf_len {f g : Nat → Nat} : ∀ {k : Nat}, (∀ i j, i < k → j < k → (f i = f j ↔ g i = g j)) → (wm_vf f k []).length = (wm_vf g k []).length := by
  intro k
  induction k with
  | zero => intro _; rfl
  | succ k ih =>
    intro h
    have e := ih (fun i j hi hj => h i j (by omega) (by omega))
    have hm : f k ∈ wm_vf f k [] ↔ g k ∈ wm_vf g k [] := by
      rw [wm_vf_mem, wm_vf_mem]
      constructor
      · rintro (q | ⟨a, ha, q⟩)
        · cases q
        · exact Or.inr ⟨a, ha, (h a k (by omega) (by omega)).mp q⟩
      · rintro (q | ⟨a, ha, q⟩)
        · cases q
        · exact Or.inr ⟨a, ha, (h a k (by omega) (by omega)).mpr q⟩
    show (wm_vis _ _).length = (wm_vis _ _).length
    unfold wm_vis
    by_cases q : f k ∈ wm_vf f k []
    · rw [if_pos q, if_pos (hm.mp q), e]
    · rw [if_neg q, if_neg (fun z => q (hm.mpr z)), List.length_append, List.length_append, e]; rfl
theorem wm_gr_tb {LB : List Nat} {S i : Nat} : ∀ {k : Nat}, (wm_gr LB S k).testBit i = true ↔ i < 11 ∧ ¬ ∃ x, x < k ∧ LB.getD x 0 &&& S = 0 ∧ (LB.getD x 0).testBit i = true := by
  intro k
  induction k with
  | zero =>
    show (2047 : Nat).testBit i = true ↔ _
    rw [wm_m11, decide_eq_true_eq]
    exact ⟨fun h => ⟨h, fun ⟨x, q, _⟩ => absurd q (Nat.not_lt_zero _)⟩, fun h => h.1⟩
  | succ k ih =>
    have hs : wm_gr LB S (k + 1) = if LB.getD k 0 &&& S = 0 then wm_gr LB S k &&& (LB.getD k 0 ^^^ 4294967295) else wm_gr LB S k := rfl
    rw [hs]
    by_cases h0 : LB.getD k 0 &&& S = 0
    · rw [if_pos h0, Nat.testBit_and, Bool.and_eq_true, ih, Nat.testBit_xor, wm_ones]
      constructor
      · rintro ⟨⟨h1, h2⟩, h3⟩
        refine ⟨h1, fun ⟨x, q1, q2, q3⟩ => ?_⟩
        by_cases e : x = k
        · subst e; rw [q3, decide_eq_true (by omega)] at h3; cases h3
        · exact h2 ⟨x, by omega, q2, q3⟩
      · rintro ⟨h1, h2⟩
        refine ⟨⟨h1, fun ⟨x, q1, q2, q3⟩ => h2 ⟨x, by omega, q2, q3⟩⟩, ?_⟩
        rw [decide_eq_true (by omega)]
        cases hb : (LB.getD k 0).testBit i
        · rfl
        · exact absurd ⟨k, by omega, h0, hb⟩ h2
    · rw [if_neg h0, ih]
      constructor
      · rintro ⟨h1, h2⟩
        refine ⟨h1, fun ⟨x, q1, q2, q3⟩ => ?_⟩
        by_cases e : x = k
        · subst e; exact h0 q2
        · exact h2 ⟨x, by omega, q2, q3⟩
      · rintro ⟨h1, h2⟩
        exact ⟨h1, fun ⟨x, q1, q2, q3⟩ => h2 ⟨x, by omega, q2, q3⟩⟩
theorem wm_dis {B S cn : Nat} (hB : B < 2 ^ cn) (hc : cn ≤ 11) : wm_sub B ((2 ^ cn - 1) &&& (S ^^^ 4294967295)) ↔ B &&& S = 0 := by
  constructor
  · intro h
    apply wm_eqb
    intro i
    rw [Nat.testBit_and, Nat.zero_testBit, Bool.and_eq_true]
    refine ⟨fun ⟨q1, q2⟩ => ?_, fun q => by cases q⟩
    have := h i q1
    rw [Nat.testBit_and, Nat.testBit_xor, q2, wm_ones, decide_eq_true (by have := wm_bit_lt q1 hB; omega), Bool.and_eq_true] at this
    exact this.2
  · intro h i hi
    have h1 := wm_bit_lt hi hB
    have h2 : (B &&& S).testBit i = false := by rw [h, Nat.zero_testBit]
    rw [Nat.testBit_and, hi, Bool.true_and] at h2
    rw [Nat.testBit_and, Nat.testBit_xor, h2, wm_ones, Nat.testBit_two_pow_sub_one, decide_eq_true h1, decide_eq_true (by omega)]
    rfl
theorem wm_keys {LB : List Nat} {cn : Nat} {un : Nat → Nat} (hc : cn ≤ 11) (hB : ∀ x ∈ LB, x < 2 ^ cn) (hu : ∀ S, S < 2 ^ cn → wm_un (fun x => decide (x ∈ LB)) (2 ^ cn) S (un S)) (S : Nat) (i : Nat) : (wm_gr LB S LB.length).testBit i = true ↔ i < 11 ∧ ¬ (un ((2 ^ cn - 1) &&& (S ^^^ 4294967295))).testBit i = true := by
  have hlt : (2 ^ cn - 1) &&& (S ^^^ 4294967295) < 2 ^ cn := Nat.lt_of_le_of_lt Nat.and_le_left (by have := Nat.two_pow_pos cn; omega)
  rw [wm_gr_tb, hu _ hlt i]
  have e : (∃ x, x < LB.length ∧ LB.getD x 0 &&& S = 0 ∧ (LB.getD x 0).testBit i = true) ↔ ∃ T, T < 2 ^ cn ∧ decide (T ∈ LB) = true ∧ wm_sub T ((2 ^ cn - 1) &&& (S ^^^ 4294967295)) ∧ T.testBit i = true := by
    constructor
    · rintro ⟨x, h1, h2, h3⟩
      have hm := wm_getD_mem h1
      exact ⟨_, hB _ hm, decide_eq_true hm, (wm_dis (hB _ hm) hc).mpr h2, h3⟩
    · rintro ⟨T, h1, h2, h3, h4⟩
      obtain ⟨x, hx, rfl⟩ := wm_mem_getD (of_decide_eq_true h2)
      exact ⟨x, hx, (wm_dis h1 hc).mp h3, h4⟩
  rw [e]
theorem wm_rests_eq {LB LS : List Nat} {cn : Nat} {un : Nat → Nat} (hc : cn ≤ 11) (hB : ∀ x ∈ LB, x < 2 ^ cn) (hu : ∀ S, S < 2 ^ cn → wm_un (fun x => decide (x ∈ LB)) (2 ^ cn) S (un S)) : (wm_vf (fun j => wm_gr LB (LS.getD j 0) LB.length) LS.length []).length = (wm_vf (fun j => un ((2 ^ cn - 1) &&& (LS.getD j 0 ^^^ 4294967295))) LS.length []).length := by
  refine wm_vf_len (fun i j _ _ => ?_)
  have hk := wm_keys hc hB hu
  have hul : ∀ S, un ((2 ^ cn - 1) &&& (S ^^^ 4294967295)) < 2 ^ 11 := fun S => by
    have hlt : (2 ^ cn - 1) &&& (S ^^^ 4294967295) < 2 ^ cn := Nat.lt_of_le_of_lt Nat.and_le_left (by have := Nat.two_pow_pos cn; omega)
    exact Nat.lt_of_lt_of_le (wm_un_lt (hu _ hlt) hlt) (Nat.pow_le_pow_right (by decide) hc)
  constructor
  · intro h
    apply wm_eqb
    intro x
    have h1 := hk (LS.getD i 0) x
    have h2 := hk (LS.getD j 0) x
    rw [show wm_gr LB (LS.getD i 0) LB.length = wm_gr LB (LS.getD j 0) LB.length from h] at h1
    have h3 := h1.symm.trans h2
    by_cases hx : x < 11
    · constructor
      · intro q
        exact Classical.byContradiction fun z => (h3.mpr ⟨hx, z⟩).2 q
      · intro q
        exact Classical.byContradiction fun z => (h3.mp ⟨hx, z⟩).2 q
    · exact ⟨fun q => absurd (wm_bit_lt q (hul _)) hx, fun q => absurd (wm_bit_lt q (hul _)) hx⟩
  · intro h
    apply wm_eqb
    intro x
    rw [hk, hk, show un ((2 ^ cn - 1) &&& (LS.getD i 0 ^^^ 4294967295)) = un ((2 ^ cn - 1) &&& (LS.getD j 0 ^^^ 4294967295)) from h]
/-! steps forward and back -/
/-- the rows of a machine on the two sides -/
def wm_sm (k cn : Nat) (ar g : Nat → Nat) : Prop := ∀ a x, a < 8 → x < cn → ar (192 * k + 8 * x + a) = g (a * 24 + x)
theorem wm_st_af {k cn : Nat} {ar g : Nat → Nat} (h : wm_sm k cn ar g) : ∀ S a, a < 8 → wm_st g cn a S = wm_af ar k cn a S := fun S a ha => wm_or_cg (fun x hx => by rw [h a x ha hx])
theorem wm_st_bf {k cn : Nat} {ar g g3 : Nat → Nat} (h : wm_sm k cn ar g) (hc : cn ≤ 24) (hg : ∀ a x, a < 8 → x < cn → g (a * 24 + x) < 2 ^ cn) (h3 : wm_bt cn 8 0 g g3) : ∀ S a, a < 8 → wm_st g3 cn a S = wm_bf ar k cn a S := by
  intro S a ha
  apply wm_eqb
  intro i
  rw [wm_st_tb]
  unfold wm_bf
  rw [wm_or_tb]
  constructor
  · rintro ⟨x, h1, h2, h4⟩
    rw [h3 a x i ha (by omega), Bool.and_eq_true, decide_eq_true_eq] at h4
    refine ⟨i, h4.1.2.1, ?_⟩
    rw [h a i ha h4.1.2.1, if_pos, wm_1s, decide_eq_true rfl]
    intro q
    have : (g (a * 24 + i) &&& S).testBit x = true := by rw [Nat.testBit_and, h4.2, h2]; rfl
    rw [q, Nat.zero_testBit] at this
    cases this
  · rintro ⟨x, h1, h2⟩
    rw [h a x ha h1] at h2
    by_cases q : g (a * 24 + x) &&& S = 0
    · rw [if_neg (fun z => z q), Nat.zero_testBit] at h2; cases h2
    · rw [if_pos q, wm_1s, decide_eq_true_eq] at h2
      subst h2
      obtain ⟨y, hy⟩ := Nat.exists_testBit_of_ne_zero q
      rw [Nat.testBit_and, Bool.and_eq_true] at hy
      have hyc := wm_bit_lt hy.1 (hg a i ha h1)
      refine ⟨y, hyc, hy.2, ?_⟩
      rw [h3 a y i ha (by omega), hy.1, decide_eq_true (by omega)]
      rfl
/-! takes -/
theorem wm_af0 {ar : Nat → Nat} {k cn a : Nat} : wm_af ar k cn a 0 = 0 := wm_or_z (fun j _ => by rw [Nat.zero_testBit]; rfl)
theorem wm_mt_0 {ar tx : Nat → Nat} {k cn en : Nat} : ∀ m i, wm_mt ar k cn en tx m i 0 = false := by
  intro m
  induction m with
  | zero => intro i; show decide (0 &&& en ≠ 0) = false; rw [Nat.zero_and]; rfl
  | succ m ih =>
    intro i
    show wm_mt ar k cn en tx m (i + 1) (if 97 ≤ tx i ∧ tx i ≤ 104 then wm_af ar k cn (tx i - 97) 0 else 0) = false
    rw [wm_af0]
    split <;> exact ih _
theorem wm_tk_mt {k cn en : Nat} {ar g tx : Nat → Nat} (h : wm_sm k cn ar g) : ∀ m i S, wm_tk g cn en tx m i S = wm_mt ar k cn en tx m i S := by
  intro m
  induction m with
  | zero => intro i S; rfl
  | succ m ih =>
    intro i S
    show (if wm_lo (tx i) = 4294967295 then false else _) = wm_mt ar k cn en tx m (i + 1) _
    by_cases hl : 97 ≤ tx i ∧ tx i < 105
    · rw [show wm_lo (tx i) = tx i - 97 from if_pos hl, if_neg (by omega), if_pos (by omega), ih, wm_st_af h _ _ (by omega)]
    · rw [show wm_lo (tx i) = 4294967295 from if_neg hl, if_pos rfl, if_neg (by omega), wm_mt_0]
/-! the machines made of others -/
theorem wm_turn_sm {i k cn : Nat} {ar ar1 na g g1 g3 : Nat → Nat} (h : wm_sm i cn ar g) (hc : cn ≤ 24) (hg : ∀ a x, a < 8 → x < cn → g (a * 24 + x) < 2 ^ cn) (h3 : wm_bt cn 8 0 g g3) (h13 : ∀ j, j < 192 → g1 j = g3 j) (ht : wm_t3 (fun s9 l9 t9 => if (ar (192 * i + 8 * t9 + l9)).testBit s9 then 1 <<< t9 else 0) cn cn 0 0 na) (hp : wm_cp (192 * k) 192 na ar ar1) : wm_sm k cn ar1 g1 := by
  intro a x ha hx
  rw [show 192 * k + 8 * x + a = 192 * k + (8 * x + a) by omega, hp.1 _ (by omega), ht x a (by omega) ha, if_pos hx, h13 _ (by omega)]
  apply wm_eqb
  intro j
  rw [wm_or_tb, h3 a x j ha (by omega), Bool.and_eq_true, decide_eq_true_eq]
  constructor
  · rintro ⟨t, h1, h2⟩
    dsimp only at h2
    rw [h a t ha h1] at h2
    by_cases q : (g (a * 24 + t)).testBit x = true
    · rw [if_pos q, wm_1s, decide_eq_true_eq] at h2
      subst h2
      exact ⟨⟨hx, h1, Or.inl ha⟩, q⟩
    · rw [if_neg q, Nat.zero_testBit] at h2; cases h2
  · rintro ⟨⟨_, h1, _⟩, h2⟩
    refine ⟨j, h1, ?_⟩
    dsimp only
    rw [h a j ha h1, if_pos h2, wm_1s, decide_eq_true rfl]
theorem wm_either_sm {i j k ci cj : Nat} {ar ar1 na gi gj g1 g3 : Nat → Nat} (hi : wm_sm i ci ar gi) (hj : wm_sm j cj ar gj) (hc : ci + cj ≤ 24) (h3 : wm_bb ci cj 8 0 gi gj g3) (h13 : ∀ j, j < 192 → g1 j = g3 j) (ht : wm_t2 (fun s9 l9 => if s9 < ci then ar (192 * i + 8 * s9 + l9) else ar (192 * j + 8 * (s9 - ci) + l9) <<< ci) (ci + cj) 0 na) (hp : wm_cp (192 * k) 192 na ar ar1) : wm_sm k (ci + cj) ar1 g1 := by
  intro a x ha hx
  rw [show 192 * k + 8 * x + a = 192 * k + (8 * x + a) by omega, hp.1 _ (by omega), ht x a (by omega) ha (Or.inl hx), h13 _ (by omega), h3 a x ha (by omega)]
  dsimp only
  by_cases q : x < ci
  · rw [if_pos q, if_neg (by omega), hi a x ha q]
  · rw [if_neg q, if_pos ⟨by omega, hx, Or.inl ha⟩, hj a _ ha (by omega)]
theorem wm_pm_pr {S1 S2 c1 c2 : Nat} (h1 : S1 < 2 ^ c1) (hc : c1 * c2 ≤ 24) (h2 : 1 ≤ c2) : wm_pm S1 S2 c2 = wm_pr S1 S2 c1 c2 := by
  have hc1 : c1 ≤ 24 := Nat.le_trans (Nat.le_mul_of_pos_right c1 h2) hc
  unfold wm_pm wm_pr
  rw [wm_or_ext hc1 (fun j hj _ => if_neg (fun q => absurd (wm_bit_lt q.2 h1) (by omega)))]
  refine wm_or_cg (fun j hj => ?_)
  have h3 : (j + 1) * c2 ≤ c1 * c2 := Nat.mul_le_mul_right c2 hj
  rw [Nat.succ_mul] at h3
  by_cases q : S1.testBit j = true
  · rw [if_pos q, if_pos ⟨by omega, q⟩]
  · rw [if_neg q, if_neg (fun z => q z.2)]
theorem wm_both_sm {i j k ci cj : Nat} {ar ar1 na gi gj g1 g3 : Nat → Nat} (hi : wm_sm i ci ar gi) (hj : wm_sm j cj ar gj) (hc : ci * cj ≤ 24) (hcj : 1 ≤ cj) (hg : ∀ a x, a < 8 → x < ci → gi (a * 24 + x) < 2 ^ ci) (h3 : wm_bp ci cj ci 0 gi gj g3) (h13 : ∀ j, j < 192 → g1 j = g3 j) (ht : wm_t2 (fun s9 l9 => wm_pm (ar (192 * i + 8 * (s9 / cj) + l9)) (ar (192 * j + 8 * (s9 % cj) + l9)) cj) (ci * cj) 0 na) (hp : wm_cp (192 * k) 192 na ar ar1) : wm_sm k (ci * cj) ar1 g1 := by
  intro a x ha hx
  have hd : x / cj < ci := (Nat.div_lt_iff_lt_mul hcj).mpr hx
  have hm : x % cj < cj := Nat.mod_lt _ hcj
  have e : x / cj * cj + x % cj = x := Nat.div_add_mod' x cj
  rw [show 192 * k + 8 * x + a = 192 * k + (8 * x + a) by omega, hp.1 _ (by omega), ht x a (by omega) ha (Or.inl hx), h13 _ (by omega)]
  have h4 := h3 a (x / cj) (x % cj) ha hd hm (Or.inl hd)
  rw [e] at h4
  dsimp only
  rw [h4, hi a _ ha hd, hj a _ ha hm, wm_pm_pr (hg a _ ha hd) hc hcj]
theorem wm_arcs8 (st en sv : Nat) : (if st.testBit sv then 1 else 0) ||| (if en.testBit sv then 2 else 0) = (st >>> sv &&& 1) + 2 * (en >>> sv &&& 1) := by
  rw [Nat.and_one_is_mod, Nat.and_one_is_mod, Nat.testBit_eq_decide_div_mod_eq, Nat.testBit_eq_decide_div_mod_eq, ← Nat.shiftRight_eq_div_pow, ← Nat.shiftRight_eq_div_pow]
  rcases Nat.mod_two_eq_zero_or_one (st >>> sv) with h1 | h1 <;> rcases Nat.mod_two_eq_zero_or_one (en >>> sv) with h2 | h2 <;> rw [h1, h2] <;> rfl
theorem wm_mk1 (z : Nat) (h : z < 4) : decide (z &&& 1 ≠ 0) = decide (z % 2 = 1) ∧ decide (z &&& 2 ≠ 0) = decide (1 < z) := by
  revert z; decide
