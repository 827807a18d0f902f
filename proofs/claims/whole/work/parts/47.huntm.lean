/-! the reference's hunt: its queue holds the groups' states one by one -/
def wm_bk (s S : Nat) : List Nat := (List.range s).filter (fun x => S.testBit x)
theorem wm_bk_s (s S : Nat) : wm_bk (s + 1) S = wm_bk s S ++ (if S.testBit s then [s] else []) := by
  unfold wm_bk
  rw [List.range_succ, List.filter_append]
  congr 1
  cases h : S.testBit s <;> simp [h]
theorem wm_bk_ext {s S : Nat} (h : S < 2 ^ s) : ∀ d, wm_bk (s + d) S = wm_bk s S
  | 0 => rfl
  | d + 1 => by
    rw [← Nat.add_assoc, wm_bk_s, wm_bk_ext h d, wm_hi h (by omega)]
    simp
theorem wm_bk_mem {s S x : Nat} : x ∈ wm_bk s S ↔ x < s ∧ S.testBit x = true := by
  unfold wm_bk
  rw [List.mem_filter, List.mem_range]
/-- the queue: of each of the first k groups, its states with its number -/
def wm_ql (G : List wm_gp) : Nat → List (Nat × Nat)
  | 0 => []
  | k + 1 => wm_ql G k ++ (wm_bk 24 (G.getD k wm_g0).1).map (fun s => (s, k))
theorem wm_ql_cg {G G1 : List wm_gp} : ∀ k, (∀ j, j < k → G.getD j wm_g0 = G1.getD j wm_g0) → wm_ql G k = wm_ql G1 k
  | 0, _ => rfl
  | k + 1, h => by
    show wm_ql G k ++ _ = wm_ql G1 k ++ _
    rw [wm_ql_cg k (fun j hj => h j (by omega)), h k (Nat.lt_succ_self k)]
theorem wm_ql_len {G : List wm_gp} {k : Nat} : (wm_ql G (k + 1)).length = (wm_ql G k).length + (wm_bk 24 (G.getD k wm_g0).1).length := by
  show (wm_ql G k ++ _).length = _
  rw [List.length_append, List.length_map]
theorem wm_ql_mono {G : List wm_gp} {j : Nat} : ∀ k, j ≤ k → ∃ R, wm_ql G k = wm_ql G j ++ R ∧ ∀ q ∈ R, j ≤ q.2
  | 0, h => ⟨[], by rw [show j = 0 by omega]; rfl, fun q hq => absurd hq List.not_mem_nil⟩
  | k + 1, h => by
    by_cases e : j = k + 1
    · subst e
      exact ⟨[], (List.append_nil _).symm, fun q hq => absurd hq List.not_mem_nil⟩
    · obtain ⟨R, h1, h2⟩ := wm_ql_mono k (show j ≤ k by omega)
      refine ⟨R ++ (wm_bk 24 (G.getD k wm_g0).1).map (fun s => (s, k)), ?_, fun q hq => ?_⟩
      · show wm_ql G k ++ _ = _
        rw [h1, List.append_assoc]
      · rcases List.mem_append.mp hq with hq | hq
        · exact h2 q hq
        · obtain ⟨s, -, rfl⟩ := List.mem_map.mp hq
          show j ≤ k
          omega
theorem wm_ql_mem {G : List wm_gp} {q : Nat × Nat} : ∀ {k}, q ∈ wm_ql G k → q.2 < k ∧ q.1 < 24 ∧ (G.getD q.2 wm_g0).1.testBit q.1 = true
  | 0, h => absurd h List.not_mem_nil
  | k + 1, h => by
    rcases List.mem_append.mp h with h | h
    · have := wm_ql_mem h
      exact ⟨by omega, this.2⟩
    · obtain ⟨s, hs, rfl⟩ := List.mem_map.mp h
      exact ⟨Nat.lt_succ_self k, (wm_bk_mem.mp hs).1, (wm_bk_mem.mp hs).2⟩
theorem wm_ql_nd {G : List wm_gp} : ∀ k, (wm_ql G k).Nodup
  | 0 => List.nodup_nil
  | k + 1 => by
    show (wm_ql G k ++ _).Nodup
    rw [List.nodup_append]
    refine ⟨wm_ql_nd k, ?_, ?_⟩
    · rw [List.nodup_iff_pairwise_ne, List.pairwise_map]
      refine List.Pairwise.imp ?_ (List.Pairwise.filter _ (List.nodup_iff_pairwise_ne.mp List.nodup_range))
      intro x y hxy q
      exact hxy (congrArg Prod.fst q)
    · intro a ha c hc
      obtain ⟨s, -, rfl⟩ := List.mem_map.mp hc
      intro q
      have := (wm_ql_mem ha).1
      rw [q] at this
      exact absurd this (Nat.lt_irrefl _)
theorem wm_ql_cap {sc : Nat} {G : List wm_gp} (h : wm_gg sc G) (hsc : sc ≤ 2048) : (wm_ql G G.length).length ≤ 49152 := by
  have hp := wm_pig 49152 ((wm_ql G G.length).map (fun q => 2048 * q.1 + (G.getD q.2 wm_g0).2.1)) (by
    rw [List.nodup_iff_pairwise_ne, List.pairwise_map]
    refine List.Pairwise.imp_of_mem ?_ (List.nodup_iff_pairwise_ne.mp (wm_ql_nd G.length))
    intro x y hx hy hxy q
    have a1 := wm_ql_mem hx
    have a2 := wm_ql_mem hy
    have b1 := (h.1 x.2 a1.1).2.2.1
    have b2 := (h.1 y.2 a2.1).2.2.1
    have e1 : x.1 = y.1 := by omega
    have e2 : (G.getD x.2 wm_g0).2.1 = (G.getD y.2 wm_g0).2.1 := by omega
    by_cases hij : x.2 = y.2
    · exact hxy (Prod.ext e1 hij)
    · have h3 := h.2 x.2 y.2 a1.1 a2.1 hij e2
      have h4 : ((G.getD x.2 wm_g0).1 &&& (G.getD y.2 wm_g0).1).testBit x.1 = true := by
        rw [Nat.testBit_and, a1.2.2, e1, a2.2.2]; rfl
      rw [h3, Nat.zero_testBit] at h4
      cases h4) (fun x hx => by
    obtain ⟨q, hq, rfl⟩ := List.mem_map.mp hx
    have a1 := wm_ql_mem hq
    have b1 := (h.1 q.2 a1.1).2.2.1
    omega)
  simpa using hp
/-- the queue's rows, and what was seen -/
def wm_qr (Q : List (Nat × Nat)) (qs qw : Nat → Nat) : Prop := ∀ x, x < Q.length → qs x = (Q.getD x (0, 0)).1 ∧ qw x = (Q.getD x (0, 0)).2
theorem wm_qr_p {Q : List (Nat × Nat)} {qs qw : Nat → Nat} {s w : Nat} (h : wm_qr Q qs qw) : wm_qr (Q ++ [(s, w)]) (va_up qs Q.length s) (va_up qw Q.length w) := by
  intro x hx
  rw [List.length_append, List.length_singleton] at hx
  by_cases e : x = Q.length
  · subst e
    rw [va_up_self, va_up_self]
    simp
  · rw [va_up_ne _ _ e, va_up_ne _ _ e, List.getD_eq_getElem?_getD, List.getElem?_append_left (by omega), ← List.getD_eq_getElem?_getD]
    exact h x (by omega)
def wm_sn (G : List wm_gp) (sn : Nat → Bool) : Prop := ∀ s S, s < 24 → S < 2048 → sn (2048 * s + S) = (wm_mw G S).testBit s
/-- .. while the states x < s of a new group with the set T are put in -/
def wm_sp (G : List wm_gp) (N T s : Nat) (sn : Nat → Bool) : Prop := ∀ x S, x < 24 → S < 2048 → sn (2048 * x + S) = ((wm_mw G S).testBit x || (decide (S = T ∧ x < s) && N.testBit x))
theorem wm_sp0 {G : List wm_gp} {N T : Nat} {sn : Nat → Bool} (h : wm_sn G sn) : wm_sp G N T 0 sn := fun x S hx hS => by rw [h x S hx hS, decide_eq_false (by omega)]; simp
theorem wm_spy {G : List wm_gp} {N T s : Nat} {sn : Nat → Bool} (h : wm_sp G N T s sn) (hb : N.testBit s = true) (hT : T < 2048) : wm_sp G N T (s + 1) (va_up sn (2048 * s + T) true) := fun x S hx hS => by
  by_cases e : 2048 * x + S = 2048 * s + T
  · have e1 : x = s := by omega
    have e2 : S = T := by omega
    subst e1; subst e2
    rw [va_up_self, decide_eq_true (by omega), hb]; simp
  · rw [va_up_ne _ _ e, h x S hx hS]
    congr 2
    by_cases h1 : S = T ∧ x < s
    · rw [decide_eq_true h1, decide_eq_true (by omega)]
    · rw [decide_eq_false h1, decide_eq_false (by omega)]
theorem wm_spf {G : List wm_gp} {N T s : Nat} {sn : Nat → Bool} (h : wm_sp G N T s sn) (hb : N.testBit s = false) : wm_sp G N T (s + 1) sn := fun x S hx hS => by
  rw [h x S hx hS]
  congr 1
  by_cases e : x = s
  · rw [e, hb]; simp
  · congr 1
    by_cases h1 : S = T ∧ x < s
    · rw [decide_eq_true h1, decide_eq_true (by omega)]
    · rw [decide_eq_false h1, decide_eq_false (by omega)]
theorem wm_spe {G : List wm_gp} {N T c : Nat} {q : wm_gp} {sn : Nat → Bool} (h : wm_sp G N T c sn) (hN : N < 2 ^ c) (h1 : q.1 = N) (h2 : q.2.1 = T) : wm_sn (G ++ [q]) sn := fun x S hx hS => by
  rw [h x S hx hS, wm_mw_app, Nat.testBit_or, h1, h2]
  congr 1
  by_cases e : T = S
  · rw [if_pos e]
    by_cases hxc : x < c
    · rw [decide_eq_true ⟨e.symm, hxc⟩]; rfl
    · rw [wm_hi hN (by omega)]; simp
  · rw [if_neg e, decide_eq_false (fun q => e q.1.symm)]; simp
theorem wm_spz {G : List wm_gp} {T c : Nat} {sn : Nat → Bool} (h : wm_sp G 0 T c sn) : wm_sn G sn := fun x S hx hS => by
  rw [h x S hx hS]; simp
theorem wm_new_tb {G : List wm_gp} {m S x : Nat} (hx : x < 32) : (wm_new G m S).testBit x = (m.testBit x && !(wm_mw G S).testBit x) := by
  unfold wm_new
  rw [Nat.testBit_and, Nat.testBit_xor, wm_ones]
  simp [hx]
theorem wm_new_lt {G : List wm_gp} {m S d : Nat} (h : m < 2 ^ d) : wm_new G m S < 2 ^ d := Nat.lt_of_le_of_lt Nat.and_le_left h
/-- a list's states, put together -/
def wm_ob (xs : List Nat) : Nat := xs.foldl (fun a x => a ||| 1 <<< x) 0
theorem wm_ob_s (xs : List Nat) (x : Nat) : wm_ob (xs ++ [x]) = wm_ob xs ||| 1 <<< x := by
  unfold wm_ob
  rw [List.foldl_append]; rfl
theorem wm_ob_bk (S : Nat) : ∀ s, wm_ob (wm_bk s S) = S % 2 ^ s
  | 0 => by simp [wm_bk, wm_ob, Nat.mod_one]
  | s + 1 => by
    rw [wm_bk_s]
    cases h : S.testBit s
    · simp only [Bool.false_eq_true, if_false, List.append_nil]
      rw [wm_ob_bk S s]
      apply Nat.eq_of_testBit_eq
      intro i
      rw [Nat.testBit_mod_two_pow, Nat.testBit_mod_two_pow]
      by_cases e : i = s
      · subst e; simp [h]
      · congr 1
        by_cases h1 : i < s
        · rw [decide_eq_true h1, decide_eq_true (by omega)]
        · rw [decide_eq_false h1, decide_eq_false (by omega)]
    · simp only [if_true]
      rw [wm_ob_s, wm_ob_bk S s]
      apply Nat.eq_of_testBit_eq
      intro i
      rw [Nat.testBit_or, Nat.testBit_mod_two_pow, Nat.testBit_mod_two_pow, Nat.one_shiftLeft, Nat.testBit_two_pow]
      by_cases e : s = i
      · subst e; simp [h]
      · rw [decide_eq_false e, Bool.or_false]
        congr 1
        by_cases h1 : i < s
        · rw [decide_eq_true h1, decide_eq_true (by omega)]
        · rw [decide_eq_false h1, decide_eq_false (by omega)]
theorem wm_ob_all {S : Nat} (h : S < 2 ^ 24) : wm_ob (wm_bk 24 S) = S := by rw [wm_ob_bk, Nat.mod_eq_of_lt h]
theorem wm_ob_take {B : List Nat} {r : Nat} (h : r < B.length) : wm_ob (B.take (r + 1)) = wm_ob (B.take r) ||| 1 <<< B.getD r 0 := by
  rw [List.take_succ_eq_append_getElem h, wm_ob_s, List.getD_eq_getElem?_getD, List.getElem?_eq_getElem h]; rfl
/-- the group g's part of the queue -/
theorem wm_ql_at {G : List wm_gp} {g r : Nat} (hg : g < G.length) (hr : r < (wm_bk 24 (G.getD g wm_g0).1).length) : (wm_ql G g).length + r < (wm_ql G G.length).length ∧ (wm_ql G G.length).getD ((wm_ql G g).length + r) (0, 0) = ((wm_bk 24 (G.getD g wm_g0).1).getD r 0, g) := by
  obtain ⟨R, h1, -⟩ := wm_ql_mono (G := G) G.length (show g + 1 ≤ G.length by omega)
  have h2 : wm_ql G (g + 1) = wm_ql G g ++ (wm_bk 24 (G.getD g wm_g0).1).map (fun s => (s, g)) := rfl
  rw [h1, h2]
  generalize wm_bk 24 (G.getD g wm_g0).1 = B at hr ⊢
  refine ⟨by rw [List.length_append, List.length_append, List.length_map]; omega, ?_⟩
  rw [List.getD_eq_getElem?_getD, List.append_assoc, List.getElem?_append_right (by omega), Nat.add_sub_cancel_left, List.getElem?_append_left (by rw [List.length_map]; exact hr), List.getElem?_map, List.getD_eq_getElem?_getD, List.getElem?_eq_getElem hr]
  rfl
theorem wm_ql_nx {G : List wm_gp} {g : Nat} (hg : g < G.length) (hx : (wm_ql G (g + 1)).length < (wm_ql G G.length).length) : ((wm_ql G G.length).getD (wm_ql G (g + 1)).length (0, 0)).2 ≠ g := by
  obtain ⟨R, h1, h2⟩ := wm_ql_mono (G := G) G.length (show g + 1 ≤ G.length by omega)
  rw [h1] at hx ⊢
  rw [List.length_append] at hx
  rw [List.getD_eq_getElem?_getD, List.getElem?_append_right (Nat.le_refl _), Nat.sub_self, List.getElem?_eq_getElem (by omega)]
  have := h2 _ (List.getElem_mem (show 0 < R.length by omega))
  intro q
  have q2 : (R[0]'(by omega)).2 = g := q
  omega
theorem wm_bk_ne {S : Nat} (h : S < 2 ^ 24) (h0 : S ≠ 0) : 0 < (wm_bk 24 S).length := by
  obtain ⟨x, hx⟩ := Nat.exists_testBit_of_ne_zero h0
  have hm : x ∈ wm_bk 24 S := wm_bk_mem.mpr ⟨wm_bit_lt hx h, hx⟩
  exact List.length_pos_of_mem hm
theorem wm_ql_lt {sc : Nat} {G : List wm_gp} (h : wm_gg sc G) {g : Nat} : (wm_ql G g).length < (wm_ql G G.length).length → g < G.length := fun hx => by
  rcases Nat.lt_or_ge g G.length with q | q
  · exact q
  · obtain ⟨R, h1, -⟩ := wm_ql_mono (G := G) g q
    rw [h1, List.length_append] at hx
    omega
theorem wm_ql_gt {sc : Nat} {G : List wm_gp} (h : wm_gg sc G) {g : Nat} (hg : g < G.length) : (wm_ql G g).length < (wm_ql G G.length).length := by
  have := (wm_ql_at (r := 0) hg (wm_bk_ne (h.1 g hg).1.1 (h.1 g hg).2.1)).1
  omega
/-- a list in which nothing is bad; the first bad one -/
def wm_nb (e1 e2 : Nat) (G : List wm_gp) (m : Nat) : Prop := ∀ g, g < m → ¬ wm_bad e1 e2 (G.getD g wm_g0)
theorem wm_hunt_f {F1 F2 : Nat → Nat → Nat} {e1 e2 m : Nat} : ∀ (d fu i : Nat) (G : List wm_gp), d = m - i → i ≤ m → m < G.length → m - i < fu → wm_nb e1 e2 G m → wm_bad e1 e2 (G.getD m wm_g0) → (wm_hunt F1 F2 e1 e2 fu i G).2 = some m ∧ m < (wm_hunt F1 F2 e1 e2 fu i G).1.length ∧ ∀ j, j ≤ m → (wm_hunt F1 F2 e1 e2 fu i G).1.getD j wm_g0 = G.getD j wm_g0 := by
  intro d
  induction d with
  | zero =>
    intro fu i G hd hi hm hf hn hb
    have e : i = m := by omega
    subst e
    obtain ⟨fu, rfl⟩ : ∃ k, fu = k + 1 := ⟨fu - 1, by omega⟩
    rw [wm_hunt_b hm hb]
    exact ⟨rfl, hm, fun _ _ => rfl⟩
  | succ d ih =>
    intro fu i G hd hi hm hf hn hb
    obtain ⟨fu, rfl⟩ : ∃ k, fu = k + 1 := ⟨fu - 1, by omega⟩
    have hp := wm_ag8_pre F1 F2 G i 8
    rw [wm_hunt_s (by omega) (hn i (by omega))]
    obtain ⟨a1, a2, a3⟩ := ih fu (i + 1) (wm_ag8 F1 F2 G i 8) (by omega) (by omega) (by omega) (by omega) (fun g hg => by rw [hp.2 g (by omega)]; exact hn g hg) (by rw [hp.2 m hm]; exact hb)
    exact ⟨a1, a2, fun j hj => (a3 j hj).trans (hp.2 j (by omega))⟩
/-- the state that makes a set bad is new -/
theorem wm_badn {sc e1 e2 m S : Nat} {G : List wm_gp} (hg : wm_gg sc G) (hn : wm_nb e1 e2 G G.length) (hm : m < 2 ^ 24) (h1 : m &&& e1 ≠ 0) (h2 : S &&& e2 = 0) : wm_new G m S &&& e1 ≠ 0 := by
  obtain ⟨x, hx⟩ := Nat.exists_testBit_of_ne_zero h1
  rw [Nat.testBit_and, Bool.and_eq_true] at hx
  have hx24 := wm_bit_lt hx.1 hm
  intro q
  have h3 : (wm_new G m S &&& e1).testBit x = false := by rw [q, Nat.zero_testBit]
  rw [Nat.testBit_and, hx.2, Bool.and_true, wm_new_tb (by omega), hx.1] at h3
  have h4 : (wm_mw G S).testBit x = true := by simpa using h3
  unfold wm_mw at h4
  rw [wm_or_tb] at h4
  obtain ⟨g, hgl, hb⟩ := h4
  by_cases e : (G.getD g wm_g0).2.1 = S
  · rw [if_pos e] at hb
    refine hn g hgl ⟨fun z => ?_, by rw [e]; exact h2⟩
    have h5 : ((G.getD g wm_g0).1 &&& e1).testBit x = true := by rw [Nat.testBit_and, hb, hx.2]; rfl
    rw [z, Nat.zero_testBit] at h5
    cases h5
  · rw [if_neg e, Nat.zero_testBit] at hb
    cases hb
theorem wm_newsub {G : List wm_gp} {m S e1 : Nat} (h : m &&& e1 = 0) : wm_new G m S &&& e1 = 0 := by
  apply Nat.eq_of_testBit_eq
  intro x
  rw [Nat.zero_testBit, Nat.testBit_and]
  unfold wm_new
  rw [Nat.testBit_and]
  have h2 : (m &&& e1).testBit x = false := by rw [h, Nat.zero_testBit]
  rw [Nat.testBit_and] at h2
  cases hm : m.testBit x
  · simp
  · rw [hm, Bool.true_and] at h2
    rw [h2]; simp
theorem wm_nb_ag {e1 e2 m S a bf : Nat} {G : List wm_gp} (hn : wm_nb e1 e2 G G.length) (h : ¬ (m &&& e1 ≠ 0 ∧ S &&& e2 = 0)) : wm_nb e1 e2 (wm_ag G m S a bf) (wm_ag G m S a bf).length := by
  unfold wm_ag
  split
  · exact hn
  · intro g hg
    rw [List.length_append, List.length_singleton] at hg
    rcases Nat.lt_or_ge g G.length with q | q
    · rw [wm_gd_l q]; exact hn g q
    · have e : g = G.length := by omega
      subst e
      rw [wm_gd_r]
      rintro ⟨b1, b2⟩
      refine h ⟨fun z => b1 (wm_newsub z), b2⟩
theorem wm_gg_ag {sc : Nat} {G : List wm_gp} {sts S a bf : Nat} (h : wm_gg sc G) (hsc : sc ≤ 2048) (h1 : sts < 2 ^ 24) (h2 : S < sc) (h3 : a < 8) (h4 : bf < G.length ∨ (G.length = 0 ∧ bf = 0)) : wm_gg sc (wm_ag G sts S a bf) := by
  unfold wm_ag
  split
  · exact h
  · rename_i hn
    exact wm_gg_new h hsc h1 h2 h3 h4 hn
/-- chains look back alone -/
theorem wm_dep_cg {G G1 : List wm_gp} : ∀ (fu w : Nat), (∀ j, j ≤ w → G.getD j wm_g0 = G1.getD j wm_g0) → (∀ j, 0 < j → j ≤ w → (G.getD j wm_g0).2.2.2 < j) → wm_dep G fu w = wm_dep G1 fu w
  | 0, _, _, _ => rfl
  | fu + 1, w, h, hb => by
    show (if w = 0 then 0 else _) = if w = 0 then 0 else _
    by_cases e : w = 0
    · rw [if_pos e, if_pos e]
    · rw [if_neg e, if_neg e, ← h w (Nat.le_refl _)]
      have h1 := hb w (by omega) (Nat.le_refl _)
      rw [wm_dep_cg fu _ (fun j hj => h j (by omega)) (fun j h2 h3 => hb j h2 (by omega))]
theorem wm_upg_cg {G G1 : List wm_gp} {w : Nat} (h : ∀ j, j ≤ w → G.getD j wm_g0 = G1.getD j wm_g0) (hb : ∀ j, j ≤ w → (G.getD j wm_g0).2.2.2 ≤ j) : ∀ k, wm_upg G k w = wm_upg G1 k w ∧ wm_upg G k w ≤ w
  | 0 => ⟨rfl, Nat.le_refl _⟩
  | k + 1 => by
    obtain ⟨a1, a2⟩ := wm_upg_cg h hb k
    refine ⟨?_, Nat.le_trans (hb _ a2) a2⟩
    show (G.getD (wm_upg G k w) wm_g0).2.2.2 = (G1.getD (wm_upg G1 k w) wm_g0).2.2.2
    rw [← a1, h _ a2]
theorem wm_gg_bf {sc : Nat} {G : List wm_gp} (h : wm_gg sc G) {j : Nat} (hj : j < G.length) : (G.getD j wm_g0).2.2.2 ≤ j := by
  rcases (h.1 j hj).2.2.2 with q | q <;> omega
/-- the words' rows -/
def wm_wr (G : List wm_gp) (wb wl ws : Nat → Nat) : Prop := ∀ j, j < G.length → (0 < j → wb j = (G.getD j wm_g0).2.2.2) ∧ (0 < j → wl j = (G.getD j wm_g0).2.2.1) ∧ ws j = (G.getD j wm_g0).2.1
theorem wm_wr_p {G : List wm_gp} {wb wl ws : Nat → Nat} {q : wm_gp} {b9 : Nat} (h : wm_wr G wb wl ws) (hb : 0 < G.length → b9 = q.2.2.2) : wm_wr (G ++ [q]) (va_up wb G.length b9) (va_up wl G.length q.2.2.1) (va_up ws G.length q.2.1) := by
  intro j hj
  rw [List.length_append, List.length_singleton] at hj
  by_cases e : j = G.length
  · subst e
    rw [va_up_self, va_up_self, va_up_self, wm_gd_r]
    exact ⟨hb, fun _ => rfl, rfl⟩
  · rw [va_up_ne _ _ e, va_up_ne _ _ e, va_up_ne _ _ e, wm_gd_l (by omega)]
    exact h j (by omega)
theorem wm_wr_k {G : List wm_gp} {wb wl ws : Nat → Nat} {x y z : Nat} (h : wm_wr G wb wl ws) : wm_wr G (va_up wb G.length x) (va_up wl G.length y) (va_up ws G.length z) := fun j hj => by
  rw [va_up_ne _ _ (by omega), va_up_ne _ _ (by omega), va_up_ne _ _ (by omega)]
  exact h j hj
theorem wm_kp1 {k : Nat → Nat} {t d v : Nat} {g : Nat → Nat} (h : ∀ t9, t ≤ t9 → t9 < d → k t9 = g t9) (ht : 0 < t) (hv : g (t - 1) = v) : ∀ t9, t - 1 ≤ t9 → t9 < d → va_up k (t - 1) v t9 = g t9 := fun t9 h1 h2 => by
  by_cases e : t9 = t - 1
  · rw [e, va_up_self, hv]
  · rw [va_up_ne _ _ e]; exact h t9 (by omega) h2
theorem wm_bk_le {N s c : Nat} (h : s ≤ c) : (wm_bk s N).length ≤ (wm_bk c N).length := by
  obtain ⟨d, rfl⟩ : ∃ d, c = s + d := ⟨c - s, by omega⟩
  clear h
  induction d with
  | zero => exact Nat.le_refl _
  | succ d ih => rw [← Nat.add_assoc, wm_bk_s, List.length_append]; omega
theorem wm_bk_cap {Q : List (Nat × Nat)} {N c s w : Nat} (h : (Q ++ (wm_bk c N).map (fun x => (x, w))).length ≤ 49152) (hb : N.testBit s = true) (hs : s < c) : (Q ++ (wm_bk s N).map (fun x => (x, w))).length < 49152 := by
  rw [List.length_append, List.length_map] at h ⊢
  have h1 := wm_bk_le (N := N) (show s + 1 ≤ c by omega)
  rw [wm_bk_s, hb, List.length_append] at h1
  have h2 : (if true = true then [s] else []).length = 1 := rfl
  omega
theorem wm_ql_app {G : List wm_gp} {q : wm_gp} : wm_ql (G ++ [q]) (G ++ [q]).length = wm_ql G G.length ++ (wm_bk 24 q.1).map (fun s => (s, G.length)) := by
  rw [List.length_append, List.length_singleton]
  show wm_ql (G ++ [q]) G.length ++ _ = _
  rw [wm_gd_r, wm_ql_cg G.length (fun j hj => wm_gd_l hj)]
theorem wm_bk24 {c N : Nat} (hc : c ≤ 24) (hN : N < 2 ^ c) : wm_bk 24 N = wm_bk c N := by
  obtain ⟨d, hd⟩ : ∃ d, 24 = c + d := ⟨24 - c, by omega⟩
  rw [hd, wm_bk_ext hN]
theorem wm_bk0 (s : Nat) : wm_bk s 0 = [] := by
  unfold wm_bk
  rw [List.filter_eq_nil_iff]
  intro a _
  simp
/-- a set of states comes, with its word -/
theorem wm_adv {sc c m S a bf b9 : Nat} {G : List wm_gp} {qs qw wb wl ws : Nat → Nat} {sn : Nat → Bool} (hg : wm_gg sc G) (hsc : sc ≤ 2048) (hc : c ≤ 24) (hm : m < 2 ^ c) (hS : S < sc) (ha : a < 8) (hbf : bf < G.length ∨ (G.length = 0 ∧ bf = 0))
    (hq : wm_qr (wm_ql G G.length ++ (wm_bk c (wm_new G m S)).map (fun x => (x, G.length))) qs qw) (hs : wm_sp G (wm_new G m S) S c sn) (hw : wm_wr G wb wl ws) (hb : 0 < G.length → b9 = bf) :
    wm_gg sc (wm_ag G m S a bf) ∧ wm_qr (wm_ql (wm_ag G m S a bf) (wm_ag G m S a bf).length) qs qw ∧ wm_sn (wm_ag G m S a bf) sn ∧ wm_wr (wm_ag G m S a bf) (va_up wb G.length b9) (va_up wl G.length a) (va_up ws G.length S) ∧ (wm_ql G G.length ++ (wm_bk c (wm_new G m S)).map (fun x => (x, G.length))).length = (wm_ql (wm_ag G m S a bf) (wm_ag G m S a bf).length).length := by
  have hN := wm_new_lt (G := G) (S := S) hm
  have hgg := wm_gg_ag hg hsc (Nat.lt_of_lt_of_le hm (Nat.pow_le_pow_right (by decide) hc)) hS ha hbf
  by_cases h0 : wm_new G m S = 0
  · have e : wm_ag G m S a bf = G := if_pos h0
    rw [e] at hgg ⊢
    rw [h0, wm_bk0] at hq ⊢
    rw [h0] at hs
    exact ⟨hgg, by simpa using hq, wm_spz hs, wm_wr_k hw, by simp⟩
  · have e : wm_ag G m S a bf = G ++ [(wm_new G m S, S, a, bf)] := if_neg h0
    rw [e] at hgg ⊢
    rw [wm_ql_app]
    show _ ∧ wm_qr (_ ++ (wm_bk 24 (wm_new G m S)).map _) _ _ ∧ _ ∧ _ ∧ _ = (_ ++ (wm_bk 24 (wm_new G m S)).map _).length
    rw [wm_bk24 hc hN]
    exact ⟨hgg, hq, wm_spe hs hN rfl rfl, wm_wr_p (q := (wm_new G m S, S, a, bf)) hw hb, rfl⟩
theorem wm_capq {sc c m S a bf : Nat} {G : List wm_gp} (hg : wm_gg sc G) (hsc : sc ≤ 2048) (hc : c ≤ 24) (hm : m < 2 ^ c) (hS : S < sc) (ha : a < 8) (hbf : bf < G.length ∨ (G.length = 0 ∧ bf = 0)) : (wm_ql G G.length ++ (wm_bk c (wm_new G m S)).map (fun x => (x, G.length))).length ≤ 49152 := by
  have hN := wm_new_lt (G := G) (S := S) hm
  have hgg := wm_gg_ag hg hsc (Nat.lt_of_lt_of_le hm (Nat.pow_le_pow_right (by decide) hc)) hS ha hbf
  by_cases h0 : wm_new G m S = 0
  · rw [h0, wm_bk0]
    simpa using wm_ql_cap hg hsc
  · have e : wm_ag G m S a bf = G ++ [(wm_new G m S, S, a, bf)] := if_neg h0
    rw [e] at hgg
    have h := wm_ql_cap hgg hsc
    rw [wm_ql_app] at h
    have h2 : wm_bk 24 (wm_new G m S, S, a, bf).1 = wm_bk c (wm_new G m S) := wm_bk24 hc hN
    rw [h2] at h
    exact h
theorem wm_agn {m S a bf c : Nat} {G : List wm_gp} (hc : c ≤ 24) (hm : m < 2 ^ c) (h : (wm_ql G G.length ++ (wm_bk c (wm_new G m S)).map (fun x => (x, G.length))).length ≠ (wm_ql G G.length).length) : G.length + 1 = (wm_ag G m S a bf).length := by
  have h0 : wm_new G m S ≠ 0 := fun q => h (by rw [q, wm_bk0]; simp)
  rw [show wm_ag G m S a bf = G ++ [(wm_new G m S, S, a, bf)] from if_neg h0, List.length_append]
  rfl
theorem wm_agz {m S a bf c : Nat} {G : List wm_gp} (hc : c ≤ 24) (hm : m < 2 ^ c) (h : (wm_ql G G.length ++ (wm_bk c (wm_new G m S)).map (fun x => (x, G.length))).length = (wm_ql G G.length).length) : G.length + 1 - 1 = (wm_ag G m S a bf).length := by
  have h0 : wm_new G m S = 0 := by
    rcases Nat.eq_zero_or_pos (wm_new G m S) with q | q
    · exact q
    · have h1 := wm_bk_ne (Nat.lt_of_lt_of_le (wm_new_lt (G := G) (S := S) hm) (Nat.pow_le_pow_right (by decide) hc)) (Nat.pos_iff_ne_zero.mp q)
      rw [wm_bk24 hc (wm_new_lt hm)] at h1
      rw [List.length_append, List.length_map] at h
      omega
  rw [show wm_ag G m S a bf = G from if_pos h0]
  omega
/-- the first bad one of the hunt -/
theorem wm_fd {H G2 : List wm_gp} {w sc : Nat} (hg : wm_gg sc G2) (hw : w < G2.length) (h : ∀ j, j ≤ w → H.getD j wm_g0 = G2.getD j wm_g0) : wm_dp H w = wm_dp G2 w ∧ ∀ k, H.getD (wm_upg H k w) wm_g0 = G2.getD (wm_upg G2 k w) wm_g0 := by
  have hs : ∀ j, j ≤ w → G2.getD j wm_g0 = H.getD j wm_g0 := fun j hj => (h j hj).symm
  have hb : ∀ j, j ≤ w → (G2.getD j wm_g0).2.2.2 ≤ j := fun j hj => wm_gg_bf hg (by omega)
  refine ⟨(wm_dep_cg w w hs (fun j h1 h2 => by rcases (hg.1 j (by omega)).2.2.2 with q | q <;> omega)).symm, fun k => ?_⟩
  obtain ⟨a1, a2⟩ := wm_upg_cg hs hb k
  rw [← a1, h _ a2]
theorem wm_fd8 {F1 F2 : Nat → Nat → Nat} {e1 e2 gi a sc : Nat} {G : List wm_gp} {R : List wm_gp × Option Nat} (hrun : wm_hunt F1 F2 e1 e2 (49153 - gi) gi G = R) (hgl : gi < G.length) (hb : ¬ wm_bad e1 e2 (G.getD gi wm_g0)) (ha : a < 8) (hnb : wm_nb e1 e2 (wm_ag8 F1 F2 G gi a) (wm_ag8 F1 F2 G gi a).length) (hgg : wm_gg sc (wm_ag8 F1 F2 G gi a)) (hg2 : wm_gg sc (wm_ag8 F1 F2 G gi (a + 1))) (hlen : (wm_ag8 F1 F2 G gi a).length ≤ 49152) (hm : F1 (G.getD gi wm_g0).1 a < 2 ^ 24) (h1 : F1 (G.getD gi wm_g0).1 a &&& e1 ≠ 0) (h2 : F2 (G.getD gi wm_g0).2.1 a &&& e2 = 0) :
    (wm_ag8 F1 F2 G gi a).length < (wm_ag8 F1 F2 G gi (a + 1)).length ∧ R.2 = some (wm_ag8 F1 F2 G gi a).length ∧ (wm_ag8 F1 F2 G gi a).length < R.1.length ∧ wm_dp R.1 (wm_ag8 F1 F2 G gi a).length = wm_dp (wm_ag8 F1 F2 G gi (a + 1)) (wm_ag8 F1 F2 G gi a).length ∧ ∀ k, R.1.getD (wm_upg R.1 k (wm_ag8 F1 F2 G gi a).length) wm_g0 = (wm_ag8 F1 F2 G gi (a + 1)).getD (wm_upg (wm_ag8 F1 F2 G gi (a + 1)) k (wm_ag8 F1 F2 G gi a).length) wm_g0 := by
  have hn := wm_badn hgg hnb hm h1 h2
  have hn0 : wm_new (wm_ag8 F1 F2 G gi a) (F1 (G.getD gi wm_g0).1 a) (F2 (G.getD gi wm_g0).2.1 a) ≠ 0 := fun q => by rw [q, Nat.zero_and] at hn; exact hn rfl
  have e : wm_ag8 F1 F2 G gi (a + 1) = wm_ag8 F1 F2 G gi a ++ [(wm_new (wm_ag8 F1 F2 G gi a) (F1 (G.getD gi wm_g0).1 a) (F2 (G.getD gi wm_g0).2.1 a), F2 (G.getD gi wm_g0).2.1 a, a, gi)] := if_neg hn0
  have hl : (wm_ag8 F1 F2 G gi a).length < (wm_ag8 F1 F2 G gi (a + 1)).length := by rw [e, List.length_append]; exact Nat.lt_succ_self _
  have hp := wm_ag8_pre F1 F2 G gi a
  have hmono : ∀ d, (wm_ag8 F1 F2 G gi (a + 1)).length ≤ (wm_ag8 F1 F2 G gi (a + 1 + d)).length ∧ ∀ j, j < (wm_ag8 F1 F2 G gi (a + 1)).length → (wm_ag8 F1 F2 G gi (a + 1 + d)).getD j wm_g0 = (wm_ag8 F1 F2 G gi (a + 1)).getD j wm_g0 := by
    intro d
    induction d with
    | zero => exact ⟨Nat.le_refl _, fun _ _ => rfl⟩
    | succ d ih =>
      have h := wm_ag_len (wm_ag8 F1 F2 G gi (a + 1 + d)) (F1 (G.getD gi wm_g0).1 (a + 1 + d)) (F2 (G.getD gi wm_g0).2.1 (a + 1 + d)) (a + 1 + d) gi
      exact ⟨Nat.le_trans ih.1 h.1, fun j hj => (h.2 j (by omega)).trans (ih.2 j hj)⟩
  have h8 := hmono (8 - (a + 1))
  rw [show a + 1 + (8 - (a + 1)) = 8 by omega] at h8
  have hstep : wm_hunt F1 F2 e1 e2 (49153 - (gi + 1)) (gi + 1) (wm_ag8 F1 F2 G gi 8) = R := by
    rw [← hrun, show 49153 - gi = 49153 - (gi + 1) + 1 by omega]
    exact (wm_hunt_s hgl hb).symm
  have hgd : ∀ j, j ≤ (wm_ag8 F1 F2 G gi a).length → (wm_ag8 F1 F2 G gi 8).getD j wm_g0 = (wm_ag8 F1 F2 G gi (a + 1)).getD j wm_g0 := fun j hj => h8.2 j (by omega)
  obtain ⟨f1, f2, f3⟩ := wm_hunt_f (F1 := F1) (F2 := F2) (e1 := e1) (e2 := e2) (m := (wm_ag8 F1 F2 G gi a).length) _ (49153 - (gi + 1)) (gi + 1) (wm_ag8 F1 F2 G gi 8) rfl (by omega) (by omega) (by omega) (fun g hg => by
      rw [hgd g (by omega), e, wm_gd_l hg]; exact hnb g hg) (by rw [hgd _ (Nat.le_refl _), e, wm_gd_r]; exact ⟨hn, h2⟩)
  rw [hstep] at f1 f2 f3
  obtain ⟨g1, g2⟩ := wm_fd hg2 hl (fun j hj => (f3 j hj).trans (hgd j hj))
  exact ⟨hl, f1, f2, g1, g2⟩
theorem wm_fd0 {F1 F2 : Nat → Nat → Nat} {e1 e2 m S : Nat} (hm : m < 2 ^ 24) (h1 : m &&& e1 ≠ 0) (h2 : S &&& e2 = 0) : wm_ag [] m S 0 0 = [(wm_new [] m S, S, 0, 0)] ∧ wm_hunt F1 F2 e1 e2 49153 0 (wm_ag [] m S 0 0) = (wm_ag [] m S 0 0, some 0) := by
  have hn := wm_badn (sc := 2048) (G := []) ⟨fun i hi => absurd hi (Nat.not_lt_zero _), fun i j hi => absurd hi (Nat.not_lt_zero _)⟩ (fun g hg => absurd hg (Nat.not_lt_zero _)) hm h1 h2
  have hn0 : wm_new [] m S ≠ 0 := fun q => by rw [q, Nat.zero_and] at hn; exact hn rfl
  have e : wm_ag [] m S 0 0 = [(wm_new [] m S, S, 0, 0)] := if_neg hn0
  refine ⟨e, ?_⟩
  rw [e]
  exact wm_hunt_b (fu := 49152) (by simp) ⟨hn, h2⟩
theorem wm_gg_nil {sc : Nat} : wm_gg sc [] := ⟨fun i hi => absurd hi (Nat.not_lt_zero _), fun i j hi => absurd hi (Nat.not_lt_zero _)⟩
theorem wm_wr_nil {wb wl ws : Nat → Nat} : wm_wr [] wb wl ws := fun j hj => absurd hj (Nat.not_lt_zero _)
theorem wm_sn_nil {sn : Nat → Bool} (h : ∀ x, x < 49152 → sn x = false) : wm_sn [] sn := fun s S hs hS => by rw [h _ (by omega)]; simp [wm_mw, wm_or]
theorem wm_ag_1 {m S : Nat} : 0 < (wm_ag [] m S 0 0).length → 0 + 1 = (wm_ag [] m S 0 0).length := by
  unfold wm_ag
  split
  · intro h; exact absurd h (Nat.lt_irrefl _)
  · intro _; rfl
theorem wm_gdm {α : Type} {L : List α} {x : Nat} {d : α} (h : x < L.length) : L.getD x d ∈ L := by
  rw [List.getD_eq_getElem?_getD, List.getElem?_eq_getElem h]; exact List.getElem_mem h
theorem wm_gdn {L : List Nat} {x : Nat} (h : x < L.length) : L.getD x 0 ∈ L := wm_gdm h
theorem wm_bk_24 (S : Nat) : (wm_bk 24 S).length ≤ 24 := by
  have h := List.length_filter_le (fun x => S.testBit x) (List.range 24)
  rw [List.length_range] at h
  exact h
