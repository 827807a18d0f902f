set_option maxHeartbeats 1000000 in
theorem s_feed {p : Program} {l : Launch} {e : Env} {R : Room} {s : State} {m : MethodId} {args : Array Value} {below : List Frame} {meth : Method} {c : Code} {Q : State → Prop} {D : va_G} {C : Nat → ClassId} {b a L : Nat} {xs : Nat → Int32} {i cells slots : Nat} {E : Nat → va_E} {H : Heap} {locs : List Loc} {ls : Array Slot} {S : wm_St} {th : Nat} {f : Nat → Int64} (V : wm_env p l R s m args meth c D C b a L xs) (hi : i + 6 ≤ L) (hcl : cells + 1 ≤ R.cells) (hsl : slots + 6 ≤ R.slots) (nx : wm_next p l e R s m args below meth c Q D C b a i (cells + 1) (slots + 6)) (st : wm_st9 D C b s E H locs S th f) (hl : lv_has ls 8 (wm_lvs a b i)) : W p l e R s m args below meth c H locs cells slots Q (F0 m 136 ls []) := by
  obtain ⟨hst, X, hV, hNc, hX, ha, hab, hL, hRf, hRl⟩ := V
  obtain ⟨hP, hS, hC, hB, hM, hE⟩ := st
  refine lv_aload_n X.1 X.2.1 dL_law_136 rfl (lv_at hl 2 rfl) ?_
  refine lv_aload_n X.1 X.2.1 dL_law_137 rfl (lv_at hl 1 rfl) ?_
  refine lv_iload X.1 X.2.1 dL_law_138 (lv_at hl 0 rfl) ?_
  refine lv_iconst (v := nI 1) X.1 X.2.1 dL_law_140 (by decide) ?_
  refine wm_iadd (x := i) (y := 1) X dL_law_141 ?_
  refine wm_sld (k := i + 1) X hX ha hab hS (by omega) (by omega) dL_law_142 ?_
  refine lv_aload_n X.1 X.2.1 dL_law_143 rfl (lv_at hl 1 rfl) ?_
  refine lv_iload X.1 X.2.1 dL_law_144 (lv_at hl 0 rfl) ?_
  refine lv_iconst (v := nI 2) X.1 X.2.1 dL_law_146 (by decide) ?_
  refine wm_iadd (x := i) (y := 2) X dL_law_147 ?_
  refine wm_sld (k := i + 2) X hX ha hab hS (by omega) (by omega) dL_law_148 ?_
  refine lv_i2l (v := (xs (i + 2)).toInt64) X.1 X.2.1 dL_law_149 rfl ?_
  refine lv_bipush (v := nI 32) X.1 X.2.1 dL_law_150 (by decide) ?_
  refine lv_lshl (v := ((xs (i + 2)).toInt64) <<< ((nI 32).toInt64 &&& 63)) X.1 X.2.1 dL_law_152 rfl ?_
  refine lv_aload_n X.1 X.2.1 dL_law_153 rfl (lv_at hl 1 rfl) ?_
  refine lv_iload X.1 X.2.1 dL_law_154 (lv_at hl 0 rfl) ?_
  refine lv_iconst (v := nI 3) X.1 X.2.1 dL_law_156 (by decide) ?_
  refine wm_iadd (x := i) (y := 3) X dL_law_157 ?_
  refine wm_sld (k := i + 3) X hX ha hab hS (by omega) (by omega) dL_law_158 ?_
  refine lv_i2l (v := (xs (i + 3)).toInt64) X.1 X.2.1 dL_law_159 rfl ?_
  refine lv_ldc2 (v := 4294967295) X.1 X.2.1 X.2.2.2.1 (X.2.2.2.2.1 _ wq6_87) dL_law_160 ?_
  refine lv_land X.1 X.2.1 dL_law_163 ?_
  refine lv_lor X.1 X.2.1 dL_law_164 ?_
  refine lv_aload_n X.1 X.2.1 dL_law_165 rfl (lv_at hl 4 rfl) ?_
  obtain ⟨v0, hv0, hveq⟩ := wm_longN ((((xs (i + 2)).toInt64) <<< ((nI 32).toInt64 &&& 63)) ||| (((xs (i + 3)).toInt64) &&& (4294967295 : Int64)))
  rw [hveq]
  refine wm_callH (k := 4) (As := [.ref (b + 0), .int (xs (i + 1)), .long (lN v0), .ref (b + 146)]) (rest := []) X hV hNc hP hS (h_feed l hst D C b E S f (xs (i + 1)) v0 hC hB hE hv0) wq2_5 wq2_6 wq1_0 wqW_L_feed (by decide) ⟨by omega, by omega⟩ rfl hl.1 rfl (Nat.le_of_ble_eq_true rfl) hcl hsl dL_law_166 (fun r1 E1 H locs hw hP hS => ?_)
  have hB0 := hB
  obtain ⟨S2, kc, v2, f2, rfl, hkc, ho, hC, hB, hE, hf2, hfr⟩ := hw
  have hM := hM.cg (fun j h1 h2 => hfr j h1 (by omega))
  refine lv_istore (lv' := [(5, .int (nI kc)), (4, .int (nI i)), (0, .ref a), (1, .ref (b + 0)), (2, .ref (b + 119)), (3, .ref (b + 146))]) X.1 X.2.1 dL_law_169 hl (by decide) rfl (fun ls hl => ?_)
  refine lv_aload_n X.1 X.2.1 dL_law_171 rfl (lv_at hl 4 rfl) ?_
  refine lv_aload_n X.1 X.2.1 dL_law_172 rfl (lv_at hl 2 rfl) ?_
  refine lv_iload X.1 X.2.1 dL_law_173 (lv_at hl 1 rfl) ?_
  refine lv_iconst (v := nI 1) X.1 X.2.1 dL_law_175 (by decide) ?_
  refine wm_iadd (x := i) (y := 1) X dL_law_176 ?_
  refine wm_sld (k := i + 1) X hX ha hab hS (by omega) (by omega) dL_law_177 ?_
  refine lv_aload_n X.1 X.2.1 dL_law_178 rfl (lv_at hl 2 rfl) ?_
  refine lv_iload X.1 X.2.1 dL_law_179 (lv_at hl 1 rfl) ?_
  refine lv_iconst (v := nI 2) X.1 X.2.1 dL_law_181 (by decide) ?_
  refine wm_iadd (x := i) (y := 2) X dL_law_182 ?_
  refine wm_sld (k := i + 2) X hX ha hab hS (by omega) (by omega) dL_law_183 ?_
  refine lv_i2l (v := (xs (i + 2)).toInt64) X.1 X.2.1 dL_law_184 rfl ?_
  refine lv_bipush (v := nI 32) X.1 X.2.1 dL_law_185 (by decide) ?_
  refine lv_lshl (v := ((xs (i + 2)).toInt64) <<< ((nI 32).toInt64 &&& 63)) X.1 X.2.1 dL_law_187 rfl ?_
  refine lv_aload_n X.1 X.2.1 dL_law_188 rfl (lv_at hl 2 rfl) ?_
  refine lv_iload X.1 X.2.1 dL_law_189 (lv_at hl 1 rfl) ?_
  refine lv_iconst (v := nI 3) X.1 X.2.1 dL_law_191 (by decide) ?_
  refine wm_iadd (x := i) (y := 3) X dL_law_192 ?_
  refine wm_sld (k := i + 3) X hX ha hab hS (by omega) (by omega) dL_law_193 ?_
  refine lv_i2l (v := (xs (i + 3)).toInt64) X.1 X.2.1 dL_law_194 rfl ?_
  refine lv_ldc2 (v := 4294967295) X.1 X.2.1 X.2.2.2.1 (X.2.2.2.2.1 _ wq6_87) dL_law_195 ?_
  refine lv_land X.1 X.2.1 dL_law_198 ?_
  refine lv_lor X.1 X.2.1 dL_law_199 ?_
  rw [hveq]
  obtain ⟨o1, o2, o3, o4, o5, o6, o7, o8, hO⟩ := id hM.1
  refine wm_callVi (k := 2) (As := [.int (xs (i + 1)), .long (lN v0)]) (rest := []) X hP hS (by omega) hO rfl (m_feed l D C b E1 S S2 th kc v2 (xs (i + 1)) v0 hM hB0 ho) wq5_144 wq5_145 wq5_146 wq1_8 wq5_147 (by decide) ⟨by omega, by omega⟩ rfl hl.1 rfl (Nat.le_of_ble_eq_true rfl) (by omega) (by omega) dL_law_200 (fun r2 E2 H locs hw hP hS => ?_)
  obtain ⟨v3, rfl, hv3, hM, hfr⟩ := hw
  have hC := hC.cg (fun j hj => hfr j (Or.inl hj))
  have hE := (hfr 146 (Or.inr (by omega))).trans hE
  refine lv_istore (lv' := [(6, .int (nI v3)), (5, .int (nI kc)), (4, .int (nI i)), (0, .ref a), (1, .ref (b + 0)), (2, .ref (b + 119)), (3, .ref (b + 146))]) X.1 X.2.1 dL_law_203 hl (by decide) rfl (fun ls hl => ?_)
  refine lv_aload_n X.1 X.2.1 dL_law_205 rfl (lv_at hl 5 rfl) ?_
  obtain ⟨o1, o2, o3, o4, o5, o6, o7, o8, hO⟩ := id hM.1
  refine wm_callVi (k := 0) (As := []) (rest := []) X hP hS (by omega) hO rfl (m_thrown l D C b E2 S2 kc hM) wq5_140 wq5_141 wq5_142 wq1_8 wq5_143 (by decide) ⟨by omega, by omega⟩ rfl hl.1 rfl (Nat.le_of_ble_eq_true rfl) (by omega) (by omega) dL_law_206 (fun r3 E3 H locs hw hP hS => ?_)
  obtain ⟨rfl, rfl⟩ := hw
  refine lv_iload X.1 X.2.1 dL_law_209 (lv_at hl 1 rfl) ?_
  refine lv_icmp_eq (tgt := 216) X.1 X.2.1 dL_law_211 (by decide) (fun _ => ?_) (fun h => absurd rfl h)
  refine lv_iload X.1 X.2.1 dL_law_216 (lv_at hl 1 rfl) ?_
  refine lv_if_ne (tgt := 233) X.1 X.2.1 dL_law_218 (by decide) (fun _ => ?_) (fun h => ?_)
  · refine lv_goto (tgt := 1296) X.1 X.2.1 dL_law_233 (by decide) ?_
    exact nx _ _ _ _ _ _ _ ⟨hP, hS, hC, hB, hM, hE⟩ (lv_sub hl [2, 3, 4, 5, 6] rfl)
  · have hk0 := wm_kc0 hkc h
    have hv3 := hv3 hk0
    have hf2 := hf2 hk0
    subst hv3
    refine lv_aload_n X.1 X.2.1 dL_law_221 rfl (lv_at hl 6 rfl) ?_
    refine lv_iconst (v := nI 0) X.1 X.2.1 dL_law_222 (by decide) ?_
    refine wm_laldR (N := 1) (i := 0) X hP (by omega) hE (by decide) (by decide) dL_law_223 ?_
    refine lv_iload X.1 X.2.1 dL_law_224 (lv_at hl 0 rfl) ?_
    refine lv_i2l (v := (nI v3).toInt64) X.1 X.2.1 dL_law_226 rfl ?_
    refine W.lcmp X.1 X.2.1 dL_law_227 ?_
    refine lv_if_eq (tgt := 233) X.1 X.2.1 dL_law_228 (by decide) (fun _ => ?_) (fun h => absurd (wm_cmp0 hf2) h)
    refine lv_goto (tgt := 1296) X.1 X.2.1 dL_law_233 (by decide) ?_
    exact nx _ _ _ _ _ _ _ ⟨hP, hS, hC, hB, hM, hE⟩ (lv_sub hl [2, 3, 4, 5, 6] rfl)
set_option maxHeartbeats 1000000 in
theorem s_wipe {p : Program} {l : Launch} {e : Env} {R : Room} {s : State} {m : MethodId} {args : Array Value} {below : List Frame} {meth : Method} {c : Code} {Q : State → Prop} {D : va_G} {C : Nat → ClassId} {b a L : Nat} {xs : Nat → Int32} {i cells slots : Nat} {E : Nat → va_E} {H : Heap} {locs : List Loc} {ls : Array Slot} {S : wm_St} {th : Nat} {f : Nat → Int64} (V : wm_env p l R s m args meth c D C b a L xs) (hi : i + 6 ≤ L) (hcl : cells + 1 ≤ R.cells) (hsl : slots + 6 ≤ R.slots) (nx : wm_next p l e R s m args below meth c Q D C b a i (cells + 1) (slots + 6)) (st : wm_st9 D C b s E H locs S th f) (hl : lv_has ls 8 (wm_lvs a b i)) : W p l e R s m args below meth c H locs cells slots Q (F0 m 236 ls []) := by
  obtain ⟨hst, X, hV, hNc, hX, ha, hab, hL, hRf, hRl⟩ := V
  obtain ⟨hP, hS, hC, hB, hM, hE⟩ := st
  refine lv_aload_n X.1 X.2.1 dL_law_236 rfl (lv_at hl 2 rfl) ?_
  refine wm_callVi (k := 0) (As := []) (rest := []) X hP hS (by omega) hC.1.1 rfl (c_wipe l D C b E S hC hB) wq1_229 wq1_230 wq1_231 wq1_1 wq1_232 (by decide) ⟨by omega, by omega⟩ rfl hl.1 rfl (Nat.le_of_ble_eq_true rfl) (by omega) (by omega) dL_law_237 (fun r1 E1 H locs hw hP hS => ?_)
  have hB0 := hB
  obtain ⟨S2, v2, rfl, ho, hC, hB, hfr⟩ := hw
  have hM := hM.cg (fun j h1 h2 => hfr j h1)
  have hE := (hfr 146 (by omega)).trans hE
  refine lv_aload_n X.1 X.2.1 dL_law_240 rfl (lv_at hl 3 rfl) ?_
  obtain ⟨o1, o2, o3, o4, o5, o6, o7, o8, hO⟩ := id hM.1
  refine wm_callVi (k := 0) (As := []) (rest := [.int (nI v2)]) X hP hS (by omega) hO rfl (m_wipe l D C b E1 S S2 th v2 hM hB0 ho) wq5_149 wq5_150 wq5_151 wq1_8 wq5_152 (by decide) ⟨by omega, by omega⟩ rfl hl.1 rfl (Nat.le_of_ble_eq_true rfl) (by omega) (by omega) dL_law_241 (fun r2 E2 H locs hw hP hS => ?_)
  obtain ⟨rfl, hM, hfr⟩ := hw
  have hC := hC.cg (fun j hj => hfr j (Or.inl hj))
  have hE := (hfr 146 (Or.inr (by omega))).trans hE
  refine lv_icmp_eq (tgt := 1296) X.1 X.2.1 dL_law_244 (by decide) (fun _ => ?_) (fun h => absurd rfl h)
  refine wm_wide (k := cells + 1) (n := slots + 6) (by omega) (by omega) ?_
  exact nx _ _ _ _ _ _ _ ⟨hP, hS, hC, hB, hM, hE⟩ (lv_sub hl [0, 1, 2, 3, 4] rfl)
set_option maxHeartbeats 1000000 in
theorem s_read {p : Program} {l : Launch} {e : Env} {R : Room} {s : State} {m : MethodId} {args : Array Value} {below : List Frame} {meth : Method} {c : Code} {Q : State → Prop} {D : va_G} {C : Nat → ClassId} {b a L : Nat} {xs : Nat → Int32} {i cells slots : Nat} {E : Nat → va_E} {H : Heap} {locs : List Loc} {ls : Array Slot} {S : wm_St} {th : Nat} {f : Nat → Int64} (V : wm_env p l R s m args meth c D C b a L xs) (hi : i + 6 ≤ L) (hcl : cells + 1 ≤ R.cells) (hsl : slots + 6 ≤ R.slots) (nx : wm_next p l e R s m args below meth c Q D C b a i (cells + 1) (slots + 6)) (st : wm_st9 D C b s E H locs S th f) (hl : lv_has ls 8 (wm_lvs a b i)) : W p l e R s m args below meth c H locs cells slots Q (F0 m 249 ls []) := by
  obtain ⟨hst, X, hV, hNc, hX, ha, hab, hL, hRf, hRl⟩ := V
  obtain ⟨hP, hS, hC, hB, hM, hE⟩ := st
  refine lv_aload_n X.1 X.2.1 dL_law_249 rfl (lv_at hl 2 rfl) ?_
  refine lv_aload_n X.1 X.2.1 dL_law_250 rfl (lv_at hl 1 rfl) ?_
  refine lv_iload X.1 X.2.1 dL_law_251 (lv_at hl 0 rfl) ?_
  refine lv_iconst (v := nI 1) X.1 X.2.1 dL_law_253 (by decide) ?_
  refine wm_iadd (x := i) (y := 1) X dL_law_254 ?_
  refine wm_sld (k := i + 1) X hX ha hab hS (by omega) (by omega) dL_law_255 ?_
  refine lv_aload_n X.1 X.2.1 dL_law_256 rfl (lv_at hl 4 rfl) ?_
  refine wm_callH (k := 3) (As := [.ref (b + 0), .int (xs (i + 1)), .ref (b + 146)]) (rest := []) X hV hNc hP hS (h_read l hst D C b E S f (xs (i + 1)) hC hB hE) wq2_80 wq2_81 wq1_0 wqW_L_read (by decide) ⟨by omega, by omega⟩ rfl hl.1 rfl (Nat.le_of_ble_eq_true rfl) hcl hsl dL_law_257 (fun r1 E1 H locs hw hP hS => ?_)
  have hzb : wm_zb (wm_z0 S.2.2.2.2) := hC.2.2.2.1.2
  have hB0 := hB
  obtain ⟨S2, kc, v2, f2, rfl, hkc, ho, hC, hB, hE, hf2, hfr⟩ := hw
  have hM := hM.cg (fun j h1 h2 => hfr j h1 (by omega))
  refine lv_istore (lv' := [(5, .int (nI kc)), (4, .int (nI i)), (0, .ref a), (1, .ref (b + 0)), (2, .ref (b + 119)), (3, .ref (b + 146))]) X.1 X.2.1 dL_law_260 hl (by decide) rfl (fun ls hl => ?_)
  refine lv_aload_n X.1 X.2.1 dL_law_262 rfl (lv_at hl 4 rfl) ?_
  refine lv_aload_n X.1 X.2.1 dL_law_263 rfl (lv_at hl 2 rfl) ?_
  refine lv_iload X.1 X.2.1 dL_law_264 (lv_at hl 1 rfl) ?_
  refine lv_iconst (v := nI 1) X.1 X.2.1 dL_law_266 (by decide) ?_
  refine wm_iadd (x := i) (y := 1) X dL_law_267 ?_
  refine wm_sld (k := i + 1) X hX ha hab hS (by omega) (by omega) dL_law_268 ?_
  obtain ⟨o1, o2, o3, o4, o5, o6, o7, o8, hO⟩ := id hM.1
  refine wm_callVi (k := 1) (As := [.int (xs (i + 1))]) (rest := []) X hP hS (by omega) hO rfl (m_read l D C b E1 S S2 th kc v2 (xs (i + 1)) hM hB0 ho hzb) wq5_153 wq5_154 wq5_155 wq1_8 wq5_156 (by decide) ⟨by omega, by omega⟩ rfl hl.1 rfl (Nat.le_of_ble_eq_true rfl) (by omega) (by omega) dL_law_269 (fun r2 E2 H locs hw hP hS => ?_)
  obtain ⟨v3, rfl, hv3, hM, hfr⟩ := hw
  have hC := hC.cg (fun j hj => hfr j (Or.inl hj))
  have hE := (hfr 146 (Or.inr (by omega))).trans hE
  refine lv_istore (lv' := [(6, .int (nI v3)), (5, .int (nI kc)), (4, .int (nI i)), (0, .ref a), (1, .ref (b + 0)), (2, .ref (b + 119)), (3, .ref (b + 146))]) X.1 X.2.1 dL_law_272 hl (by decide) rfl (fun ls hl => ?_)
  refine lv_aload_n X.1 X.2.1 dL_law_274 rfl (lv_at hl 5 rfl) ?_
  obtain ⟨o1, o2, o3, o4, o5, o6, o7, o8, hO⟩ := id hM.1
  refine wm_callVi (k := 0) (As := []) (rest := []) X hP hS (by omega) hO rfl (m_thrown l D C b E2 S2 kc hM) wq5_140 wq5_141 wq5_142 wq1_8 wq5_143 (by decide) ⟨by omega, by omega⟩ rfl hl.1 rfl (Nat.le_of_ble_eq_true rfl) (by omega) (by omega) dL_law_275 (fun r3 E3 H locs hw hP hS => ?_)
  obtain ⟨rfl, rfl⟩ := hw
  refine lv_iload X.1 X.2.1 dL_law_278 (lv_at hl 1 rfl) ?_
  refine lv_icmp_eq (tgt := 285) X.1 X.2.1 dL_law_280 (by decide) (fun _ => ?_) (fun h => absurd rfl h)
  refine lv_iload X.1 X.2.1 dL_law_285 (lv_at hl 1 rfl) ?_
  refine lv_if_ne (tgt := 302) X.1 X.2.1 dL_law_287 (by decide) (fun _ => ?_) (fun h => ?_)
  · refine lv_goto (tgt := 1296) X.1 X.2.1 dL_law_302 (by decide) ?_
    exact nx _ _ _ _ _ _ _ ⟨hP, hS, hC, hB, hM, hE⟩ (lv_sub hl [2, 3, 4, 5, 6] rfl)
  · have hk0 := wm_kc0 hkc h
    have hv3 := hv3 hk0
    have hf2 := hf2 hk0
    subst hv3
    refine lv_aload_n X.1 X.2.1 dL_law_290 rfl (lv_at hl 6 rfl) ?_
    refine lv_iconst (v := nI 0) X.1 X.2.1 dL_law_291 (by decide) ?_
    refine wm_laldR (N := 1) (i := 0) X hP (by omega) hE (by decide) (by decide) dL_law_292 ?_
    refine lv_iload X.1 X.2.1 dL_law_293 (lv_at hl 0 rfl) ?_
    refine lv_i2l (v := (nI v3).toInt64) X.1 X.2.1 dL_law_295 rfl ?_
    refine W.lcmp X.1 X.2.1 dL_law_296 ?_
    refine lv_if_eq (tgt := 302) X.1 X.2.1 dL_law_297 (by decide) (fun _ => ?_) (fun h => absurd (wm_cmp0 hf2) h)
    refine lv_goto (tgt := 1296) X.1 X.2.1 dL_law_302 (by decide) ?_
    exact nx _ _ _ _ _ _ _ ⟨hP, hS, hC, hB, hM, hE⟩ (lv_sub hl [2, 3, 4, 5, 6] rfl)
set_option maxHeartbeats 1000000 in
theorem s_fault {p : Program} {l : Launch} {e : Env} {R : Room} {s : State} {m : MethodId} {args : Array Value} {below : List Frame} {meth : Method} {c : Code} {Q : State → Prop} {D : va_G} {C : Nat → ClassId} {b a L : Nat} {xs : Nat → Int32} {i cells slots : Nat} {E : Nat → va_E} {H : Heap} {locs : List Loc} {ls : Array Slot} {S : wm_St} {th : Nat} {f : Nat → Int64} (V : wm_env p l R s m args meth c D C b a L xs) (hi : i + 6 ≤ L) (hcl : cells + 1 ≤ R.cells) (hsl : slots + 6 ≤ R.slots) (nx : wm_next p l e R s m args below meth c Q D C b a i (cells + 1) (slots + 6)) (st : wm_st9 D C b s E H locs S th f) (hl : lv_has ls 8 (wm_lvs a b i)) : W p l e R s m args below meth c H locs cells slots Q (F0 m 305 ls []) := by
  obtain ⟨hst, X, hV, hNc, hX, ha, hab, hL, hRf, hRl⟩ := V
  obtain ⟨hP, hS, hC, hB, hM, hE⟩ := st
  refine lv_aload_n X.1 X.2.1 dL_law_305 rfl (lv_at hl 2 rfl) ?_
  refine wm_callVi (k := 0) (As := []) (rest := []) X hP hS (by omega) hC.1.1 rfl (c_fault l D C b E S hC hB) wq1_233 wq1_234 wq1_235 wq1_1 wq1_236 (by decide) ⟨by omega, by omega⟩ rfl hl.1 rfl (Nat.le_of_ble_eq_true rfl) (by omega) (by omega) dL_law_306 (fun r1 E1 H locs hw hP hS => ?_)
  have hB0 := hB
  obtain ⟨S2, v2, rfl, ho, hC, hB, hfr⟩ := hw
  have hM := hM.cg (fun j h1 h2 => hfr j h1)
  have hE := (hfr 146 (by omega)).trans hE
  refine lv_aload_n X.1 X.2.1 dL_law_309 rfl (lv_at hl 3 rfl) ?_
  obtain ⟨o1, o2, o3, o4, o5, o6, o7, o8, hO⟩ := id hM.1
  refine wm_callVi (k := 0) (As := []) (rest := [.int (nI v2)]) X hP hS (by omega) hO rfl (m_fault l D C b E1 S S2 th v2 hM hB0 ho) wq5_212 wq5_213 wq5_214 wq1_8 wq5_215 (by decide) ⟨by omega, by omega⟩ rfl hl.1 rfl (Nat.le_of_ble_eq_true rfl) (by omega) (by omega) dL_law_310 (fun r2 E2 H locs hw hP hS => ?_)
  obtain ⟨rfl, hM, hfr⟩ := hw
  have hC := hC.cg (fun j hj => hfr j (Or.inl hj))
  have hE := (hfr 146 (Or.inr (by omega))).trans hE
  refine lv_icmp_eq (tgt := 1296) X.1 X.2.1 dL_law_313 (by decide) (fun _ => ?_) (fun h => absurd rfl h)
  refine wm_wide (k := cells + 1) (n := slots + 6) (by omega) (by omega) ?_
  exact nx _ _ _ _ _ _ _ ⟨hP, hS, hC, hB, hM, hE⟩ (lv_sub hl [0, 1, 2, 3, 4] rfl)
set_option maxHeartbeats 1000000 in
theorem s_place {p : Program} {l : Launch} {e : Env} {R : Room} {s : State} {m : MethodId} {args : Array Value} {below : List Frame} {meth : Method} {c : Code} {Q : State → Prop} {D : va_G} {C : Nat → ClassId} {b a L : Nat} {xs : Nat → Int32} {i cells slots : Nat} {E : Nat → va_E} {H : Heap} {locs : List Loc} {ls : Array Slot} {S : wm_St} {th : Nat} {f : Nat → Int64} (V : wm_env p l R s m args meth c D C b a L xs) (hi : i + 6 ≤ L) (hcl : cells + 1 ≤ R.cells) (hsl : slots + 6 ≤ R.slots) (nx : wm_next p l e R s m args below meth c Q D C b a i (cells + 1) (slots + 6)) (st : wm_st9 D C b s E H locs S th f) (hl : lv_has ls 8 (wm_lvs a b i)) : W p l e R s m args below meth c H locs cells slots Q (F0 m 318 ls []) := by
  obtain ⟨hst, X, hV, hNc, hX, ha, hab, hL, hRf, hRl⟩ := V
  obtain ⟨hP, hS, hC, hB, hM, hE⟩ := st
  refine lv_aload_n X.1 X.2.1 dL_law_318 rfl (lv_at hl 2 rfl) ?_
  refine wm_callVi (k := 0) (As := []) (rest := []) X hP hS (by omega) hC.1.1 rfl (c_place l D C b E S hC hB) wq1_237 wq1_238 wq1_239 wq1_1 wq2_0 (by decide) ⟨by omega, by omega⟩ rfl hl.1 rfl (Nat.le_of_ble_eq_true rfl) (by omega) (by omega) dL_law_319 (fun r1 E1 H locs hw hP hS => ?_)
  have hB0 := hB
  obtain ⟨S2, v2, rfl, ho, hC, hB, hfr⟩ := hw
  have hM := hM.cg (fun j h1 h2 => hfr j h1)
  have hE := (hfr 146 (by omega)).trans hE
  refine lv_aload_n X.1 X.2.1 dL_law_322 rfl (lv_at hl 3 rfl) ?_
  obtain ⟨o1, o2, o3, o4, o5, o6, o7, o8, hO⟩ := id hM.1
  refine wm_callVi (k := 0) (As := []) (rest := [.int (nI v2)]) X hP hS (by omega) hO rfl (m_place l D C b E1 S S2 th v2 hM hB0 ho) wq5_216 wq5_217 wq5_218 wq1_8 wq5_219 (by decide) ⟨by omega, by omega⟩ rfl hl.1 rfl (Nat.le_of_ble_eq_true rfl) (by omega) (by omega) dL_law_323 (fun r2 E2 H locs hw hP hS => ?_)
  obtain ⟨rfl, hM, hfr⟩ := hw
  have hC := hC.cg (fun j hj => hfr j (Or.inl hj))
  have hE := (hfr 146 (Or.inr (by omega))).trans hE
  refine lv_icmp_eq (tgt := 1296) X.1 X.2.1 dL_law_326 (by decide) (fun _ => ?_) (fun h => absurd rfl h)
  refine wm_wide (k := cells + 1) (n := slots + 6) (by omega) (by omega) ?_
  exact nx _ _ _ _ _ _ _ ⟨hP, hS, hC, hB, hM, hE⟩ (lv_sub hl [0, 1, 2, 3, 4] rfl)
set_option maxHeartbeats 1000000 in
theorem s_blank {p : Program} {l : Launch} {e : Env} {R : Room} {s : State} {m : MethodId} {args : Array Value} {below : List Frame} {meth : Method} {c : Code} {Q : State → Prop} {D : va_G} {C : Nat → ClassId} {b a L : Nat} {xs : Nat → Int32} {i cells slots : Nat} {E : Nat → va_E} {H : Heap} {locs : List Loc} {ls : Array Slot} {S : wm_St} {th : Nat} {f : Nat → Int64} (V : wm_env p l R s m args meth c D C b a L xs) (hi : i + 6 ≤ L) (hcl : cells + 1 ≤ R.cells) (hsl : slots + 6 ≤ R.slots) (nx : wm_next p l e R s m args below meth c Q D C b a i (cells + 1) (slots + 6)) (st : wm_st9 D C b s E H locs S th f) (hl : lv_has ls 8 (wm_lvs a b i)) : W p l e R s m args below meth c H locs cells slots Q (F0 m 331 ls []) := by
  obtain ⟨hst, X, hV, hNc, hX, ha, hab, hL, hRf, hRl⟩ := V
  obtain ⟨hP, hS, hC, hB, hM, hE⟩ := st
  refine lv_aload_n X.1 X.2.1 dL_law_331 rfl (lv_at hl 2 rfl) ?_
  refine lv_aload_n X.1 X.2.1 dL_law_332 rfl (lv_at hl 1 rfl) ?_
  refine lv_iload X.1 X.2.1 dL_law_333 (lv_at hl 0 rfl) ?_
  refine lv_iconst (v := nI 1) X.1 X.2.1 dL_law_335 (by decide) ?_
  refine wm_iadd (x := i) (y := 1) X dL_law_336 ?_
  refine wm_sld (k := i + 1) X hX ha hab hS (by omega) (by omega) dL_law_337 ?_
  refine lv_aload_n X.1 X.2.1 dL_law_338 rfl (lv_at hl 1 rfl) ?_
  refine lv_iload X.1 X.2.1 dL_law_339 (lv_at hl 0 rfl) ?_
  refine lv_iconst (v := nI 2) X.1 X.2.1 dL_law_341 (by decide) ?_
  refine wm_iadd (x := i) (y := 2) X dL_law_342 ?_
  refine wm_sld (k := i + 2) X hX ha hab hS (by omega) (by omega) dL_law_343 ?_
  refine wm_callH (k := 3) (As := [.ref (b + 0), .int (xs (i + 1)), .int (xs (i + 2))]) (rest := []) X hV hNc hP hS (h_blank l hst D C b E S f (xs (i + 1)) (xs (i + 2)) hC hB hE) wq2_216 wq2_217 wq1_0 wqW_L_blank (by decide) ⟨by omega, by omega⟩ rfl hl.1 rfl (Nat.le_of_ble_eq_true rfl) hcl hsl dL_law_344 (fun r1 E1 H locs hw hP hS => ?_)
  have hB0 := hB
  obtain ⟨S2, kc, f2, rfl, hkc, ho, hC, hB, hE, hfr⟩ := hw
  have hM := hM.cg (fun j h1 h2 => hfr j h1 (by omega))
  refine lv_istore (lv' := [(5, .int (nI kc)), (4, .int (nI i)), (0, .ref a), (1, .ref (b + 0)), (2, .ref (b + 119)), (3, .ref (b + 146))]) X.1 X.2.1 dL_law_347 hl (by decide) rfl (fun ls hl => ?_)
  refine lv_aload_n X.1 X.2.1 dL_law_349 rfl (lv_at hl 4 rfl) ?_
  refine lv_aload_n X.1 X.2.1 dL_law_350 rfl (lv_at hl 2 rfl) ?_
  refine lv_iload X.1 X.2.1 dL_law_351 (lv_at hl 1 rfl) ?_
  refine lv_iconst (v := nI 1) X.1 X.2.1 dL_law_353 (by decide) ?_
  refine wm_iadd (x := i) (y := 1) X dL_law_354 ?_
  refine wm_sld (k := i + 1) X hX ha hab hS (by omega) (by omega) dL_law_355 ?_
  refine lv_aload_n X.1 X.2.1 dL_law_356 rfl (lv_at hl 2 rfl) ?_
  refine lv_iload X.1 X.2.1 dL_law_357 (lv_at hl 1 rfl) ?_
  refine lv_iconst (v := nI 2) X.1 X.2.1 dL_law_359 (by decide) ?_
  refine wm_iadd (x := i) (y := 2) X dL_law_360 ?_
  refine wm_sld (k := i + 2) X hX ha hab hS (by omega) (by omega) dL_law_361 ?_
  obtain ⟨o1, o2, o3, o4, o5, o6, o7, o8, hO⟩ := id hM.1
  refine wm_callVv (k := 2) (As := [.int (xs (i + 1)), .int (xs (i + 2))]) (rest := []) X hP hS (by omega) hO rfl (m_blank l D C b E1 S S2 th kc (xs (i + 1)) (xs (i + 2)) hM hB0 ho) wq5_220 wq5_221 wq5_222 wq1_8 wq5_223 (by decide) ⟨by omega, by omega⟩ rfl hl.1 rfl (Nat.le_of_ble_eq_true rfl) (by omega) (by omega) dL_law_362 (fun E2 H locs hw hP hS => ?_)
  obtain ⟨hM, hfr⟩ := hw
  have hC := hC.cg (fun j hj => hfr j (Or.inl hj))
  have hE := (hfr 146 (Or.inr (by omega))).trans hE
  refine lv_aload_n X.1 X.2.1 dL_law_365 rfl (lv_at hl 4 rfl) ?_
  obtain ⟨o1, o2, o3, o4, o5, o6, o7, o8, hO⟩ := id hM.1
  refine wm_callVi (k := 0) (As := []) (rest := []) X hP hS (by omega) hO rfl (m_thrown l D C b E2 S2 kc hM) wq5_140 wq5_141 wq5_142 wq1_8 wq5_143 (by decide) ⟨by omega, by omega⟩ rfl hl.1 rfl (Nat.le_of_ble_eq_true rfl) (by omega) (by omega) dL_law_366 (fun r3 E3 H locs hw hP hS => ?_)
  obtain ⟨rfl, rfl⟩ := hw
  refine lv_iload X.1 X.2.1 dL_law_369 (lv_at hl 0 rfl) ?_
  refine lv_icmp_eq (tgt := 376) X.1 X.2.1 dL_law_371 (by decide) (fun _ => ?_) (fun h => absurd rfl h)
  refine lv_goto (tgt := 1296) X.1 X.2.1 dL_law_376 (by decide) ?_
  exact nx _ _ _ _ _ _ _ ⟨hP, hS, hC, hB, hM, hE⟩ (lv_sub hl [1, 2, 3, 4, 5] rfl)
set_option maxHeartbeats 1000000 in
theorem s_mark {p : Program} {l : Launch} {e : Env} {R : Room} {s : State} {m : MethodId} {args : Array Value} {below : List Frame} {meth : Method} {c : Code} {Q : State → Prop} {D : va_G} {C : Nat → ClassId} {b a L : Nat} {xs : Nat → Int32} {i cells slots : Nat} {E : Nat → va_E} {H : Heap} {locs : List Loc} {ls : Array Slot} {S : wm_St} {th : Nat} {f : Nat → Int64} (V : wm_env p l R s m args meth c D C b a L xs) (hi : i + 6 ≤ L) (hcl : cells + 1 ≤ R.cells) (hsl : slots + 6 ≤ R.slots) (nx : wm_next p l e R s m args below meth c Q D C b a i (cells + 1) (slots + 6)) (st : wm_st9 D C b s E H locs S th f) (hl : lv_has ls 8 (wm_lvs a b i)) : W p l e R s m args below meth c H locs cells slots Q (F0 m 379 ls []) := by
  obtain ⟨hst, X, hV, hNc, hX, ha, hab, hL, hRf, hRl⟩ := V
  obtain ⟨hP, hS, hC, hB, hM, hE⟩ := st
  refine lv_aload_n X.1 X.2.1 dL_law_379 rfl (lv_at hl 2 rfl) ?_
  refine lv_aload_n X.1 X.2.1 dL_law_380 rfl (lv_at hl 1 rfl) ?_
  refine lv_iload X.1 X.2.1 dL_law_381 (lv_at hl 0 rfl) ?_
  refine lv_iconst (v := nI 1) X.1 X.2.1 dL_law_383 (by decide) ?_
  refine wm_iadd (x := i) (y := 1) X dL_law_384 ?_
  refine wm_sld (k := i + 1) X hX ha hab hS (by omega) (by omega) dL_law_385 ?_
  refine lv_aload_n X.1 X.2.1 dL_law_386 rfl (lv_at hl 1 rfl) ?_
  refine lv_iload X.1 X.2.1 dL_law_387 (lv_at hl 0 rfl) ?_
  refine lv_iconst (v := nI 2) X.1 X.2.1 dL_law_389 (by decide) ?_
  refine wm_iadd (x := i) (y := 2) X dL_law_390 ?_
  refine wm_sld (k := i + 2) X hX ha hab hS (by omega) (by omega) dL_law_391 ?_
  refine lv_aload_n X.1 X.2.1 dL_law_392 rfl (lv_at hl 1 rfl) ?_
  refine lv_iload X.1 X.2.1 dL_law_393 (lv_at hl 0 rfl) ?_
  refine lv_iconst (v := nI 3) X.1 X.2.1 dL_law_395 (by decide) ?_
  refine wm_iadd (x := i) (y := 3) X dL_law_396 ?_
  refine wm_sld (k := i + 3) X hX ha hab hS (by omega) (by omega) dL_law_397 ?_
  refine wm_callH (k := 4) (As := [.ref (b + 0), .int (xs (i + 1)), .int (xs (i + 2)), .int (xs (i + 3))]) (rest := []) X hV hNc hP hS (h_mark l hst D C b E S f (xs (i + 1)) (xs (i + 2)) (xs (i + 3)) hC hB hE) wq2_225 wq2_226 wq1_0 wqW_L_mark (by decide) ⟨by omega, by omega⟩ rfl hl.1 rfl (Nat.le_of_ble_eq_true rfl) hcl hsl dL_law_398 (fun r1 E1 H locs hw hP hS => ?_)
  have hB0 := hB
  obtain ⟨S2, kc, f2, rfl, hkc, ho, hC, hB, hE, hfr⟩ := hw
  have hM := hM.cg (fun j h1 h2 => hfr j h1 (by omega))
  refine lv_istore (lv' := [(5, .int (nI kc)), (4, .int (nI i)), (0, .ref a), (1, .ref (b + 0)), (2, .ref (b + 119)), (3, .ref (b + 146))]) X.1 X.2.1 dL_law_401 hl (by decide) rfl (fun ls hl => ?_)
  refine lv_aload_n X.1 X.2.1 dL_law_403 rfl (lv_at hl 4 rfl) ?_
  refine lv_aload_n X.1 X.2.1 dL_law_404 rfl (lv_at hl 2 rfl) ?_
  refine lv_iload X.1 X.2.1 dL_law_405 (lv_at hl 1 rfl) ?_
  refine lv_iconst (v := nI 1) X.1 X.2.1 dL_law_407 (by decide) ?_
  refine wm_iadd (x := i) (y := 1) X dL_law_408 ?_
  refine wm_sld (k := i + 1) X hX ha hab hS (by omega) (by omega) dL_law_409 ?_
  refine lv_aload_n X.1 X.2.1 dL_law_410 rfl (lv_at hl 2 rfl) ?_
  refine lv_iload X.1 X.2.1 dL_law_411 (lv_at hl 1 rfl) ?_
  refine lv_iconst (v := nI 2) X.1 X.2.1 dL_law_413 (by decide) ?_
  refine wm_iadd (x := i) (y := 2) X dL_law_414 ?_
  refine wm_sld (k := i + 2) X hX ha hab hS (by omega) (by omega) dL_law_415 ?_
  refine lv_aload_n X.1 X.2.1 dL_law_416 rfl (lv_at hl 2 rfl) ?_
  refine lv_iload X.1 X.2.1 dL_law_417 (lv_at hl 1 rfl) ?_
  refine lv_iconst (v := nI 3) X.1 X.2.1 dL_law_419 (by decide) ?_
  refine wm_iadd (x := i) (y := 3) X dL_law_420 ?_
  refine wm_sld (k := i + 3) X hX ha hab hS (by omega) (by omega) dL_law_421 ?_
  obtain ⟨o1, o2, o3, o4, o5, o6, o7, o8, hO⟩ := id hM.1
  refine wm_callVv (k := 3) (As := [.int (xs (i + 1)), .int (xs (i + 2)), .int (xs (i + 3))]) (rest := []) X hP hS (by omega) hO rfl (m_mark l D C b E1 S S2 th kc (xs (i + 1)) (xs (i + 2)) (xs (i + 3)) hM hB0 ho) wq5_224 wq5_225 wq5_226 wq1_8 wq5_227 (by decide) ⟨by omega, by omega⟩ rfl hl.1 rfl (Nat.le_of_ble_eq_true rfl) (by omega) (by omega) dL_law_422 (fun E2 H locs hw hP hS => ?_)
  obtain ⟨hM, hfr⟩ := hw
  have hC := hC.cg (fun j hj => hfr j (Or.inl hj))
  have hE := (hfr 146 (Or.inr (by omega))).trans hE
  refine lv_aload_n X.1 X.2.1 dL_law_425 rfl (lv_at hl 4 rfl) ?_
  obtain ⟨o1, o2, o3, o4, o5, o6, o7, o8, hO⟩ := id hM.1
  refine wm_callVi (k := 0) (As := []) (rest := []) X hP hS (by omega) hO rfl (m_thrown l D C b E2 S2 kc hM) wq5_140 wq5_141 wq5_142 wq1_8 wq5_143 (by decide) ⟨by omega, by omega⟩ rfl hl.1 rfl (Nat.le_of_ble_eq_true rfl) (by omega) (by omega) dL_law_426 (fun r3 E3 H locs hw hP hS => ?_)
  obtain ⟨rfl, rfl⟩ := hw
  refine lv_iload X.1 X.2.1 dL_law_429 (lv_at hl 0 rfl) ?_
  refine lv_icmp_eq (tgt := 436) X.1 X.2.1 dL_law_431 (by decide) (fun _ => ?_) (fun h => absurd rfl h)
  refine lv_goto (tgt := 1296) X.1 X.2.1 dL_law_436 (by decide) ?_
  exact nx _ _ _ _ _ _ _ ⟨hP, hS, hC, hB, hM, hE⟩ (lv_sub hl [1, 2, 3, 4, 5] rfl)
set_option maxHeartbeats 1000000 in
theorem s_arc {p : Program} {l : Launch} {e : Env} {R : Room} {s : State} {m : MethodId} {args : Array Value} {below : List Frame} {meth : Method} {c : Code} {Q : State → Prop} {D : va_G} {C : Nat → ClassId} {b a L : Nat} {xs : Nat → Int32} {i cells slots : Nat} {E : Nat → va_E} {H : Heap} {locs : List Loc} {ls : Array Slot} {S : wm_St} {th : Nat} {f : Nat → Int64} (V : wm_env p l R s m args meth c D C b a L xs) (hi : i + 6 ≤ L) (hcl : cells + 1 ≤ R.cells) (hsl : slots + 6 ≤ R.slots) (nx : wm_next p l e R s m args below meth c Q D C b a i (cells + 1) (slots + 6)) (st : wm_st9 D C b s E H locs S th f) (hl : lv_has ls 8 (wm_lvs a b i)) : W p l e R s m args below meth c H locs cells slots Q (F0 m 439 ls []) := by
  obtain ⟨hst, X, hV, hNc, hX, ha, hab, hL, hRf, hRl⟩ := V
  obtain ⟨hP, hS, hC, hB, hM, hE⟩ := st
  by_cases hz5 : xs (i + 5) = 0
  · refine lv_aload_n X.1 X.2.1 dL_law_439 rfl (lv_at hl 2 rfl) ?_
    refine lv_aload_n X.1 X.2.1 dL_law_440 rfl (lv_at hl 1 rfl) ?_
    refine lv_iload X.1 X.2.1 dL_law_441 (lv_at hl 0 rfl) ?_
    refine lv_iconst (v := nI 1) X.1 X.2.1 dL_law_443 (by decide) ?_
    refine wm_iadd (x := i) (y := 1) X dL_law_444 ?_
    refine wm_sld (k := i + 1) X hX ha hab hS (by omega) (by omega) dL_law_445 ?_
    refine lv_aload_n X.1 X.2.1 dL_law_446 rfl (lv_at hl 1 rfl) ?_
    refine lv_iload X.1 X.2.1 dL_law_447 (lv_at hl 0 rfl) ?_
    refine lv_iconst (v := nI 2) X.1 X.2.1 dL_law_449 (by decide) ?_
    refine wm_iadd (x := i) (y := 2) X dL_law_450 ?_
    refine wm_sld (k := i + 2) X hX ha hab hS (by omega) (by omega) dL_law_451 ?_
    refine lv_aload_n X.1 X.2.1 dL_law_452 rfl (lv_at hl 1 rfl) ?_
    refine lv_iload X.1 X.2.1 dL_law_453 (lv_at hl 0 rfl) ?_
    refine lv_iconst (v := nI 3) X.1 X.2.1 dL_law_455 (by decide) ?_
    refine wm_iadd (x := i) (y := 3) X dL_law_456 ?_
    refine wm_sld (k := i + 3) X hX ha hab hS (by omega) (by omega) dL_law_457 ?_
    refine lv_aload_n X.1 X.2.1 dL_law_458 rfl (lv_at hl 1 rfl) ?_
    refine lv_iload X.1 X.2.1 dL_law_459 (lv_at hl 0 rfl) ?_
    refine lv_iconst (v := nI 4) X.1 X.2.1 dL_law_461 (by decide) ?_
    refine wm_iadd (x := i) (y := 4) X dL_law_462 ?_
    refine wm_sld (k := i + 4) X hX ha hab hS (by omega) (by omega) dL_law_463 ?_
    refine lv_aload_n X.1 X.2.1 dL_law_464 rfl (lv_at hl 1 rfl) ?_
    refine lv_iload X.1 X.2.1 dL_law_465 (lv_at hl 0 rfl) ?_
    refine lv_iconst (v := nI 5) X.1 X.2.1 dL_law_467 (by decide) ?_
    refine wm_iadd (x := i) (y := 5) X dL_law_468 ?_
    refine wm_sld (k := i + 5) X hX ha hab hS (by omega) (by omega) dL_law_469 ?_
    refine lv_if_eq (tgt := 477) X.1 X.2.1 dL_law_470 (by decide) (fun _ => ?_) (fun h => absurd hz5 h)
    refine lv_iconst (v := nI false.toNat) X.1 X.2.1 dL_law_477 (by decide) ?_
    refine lv_aload_n X.1 X.2.1 dL_law_478 rfl (lv_at hl 4 rfl) ?_
    refine wm_callH (k := 7) (As := [.ref (b + 0), .int (xs (i + 1)), .int (xs (i + 2)), .int (xs (i + 3)), .int (xs (i + 4)), .int (nI false.toNat), .ref (b + 146)]) (rest := []) X hV hNc hP hS (h_arc l hst D C b E S f (xs (i + 1)) (xs (i + 2)) (xs (i + 3)) (xs (i + 4)) false hC hB hE) wq3_0 wq3_1 wq1_0 wqW_L_arc (by decide) ⟨by omega, by omega⟩ rfl hl.1 rfl (Nat.le_of_ble_eq_true rfl) hcl hsl dL_law_479 (fun r1 E1 H locs hw hP hS => ?_)
    have hB0 := hB
    obtain ⟨S2, kc, v2, f2, rfl, hkc, ho, hC, hB, hE, hf2, hfr⟩ := hw
    have hM := hM.cg (fun j h1 h2 => hfr j h1 (by omega))
    refine lv_istore (lv' := [(5, .int (nI kc)), (4, .int (nI i)), (0, .ref a), (1, .ref (b + 0)), (2, .ref (b + 119)), (3, .ref (b + 146))]) X.1 X.2.1 dL_law_482 hl (by decide) rfl (fun ls hl => ?_)
    refine lv_aload_n X.1 X.2.1 dL_law_484 rfl (lv_at hl 4 rfl) ?_
    refine lv_aload_n X.1 X.2.1 dL_law_485 rfl (lv_at hl 2 rfl) ?_
    refine lv_iload X.1 X.2.1 dL_law_486 (lv_at hl 1 rfl) ?_
    refine lv_iconst (v := nI 1) X.1 X.2.1 dL_law_488 (by decide) ?_
    refine wm_iadd (x := i) (y := 1) X dL_law_489 ?_
    refine wm_sld (k := i + 1) X hX ha hab hS (by omega) (by omega) dL_law_490 ?_
    refine lv_aload_n X.1 X.2.1 dL_law_491 rfl (lv_at hl 2 rfl) ?_
    refine lv_iload X.1 X.2.1 dL_law_492 (lv_at hl 1 rfl) ?_
    refine lv_iconst (v := nI 2) X.1 X.2.1 dL_law_494 (by decide) ?_
    refine wm_iadd (x := i) (y := 2) X dL_law_495 ?_
    refine wm_sld (k := i + 2) X hX ha hab hS (by omega) (by omega) dL_law_496 ?_
    refine lv_aload_n X.1 X.2.1 dL_law_497 rfl (lv_at hl 2 rfl) ?_
    refine lv_iload X.1 X.2.1 dL_law_498 (lv_at hl 1 rfl) ?_
    refine lv_iconst (v := nI 3) X.1 X.2.1 dL_law_500 (by decide) ?_
    refine wm_iadd (x := i) (y := 3) X dL_law_501 ?_
    refine wm_sld (k := i + 3) X hX ha hab hS (by omega) (by omega) dL_law_502 ?_
    refine lv_aload_n X.1 X.2.1 dL_law_503 rfl (lv_at hl 2 rfl) ?_
    refine lv_iload X.1 X.2.1 dL_law_504 (lv_at hl 1 rfl) ?_
    refine lv_iconst (v := nI 4) X.1 X.2.1 dL_law_506 (by decide) ?_
    refine wm_iadd (x := i) (y := 4) X dL_law_507 ?_
    refine wm_sld (k := i + 4) X hX ha hab hS (by omega) (by omega) dL_law_508 ?_
    refine lv_aload_n X.1 X.2.1 dL_law_509 rfl (lv_at hl 2 rfl) ?_
    refine lv_iload X.1 X.2.1 dL_law_510 (lv_at hl 1 rfl) ?_
    refine lv_iconst (v := nI 5) X.1 X.2.1 dL_law_512 (by decide) ?_
    refine wm_iadd (x := i) (y := 5) X dL_law_513 ?_
    refine wm_sld (k := i + 5) X hX ha hab hS (by omega) (by omega) dL_law_514 ?_
    refine lv_if_eq (tgt := 522) X.1 X.2.1 dL_law_515 (by decide) (fun _ => ?_) (fun h => absurd hz5 h)
    refine lv_iconst (v := nI false.toNat) X.1 X.2.1 dL_law_522 (by decide) ?_
    obtain ⟨o1, o2, o3, o4, o5, o6, o7, o8, hO⟩ := id hM.1
    refine wm_callVi (k := 5) (As := [.int (xs (i + 1)), .int (xs (i + 2)), .int (xs (i + 3)), .int (xs (i + 4)), .int (nI false.toNat)]) (rest := []) X hP hS (by omega) hO rfl (m_arc l D C b E1 S S2 th kc v2 (xs (i + 1)) (xs (i + 2)) (xs (i + 3)) (xs (i + 4)) false hM hB0 ho) wq5_232 wq5_233 wq5_234 wq1_8 wq5_235 (by decide) ⟨by omega, by omega⟩ rfl hl.1 rfl (Nat.le_of_ble_eq_true rfl) (by omega) (by omega) dL_law_523 (fun r2 E2 H locs hw hP hS => ?_)
    obtain ⟨v3, rfl, hv3, hM, hfr⟩ := hw
    have hC := hC.cg (fun j hj => hfr j (Or.inl hj))
    have hE := (hfr 146 (Or.inr (by omega))).trans hE
    refine lv_istore (lv' := [(6, .int (nI v3.toNat)), (5, .int (nI kc)), (4, .int (nI i)), (0, .ref a), (1, .ref (b + 0)), (2, .ref (b + 119)), (3, .ref (b + 146))]) X.1 X.2.1 dL_law_526 hl (by decide) rfl (fun ls hl => ?_)
    refine lv_aload_n X.1 X.2.1 dL_law_528 rfl (lv_at hl 5 rfl) ?_
    obtain ⟨o1, o2, o3, o4, o5, o6, o7, o8, hO⟩ := id hM.1
    refine wm_callVi (k := 0) (As := []) (rest := []) X hP hS (by omega) hO rfl (m_thrown l D C b E2 S2 kc hM) wq5_140 wq5_141 wq5_142 wq1_8 wq5_143 (by decide) ⟨by omega, by omega⟩ rfl hl.1 rfl (Nat.le_of_ble_eq_true rfl) (by omega) (by omega) dL_law_529 (fun r3 E3 H locs hw hP hS => ?_)
    obtain ⟨rfl, rfl⟩ := hw
    refine lv_iload X.1 X.2.1 dL_law_532 (lv_at hl 1 rfl) ?_
    refine lv_icmp_eq (tgt := 539) X.1 X.2.1 dL_law_534 (by decide) (fun _ => ?_) (fun h => absurd rfl h)
    refine lv_iload X.1 X.2.1 dL_law_539 (lv_at hl 1 rfl) ?_
    refine lv_if_ne (tgt := 563) X.1 X.2.1 dL_law_541 (by decide) (fun _ => ?_) (fun h => ?_)
    · refine lv_goto (tgt := 1296) X.1 X.2.1 dL_law_563 (by decide) ?_
      exact nx _ _ _ _ _ _ _ ⟨hP, hS, hC, hB, hM, hE⟩ (lv_sub hl [2, 3, 4, 5, 6] rfl)
    · have hk0 := wm_kc0 hkc h
      have hv3 := hv3 hk0
      have hf2 := hf2 hk0
      subst hv3
      refine lv_aload_n X.1 X.2.1 dL_law_544 rfl (lv_at hl 6 rfl) ?_
      refine lv_iconst (v := nI 0) X.1 X.2.1 dL_law_545 (by decide) ?_
      refine wm_laldR (N := 1) (i := 0) X hP (by omega) hE (by decide) (by decide) dL_law_546 ?_
      refine lv_iload X.1 X.2.1 dL_law_547 (lv_at hl 0 rfl) ?_
      have hb3 : v3 = true ∨ v3 = false := by cases v3 <;> simp
      rcases hb3 with rfl | rfl
      · refine wm_ifz_eq (x := true) (tgt := 556) X dL_law_549 (by decide) (fun h => by exfalso; revert h; decide) (fun _ => ?_)
        refine lv_lconst (v := lN 1) X.1 X.2.1 dL_law_552 (by decide) ?_
        refine lv_goto (tgt := 557) X.1 X.2.1 dL_law_553 (by decide) ?_
        refine W.lcmp X.1 X.2.1 dL_law_557 ?_
        refine lv_if_eq (tgt := 563) X.1 X.2.1 dL_law_558 (by decide) (fun _ => ?_) (fun h => absurd (wm_cmp0 hf2) h)
        refine lv_goto (tgt := 1296) X.1 X.2.1 dL_law_563 (by decide) ?_
        exact nx _ _ _ _ _ _ _ ⟨hP, hS, hC, hB, hM, hE⟩ (lv_sub hl [2, 3, 4, 5, 6] rfl)
      · refine wm_ifz_eq (x := false) (tgt := 556) X dL_law_549 (by decide) (fun _ => ?_) (fun h => by exfalso; revert h; decide)
        refine lv_lconst (v := lN 0) X.1 X.2.1 dL_law_556 (by decide) ?_
        refine W.lcmp X.1 X.2.1 dL_law_557 ?_
        refine lv_if_eq (tgt := 563) X.1 X.2.1 dL_law_558 (by decide) (fun _ => ?_) (fun h => absurd (wm_cmp0 hf2) h)
        refine lv_goto (tgt := 1296) X.1 X.2.1 dL_law_563 (by decide) ?_
        exact nx _ _ _ _ _ _ _ ⟨hP, hS, hC, hB, hM, hE⟩ (lv_sub hl [2, 3, 4, 5, 6] rfl)
  · refine lv_aload_n X.1 X.2.1 dL_law_439 rfl (lv_at hl 2 rfl) ?_
    refine lv_aload_n X.1 X.2.1 dL_law_440 rfl (lv_at hl 1 rfl) ?_
    refine lv_iload X.1 X.2.1 dL_law_441 (lv_at hl 0 rfl) ?_
    refine lv_iconst (v := nI 1) X.1 X.2.1 dL_law_443 (by decide) ?_
    refine wm_iadd (x := i) (y := 1) X dL_law_444 ?_
    refine wm_sld (k := i + 1) X hX ha hab hS (by omega) (by omega) dL_law_445 ?_
    refine lv_aload_n X.1 X.2.1 dL_law_446 rfl (lv_at hl 1 rfl) ?_
    refine lv_iload X.1 X.2.1 dL_law_447 (lv_at hl 0 rfl) ?_
    refine lv_iconst (v := nI 2) X.1 X.2.1 dL_law_449 (by decide) ?_
    refine wm_iadd (x := i) (y := 2) X dL_law_450 ?_
    refine wm_sld (k := i + 2) X hX ha hab hS (by omega) (by omega) dL_law_451 ?_
    refine lv_aload_n X.1 X.2.1 dL_law_452 rfl (lv_at hl 1 rfl) ?_
    refine lv_iload X.1 X.2.1 dL_law_453 (lv_at hl 0 rfl) ?_
    refine lv_iconst (v := nI 3) X.1 X.2.1 dL_law_455 (by decide) ?_
    refine wm_iadd (x := i) (y := 3) X dL_law_456 ?_
    refine wm_sld (k := i + 3) X hX ha hab hS (by omega) (by omega) dL_law_457 ?_
    refine lv_aload_n X.1 X.2.1 dL_law_458 rfl (lv_at hl 1 rfl) ?_
    refine lv_iload X.1 X.2.1 dL_law_459 (lv_at hl 0 rfl) ?_
    refine lv_iconst (v := nI 4) X.1 X.2.1 dL_law_461 (by decide) ?_
    refine wm_iadd (x := i) (y := 4) X dL_law_462 ?_
    refine wm_sld (k := i + 4) X hX ha hab hS (by omega) (by omega) dL_law_463 ?_
    refine lv_aload_n X.1 X.2.1 dL_law_464 rfl (lv_at hl 1 rfl) ?_
    refine lv_iload X.1 X.2.1 dL_law_465 (lv_at hl 0 rfl) ?_
    refine lv_iconst (v := nI 5) X.1 X.2.1 dL_law_467 (by decide) ?_
    refine wm_iadd (x := i) (y := 5) X dL_law_468 ?_
    refine wm_sld (k := i + 5) X hX ha hab hS (by omega) (by omega) dL_law_469 ?_
    refine lv_if_eq (tgt := 477) X.1 X.2.1 dL_law_470 (by decide) (fun h => absurd h hz5) (fun _ => ?_)
    refine lv_iconst (v := nI true.toNat) X.1 X.2.1 dL_law_473 (by decide) ?_
    refine lv_goto (tgt := 478) X.1 X.2.1 dL_law_474 (by decide) ?_
    refine lv_aload_n X.1 X.2.1 dL_law_478 rfl (lv_at hl 4 rfl) ?_
    refine wm_callH (k := 7) (As := [.ref (b + 0), .int (xs (i + 1)), .int (xs (i + 2)), .int (xs (i + 3)), .int (xs (i + 4)), .int (nI true.toNat), .ref (b + 146)]) (rest := []) X hV hNc hP hS (h_arc l hst D C b E S f (xs (i + 1)) (xs (i + 2)) (xs (i + 3)) (xs (i + 4)) true hC hB hE) wq3_0 wq3_1 wq1_0 wqW_L_arc (by decide) ⟨by omega, by omega⟩ rfl hl.1 rfl (Nat.le_of_ble_eq_true rfl) hcl hsl dL_law_479 (fun r1 E4 H locs hw hP hS => ?_)
    have hB0 := hB
    obtain ⟨S2, kc, v2, f2, rfl, hkc, ho, hC, hB, hE, hf2, hfr⟩ := hw
    have hM := hM.cg (fun j h1 h2 => hfr j h1 (by omega))
    refine lv_istore (lv' := [(5, .int (nI kc)), (4, .int (nI i)), (0, .ref a), (1, .ref (b + 0)), (2, .ref (b + 119)), (3, .ref (b + 146))]) X.1 X.2.1 dL_law_482 hl (by decide) rfl (fun ls hl => ?_)
    refine lv_aload_n X.1 X.2.1 dL_law_484 rfl (lv_at hl 4 rfl) ?_
    refine lv_aload_n X.1 X.2.1 dL_law_485 rfl (lv_at hl 2 rfl) ?_
    refine lv_iload X.1 X.2.1 dL_law_486 (lv_at hl 1 rfl) ?_
    refine lv_iconst (v := nI 1) X.1 X.2.1 dL_law_488 (by decide) ?_
    refine wm_iadd (x := i) (y := 1) X dL_law_489 ?_
    refine wm_sld (k := i + 1) X hX ha hab hS (by omega) (by omega) dL_law_490 ?_
    refine lv_aload_n X.1 X.2.1 dL_law_491 rfl (lv_at hl 2 rfl) ?_
    refine lv_iload X.1 X.2.1 dL_law_492 (lv_at hl 1 rfl) ?_
    refine lv_iconst (v := nI 2) X.1 X.2.1 dL_law_494 (by decide) ?_
    refine wm_iadd (x := i) (y := 2) X dL_law_495 ?_
    refine wm_sld (k := i + 2) X hX ha hab hS (by omega) (by omega) dL_law_496 ?_
    refine lv_aload_n X.1 X.2.1 dL_law_497 rfl (lv_at hl 2 rfl) ?_
    refine lv_iload X.1 X.2.1 dL_law_498 (lv_at hl 1 rfl) ?_
    refine lv_iconst (v := nI 3) X.1 X.2.1 dL_law_500 (by decide) ?_
    refine wm_iadd (x := i) (y := 3) X dL_law_501 ?_
    refine wm_sld (k := i + 3) X hX ha hab hS (by omega) (by omega) dL_law_502 ?_
    refine lv_aload_n X.1 X.2.1 dL_law_503 rfl (lv_at hl 2 rfl) ?_
    refine lv_iload X.1 X.2.1 dL_law_504 (lv_at hl 1 rfl) ?_
    refine lv_iconst (v := nI 4) X.1 X.2.1 dL_law_506 (by decide) ?_
    refine wm_iadd (x := i) (y := 4) X dL_law_507 ?_
    refine wm_sld (k := i + 4) X hX ha hab hS (by omega) (by omega) dL_law_508 ?_
    refine lv_aload_n X.1 X.2.1 dL_law_509 rfl (lv_at hl 2 rfl) ?_
    refine lv_iload X.1 X.2.1 dL_law_510 (lv_at hl 1 rfl) ?_
    refine lv_iconst (v := nI 5) X.1 X.2.1 dL_law_512 (by decide) ?_
    refine wm_iadd (x := i) (y := 5) X dL_law_513 ?_
    refine wm_sld (k := i + 5) X hX ha hab hS (by omega) (by omega) dL_law_514 ?_
    refine lv_if_eq (tgt := 522) X.1 X.2.1 dL_law_515 (by decide) (fun h => absurd h hz5) (fun _ => ?_)
    refine lv_iconst (v := nI true.toNat) X.1 X.2.1 dL_law_518 (by decide) ?_
    refine lv_goto (tgt := 523) X.1 X.2.1 dL_law_519 (by decide) ?_
    obtain ⟨o1, o2, o3, o4, o5, o6, o7, o8, hO⟩ := id hM.1
    refine wm_callVi (k := 5) (As := [.int (xs (i + 1)), .int (xs (i + 2)), .int (xs (i + 3)), .int (xs (i + 4)), .int (nI true.toNat)]) (rest := []) X hP hS (by omega) hO rfl (m_arc l D C b E4 S S2 th kc v2 (xs (i + 1)) (xs (i + 2)) (xs (i + 3)) (xs (i + 4)) true hM hB0 ho) wq5_232 wq5_233 wq5_234 wq1_8 wq5_235 (by decide) ⟨by omega, by omega⟩ rfl hl.1 rfl (Nat.le_of_ble_eq_true rfl) (by omega) (by omega) dL_law_523 (fun r5 E5 H locs hw hP hS => ?_)
    obtain ⟨v3, rfl, hv3, hM, hfr⟩ := hw
    have hC := hC.cg (fun j hj => hfr j (Or.inl hj))
    have hE := (hfr 146 (Or.inr (by omega))).trans hE
    refine lv_istore (lv' := [(6, .int (nI v3.toNat)), (5, .int (nI kc)), (4, .int (nI i)), (0, .ref a), (1, .ref (b + 0)), (2, .ref (b + 119)), (3, .ref (b + 146))]) X.1 X.2.1 dL_law_526 hl (by decide) rfl (fun ls hl => ?_)
    refine lv_aload_n X.1 X.2.1 dL_law_528 rfl (lv_at hl 5 rfl) ?_
    obtain ⟨o1, o2, o3, o4, o5, o6, o7, o8, hO⟩ := id hM.1
    refine wm_callVi (k := 0) (As := []) (rest := []) X hP hS (by omega) hO rfl (m_thrown l D C b E5 S2 kc hM) wq5_140 wq5_141 wq5_142 wq1_8 wq5_143 (by decide) ⟨by omega, by omega⟩ rfl hl.1 rfl (Nat.le_of_ble_eq_true rfl) (by omega) (by omega) dL_law_529 (fun r6 E6 H locs hw hP hS => ?_)
    obtain ⟨rfl, rfl⟩ := hw
    refine lv_iload X.1 X.2.1 dL_law_532 (lv_at hl 1 rfl) ?_
    refine lv_icmp_eq (tgt := 539) X.1 X.2.1 dL_law_534 (by decide) (fun _ => ?_) (fun h => absurd rfl h)
    refine lv_iload X.1 X.2.1 dL_law_539 (lv_at hl 1 rfl) ?_
    refine lv_if_ne (tgt := 563) X.1 X.2.1 dL_law_541 (by decide) (fun _ => ?_) (fun h => ?_)
    · refine lv_goto (tgt := 1296) X.1 X.2.1 dL_law_563 (by decide) ?_
      exact nx _ _ _ _ _ _ _ ⟨hP, hS, hC, hB, hM, hE⟩ (lv_sub hl [2, 3, 4, 5, 6] rfl)
    · have hk0 := wm_kc0 hkc h
      have hv3 := hv3 hk0
      have hf2 := hf2 hk0
      subst hv3
      refine lv_aload_n X.1 X.2.1 dL_law_544 rfl (lv_at hl 6 rfl) ?_
      refine lv_iconst (v := nI 0) X.1 X.2.1 dL_law_545 (by decide) ?_
      refine wm_laldR (N := 1) (i := 0) X hP (by omega) hE (by decide) (by decide) dL_law_546 ?_
      refine lv_iload X.1 X.2.1 dL_law_547 (lv_at hl 0 rfl) ?_
      have hb3 : v3 = true ∨ v3 = false := by cases v3 <;> simp
      rcases hb3 with rfl | rfl
      · refine wm_ifz_eq (x := true) (tgt := 556) X dL_law_549 (by decide) (fun h => by exfalso; revert h; decide) (fun _ => ?_)
        refine lv_lconst (v := lN 1) X.1 X.2.1 dL_law_552 (by decide) ?_
        refine lv_goto (tgt := 557) X.1 X.2.1 dL_law_553 (by decide) ?_
        refine W.lcmp X.1 X.2.1 dL_law_557 ?_
        refine lv_if_eq (tgt := 563) X.1 X.2.1 dL_law_558 (by decide) (fun _ => ?_) (fun h => absurd (wm_cmp0 hf2) h)
        refine lv_goto (tgt := 1296) X.1 X.2.1 dL_law_563 (by decide) ?_
        exact nx _ _ _ _ _ _ _ ⟨hP, hS, hC, hB, hM, hE⟩ (lv_sub hl [2, 3, 4, 5, 6] rfl)
      · refine wm_ifz_eq (x := false) (tgt := 556) X dL_law_549 (by decide) (fun _ => ?_) (fun h => by exfalso; revert h; decide)
        refine lv_lconst (v := lN 0) X.1 X.2.1 dL_law_556 (by decide) ?_
        refine W.lcmp X.1 X.2.1 dL_law_557 ?_
        refine lv_if_eq (tgt := 563) X.1 X.2.1 dL_law_558 (by decide) (fun _ => ?_) (fun h => absurd (wm_cmp0 hf2) h)
        refine lv_goto (tgt := 1296) X.1 X.2.1 dL_law_563 (by decide) ?_
        exact nx _ _ _ _ _ _ _ ⟨hP, hS, hC, hB, hM, hE⟩ (lv_sub hl [2, 3, 4, 5, 6] rfl)
set_option maxHeartbeats 1000000 in
theorem s_arcs {p : Program} {l : Launch} {e : Env} {R : Room} {s : State} {m : MethodId} {args : Array Value} {below : List Frame} {meth : Method} {c : Code} {Q : State → Prop} {D : va_G} {C : Nat → ClassId} {b a L : Nat} {xs : Nat → Int32} {i cells slots : Nat} {E : Nat → va_E} {H : Heap} {locs : List Loc} {ls : Array Slot} {S : wm_St} {th : Nat} {f : Nat → Int64} (V : wm_env p l R s m args meth c D C b a L xs) (hi : i + 6 ≤ L) (hcl : cells + 1 ≤ R.cells) (hsl : slots + 6 ≤ R.slots) (nx : wm_next p l e R s m args below meth c Q D C b a i (cells + 1) (slots + 6)) (st : wm_st9 D C b s E H locs S th f) (hl : lv_has ls 8 (wm_lvs a b i)) : W p l e R s m args below meth c H locs cells slots Q (F0 m 566 ls []) := by
  obtain ⟨hst, X, hV, hNc, hX, ha, hab, hL, hRf, hRl⟩ := V
  obtain ⟨hP, hS, hC, hB, hM, hE⟩ := st
  refine lv_aload_n X.1 X.2.1 dL_law_566 rfl (lv_at hl 2 rfl) ?_
  refine lv_aload_n X.1 X.2.1 dL_law_567 rfl (lv_at hl 1 rfl) ?_
  refine lv_iload X.1 X.2.1 dL_law_568 (lv_at hl 0 rfl) ?_
  refine lv_iconst (v := nI 1) X.1 X.2.1 dL_law_570 (by decide) ?_
  refine wm_iadd (x := i) (y := 1) X dL_law_571 ?_
  refine wm_sld (k := i + 1) X hX ha hab hS (by omega) (by omega) dL_law_572 ?_
  refine lv_aload_n X.1 X.2.1 dL_law_573 rfl (lv_at hl 1 rfl) ?_
  refine lv_iload X.1 X.2.1 dL_law_574 (lv_at hl 0 rfl) ?_
  refine lv_iconst (v := nI 2) X.1 X.2.1 dL_law_576 (by decide) ?_
  refine wm_iadd (x := i) (y := 2) X dL_law_577 ?_
  refine wm_sld (k := i + 2) X hX ha hab hS (by omega) (by omega) dL_law_578 ?_
  refine lv_aload_n X.1 X.2.1 dL_law_579 rfl (lv_at hl 1 rfl) ?_
  refine lv_iload X.1 X.2.1 dL_law_580 (lv_at hl 0 rfl) ?_
  refine lv_iconst (v := nI 3) X.1 X.2.1 dL_law_582 (by decide) ?_
  refine wm_iadd (x := i) (y := 3) X dL_law_583 ?_
  refine wm_sld (k := i + 3) X hX ha hab hS (by omega) (by omega) dL_law_584 ?_
  refine lv_aload_n X.1 X.2.1 dL_law_585 rfl (lv_at hl 4 rfl) ?_
  refine wm_callH (k := 5) (As := [.ref (b + 0), .int (xs (i + 1)), .int (xs (i + 2)), .int (xs (i + 3)), .ref (b + 146)]) (rest := []) X hV hNc hP hS (h_arcs l hst D C b E S f (xs (i + 1)) (xs (i + 2)) (xs (i + 3)) hC hB hE) wq3_14 wq3_15 wq1_0 wqW_L_arcs (by decide) ⟨by omega, by omega⟩ rfl hl.1 rfl (Nat.le_of_ble_eq_true rfl) hcl hsl dL_law_586 (fun r1 E1 H locs hw hP hS => ?_)
  have hB0 := hB
  obtain ⟨S2, kc, v2, f2, rfl, hkc, ho, hC, hB, hE, hf2, hfr⟩ := hw
  have hM := hM.cg (fun j h1 h2 => hfr j h1 (by omega))
  refine lv_istore (lv' := [(5, .int (nI kc)), (4, .int (nI i)), (0, .ref a), (1, .ref (b + 0)), (2, .ref (b + 119)), (3, .ref (b + 146))]) X.1 X.2.1 dL_law_589 hl (by decide) rfl (fun ls hl => ?_)
  refine lv_aload_n X.1 X.2.1 dL_law_591 rfl (lv_at hl 4 rfl) ?_
  refine lv_aload_n X.1 X.2.1 dL_law_592 rfl (lv_at hl 2 rfl) ?_
  refine lv_iload X.1 X.2.1 dL_law_593 (lv_at hl 1 rfl) ?_
  refine lv_iconst (v := nI 1) X.1 X.2.1 dL_law_595 (by decide) ?_
  refine wm_iadd (x := i) (y := 1) X dL_law_596 ?_
  refine wm_sld (k := i + 1) X hX ha hab hS (by omega) (by omega) dL_law_597 ?_
  refine lv_aload_n X.1 X.2.1 dL_law_598 rfl (lv_at hl 2 rfl) ?_
  refine lv_iload X.1 X.2.1 dL_law_599 (lv_at hl 1 rfl) ?_
  refine lv_iconst (v := nI 2) X.1 X.2.1 dL_law_601 (by decide) ?_
  refine wm_iadd (x := i) (y := 2) X dL_law_602 ?_
  refine wm_sld (k := i + 2) X hX ha hab hS (by omega) (by omega) dL_law_603 ?_
  refine lv_aload_n X.1 X.2.1 dL_law_604 rfl (lv_at hl 2 rfl) ?_
  refine lv_iload X.1 X.2.1 dL_law_605 (lv_at hl 1 rfl) ?_
  refine lv_iconst (v := nI 3) X.1 X.2.1 dL_law_607 (by decide) ?_
  refine wm_iadd (x := i) (y := 3) X dL_law_608 ?_
  refine wm_sld (k := i + 3) X hX ha hab hS (by omega) (by omega) dL_law_609 ?_
  obtain ⟨o1, o2, o3, o4, o5, o6, o7, o8, hO⟩ := id hM.1
  refine wm_callVi (k := 3) (As := [.int (xs (i + 1)), .int (xs (i + 2)), .int (xs (i + 3))]) (rest := []) X hP hS (by omega) hO rfl (m_arcs l D C b E1 S S2 th kc v2 (xs (i + 1)) (xs (i + 2)) (xs (i + 3)) hM hB0 ho) wq6_0 wq6_1 wq6_2 wq1_8 wq6_3 (by decide) ⟨by omega, by omega⟩ rfl hl.1 rfl (Nat.le_of_ble_eq_true rfl) (by omega) (by omega) dL_law_610 (fun r2 E2 H locs hw hP hS => ?_)
  obtain ⟨v3, rfl, hv3, hM, hfr⟩ := hw
  have hC := hC.cg (fun j hj => hfr j (Or.inl hj))
  have hE := (hfr 146 (Or.inr (by omega))).trans hE
  refine lv_istore (lv' := [(6, .int (nI v3)), (5, .int (nI kc)), (4, .int (nI i)), (0, .ref a), (1, .ref (b + 0)), (2, .ref (b + 119)), (3, .ref (b + 146))]) X.1 X.2.1 dL_law_613 hl (by decide) rfl (fun ls hl => ?_)
  refine lv_aload_n X.1 X.2.1 dL_law_615 rfl (lv_at hl 5 rfl) ?_
  obtain ⟨o1, o2, o3, o4, o5, o6, o7, o8, hO⟩ := id hM.1
  refine wm_callVi (k := 0) (As := []) (rest := []) X hP hS (by omega) hO rfl (m_thrown l D C b E2 S2 kc hM) wq5_140 wq5_141 wq5_142 wq1_8 wq5_143 (by decide) ⟨by omega, by omega⟩ rfl hl.1 rfl (Nat.le_of_ble_eq_true rfl) (by omega) (by omega) dL_law_616 (fun r3 E3 H locs hw hP hS => ?_)
  obtain ⟨rfl, rfl⟩ := hw
  refine lv_iload X.1 X.2.1 dL_law_619 (lv_at hl 1 rfl) ?_
  refine lv_icmp_eq (tgt := 626) X.1 X.2.1 dL_law_621 (by decide) (fun _ => ?_) (fun h => absurd rfl h)
  refine lv_iload X.1 X.2.1 dL_law_626 (lv_at hl 1 rfl) ?_
  refine lv_if_ne (tgt := 643) X.1 X.2.1 dL_law_628 (by decide) (fun _ => ?_) (fun h => ?_)
  · refine lv_goto (tgt := 1296) X.1 X.2.1 dL_law_643 (by decide) ?_
    exact nx _ _ _ _ _ _ _ ⟨hP, hS, hC, hB, hM, hE⟩ (lv_sub hl [2, 3, 4, 5, 6] rfl)
  · have hk0 := wm_kc0 hkc h
    have hv3 := hv3 hk0
    have hf2 := hf2 hk0
    subst hv3
    refine lv_aload_n X.1 X.2.1 dL_law_631 rfl (lv_at hl 6 rfl) ?_
    refine lv_iconst (v := nI 0) X.1 X.2.1 dL_law_632 (by decide) ?_
    refine wm_laldR (N := 1) (i := 0) X hP (by omega) hE (by decide) (by decide) dL_law_633 ?_
    refine lv_iload X.1 X.2.1 dL_law_634 (lv_at hl 0 rfl) ?_
    refine lv_i2l (v := (nI v3).toInt64) X.1 X.2.1 dL_law_636 rfl ?_
    refine W.lcmp X.1 X.2.1 dL_law_637 ?_
    refine lv_if_eq (tgt := 643) X.1 X.2.1 dL_law_638 (by decide) (fun _ => ?_) (fun h => absurd (wm_cmp0 hf2) h)
    refine lv_goto (tgt := 1296) X.1 X.2.1 dL_law_643 (by decide) ?_
    exact nx _ _ _ _ _ _ _ ⟨hP, hS, hC, hB, hM, hE⟩ (lv_sub hl [2, 3, 4, 5, 6] rfl)
set_option maxHeartbeats 1000000 in
theorem s_states {p : Program} {l : Launch} {e : Env} {R : Room} {s : State} {m : MethodId} {args : Array Value} {below : List Frame} {meth : Method} {c : Code} {Q : State → Prop} {D : va_G} {C : Nat → ClassId} {b a L : Nat} {xs : Nat → Int32} {i cells slots : Nat} {E : Nat → va_E} {H : Heap} {locs : List Loc} {ls : Array Slot} {S : wm_St} {th : Nat} {f : Nat → Int64} (V : wm_env p l R s m args meth c D C b a L xs) (hi : i + 6 ≤ L) (hcl : cells + 1 ≤ R.cells) (hsl : slots + 6 ≤ R.slots) (nx : wm_next p l e R s m args below meth c Q D C b a i (cells + 1) (slots + 6)) (st : wm_st9 D C b s E H locs S th f) (hl : lv_has ls 8 (wm_lvs a b i)) : W p l e R s m args below meth c H locs cells slots Q (F0 m 646 ls []) := by
  obtain ⟨hst, X, hV, hNc, hX, ha, hab, hL, hRf, hRl⟩ := V
  obtain ⟨hP, hS, hC, hB, hM, hE⟩ := st
  refine lv_aload_n X.1 X.2.1 dL_law_646 rfl (lv_at hl 2 rfl) ?_
  refine lv_aload_n X.1 X.2.1 dL_law_647 rfl (lv_at hl 1 rfl) ?_
  refine lv_iload X.1 X.2.1 dL_law_648 (lv_at hl 0 rfl) ?_
  refine lv_iconst (v := nI 1) X.1 X.2.1 dL_law_650 (by decide) ?_
  refine wm_iadd (x := i) (y := 1) X dL_law_651 ?_
  refine wm_sld (k := i + 1) X hX ha hab hS (by omega) (by omega) dL_law_652 ?_
  refine lv_aload_n X.1 X.2.1 dL_law_653 rfl (lv_at hl 4 rfl) ?_
  refine wm_callH (k := 3) (As := [.ref (b + 0), .int (xs (i + 1)), .ref (b + 146)]) (rest := []) X hV hNc hP hS (h_states l hst D C b E S f (xs (i + 1)) hC hB hE) wq3_21 wq3_22 wq1_0 wqW_L_states (by decide) ⟨by omega, by omega⟩ rfl hl.1 rfl (Nat.le_of_ble_eq_true rfl) hcl hsl dL_law_654 (fun r1 E1 H locs hw hP hS => ?_)
  have hB0 := hB
  obtain ⟨S2, kc, v2, f2, rfl, hkc, ho, hC, hB, hE, hf2, hfr⟩ := hw
  have hM := hM.cg (fun j h1 h2 => hfr j h1 (by omega))
  refine lv_istore (lv' := [(5, .int (nI kc)), (4, .int (nI i)), (0, .ref a), (1, .ref (b + 0)), (2, .ref (b + 119)), (3, .ref (b + 146))]) X.1 X.2.1 dL_law_657 hl (by decide) rfl (fun ls hl => ?_)
  refine lv_aload_n X.1 X.2.1 dL_law_659 rfl (lv_at hl 4 rfl) ?_
  refine lv_aload_n X.1 X.2.1 dL_law_660 rfl (lv_at hl 2 rfl) ?_
  refine lv_iload X.1 X.2.1 dL_law_661 (lv_at hl 1 rfl) ?_
  refine lv_iconst (v := nI 1) X.1 X.2.1 dL_law_663 (by decide) ?_
  refine wm_iadd (x := i) (y := 1) X dL_law_664 ?_
  refine wm_sld (k := i + 1) X hX ha hab hS (by omega) (by omega) dL_law_665 ?_
  obtain ⟨o1, o2, o3, o4, o5, o6, o7, o8, hO⟩ := id hM.1
  refine wm_callVi (k := 1) (As := [.int (xs (i + 1))]) (rest := []) X hP hS (by omega) hO rfl (m_states l D C b E1 S S2 th kc v2 (xs (i + 1)) hM hB0 ho) wq6_4 wq6_5 wq6_6 wq1_8 wq6_7 (by decide) ⟨by omega, by omega⟩ rfl hl.1 rfl (Nat.le_of_ble_eq_true rfl) (by omega) (by omega) dL_law_666 (fun r2 E2 H locs hw hP hS => ?_)
  obtain ⟨v3, rfl, hv3, hM, hfr⟩ := hw
  have hC := hC.cg (fun j hj => hfr j (Or.inl hj))
  have hE := (hfr 146 (Or.inr (by omega))).trans hE
  refine lv_istore (lv' := [(6, .int (nI v3)), (5, .int (nI kc)), (4, .int (nI i)), (0, .ref a), (1, .ref (b + 0)), (2, .ref (b + 119)), (3, .ref (b + 146))]) X.1 X.2.1 dL_law_669 hl (by decide) rfl (fun ls hl => ?_)
  refine lv_aload_n X.1 X.2.1 dL_law_671 rfl (lv_at hl 5 rfl) ?_
  obtain ⟨o1, o2, o3, o4, o5, o6, o7, o8, hO⟩ := id hM.1
  refine wm_callVi (k := 0) (As := []) (rest := []) X hP hS (by omega) hO rfl (m_thrown l D C b E2 S2 kc hM) wq5_140 wq5_141 wq5_142 wq1_8 wq5_143 (by decide) ⟨by omega, by omega⟩ rfl hl.1 rfl (Nat.le_of_ble_eq_true rfl) (by omega) (by omega) dL_law_672 (fun r3 E3 H locs hw hP hS => ?_)
  obtain ⟨rfl, rfl⟩ := hw
  refine lv_iload X.1 X.2.1 dL_law_675 (lv_at hl 1 rfl) ?_
  refine lv_icmp_eq (tgt := 682) X.1 X.2.1 dL_law_677 (by decide) (fun _ => ?_) (fun h => absurd rfl h)
  refine lv_iload X.1 X.2.1 dL_law_682 (lv_at hl 1 rfl) ?_
  refine lv_if_ne (tgt := 699) X.1 X.2.1 dL_law_684 (by decide) (fun _ => ?_) (fun h => ?_)
  · refine lv_goto (tgt := 1296) X.1 X.2.1 dL_law_699 (by decide) ?_
    exact nx _ _ _ _ _ _ _ ⟨hP, hS, hC, hB, hM, hE⟩ (lv_sub hl [2, 3, 4, 5, 6] rfl)
  · have hk0 := wm_kc0 hkc h
    have hv3 := hv3 hk0
    have hf2 := hf2 hk0
    subst hv3
    refine lv_aload_n X.1 X.2.1 dL_law_687 rfl (lv_at hl 6 rfl) ?_
    refine lv_iconst (v := nI 0) X.1 X.2.1 dL_law_688 (by decide) ?_
    refine wm_laldR (N := 1) (i := 0) X hP (by omega) hE (by decide) (by decide) dL_law_689 ?_
    refine lv_iload X.1 X.2.1 dL_law_690 (lv_at hl 0 rfl) ?_
    refine lv_i2l (v := (nI v3).toInt64) X.1 X.2.1 dL_law_692 rfl ?_
    refine W.lcmp X.1 X.2.1 dL_law_693 ?_
    refine lv_if_eq (tgt := 699) X.1 X.2.1 dL_law_694 (by decide) (fun _ => ?_) (fun h => absurd (wm_cmp0 hf2) h)
    refine lv_goto (tgt := 1296) X.1 X.2.1 dL_law_699 (by decide) ?_
    exact nx _ _ _ _ _ _ _ ⟨hP, hS, hC, hB, hM, hE⟩ (lv_sub hl [2, 3, 4, 5, 6] rfl)
set_option maxHeartbeats 1000000 in
theorem s_turn {p : Program} {l : Launch} {e : Env} {R : Room} {s : State} {m : MethodId} {args : Array Value} {below : List Frame} {meth : Method} {c : Code} {Q : State → Prop} {D : va_G} {C : Nat → ClassId} {b a L : Nat} {xs : Nat → Int32} {i cells slots : Nat} {E : Nat → va_E} {H : Heap} {locs : List Loc} {ls : Array Slot} {S : wm_St} {th : Nat} {f : Nat → Int64} (V : wm_env p l R s m args meth c D C b a L xs) (hi : i + 6 ≤ L) (hcl : cells + 1 ≤ R.cells) (hsl : slots + 6 ≤ R.slots) (nx : wm_next p l e R s m args below meth c Q D C b a i (cells + 1) (slots + 6)) (st : wm_st9 D C b s E H locs S th f) (hl : lv_has ls 8 (wm_lvs a b i)) : W p l e R s m args below meth c H locs cells slots Q (F0 m 702 ls []) := by
  obtain ⟨hst, X, hV, hNc, hX, ha, hab, hL, hRf, hRl⟩ := V
  obtain ⟨hP, hS, hC, hB, hM, hE⟩ := st
  refine lv_aload_n X.1 X.2.1 dL_law_702 rfl (lv_at hl 2 rfl) ?_
  refine lv_aload_n X.1 X.2.1 dL_law_703 rfl (lv_at hl 1 rfl) ?_
  refine lv_iload X.1 X.2.1 dL_law_704 (lv_at hl 0 rfl) ?_
  refine lv_iconst (v := nI 1) X.1 X.2.1 dL_law_706 (by decide) ?_
  refine wm_iadd (x := i) (y := 1) X dL_law_707 ?_
  refine wm_sld (k := i + 1) X hX ha hab hS (by omega) (by omega) dL_law_708 ?_
  refine lv_aload_n X.1 X.2.1 dL_law_709 rfl (lv_at hl 1 rfl) ?_
  refine lv_iload X.1 X.2.1 dL_law_710 (lv_at hl 0 rfl) ?_
  refine lv_iconst (v := nI 2) X.1 X.2.1 dL_law_712 (by decide) ?_
  refine wm_iadd (x := i) (y := 2) X dL_law_713 ?_
  refine wm_sld (k := i + 2) X hX ha hab hS (by omega) (by omega) dL_law_714 ?_
  refine wm_callH (k := 3) (As := [.ref (b + 0), .int (xs (i + 1)), .int (xs (i + 2))]) (rest := []) X hV hNc hP hS (h_turn l hst D C b E S f (xs (i + 1)) (xs (i + 2)) hC hB hE) wq3_28 wq3_29 wq1_0 wqW_L_turn (by decide) ⟨by omega, by omega⟩ rfl hl.1 rfl (Nat.le_of_ble_eq_true rfl) hcl hsl dL_law_715 (fun r1 E1 H locs hw hP hS => ?_)
  have hB0 := hB
  obtain ⟨S2, kc, f2, rfl, hkc, ho, hC, hB, hE, hfr⟩ := hw
  have hM := hM.cg (fun j h1 h2 => hfr j h1 (by omega))
  refine lv_istore (lv' := [(5, .int (nI kc)), (4, .int (nI i)), (0, .ref a), (1, .ref (b + 0)), (2, .ref (b + 119)), (3, .ref (b + 146))]) X.1 X.2.1 dL_law_718 hl (by decide) rfl (fun ls hl => ?_)
  refine lv_aload_n X.1 X.2.1 dL_law_720 rfl (lv_at hl 4 rfl) ?_
  refine lv_aload_n X.1 X.2.1 dL_law_721 rfl (lv_at hl 2 rfl) ?_
  refine lv_iload X.1 X.2.1 dL_law_722 (lv_at hl 1 rfl) ?_
  refine lv_iconst (v := nI 1) X.1 X.2.1 dL_law_724 (by decide) ?_
  refine wm_iadd (x := i) (y := 1) X dL_law_725 ?_
  refine wm_sld (k := i + 1) X hX ha hab hS (by omega) (by omega) dL_law_726 ?_
  refine lv_aload_n X.1 X.2.1 dL_law_727 rfl (lv_at hl 2 rfl) ?_
  refine lv_iload X.1 X.2.1 dL_law_728 (lv_at hl 1 rfl) ?_
  refine lv_iconst (v := nI 2) X.1 X.2.1 dL_law_730 (by decide) ?_
  refine wm_iadd (x := i) (y := 2) X dL_law_731 ?_
  refine wm_sld (k := i + 2) X hX ha hab hS (by omega) (by omega) dL_law_732 ?_
  obtain ⟨o1, o2, o3, o4, o5, o6, o7, o8, hO⟩ := id hM.1
  refine wm_callVv (k := 2) (As := [.int (xs (i + 1)), .int (xs (i + 2))]) (rest := []) X hP hS (by omega) hO rfl (m_turn l D C b E1 S S2 th kc (xs (i + 1)) (xs (i + 2)) hM hB0 ho) wq6_8 wq6_9 wq6_10 wq1_8 wq6_11 (by decide) ⟨by omega, by omega⟩ rfl hl.1 rfl (Nat.le_of_ble_eq_true rfl) (by omega) (by omega) dL_law_733 (fun E2 H locs hw hP hS => ?_)
  obtain ⟨hM, hfr⟩ := hw
  have hC := hC.cg (fun j hj => hfr j (Or.inl hj))
  have hE := (hfr 146 (Or.inr (by omega))).trans hE
  refine lv_aload_n X.1 X.2.1 dL_law_736 rfl (lv_at hl 4 rfl) ?_
  obtain ⟨o1, o2, o3, o4, o5, o6, o7, o8, hO⟩ := id hM.1
  refine wm_callVi (k := 0) (As := []) (rest := []) X hP hS (by omega) hO rfl (m_thrown l D C b E2 S2 kc hM) wq5_140 wq5_141 wq5_142 wq1_8 wq5_143 (by decide) ⟨by omega, by omega⟩ rfl hl.1 rfl (Nat.le_of_ble_eq_true rfl) (by omega) (by omega) dL_law_737 (fun r3 E3 H locs hw hP hS => ?_)
  obtain ⟨rfl, rfl⟩ := hw
  refine lv_iload X.1 X.2.1 dL_law_740 (lv_at hl 0 rfl) ?_
  refine lv_icmp_eq (tgt := 747) X.1 X.2.1 dL_law_742 (by decide) (fun _ => ?_) (fun h => absurd rfl h)
  refine lv_goto (tgt := 1296) X.1 X.2.1 dL_law_747 (by decide) ?_
  exact nx _ _ _ _ _ _ _ ⟨hP, hS, hC, hB, hM, hE⟩ (lv_sub hl [1, 2, 3, 4, 5] rfl)
set_option maxHeartbeats 1000000 in
theorem s_either {p : Program} {l : Launch} {e : Env} {R : Room} {s : State} {m : MethodId} {args : Array Value} {below : List Frame} {meth : Method} {c : Code} {Q : State → Prop} {D : va_G} {C : Nat → ClassId} {b a L : Nat} {xs : Nat → Int32} {i cells slots : Nat} {E : Nat → va_E} {H : Heap} {locs : List Loc} {ls : Array Slot} {S : wm_St} {th : Nat} {f : Nat → Int64} (V : wm_env p l R s m args meth c D C b a L xs) (hi : i + 6 ≤ L) (hcl : cells + 1 ≤ R.cells) (hsl : slots + 6 ≤ R.slots) (nx : wm_next p l e R s m args below meth c Q D C b a i (cells + 1) (slots + 6)) (st : wm_st9 D C b s E H locs S th f) (hl : lv_has ls 8 (wm_lvs a b i)) : W p l e R s m args below meth c H locs cells slots Q (F0 m 750 ls []) := by
  obtain ⟨hst, X, hV, hNc, hX, ha, hab, hL, hRf, hRl⟩ := V
  obtain ⟨hP, hS, hC, hB, hM, hE⟩ := st
  refine lv_aload_n X.1 X.2.1 dL_law_750 rfl (lv_at hl 2 rfl) ?_
  refine lv_aload_n X.1 X.2.1 dL_law_751 rfl (lv_at hl 1 rfl) ?_
  refine lv_iload X.1 X.2.1 dL_law_752 (lv_at hl 0 rfl) ?_
  refine lv_iconst (v := nI 1) X.1 X.2.1 dL_law_754 (by decide) ?_
  refine wm_iadd (x := i) (y := 1) X dL_law_755 ?_
  refine wm_sld (k := i + 1) X hX ha hab hS (by omega) (by omega) dL_law_756 ?_
  refine lv_aload_n X.1 X.2.1 dL_law_757 rfl (lv_at hl 1 rfl) ?_
  refine lv_iload X.1 X.2.1 dL_law_758 (lv_at hl 0 rfl) ?_
  refine lv_iconst (v := nI 2) X.1 X.2.1 dL_law_760 (by decide) ?_
  refine wm_iadd (x := i) (y := 2) X dL_law_761 ?_
  refine wm_sld (k := i + 2) X hX ha hab hS (by omega) (by omega) dL_law_762 ?_
  refine lv_aload_n X.1 X.2.1 dL_law_763 rfl (lv_at hl 1 rfl) ?_
  refine lv_iload X.1 X.2.1 dL_law_764 (lv_at hl 0 rfl) ?_
  refine lv_iconst (v := nI 3) X.1 X.2.1 dL_law_766 (by decide) ?_
  refine wm_iadd (x := i) (y := 3) X dL_law_767 ?_
  refine wm_sld (k := i + 3) X hX ha hab hS (by omega) (by omega) dL_law_768 ?_
  refine lv_aload_n X.1 X.2.1 dL_law_769 rfl (lv_at hl 4 rfl) ?_
  refine wm_callH (k := 5) (As := [.ref (b + 0), .int (xs (i + 1)), .int (xs (i + 2)), .int (xs (i + 3)), .ref (b + 146)]) (rest := []) X hV hNc hP hS (h_either l hst D C b E S f (xs (i + 1)) (xs (i + 2)) (xs (i + 3)) hC hB hE) wq3_55 wq3_56 wq1_0 wqW_L_either (by decide) ⟨by omega, by omega⟩ rfl hl.1 rfl (Nat.le_of_ble_eq_true rfl) hcl hsl dL_law_770 (fun r1 E1 H locs hw hP hS => ?_)
  have hB0 := hB
  obtain ⟨S2, kc, v2, f2, rfl, hkc, ho, hC, hB, hE, hf2, hfr⟩ := hw
  have hM := hM.cg (fun j h1 h2 => hfr j h1 (by omega))
  refine lv_istore (lv' := [(5, .int (nI kc)), (4, .int (nI i)), (0, .ref a), (1, .ref (b + 0)), (2, .ref (b + 119)), (3, .ref (b + 146))]) X.1 X.2.1 dL_law_773 hl (by decide) rfl (fun ls hl => ?_)
  refine lv_aload_n X.1 X.2.1 dL_law_775 rfl (lv_at hl 4 rfl) ?_
  refine lv_aload_n X.1 X.2.1 dL_law_776 rfl (lv_at hl 2 rfl) ?_
  refine lv_iload X.1 X.2.1 dL_law_777 (lv_at hl 1 rfl) ?_
  refine lv_iconst (v := nI 1) X.1 X.2.1 dL_law_779 (by decide) ?_
  refine wm_iadd (x := i) (y := 1) X dL_law_780 ?_
  refine wm_sld (k := i + 1) X hX ha hab hS (by omega) (by omega) dL_law_781 ?_
  refine lv_aload_n X.1 X.2.1 dL_law_782 rfl (lv_at hl 2 rfl) ?_
  refine lv_iload X.1 X.2.1 dL_law_783 (lv_at hl 1 rfl) ?_
  refine lv_iconst (v := nI 2) X.1 X.2.1 dL_law_785 (by decide) ?_
  refine wm_iadd (x := i) (y := 2) X dL_law_786 ?_
  refine wm_sld (k := i + 2) X hX ha hab hS (by omega) (by omega) dL_law_787 ?_
  refine lv_aload_n X.1 X.2.1 dL_law_788 rfl (lv_at hl 2 rfl) ?_
  refine lv_iload X.1 X.2.1 dL_law_789 (lv_at hl 1 rfl) ?_
  refine lv_iconst (v := nI 3) X.1 X.2.1 dL_law_791 (by decide) ?_
  refine wm_iadd (x := i) (y := 3) X dL_law_792 ?_
  refine wm_sld (k := i + 3) X hX ha hab hS (by omega) (by omega) dL_law_793 ?_
  obtain ⟨o1, o2, o3, o4, o5, o6, o7, o8, hO⟩ := id hM.1
  refine wm_callVi (k := 3) (As := [.int (xs (i + 1)), .int (xs (i + 2)), .int (xs (i + 3))]) (rest := []) X hP hS (by omega) hO rfl (m_either l D C b E1 S S2 th kc v2 (xs (i + 1)) (xs (i + 2)) (xs (i + 3)) hM hB0 ho) wq6_12 wq6_13 wq6_14 wq1_8 wq6_15 (by decide) ⟨by omega, by omega⟩ rfl hl.1 rfl (Nat.le_of_ble_eq_true rfl) (by omega) (by omega) dL_law_794 (fun r2 E2 H locs hw hP hS => ?_)
  obtain ⟨v3, rfl, hv3, hM, hfr⟩ := hw
  have hC := hC.cg (fun j hj => hfr j (Or.inl hj))
  have hE := (hfr 146 (Or.inr (by omega))).trans hE
  refine lv_istore (lv' := [(6, .int (nI v3)), (5, .int (nI kc)), (4, .int (nI i)), (0, .ref a), (1, .ref (b + 0)), (2, .ref (b + 119)), (3, .ref (b + 146))]) X.1 X.2.1 dL_law_797 hl (by decide) rfl (fun ls hl => ?_)
  refine lv_aload_n X.1 X.2.1 dL_law_799 rfl (lv_at hl 5 rfl) ?_
  obtain ⟨o1, o2, o3, o4, o5, o6, o7, o8, hO⟩ := id hM.1
  refine wm_callVi (k := 0) (As := []) (rest := []) X hP hS (by omega) hO rfl (m_thrown l D C b E2 S2 kc hM) wq5_140 wq5_141 wq5_142 wq1_8 wq5_143 (by decide) ⟨by omega, by omega⟩ rfl hl.1 rfl (Nat.le_of_ble_eq_true rfl) (by omega) (by omega) dL_law_800 (fun r3 E3 H locs hw hP hS => ?_)
  obtain ⟨rfl, rfl⟩ := hw
  refine lv_iload X.1 X.2.1 dL_law_803 (lv_at hl 1 rfl) ?_
  refine lv_icmp_eq (tgt := 810) X.1 X.2.1 dL_law_805 (by decide) (fun _ => ?_) (fun h => absurd rfl h)
  refine lv_iload X.1 X.2.1 dL_law_810 (lv_at hl 1 rfl) ?_
  refine lv_if_ne (tgt := 827) X.1 X.2.1 dL_law_812 (by decide) (fun _ => ?_) (fun h => ?_)
  · refine lv_goto (tgt := 1296) X.1 X.2.1 dL_law_827 (by decide) ?_
    exact nx _ _ _ _ _ _ _ ⟨hP, hS, hC, hB, hM, hE⟩ (lv_sub hl [2, 3, 4, 5, 6] rfl)
  · have hk0 := wm_kc0 hkc h
    have hv3 := hv3 hk0
    have hf2 := hf2 hk0
    subst hv3
    refine lv_aload_n X.1 X.2.1 dL_law_815 rfl (lv_at hl 6 rfl) ?_
    refine lv_iconst (v := nI 0) X.1 X.2.1 dL_law_816 (by decide) ?_
    refine wm_laldR (N := 1) (i := 0) X hP (by omega) hE (by decide) (by decide) dL_law_817 ?_
    refine lv_iload X.1 X.2.1 dL_law_818 (lv_at hl 0 rfl) ?_
    refine lv_i2l (v := (nI v3).toInt64) X.1 X.2.1 dL_law_820 rfl ?_
    refine W.lcmp X.1 X.2.1 dL_law_821 ?_
    refine lv_if_eq (tgt := 827) X.1 X.2.1 dL_law_822 (by decide) (fun _ => ?_) (fun h => absurd (wm_cmp0 hf2) h)
    refine lv_goto (tgt := 1296) X.1 X.2.1 dL_law_827 (by decide) ?_
    exact nx _ _ _ _ _ _ _ ⟨hP, hS, hC, hB, hM, hE⟩ (lv_sub hl [2, 3, 4, 5, 6] rfl)
set_option maxHeartbeats 1000000 in
theorem s_both {p : Program} {l : Launch} {e : Env} {R : Room} {s : State} {m : MethodId} {args : Array Value} {below : List Frame} {meth : Method} {c : Code} {Q : State → Prop} {D : va_G} {C : Nat → ClassId} {b a L : Nat} {xs : Nat → Int32} {i cells slots : Nat} {E : Nat → va_E} {H : Heap} {locs : List Loc} {ls : Array Slot} {S : wm_St} {th : Nat} {f : Nat → Int64} (V : wm_env p l R s m args meth c D C b a L xs) (hi : i + 6 ≤ L) (hcl : cells + 1 ≤ R.cells) (hsl : slots + 6 ≤ R.slots) (nx : wm_next p l e R s m args below meth c Q D C b a i (cells + 1) (slots + 6)) (st : wm_st9 D C b s E H locs S th f) (hl : lv_has ls 8 (wm_lvs a b i)) : W p l e R s m args below meth c H locs cells slots Q (F0 m 830 ls []) := by
  obtain ⟨hst, X, hV, hNc, hX, ha, hab, hL, hRf, hRl⟩ := V
  obtain ⟨hP, hS, hC, hB, hM, hE⟩ := st
  refine lv_aload_n X.1 X.2.1 dL_law_830 rfl (lv_at hl 2 rfl) ?_
  refine lv_aload_n X.1 X.2.1 dL_law_831 rfl (lv_at hl 1 rfl) ?_
  refine lv_iload X.1 X.2.1 dL_law_832 (lv_at hl 0 rfl) ?_
  refine lv_iconst (v := nI 1) X.1 X.2.1 dL_law_834 (by decide) ?_
  refine wm_iadd (x := i) (y := 1) X dL_law_835 ?_
  refine wm_sld (k := i + 1) X hX ha hab hS (by omega) (by omega) dL_law_836 ?_
  refine lv_aload_n X.1 X.2.1 dL_law_837 rfl (lv_at hl 1 rfl) ?_
  refine lv_iload X.1 X.2.1 dL_law_838 (lv_at hl 0 rfl) ?_
  refine lv_iconst (v := nI 2) X.1 X.2.1 dL_law_840 (by decide) ?_
  refine wm_iadd (x := i) (y := 2) X dL_law_841 ?_
  refine wm_sld (k := i + 2) X hX ha hab hS (by omega) (by omega) dL_law_842 ?_
  refine lv_aload_n X.1 X.2.1 dL_law_843 rfl (lv_at hl 1 rfl) ?_
  refine lv_iload X.1 X.2.1 dL_law_844 (lv_at hl 0 rfl) ?_
  refine lv_iconst (v := nI 3) X.1 X.2.1 dL_law_846 (by decide) ?_
  refine wm_iadd (x := i) (y := 3) X dL_law_847 ?_
  refine wm_sld (k := i + 3) X hX ha hab hS (by omega) (by omega) dL_law_848 ?_
  refine lv_aload_n X.1 X.2.1 dL_law_849 rfl (lv_at hl 4 rfl) ?_
  refine wm_callH (k := 5) (As := [.ref (b + 0), .int (xs (i + 1)), .int (xs (i + 2)), .int (xs (i + 3)), .ref (b + 146)]) (rest := []) X hV hNc hP hS (h_both l hst D C b E S f (xs (i + 1)) (xs (i + 2)) (xs (i + 3)) hC hB hE) wq3_67 wq3_68 wq1_0 wqW_L_both (by decide) ⟨by omega, by omega⟩ rfl hl.1 rfl (Nat.le_of_ble_eq_true rfl) hcl hsl dL_law_850 (fun r1 E1 H locs hw hP hS => ?_)
  have hB0 := hB
  obtain ⟨S2, kc, v2, f2, rfl, hkc, ho, hC, hB, hE, hf2, hfr⟩ := hw
  have hM := hM.cg (fun j h1 h2 => hfr j h1 (by omega))
  refine lv_istore (lv' := [(5, .int (nI kc)), (4, .int (nI i)), (0, .ref a), (1, .ref (b + 0)), (2, .ref (b + 119)), (3, .ref (b + 146))]) X.1 X.2.1 dL_law_853 hl (by decide) rfl (fun ls hl => ?_)
  refine lv_aload_n X.1 X.2.1 dL_law_855 rfl (lv_at hl 4 rfl) ?_
  refine lv_aload_n X.1 X.2.1 dL_law_856 rfl (lv_at hl 2 rfl) ?_
  refine lv_iload X.1 X.2.1 dL_law_857 (lv_at hl 1 rfl) ?_
  refine lv_iconst (v := nI 1) X.1 X.2.1 dL_law_859 (by decide) ?_
  refine wm_iadd (x := i) (y := 1) X dL_law_860 ?_
  refine wm_sld (k := i + 1) X hX ha hab hS (by omega) (by omega) dL_law_861 ?_
  refine lv_aload_n X.1 X.2.1 dL_law_862 rfl (lv_at hl 2 rfl) ?_
  refine lv_iload X.1 X.2.1 dL_law_863 (lv_at hl 1 rfl) ?_
  refine lv_iconst (v := nI 2) X.1 X.2.1 dL_law_865 (by decide) ?_
  refine wm_iadd (x := i) (y := 2) X dL_law_866 ?_
  refine wm_sld (k := i + 2) X hX ha hab hS (by omega) (by omega) dL_law_867 ?_
  refine lv_aload_n X.1 X.2.1 dL_law_868 rfl (lv_at hl 2 rfl) ?_
  refine lv_iload X.1 X.2.1 dL_law_869 (lv_at hl 1 rfl) ?_
  refine lv_iconst (v := nI 3) X.1 X.2.1 dL_law_871 (by decide) ?_
  refine wm_iadd (x := i) (y := 3) X dL_law_872 ?_
  refine wm_sld (k := i + 3) X hX ha hab hS (by omega) (by omega) dL_law_873 ?_
  obtain ⟨o1, o2, o3, o4, o5, o6, o7, o8, hO⟩ := id hM.1
  refine wm_callVi (k := 3) (As := [.int (xs (i + 1)), .int (xs (i + 2)), .int (xs (i + 3))]) (rest := []) X hP hS (by omega) hO rfl (m_both l D C b E1 S S2 th kc v2 (xs (i + 1)) (xs (i + 2)) (xs (i + 3)) hM hB0 ho) wq6_16 wq6_17 wq6_18 wq1_8 wq6_19 (by decide) ⟨by omega, by omega⟩ rfl hl.1 rfl (Nat.le_of_ble_eq_true rfl) (by omega) (by omega) dL_law_874 (fun r2 E2 H locs hw hP hS => ?_)
  obtain ⟨v3, rfl, hv3, hM, hfr⟩ := hw
  have hC := hC.cg (fun j hj => hfr j (Or.inl hj))
  have hE := (hfr 146 (Or.inr (by omega))).trans hE
  refine lv_istore (lv' := [(6, .int (nI v3)), (5, .int (nI kc)), (4, .int (nI i)), (0, .ref a), (1, .ref (b + 0)), (2, .ref (b + 119)), (3, .ref (b + 146))]) X.1 X.2.1 dL_law_877 hl (by decide) rfl (fun ls hl => ?_)
  refine lv_aload_n X.1 X.2.1 dL_law_879 rfl (lv_at hl 5 rfl) ?_
  obtain ⟨o1, o2, o3, o4, o5, o6, o7, o8, hO⟩ := id hM.1
  refine wm_callVi (k := 0) (As := []) (rest := []) X hP hS (by omega) hO rfl (m_thrown l D C b E2 S2 kc hM) wq5_140 wq5_141 wq5_142 wq1_8 wq5_143 (by decide) ⟨by omega, by omega⟩ rfl hl.1 rfl (Nat.le_of_ble_eq_true rfl) (by omega) (by omega) dL_law_880 (fun r3 E3 H locs hw hP hS => ?_)
  obtain ⟨rfl, rfl⟩ := hw
  refine lv_iload X.1 X.2.1 dL_law_883 (lv_at hl 1 rfl) ?_
  refine lv_icmp_eq (tgt := 890) X.1 X.2.1 dL_law_885 (by decide) (fun _ => ?_) (fun h => absurd rfl h)
  refine lv_iload X.1 X.2.1 dL_law_890 (lv_at hl 1 rfl) ?_
  refine lv_if_ne (tgt := 907) X.1 X.2.1 dL_law_892 (by decide) (fun _ => ?_) (fun h => ?_)
  · refine lv_goto (tgt := 1296) X.1 X.2.1 dL_law_907 (by decide) ?_
    exact nx _ _ _ _ _ _ _ ⟨hP, hS, hC, hB, hM, hE⟩ (lv_sub hl [2, 3, 4, 5, 6] rfl)
  · have hk0 := wm_kc0 hkc h
    have hv3 := hv3 hk0
    have hf2 := hf2 hk0
    subst hv3
    refine lv_aload_n X.1 X.2.1 dL_law_895 rfl (lv_at hl 6 rfl) ?_
    refine lv_iconst (v := nI 0) X.1 X.2.1 dL_law_896 (by decide) ?_
    refine wm_laldR (N := 1) (i := 0) X hP (by omega) hE (by decide) (by decide) dL_law_897 ?_
    refine lv_iload X.1 X.2.1 dL_law_898 (lv_at hl 0 rfl) ?_
    refine lv_i2l (v := (nI v3).toInt64) X.1 X.2.1 dL_law_900 rfl ?_
    refine W.lcmp X.1 X.2.1 dL_law_901 ?_
    refine lv_if_eq (tgt := 907) X.1 X.2.1 dL_law_902 (by decide) (fun _ => ?_) (fun h => absurd (wm_cmp0 hf2) h)
    refine lv_goto (tgt := 1296) X.1 X.2.1 dL_law_907 (by decide) ?_
    exact nx _ _ _ _ _ _ _ ⟨hP, hS, hC, hB, hM, hE⟩ (lv_sub hl [2, 3, 4, 5, 6] rfl)
set_option maxHeartbeats 1000000 in
theorem s_takes {p : Program} {l : Launch} {e : Env} {R : Room} {s : State} {m : MethodId} {args : Array Value} {below : List Frame} {meth : Method} {c : Code} {Q : State → Prop} {D : va_G} {C : Nat → ClassId} {b a L : Nat} {xs : Nat → Int32} {i cells slots : Nat} {E : Nat → va_E} {H : Heap} {locs : List Loc} {ls : Array Slot} {S : wm_St} {th : Nat} {f : Nat → Int64} (V : wm_env p l R s m args meth c D C b a L xs) (hi : i + 6 ≤ L) (hcl : cells + 1 ≤ R.cells) (hsl : slots + 6 ≤ R.slots) (nx : wm_next p l e R s m args below meth c Q D C b a i (cells + 1) (slots + 6)) (st : wm_st9 D C b s E H locs S th f) (hl : lv_has ls 8 (wm_lvs a b i)) : W p l e R s m args below meth c H locs cells slots Q (F0 m 910 ls []) := by
  obtain ⟨hst, X, hV, hNc, hX, ha, hab, hL, hRf, hRl⟩ := V
  obtain ⟨hP, hS, hC, hB, hM, hE⟩ := st
  refine lv_aload_n X.1 X.2.1 dL_law_910 rfl (lv_at hl 2 rfl) ?_
  refine lv_aload_n X.1 X.2.1 dL_law_911 rfl (lv_at hl 1 rfl) ?_
  refine lv_iload X.1 X.2.1 dL_law_912 (lv_at hl 0 rfl) ?_
  refine lv_iconst (v := nI 1) X.1 X.2.1 dL_law_914 (by decide) ?_
  refine wm_iadd (x := i) (y := 1) X dL_law_915 ?_
  refine wm_sld (k := i + 1) X hX ha hab hS (by omega) (by omega) dL_law_916 ?_
  refine lv_aload_n X.1 X.2.1 dL_law_917 rfl (lv_at hl 4 rfl) ?_
  refine wm_callH (k := 3) (As := [.ref (b + 0), .int (xs (i + 1)), .ref (b + 146)]) (rest := []) X hV hNc hP hS (h_takes l hst D C b E S f (xs (i + 1)) hC hB hE) wq3_85 wq3_86 wq1_0 wqW_L_takes (by decide) ⟨by omega, by omega⟩ rfl hl.1 rfl (Nat.le_of_ble_eq_true rfl) hcl hsl dL_law_918 (fun r1 E1 H locs hw hP hS => ?_)
  have hB0 := hB
  obtain ⟨S2, kc, v2, f2, rfl, hkc, ho, hC, hB, hE, hf2, hfr⟩ := hw
  have hM := hM.cg (fun j h1 h2 => hfr j h1 (by omega))
  refine lv_istore (lv' := [(5, .int (nI kc)), (4, .int (nI i)), (0, .ref a), (1, .ref (b + 0)), (2, .ref (b + 119)), (3, .ref (b + 146))]) X.1 X.2.1 dL_law_921 hl (by decide) rfl (fun ls hl => ?_)
  refine lv_aload_n X.1 X.2.1 dL_law_923 rfl (lv_at hl 4 rfl) ?_
  refine lv_aload_n X.1 X.2.1 dL_law_924 rfl (lv_at hl 2 rfl) ?_
  refine lv_iload X.1 X.2.1 dL_law_925 (lv_at hl 1 rfl) ?_
  refine lv_iconst (v := nI 1) X.1 X.2.1 dL_law_927 (by decide) ?_
  refine wm_iadd (x := i) (y := 1) X dL_law_928 ?_
  refine wm_sld (k := i + 1) X hX ha hab hS (by omega) (by omega) dL_law_929 ?_
  obtain ⟨o1, o2, o3, o4, o5, o6, o7, o8, hO⟩ := id hM.1
  refine wm_callVi (k := 1) (As := [.int (xs (i + 1))]) (rest := []) X hP hS (by omega) hO rfl (m_takes l D C b E1 S S2 th kc v2 (xs (i + 1)) hM hB0 ho) wq6_23 wq6_24 wq6_25 wq1_8 wq6_26 (by decide) ⟨by omega, by omega⟩ rfl hl.1 rfl (Nat.le_of_ble_eq_true rfl) (by omega) (by omega) dL_law_930 (fun r2 E2 H locs hw hP hS => ?_)
  obtain ⟨v3, rfl, hv3, hM, hfr⟩ := hw
  have hC := hC.cg (fun j hj => hfr j (Or.inl hj))
  have hE := (hfr 146 (Or.inr (by omega))).trans hE
  refine lv_istore (lv' := [(6, .int (nI v3.toNat)), (5, .int (nI kc)), (4, .int (nI i)), (0, .ref a), (1, .ref (b + 0)), (2, .ref (b + 119)), (3, .ref (b + 146))]) X.1 X.2.1 dL_law_933 hl (by decide) rfl (fun ls hl => ?_)
  refine lv_aload_n X.1 X.2.1 dL_law_935 rfl (lv_at hl 5 rfl) ?_
  obtain ⟨o1, o2, o3, o4, o5, o6, o7, o8, hO⟩ := id hM.1
  refine wm_callVi (k := 0) (As := []) (rest := []) X hP hS (by omega) hO rfl (m_thrown l D C b E2 S2 kc hM) wq5_140 wq5_141 wq5_142 wq1_8 wq5_143 (by decide) ⟨by omega, by omega⟩ rfl hl.1 rfl (Nat.le_of_ble_eq_true rfl) (by omega) (by omega) dL_law_936 (fun r3 E3 H locs hw hP hS => ?_)
  obtain ⟨rfl, rfl⟩ := hw
  refine lv_iload X.1 X.2.1 dL_law_939 (lv_at hl 1 rfl) ?_
  refine lv_icmp_eq (tgt := 946) X.1 X.2.1 dL_law_941 (by decide) (fun _ => ?_) (fun h => absurd rfl h)
  refine lv_iload X.1 X.2.1 dL_law_946 (lv_at hl 1 rfl) ?_
  refine lv_if_ne (tgt := 970) X.1 X.2.1 dL_law_948 (by decide) (fun _ => ?_) (fun h => ?_)
  · refine lv_goto (tgt := 1296) X.1 X.2.1 dL_law_970 (by decide) ?_
    exact nx _ _ _ _ _ _ _ ⟨hP, hS, hC, hB, hM, hE⟩ (lv_sub hl [2, 3, 4, 5, 6] rfl)
  · have hk0 := wm_kc0 hkc h
    have hv3 := hv3 hk0
    have hf2 := hf2 hk0
    subst hv3
    refine lv_aload_n X.1 X.2.1 dL_law_951 rfl (lv_at hl 6 rfl) ?_
    refine lv_iconst (v := nI 0) X.1 X.2.1 dL_law_952 (by decide) ?_
    refine wm_laldR (N := 1) (i := 0) X hP (by omega) hE (by decide) (by decide) dL_law_953 ?_
    refine lv_iload X.1 X.2.1 dL_law_954 (lv_at hl 0 rfl) ?_
    have hb3 : v3 = true ∨ v3 = false := by cases v3 <;> simp
    rcases hb3 with rfl | rfl
    · refine wm_ifz_eq (x := true) (tgt := 963) X dL_law_956 (by decide) (fun h => by exfalso; revert h; decide) (fun _ => ?_)
      refine lv_lconst (v := lN 1) X.1 X.2.1 dL_law_959 (by decide) ?_
      refine lv_goto (tgt := 964) X.1 X.2.1 dL_law_960 (by decide) ?_
      refine W.lcmp X.1 X.2.1 dL_law_964 ?_
      refine lv_if_eq (tgt := 970) X.1 X.2.1 dL_law_965 (by decide) (fun _ => ?_) (fun h => absurd (wm_cmp0 hf2) h)
      refine lv_goto (tgt := 1296) X.1 X.2.1 dL_law_970 (by decide) ?_
      exact nx _ _ _ _ _ _ _ ⟨hP, hS, hC, hB, hM, hE⟩ (lv_sub hl [2, 3, 4, 5, 6] rfl)
    · refine wm_ifz_eq (x := false) (tgt := 963) X dL_law_956 (by decide) (fun _ => ?_) (fun h => by exfalso; revert h; decide)
      refine lv_lconst (v := lN 0) X.1 X.2.1 dL_law_963 (by decide) ?_
      refine W.lcmp X.1 X.2.1 dL_law_964 ?_
      refine lv_if_eq (tgt := 970) X.1 X.2.1 dL_law_965 (by decide) (fun _ => ?_) (fun h => absurd (wm_cmp0 hf2) h)
      refine lv_goto (tgt := 1296) X.1 X.2.1 dL_law_970 (by decide) ?_
      exact nx _ _ _ _ _ _ _ ⟨hP, hS, hC, hB, hM, hE⟩ (lv_sub hl [2, 3, 4, 5, 6] rfl)
set_option maxHeartbeats 1000000 in
theorem s_within {p : Program} {l : Launch} {e : Env} {R : Room} {s : State} {m : MethodId} {args : Array Value} {below : List Frame} {meth : Method} {c : Code} {Q : State → Prop} {D : va_G} {C : Nat → ClassId} {b a L : Nat} {xs : Nat → Int32} {i cells slots : Nat} {E : Nat → va_E} {H : Heap} {locs : List Loc} {ls : Array Slot} {S : wm_St} {th : Nat} {f : Nat → Int64} (V : wm_env p l R s m args meth c D C b a L xs) (hi : i + 6 ≤ L) (hcl : cells + 1 ≤ R.cells) (hsl : slots + 6 ≤ R.slots) (nx : wm_next p l e R s m args below meth c Q D C b a i (cells + 1) (slots + 6)) (st : wm_st9 D C b s E H locs S th f) (hl : lv_has ls 8 (wm_lvs a b i)) : W p l e R s m args below meth c H locs cells slots Q (F0 m 973 ls []) := by
  obtain ⟨hst, X, hV, hNc, hX, ha, hab, hL, hRf, hRl⟩ := V
  obtain ⟨hP, hS, hC, hB, hM, hE⟩ := st
  refine lv_aload_n X.1 X.2.1 dL_law_973 rfl (lv_at hl 2 rfl) ?_
  refine lv_aload_n X.1 X.2.1 dL_law_974 rfl (lv_at hl 1 rfl) ?_
  refine lv_iload X.1 X.2.1 dL_law_975 (lv_at hl 0 rfl) ?_
  refine lv_iconst (v := nI 1) X.1 X.2.1 dL_law_977 (by decide) ?_
  refine wm_iadd (x := i) (y := 1) X dL_law_978 ?_
  refine wm_sld (k := i + 1) X hX ha hab hS (by omega) (by omega) dL_law_979 ?_
  refine lv_aload_n X.1 X.2.1 dL_law_980 rfl (lv_at hl 1 rfl) ?_
  refine lv_iload X.1 X.2.1 dL_law_981 (lv_at hl 0 rfl) ?_
  refine lv_iconst (v := nI 2) X.1 X.2.1 dL_law_983 (by decide) ?_
  refine wm_iadd (x := i) (y := 2) X dL_law_984 ?_
  refine wm_sld (k := i + 2) X hX ha hab hS (by omega) (by omega) dL_law_985 ?_
  refine lv_aload_n X.1 X.2.1 dL_law_986 rfl (lv_at hl 4 rfl) ?_
  refine wm_callH (k := 4) (As := [.ref (b + 0), .int (xs (i + 1)), .int (xs (i + 2)), .ref (b + 146)]) (rest := []) X hV hNc hP hS (h_within l hst D C b E S f (xs (i + 1)) (xs (i + 2)) hC hB hE) wq3_101 wq3_102 wq1_0 wqW_L_within (by decide) ⟨by omega, by omega⟩ rfl hl.1 rfl (Nat.le_of_ble_eq_true rfl) hcl hsl dL_law_987 (fun r1 E1 H locs hw hP hS => ?_)
  have hB0 := hB
  obtain ⟨S2, kc, v2, f2, rfl, hkc, ho, hC, hB, hE, hf2, hfr⟩ := hw
  have hM := hM.cg (fun j h1 h2 => hfr j h1 (by omega))
  refine lv_istore (lv' := [(5, .int (nI kc)), (4, .int (nI i)), (0, .ref a), (1, .ref (b + 0)), (2, .ref (b + 119)), (3, .ref (b + 146))]) X.1 X.2.1 dL_law_990 hl (by decide) rfl (fun ls hl => ?_)
  refine lv_aload_n X.1 X.2.1 dL_law_992 rfl (lv_at hl 4 rfl) ?_
  refine lv_aload_n X.1 X.2.1 dL_law_993 rfl (lv_at hl 2 rfl) ?_
  refine lv_iload X.1 X.2.1 dL_law_994 (lv_at hl 1 rfl) ?_
  refine lv_iconst (v := nI 1) X.1 X.2.1 dL_law_996 (by decide) ?_
  refine wm_iadd (x := i) (y := 1) X dL_law_997 ?_
  refine wm_sld (k := i + 1) X hX ha hab hS (by omega) (by omega) dL_law_998 ?_
  refine lv_aload_n X.1 X.2.1 dL_law_999 rfl (lv_at hl 2 rfl) ?_
  refine lv_iload X.1 X.2.1 dL_law_1000 (lv_at hl 1 rfl) ?_
  refine lv_iconst (v := nI 2) X.1 X.2.1 dL_law_1002 (by decide) ?_
  refine wm_iadd (x := i) (y := 2) X dL_law_1003 ?_
  refine wm_sld (k := i + 2) X hX ha hab hS (by omega) (by omega) dL_law_1004 ?_
  obtain ⟨o1, o2, o3, o4, o5, o6, o7, o8, hO⟩ := id hM.1
  refine wm_callVi (k := 2) (As := [.int (xs (i + 1)), .int (xs (i + 2))]) (rest := []) X hP hS (by omega) hO rfl (m_within l D C b E1 S S2 th kc v2 (xs (i + 1)) (xs (i + 2)) hM hB0 ho) wq6_31 wq6_32 wq6_33 wq1_8 wq6_34 (by decide) ⟨by omega, by omega⟩ rfl hl.1 rfl (Nat.le_of_ble_eq_true rfl) (by omega) (by omega) dL_law_1005 (fun r2 E2 H locs hw hP hS => ?_)
  obtain ⟨v3, rfl, hv3, hM, hfr⟩ := hw
  have hC := hC.cg (fun j hj => hfr j (Or.inl hj))
  have hE := (hfr 146 (Or.inr (by omega))).trans hE
  refine lv_istore (lv' := [(6, .int (nI v3.toNat)), (5, .int (nI kc)), (4, .int (nI i)), (0, .ref a), (1, .ref (b + 0)), (2, .ref (b + 119)), (3, .ref (b + 146))]) X.1 X.2.1 dL_law_1008 hl (by decide) rfl (fun ls hl => ?_)
  refine lv_aload_n X.1 X.2.1 dL_law_1010 rfl (lv_at hl 5 rfl) ?_
  obtain ⟨o1, o2, o3, o4, o5, o6, o7, o8, hO⟩ := id hM.1
  refine wm_callVi (k := 0) (As := []) (rest := []) X hP hS (by omega) hO rfl (m_thrown l D C b E2 S2 kc hM) wq5_140 wq5_141 wq5_142 wq1_8 wq5_143 (by decide) ⟨by omega, by omega⟩ rfl hl.1 rfl (Nat.le_of_ble_eq_true rfl) (by omega) (by omega) dL_law_1011 (fun r3 E3 H locs hw hP hS => ?_)
  obtain ⟨rfl, rfl⟩ := hw
  refine lv_iload X.1 X.2.1 dL_law_1014 (lv_at hl 1 rfl) ?_
  refine lv_icmp_eq (tgt := 1021) X.1 X.2.1 dL_law_1016 (by decide) (fun _ => ?_) (fun h => absurd rfl h)
  refine lv_iload X.1 X.2.1 dL_law_1021 (lv_at hl 1 rfl) ?_
  refine lv_if_ne (tgt := 1045) X.1 X.2.1 dL_law_1023 (by decide) (fun _ => ?_) (fun h => ?_)
  · refine lv_goto (tgt := 1296) X.1 X.2.1 dL_law_1045 (by decide) ?_
    exact nx _ _ _ _ _ _ _ ⟨hP, hS, hC, hB, hM, hE⟩ (lv_sub hl [2, 3, 4, 5, 6] rfl)
  · have hk0 := wm_kc0 hkc h
    have hv3 := hv3 hk0
    have hf2 := hf2 hk0
    subst hv3
    refine lv_aload_n X.1 X.2.1 dL_law_1026 rfl (lv_at hl 6 rfl) ?_
    refine lv_iconst (v := nI 0) X.1 X.2.1 dL_law_1027 (by decide) ?_
    refine wm_laldR (N := 1) (i := 0) X hP (by omega) hE (by decide) (by decide) dL_law_1028 ?_
    refine lv_iload X.1 X.2.1 dL_law_1029 (lv_at hl 0 rfl) ?_
    have hb3 : v3 = true ∨ v3 = false := by cases v3 <;> simp
    rcases hb3 with rfl | rfl
    · refine wm_ifz_eq (x := true) (tgt := 1038) X dL_law_1031 (by decide) (fun h => by exfalso; revert h; decide) (fun _ => ?_)
      refine lv_lconst (v := lN 1) X.1 X.2.1 dL_law_1034 (by decide) ?_
      refine lv_goto (tgt := 1039) X.1 X.2.1 dL_law_1035 (by decide) ?_
      refine W.lcmp X.1 X.2.1 dL_law_1039 ?_
      refine lv_if_eq (tgt := 1045) X.1 X.2.1 dL_law_1040 (by decide) (fun _ => ?_) (fun h => absurd (wm_cmp0 hf2) h)
      refine lv_goto (tgt := 1296) X.1 X.2.1 dL_law_1045 (by decide) ?_
      exact nx _ _ _ _ _ _ _ ⟨hP, hS, hC, hB, hM, hE⟩ (lv_sub hl [2, 3, 4, 5, 6] rfl)
    · refine wm_ifz_eq (x := false) (tgt := 1038) X dL_law_1031 (by decide) (fun _ => ?_) (fun h => by exfalso; revert h; decide)
      refine lv_lconst (v := lN 0) X.1 X.2.1 dL_law_1038 (by decide) ?_
      refine W.lcmp X.1 X.2.1 dL_law_1039 ?_
      refine lv_if_eq (tgt := 1045) X.1 X.2.1 dL_law_1040 (by decide) (fun _ => ?_) (fun h => absurd (wm_cmp0 hf2) h)
      refine lv_goto (tgt := 1296) X.1 X.2.1 dL_law_1045 (by decide) ?_
      exact nx _ _ _ _ _ _ _ ⟨hP, hS, hC, hB, hM, hE⟩ (lv_sub hl [2, 3, 4, 5, 6] rfl)
set_option maxHeartbeats 1000000 in
theorem s_length {p : Program} {l : Launch} {e : Env} {R : Room} {s : State} {m : MethodId} {args : Array Value} {below : List Frame} {meth : Method} {c : Code} {Q : State → Prop} {D : va_G} {C : Nat → ClassId} {b a L : Nat} {xs : Nat → Int32} {i cells slots : Nat} {E : Nat → va_E} {H : Heap} {locs : List Loc} {ls : Array Slot} {S : wm_St} {th : Nat} {f : Nat → Int64} (V : wm_env p l R s m args meth c D C b a L xs) (hi : i + 6 ≤ L) (hcl : cells + 1 ≤ R.cells) (hsl : slots + 6 ≤ R.slots) (nx : wm_next p l e R s m args below meth c Q D C b a i (cells + 1) (slots + 6)) (st : wm_st9 D C b s E H locs S th f) (hl : lv_has ls 8 (wm_lvs a b i)) : W p l e R s m args below meth c H locs cells slots Q (F0 m 1048 ls []) := by
  obtain ⟨hst, X, hV, hNc, hX, ha, hab, hL, hRf, hRl⟩ := V
  obtain ⟨hP, hS, hC, hB, hM, hE⟩ := st
  refine lv_aload_n X.1 X.2.1 dL_law_1048 rfl (lv_at hl 2 rfl) ?_
  refine wm_callVi (k := 0) (As := []) (rest := []) X hP hS (by omega) hC.1.1 rfl (c_length l D C b E S hC hB) wq2_1 wq2_2 wq2_3 wq1_1 wq2_4 (by decide) ⟨by omega, by omega⟩ rfl hl.1 rfl (Nat.le_of_ble_eq_true rfl) (by omega) (by omega) dL_law_1049 (fun r1 E1 H locs hw hP hS => ?_)
  have hB0 := hB
  obtain ⟨S2, v2, rfl, ho, hC, hB, hfr⟩ := hw
  have hM := hM.cg (fun j h1 h2 => hfr j h1)
  have hE := (hfr 146 (by omega)).trans hE
  refine lv_aload_n X.1 X.2.1 dL_law_1052 rfl (lv_at hl 3 rfl) ?_
  obtain ⟨o1, o2, o3, o4, o5, o6, o7, o8, hO⟩ := id hM.1
  refine wm_callVi (k := 0) (As := []) (rest := [.int (nI v2)]) X hP hS (by omega) hO rfl (m_length l D C b E1 S S2 th v2 hM hB0 ho) wq6_47 wq6_48 wq6_49 wq1_8 wq6_50 (by decide) ⟨by omega, by omega⟩ rfl hl.1 rfl (Nat.le_of_ble_eq_true rfl) (by omega) (by omega) dL_law_1053 (fun r2 E2 H locs hw hP hS => ?_)
  obtain ⟨rfl, hM, hfr⟩ := hw
  have hC := hC.cg (fun j hj => hfr j (Or.inl hj))
  have hE := (hfr 146 (Or.inr (by omega))).trans hE
  refine lv_icmp_eq (tgt := 1296) X.1 X.2.1 dL_law_1056 (by decide) (fun _ => ?_) (fun h => absurd rfl h)
  refine wm_wide (k := cells + 1) (n := slots + 6) (by omega) (by omega) ?_
  exact nx _ _ _ _ _ _ _ ⟨hP, hS, hC, hB, hM, hE⟩ (lv_sub hl [0, 1, 2, 3, 4] rfl)
set_option maxHeartbeats 1000000 in
theorem s_letter {p : Program} {l : Launch} {e : Env} {R : Room} {s : State} {m : MethodId} {args : Array Value} {below : List Frame} {meth : Method} {c : Code} {Q : State → Prop} {D : va_G} {C : Nat → ClassId} {b a L : Nat} {xs : Nat → Int32} {i cells slots : Nat} {E : Nat → va_E} {H : Heap} {locs : List Loc} {ls : Array Slot} {S : wm_St} {th : Nat} {f : Nat → Int64} (V : wm_env p l R s m args meth c D C b a L xs) (hi : i + 6 ≤ L) (hcl : cells + 1 ≤ R.cells) (hsl : slots + 6 ≤ R.slots) (nx : wm_next p l e R s m args below meth c Q D C b a i (cells + 1) (slots + 6)) (st : wm_st9 D C b s E H locs S th f) (hl : lv_has ls 8 (wm_lvs a b i)) : W p l e R s m args below meth c H locs cells slots Q (F0 m 1061 ls []) := by
  obtain ⟨hst, X, hV, hNc, hX, ha, hab, hL, hRf, hRl⟩ := V
  obtain ⟨hP, hS, hC, hB, hM, hE⟩ := st
  refine lv_aload_n X.1 X.2.1 dL_law_1061 rfl (lv_at hl 2 rfl) ?_
  refine lv_aload_n X.1 X.2.1 dL_law_1062 rfl (lv_at hl 1 rfl) ?_
  refine lv_iload X.1 X.2.1 dL_law_1063 (lv_at hl 0 rfl) ?_
  refine lv_iconst (v := nI 1) X.1 X.2.1 dL_law_1065 (by decide) ?_
  refine wm_iadd (x := i) (y := 1) X dL_law_1066 ?_
  refine wm_sld (k := i + 1) X hX ha hab hS (by omega) (by omega) dL_law_1067 ?_
  refine lv_aload_n X.1 X.2.1 dL_law_1068 rfl (lv_at hl 4 rfl) ?_
  refine wm_callH (k := 3) (As := [.ref (b + 0), .int (xs (i + 1)), .ref (b + 146)]) (rest := []) X hV hNc hP hS (h_letter l hst D C b E S f (xs (i + 1)) hC hB hE) wq4_173 wq4_174 wq1_0 wqW_L_letter (by decide) ⟨by omega, by omega⟩ rfl hl.1 rfl (Nat.le_of_ble_eq_true rfl) hcl hsl dL_law_1069 (fun r1 E1 H locs hw hP hS => ?_)
  have hB0 := hB
  obtain ⟨S2, kc, v2, f2, rfl, hkc, ho, hC, hB, hE, hf2, hfr⟩ := hw
  have hM := hM.cg (fun j h1 h2 => hfr j h1 (by omega))
  refine lv_istore (lv' := [(5, .int (nI kc)), (4, .int (nI i)), (0, .ref a), (1, .ref (b + 0)), (2, .ref (b + 119)), (3, .ref (b + 146))]) X.1 X.2.1 dL_law_1072 hl (by decide) rfl (fun ls hl => ?_)
  refine lv_aload_n X.1 X.2.1 dL_law_1074 rfl (lv_at hl 4 rfl) ?_
  refine lv_aload_n X.1 X.2.1 dL_law_1075 rfl (lv_at hl 2 rfl) ?_
  refine lv_iload X.1 X.2.1 dL_law_1076 (lv_at hl 1 rfl) ?_
  refine lv_iconst (v := nI 1) X.1 X.2.1 dL_law_1078 (by decide) ?_
  refine wm_iadd (x := i) (y := 1) X dL_law_1079 ?_
  refine wm_sld (k := i + 1) X hX ha hab hS (by omega) (by omega) dL_law_1080 ?_
  obtain ⟨o1, o2, o3, o4, o5, o6, o7, o8, hO⟩ := id hM.1
  refine wm_callVi (k := 1) (As := [.int (xs (i + 1))]) (rest := []) X hP hS (by omega) hO rfl (m_letter l D C b E1 S S2 th kc v2 (xs (i + 1)) hM hB0 ho) wq6_51 wq6_52 wq6_53 wq1_8 wq6_54 (by decide) ⟨by omega, by omega⟩ rfl hl.1 rfl (Nat.le_of_ble_eq_true rfl) (by omega) (by omega) dL_law_1081 (fun r2 E2 H locs hw hP hS => ?_)
  obtain ⟨v3, rfl, hv3, hM, hfr⟩ := hw
  have hC := hC.cg (fun j hj => hfr j (Or.inl hj))
  have hE := (hfr 146 (Or.inr (by omega))).trans hE
  refine lv_istore (lv' := [(6, .int (nI v3)), (5, .int (nI kc)), (4, .int (nI i)), (0, .ref a), (1, .ref (b + 0)), (2, .ref (b + 119)), (3, .ref (b + 146))]) X.1 X.2.1 dL_law_1084 hl (by decide) rfl (fun ls hl => ?_)
  refine lv_aload_n X.1 X.2.1 dL_law_1086 rfl (lv_at hl 5 rfl) ?_
  obtain ⟨o1, o2, o3, o4, o5, o6, o7, o8, hO⟩ := id hM.1
  refine wm_callVi (k := 0) (As := []) (rest := []) X hP hS (by omega) hO rfl (m_thrown l D C b E2 S2 kc hM) wq5_140 wq5_141 wq5_142 wq1_8 wq5_143 (by decide) ⟨by omega, by omega⟩ rfl hl.1 rfl (Nat.le_of_ble_eq_true rfl) (by omega) (by omega) dL_law_1087 (fun r3 E3 H locs hw hP hS => ?_)
  obtain ⟨rfl, rfl⟩ := hw
  refine lv_iload X.1 X.2.1 dL_law_1090 (lv_at hl 1 rfl) ?_
  refine lv_icmp_eq (tgt := 1097) X.1 X.2.1 dL_law_1092 (by decide) (fun _ => ?_) (fun h => absurd rfl h)
  refine lv_iload X.1 X.2.1 dL_law_1097 (lv_at hl 1 rfl) ?_
  refine lv_if_ne (tgt := 1114) X.1 X.2.1 dL_law_1099 (by decide) (fun _ => ?_) (fun h => ?_)
  · refine lv_goto (tgt := 1296) X.1 X.2.1 dL_law_1114 (by decide) ?_
    exact nx _ _ _ _ _ _ _ ⟨hP, hS, hC, hB, hM, hE⟩ (lv_sub hl [2, 3, 4, 5, 6] rfl)
  · have hk0 := wm_kc0 hkc h
    have hv3 := hv3 hk0
    have hf2 := hf2 hk0
    subst hv3
    refine lv_aload_n X.1 X.2.1 dL_law_1102 rfl (lv_at hl 6 rfl) ?_
    refine lv_iconst (v := nI 0) X.1 X.2.1 dL_law_1103 (by decide) ?_
    refine wm_laldR (N := 1) (i := 0) X hP (by omega) hE (by decide) (by decide) dL_law_1104 ?_
    refine lv_iload X.1 X.2.1 dL_law_1105 (lv_at hl 0 rfl) ?_
    refine lv_i2l (v := (nI v3).toInt64) X.1 X.2.1 dL_law_1107 rfl ?_
    refine W.lcmp X.1 X.2.1 dL_law_1108 ?_
    refine lv_if_eq (tgt := 1114) X.1 X.2.1 dL_law_1109 (by decide) (fun _ => ?_) (fun h => absurd (wm_cmp0 hf2) h)
    refine lv_goto (tgt := 1296) X.1 X.2.1 dL_law_1114 (by decide) ?_
    exact nx _ _ _ _ _ _ _ ⟨hP, hS, hC, hB, hM, hE⟩ (lv_sub hl [2, 3, 4, 5, 6] rfl)
set_option maxHeartbeats 1000000 in
theorem s_words {p : Program} {l : Launch} {e : Env} {R : Room} {s : State} {m : MethodId} {args : Array Value} {below : List Frame} {meth : Method} {c : Code} {Q : State → Prop} {D : va_G} {C : Nat → ClassId} {b a L : Nat} {xs : Nat → Int32} {i cells slots : Nat} {E : Nat → va_E} {H : Heap} {locs : List Loc} {ls : Array Slot} {S : wm_St} {th : Nat} {f : Nat → Int64} (V : wm_env p l R s m args meth c D C b a L xs) (hi : i + 6 ≤ L) (hcl : cells + 1 ≤ R.cells) (hsl : slots + 6 ≤ R.slots) (nx : wm_next p l e R s m args below meth c Q D C b a i (cells + 1) (slots + 6)) (st : wm_st9 D C b s E H locs S th f) (hl : lv_has ls 8 (wm_lvs a b i)) : W p l e R s m args below meth c H locs cells slots Q (F0 m 1117 ls []) := by
  obtain ⟨hst, X, hV, hNc, hX, ha, hab, hL, hRf, hRl⟩ := V
  obtain ⟨hP, hS, hC, hB, hM, hE⟩ := st
  refine lv_aload_n X.1 X.2.1 dL_law_1117 rfl (lv_at hl 2 rfl) ?_
  refine lv_aload_n X.1 X.2.1 dL_law_1118 rfl (lv_at hl 1 rfl) ?_
  refine lv_iload X.1 X.2.1 dL_law_1119 (lv_at hl 0 rfl) ?_
  refine lv_iconst (v := nI 1) X.1 X.2.1 dL_law_1121 (by decide) ?_
  refine wm_iadd (x := i) (y := 1) X dL_law_1122 ?_
  refine wm_sld (k := i + 1) X hX ha hab hS (by omega) (by omega) dL_law_1123 ?_
  refine lv_aload_n X.1 X.2.1 dL_law_1124 rfl (lv_at hl 1 rfl) ?_
  refine lv_iload X.1 X.2.1 dL_law_1125 (lv_at hl 0 rfl) ?_
  refine lv_iconst (v := nI 2) X.1 X.2.1 dL_law_1127 (by decide) ?_
  refine wm_iadd (x := i) (y := 2) X dL_law_1128 ?_
  refine wm_sld (k := i + 2) X hX ha hab hS (by omega) (by omega) dL_law_1129 ?_
  refine lv_aload_n X.1 X.2.1 dL_law_1130 rfl (lv_at hl 4 rfl) ?_
  refine wm_callH (k := 4) (As := [.ref (b + 0), .int (xs (i + 1)), .int (xs (i + 2)), .ref (b + 146)]) (rest := []) X hV hNc hP hS (h_words l hst D C b E S f (xs (i + 1)) (xs (i + 2)) hC hB hE) wq4_185 wq4_186 wq1_0 wqW_L_words (by decide) ⟨by omega, by omega⟩ rfl hl.1 rfl (Nat.le_of_ble_eq_true rfl) hcl hsl dL_law_1131 (fun r1 E1 H locs hw hP hS => ?_)
  have hB0 := hB
  obtain ⟨S2, kc, v2, f2, rfl, hkc, ho, hC, hB, hE, hf2, hfr⟩ := hw
  have hM := hM.cg (fun j h1 h2 => hfr j h1 (by omega))
  refine lv_istore (lv' := [(5, .int (nI kc)), (4, .int (nI i)), (0, .ref a), (1, .ref (b + 0)), (2, .ref (b + 119)), (3, .ref (b + 146))]) X.1 X.2.1 dL_law_1134 hl (by decide) rfl (fun ls hl => ?_)
  refine lv_aload_n X.1 X.2.1 dL_law_1136 rfl (lv_at hl 4 rfl) ?_
  refine lv_aload_n X.1 X.2.1 dL_law_1137 rfl (lv_at hl 2 rfl) ?_
  refine lv_iload X.1 X.2.1 dL_law_1138 (lv_at hl 1 rfl) ?_
  refine lv_iconst (v := nI 1) X.1 X.2.1 dL_law_1140 (by decide) ?_
  refine wm_iadd (x := i) (y := 1) X dL_law_1141 ?_
  refine wm_sld (k := i + 1) X hX ha hab hS (by omega) (by omega) dL_law_1142 ?_
  refine lv_aload_n X.1 X.2.1 dL_law_1143 rfl (lv_at hl 2 rfl) ?_
  refine lv_iload X.1 X.2.1 dL_law_1144 (lv_at hl 1 rfl) ?_
  refine lv_iconst (v := nI 2) X.1 X.2.1 dL_law_1146 (by decide) ?_
  refine wm_iadd (x := i) (y := 2) X dL_law_1147 ?_
  refine wm_sld (k := i + 2) X hX ha hab hS (by omega) (by omega) dL_law_1148 ?_
  obtain ⟨o1, o2, o3, o4, o5, o6, o7, o8, hO⟩ := id hM.1
  refine wm_callVl (k := 2) (As := [.int (xs (i + 1)), .int (xs (i + 2))]) (rest := []) X hP hS (by omega) hO rfl (m_words l D C b E1 S S2 th kc v2 (xs (i + 1)) (xs (i + 2)) hM hB0 ho) wq6_55 wq6_56 wq6_57 wq1_8 wq6_58 (by decide) ⟨by omega, by omega⟩ rfl hl.1 rfl (Nat.le_of_ble_eq_true rfl) (by omega) (by omega) dL_law_1149 (fun r2 E2 H locs hw hP hS => ?_)
  obtain ⟨v3, rfl, hv3, hM, hfr⟩ := hw
  have hC := hC.cg (fun j hj => hfr j (Or.inl hj))
  have hE := (hfr 146 (Or.inr (by omega))).trans hE
  refine lv_lstore (lv' := [(6, .long (lN v3)), (5, .int (nI kc)), (4, .int (nI i)), (0, .ref a), (1, .ref (b + 0)), (2, .ref (b + 119)), (3, .ref (b + 146))]) X.1 X.2.1 dL_law_1152 hl (by decide) rfl (fun ls hl => ?_)
  refine lv_aload_n X.1 X.2.1 dL_law_1154 rfl (lv_at hl 5 rfl) ?_
  obtain ⟨o1, o2, o3, o4, o5, o6, o7, o8, hO⟩ := id hM.1
  refine wm_callVi (k := 0) (As := []) (rest := []) X hP hS (by omega) hO rfl (m_thrown l D C b E2 S2 kc hM) wq5_140 wq5_141 wq5_142 wq1_8 wq5_143 (by decide) ⟨by omega, by omega⟩ rfl hl.1 rfl (Nat.le_of_ble_eq_true rfl) (by omega) (by omega) dL_law_1155 (fun r3 E3 H locs hw hP hS => ?_)
  obtain ⟨rfl, rfl⟩ := hw
  refine lv_iload X.1 X.2.1 dL_law_1158 (lv_at hl 1 rfl) ?_
  refine lv_icmp_eq (tgt := 1165) X.1 X.2.1 dL_law_1160 (by decide) (fun _ => ?_) (fun h => absurd rfl h)
  refine lv_iload X.1 X.2.1 dL_law_1165 (lv_at hl 1 rfl) ?_
  refine lv_if_ne (tgt := 1181) X.1 X.2.1 dL_law_1167 (by decide) (fun _ => ?_) (fun h => ?_)
  · refine lv_goto (tgt := 1296) X.1 X.2.1 dL_law_1181 (by decide) ?_
    exact nx _ _ _ _ _ _ _ ⟨hP, hS, hC, hB, hM, hE⟩ (lv_sub hl [2, 3, 4, 5, 6] rfl)
  · have hk0 := wm_kc0 hkc h
    have hv3 := hv3 hk0
    have hf2 := hf2 hk0
    subst hv3
    refine lv_aload_n X.1 X.2.1 dL_law_1170 rfl (lv_at hl 6 rfl) ?_
    refine lv_iconst (v := nI 0) X.1 X.2.1 dL_law_1171 (by decide) ?_
    refine wm_laldR (N := 1) (i := 0) X hP (by omega) hE (by decide) (by decide) dL_law_1172 ?_
    refine lv_lload X.1 X.2.1 dL_law_1173 (lv_at hl 0 rfl) ?_
    refine W.lcmp X.1 X.2.1 dL_law_1175 ?_
    refine lv_if_eq (tgt := 1181) X.1 X.2.1 dL_law_1176 (by decide) (fun _ => ?_) (fun h => absurd (wm_cmp0 hf2) h)
    refine lv_goto (tgt := 1296) X.1 X.2.1 dL_law_1181 (by decide) ?_
    exact nx _ _ _ _ _ _ _ ⟨hP, hS, hC, hB, hM, hE⟩ (lv_sub hl [2, 3, 4, 5, 6] rfl)
set_option maxHeartbeats 1000000 in
theorem s_sets {p : Program} {l : Launch} {e : Env} {R : Room} {s : State} {m : MethodId} {args : Array Value} {below : List Frame} {meth : Method} {c : Code} {Q : State → Prop} {D : va_G} {C : Nat → ClassId} {b a L : Nat} {xs : Nat → Int32} {i cells slots : Nat} {E : Nat → va_E} {H : Heap} {locs : List Loc} {ls : Array Slot} {S : wm_St} {th : Nat} {f : Nat → Int64} (V : wm_env p l R s m args meth c D C b a L xs) (hi : i + 6 ≤ L) (hcl : cells + 1 ≤ R.cells) (hsl : slots + 6 ≤ R.slots) (nx : wm_next p l e R s m args below meth c Q D C b a i (cells + 1) (slots + 6)) (st : wm_st9 D C b s E H locs S th f) (hl : lv_has ls 8 (wm_lvs a b i)) : W p l e R s m args below meth c H locs cells slots Q (F0 m 1184 ls []) := by
  obtain ⟨hst, X, hV, hNc, hX, ha, hab, hL, hRf, hRl⟩ := V
  obtain ⟨hP, hS, hC, hB, hM, hE⟩ := st
  refine lv_aload_n X.1 X.2.1 dL_law_1184 rfl (lv_at hl 2 rfl) ?_
  refine lv_aload_n X.1 X.2.1 dL_law_1185 rfl (lv_at hl 1 rfl) ?_
  refine lv_iload X.1 X.2.1 dL_law_1186 (lv_at hl 0 rfl) ?_
  refine lv_iconst (v := nI 1) X.1 X.2.1 dL_law_1188 (by decide) ?_
  refine wm_iadd (x := i) (y := 1) X dL_law_1189 ?_
  refine wm_sld (k := i + 1) X hX ha hab hS (by omega) (by omega) dL_law_1190 ?_
  refine lv_aload_n X.1 X.2.1 dL_law_1191 rfl (lv_at hl 4 rfl) ?_
  refine wm_callH (k := 3) (As := [.ref (b + 0), .int (xs (i + 1)), .ref (b + 146)]) (rest := []) X hV hNc hP hS (h_sets l hst D C b E S f (xs (i + 1)) hC hB hE) wq4_226 wq4_227 wq1_0 wqW_L_sets (by decide) ⟨by omega, by omega⟩ rfl hl.1 rfl (Nat.le_of_ble_eq_true rfl) hcl hsl dL_law_1192 (fun r1 E1 H locs hw hP hS => ?_)
  have hB0 := hB
  obtain ⟨S2, kc, v2, f2, rfl, hkc, ho, hC, hB, hE, hf2, hfr⟩ := hw
  have hM := hM.cg (fun j h1 h2 => hfr j h1 (by omega))
  refine lv_istore (lv' := [(5, .int (nI kc)), (4, .int (nI i)), (0, .ref a), (1, .ref (b + 0)), (2, .ref (b + 119)), (3, .ref (b + 146))]) X.1 X.2.1 dL_law_1195 hl (by decide) rfl (fun ls hl => ?_)
  refine lv_aload_n X.1 X.2.1 dL_law_1197 rfl (lv_at hl 4 rfl) ?_
  refine lv_aload_n X.1 X.2.1 dL_law_1198 rfl (lv_at hl 2 rfl) ?_
  refine lv_iload X.1 X.2.1 dL_law_1199 (lv_at hl 1 rfl) ?_
  refine lv_iconst (v := nI 1) X.1 X.2.1 dL_law_1201 (by decide) ?_
  refine wm_iadd (x := i) (y := 1) X dL_law_1202 ?_
  refine wm_sld (k := i + 1) X hX ha hab hS (by omega) (by omega) dL_law_1203 ?_
  obtain ⟨o1, o2, o3, o4, o5, o6, o7, o8, hO⟩ := id hM.1
  refine wm_callVi (k := 1) (As := [.int (xs (i + 1))]) (rest := []) X hP hS (by omega) hO rfl (m_sets l D C b E1 S S2 th kc v2 (xs (i + 1)) hM hB0 ho) wq6_63 wq6_64 wq6_65 wq1_8 wq6_66 (by decide) ⟨by omega, by omega⟩ rfl hl.1 rfl (Nat.le_of_ble_eq_true rfl) (by omega) (by omega) dL_law_1204 (fun r2 E2 H locs hw hP hS => ?_)
  obtain ⟨v3, rfl, hv3, hM, hfr⟩ := hw
  have hC := hC.cg (fun j hj => hfr j (Or.inl hj))
  have hE := (hfr 146 (Or.inr (by omega))).trans hE
  refine lv_istore (lv' := [(6, .int (nI v3)), (5, .int (nI kc)), (4, .int (nI i)), (0, .ref a), (1, .ref (b + 0)), (2, .ref (b + 119)), (3, .ref (b + 146))]) X.1 X.2.1 dL_law_1207 hl (by decide) rfl (fun ls hl => ?_)
  refine lv_aload_n X.1 X.2.1 dL_law_1209 rfl (lv_at hl 5 rfl) ?_
  obtain ⟨o1, o2, o3, o4, o5, o6, o7, o8, hO⟩ := id hM.1
  refine wm_callVi (k := 0) (As := []) (rest := []) X hP hS (by omega) hO rfl (m_thrown l D C b E2 S2 kc hM) wq5_140 wq5_141 wq5_142 wq1_8 wq5_143 (by decide) ⟨by omega, by omega⟩ rfl hl.1 rfl (Nat.le_of_ble_eq_true rfl) (by omega) (by omega) dL_law_1210 (fun r3 E3 H locs hw hP hS => ?_)
  obtain ⟨rfl, rfl⟩ := hw
  refine lv_iload X.1 X.2.1 dL_law_1213 (lv_at hl 1 rfl) ?_
  refine lv_icmp_eq (tgt := 1220) X.1 X.2.1 dL_law_1215 (by decide) (fun _ => ?_) (fun h => absurd rfl h)
  refine lv_iload X.1 X.2.1 dL_law_1220 (lv_at hl 1 rfl) ?_
  refine lv_if_ne (tgt := 1237) X.1 X.2.1 dL_law_1222 (by decide) (fun _ => ?_) (fun h => ?_)
  · refine lv_goto (tgt := 1296) X.1 X.2.1 dL_law_1237 (by decide) ?_
    exact nx _ _ _ _ _ _ _ ⟨hP, hS, hC, hB, hM, hE⟩ (lv_sub hl [2, 3, 4, 5, 6] rfl)
  · have hk0 := wm_kc0 hkc h
    have hv3 := hv3 hk0
    have hf2 := hf2 hk0
    subst hv3
    refine lv_aload_n X.1 X.2.1 dL_law_1225 rfl (lv_at hl 6 rfl) ?_
    refine lv_iconst (v := nI 0) X.1 X.2.1 dL_law_1226 (by decide) ?_
    refine wm_laldR (N := 1) (i := 0) X hP (by omega) hE (by decide) (by decide) dL_law_1227 ?_
    refine lv_iload X.1 X.2.1 dL_law_1228 (lv_at hl 0 rfl) ?_
    refine lv_i2l (v := (nI v3).toInt64) X.1 X.2.1 dL_law_1230 rfl ?_
    refine W.lcmp X.1 X.2.1 dL_law_1231 ?_
    refine lv_if_eq (tgt := 1237) X.1 X.2.1 dL_law_1232 (by decide) (fun _ => ?_) (fun h => absurd (wm_cmp0 hf2) h)
    refine lv_goto (tgt := 1296) X.1 X.2.1 dL_law_1237 (by decide) ?_
    exact nx _ _ _ _ _ _ _ ⟨hP, hS, hC, hB, hM, hE⟩ (lv_sub hl [2, 3, 4, 5, 6] rfl)
set_option maxHeartbeats 1000000 in
theorem s_rests {p : Program} {l : Launch} {e : Env} {R : Room} {s : State} {m : MethodId} {args : Array Value} {below : List Frame} {meth : Method} {c : Code} {Q : State → Prop} {D : va_G} {C : Nat → ClassId} {b a L : Nat} {xs : Nat → Int32} {i cells slots : Nat} {E : Nat → va_E} {H : Heap} {locs : List Loc} {ls : Array Slot} {S : wm_St} {th : Nat} {f : Nat → Int64} (V : wm_env p l R s m args meth c D C b a L xs) (hi : i + 6 ≤ L) (hcl : cells + 1 ≤ R.cells) (hsl : slots + 6 ≤ R.slots) (nx : wm_next p l e R s m args below meth c Q D C b a i (cells + 1) (slots + 6)) (st : wm_st9 D C b s E H locs S th f) (hl : lv_has ls 8 (wm_lvs a b i)) : W p l e R s m args below meth c H locs cells slots Q (F0 m 1240 ls []) := by
  obtain ⟨hst, X, hV, hNc, hX, ha, hab, hL, hRf, hRl⟩ := V
  obtain ⟨hP, hS, hC, hB, hM, hE⟩ := st
  refine lv_aload_n X.1 X.2.1 dL_law_1240 rfl (lv_at hl 2 rfl) ?_
  refine lv_aload_n X.1 X.2.1 dL_law_1241 rfl (lv_at hl 1 rfl) ?_
  refine lv_iload X.1 X.2.1 dL_law_1242 (lv_at hl 0 rfl) ?_
  refine lv_iconst (v := nI 1) X.1 X.2.1 dL_law_1244 (by decide) ?_
  refine wm_iadd (x := i) (y := 1) X dL_law_1245 ?_
  refine wm_sld (k := i + 1) X hX ha hab hS (by omega) (by omega) dL_law_1246 ?_
  refine lv_aload_n X.1 X.2.1 dL_law_1247 rfl (lv_at hl 4 rfl) ?_
  refine wm_callH (k := 3) (As := [.ref (b + 0), .int (xs (i + 1)), .ref (b + 146)]) (rest := []) X hV hNc hP hS (h_rests l hst D C b E S f (xs (i + 1)) hC hB hE) wq4_234 wq4_235 wq1_0 wqW_L_rests (by decide) ⟨by omega, by omega⟩ rfl hl.1 rfl (Nat.le_of_ble_eq_true rfl) hcl hsl dL_law_1248 (fun r1 E1 H locs hw hP hS => ?_)
  have hB0 := hB
  obtain ⟨S2, kc, v2, f2, rfl, hkc, ho, hC, hB, hE, hf2, hfr⟩ := hw
  have hM := hM.cg (fun j h1 h2 => hfr j h1 (by omega))
  refine lv_istore (lv' := [(5, .int (nI kc)), (4, .int (nI i)), (0, .ref a), (1, .ref (b + 0)), (2, .ref (b + 119)), (3, .ref (b + 146))]) X.1 X.2.1 dL_law_1251 hl (by decide) rfl (fun ls hl => ?_)
  refine lv_aload_n X.1 X.2.1 dL_law_1253 rfl (lv_at hl 4 rfl) ?_
  refine lv_aload_n X.1 X.2.1 dL_law_1254 rfl (lv_at hl 2 rfl) ?_
  refine lv_iload X.1 X.2.1 dL_law_1255 (lv_at hl 1 rfl) ?_
  refine lv_iconst (v := nI 1) X.1 X.2.1 dL_law_1257 (by decide) ?_
  refine wm_iadd (x := i) (y := 1) X dL_law_1258 ?_
  refine wm_sld (k := i + 1) X hX ha hab hS (by omega) (by omega) dL_law_1259 ?_
  obtain ⟨o1, o2, o3, o4, o5, o6, o7, o8, hO⟩ := id hM.1
  refine wm_callVi (k := 1) (As := [.int (xs (i + 1))]) (rest := []) X hP hS (by omega) hO rfl (m_rests l D C b E1 S S2 th kc v2 (xs (i + 1)) hM hB0 ho) wq6_79 wq6_80 wq6_81 wq1_8 wq6_82 (by decide) ⟨by omega, by omega⟩ rfl hl.1 rfl (Nat.le_of_ble_eq_true rfl) (by omega) (by omega) dL_law_1260 (fun r2 E2 H locs hw hP hS => ?_)
  obtain ⟨v3, rfl, hv3, hM, hfr⟩ := hw
  have hC := hC.cg (fun j hj => hfr j (Or.inl hj))
  have hE := (hfr 146 (Or.inr (by omega))).trans hE
  refine lv_istore (lv' := [(6, .int (nI v3)), (5, .int (nI kc)), (4, .int (nI i)), (0, .ref a), (1, .ref (b + 0)), (2, .ref (b + 119)), (3, .ref (b + 146))]) X.1 X.2.1 dL_law_1263 hl (by decide) rfl (fun ls hl => ?_)
  refine lv_aload_n X.1 X.2.1 dL_law_1265 rfl (lv_at hl 5 rfl) ?_
  obtain ⟨o1, o2, o3, o4, o5, o6, o7, o8, hO⟩ := id hM.1
  refine wm_callVi (k := 0) (As := []) (rest := []) X hP hS (by omega) hO rfl (m_thrown l D C b E2 S2 kc hM) wq5_140 wq5_141 wq5_142 wq1_8 wq5_143 (by decide) ⟨by omega, by omega⟩ rfl hl.1 rfl (Nat.le_of_ble_eq_true rfl) (by omega) (by omega) dL_law_1266 (fun r3 E3 H locs hw hP hS => ?_)
  obtain ⟨rfl, rfl⟩ := hw
  refine lv_iload X.1 X.2.1 dL_law_1269 (lv_at hl 1 rfl) ?_
  refine lv_icmp_eq (tgt := 1276) X.1 X.2.1 dL_law_1271 (by decide) (fun _ => ?_) (fun h => absurd rfl h)
  refine lv_iload X.1 X.2.1 dL_law_1276 (lv_at hl 1 rfl) ?_
  refine lv_if_ne (tgt := 1293) X.1 X.2.1 dL_law_1278 (by decide) (fun _ => ?_) (fun h => ?_)
  · refine lv_goto (tgt := 1296) X.1 X.2.1 dL_law_1293 (by decide) ?_
    exact nx _ _ _ _ _ _ _ ⟨hP, hS, hC, hB, hM, hE⟩ (lv_sub hl [2, 3, 4, 5, 6] rfl)
  · have hk0 := wm_kc0 hkc h
    have hv3 := hv3 hk0
    have hf2 := hf2 hk0
    subst hv3
    refine lv_aload_n X.1 X.2.1 dL_law_1281 rfl (lv_at hl 6 rfl) ?_
    refine lv_iconst (v := nI 0) X.1 X.2.1 dL_law_1282 (by decide) ?_
    refine wm_laldR (N := 1) (i := 0) X hP (by omega) hE (by decide) (by decide) dL_law_1283 ?_
    refine lv_iload X.1 X.2.1 dL_law_1284 (lv_at hl 0 rfl) ?_
    refine lv_i2l (v := (nI v3).toInt64) X.1 X.2.1 dL_law_1286 rfl ?_
    refine W.lcmp X.1 X.2.1 dL_law_1287 ?_
    refine lv_if_eq (tgt := 1293) X.1 X.2.1 dL_law_1288 (by decide) (fun _ => ?_) (fun h => absurd (wm_cmp0 hf2) h)
    refine lv_goto (tgt := 1296) X.1 X.2.1 dL_law_1293 (by decide) ?_
    exact nx _ _ _ _ _ _ _ ⟨hP, hS, hC, hB, hM, hE⟩ (lv_sub hl [2, 3, 4, 5, 6] rfl)
