/-! The law: what one call of a script does. -/
theorem rat_N {σ : hMem} {nc nl ro : Nat} {known day : Int32} (hc : rCas σ nc) (hs : rSui σ) (hl : rLaw σ nl) (hro : ro < nl) : ∃ x, x ≤ 1000 ∧ cRat (cJ1 σ ro ((lkC σ ro nc known day).1) ((lkC σ ro nc known day).2) (srt (hA σ 12 1 0) (fun i => hA σ 6 1 0 ((lkC σ ro nc known day).2 i).toNatClampNeg) (lkC σ ro nc known day).1)) (13 + ro) ((lkC σ ro nc known day).1) (hI σ 0 11) = nI x := by
  have nc40 : nc ≤ 40 := hc.2.2.1
  have hle : (lkC σ ro nc known day).1 ≤ 40 := Nat.le_trans (lkF_le _ _ nc) nc40
  have hb : ∃ x, x ≤ 1000 ∧ mRate σ (lkC σ ro nc known day).2 (lkC σ ro nc known day).1 ro = nI x := by
    refine mRate_N ⟨(hl.2.2.2.2 ro hro).2.2.1, (hl.2.2.2.2 ro hro).2.2.2.1⟩ hle (fun i hi => ?_) hs.2.2.2
    obtain ⟨j, j1, _, j3⟩ := lkF_in _ _ nc i hi
    have j3 : (lkC σ ro nc known day).2 i = nI j := j3
    rw [j3, nI_clamp (by omega)]
    exact (hc.2.2.2.2.2.1 j j1).2.2.2.1
  rw [rt_eq hl hro hs hle (fun i hi => by rw [hc.2.2.2.2.1]) hb]
  exact hb
def lX (A : Nat → Prop) (s : State) (b L : Nat) (xs : Nat → Int32) (i : Nat) : Prop := va_X b L xs s s.heap ∧ b < s.heap.size ∧ ¬ A b ∧ L ≤ 5120 ∧ i + 10 ≤ L
abbrev LV (E : hEnv) (b i : Nat) : List (Nat × Value) := [(0, .ref b), (1, .ref (hO E 0)), (2, .ref (hO E 43)), (3, .int (nI i))]
def lng (x y : Int32) : Int64 := (x.toInt64 <<< ((32 : Int32).toInt64 &&& 63)) ||| (y.toInt64 &&& 4294967295)
section LAW
variable {p : Program} {l : Launch} {e : Env} {s : State} {m : MethodId} {args : Array Value} {below : List Frame} {meth : Method} {c : Code} {H : Heap} {locs : List Loc} {cells slots : Nat} {Q : State → Prop}
variable {ls : Array Slot} {rest : List Value} {E : hEnv} {A : Nat → Prop} {σ : hMem} {Z : va_W} {b L i pc : Nat} {xs : Nat → Int32}
theorem l_rd (C : hC E A p s m c cL_law 4 R_law) (M : hM E A s H locs σ Z) (X : lX A s b L xs i) (hl : lv_has ls 4 (LV E b i)) (j : Nat) (hj : j < 10) {v : Int} (d1 : decode cL_law pc = .ok (.aload_n 0, 1)) (d2 : decode cL_law (pc + 1) = .ok (.iload_n 3, 1)) (d3 : decode cL_law (pc + 2) = .ok (.iconst v, 1)) (hv : Int32.ofInt v = nI j) (d4 : decode cL_law (pc + 3) = .ok (.iadd, 1)) (d5 : decode cL_law (pc + 4) = .ok (.iaload, 1))
    (kk : W p l e room_1 s m args below meth c H locs cells slots Q (F0 m (pc + 5) ls (.int (xs (i + j)) :: rest))) : W p l e room_1 s m args below meth c H locs cells slots Q (F0 m pc ls rest) := by
  obtain ⟨x1, x2, x3, x4, x5⟩ := X
  refine lv_aload_n C.1 C.2.1 d1 rfl (lv_at hl 0 rfl) ?_
  refine lv_iload_n C.1 C.2.1 d2 rfl (lv_at hl 3 rfl) ?_
  refine lv_iconst C.1 C.2.1 d3 hv ?_
  refine lv_iadd C.1 C.2.1 d4 ?_
  rw [nI_add]
  refine va_sld C.1 C.2.1 x1 x2 x3 M.2.2.1 (vp_in_nI (by omega) (by omega)) d5 ?_
  rw [nI_clamp (by omega)]
  exact kk
theorem l_rdb (C : hC E A p s m c cL_law 4 R_law) (M : hM E A s H locs σ Z) (X : lX A s b L xs i) (hl : lv_has ls 4 (LV E b i)) (j : Nat) (hj : j < 10) {v : Int} (d1 : decode cL_law pc = .ok (.aload_n 0, 1)) (d2 : decode cL_law (pc + 1) = .ok (.iload_n 3, 1)) (d3 : decode cL_law (pc + 2) = .ok (.bipush v, 2)) (hv : (Int8.ofInt v).toInt32 = nI j) (d4 : decode cL_law (pc + 4) = .ok (.iadd, 1)) (d5 : decode cL_law (pc + 5) = .ok (.iaload, 1))
    (kk : W p l e room_1 s m args below meth c H locs cells slots Q (F0 m (pc + 6) ls (.int (xs (i + j)) :: rest))) : W p l e room_1 s m args below meth c H locs cells slots Q (F0 m pc ls rest) := by
  obtain ⟨x1, x2, x3, x4, x5⟩ := X
  refine lv_aload_n C.1 C.2.1 d1 rfl (lv_at hl 0 rfl) ?_
  refine lv_iload_n C.1 C.2.1 d2 rfl (lv_at hl 3 rfl) ?_
  refine lv_bipush C.1 C.2.1 d3 hv ?_
  refine lv_iadd C.1 C.2.1 d4 ?_
  rw [nI_add]
  refine va_sld C.1 C.2.1 x1 x2 x3 M.2.2.1 (vp_in_nI (by omega) (by omega)) d5 ?_
  rw [nI_clamp (by omega)]
  exact kk
/-- an int goes up to a long's upper half -/
theorem l_up (C : hC E A p s m c cL_law 4 R_law) {x : Int32} (d1 : decode cL_law pc = .ok (.i2l, 1)) (d2 : decode cL_law (pc + 1) = .ok (.bipush 32, 2)) (d3 : decode cL_law (pc + 3) = .ok (.lshl, 1))
    (kk : W p l e room_1 s m args below meth c H locs cells slots Q (F0 m (pc + 4) ls (.long (x.toInt64 <<< ((32 : Int32).toInt64 &&& 63)) :: rest))) : W p l e room_1 s m args below meth c H locs cells slots Q (F0 m pc ls (.int x :: rest)) := by
  refine lv_i2l C.1 C.2.1 d1 rfl ?_
  refine lv_bipush (v := 32) C.1 C.2.1 d2 (by decide) ?_
  refine lv_lshl C.1 C.2.1 d3 rfl ?_
  exact kk
theorem l_lo (C : hC E A p s m c cL_law 4 R_law) {x y : Int32} (d1 : decode cL_law pc = .ok (.i2l, 1)) (d2 : decode cL_law (pc + 1) = .ok (.ldc2_w 77, 3)) (d3 : decode cL_law (pc + 4) = .ok (.land, 1)) (d4 : decode cL_law (pc + 5) = .ok (.lor, 1))
    (kk : W p l e room_1 s m args below meth c H locs cells slots Q (F0 m (pc + 6) ls (.long (lng x y) :: rest))) : W p l e room_1 s m args below meth c H locs cells slots Q (F0 m pc ls (.int y :: .long (x.toInt64 <<< ((32 : Int32).toInt64 &&& 63)) :: rest)) := by
  refine lv_i2l C.1 C.2.1 d1 rfl ?_
  refine lv_ldc2 (v := 4294967295) C.1 C.2.1 C.2.2.2.1 (C.2.2.2.2.1.1.use kclaw_77 rfl) d2 ?_
  refine lv_land C.1 C.2.1 d3 ?_
  refine lv_lor C.1 C.2.1 d4 ?_
  exact kk
set_option maxHeartbeats 1000000 in
theorem arm_clock (C : hC E A p s m c cL_law 4 R_law) (M : hM E A s H locs σ Z) (X : lX A s b L xs i) (hl : lv_has ls 4 (LV E b i)) (hR : Rel σ) (hc : cells + 3 ≤ 600000) (hs : slots + 88 ≤ 7302250)
    (kk : ∀ (H1 : Heap) (locs1 : List Loc) (σ1 : hMem), hM E A s H1 locs1 σ1 Z → Rel σ1 → W p l e room_1 s m args below meth c H1 locs1 (cells + 3) (slots + 88) Q (F0 m 1112 ls [])) : W p l e room_1 s m args below meth c H locs cells slots Q (F0 m 140 ls []) := by
  obtain ⟨n, nv, nc, nt, nl, hd, ns, h1, h2, h3, h4, h5, h6, h7, h8, h9, h10⟩ := id hR
  refine lv_aload_n C.1 C.2.1 dL_law_140 rfl (lv_at hl 1 rfl) ?_
  refine l_rd C M X hl 1 (by decide) dL_law_141 dL_law_142 dL_law_143 (by decide) dL_law_144 dL_law_145 ?_
  refine g_calli M (g_runV (As := [.int (xs (i + 1))]) (rest := []) C M 0 (x_clock l E σ Z  (xs (i + 1))) clX11_clock ivX11_clock lklaw_13 (by decide) rfl rfl ⟨Nat.le_of_ble_eq_true rfl, Nat.le_of_ble_eq_true rfl⟩ hl.1 rfl (Nat.le_of_ble_eq_true rfl) dL_law_146 ⟨by show cells + 0 ≤ 600000; omega, by show slots + 0 ≤ 7302250; omega⟩) (fun r1 u1 H locs hx M => ?_)
  refine W.widen (k := cells) (n := slots) (Nat.le_refl _) (Nat.le_refl _) ?_
  obtain ⟨ag, ez⟩ := A43.clock  hx
  have M : hM E A s H locs u1.1 Z := by rw [← ez]; exact M
  obtain ⟨aI, _, aA, _⟩ := id (ag43 ag)
  refine lv_aload_n C.1 C.2.1 dL_law_149 rfl (lv_at hl 2 rfl) ?_
  refine l_rd C M X hl 1 (by decide) dL_law_150 dL_law_151 dL_law_152 (by decide) dL_law_153 dL_law_154 ?_
  refine g_calli M (g_runV (As := [.int (xs (i + 1))]) (rest := [.int r1]) C M 43 (m_clock l E u1.1 Z  (xs (i + 1))) clX12_clock ivX12_clock lklaw_17 (by decide) rfl rfl ⟨Nat.le_of_ble_eq_true rfl, Nat.le_of_ble_eq_true rfl⟩ hl.1 rfl (Nat.le_of_ble_eq_true rfl) dL_law_155 ⟨by show cells + 0 ≤ 600000; omega, by show slots + 0 ≤ 7302250; omega⟩) (fun r2 u2 H locs hm M => ?_)
  obtain ⟨er, hR2, ez2⟩ := Rel.clock  hR hx hm
  have M : hM E A s H locs u2.1 Z := by rw [← ez2]; exact M
  refine W.widen (k := cells + 3) (n := slots + 88) (by show cells + 0 ≤ cells + 3; omega) (by show slots + 0 ≤ slots + 88; omega) ?_
  exact lv_icmp_eq (tgt := 1112) C.1 C.2.1 dL_law_158 (by decide) (fun _ => kk H locs u2.1 M hR2) (fun h => absurd er h)
set_option maxHeartbeats 1000000 in
theorem arm_trust (C : hC E A p s m c cL_law 4 R_law) (M : hM E A s H locs σ Z) (X : lX A s b L xs i) (hl : lv_has ls 4 (LV E b i)) (hR : Rel σ) (hc : cells + 3 ≤ 600000) (hs : slots + 88 ≤ 7302250)
    (kk : ∀ (H1 : Heap) (locs1 : List Loc) (σ1 : hMem), hM E A s H1 locs1 σ1 Z → Rel σ1 → W p l e room_1 s m args below meth c H1 locs1 (cells + 3) (slots + 88) Q (F0 m 1112 ls [])) : W p l e room_1 s m args below meth c H locs cells slots Q (F0 m 163 ls []) := by
  obtain ⟨n, nv, nc, nt, nl, hd, ns, h1, h2, h3, h4, h5, h6, h7, h8, h9, h10⟩ := id hR
  refine lv_aload_n C.1 C.2.1 dL_law_163 rfl (lv_at hl 1 rfl) ?_
  refine l_rd C M X hl 1 (by decide) dL_law_164 dL_law_165 dL_law_166 (by decide) dL_law_167 dL_law_168 ?_
  refine l_rd C M X hl 2 (by decide) dL_law_169 dL_law_170 dL_law_171 (by decide) dL_law_172 dL_law_173 ?_
  refine g_calli M (g_runV (As := [.int (xs (i + 1)), .int (xs (i + 2))]) (rest := []) C M 0 (x_trust l E σ Z  (xs (i + 1)) (xs (i + 2))) clX11_trust ivX11_trust lklaw_18 (by decide) rfl rfl ⟨Nat.le_of_ble_eq_true rfl, Nat.le_of_ble_eq_true rfl⟩ hl.1 rfl (Nat.le_of_ble_eq_true rfl) dL_law_174 ⟨by show cells + 0 ≤ 600000; omega, by show slots + 0 ≤ 7302250; omega⟩) (fun r1 u1 H locs hx M => ?_)
  refine W.widen (k := cells) (n := slots) (Nat.le_refl _) (Nat.le_refl _) ?_
  obtain ⟨ag, ez⟩ := A43.trust  hx
  have M : hM E A s H locs u1.1 Z := by rw [← ez]; exact M
  obtain ⟨aI, _, aA, _⟩ := id (ag43 ag)
  refine lv_aload_n C.1 C.2.1 dL_law_177 rfl (lv_at hl 2 rfl) ?_
  refine l_rd C M X hl 1 (by decide) dL_law_178 dL_law_179 dL_law_180 (by decide) dL_law_181 dL_law_182 ?_
  refine l_rd C M X hl 2 (by decide) dL_law_183 dL_law_184 dL_law_185 (by decide) dL_law_186 dL_law_187 ?_
  refine g_calli M (g_runV (As := [.int (xs (i + 1)), .int (xs (i + 2))]) (rest := [.int r1]) C M 43 (m_trust l E u1.1 Z  (xs (i + 1)) (xs (i + 2))) clX12_trust ivX12_trust lklaw_22 (by decide) rfl rfl ⟨Nat.le_of_ble_eq_true rfl, Nat.le_of_ble_eq_true rfl⟩ hl.1 rfl (Nat.le_of_ble_eq_true rfl) dL_law_188 ⟨by show cells + 0 ≤ 600000; omega, by show slots + 0 ≤ 7302250; omega⟩) (fun r2 u2 H locs hm M => ?_)
  obtain ⟨er, hR2, ez2⟩ := Rel.trust  hR hx hm
  have M : hM E A s H locs u2.1 Z := by rw [← ez2]; exact M
  refine W.widen (k := cells + 3) (n := slots + 88) (by show cells + 0 ≤ cells + 3; omega) (by show slots + 0 ≤ slots + 88; omega) ?_
  exact lv_icmp_eq (tgt := 1112) C.1 C.2.1 dL_law_191 (by decide) (fun _ => kk H locs u2.1 M hR2) (fun h => absurd er h)
set_option maxHeartbeats 1000000 in
theorem arm_says (C : hC E A p s m c cL_law 4 R_law) (M : hM E A s H locs σ Z) (X : lX A s b L xs i) (hl : lv_has ls 4 (LV E b i)) (hR : Rel σ) (hc : cells + 3 ≤ 600000) (hs : slots + 88 ≤ 7302250)
    (kk : ∀ (H1 : Heap) (locs1 : List Loc) (σ1 : hMem), hM E A s H1 locs1 σ1 Z → Rel σ1 → W p l e room_1 s m args below meth c H1 locs1 (cells + 3) (slots + 88) Q (F0 m 1112 ls [])) : W p l e room_1 s m args below meth c H locs cells slots Q (F0 m 196 ls []) := by
  obtain ⟨n, nv, nc, nt, nl, hd, ns, h1, h2, h3, h4, h5, h6, h7, h8, h9, h10⟩ := id hR
  refine lv_aload_n C.1 C.2.1 dL_law_196 rfl (lv_at hl 1 rfl) ?_
  refine l_rd C M X hl 1 (by decide) dL_law_197 dL_law_198 dL_law_199 (by decide) dL_law_200 dL_law_201 ?_
  refine l_rd C M X hl 2 (by decide) dL_law_202 dL_law_203 dL_law_204 (by decide) dL_law_205 dL_law_206 ?_
  refine l_rd C M X hl 3 (by decide) dL_law_207 dL_law_208 dL_law_209 (by decide) dL_law_210 dL_law_211 ?_
  refine l_rd C M X hl 4 (by decide) dL_law_212 dL_law_213 dL_law_214 (by decide) dL_law_215 dL_law_216 ?_
  refine l_rd C M X hl 5 (by decide) dL_law_217 dL_law_218 dL_law_219 (by decide) dL_law_220 dL_law_221 ?_
  refine g_calli M (g_runV (As := [.int (xs (i + 1)), .int (xs (i + 2)), .int (xs (i + 3)), .int (xs (i + 4)), .int (xs (i + 5))]) (rest := []) C M 0 (x_says l E σ Z n h2.1 h2.2.2.1 (xs (i + 1)) (xs (i + 2)) (xs (i + 3)) (xs (i + 4)) (xs (i + 5))) clX11_says ivX11_says lklaw_23 (by decide) rfl rfl ⟨Nat.le_of_ble_eq_true rfl, Nat.le_of_ble_eq_true rfl⟩ hl.1 rfl (Nat.le_of_ble_eq_true rfl) dL_law_222 ⟨by show cells + 0 ≤ 600000; omega, by show slots + 0 ≤ 7302250; omega⟩) (fun r1 u1 H locs hx M => ?_)
  refine W.widen (k := cells) (n := slots) (Nat.le_refl _) (Nat.le_refl _) ?_
  obtain ⟨ag, ez⟩ := A43.says h2 hx
  have M : hM E A s H locs u1.1 Z := by rw [← ez]; exact M
  obtain ⟨aI, _, aA, _⟩ := id (ag43 ag)
  refine lv_aload_n C.1 C.2.1 dL_law_225 rfl (lv_at hl 2 rfl) ?_
  refine l_rd C M X hl 1 (by decide) dL_law_226 dL_law_227 dL_law_228 (by decide) dL_law_229 dL_law_230 ?_
  refine l_rd C M X hl 2 (by decide) dL_law_231 dL_law_232 dL_law_233 (by decide) dL_law_234 dL_law_235 ?_
  refine l_rd C M X hl 3 (by decide) dL_law_236 dL_law_237 dL_law_238 (by decide) dL_law_239 dL_law_240 ?_
  refine l_rd C M X hl 4 (by decide) dL_law_241 dL_law_242 dL_law_243 (by decide) dL_law_244 dL_law_245 ?_
  refine l_rd C M X hl 5 (by decide) dL_law_246 dL_law_247 dL_law_248 (by decide) dL_law_249 dL_law_250 ?_
  refine g_calli M (g_runV (As := [.int (xs (i + 1)), .int (xs (i + 2)), .int (xs (i + 3)), .int (xs (i + 4)), .int (xs (i + 5))]) (rest := [.int r1]) C M 43 (m_says l E u1.1 Z n ((aI 3).trans h2.2.1) h2.2.2.1 (xs (i + 1)) (xs (i + 2)) (xs (i + 3)) (xs (i + 4)) (xs (i + 5))) clX12_says ivX12_says lklaw_27 (by decide) rfl rfl ⟨Nat.le_of_ble_eq_true rfl, Nat.le_of_ble_eq_true rfl⟩ hl.1 rfl (Nat.le_of_ble_eq_true rfl) dL_law_251 ⟨by show cells + 0 ≤ 600000; omega, by show slots + 0 ≤ 7302250; omega⟩) (fun r2 u2 H locs hm M => ?_)
  obtain ⟨er, hR2, ez2⟩ := Rel.says h2 hR hx hm
  have M : hM E A s H locs u2.1 Z := by rw [← ez2]; exact M
  refine W.widen (k := cells + 3) (n := slots + 88) (by show cells + 0 ≤ cells + 3; omega) (by show slots + 0 ≤ slots + 88; omega) ?_
  exact lv_icmp_eq (tgt := 1112) C.1 C.2.1 dL_law_254 (by decide) (fun _ => kk H locs u2.1 M hR2) (fun h => absurd er h)
set_option maxHeartbeats 1000000 in
theorem arm_believed (C : hC E A p s m c cL_law 4 R_law) (M : hM E A s H locs σ Z) (X : lX A s b L xs i) (hl : lv_has ls 4 (LV E b i)) (hR : Rel σ) (hc : cells + 3 ≤ 600000) (hs : slots + 88 ≤ 7302250)
    (kk : ∀ (H1 : Heap) (locs1 : List Loc) (σ1 : hMem), hM E A s H1 locs1 σ1 Z → Rel σ1 → W p l e room_1 s m args below meth c H1 locs1 (cells + 3) (slots + 88) Q (F0 m 1112 ls [])) : W p l e room_1 s m args below meth c H locs cells slots Q (F0 m 259 ls []) := by
  obtain ⟨n, nv, nc, nt, nl, hd, ns, h1, h2, h3, h4, h5, h6, h7, h8, h9, h10⟩ := id hR
  obtain ⟨t1, t2, t3, t4, t5, t6, t7, t8, t9, t10, t11, t12, t13, t14, t15, t16, t17⟩ := id h2
  refine lv_aload_n C.1 C.2.1 dL_law_259 rfl (lv_at hl 1 rfl) ?_
  refine l_rd C M X hl 1 (by decide) dL_law_260 dL_law_261 dL_law_262 (by decide) dL_law_263 dL_law_264 ?_
  refine g_calli M (g_runV (As := [.int (xs (i + 1))]) (rest := []) C M 0 (x_believed l E σ Z n h2.1 h2.2.2.1 t10 t11 h2.tr t13 t16 (xs (i + 1))) clX11_believed ivX11_believed lklaw_28 (by decide) rfl rfl ⟨Nat.le_of_ble_eq_true rfl, Nat.le_of_ble_eq_true rfl⟩ hl.1 rfl (Nat.le_of_ble_eq_true rfl) dL_law_265 ⟨by show cells + 0 ≤ 600000; omega, by show slots + 0 ≤ 7302250; omega⟩) (fun r1 u1 H locs hx M => ?_)
  refine W.widen (k := cells) (n := slots) (Nat.le_refl _) (Nat.le_refl _) ?_
  obtain ⟨ag, ez⟩ := A43.believed h2 hx
  have M : hM E A s H locs u1.1 Z := by rw [← ez]; exact M
  obtain ⟨aI, _, aA, _⟩ := id (ag43 ag)
  refine lv_aload_n C.1 C.2.1 dL_law_268 rfl (lv_at hl 2 rfl) ?_
  refine l_rd C M X hl 1 (by decide) dL_law_269 dL_law_270 dL_law_271 (by decide) dL_law_272 dL_law_273 ?_
  refine g_calli M (g_runV (As := [.int (xs (i + 1))]) (rest := [.int r1]) C M 43 (m_believed l E u1.1 Z n ((aI 3).trans h2.2.1) h2.2.2.1 (h2.sw.ag ag) (fun k hk => by rw [aA, ← t5]; exact t11 k hk) (fun k => by rw [aA]; exact t15 k) (xs (i + 1))) clX12_believed ivX12_believed lklaw_32 (by decide) rfl rfl ⟨Nat.le_of_ble_eq_true rfl, Nat.le_of_ble_eq_true rfl⟩ hl.1 rfl (Nat.le_of_ble_eq_true rfl) dL_law_274 ⟨by show cells + 1 ≤ 600000; omega, by show slots + 40 ≤ 7302250; omega⟩) (fun r2 u2 H locs hm M => ?_)
  obtain ⟨er, hR2, ez2⟩ := Rel.believed h2 hR hx hm
  have M : hM E A s H locs u2.1 Z := by rw [← ez2]; exact M
  refine W.widen (k := cells + 3) (n := slots + 88) (by show cells + 1 ≤ cells + 3; omega) (by show slots + 40 ≤ slots + 88; omega) ?_
  exact lv_icmp_eq (tgt := 1112) C.1 C.2.1 dL_law_277 (by decide) (fun _ => kk H locs u2.1 M hR2) (fun h => absurd er h)
set_option maxHeartbeats 1000000 in
theorem arm_spans (C : hC E A p s m c cL_law 4 R_law) (M : hM E A s H locs σ Z) (X : lX A s b L xs i) (hl : lv_has ls 4 (LV E b i)) (hR : Rel σ) (hc : cells + 3 ≤ 600000) (hs : slots + 88 ≤ 7302250)
    (kk : ∀ (H1 : Heap) (locs1 : List Loc) (σ1 : hMem), hM E A s H1 locs1 σ1 Z → Rel σ1 → W p l e room_1 s m args below meth c H1 locs1 (cells + 3) (slots + 88) Q (F0 m 1112 ls [])) : W p l e room_1 s m args below meth c H locs cells slots Q (F0 m 282 ls []) := by
  obtain ⟨n, nv, nc, nt, nl, hd, ns, h1, h2, h3, h4, h5, h6, h7, h8, h9, h10⟩ := id hR
  obtain ⟨t1, t2, t3, t4, t5, t6, t7, t8, t9, t10, t11, t12, t13, t14, t15, t16, t17⟩ := id h2
  refine lv_aload_n C.1 C.2.1 dL_law_282 rfl (lv_at hl 1 rfl) ?_
  refine l_rd C M X hl 1 (by decide) dL_law_283 dL_law_284 dL_law_285 (by decide) dL_law_286 dL_law_287 ?_
  refine l_rd C M X hl 2 (by decide) dL_law_288 dL_law_289 dL_law_290 (by decide) dL_law_291 dL_law_292 ?_
  refine l_rd C M X hl 3 (by decide) dL_law_293 dL_law_294 dL_law_295 (by decide) dL_law_296 dL_law_297 ?_
  refine g_calli M (g_runV (As := [.int (xs (i + 1)), .int (xs (i + 2)), .int (xs (i + 3))]) (rest := []) C M 0 (x_spans l E σ Z n h2.1 h2.2.2.1 t10 t11 h2.tr t13 t16 (xs (i + 1)) (xs (i + 2)) (xs (i + 3))) clX11_spans ivX11_spans lklaw_33 (by decide) rfl rfl ⟨Nat.le_of_ble_eq_true rfl, Nat.le_of_ble_eq_true rfl⟩ hl.1 rfl (Nat.le_of_ble_eq_true rfl) dL_law_298 ⟨by show cells + 0 ≤ 600000; omega, by show slots + 0 ≤ 7302250; omega⟩) (fun r1 u1 H locs hx M => ?_)
  refine W.widen (k := cells) (n := slots) (Nat.le_refl _) (Nat.le_refl _) ?_
  obtain ⟨ag, ez⟩ := A43.spans h2 hx
  have M : hM E A s H locs u1.1 Z := by rw [← ez]; exact M
  obtain ⟨aI, _, aA, _⟩ := id (ag43 ag)
  refine lv_aload_n C.1 C.2.1 dL_law_301 rfl (lv_at hl 2 rfl) ?_
  refine l_rd C M X hl 1 (by decide) dL_law_302 dL_law_303 dL_law_304 (by decide) dL_law_305 dL_law_306 ?_
  refine l_rd C M X hl 2 (by decide) dL_law_307 dL_law_308 dL_law_309 (by decide) dL_law_310 dL_law_311 ?_
  refine l_rd C M X hl 3 (by decide) dL_law_312 dL_law_313 dL_law_314 (by decide) dL_law_315 dL_law_316 ?_
  refine g_calli M (g_runV (As := [.int (xs (i + 1)), .int (xs (i + 2)), .int (xs (i + 3))]) (rest := [.int r1]) C M 43 (m_spans l E u1.1 Z n ((aI 3).trans h2.2.1) h2.2.2.1 (h2.sw.ag ag) (fun k hk => by rw [aA, ← t5]; exact t11 k hk) (fun k => by rw [aA]; exact t15 k) (xs (i + 1)) (xs (i + 2)) (xs (i + 3))) clX12_spans ivX12_spans lklaw_37 (by decide) rfl rfl ⟨Nat.le_of_ble_eq_true rfl, Nat.le_of_ble_eq_true rfl⟩ hl.1 rfl (Nat.le_of_ble_eq_true rfl) dL_law_317 ⟨by show cells + 1 ≤ 600000; omega, by show slots + 40 ≤ 7302250; omega⟩) (fun r2 u2 H locs hm M => ?_)
  obtain ⟨er, hR2, ez2⟩ := Rel.spans h2 hR hx hm
  have M : hM E A s H locs u2.1 Z := by rw [← ez2]; exact M
  refine W.widen (k := cells + 3) (n := slots + 88) (by show cells + 1 ≤ cells + 3; omega) (by show slots + 40 ≤ slots + 88; omega) ?_
  exact lv_icmp_eq (tgt := 1112) C.1 C.2.1 dL_law_320 (by decide) (fun _ => kk H locs u2.1 M hR2) (fun h => absurd er h)
set_option maxHeartbeats 1000000 in
theorem arm_quarrel (C : hC E A p s m c cL_law 4 R_law) (M : hM E A s H locs σ Z) (X : lX A s b L xs i) (hl : lv_has ls 4 (LV E b i)) (hR : Rel σ) (hc : cells + 3 ≤ 600000) (hs : slots + 88 ≤ 7302250)
    (kk : ∀ (H1 : Heap) (locs1 : List Loc) (σ1 : hMem), hM E A s H1 locs1 σ1 Z → Rel σ1 → W p l e room_1 s m args below meth c H1 locs1 (cells + 3) (slots + 88) Q (F0 m 1112 ls [])) : W p l e room_1 s m args below meth c H locs cells slots Q (F0 m 325 ls []) := by
  obtain ⟨n, nv, nc, nt, nl, hd, ns, h1, h2, h3, h4, h5, h6, h7, h8, h9, h10⟩ := id hR
  obtain ⟨t1, t2, t3, t4, t5, t6, t7, t8, t9, t10, t11, t12, t13, t14, t15, t16, t17⟩ := id h2
  refine lv_aload_n C.1 C.2.1 dL_law_325 rfl (lv_at hl 1 rfl) ?_
  refine g_calli M (g_runV (As := []) (rest := []) C M 0 (x_quarrel l E σ Z n h2.1 h2.2.2.1 t10 t14 t17 ) clX11_quarrel ivX11_quarrel lklaw_38 (by decide) rfl rfl ⟨Nat.le_of_ble_eq_true rfl, Nat.le_of_ble_eq_true rfl⟩ hl.1 rfl (Nat.le_of_ble_eq_true rfl) dL_law_326 ⟨by show cells + 0 ≤ 600000; omega, by show slots + 0 ≤ 7302250; omega⟩) (fun r1 u1 H locs hx M => ?_)
  refine W.widen (k := cells) (n := slots) (Nat.le_refl _) (Nat.le_refl _) ?_
  obtain ⟨ag, ez⟩ := A43.quarrel h2 hx
  have M : hM E A s H locs u1.1 Z := by rw [← ez]; exact M
  obtain ⟨aI, _, aA, _⟩ := id (ag43 ag)
  refine lv_aload_n C.1 C.2.1 dL_law_329 rfl (lv_at hl 2 rfl) ?_
  refine g_calli M (g_runV (As := []) (rest := [.int r1]) C M 43 (m_quarrel l E u1.1 Z n ((aI 3).trans h2.2.1) h2.2.2.1 (h2.sw.ag ag) (fun k => by rw [aA]; exact t15 k) ) clX12_quarrel ivX12_quarrel lklaw_42 (by decide) rfl rfl ⟨Nat.le_of_ble_eq_true rfl, Nat.le_of_ble_eq_true rfl⟩ hl.1 rfl (Nat.le_of_ble_eq_true rfl) dL_law_330 ⟨by show cells + 0 ≤ 600000; omega, by show slots + 0 ≤ 7302250; omega⟩) (fun r2 u2 H locs hm M => ?_)
  obtain ⟨er, hR2, ez2⟩ := Rel.quarrel h2 hR hx hm
  have M : hM E A s H locs u2.1 Z := by rw [← ez2]; exact M
  refine W.widen (k := cells + 3) (n := slots + 88) (by show cells + 0 ≤ cells + 3; omega) (by show slots + 0 ≤ slots + 88; omega) ?_
  exact lv_icmp_eq (tgt := 1112) C.1 C.2.1 dL_law_333 (by decide) (fun _ => kk H locs u2.1 M hR2) (fun h => absurd er h)
set_option maxHeartbeats 1000000 in
theorem arm_quarrels (C : hC E A p s m c cL_law 4 R_law) (M : hM E A s H locs σ Z) (X : lX A s b L xs i) (hl : lv_has ls 4 (LV E b i)) (hR : Rel σ) (hc : cells + 3 ≤ 600000) (hs : slots + 88 ≤ 7302250)
    (kk : ∀ (H1 : Heap) (locs1 : List Loc) (σ1 : hMem), hM E A s H1 locs1 σ1 Z → Rel σ1 → W p l e room_1 s m args below meth c H1 locs1 (cells + 3) (slots + 88) Q (F0 m 1112 ls [])) : W p l e room_1 s m args below meth c H locs cells slots Q (F0 m 338 ls []) := by
  obtain ⟨n, nv, nc, nt, nl, hd, ns, h1, h2, h3, h4, h5, h6, h7, h8, h9, h10⟩ := id hR
  obtain ⟨t1, t2, t3, t4, t5, t6, t7, t8, t9, t10, t11, t12, t13, t14, t15, t16, t17⟩ := id h2
  refine lv_aload_n C.1 C.2.1 dL_law_338 rfl (lv_at hl 1 rfl) ?_
  refine l_rd C M X hl 1 (by decide) dL_law_339 dL_law_340 dL_law_341 (by decide) dL_law_342 dL_law_343 ?_
  refine g_calli M (g_runV (As := [.int (xs (i + 1))]) (rest := []) C M 0 (x_quarrels l E σ Z n h2.1 h2.2.2.1 t10 t14 t17 (xs (i + 1))) clX11_quarrels ivX11_quarrels lklaw_43 (by decide) rfl rfl ⟨Nat.le_of_ble_eq_true rfl, Nat.le_of_ble_eq_true rfl⟩ hl.1 rfl (Nat.le_of_ble_eq_true rfl) dL_law_344 ⟨by show cells + 0 ≤ 600000; omega, by show slots + 0 ≤ 7302250; omega⟩) (fun r1 u1 H locs hx M => ?_)
  refine W.widen (k := cells) (n := slots) (Nat.le_refl _) (Nat.le_refl _) ?_
  obtain ⟨ag, ez⟩ := A43.quarrels h2 hx
  have M : hM E A s H locs u1.1 Z := by rw [← ez]; exact M
  obtain ⟨aI, _, aA, _⟩ := id (ag43 ag)
  refine lv_aload_n C.1 C.2.1 dL_law_347 rfl (lv_at hl 2 rfl) ?_
  refine l_rd C M X hl 1 (by decide) dL_law_348 dL_law_349 dL_law_350 (by decide) dL_law_351 dL_law_352 ?_
  refine g_calli M (g_runV (As := [.int (xs (i + 1))]) (rest := [.int r1]) C M 43 (m_quarrels l E u1.1 Z n ((aI 3).trans h2.2.1) h2.2.2.1 (h2.sw.ag ag) (fun k => by rw [aA]; exact t15 k) (xs (i + 1))) clX12_quarrels ivX12_quarrels lklaw_46 (by decide) rfl rfl ⟨Nat.le_of_ble_eq_true rfl, Nat.le_of_ble_eq_true rfl⟩ hl.1 rfl (Nat.le_of_ble_eq_true rfl) dL_law_353 ⟨by show cells + 0 ≤ 600000; omega, by show slots + 0 ≤ 7302250; omega⟩) (fun r2 u2 H locs hm M => ?_)
  obtain ⟨er, hR2, ez2⟩ := Rel.quarrels h2 hR hx hm
  have M : hM E A s H locs u2.1 Z := by rw [← ez2]; exact M
  refine W.widen (k := cells + 3) (n := slots + 88) (by show cells + 0 ≤ cells + 3; omega) (by show slots + 0 ≤ slots + 88; omega) ?_
  exact lv_icmp_eq (tgt := 1112) C.1 C.2.1 dL_law_356 (by decide) (fun _ => kk H locs u2.1 M hR2) (fun h => absurd er h)
set_option maxHeartbeats 1000000 in
theorem arm_value (C : hC E A p s m c cL_law 4 R_law) (M : hM E A s H locs σ Z) (X : lX A s b L xs i) (hl : lv_has ls 4 (LV E b i)) (hR : Rel σ) (hc : cells + 3 ≤ 600000) (hs : slots + 88 ≤ 7302250)
    (kk : ∀ (H1 : Heap) (locs1 : List Loc) (σ1 : hMem), hM E A s H1 locs1 σ1 Z → Rel σ1 → W p l e room_1 s m args below meth c H1 locs1 (cells + 3) (slots + 88) Q (F0 m 1112 ls [])) : W p l e room_1 s m args below meth c H locs cells slots Q (F0 m 361 ls []) := by
  obtain ⟨n, nv, nc, nt, nl, hd, ns, h1, h2, h3, h4, h5, h6, h7, h8, h9, h10⟩ := id hR
  refine lv_aload_n C.1 C.2.1 dL_law_361 rfl (lv_at hl 1 rfl) ?_
  refine l_rd C M X hl 1 (by decide) dL_law_362 dL_law_363 dL_law_364 (by decide) dL_law_365 dL_law_366 ?_
  refine l_rd C M X hl 2 (by decide) dL_law_367 dL_law_368 dL_law_369 (by decide) dL_law_370 dL_law_371 ?_
  refine l_rd C M X hl 3 (by decide) dL_law_372 dL_law_373 dL_law_374 (by decide) dL_law_375 dL_law_376 ?_
  refine l_rd C M X hl 4 (by decide) dL_law_377 dL_law_378 dL_law_379 (by decide) dL_law_380 dL_law_381 ?_
  refine g_calli M (g_runV (As := [.int (xs (i + 1)), .int (xs (i + 2)), .int (xs (i + 3)), .int (xs (i + 4))]) (rest := []) C M 0 (x_value l E σ Z nv h3.1 h3.2.2.1 (xs (i + 1)) (xs (i + 2)) (xs (i + 3)) (xs (i + 4))) clX11_value ivX11_value lklaw_47 (by decide) rfl rfl ⟨Nat.le_of_ble_eq_true rfl, Nat.le_of_ble_eq_true rfl⟩ hl.1 rfl (Nat.le_of_ble_eq_true rfl) dL_law_382 ⟨by show cells + 0 ≤ 600000; omega, by show slots + 0 ≤ 7302250; omega⟩) (fun r1 u1 H locs hx M => ?_)
  refine W.widen (k := cells) (n := slots) (Nat.le_refl _) (Nat.le_refl _) ?_
  obtain ⟨ag, ez⟩ := A43.value h3 hx
  have M : hM E A s H locs u1.1 Z := by rw [← ez]; exact M
  obtain ⟨aI, _, aA, _⟩ := id (ag43 ag)
  refine lv_aload_n C.1 C.2.1 dL_law_385 rfl (lv_at hl 2 rfl) ?_
  refine l_rd C M X hl 1 (by decide) dL_law_386 dL_law_387 dL_law_388 (by decide) dL_law_389 dL_law_390 ?_
  refine l_rd C M X hl 2 (by decide) dL_law_391 dL_law_392 dL_law_393 (by decide) dL_law_394 dL_law_395 ?_
  refine l_rd C M X hl 3 (by decide) dL_law_396 dL_law_397 dL_law_398 (by decide) dL_law_399 dL_law_400 ?_
  refine l_rd C M X hl 4 (by decide) dL_law_401 dL_law_402 dL_law_403 (by decide) dL_law_404 dL_law_405 ?_
  refine g_calli M (g_runV (As := [.int (xs (i + 1)), .int (xs (i + 2)), .int (xs (i + 3)), .int (xs (i + 4))]) (rest := [.int r1]) C M 43 (m_value l E u1.1 Z nv ((aI 11).trans h3.2.1) h3.2.2.1 (xs (i + 1)) (xs (i + 2)) (xs (i + 3)) (xs (i + 4))) clX12_value ivX12_value lklaw_51 (by decide) rfl rfl ⟨Nat.le_of_ble_eq_true rfl, Nat.le_of_ble_eq_true rfl⟩ hl.1 rfl (Nat.le_of_ble_eq_true rfl) dL_law_406 ⟨by show cells + 0 ≤ 600000; omega, by show slots + 0 ≤ 7302250; omega⟩) (fun r2 u2 H locs hm M => ?_)
  obtain ⟨er, hR2, ez2⟩ := Rel.value h3 hR hx hm
  have M : hM E A s H locs u2.1 Z := by rw [← ez2]; exact M
  refine W.widen (k := cells + 3) (n := slots + 88) (by show cells + 0 ≤ cells + 3; omega) (by show slots + 0 ≤ slots + 88; omega) ?_
  exact lv_icmp_eq (tgt := 1112) C.1 C.2.1 dL_law_409 (by decide) (fun _ => kk H locs u2.1 M hR2) (fun h => absurd er h)
set_option maxHeartbeats 1000000 in
theorem arm_earlier (C : hC E A p s m c cL_law 4 R_law) (M : hM E A s H locs σ Z) (X : lX A s b L xs i) (hl : lv_has ls 4 (LV E b i)) (hR : Rel σ) (hc : cells + 3 ≤ 600000) (hs : slots + 88 ≤ 7302250)
    (kk : ∀ (H1 : Heap) (locs1 : List Loc) (σ1 : hMem), hM E A s H1 locs1 σ1 Z → Rel σ1 → W p l e room_1 s m args below meth c H1 locs1 (cells + 3) (slots + 88) Q (F0 m 1112 ls [])) : W p l e room_1 s m args below meth c H locs cells slots Q (F0 m 414 ls []) := by
  obtain ⟨n, nv, nc, nt, nl, hd, ns, h1, h2, h3, h4, h5, h6, h7, h8, h9, h10⟩ := id hR
  refine lv_aload_n C.1 C.2.1 dL_law_414 rfl (lv_at hl 1 rfl) ?_
  refine l_rd C M X hl 1 (by decide) dL_law_415 dL_law_416 dL_law_417 (by decide) dL_law_418 dL_law_419 ?_
  refine l_rd C M X hl 2 (by decide) dL_law_420 dL_law_421 dL_law_422 (by decide) dL_law_423 dL_law_424 ?_
  refine l_rd C M X hl 3 (by decide) dL_law_425 dL_law_426 dL_law_427 (by decide) dL_law_428 dL_law_429 ?_
  refine g_calli M (g_runV (As := [.int (xs (i + 1)), .int (xs (i + 2)), .int (xs (i + 3))]) (rest := []) C M 0 (x_earlier l E σ Z nc h4.1 h4.2.2.1 (xs (i + 1)) (xs (i + 2)) (xs (i + 3))) clX11_earlier ivX11_earlier lklaw_52 (by decide) rfl rfl ⟨Nat.le_of_ble_eq_true rfl, Nat.le_of_ble_eq_true rfl⟩ hl.1 rfl (Nat.le_of_ble_eq_true rfl) dL_law_430 ⟨by show cells + 0 ≤ 600000; omega, by show slots + 0 ≤ 7302250; omega⟩) (fun r1 u1 H locs hx M => ?_)
  refine W.widen (k := cells) (n := slots) (Nat.le_refl _) (Nat.le_refl _) ?_
  obtain ⟨ag, ez⟩ := A43.earlier h4 hx
  have M : hM E A s H locs u1.1 Z := by rw [← ez]; exact M
  obtain ⟨aI, _, aA, _⟩ := id (ag43 ag)
  refine lv_aload_n C.1 C.2.1 dL_law_433 rfl (lv_at hl 2 rfl) ?_
  refine l_rd C M X hl 1 (by decide) dL_law_434 dL_law_435 dL_law_436 (by decide) dL_law_437 dL_law_438 ?_
  refine l_rd C M X hl 2 (by decide) dL_law_439 dL_law_440 dL_law_441 (by decide) dL_law_442 dL_law_443 ?_
  refine l_rd C M X hl 3 (by decide) dL_law_444 dL_law_445 dL_law_446 (by decide) dL_law_447 dL_law_448 ?_
  refine g_calli M (g_runV (As := [.int (xs (i + 1)), .int (xs (i + 2)), .int (xs (i + 3))]) (rest := [.int r1]) C M 43 (m_earlier l E u1.1 Z nc ((aI 17).trans h4.2.1) h4.2.2.1 (xs (i + 1)) (xs (i + 2)) (xs (i + 3))) clX12_earlier ivX12_earlier lklaw_55 (by decide) rfl rfl ⟨Nat.le_of_ble_eq_true rfl, Nat.le_of_ble_eq_true rfl⟩ hl.1 rfl (Nat.le_of_ble_eq_true rfl) dL_law_449 ⟨by show cells + 0 ≤ 600000; omega, by show slots + 0 ≤ 7302250; omega⟩) (fun r2 u2 H locs hm M => ?_)
  obtain ⟨er, hR2, ez2⟩ := Rel.earlier h4 hR hx hm
  have M : hM E A s H locs u2.1 Z := by rw [← ez2]; exact M
  refine W.widen (k := cells + 3) (n := slots + 88) (by show cells + 0 ≤ cells + 3; omega) (by show slots + 0 ≤ slots + 88; omega) ?_
  exact lv_icmp_eq (tgt := 1112) C.1 C.2.1 dL_law_452 (by decide) (fun _ => kk H locs u2.1 M hR2) (fun h => absurd er h)
set_option maxHeartbeats 1000000 in
theorem arm_overrule (C : hC E A p s m c cL_law 4 R_law) (M : hM E A s H locs σ Z) (X : lX A s b L xs i) (hl : lv_has ls 4 (LV E b i)) (hR : Rel σ) (hc : cells + 3 ≤ 600000) (hs : slots + 88 ≤ 7302250)
    (kk : ∀ (H1 : Heap) (locs1 : List Loc) (σ1 : hMem), hM E A s H1 locs1 σ1 Z → Rel σ1 → W p l e room_1 s m args below meth c H1 locs1 (cells + 3) (slots + 88) Q (F0 m 1112 ls [])) : W p l e room_1 s m args below meth c H locs cells slots Q (F0 m 457 ls []) := by
  obtain ⟨n, nv, nc, nt, nl, hd, ns, h1, h2, h3, h4, h5, h6, h7, h8, h9, h10⟩ := id hR
  refine lv_aload_n C.1 C.2.1 dL_law_457 rfl (lv_at hl 1 rfl) ?_
  refine l_rd C M X hl 1 (by decide) dL_law_458 dL_law_459 dL_law_460 (by decide) dL_law_461 dL_law_462 ?_
  refine l_rd C M X hl 2 (by decide) dL_law_463 dL_law_464 dL_law_465 (by decide) dL_law_466 dL_law_467 ?_
  refine g_calli M (g_runV (As := [.int (xs (i + 1)), .int (xs (i + 2))]) (rest := []) C M 0 (x_overrule l E σ Z nc h4.1 h4.2.2.1 (xs (i + 1)) (xs (i + 2))) clX11_overrule ivX11_overrule lklaw_56 (by decide) rfl rfl ⟨Nat.le_of_ble_eq_true rfl, Nat.le_of_ble_eq_true rfl⟩ hl.1 rfl (Nat.le_of_ble_eq_true rfl) dL_law_468 ⟨by show cells + 0 ≤ 600000; omega, by show slots + 0 ≤ 7302250; omega⟩) (fun r1 u1 H locs hx M => ?_)
  refine W.widen (k := cells) (n := slots) (Nat.le_refl _) (Nat.le_refl _) ?_
  obtain ⟨ag, ez⟩ := A43.overrule h4 hx
  have M : hM E A s H locs u1.1 Z := by rw [← ez]; exact M
  obtain ⟨aI, _, aA, _⟩ := id (ag43 ag)
  refine lv_aload_n C.1 C.2.1 dL_law_471 rfl (lv_at hl 2 rfl) ?_
  refine l_rd C M X hl 1 (by decide) dL_law_472 dL_law_473 dL_law_474 (by decide) dL_law_475 dL_law_476 ?_
  refine l_rd C M X hl 2 (by decide) dL_law_477 dL_law_478 dL_law_479 (by decide) dL_law_480 dL_law_481 ?_
  refine g_calli M (g_runV (As := [.int (xs (i + 1)), .int (xs (i + 2))]) (rest := [.int r1]) C M 43 (m_overrule l E u1.1 Z nc ((aI 17).trans h4.2.1) h4.2.2.1 (xs (i + 1)) (xs (i + 2))) clX12_overrule ivX12_overrule lklaw_60 (by decide) rfl rfl ⟨Nat.le_of_ble_eq_true rfl, Nat.le_of_ble_eq_true rfl⟩ hl.1 rfl (Nat.le_of_ble_eq_true rfl) dL_law_482 ⟨by show cells + 0 ≤ 600000; omega, by show slots + 0 ≤ 7302250; omega⟩) (fun r2 u2 H locs hm M => ?_)
  obtain ⟨er, hR2, ez2⟩ := Rel.overrule h4 hR hx hm
  have M : hM E A s H locs u2.1 Z := by rw [← ez2]; exact M
  refine W.widen (k := cells + 3) (n := slots + 88) (by show cells + 0 ≤ cells + 3; omega) (by show slots + 0 ≤ slots + 88; omega) ?_
  exact lv_icmp_eq (tgt := 1112) C.1 C.2.1 dL_law_485 (by decide) (fun _ => kk H locs u2.1 M hR2) (fun h => absurd er h)
set_option maxHeartbeats 1000000 in
theorem arm_suit (C : hC E A p s m c cL_law 4 R_law) (M : hM E A s H locs σ Z) (X : lX A s b L xs i) (hl : lv_has ls 4 (LV E b i)) (hR : Rel σ) (hc : cells + 3 ≤ 600000) (hs : slots + 88 ≤ 7302250)
    (kk : ∀ (H1 : Heap) (locs1 : List Loc) (σ1 : hMem), hM E A s H1 locs1 σ1 Z → Rel σ1 → W p l e room_1 s m args below meth c H1 locs1 (cells + 3) (slots + 88) Q (F0 m 1112 ls [])) : W p l e room_1 s m args below meth c H locs cells slots Q (F0 m 490 ls []) := by
  obtain ⟨n, nv, nc, nt, nl, hd, ns, h1, h2, h3, h4, h5, h6, h7, h8, h9, h10⟩ := id hR
  refine lv_aload_n C.1 C.2.1 dL_law_490 rfl (lv_at hl 1 rfl) ?_
  refine l_rd C M X hl 1 (by decide) dL_law_491 dL_law_492 dL_law_493 (by decide) dL_law_494 dL_law_495 ?_
  refine l_rd C M X hl 2 (by decide) dL_law_496 dL_law_497 dL_law_498 (by decide) dL_law_499 dL_law_500 ?_
  refine g_calli M (g_runV (As := [.int (xs (i + 1)), .int (xs (i + 2))]) (rest := []) C M 0 (x_suit l E σ Z  (xs (i + 1)) (xs (i + 2))) clX11_suit ivX11_suit lklaw_61 (by decide) rfl rfl ⟨Nat.le_of_ble_eq_true rfl, Nat.le_of_ble_eq_true rfl⟩ hl.1 rfl (Nat.le_of_ble_eq_true rfl) dL_law_501 ⟨by show cells + 0 ≤ 600000; omega, by show slots + 0 ≤ 7302250; omega⟩) (fun r1 u1 H locs hx M => ?_)
  refine W.widen (k := cells) (n := slots) (Nat.le_refl _) (Nat.le_refl _) ?_
  obtain ⟨ag, ez⟩ := A43.suit  hx
  have M : hM E A s H locs u1.1 Z := by rw [← ez]; exact M
  obtain ⟨aI, _, aA, _⟩ := id (ag43 ag)
  refine lv_aload_n C.1 C.2.1 dL_law_504 rfl (lv_at hl 2 rfl) ?_
  refine l_rd C M X hl 1 (by decide) dL_law_505 dL_law_506 dL_law_507 (by decide) dL_law_508 dL_law_509 ?_
  refine l_rd C M X hl 2 (by decide) dL_law_510 dL_law_511 dL_law_512 (by decide) dL_law_513 dL_law_514 ?_
  refine g_calli M (g_runV (As := [.int (xs (i + 1)), .int (xs (i + 2))]) (rest := [.int r1]) C M 43 (m_suit l E u1.1 Z  (xs (i + 1)) (xs (i + 2))) clX12_suit ivX12_suit lklaw_64 (by decide) rfl rfl ⟨Nat.le_of_ble_eq_true rfl, Nat.le_of_ble_eq_true rfl⟩ hl.1 rfl (Nat.le_of_ble_eq_true rfl) dL_law_515 ⟨by show cells + 0 ≤ 600000; omega, by show slots + 0 ≤ 7302250; omega⟩) (fun r2 u2 H locs hm M => ?_)
  obtain ⟨er, hR2, ez2⟩ := Rel.suit  hR hx hm
  have M : hM E A s H locs u2.1 Z := by rw [← ez2]; exact M
  refine W.widen (k := cells + 3) (n := slots + 88) (by show cells + 0 ≤ cells + 3; omega) (by show slots + 0 ≤ slots + 88; omega) ?_
  exact lv_icmp_eq (tgt := 1112) C.1 C.2.1 dL_law_518 (by decide) (fun _ => kk H locs u2.1 M hR2) (fun h => absurd er h)
set_option maxHeartbeats 1000000 in
theorem arm_feed (C : hC E A p s m c cL_law 4 R_law) (M : hM E A s H locs σ Z) (X : lX A s b L xs i) (hl : lv_has ls 4 (LV E b i)) (hR : Rel σ) (hc : cells + 3 ≤ 600000) (hs : slots + 88 ≤ 7302250)
    (kk : ∀ (H1 : Heap) (locs1 : List Loc) (σ1 : hMem), hM E A s H1 locs1 σ1 Z → Rel σ1 → W p l e room_1 s m args below meth c H1 locs1 (cells + 3) (slots + 88) Q (F0 m 1112 ls [])) : W p l e room_1 s m args below meth c H locs cells slots Q (F0 m 523 ls []) := by
  obtain ⟨n, nv, nc, nt, nl, hd, ns, h1, h2, h3, h4, h5, h6, h7, h8, h9, h10⟩ := id hR
  refine lv_aload_n C.1 C.2.1 dL_law_523 rfl (lv_at hl 1 rfl) ?_
  refine l_rd C M X hl 1 (by decide) dL_law_524 dL_law_525 dL_law_526 (by decide) dL_law_527 dL_law_528 ?_
  refine l_rd C M X hl 2 (by decide) dL_law_529 dL_law_530 dL_law_531 (by decide) dL_law_532 dL_law_533 ?_
  refine l_rd C M X hl 3 (by decide) dL_law_534 dL_law_535 dL_law_536 (by decide) dL_law_537 dL_law_538 ?_
  refine l_rd C M X hl 4 (by decide) dL_law_539 dL_law_540 dL_law_541 (by decide) dL_law_542 dL_law_543 ?_
  refine l_rd C M X hl 5 (by decide) dL_law_544 dL_law_545 dL_law_546 (by decide) dL_law_547 dL_law_548 ?_
  refine g_calli M (g_runV (As := [.int (xs (i + 1)), .int (xs (i + 2)), .int (xs (i + 3)), .int (xs (i + 4)), .int (xs (i + 5))]) (rest := []) C M 0 (x_feed l E σ Z nt h6.1 h6.2.2.1 (xs (i + 1)) (xs (i + 2)) (xs (i + 3)) (xs (i + 4)) (xs (i + 5))) clX11_feed ivX11_feed lklaw_65 (by decide) rfl rfl ⟨Nat.le_of_ble_eq_true rfl, Nat.le_of_ble_eq_true rfl⟩ hl.1 rfl (Nat.le_of_ble_eq_true rfl) dL_law_549 ⟨by show cells + 0 ≤ 600000; omega, by show slots + 0 ≤ 7302250; omega⟩) (fun r1 u1 H locs hx M => ?_)
  refine W.widen (k := cells) (n := slots) (Nat.le_refl _) (Nat.le_refl _) ?_
  obtain ⟨ag, ez⟩ := A43.feed h6 hx
  have M : hM E A s H locs u1.1 Z := by rw [← ez]; exact M
  obtain ⟨aI, _, aA, _⟩ := id (ag43 ag)
  refine lv_aload_n C.1 C.2.1 dL_law_552 rfl (lv_at hl 2 rfl) ?_
  refine l_rd C M X hl 1 (by decide) dL_law_553 dL_law_554 dL_law_555 (by decide) dL_law_556 dL_law_557 ?_
  refine l_rd C M X hl 2 (by decide) dL_law_558 dL_law_559 dL_law_560 (by decide) dL_law_561 dL_law_562 ?_
  refine l_rd C M X hl 3 (by decide) dL_law_563 dL_law_564 dL_law_565 (by decide) dL_law_566 dL_law_567 ?_
  refine l_rd C M X hl 4 (by decide) dL_law_568 dL_law_569 dL_law_570 (by decide) dL_law_571 dL_law_572 ?_
  refine l_rd C M X hl 5 (by decide) dL_law_573 dL_law_574 dL_law_575 (by decide) dL_law_576 dL_law_577 ?_
  refine g_calli M (g_runV (As := [.int (xs (i + 1)), .int (xs (i + 2)), .int (xs (i + 3)), .int (xs (i + 4)), .int (xs (i + 5))]) (rest := [.int r1]) C M 43 (m_feed l E u1.1 Z nt ((aI 31).trans h6.2.1) h6.2.2.1 (xs (i + 1)) (xs (i + 2)) (xs (i + 3)) (xs (i + 4)) (xs (i + 5))) clX12_feed ivX12_feed lklaw_68 (by decide) rfl rfl ⟨Nat.le_of_ble_eq_true rfl, Nat.le_of_ble_eq_true rfl⟩ hl.1 rfl (Nat.le_of_ble_eq_true rfl) dL_law_578 ⟨by show cells + 0 ≤ 600000; omega, by show slots + 0 ≤ 7302250; omega⟩) (fun r2 u2 H locs hm M => ?_)
  obtain ⟨er, hR2, ez2⟩ := Rel.feed h6 hR hx hm
  have M : hM E A s H locs u2.1 Z := by rw [← ez2]; exact M
  refine W.widen (k := cells + 3) (n := slots + 88) (by show cells + 0 ≤ cells + 3; omega) (by show slots + 0 ≤ slots + 88; omega) ?_
  exact lv_icmp_eq (tgt := 1112) C.1 C.2.1 dL_law_581 (by decide) (fun _ => kk H locs u2.1 M hR2) (fun h => absurd er h)
set_option maxHeartbeats 1000000 in
theorem arm_end (C : hC E A p s m c cL_law 4 R_law) (M : hM E A s H locs σ Z) (X : lX A s b L xs i) (hl : lv_has ls 4 (LV E b i)) (hR : Rel σ) (hc : cells + 3 ≤ 600000) (hs : slots + 88 ≤ 7302250)
    (kk : ∀ (H1 : Heap) (locs1 : List Loc) (σ1 : hMem), hM E A s H1 locs1 σ1 Z → Rel σ1 → W p l e room_1 s m args below meth c H1 locs1 (cells + 3) (slots + 88) Q (F0 m 1112 ls [])) : W p l e room_1 s m args below meth c H locs cells slots Q (F0 m 586 ls []) := by
  obtain ⟨n, nv, nc, nt, nl, hd, ns, h1, h2, h3, h4, h5, h6, h7, h8, h9, h10⟩ := id hR
  refine lv_aload_n C.1 C.2.1 dL_law_586 rfl (lv_at hl 1 rfl) ?_
  refine l_rd C M X hl 1 (by decide) dL_law_587 dL_law_588 dL_law_589 (by decide) dL_law_590 dL_law_591 ?_
  refine g_calli M (g_runV (As := [.int (xs (i + 1))]) (rest := []) C M 0 (x_end l E σ Z  (xs (i + 1))) clX11_end ivX11_end lklaw_69 (by decide) rfl rfl ⟨Nat.le_of_ble_eq_true rfl, Nat.le_of_ble_eq_true rfl⟩ hl.1 rfl (Nat.le_of_ble_eq_true rfl) dL_law_592 ⟨by show cells + 0 ≤ 600000; omega, by show slots + 0 ≤ 7302250; omega⟩) (fun r1 u1 H locs hx M => ?_)
  refine W.widen (k := cells) (n := slots) (Nat.le_refl _) (Nat.le_refl _) ?_
  obtain ⟨ag, ez⟩ := A43.end_  hx
  have M : hM E A s H locs u1.1 Z := by rw [← ez]; exact M
  obtain ⟨aI, _, aA, _⟩ := id (ag43 ag)
  refine lv_aload_n C.1 C.2.1 dL_law_595 rfl (lv_at hl 2 rfl) ?_
  refine l_rd C M X hl 1 (by decide) dL_law_596 dL_law_597 dL_law_598 (by decide) dL_law_599 dL_law_600 ?_
  refine g_calli M (g_runV (As := [.int (xs (i + 1))]) (rest := [.int r1]) C M 43 (m_end l E u1.1 Z  (xs (i + 1))) clX12_end ivX12_end lklaw_72 (by decide) rfl rfl ⟨Nat.le_of_ble_eq_true rfl, Nat.le_of_ble_eq_true rfl⟩ hl.1 rfl (Nat.le_of_ble_eq_true rfl) dL_law_601 ⟨by show cells + 0 ≤ 600000; omega, by show slots + 0 ≤ 7302250; omega⟩) (fun r2 u2 H locs hm M => ?_)
  obtain ⟨er, hR2, ez2⟩ := Rel.end_  hR hx hm
  have M : hM E A s H locs u2.1 Z := by rw [← ez2]; exact M
  refine W.widen (k := cells + 3) (n := slots + 88) (by show cells + 0 ≤ cells + 3; omega) (by show slots + 0 ≤ slots + 88; omega) ?_
  exact lv_icmp_eq (tgt := 1112) C.1 C.2.1 dL_law_604 (by decide) (fun _ => kk H locs u2.1 M hR2) (fun h => absurd er h)
set_option maxHeartbeats 1000000 in
theorem arm_law (C : hC E A p s m c cL_law 4 R_law) (M : hM E A s H locs σ Z) (X : lX A s b L xs i) (hl : lv_has ls 4 (LV E b i)) (hR : Rel σ) (hc : cells + 3 ≤ 600000) (hs : slots + 88 ≤ 7302250)
    (kk : ∀ (H1 : Heap) (locs1 : List Loc) (σ1 : hMem), hM E A s H1 locs1 σ1 Z → Rel σ1 → W p l e room_1 s m args below meth c H1 locs1 (cells + 3) (slots + 88) Q (F0 m 1112 ls [])) : W p l e room_1 s m args below meth c H locs cells slots Q (F0 m 609 ls []) := by
  obtain ⟨n, nv, nc, nt, nl, hd, ns, h1, h2, h3, h4, h5, h6, h7, h8, h9, h10⟩ := id hR
  refine lv_aload_n C.1 C.2.1 dL_law_609 rfl (lv_at hl 1 rfl) ?_
  refine l_rd C M X hl 1 (by decide) dL_law_610 dL_law_611 dL_law_612 (by decide) dL_law_613 dL_law_614 ?_
  refine g_calli M (g_runV (As := [.int (xs (i + 1))]) (rest := []) C M 0 (x_law l E σ Z nt h6.1 h6.2.2.1 nl h7.1 h7.2.2.1 (L00 σ) (fun i hi => pre_lt hi) (xs (i + 1))) clX11_law ivX11_law lklaw_73 (by decide) rfl rfl ⟨Nat.le_of_ble_eq_true rfl, Nat.le_of_ble_eq_true rfl⟩ hl.1 rfl (Nat.le_of_ble_eq_true rfl) dL_law_615 ⟨by show cells + 0 ≤ 600000; omega, by show slots + 0 ≤ 7302250; omega⟩) (fun r1 u1 H locs hx M => ?_)
  refine W.widen (k := cells) (n := slots) (Nat.le_refl _) (Nat.le_refl _) ?_
  obtain ⟨ag, ez⟩ := A43.law h6 h7 hx
  have M : hM E A s H locs u1.1 Z := by rw [← ez]; exact M
  obtain ⟨aI, _, aA, _⟩ := id (ag43 ag)
  refine lv_aload_n C.1 C.2.1 dL_law_618 rfl (lv_at hl 2 rfl) ?_
  refine l_rd C M X hl 1 (by decide) dL_law_619 dL_law_620 dL_law_621 (by decide) dL_law_622 dL_law_623 ?_
  refine g_calli M (g_runV (As := [.int (xs (i + 1))]) (rest := [.int r1]) C M 43 (m_law l E u1.1 Z nt ((aI 31).trans h6.2.1) h6.2.2.1 nl ((aI 26).trans h7.2.1) h7.2.2.1 (xs (i + 1))) clX12_law ivX12_law lklaw_76 (by decide) rfl rfl ⟨Nat.le_of_ble_eq_true rfl, Nat.le_of_ble_eq_true rfl⟩ hl.1 rfl (Nat.le_of_ble_eq_true rfl) dL_law_624 ⟨by show cells + 1 ≤ 600000; omega, by show slots + 11 ≤ 7302250; omega⟩) (fun r2 u2 H locs hm M => ?_)
  obtain ⟨er, hR2, ez2⟩ := Rel.law h6 h7 hR hx hm
  have M : hM E A s H locs u2.1 Z := by rw [← ez2]; exact M
  refine W.widen (k := cells + 3) (n := slots + 88) (by show cells + 1 ≤ cells + 3; omega) (by show slots + 11 ≤ slots + 88; omega) ?_
  exact lv_icmp_eq (tgt := 1112) C.1 C.2.1 dL_law_627 (by decide) (fun _ => kk H locs u2.1 M hR2) (fun h => absurd er h)
set_option maxHeartbeats 1000000 in
theorem arm_sheet (C : hC E A p s m c cL_law 4 R_law) (M : hM E A s H locs σ Z) (X : lX A s b L xs i) (hl : lv_has ls 4 (LV E b i)) (hR : Rel σ) (hc : cells + 3 ≤ 600000) (hs : slots + 88 ≤ 7302250)
    (kk : ∀ (H1 : Heap) (locs1 : List Loc) (σ1 : hMem), hM E A s H1 locs1 σ1 Z → Rel σ1 → W p l e room_1 s m args below meth c H1 locs1 (cells + 3) (slots + 88) Q (F0 m 1112 ls [])) : W p l e room_1 s m args below meth c H locs cells slots Q (F0 m 632 ls []) := by
  obtain ⟨n, nv, nc, nt, nl, hd, ns, h1, h2, h3, h4, h5, h6, h7, h8, h9, h10⟩ := id hR
  refine lv_aload_n C.1 C.2.1 dL_law_632 rfl (lv_at hl 1 rfl) ?_
  refine l_rd C M X hl 1 (by decide) dL_law_633 dL_law_634 dL_law_635 (by decide) dL_law_636 dL_law_637 ?_
  refine l_rd C M X hl 2 (by decide) dL_law_638 dL_law_639 dL_law_640 (by decide) dL_law_641 dL_law_642 ?_
  refine l_up C dL_law_643 dL_law_644 dL_law_646 ?_
  refine l_rd C M X hl 3 (by decide) dL_law_647 dL_law_648 dL_law_649 (by decide) dL_law_650 dL_law_651 ?_
  refine l_lo C dL_law_652 dL_law_653 dL_law_656 dL_law_657 ?_
  refine l_rd C M X hl 4 (by decide) dL_law_658 dL_law_659 dL_law_660 (by decide) dL_law_661 dL_law_662 ?_
  refine l_up C dL_law_663 dL_law_664 dL_law_666 ?_
  refine l_rd C M X hl 5 (by decide) dL_law_667 dL_law_668 dL_law_669 (by decide) dL_law_670 dL_law_671 ?_
  refine l_lo C dL_law_672 dL_law_673 dL_law_676 dL_law_677 ?_
  refine l_rdb C M X hl 6 (by decide) dL_law_678 dL_law_679 dL_law_680 (by decide) dL_law_682 dL_law_683 ?_
  refine l_up C dL_law_684 dL_law_685 dL_law_687 ?_
  refine l_rdb C M X hl 7 (by decide) dL_law_688 dL_law_689 dL_law_690 (by decide) dL_law_692 dL_law_693 ?_
  refine l_lo C dL_law_694 dL_law_695 dL_law_698 dL_law_699 ?_
  refine l_rdb C M X hl 8 (by decide) dL_law_700 dL_law_701 dL_law_702 (by decide) dL_law_704 dL_law_705 ?_
  refine l_up C dL_law_706 dL_law_707 dL_law_709 ?_
  refine l_rdb C M X hl 9 (by decide) dL_law_710 dL_law_711 dL_law_712 (by decide) dL_law_714 dL_law_715 ?_
  refine l_lo C dL_law_716 dL_law_717 dL_law_720 dL_law_721 ?_
  refine g_calli M (g_runV (As := [.int (xs (i + 1)), .long (lng (xs (i + 2)) (xs (i + 3))), .long (lng (xs (i + 4)) (xs (i + 5))), .long (lng (xs (i + 6)) (xs (i + 7))), .long (lng (xs (i + 8)) (xs (i + 9)))]) (rest := []) C M 0 (x_sheet l E σ Z  (xs (i + 1)) (lng (xs (i + 2)) (xs (i + 3))) (lng (xs (i + 4)) (xs (i + 5))) (lng (xs (i + 6)) (xs (i + 7))) (lng (xs (i + 8)) (xs (i + 9)))) clX11_sheet ivX11_sheet lklaw_79 (by decide) rfl rfl ⟨Nat.le_of_ble_eq_true rfl, Nat.le_of_ble_eq_true rfl⟩ hl.1 rfl (Nat.le_of_ble_eq_true rfl) dL_law_722 ⟨by show cells + 0 ≤ 600000; omega, by show slots + 0 ≤ 7302250; omega⟩) (fun r1 u1 H locs hx M => ?_)
  refine W.widen (k := cells) (n := slots) (Nat.le_refl _) (Nat.le_refl _) ?_
  obtain ⟨ag, ez⟩ := A43.sheet  hx
  have M : hM E A s H locs u1.1 Z := by rw [← ez]; exact M
  obtain ⟨aI, _, aA, _⟩ := id (ag43 ag)
  refine lv_aload_n C.1 C.2.1 dL_law_725 rfl (lv_at hl 2 rfl) ?_
  refine l_rd C M X hl 1 (by decide) dL_law_726 dL_law_727 dL_law_728 (by decide) dL_law_729 dL_law_730 ?_
  refine l_rd C M X hl 2 (by decide) dL_law_731 dL_law_732 dL_law_733 (by decide) dL_law_734 dL_law_735 ?_
  refine l_up C dL_law_736 dL_law_737 dL_law_739 ?_
  refine l_rd C M X hl 3 (by decide) dL_law_740 dL_law_741 dL_law_742 (by decide) dL_law_743 dL_law_744 ?_
  refine l_lo C dL_law_745 dL_law_746 dL_law_749 dL_law_750 ?_
  refine l_rd C M X hl 4 (by decide) dL_law_751 dL_law_752 dL_law_753 (by decide) dL_law_754 dL_law_755 ?_
  refine l_up C dL_law_756 dL_law_757 dL_law_759 ?_
  refine l_rd C M X hl 5 (by decide) dL_law_760 dL_law_761 dL_law_762 (by decide) dL_law_763 dL_law_764 ?_
  refine l_lo C dL_law_765 dL_law_766 dL_law_769 dL_law_770 ?_
  refine l_rdb C M X hl 6 (by decide) dL_law_771 dL_law_772 dL_law_773 (by decide) dL_law_775 dL_law_776 ?_
  refine l_up C dL_law_777 dL_law_778 dL_law_780 ?_
  refine l_rdb C M X hl 7 (by decide) dL_law_781 dL_law_782 dL_law_783 (by decide) dL_law_785 dL_law_786 ?_
  refine l_lo C dL_law_787 dL_law_788 dL_law_791 dL_law_792 ?_
  refine l_rdb C M X hl 8 (by decide) dL_law_793 dL_law_794 dL_law_795 (by decide) dL_law_797 dL_law_798 ?_
  refine l_up C dL_law_799 dL_law_800 dL_law_802 ?_
  refine l_rdb C M X hl 9 (by decide) dL_law_803 dL_law_804 dL_law_805 (by decide) dL_law_807 dL_law_808 ?_
  refine l_lo C dL_law_809 dL_law_810 dL_law_813 dL_law_814 ?_
  refine g_calli M (g_runV (As := [.int (xs (i + 1)), .long (lng (xs (i + 2)) (xs (i + 3))), .long (lng (xs (i + 4)) (xs (i + 5))), .long (lng (xs (i + 6)) (xs (i + 7))), .long (lng (xs (i + 8)) (xs (i + 9)))]) (rest := [.int r1]) C M 43 (m_sheet l E u1.1 Z  (xs (i + 1)) (lng (xs (i + 2)) (xs (i + 3))) (lng (xs (i + 4)) (xs (i + 5))) (lng (xs (i + 6)) (xs (i + 7))) (lng (xs (i + 8)) (xs (i + 9)))) clX12_sheet ivX12_sheet lklaw_83 (by decide) rfl rfl ⟨Nat.le_of_ble_eq_true rfl, Nat.le_of_ble_eq_true rfl⟩ hl.1 rfl (Nat.le_of_ble_eq_true rfl) dL_law_815 ⟨by show cells + 1 ≤ 600000; omega, by show slots + 60 ≤ 7302250; omega⟩) (fun r2 u2 H locs hm M => ?_)
  obtain ⟨er, hR2, ez2⟩ := Rel.sheet  hR hx hm
  have M : hM E A s H locs u2.1 Z := by rw [← ez2]; exact M
  refine W.widen (k := cells + 3) (n := slots + 88) (by show cells + 1 ≤ cells + 3; omega) (by show slots + 60 ≤ slots + 88; omega) ?_
  exact lv_icmp_eq (tgt := 1112) C.1 C.2.1 dL_law_818 (by decide) (fun _ => kk H locs u2.1 M hR2) (fun h => absurd er h)
set_option maxHeartbeats 1000000 in
theorem arm_ship (C : hC E A p s m c cL_law 4 R_law) (M : hM E A s H locs σ Z) (X : lX A s b L xs i) (hl : lv_has ls 4 (LV E b i)) (hR : Rel σ) (hc : cells + 3 ≤ 600000) (hs : slots + 88 ≤ 7302250)
    (kk : ∀ (H1 : Heap) (locs1 : List Loc) (σ1 : hMem), hM E A s H1 locs1 σ1 Z → Rel σ1 → W p l e room_1 s m args below meth c H1 locs1 (cells + 3) (slots + 88) Q (F0 m 1112 ls [])) : W p l e room_1 s m args below meth c H locs cells slots Q (F0 m 823 ls []) := by
  obtain ⟨n, nv, nc, nt, nl, hd, ns, h1, h2, h3, h4, h5, h6, h7, h8, h9, h10⟩ := id hR
  refine lv_aload_n C.1 C.2.1 dL_law_823 rfl (lv_at hl 1 rfl) ?_
  refine l_rd C M X hl 1 (by decide) dL_law_824 dL_law_825 dL_law_826 (by decide) dL_law_827 dL_law_828 ?_
  refine l_rd C M X hl 2 (by decide) dL_law_829 dL_law_830 dL_law_831 (by decide) dL_law_832 dL_law_833 ?_
  refine l_rd C M X hl 3 (by decide) dL_law_834 dL_law_835 dL_law_836 (by decide) dL_law_837 dL_law_838 ?_
  refine l_rd C M X hl 4 (by decide) dL_law_839 dL_law_840 dL_law_841 (by decide) dL_law_842 dL_law_843 ?_
  refine l_rd C M X hl 5 (by decide) dL_law_844 dL_law_845 dL_law_846 (by decide) dL_law_847 dL_law_848 ?_
  refine l_rdb C M X hl 6 (by decide) dL_law_849 dL_law_850 dL_law_851 (by decide) dL_law_853 dL_law_854 ?_
  refine g_calli M (g_runV (As := [.int (xs (i + 1)), .int (xs (i + 2)), .int (xs (i + 3)), .int (xs (i + 4)), .int (xs (i + 5)), .int (xs (i + 6))]) (rest := []) C M 0 (x_ship l E σ Z ns hd h9.1 h9.2.2.1 h8.1 h8.2.2.1 (xs (i + 1)) (xs (i + 2)) (xs (i + 3)) (xs (i + 4)) (xs (i + 5)) (xs (i + 6))) clX11_ship ivX11_ship lklaw_84 (by decide) rfl rfl ⟨Nat.le_of_ble_eq_true rfl, Nat.le_of_ble_eq_true rfl⟩ hl.1 rfl (Nat.le_of_ble_eq_true rfl) dL_law_855 ⟨by show cells + 0 ≤ 600000; omega, by show slots + 0 ≤ 7302250; omega⟩) (fun r1 u1 H locs hx M => ?_)
  refine W.widen (k := cells) (n := slots) (Nat.le_refl _) (Nat.le_refl _) ?_
  obtain ⟨ag, ez⟩ := A43.ship h9 h8 hx
  have M : hM E A s H locs u1.1 Z := by rw [← ez]; exact M
  obtain ⟨aI, _, aA, _⟩ := id (ag43 ag)
  refine lv_aload_n C.1 C.2.1 dL_law_858 rfl (lv_at hl 2 rfl) ?_
  refine l_rd C M X hl 1 (by decide) dL_law_859 dL_law_860 dL_law_861 (by decide) dL_law_862 dL_law_863 ?_
  refine l_rd C M X hl 2 (by decide) dL_law_864 dL_law_865 dL_law_866 (by decide) dL_law_867 dL_law_868 ?_
  refine l_rd C M X hl 3 (by decide) dL_law_869 dL_law_870 dL_law_871 (by decide) dL_law_872 dL_law_873 ?_
  refine l_rd C M X hl 4 (by decide) dL_law_874 dL_law_875 dL_law_876 (by decide) dL_law_877 dL_law_878 ?_
  refine l_rd C M X hl 5 (by decide) dL_law_879 dL_law_880 dL_law_881 (by decide) dL_law_882 dL_law_883 ?_
  refine l_rdb C M X hl 6 (by decide) dL_law_884 dL_law_885 dL_law_886 (by decide) dL_law_888 dL_law_889 ?_
  refine g_calli M (g_runV (As := [.int (xs (i + 1)), .int (xs (i + 2)), .int (xs (i + 3)), .int (xs (i + 4)), .int (xs (i + 5)), .int (xs (i + 6))]) (rest := [.int r1]) C M 43 (m_ship l E u1.1 Z ns hd ((aI 38).trans h9.2.1) h9.2.2.1 ((aI 36).trans h8.2.1) h8.2.2.1 (xs (i + 1)) (xs (i + 2)) (xs (i + 3)) (xs (i + 4)) (xs (i + 5)) (xs (i + 6))) clX12_ship ivX12_ship lklaw_88 (by decide) rfl rfl ⟨Nat.le_of_ble_eq_true rfl, Nat.le_of_ble_eq_true rfl⟩ hl.1 rfl (Nat.le_of_ble_eq_true rfl) dL_law_890 ⟨by show cells + 0 ≤ 600000; omega, by show slots + 0 ≤ 7302250; omega⟩) (fun r2 u2 H locs hm M => ?_)
  obtain ⟨er, hR2, ez2⟩ := Rel.ship h9 h8 hR hx hm
  have M : hM E A s H locs u2.1 Z := by rw [← ez2]; exact M
  refine W.widen (k := cells + 3) (n := slots + 88) (by show cells + 0 ≤ cells + 3; omega) (by show slots + 0 ≤ slots + 88; omega) ?_
  exact lv_icmp_eq (tgt := 1112) C.1 C.2.1 dL_law_893 (by decide) (fun _ => kk H locs u2.1 M hR2) (fun h => absurd er h)
set_option maxHeartbeats 1000000 in
theorem arm_judge (C : hC E A p s m c cL_law 4 R_law) (M : hM E A s H locs σ Z) (X : lX A s b L xs i) (hl : lv_has ls 4 (LV E b i)) (hR : Rel σ) (hc : cells + 3 ≤ 600000) (hs : slots + 88 ≤ 7302250)
    (kk : ∀ (H1 : Heap) (locs1 : List Loc) (σ1 : hMem), hM E A s H1 locs1 σ1 Z → Rel σ1 → W p l e room_1 s m args below meth c H1 locs1 (cells + 3) (slots + 88) Q (F0 m 1112 ls [])) : W p l e room_1 s m args below meth c H locs cells slots Q (F0 m 898 ls []) := by
  obtain ⟨n, nv, nc, nt, nl, hd, ns, h1, h2, h3, h4, h5, h6, h7, h8, h9, h10⟩ := id hR
  obtain ⟨t1, t2, t3, t4, t5, t6, t7, t8, t9, t10, t11, t12, t13, t14, t15, t16, t17⟩ := id h2
  refine lv_aload_n C.1 C.2.1 dL_law_898 rfl (lv_at hl 1 rfl) ?_
  refine l_rd C M X hl 1 (by decide) dL_law_899 dL_law_900 dL_law_901 (by decide) dL_law_902 dL_law_903 ?_
  refine l_rd C M X hl 2 (by decide) dL_law_904 dL_law_905 dL_law_906 (by decide) dL_law_907 dL_law_908 ?_
  refine g_calli M (g_runV (As := [.int (xs (i + 1)), .int (xs (i + 2))]) (rest := []) C M 0 (x_judge l E σ Z n h2.1 h2.2.2.1 t10 t11 h2.tr t13 t16 ns h9.1 h9.2.2.1 h9.2.2.2.1 nl h7.1 h7.2.2.1 nc h4.1 h4.2.2.1 nv h3.1 h3.2.2.1 (fun ro hro => (h7.lw hro).2.2) (xs (i + 1)) (xs (i + 2)) (by rw [ws_eq h3]; exact mWs_N h3.va h3.2.2.1 _ _ 10) (fun ro hro => rat_N h4 h5 h7 hro)) clX11_judge ivX11_judge lklaw_89 (by decide) rfl rfl ⟨Nat.le_of_ble_eq_true rfl, Nat.le_of_ble_eq_true rfl⟩ hl.1 rfl (Nat.le_of_ble_eq_true rfl) dL_law_909 ⟨by show cells + 0 ≤ 600000; omega, by show slots + 0 ≤ 7302250; omega⟩) (fun r1 u1 H locs hx M => ?_)
  refine W.widen (k := cells) (n := slots) (Nat.le_refl _) (Nat.le_refl _) ?_
  have hx : xjP σ Z n ns nl nc nv (xs (i + 1)) (xs (i + 2)) r1 u1 := hx
  obtain ⟨ag, ez⟩ := A43.judge  hx
  have M : hM E A s H locs u1.1 Z := by rw [← ez]; exact M
  obtain ⟨aI, _, aA, _⟩ := id (ag43 ag)
  refine lv_aload_n C.1 C.2.1 dL_law_912 rfl (lv_at hl 2 rfl) ?_
  refine l_rd C M X hl 1 (by decide) dL_law_913 dL_law_914 dL_law_915 (by decide) dL_law_916 dL_law_917 ?_
  refine l_rd C M X hl 2 (by decide) dL_law_918 dL_law_919 dL_law_920 (by decide) dL_law_921 dL_law_922 ?_
  refine g_calli M (g_runV (As := [.int (xs (i + 1)), .int (xs (i + 2))]) (rest := [.int r1]) C M 43 (m_judge l E u1.1 Z n ((aI 3).trans h2.2.1) h2.2.2.1 (h2.sw.ag ag) (fun k hk => by rw [aA, ← t5]; exact t11 k hk) (fun k => by rw [aA]; exact t15 k) ns ((aI 38).trans h9.2.1) h9.2.2.1 (h9.sh.ag ag) nl ((aI 26).trans h7.2.1) h7.2.2.1 nc ((aI 17).trans h4.2.1) h4.2.2.1 nv ((aI 11).trans h3.2.1) h3.2.2.1 (h3.va.ag ag) (fun i hi => by rw [aA]; exact (h4.2.2.2.2.2.1 i hi).2.2.2.1) (fun ro hro => (h7.lw hro).1.ag ag) (fun ro hro => (h7.lw hro).2.1.ag ag) (by rw [aI]; exact h5.2.2.2) (xs (i + 1)) (xs (i + 2))) clX12_judge ivX12_judge lklaw_92 (by decide) rfl rfl ⟨Nat.le_of_ble_eq_true rfl, Nat.le_of_ble_eq_true rfl⟩ hl.1 rfl (Nat.le_of_ble_eq_true rfl) dL_law_923 ⟨by show cells + 3 ≤ 600000; omega, by show slots + 88 ≤ 7302250; omega⟩) (fun r2 u2 H locs hm M => ?_)
  have hm : mjP u1.1 Z n ns nl nc nv (xs (i + 1)) (xs (i + 2)) r2 u2 := hm
  obtain ⟨er, hR2, ez2⟩ := Rel.judge h2 h9 h7 h4 h3 hR hx hm
  have M : hM E A s H locs u2.1 Z := by rw [← ez2]; exact M
  refine W.widen (k := cells + 3) (n := slots + 88) (by show cells + 3 ≤ cells + 3; omega) (by show slots + 88 ≤ slots + 88; omega) ?_
  exact lv_icmp_eq (tgt := 1112) C.1 C.2.1 dL_law_926 (by decide) (fun _ => kk H locs u2.1 M hR2) (fun h => absurd er h)
set_option maxHeartbeats 1000000 in
theorem arm_judged (C : hC E A p s m c cL_law 4 R_law) (M : hM E A s H locs σ Z) (X : lX A s b L xs i) (hl : lv_has ls 4 (LV E b i)) (hR : Rel σ) (hc : cells + 3 ≤ 600000) (hs : slots + 88 ≤ 7302250)
    (kk : ∀ (H1 : Heap) (locs1 : List Loc) (σ1 : hMem), hM E A s H1 locs1 σ1 Z → Rel σ1 → W p l e room_1 s m args below meth c H1 locs1 (cells + 3) (slots + 88) Q (F0 m 1112 ls [])) : W p l e room_1 s m args below meth c H locs cells slots Q (F0 m 931 ls []) := by
  obtain ⟨n, nv, nc, nt, nl, hd, ns, h1, h2, h3, h4, h5, h6, h7, h8, h9, h10⟩ := id hR
  refine lv_aload_n C.1 C.2.1 dL_law_931 rfl (lv_at hl 1 rfl) ?_
  refine l_rd C M X hl 1 (by decide) dL_law_932 dL_law_933 dL_law_934 (by decide) dL_law_935 dL_law_936 ?_
  refine g_calll M (g_runV (As := [.int (xs (i + 1))]) (rest := []) C M 0 (x_judged l E σ Z  (xs (i + 1))) clX11_judged ivX11_judged lklaw_93 (by decide) rfl rfl ⟨Nat.le_of_ble_eq_true rfl, Nat.le_of_ble_eq_true rfl⟩ hl.1 rfl (Nat.le_of_ble_eq_true rfl) dL_law_937 ⟨by show cells + 0 ≤ 600000; omega, by show slots + 0 ≤ 7302250; omega⟩) (fun r1 u1 H locs hx M => ?_)
  refine W.widen (k := cells) (n := slots) (Nat.le_refl _) (Nat.le_refl _) ?_
  obtain ⟨ag, ez⟩ := A43.judged  hx
  have M : hM E A s H locs u1.1 Z := by rw [← ez]; exact M
  obtain ⟨aI, _, aA, _⟩ := id (ag43 ag)
  refine lv_aload_n C.1 C.2.1 dL_law_940 rfl (lv_at hl 2 rfl) ?_
  refine l_rd C M X hl 1 (by decide) dL_law_941 dL_law_942 dL_law_943 (by decide) dL_law_944 dL_law_945 ?_
  refine g_calll M (g_runV (As := [.int (xs (i + 1))]) (rest := [.long r1]) C M 43 (m_judged l E u1.1 Z  (xs (i + 1))) clX12_judged ivX12_judged lklaw_97 (by decide) rfl rfl ⟨Nat.le_of_ble_eq_true rfl, Nat.le_of_ble_eq_true rfl⟩ hl.1 rfl (Nat.le_of_ble_eq_true rfl) dL_law_946 ⟨by show cells + 0 ≤ 600000; omega, by show slots + 0 ≤ 7302250; omega⟩) (fun r2 u2 H locs hm M => ?_)
  obtain ⟨er, hR2, ez2⟩ := Rel.judged  hR hx hm
  have M : hM E A s H locs u2.1 Z := by rw [← ez2]; exact M
  refine W.widen (k := cells + 3) (n := slots + 88) (by show cells + 0 ≤ cells + 3; omega) (by show slots + 0 ≤ slots + 88; omega) ?_
  refine W.lcmp C.1 C.2.1 dL_law_949 ?_
  exact lv_if_eq (tgt := 1112) C.1 C.2.1 dL_law_950 (by decide) (fun _ => kk H locs u2.1 M hR2) (fun h => absurd ((lg_cmp_eq _ _).mpr er) h)
set_option maxHeartbeats 1000000 in
theorem arm_like (C : hC E A p s m c cL_law 4 R_law) (M : hM E A s H locs σ Z) (X : lX A s b L xs i) (hl : lv_has ls 4 (LV E b i)) (hR : Rel σ) (hc : cells + 3 ≤ 600000) (hs : slots + 88 ≤ 7302250)
    (kk : ∀ (H1 : Heap) (locs1 : List Loc) (σ1 : hMem), hM E A s H1 locs1 σ1 Z → Rel σ1 → W p l e room_1 s m args below meth c H1 locs1 (cells + 3) (slots + 88) Q (F0 m 1112 ls [])) : W p l e room_1 s m args below meth c H locs cells slots Q (F0 m 955 ls []) := by
  obtain ⟨n, nv, nc, nt, nl, hd, ns, h1, h2, h3, h4, h5, h6, h7, h8, h9, h10⟩ := id hR
  obtain ⟨k0, ks, k1, k2, k3, k4, k5, k6, k7⟩ := id h10
  refine lv_aload_n C.1 C.2.1 dL_law_955 rfl (lv_at hl 1 rfl) ?_
  refine l_rd C M X hl 1 (by decide) dL_law_956 dL_law_957 dL_law_958 (by decide) dL_law_959 dL_law_960 ?_
  refine g_calli M (g_runV (As := [.int (xs (i + 1))]) (rest := []) C M 0 (x_like l E σ Z k0 k3 k1 (xs (i + 1))) clX11_like ivX11_like lklaw_98 (by decide) rfl rfl ⟨Nat.le_of_ble_eq_true rfl, Nat.le_of_ble_eq_true rfl⟩ hl.1 rfl (Nat.le_of_ble_eq_true rfl) dL_law_961 ⟨by show cells + 0 ≤ 600000; omega, by show slots + 0 ≤ 7302250; omega⟩) (fun r1 u1 H locs hx M => ?_)
  refine W.widen (k := cells) (n := slots) (Nat.le_refl _) (Nat.le_refl _) ?_
  obtain ⟨ag, ez⟩ := A43.like k3 k1 hx
  have M : hM E A s H locs u1.1 Z := by rw [← ez]; exact M
  obtain ⟨aI, _, aA, _⟩ := id (ag43 ag)
  refine lv_aload_n C.1 C.2.1 dL_law_964 rfl (lv_at hl 2 rfl) ?_
  refine l_rd C M X hl 1 (by decide) dL_law_965 dL_law_966 dL_law_967 (by decide) dL_law_968 dL_law_969 ?_
  refine g_calli M (g_runV (As := [.int (xs (i + 1))]) (rest := [.int r1]) C M 43 (m_like l E u1.1 Z k0 ((aI 49).trans k4) k1 (xs (i + 1))) clX12_like ivX12_like lklaw_101 (by decide) rfl rfl ⟨Nat.le_of_ble_eq_true rfl, Nat.le_of_ble_eq_true rfl⟩ hl.1 rfl (Nat.le_of_ble_eq_true rfl) dL_law_970 ⟨by show cells + 0 ≤ 600000; omega, by show slots + 0 ≤ 7302250; omega⟩) (fun r2 u2 H locs hm M => ?_)
  obtain ⟨er, hR2, ez2⟩ := Rel.like k3 k1 hR hx hm
  have M : hM E A s H locs u2.1 Z := by rw [← ez2]; exact M
  refine W.widen (k := cells + 3) (n := slots + 88) (by show cells + 0 ≤ cells + 3; omega) (by show slots + 0 ≤ slots + 88; omega) ?_
  exact lv_icmp_eq (tgt := 1112) C.1 C.2.1 dL_law_973 (by decide) (fun _ => kk H locs u2.1 M hR2) (fun h => absurd er h)
set_option maxHeartbeats 1000000 in
theorem arm_share (C : hC E A p s m c cL_law 4 R_law) (M : hM E A s H locs σ Z) (X : lX A s b L xs i) (hl : lv_has ls 4 (LV E b i)) (hR : Rel σ) (hc : cells + 3 ≤ 600000) (hs : slots + 88 ≤ 7302250)
    (kk : ∀ (H1 : Heap) (locs1 : List Loc) (σ1 : hMem), hM E A s H1 locs1 σ1 Z → Rel σ1 → W p l e room_1 s m args below meth c H1 locs1 (cells + 3) (slots + 88) Q (F0 m 1112 ls [])) : W p l e room_1 s m args below meth c H locs cells slots Q (F0 m 978 ls []) := by
  obtain ⟨n, nv, nc, nt, nl, hd, ns, h1, h2, h3, h4, h5, h6, h7, h8, h9, h10⟩ := id hR
  obtain ⟨k0, ks, k1, k2, k3, k4, k5, k6, k7⟩ := id h10
  refine lv_aload_n C.1 C.2.1 dL_law_978 rfl (lv_at hl 1 rfl) ?_
  refine l_rd C M X hl 1 (by decide) dL_law_979 dL_law_980 dL_law_981 (by decide) dL_law_982 dL_law_983 ?_
  refine l_rd C M X hl 2 (by decide) dL_law_984 dL_law_985 dL_law_986 (by decide) dL_law_987 dL_law_988 ?_
  refine g_calll M (g_runV (As := [.int (xs (i + 1)), .int (xs (i + 2))]) (rest := []) C M 0 (x_share l E σ Z ks k5 k2 (xs (i + 1)) (xs (i + 2))) clX11_share ivX11_share lklaw_102 (by decide) rfl rfl ⟨Nat.le_of_ble_eq_true rfl, Nat.le_of_ble_eq_true rfl⟩ hl.1 rfl (Nat.le_of_ble_eq_true rfl) dL_law_989 ⟨by show cells + 0 ≤ 600000; omega, by show slots + 0 ≤ 7302250; omega⟩) (fun r1 u1 H locs hx M => ?_)
  refine W.widen (k := cells) (n := slots) (Nat.le_refl _) (Nat.le_refl _) ?_
  obtain ⟨ag, ez⟩ := A43.share k5 k2 hx
  have M : hM E A s H locs u1.1 Z := by rw [← ez]; exact M
  obtain ⟨aI, _, aA, _⟩ := id (ag43 ag)
  refine lv_aload_n C.1 C.2.1 dL_law_992 rfl (lv_at hl 2 rfl) ?_
  refine l_rd C M X hl 1 (by decide) dL_law_993 dL_law_994 dL_law_995 (by decide) dL_law_996 dL_law_997 ?_
  refine l_rd C M X hl 2 (by decide) dL_law_998 dL_law_999 dL_law_1000 (by decide) dL_law_1001 dL_law_1002 ?_
  refine g_calll M (g_runV (As := [.int (xs (i + 1)), .int (xs (i + 2))]) (rest := [.long r1]) C M 43 (m_share l E u1.1 Z ks ((aI 51).trans k6) k2 (xs (i + 1)) (xs (i + 2))) clX12_share ivX12_share lklaw_106 (by decide) rfl rfl ⟨Nat.le_of_ble_eq_true rfl, Nat.le_of_ble_eq_true rfl⟩ hl.1 rfl (Nat.le_of_ble_eq_true rfl) dL_law_1003 ⟨by show cells + 0 ≤ 600000; omega, by show slots + 0 ≤ 7302250; omega⟩) (fun r2 u2 H locs hm M => ?_)
  obtain ⟨er, hR2, ez2⟩ := Rel.share k5 k2 hR hx hm
  have M : hM E A s H locs u2.1 Z := by rw [← ez2]; exact M
  refine W.widen (k := cells + 3) (n := slots + 88) (by show cells + 0 ≤ cells + 3; omega) (by show slots + 0 ≤ slots + 88; omega) ?_
  refine W.lcmp C.1 C.2.1 dL_law_1006 ?_
  exact lv_if_eq (tgt := 1112) C.1 C.2.1 dL_law_1007 (by decide) (fun _ => kk H locs u2.1 M hR2) (fun h => absurd ((lg_cmp_eq _ _).mpr er) h)
set_option maxHeartbeats 1000000 in
theorem arm_hand (C : hC E A p s m c cL_law 4 R_law) (M : hM E A s H locs σ Z) (X : lX A s b L xs i) (hl : lv_has ls 4 (LV E b i)) (hR : Rel σ) (hc : cells + 3 ≤ 600000) (hs : slots + 88 ≤ 7302250)
    (kk : ∀ (H1 : Heap) (locs1 : List Loc) (σ1 : hMem), hM E A s H1 locs1 σ1 Z → Rel σ1 → W p l e room_1 s m args below meth c H1 locs1 (cells + 3) (slots + 88) Q (F0 m 1112 ls [])) : W p l e room_1 s m args below meth c H locs cells slots Q (F0 m 1012 ls []) := by
  obtain ⟨n, nv, nc, nt, nl, hd, ns, h1, h2, h3, h4, h5, h6, h7, h8, h9, h10⟩ := id hR
  obtain ⟨k0, ks, k1, k2, k3, k4, k5, k6, k7⟩ := id h10
  refine lv_aload_n C.1 C.2.1 dL_law_1012 rfl (lv_at hl 1 rfl) ?_
  refine l_rd C M X hl 1 (by decide) dL_law_1013 dL_law_1014 dL_law_1015 (by decide) dL_law_1016 dL_law_1017 ?_
  refine l_rd C M X hl 2 (by decide) dL_law_1018 dL_law_1019 dL_law_1020 (by decide) dL_law_1021 dL_law_1022 ?_
  refine g_calll M (g_runV (As := [.int (xs (i + 1)), .int (xs (i + 2))]) (rest := []) C M 0 (x_hand l E σ Z ks k5 k2 (fun i hi => by
    rcases k7 with ⟨_, _, _, z⟩ | ⟨_, _, _, _, _, _, _, _, z⟩
    · omega
    · obtain ⟨_, _, q, q1, q2, _⟩ := z i hi; exact ⟨q, q1, q2⟩) (xs (i + 1)) (xs (i + 2))) clX11_hand ivX11_hand lklaw_107 (by decide) rfl rfl ⟨Nat.le_of_ble_eq_true rfl, Nat.le_of_ble_eq_true rfl⟩ hl.1 rfl (Nat.le_of_ble_eq_true rfl) dL_law_1023 ⟨by show cells + 0 ≤ 600000; omega, by show slots + 0 ≤ 7302250; omega⟩) (fun r1 u1 H locs hx M => ?_)
  refine W.widen (k := cells) (n := slots) (Nat.le_refl _) (Nat.le_refl _) ?_
  obtain ⟨ag, ez⟩ := A43.hand k5 k2 hx
  have M : hM E A s H locs u1.1 Z := by rw [← ez]; exact M
  obtain ⟨aI, _, aA, _⟩ := id (ag43 ag)
  refine lv_aload_n C.1 C.2.1 dL_law_1026 rfl (lv_at hl 2 rfl) ?_
  refine l_rd C M X hl 1 (by decide) dL_law_1027 dL_law_1028 dL_law_1029 (by decide) dL_law_1030 dL_law_1031 ?_
  refine l_rd C M X hl 2 (by decide) dL_law_1032 dL_law_1033 dL_law_1034 (by decide) dL_law_1035 dL_law_1036 ?_
  refine g_calll M (g_runV (As := [.int (xs (i + 1)), .int (xs (i + 2))]) (rest := [.long r1]) C M 43 (m_hand l E u1.1 Z ks ((aI 51).trans k6) k2 (fun i hi => by
    rcases k7 with ⟨_, _, _, z⟩ | ⟨_, _, _, _, _, _, _, _, z⟩
    · omega
    · obtain ⟨_, q0, q, q1, q2, _⟩ := z i hi; exact ⟨q, q1, by rw [aA, q0]; exact q2⟩) (xs (i + 1)) (xs (i + 2))) clX12_hand ivX12_hand lklaw_110 (by decide) rfl rfl ⟨Nat.le_of_ble_eq_true rfl, Nat.le_of_ble_eq_true rfl⟩ hl.1 rfl (Nat.le_of_ble_eq_true rfl) dL_law_1037 ⟨by show cells + 0 ≤ 600000; omega, by show slots + 0 ≤ 7302250; omega⟩) (fun r2 u2 H locs hm M => ?_)
  obtain ⟨er, hR2, ez2⟩ := Rel.hand k5 k2 hR hx hm
  have M : hM E A s H locs u2.1 Z := by rw [← ez2]; exact M
  refine W.widen (k := cells + 3) (n := slots + 88) (by show cells + 0 ≤ cells + 3; omega) (by show slots + 0 ≤ slots + 88; omega) ?_
  refine W.lcmp C.1 C.2.1 dL_law_1040 ?_
  exact lv_if_eq (tgt := 1112) C.1 C.2.1 dL_law_1041 (by decide) (fun _ => kk H locs u2.1 M hR2) (fun h => absurd ((lg_cmp_eq _ _).mpr er) h)
set_option maxHeartbeats 1000000 in
theorem arm_saved (C : hC E A p s m c cL_law 4 R_law) (M : hM E A s H locs σ Z) (X : lX A s b L xs i) (hl : lv_has ls 4 (LV E b i)) (hR : Rel σ) (hc : cells + 3 ≤ 600000) (hs : slots + 88 ≤ 7302250)
    (kk : ∀ (H1 : Heap) (locs1 : List Loc) (σ1 : hMem), hM E A s H1 locs1 σ1 Z → Rel σ1 → W p l e room_1 s m args below meth c H1 locs1 (cells + 3) (slots + 88) Q (F0 m 1112 ls [])) : W p l e room_1 s m args below meth c H locs cells slots Q (F0 m 1046 ls []) := by
  obtain ⟨n, nv, nc, nt, nl, hd, ns, h1, h2, h3, h4, h5, h6, h7, h8, h9, h10⟩ := id hR
  refine lv_aload_n C.1 C.2.1 dL_law_1046 rfl (lv_at hl 1 rfl) ?_
  refine l_rd C M X hl 1 (by decide) dL_law_1047 dL_law_1048 dL_law_1049 (by decide) dL_law_1050 dL_law_1051 ?_
  refine l_rd C M X hl 2 (by decide) dL_law_1052 dL_law_1053 dL_law_1054 (by decide) dL_law_1055 dL_law_1056 ?_
  refine l_rd C M X hl 3 (by decide) dL_law_1057 dL_law_1058 dL_law_1059 (by decide) dL_law_1060 dL_law_1061 ?_
  refine g_calli M (g_runV (As := [.int (xs (i + 1)), .int (xs (i + 2)), .int (xs (i + 3))]) (rest := []) C M 0 (x_saved l E σ Z nv h3.1 h3.2.2.1 (xs (i + 1)) (xs (i + 2)) (xs (i + 3))) clX11_saved ivX11_saved lklaw_111 (by decide) rfl rfl ⟨Nat.le_of_ble_eq_true rfl, Nat.le_of_ble_eq_true rfl⟩ hl.1 rfl (Nat.le_of_ble_eq_true rfl) dL_law_1062 ⟨by show cells + 0 ≤ 600000; omega, by show slots + 0 ≤ 7302250; omega⟩) (fun r1 u1 H locs hx M => ?_)
  refine W.widen (k := cells) (n := slots) (Nat.le_refl _) (Nat.le_refl _) ?_
  obtain ⟨ag, ez⟩ := A43.saved h3 hx
  have M : hM E A s H locs u1.1 Z := by rw [← ez]; exact M
  obtain ⟨aI, _, aA, _⟩ := id (ag43 ag)
  refine lv_aload_n C.1 C.2.1 dL_law_1065 rfl (lv_at hl 2 rfl) ?_
  refine l_rd C M X hl 1 (by decide) dL_law_1066 dL_law_1067 dL_law_1068 (by decide) dL_law_1069 dL_law_1070 ?_
  refine l_rd C M X hl 2 (by decide) dL_law_1071 dL_law_1072 dL_law_1073 (by decide) dL_law_1074 dL_law_1075 ?_
  refine l_rd C M X hl 3 (by decide) dL_law_1076 dL_law_1077 dL_law_1078 (by decide) dL_law_1079 dL_law_1080 ?_
  refine g_calli M (g_runV (As := [.int (xs (i + 1)), .int (xs (i + 2)), .int (xs (i + 3))]) (rest := [.int r1]) C M 43 (m_saved l E u1.1 Z nv ((aI 11).trans h3.2.1) h3.2.2.1 (xs (i + 1)) (xs (i + 2)) (xs (i + 3))) clX12_saved ivX12_saved lklaw_114 (by decide) rfl rfl ⟨Nat.le_of_ble_eq_true rfl, Nat.le_of_ble_eq_true rfl⟩ hl.1 rfl (Nat.le_of_ble_eq_true rfl) dL_law_1081 ⟨by show cells + 0 ≤ 600000; omega, by show slots + 0 ≤ 7302250; omega⟩) (fun r2 u2 H locs hm M => ?_)
  obtain ⟨er, hR2, ez2⟩ := Rel.saved h3 hR hx hm
  have M : hM E A s H locs u2.1 Z := by rw [← ez2]; exact M
  refine W.widen (k := cells + 3) (n := slots + 88) (by show cells + 0 ≤ cells + 3; omega) (by show slots + 0 ≤ slots + 88; omega) ?_
  exact lv_icmp_eq (tgt := 1112) C.1 C.2.1 dL_law_1084 (by decide) (fun _ => kk H locs u2.1 M hR2) (fun h => absurd er h)
set_option maxHeartbeats 1000000 in
theorem arm_count (C : hC E A p s m c cL_law 4 R_law) (M : hM E A s H locs σ Z) (X : lX A s b L xs i) (hl : lv_has ls 4 (LV E b i)) (hR : Rel σ) (hc : cells + 3 ≤ 600000) (hs : slots + 88 ≤ 7302250)
    (kk : ∀ (H1 : Heap) (locs1 : List Loc) (σ1 : hMem), hM E A s H1 locs1 σ1 Z → Rel σ1 → W p l e room_1 s m args below meth c H1 locs1 (cells + 3) (slots + 88) Q (F0 m 1112 ls [])) : W p l e room_1 s m args below meth c H locs cells slots Q (F0 m 1089 ls []) := by
  obtain ⟨n, nv, nc, nt, nl, hd, ns, h1, h2, h3, h4, h5, h6, h7, h8, h9, h10⟩ := id hR
  obtain ⟨t1, t2, t3, t4, t5, t6, t7, t8, t9, t10, t11, t12, t13, t14, t15, t16, t17⟩ := id h2
  refine lv_aload_n C.1 C.2.1 dL_law_1089 rfl (lv_at hl 1 rfl) ?_
  refine l_rd C M X hl 1 (by decide) dL_law_1090 dL_law_1091 dL_law_1092 (by decide) dL_law_1093 dL_law_1094 ?_
  refine g_calli M (g_runV (As := [.int (xs (i + 1))]) (rest := []) C M 0 (x_count l E σ Z n h2.1 h2.2.2.1 t10 t11 h2.tr t13 t16 (xs (i + 1))) clX11_count ivX11_count lklaw_115 (by decide) rfl rfl ⟨Nat.le_of_ble_eq_true rfl, Nat.le_of_ble_eq_true rfl⟩ hl.1 rfl (Nat.le_of_ble_eq_true rfl) dL_law_1095 ⟨by show cells + 0 ≤ 600000; omega, by show slots + 0 ≤ 7302250; omega⟩) (fun r1 u1 H locs hx M => ?_)
  refine W.widen (k := cells) (n := slots) (Nat.le_refl _) (Nat.le_refl _) ?_
  obtain ⟨ag, ez⟩ := A43.count h2 hx
  have M : hM E A s H locs u1.1 Z := by rw [← ez]; exact M
  obtain ⟨aI, _, aA, _⟩ := id (ag43 ag)
  refine lv_aload_n C.1 C.2.1 dL_law_1098 rfl (lv_at hl 2 rfl) ?_
  refine l_rd C M X hl 1 (by decide) dL_law_1099 dL_law_1100 dL_law_1101 (by decide) dL_law_1102 dL_law_1103 ?_
  refine g_calli M (g_runV (As := [.int (xs (i + 1))]) (rest := [.int r1]) C M 43 (m_count l E u1.1 Z n ((aI 3).trans h2.2.1) h2.2.2.1 (h2.sw.ag ag) (fun k hk => by rw [aA, ← t5]; exact t11 k hk) (fun k => by rw [aA]; exact t15 k) (xs (i + 1))) clX12_count ivX12_count lklaw_118 (by decide) rfl rfl ⟨Nat.le_of_ble_eq_true rfl, Nat.le_of_ble_eq_true rfl⟩ hl.1 rfl (Nat.le_of_ble_eq_true rfl) dL_law_1104 ⟨by show cells + 1 ≤ 600000; omega, by show slots + 40 ≤ 7302250; omega⟩) (fun r2 u2 H locs hm M => ?_)
  obtain ⟨er, hR2, ez2⟩ := Rel.count h2 hR hx hm
  have M : hM E A s H locs u2.1 Z := by rw [← ez2]; exact M
  refine W.widen (k := cells + 3) (n := slots + 88) (by show cells + 1 ≤ cells + 3; omega) (by show slots + 40 ≤ slots + 88; omega) ?_
  exact lv_icmp_eq (tgt := 1112) C.1 C.2.1 dL_law_1107 (by decide) (fun _ => kk H locs u2.1 M hR2) (fun h => absurd er h)
end LAW
