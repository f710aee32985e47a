set_option maxHeartbeats 4000000 in
set_option maxRecDepth 100000 in
theorem m_canBe (l : Launch) (E : hEnv) (σ : hMem) (Z : va_W) (n : Nat) (hn : hI σ 43 3 = nI n) (hn40 : n ≤ 40) (hW : sayW σ n) : hMet l yX12_canBe cX12_canBe 4 (some .boolean) (0, 0, 0, 0) E σ Z [.ref (hO E 43)] (hQi E (fun r u => (r = 1 ∧ ∃ F, u = (sG σ F, Z) ∧ Km σ n 16 F) ∨ (r = 0 ∧ (∃ F, u = (sG σ F, Z)) ∧ ¬ NoNeg (mEd σ n)))) := by
  refine hMet.of (by decide) (Nat.le_of_ble_eq_true rfl) (fun p e s m below meth c A ls C M hr hlk hl => ?_)
  have hl : lv_has ls 4 [(0, .ref (hO E 43))] := hl
  generalize s.heap = H at M ⊢
  generalize ([] : List Loc) = locs at M ⊢
  refine lv_iconst (v := 0) C.1 C.2.1 dX12_canBe_0 (by decide) ?_
  refine lv_istore_n (lv' := [(1, .int 0), (0, .ref (hO E 43))]) C.1 C.2.1 dX12_canBe_1 rfl hl (by decide) rfl (fun ls hl => ?_)
  have L2 : ∀ (n9 : Nat) (a : Nat) (F : Nat → Nat → Int64), (a ≤ 16) → (Ini F a 0) → 16 - a < n9 → ∀ (H : Heap) (locs : List Loc) (ls : Array Slot), hM E A s H locs (sG σ F) Z → lv_has ls 4 [(1, .int (nI a)), (0, .ref (hO E 43))] → W p l e (hRm (0, 0, 0, 0)) s m [.ref (hO E 43)].toArray below meth c H locs 0 0 (MQ below (hQi E (fun r u => (r = 1 ∧ ∃ F, u = (sG σ F, Z) ∧ Km σ n 16 F) ∨ (r = 0 ∧ (∃ F, u = (sG σ F, Z)) ∧ ¬ NoNeg (mEd σ n))) A) [.ref (hO E 43)].toArray s 0 0 A) (F0 m 2 ls []) := by
    intro n9
    induction n9 with
    | zero =>
      intro a F ha hIn hn9
      exact absurd hn9 (Nat.not_lt_zero _)
    | succ n9 ih2 =>
      intro a F ha hIn hn2 H locs ls M hl
      refine lv_iload_n C.1 C.2.1 dX12_canBe_2 rfl (lv_at hl 0 rfl) ?_
      refine lv_bipush (v := 16) C.1 C.2.1 dX12_canBe_3 (by decide) ?_
      refine lv_icmp_ge (tgt := 48) C.1 C.2.1 dX12_canBe_5 (by decide) (fun c_5 => ?_) (fun c_5 => ?_)
      · skip
        have hkn : a = 16 := by have := ct_ge (n := 16) (k := a) c_5; omega
        have hl : lv_has ls 4 [(1, .int (nI 16)), (0, .ref (hO E 43))] := by first | exact hl | (rw [hkn] at hl; exact hl)
        have M : hM E A s H locs (sG σ F) Z := by first | exact M | (rw [hkn] at M; exact M)
        refine lv_iconst (v := 0) C.1 C.2.1 dX12_canBe_48 (by decide) ?_
        refine lv_istore_n (lv' := [(1, .int 0), (0, .ref (hO E 43))]) C.1 C.2.1 dX12_canBe_49 rfl hl (by decide) rfl (fun ls hl => ?_)
        have L50 : ∀ (n9 : Nat) (k : Nat) (F : Nat → Nat → Int64), (k ≤ n) → (Jk σ k F) → n - k < n9 → ∀ (H : Heap) (locs : List Loc) (ls : Array Slot), hM E A s H locs (sG σ F) Z → lv_has ls 4 [(1, .int (nI k)), (0, .ref (hO E 43))] → W p l e (hRm (0, 0, 0, 0)) s m [.ref (hO E 43)].toArray below meth c H locs 0 0 (MQ below (hQi E (fun r u => (r = 1 ∧ ∃ F, u = (sG σ F, Z) ∧ Km σ n 16 F) ∨ (r = 0 ∧ (∃ F, u = (sG σ F, Z)) ∧ ¬ NoNeg (mEd σ n))) A) [.ref (hO E 43)].toArray s 0 0 A) (F0 m 50 ls []) := by
          intro n9
          induction n9 with
          | zero =>
            intro k F hk hJ hn9
            exact absurd hn9 (Nat.not_lt_zero _)
          | succ n9 ih50 =>
            intro k F hk hJ hn50 H locs ls M hl
            refine lv_iload_n C.1 C.2.1 dX12_canBe_50 rfl (lv_at hl 0 rfl) ?_
            refine lv_aload_n C.1 C.2.1 dX12_canBe_51 rfl (lv_at hl 1 rfl) ?_
            refine g_getI C M 43 3 (by decide) rfl rfl (by decide) fl12_135 (v := nI n) hn dX12_canBe_52 ?_
            refine lv_icmp_ge (tgt := 179) C.1 C.2.1 dX12_canBe_55 (by decide) (fun c_55 => ?_) (fun c_55 => ?_)
            · skip
              have hkn : k = n := by have := ct_ge (n := n) (k := k) c_55; omega
              have hl : lv_has ls 4 [(1, .int (nI n)), (0, .ref (hO E 43))] := by first | exact hl | (rw [hkn] at hl; exact hl)
              have M : hM E A s H locs (sG σ F) Z := by first | exact M | (rw [hkn] at M; exact M)
              refine lv_iconst (v := 0) C.1 C.2.1 dX12_canBe_179 (by decide) ?_
              refine lv_istore_n (lv' := [(1, .int 0), (0, .ref (hO E 43))]) C.1 C.2.1 dX12_canBe_180 rfl hl (by decide) rfl (fun ls hl => ?_)
              have L181 : ∀ (n9 : Nat) (m9 : Nat) (F : Nat → Nat → Int64), (m9 ≤ 16) → (Km σ n m9 F) → 16 - m9 < n9 → ∀ (H : Heap) (locs : List Loc) (ls : Array Slot), hM E A s H locs (sG σ F) Z → lv_has ls 4 [(1, .int (nI m9)), (0, .ref (hO E 43))] → W p l e (hRm (0, 0, 0, 0)) s m [.ref (hO E 43)].toArray below meth c H locs 0 0 (MQ below (hQi E (fun r u => (r = 1 ∧ ∃ F, u = (sG σ F, Z) ∧ Km σ n 16 F) ∨ (r = 0 ∧ (∃ F, u = (sG σ F, Z)) ∧ ¬ NoNeg (mEd σ n))) A) [.ref (hO E 43)].toArray s 0 0 A) (F0 m 181 ls []) := by
                intro n9
                induction n9 with
                | zero =>
                  intro m9 F hm hKm hn9
                  exact absurd hn9 (Nat.not_lt_zero _)
                | succ n9 ih181 =>
                  intro m9 F hm hKm hn181 H locs ls M hl
                  refine lv_iload_n C.1 C.2.1 dX12_canBe_181 rfl (lv_at hl 0 rfl) ?_
                  refine lv_bipush (v := 16) C.1 C.2.1 dX12_canBe_182 (by decide) ?_
                  refine lv_icmp_ge (tgt := 334) C.1 C.2.1 dX12_canBe_184 (by decide) (fun c_184 => ?_) (fun c_184 => ?_)
                  · skip
                    have hkn : m9 = 16 := by have := ct_ge (n := 16) (k := m9) c_184; omega
                    have hl : lv_has ls 4 [(1, .int (nI 16)), (0, .ref (hO E 43))] := by first | exact hl | (rw [hkn] at hl; exact hl)
                    have M : hM E A s H locs (sG σ F) Z := by first | exact M | (rw [hkn] at M; exact M)
                    refine lv_iconst (v := 1) C.1 C.2.1 dX12_canBe_334 (by decide) ?_
                    refine g_zret rfl C M hr hlk ?_ (Nat.le_of_ble_eq_true rfl) (Nat.le_of_ble_eq_true rfl) dX12_canBe_335
                    exact Or.inl ⟨rfl, F, rfl, by rw [hkn] at hKm; exact hKm⟩
                  · skip
                    have hm1 : m9 < 16 := ct_nge (n := 16) (k := m9) c_184
                    refine lv_iconst (v := 0) C.1 C.2.1 dX12_canBe_187 (by decide) ?_
                    refine lv_istore_n (lv' := [(2, .int 0), (1, .int (nI m9)), (0, .ref (hO E 43))]) C.1 C.2.1 dX12_canBe_188 rfl hl (by decide) rfl (fun ls hl => ?_)
                    have L189 : ∀ (n9 : Nat) (a : Nat), (a ≤ 16) → 16 - a < n9 → ∀ (H : Heap) (locs : List Loc) (ls : Array Slot), hM E A s H locs (sG σ (stF F m9 a 0)) Z → lv_has ls 4 [(2, .int (nI a)), (0, .ref (hO E 43)), (1, .int (nI m9))] → W p l e (hRm (0, 0, 0, 0)) s m [.ref (hO E 43)].toArray below meth c H locs 0 0 (MQ below (hQi E (fun r u => (r = 1 ∧ ∃ F, u = (sG σ F, Z) ∧ Km σ n 16 F) ∨ (r = 0 ∧ (∃ F, u = (sG σ F, Z)) ∧ ¬ NoNeg (mEd σ n))) A) [.ref (hO E 43)].toArray s 0 0 A) (F0 m 189 ls []) := by
                      intro n9
                      induction n9 with
                      | zero =>
                        intro a ha hn9
                        exact absurd hn9 (Nat.not_lt_zero _)
                      | succ n9 ih189 =>
                        intro a ha hn189 H locs ls M hl
                        refine lv_iload_n C.1 C.2.1 dX12_canBe_189 rfl (lv_at hl 0 rfl) ?_
                        refine lv_bipush (v := 16) C.1 C.2.1 dX12_canBe_190 (by decide) ?_
                        refine lv_icmp_ge (tgt := 299) C.1 C.2.1 dX12_canBe_192 (by decide) (fun c_192 => ?_) (fun c_192 => ?_)
                        · skip
                          have hkn : a = 16 := by have := ct_ge (n := 16) (k := a) c_192; omega
                          have hl : lv_has ls 4 [(2, .int (nI 16)), (0, .ref (hO E 43)), (1, .int (nI m9))] := by first | exact hl | (rw [hkn] at hl; exact hl)
                          have M : hM E A s H locs (sG σ (stF F m9 16 0)) Z := by first | exact M | (rw [hkn] at M; exact M)
                          refine lv_iconst (v := 0) C.1 C.2.1 dX12_canBe_299 (by decide) ?_
                          refine lv_istore_n (lv' := [(2, .int 0), (0, .ref (hO E 43)), (1, .int (nI m9))]) C.1 C.2.1 dX12_canBe_300 rfl hl (by decide) rfl (fun ls hl => ?_)
                          have L301 : ∀ (n9 : Nat) (d9 : Nat), (d9 ≤ 16) → (∀ x, x < d9 → ¬ stF F m9 16 0 x x < 0) → 16 - d9 < n9 → ∀ (H : Heap) (locs : List Loc) (ls : Array Slot), hM E A s H locs (sG σ (stF F m9 16 0)) Z → lv_has ls 4 [(2, .int (nI d9)), (0, .ref (hO E 43)), (1, .int (nI m9))] → W p l e (hRm (0, 0, 0, 0)) s m [.ref (hO E 43)].toArray below meth c H locs 0 0 (MQ below (hQi E (fun r u => (r = 1 ∧ ∃ F, u = (sG σ F, Z) ∧ Km σ n 16 F) ∨ (r = 0 ∧ (∃ F, u = (sG σ F, Z)) ∧ ¬ NoNeg (mEd σ n))) A) [.ref (hO E 43)].toArray s 0 0 A) (F0 m 301 ls []) := by
                            intro n9
                            induction n9 with
                            | zero =>
                              intro d9 hd9 hdg hn9
                              exact absurd hn9 (Nat.not_lt_zero _)
                            | succ n9 ih301 =>
                              intro d9 hd9 hdg hn301 H locs ls M hl
                              refine lv_iload_n C.1 C.2.1 dX12_canBe_301 rfl (lv_at hl 0 rfl) ?_
                              refine lv_bipush (v := 16) C.1 C.2.1 dX12_canBe_302 (by decide) ?_
                              refine lv_icmp_ge (tgt := 328) C.1 C.2.1 dX12_canBe_304 (by decide) (fun c_304 => ?_) (fun c_304 => ?_)
                              · skip
                                have hkn : d9 = 16 := by have := ct_ge (n := 16) (k := d9) c_304; omega
                                have hl : lv_has ls 4 [(2, .int (nI 16)), (0, .ref (hO E 43)), (1, .int (nI m9))] := by first | exact hl | (rw [hkn] at hl; exact hl)
                                have M : hM E A s H locs (sG σ (stF F m9 16 0)) Z := by first | exact M | (rw [hkn] at M; exact M)
                                refine lv_iinc (v := nI (m9 + 1)) (lv' := [(1, .int (nI (m9 + 1))), (2, .int (nI 16)), (0, .ref (hO E 43))]) C.1 C.2.1 dX12_canBe_328 hl (k := 2) rfl (nI_succ _).symm (by decide) rfl (fun ls hl => ?_)
                                refine lv_goto (tgt := 181) C.1 C.2.1 dX12_canBe_331 (by decide) ?_
                                exact ih181 (m9 + 1) (stF F m9 16 0) hm1 (hKm.s hW hm1 (by rw [hkn] at hdg; exact hdg)) (by omega) _ _ _ M (lv_sub hl [0, 2] rfl)
                              · skip
                                have hd1 : d9 < 16 := ct_nge (n := 16) (k := d9) c_304
                                refine lv_aload_n C.1 C.2.1 dX12_canBe_307 rfl (lv_at hl 1 rfl) ?_
                                refine g_getJJ C M 43 9 (by decide) rfl rfl (by decide) fl12_30 dX12_canBe_308 ?_
                                refine lv_iload_n C.1 C.2.1 dX12_canBe_311 rfl (lv_at hl 0 rfl) ?_
                                refine g_aald6 C M 43 9 (by decide) rfl d9 (nI_clamp (by omega)) (vp_in_nI (by omega) (by decide)) dX12_canBe_312 ?_
                                refine lv_iload_n C.1 C.2.1 dX12_canBe_313 rfl (lv_at hl 0 rfl) ?_
                                refine g_rlald C M 43 9 d9 (by decide) rfl (by omega) (by decide) d9 (nI_clamp (by omega)) (vp_in_nI (by omega) (by decide)) (v := (stF F m9 16 0) d9 d9) rfl dX12_canBe_314 ?_
                                refine lv_lconst (v := 0) C.1 C.2.1 dX12_canBe_315 (by decide) ?_
                                refine W.lcmp C.1 C.2.1 dX12_canBe_316 ?_
                                refine lv_if_ge (tgt := 322) C.1 C.2.1 dX12_canBe_317 (by decide) (fun c_317 => ?_) (fun c_317 => ?_)
                                · skip
                                  have c_317 : ¬ ((stF F m9 16 0) d9 d9) < 0 := lc_ge0.mp c_317
                                  refine lv_iinc (v := nI (d9 + 1)) (lv' := [(2, .int (nI (d9 + 1))), (0, .ref (hO E 43)), (1, .int (nI m9))]) C.1 C.2.1 dX12_canBe_322 hl (k := 0) rfl (nI_succ _).symm (by decide) rfl (fun ls hl => ?_)
                                  refine lv_goto (tgt := 301) C.1 C.2.1 dX12_canBe_325 (by decide) ?_
                                  exact ih301 (d9 + 1) hd1 (fun x hx => by rcases Nat.lt_succ_iff_lt_or_eq.mp hx with h | h; exact hdg x h; rw [h]; exact c_317) (by omega) _ _ _ M (lv_sub hl [0, 1, 2] rfl)
                                · skip
                                  have c_317 : ((stF F m9 16 0) d9 d9) < 0 := lc_ge1.mp c_317
                                  refine lv_iconst (v := 0) C.1 C.2.1 dX12_canBe_320 (by decide) ?_
                                  refine g_zret rfl C M hr hlk ?_ (Nat.le_of_ble_eq_true rfl) (Nat.le_of_ble_eq_true rfl) dX12_canBe_321
                                  exact Or.inr ⟨rfl, ⟨_, rfl⟩, hKm.neg hm1 hd1 c_317⟩
                          have q1 : 0 = nI 0 := by rfl
                          have hl : lv_has ls 4 [(2, .int (nI 0)), (0, .ref (hO E 43)), (1, .int (nI m9))] := by
                            rw [← q1]
                            exact lv_sub hl [0, 1, 2] rfl
                          exact L301 ((16 - 0) + 1) 0 (Nat.zero_le _) (fun x hx => absurd hx (Nat.not_lt_zero x)) (Nat.lt_succ_self _) _ _ _ M hl
                        · skip
                          have ha1 : a < 16 := ct_nge (n := 16) (k := a) c_192
                          refine lv_iconst (v := 0) C.1 C.2.1 dX12_canBe_195 (by decide) ?_
                          refine lv_istore_n (lv' := [(3, .int 0), (2, .int (nI a)), (0, .ref (hO E 43)), (1, .int (nI m9))]) C.1 C.2.1 dX12_canBe_196 rfl hl (by decide) rfl (fun ls hl => ?_)
                          have L197 : ∀ (n9 : Nat) (b : Nat), (b ≤ 16) → 16 - b < n9 → ∀ (H : Heap) (locs : List Loc) (ls : Array Slot), hM E A s H locs (sG σ (stF F m9 a b)) Z → lv_has ls 4 [(3, .int (nI b)), (0, .ref (hO E 43)), (1, .int (nI m9)), (2, .int (nI a))] → W p l e (hRm (0, 0, 0, 0)) s m [.ref (hO E 43)].toArray below meth c H locs 0 0 (MQ below (hQi E (fun r u => (r = 1 ∧ ∃ F, u = (sG σ F, Z) ∧ Km σ n 16 F) ∨ (r = 0 ∧ (∃ F, u = (sG σ F, Z)) ∧ ¬ NoNeg (mEd σ n))) A) [.ref (hO E 43)].toArray s 0 0 A) (F0 m 197 ls []) := by
                            intro n9
                            induction n9 with
                            | zero =>
                              intro b hb hn9
                              exact absurd hn9 (Nat.not_lt_zero _)
                            | succ n9 ih197 =>
                              intro b hb hn197 H locs ls M hl
                              refine lv_iload_n C.1 C.2.1 dX12_canBe_197 rfl (lv_at hl 0 rfl) ?_
                              refine lv_bipush (v := 16) C.1 C.2.1 dX12_canBe_198 (by decide) ?_
                              refine lv_icmp_ge (tgt := 293) C.1 C.2.1 dX12_canBe_200 (by decide) (fun c_200 => ?_) (fun c_200 => ?_)
                              · skip
                                have hkn : b = 16 := by have := ct_ge (n := 16) (k := b) c_200; omega
                                have hl : lv_has ls 4 [(3, .int (nI 16)), (0, .ref (hO E 43)), (1, .int (nI m9)), (2, .int (nI a))] := by first | exact hl | (rw [hkn] at hl; exact hl)
                                have M : hM E A s H locs (sG σ (stF F m9 a 16)) Z := by first | exact M | (rw [hkn] at M; exact M)
                                refine lv_iinc (v := nI (a + 1)) (lv' := [(2, .int (nI (a + 1))), (3, .int (nI 16)), (0, .ref (hO E 43)), (1, .int (nI m9))]) C.1 C.2.1 dX12_canBe_293 hl (k := 3) rfl (nI_succ _).symm (by decide) rfl (fun ls hl => ?_)
                                refine lv_goto (tgt := 189) C.1 C.2.1 dX12_canBe_296 (by decide) ?_
                                have q2 : (sG σ (stF F m9 a 16)) = (sG σ (stF F m9 (a + 1) 0)) := by first | exact congrArg (sG σ) (stF_0 F m9) | exact congrArg (sG σ) (stF_row F m9 a)
                                rw [q2] at M
                                exact ih189 (a + 1) ha1 (by omega) _ _ _ M (lv_sub hl [0, 2, 3] rfl)
                              · skip
                                have hb1 : b < 16 := ct_nge (n := 16) (k := b) c_200
                                refine lv_aload_n C.1 C.2.1 dX12_canBe_203 rfl (lv_at hl 1 rfl) ?_
                                refine g_getJJ C M 43 9 (by decide) rfl rfl (by decide) fl12_30 dX12_canBe_204 ?_
                                refine lv_iload_n C.1 C.2.1 dX12_canBe_207 rfl (lv_at hl 3 rfl) ?_
                                refine g_aald6 C M 43 9 (by decide) rfl a (nI_clamp (by omega)) (vp_in_nI (by omega) (by decide)) dX12_canBe_208 ?_
                                refine lv_iload_n C.1 C.2.1 dX12_canBe_209 rfl (lv_at hl 2 rfl) ?_
                                refine g_rlald C M 43 9 a (by decide) rfl (by omega) (by decide) m9 (nI_clamp (by omega)) (vp_in_nI (by omega) (by decide)) (v := F a m9) (stF_am (hKm.d hm1)) dX12_canBe_210 ?_
                                refine lv_ldc2 (v := 1099511627776) C.1 C.2.1 C.2.2.2.1 (C.2.2.2.2.1.1.use kc12_138 rfl) dX12_canBe_211 ?_
                                refine W.lcmp C.1 C.2.1 dX12_canBe_214 ?_
                                refine lv_if_ge (tgt := 287) C.1 C.2.1 dX12_canBe_215 (by decide) (fun c_215 => ?_) (fun c_215 => ?_)
                                · skip
                                  have c_215 : ¬ (F a m9) < 1099511627776 := lc_ge0.mp c_215
                                  refine lv_iinc (v := nI (b + 1)) (lv' := [(3, .int (nI (b + 1))), (0, .ref (hO E 43)), (1, .int (nI m9)), (2, .int (nI a))]) C.1 C.2.1 dX12_canBe_287 hl (k := 0) rfl (nI_succ _).symm (by decide) rfl (fun ls hl => ?_)
                                  refine lv_goto (tgt := 197) C.1 C.2.1 dX12_canBe_290 (by decide) ?_
                                  have hnw : nw F m9 a b = F a b := if_neg (fun q => by first | exact c_215 q.1 | exact c_230 q.2.1 | exact c_259 q.2.2)
                                  have q3 : (sG σ (stF F m9 a b)) = (sG σ (stF F m9 a (b + 1))) := by first | exact congrArg (sG σ) (by rw [← hnw, stF_put hb1]) | exact congrArg (sG σ) (stF_keep hb1 hnw)
                                  rw [q3] at M
                                  exact ih197 (b + 1) hb1 (by omega) _ _ _ M (lv_sub hl [0, 1, 2, 3] rfl)
                                · skip
                                  have c_215 : (F a m9) < 1099511627776 := lc_ge1.mp c_215
                                  refine lv_aload_n C.1 C.2.1 dX12_canBe_218 rfl (lv_at hl 1 rfl) ?_
                                  refine g_getJJ C M 43 9 (by decide) rfl rfl (by decide) fl12_30 dX12_canBe_219 ?_
                                  refine lv_iload_n C.1 C.2.1 dX12_canBe_222 rfl (lv_at hl 2 rfl) ?_
                                  refine g_aald6 C M 43 9 (by decide) rfl m9 (nI_clamp (by omega)) (vp_in_nI (by omega) (by decide)) dX12_canBe_223 ?_
                                  refine lv_iload_n C.1 C.2.1 dX12_canBe_224 rfl (lv_at hl 0 rfl) ?_
                                  refine g_rlald C M 43 9 m9 (by decide) rfl (by omega) (by decide) b (nI_clamp (by omega)) (vp_in_nI (by omega) (by decide)) (v := F m9 b) (stF_mb (hKm.d hm1)) dX12_canBe_225 ?_
                                  refine lv_ldc2 (v := 1099511627776) C.1 C.2.1 C.2.2.2.1 (C.2.2.2.2.1.1.use kc12_138 rfl) dX12_canBe_226 ?_
                                  refine W.lcmp C.1 C.2.1 dX12_canBe_229 ?_
                                  refine lv_if_ge (tgt := 287) C.1 C.2.1 dX12_canBe_230 (by decide) (fun c_230 => ?_) (fun c_230 => ?_)
                                  · skip
                                    have c_230 : ¬ (F m9 b) < 1099511627776 := lc_ge0.mp c_230
                                    refine lv_iinc (v := nI (b + 1)) (lv' := [(3, .int (nI (b + 1))), (0, .ref (hO E 43)), (1, .int (nI m9)), (2, .int (nI a))]) C.1 C.2.1 dX12_canBe_287 hl (k := 0) rfl (nI_succ _).symm (by decide) rfl (fun ls hl => ?_)
                                    refine lv_goto (tgt := 197) C.1 C.2.1 dX12_canBe_290 (by decide) ?_
                                    have hnw : nw F m9 a b = F a b := if_neg (fun q => by first | exact c_215 q.1 | exact c_230 q.2.1 | exact c_259 q.2.2)
                                    have q4 : (sG σ (stF F m9 a b)) = (sG σ (stF F m9 a (b + 1))) := by first | exact congrArg (sG σ) (by rw [← hnw, stF_put hb1]) | exact congrArg (sG σ) (stF_keep hb1 hnw)
                                    rw [q4] at M
                                    exact ih197 (b + 1) hb1 (by omega) _ _ _ M (lv_sub hl [0, 1, 2, 3] rfl)
                                  · skip
                                    have c_230 : (F m9 b) < 1099511627776 := lc_ge1.mp c_230
                                    refine lv_aload_n C.1 C.2.1 dX12_canBe_233 rfl (lv_at hl 1 rfl) ?_
                                    refine g_getJJ C M 43 9 (by decide) rfl rfl (by decide) fl12_30 dX12_canBe_234 ?_
                                    refine lv_iload_n C.1 C.2.1 dX12_canBe_237 rfl (lv_at hl 3 rfl) ?_
                                    refine g_aald6 C M 43 9 (by decide) rfl a (nI_clamp (by omega)) (vp_in_nI (by omega) (by decide)) dX12_canBe_238 ?_
                                    refine lv_iload_n C.1 C.2.1 dX12_canBe_239 rfl (lv_at hl 2 rfl) ?_
                                    refine g_rlald C M 43 9 a (by decide) rfl (by omega) (by decide) m9 (nI_clamp (by omega)) (vp_in_nI (by omega) (by decide)) (v := F a m9) (stF_am (hKm.d hm1)) dX12_canBe_240 ?_
                                    refine lv_aload_n C.1 C.2.1 dX12_canBe_241 rfl (lv_at hl 1 rfl) ?_
                                    refine g_getJJ C M 43 9 (by decide) rfl rfl (by decide) fl12_30 dX12_canBe_242 ?_
                                    refine lv_iload_n C.1 C.2.1 dX12_canBe_245 rfl (lv_at hl 2 rfl) ?_
                                    refine g_aald6 C M 43 9 (by decide) rfl m9 (nI_clamp (by omega)) (vp_in_nI (by omega) (by decide)) dX12_canBe_246 ?_
                                    refine lv_iload_n C.1 C.2.1 dX12_canBe_247 rfl (lv_at hl 0 rfl) ?_
                                    refine g_rlald C M 43 9 m9 (by decide) rfl (by omega) (by decide) b (nI_clamp (by omega)) (vp_in_nI (by omega) (by decide)) (v := F m9 b) (stF_mb (hKm.d hm1)) dX12_canBe_248 ?_
                                    refine lv_ladd C.1 C.2.1 dX12_canBe_249 ?_
                                    refine lv_aload_n C.1 C.2.1 dX12_canBe_250 rfl (lv_at hl 1 rfl) ?_
                                    refine g_getJJ C M 43 9 (by decide) rfl rfl (by decide) fl12_30 dX12_canBe_251 ?_
                                    refine lv_iload_n C.1 C.2.1 dX12_canBe_254 rfl (lv_at hl 3 rfl) ?_
                                    refine g_aald6 C M 43 9 (by decide) rfl a (nI_clamp (by omega)) (vp_in_nI (by omega) (by decide)) dX12_canBe_255 ?_
                                    refine lv_iload_n C.1 C.2.1 dX12_canBe_256 rfl (lv_at hl 0 rfl) ?_
                                    refine g_rlald C M 43 9 a (by decide) rfl (by omega) (by decide) b (nI_clamp (by omega)) (vp_in_nI (by omega) (by decide)) (v := F a b) stF_ab dX12_canBe_257 ?_
                                    refine W.lcmp C.1 C.2.1 dX12_canBe_258 ?_
                                    refine lv_if_ge (tgt := 287) C.1 C.2.1 dX12_canBe_259 (by decide) (fun c_259 => ?_) (fun c_259 => ?_)
                                    · skip
                                      have c_259 : ¬ ((F a m9) + (F m9 b)) < (F a b) := lc_ge0.mp c_259
                                      refine lv_iinc (v := nI (b + 1)) (lv' := [(3, .int (nI (b + 1))), (0, .ref (hO E 43)), (1, .int (nI m9)), (2, .int (nI a))]) C.1 C.2.1 dX12_canBe_287 hl (k := 0) rfl (nI_succ _).symm (by decide) rfl (fun ls hl => ?_)
                                      refine lv_goto (tgt := 197) C.1 C.2.1 dX12_canBe_290 (by decide) ?_
                                      have hnw : nw F m9 a b = F a b := if_neg (fun q => by first | exact c_215 q.1 | exact c_230 q.2.1 | exact c_259 q.2.2)
                                      have q5 : (sG σ (stF F m9 a b)) = (sG σ (stF F m9 a (b + 1))) := by first | exact congrArg (sG σ) (by rw [← hnw, stF_put hb1]) | exact congrArg (sG σ) (stF_keep hb1 hnw)
                                      rw [q5] at M
                                      exact ih197 (b + 1) hb1 (by omega) _ _ _ M (lv_sub hl [0, 1, 2, 3] rfl)
                                    · skip
                                      have c_259 : ((F a m9) + (F m9 b)) < (F a b) := lc_ge1.mp c_259
                                      refine lv_aload_n C.1 C.2.1 dX12_canBe_262 rfl (lv_at hl 1 rfl) ?_
                                      refine g_getJJ C M 43 9 (by decide) rfl rfl (by decide) fl12_30 dX12_canBe_263 ?_
                                      refine lv_iload_n C.1 C.2.1 dX12_canBe_266 rfl (lv_at hl 3 rfl) ?_
                                      refine g_aald6 C M 43 9 (by decide) rfl a (nI_clamp (by omega)) (vp_in_nI (by omega) (by decide)) dX12_canBe_267 ?_
                                      refine lv_iload_n C.1 C.2.1 dX12_canBe_268 rfl (lv_at hl 0 rfl) ?_
                                      refine lv_aload_n C.1 C.2.1 dX12_canBe_269 rfl (lv_at hl 1 rfl) ?_
                                      refine g_getJJ C M 43 9 (by decide) rfl rfl (by decide) fl12_30 dX12_canBe_270 ?_
                                      refine lv_iload_n C.1 C.2.1 dX12_canBe_273 rfl (lv_at hl 3 rfl) ?_
                                      refine g_aald6 C M 43 9 (by decide) rfl a (nI_clamp (by omega)) (vp_in_nI (by omega) (by decide)) dX12_canBe_274 ?_
                                      refine lv_iload_n C.1 C.2.1 dX12_canBe_275 rfl (lv_at hl 2 rfl) ?_
                                      refine g_rlald C M 43 9 a (by decide) rfl (by omega) (by decide) m9 (nI_clamp (by omega)) (vp_in_nI (by omega) (by decide)) (v := F a m9) (stF_am (hKm.d hm1)) dX12_canBe_276 ?_
                                      refine lv_aload_n C.1 C.2.1 dX12_canBe_277 rfl (lv_at hl 1 rfl) ?_
                                      refine g_getJJ C M 43 9 (by decide) rfl rfl (by decide) fl12_30 dX12_canBe_278 ?_
                                      refine lv_iload_n C.1 C.2.1 dX12_canBe_281 rfl (lv_at hl 2 rfl) ?_
                                      refine g_aald6 C M 43 9 (by decide) rfl m9 (nI_clamp (by omega)) (vp_in_nI (by omega) (by decide)) dX12_canBe_282 ?_
                                      refine lv_iload_n C.1 C.2.1 dX12_canBe_283 rfl (lv_at hl 0 rfl) ?_
                                      refine g_rlald C M 43 9 m9 (by decide) rfl (by omega) (by decide) b (nI_clamp (by omega)) (vp_in_nI (by omega) (by decide)) (v := F m9 b) (stF_mb (hKm.d hm1)) dX12_canBe_284 ?_
                                      refine lv_ladd C.1 C.2.1 dX12_canBe_285 ?_
                                      refine g_rlast C M 43 9 a (by decide) rfl (by omega) (by decide) b (nI_clamp (by omega)) (vp_in_nI (by omega) (by decide)) dX12_canBe_286 (fun H locs M => ?_)
                                      have M : hM E A s H locs (sB (sG σ (stF F m9 a b)) 43 9 a (vp_updL ((stF F m9 a b) a) b ((F a m9) + (F m9 b)))) Z := M
                                      rw [sB_sG] at M
                                      refine lv_iinc (v := nI (b + 1)) (lv' := [(3, .int (nI (b + 1))), (0, .ref (hO E 43)), (1, .int (nI m9)), (2, .int (nI a))]) C.1 C.2.1 dX12_canBe_287 hl (k := 0) rfl (nI_succ _).symm (by decide) rfl (fun ls hl => ?_)
                                      refine lv_goto (tgt := 197) C.1 C.2.1 dX12_canBe_290 (by decide) ?_
                                      have hnw : nw F m9 a b = F a m9 + F m9 b := if_pos ⟨c_215, c_230, c_259⟩
                                      have q6 : (sG σ (up2 (stF F m9 a b) a b ((F a m9) + (F m9 b)))) = (sG σ (stF F m9 a (b + 1))) := by first | exact congrArg (sG σ) (by rw [← hnw, stF_put hb1]) | exact congrArg (sG σ) (stF_keep hb1 hnw)
                                      rw [q6] at M
                                      exact ih197 (b + 1) hb1 (by omega) _ _ _ M (lv_sub hl [0, 1, 2, 3] rfl)
                          have q7 : 0 = nI 0 := by rfl
                          have hl : lv_has ls 4 [(3, .int (nI 0)), (0, .ref (hO E 43)), (1, .int (nI m9)), (2, .int (nI a))] := by
                            rw [← q7]
                            exact lv_sub hl [0, 2, 3, 1] rfl
                          exact L197 ((16 - 0) + 1) 0 (Nat.zero_le _) (Nat.lt_succ_self _) _ _ _ M hl
                    have q8 : 0 = nI 0 := by rfl
                    have hl : lv_has ls 4 [(2, .int (nI 0)), (0, .ref (hO E 43)), (1, .int (nI m9))] := by
                      rw [← q8]
                      exact lv_sub hl [0, 2, 1] rfl
                    have q9 : (sG σ F) = (sG σ (stF F m9 0 0)) := by first | exact congrArg (sG σ) (stF_0 F m9) | exact congrArg (sG σ) (stF_row F m9 a)
                    rw [q9] at M
                    exact L189 ((16 - 0) + 1) 0 (Nat.zero_le _) (Nat.lt_succ_self _) _ _ _ M hl
              have q10 : 0 = nI 0 := by rfl
              have hl : lv_has ls 4 [(1, .int (nI 0)), (0, .ref (hO E 43))] := by
                rw [← q10]
                exact lv_sub hl [0, 1] rfl
              exact L181 ((16 - 0) + 1) 0 F (Nat.zero_le _) (Km.of (by rw [hkn] at hJ; exact hJ)) (Nat.lt_succ_self _) _ _ _ M hl
            · skip
              have hk1 : k < n := ct_nge (n := n) (k := k) c_55
              refine lv_aload_n C.1 C.2.1 dX12_canBe_58 rfl (lv_at hl 1 rfl) ?_
              refine g_getA C M 43 10 (by decide) rfl rfl (by decide) fl12_33 dX12_canBe_59 ?_
              refine lv_iload_n C.1 C.2.1 dX12_canBe_62 rfl (lv_at hl 0 rfl) ?_
              refine g_zald C M 43 10 (by decide) rfl k (nI_clamp (by omega)) (vp_in_nI (by omega) (by decide)) (v := hA σ 43 10 0 k) rfl dX12_canBe_63 ?_
              refine lv_if_eq (tgt := 173) C.1 C.2.1 dX12_canBe_64 (by decide) (fun c_64 => ?_) (fun c_64 => ?_)
              · skip
                refine lv_iinc (v := nI (k + 1)) (lv' := [(1, .int (nI (k + 1))), (0, .ref (hO E 43))]) C.1 C.2.1 dX12_canBe_173 hl (k := 0) rfl (nI_succ _).symm (by decide) rfl (fun ls hl => ?_)
                refine lv_goto (tgt := 50) C.1 C.2.1 dX12_canBe_176 (by decide) ?_
                exact ih50 (k + 1) F hk1 (Jk.n hW hk1 c_64 hJ) (by omega) _ _ _ M (lv_sub hl [0, 1] rfl)
              · skip
                refine lv_aload_n C.1 C.2.1 dX12_canBe_67 rfl (lv_at hl 1 rfl) ?_
                refine g_getA C M 43 5 (by decide) rfl rfl (by decide) fl12_16 dX12_canBe_68 ?_
                refine lv_iload_n C.1 C.2.1 dX12_canBe_71 rfl (lv_at hl 0 rfl) ?_
                refine g_iald C M 43 5 (by decide) rfl k (nI_clamp (by omega)) (vp_in_nI (by omega) (by decide)) (v := hA σ 43 5 0 k) rfl dX12_canBe_72 ?_
                refine lv_istore_n (lv' := [(2, .int (hA σ 43 5 0 k)), (1, .int (nI k)), (0, .ref (hO E 43))]) C.1 C.2.1 dX12_canBe_73 rfl hl (by decide) rfl (fun ls hl => ?_)
                refine lv_aload_n C.1 C.2.1 dX12_canBe_74 rfl (lv_at hl 2 rfl) ?_
                refine g_getA C M 43 6 (by decide) rfl rfl (by decide) fl12_19 dX12_canBe_75 ?_
                refine lv_iload_n C.1 C.2.1 dX12_canBe_78 rfl (lv_at hl 1 rfl) ?_
                refine g_iald C M 43 6 (by decide) rfl k (nI_clamp (by omega)) (vp_in_nI (by omega) (by decide)) (v := hA σ 43 6 0 k) rfl dX12_canBe_79 ?_
                refine lv_istore_n (lv' := [(3, .int (hA σ 43 6 0 k)), (2, .int (hA σ 43 5 0 k)), (1, .int (nI k)), (0, .ref (hO E 43))]) C.1 C.2.1 dX12_canBe_80 rfl hl (by decide) rfl (fun ls hl => ?_)
                refine lv_aload_n C.1 C.2.1 dX12_canBe_81 rfl (lv_at hl 3 rfl) ?_
                refine g_getJJ C M 43 9 (by decide) rfl rfl (by decide) fl12_30 dX12_canBe_82 ?_
                refine lv_iload_n C.1 C.2.1 dX12_canBe_85 rfl (lv_at hl 1 rfl) ?_
                refine g_aald6 C M 43 9 (by decide) rfl (mFr σ k) rfl (by first | exact (hW k hk1).1 | exact (hW k hk1).2.1) dX12_canBe_86 ?_
                refine lv_iload_n C.1 C.2.1 dX12_canBe_87 rfl (lv_at hl 0 rfl) ?_
                refine lv_aload_n C.1 C.2.1 dX12_canBe_88 rfl (lv_at hl 3 rfl) ?_
                refine g_getJJ C M 43 9 (by decide) rfl rfl (by decide) fl12_30 dX12_canBe_89 ?_
                refine lv_iload_n C.1 C.2.1 dX12_canBe_92 rfl (lv_at hl 1 rfl) ?_
                refine g_aald6 C M 43 9 (by decide) rfl (mFr σ k) rfl (by first | exact (hW k hk1).1 | exact (hW k hk1).2.1) dX12_canBe_93 ?_
                refine lv_iload_n C.1 C.2.1 dX12_canBe_94 rfl (lv_at hl 0 rfl) ?_
                refine g_rlald C M 43 9 (mFr σ k) (by decide) rfl (by first | exact vp_lt (hW k hk1).1 | exact vp_lt (hW k hk1).2.1) (by decide) (mTo σ k) rfl (by first | exact (hW k hk1).1 | exact (hW k hk1).2.1) (v := F (mFr σ k) (mTo σ k)) rfl dX12_canBe_95 ?_
                refine lv_aload_n C.1 C.2.1 dX12_canBe_96 rfl (lv_at hl 3 rfl) ?_
                refine g_getA C M 43 8 (by decide) rfl rfl (by decide) fl12_25 dX12_canBe_97 ?_
                refine lv_iload_n C.1 C.2.1 dX12_canBe_100 rfl (lv_at hl 2 rfl) ?_
                refine g_iald C M 43 8 (by decide) rfl k (nI_clamp (by omega)) (vp_in_nI (by omega) (by decide)) (v := hA σ 43 8 0 k) rfl dX12_canBe_101 ?_
                refine lv_i2l C.1 C.2.1 dX12_canBe_102 rfl ?_
                refine W.lcmp C.1 C.2.1 dX12_canBe_103 ?_
                have J12 : ∀ (v11 : Int64) (ev11 : v11 = (if (F (mFr σ k) (mTo σ k)) < ((hA σ 43 8 0 k).toInt64) then F (mFr σ k) (mTo σ k) else (hA σ 43 8 0 k).toInt64)) (H : Heap) (locs : List Loc) (ls : Array Slot), hM E A s H locs (sG σ F) Z → lv_has ls 4 [(3, .int (hA σ 43 6 0 k)), (2, .int (hA σ 43 5 0 k)), (1, .int (nI k)), (0, .ref (hO E 43))] → W p l e (hRm (0, 0, 0, 0)) s m [.ref (hO E 43)].toArray below meth c H locs 0 0 (MQ below (hQi E (fun r u => (r = 1 ∧ ∃ F, u = (sG σ F, Z) ∧ Km σ n 16 F) ∨ (r = 0 ∧ (∃ F, u = (sG σ F, Z)) ∧ ¬ NoNeg (mEd σ n))) A) [.ref (hO E 43)].toArray s 0 0 A) (F0 m 125 ls [.long v11, .int (hA σ 43 6 0 k), .ref (hR E 43 9 (mFr σ k))]) := by
                  intro v11 ev11 H locs ls M hl
                  subst ev11
                  refine g_rlast C M 43 9 (mFr σ k) (by decide) rfl (by first | exact vp_lt (hW k hk1).1 | exact vp_lt (hW k hk1).2.1) (by decide) (mTo σ k) rfl (by first | exact (hW k hk1).1 | exact (hW k hk1).2.1) dX12_canBe_125 (fun H locs M => ?_)
                  have M : hM E A s H locs (sB (sG σ F) 43 9 (mFr σ k) (vp_updL (F (mFr σ k)) (mTo σ k) (if (F (mFr σ k) (mTo σ k)) < ((hA σ 43 8 0 k).toInt64) then F (mFr σ k) (mTo σ k) else (hA σ 43 8 0 k).toInt64))) Z := M
                  rw [sB_sG] at M
                  have M : hM E A s H locs (sG σ (say1 σ F k)) Z := M
                  refine lv_aload_n C.1 C.2.1 dX12_canBe_126 rfl (lv_at hl 3 rfl) ?_
                  refine g_getJJ C M 43 9 (by decide) rfl rfl (by decide) fl12_30 dX12_canBe_127 ?_
                  refine lv_iload_n C.1 C.2.1 dX12_canBe_130 rfl (lv_at hl 0 rfl) ?_
                  refine g_aald6 C M 43 9 (by decide) rfl (mTo σ k) rfl (by first | exact (hW k hk1).1 | exact (hW k hk1).2.1) dX12_canBe_131 ?_
                  refine lv_iload_n C.1 C.2.1 dX12_canBe_132 rfl (lv_at hl 1 rfl) ?_
                  refine lv_aload_n C.1 C.2.1 dX12_canBe_133 rfl (lv_at hl 3 rfl) ?_
                  refine g_getJJ C M 43 9 (by decide) rfl rfl (by decide) fl12_30 dX12_canBe_134 ?_
                  refine lv_iload_n C.1 C.2.1 dX12_canBe_137 rfl (lv_at hl 0 rfl) ?_
                  refine g_aald6 C M 43 9 (by decide) rfl (mTo σ k) rfl (by first | exact (hW k hk1).1 | exact (hW k hk1).2.1) dX12_canBe_138 ?_
                  refine lv_iload_n C.1 C.2.1 dX12_canBe_139 rfl (lv_at hl 1 rfl) ?_
                  refine g_rlald C M 43 9 (mTo σ k) (by decide) rfl (by first | exact vp_lt (hW k hk1).1 | exact vp_lt (hW k hk1).2.1) (by decide) (mFr σ k) rfl (by first | exact (hW k hk1).1 | exact (hW k hk1).2.1) (v := (say1 σ F k) (mTo σ k) (mFr σ k)) rfl dX12_canBe_140 ?_
                  refine lv_aload_n C.1 C.2.1 dX12_canBe_141 rfl (lv_at hl 3 rfl) ?_
                  refine g_getA C M 43 7 (by decide) rfl rfl (by decide) fl12_22 dX12_canBe_142 ?_
                  refine lv_iload_n C.1 C.2.1 dX12_canBe_145 rfl (lv_at hl 2 rfl) ?_
                  refine g_iald C M 43 7 (by decide) rfl k (nI_clamp (by omega)) (vp_in_nI (by omega) (by decide)) (v := hA σ 43 7 0 k) rfl dX12_canBe_146 ?_
                  refine lv_ineg C.1 C.2.1 dX12_canBe_147 ?_
                  refine lv_i2l C.1 C.2.1 dX12_canBe_148 rfl ?_
                  refine W.lcmp C.1 C.2.1 dX12_canBe_149 ?_
                  have J14 : ∀ (v13 : Int64) (ev13 : v13 = (if ((say1 σ F k) (mTo σ k) (mFr σ k)) < ((-(hA σ 43 7 0 k)).toInt64) then (say1 σ F k) (mTo σ k) (mFr σ k) else (-(hA σ 43 7 0 k)).toInt64)) (H : Heap) (locs : List Loc) (ls : Array Slot), hM E A s H locs (sG σ (say1 σ F k)) Z → lv_has ls 4 [(3, .int (hA σ 43 6 0 k)), (2, .int (hA σ 43 5 0 k)), (1, .int (nI k)), (0, .ref (hO E 43))] → W p l e (hRm (0, 0, 0, 0)) s m [.ref (hO E 43)].toArray below meth c H locs 0 0 (MQ below (hQi E (fun r u => (r = 1 ∧ ∃ F, u = (sG σ F, Z) ∧ Km σ n 16 F) ∨ (r = 0 ∧ (∃ F, u = (sG σ F, Z)) ∧ ¬ NoNeg (mEd σ n))) A) [.ref (hO E 43)].toArray s 0 0 A) (F0 m 172 ls [.long v13, .int (hA σ 43 5 0 k), .ref (hR E 43 9 (mTo σ k))]) := by
                    intro v13 ev13 H locs ls M hl
                    subst ev13
                    refine g_rlast C M 43 9 (mTo σ k) (by decide) rfl (by first | exact vp_lt (hW k hk1).1 | exact vp_lt (hW k hk1).2.1) (by decide) (mFr σ k) rfl (by first | exact (hW k hk1).1 | exact (hW k hk1).2.1) dX12_canBe_172 (fun H locs M => ?_)
                    have M : hM E A s H locs (sB (sG σ (say1 σ F k)) 43 9 (mTo σ k) (vp_updL ((say1 σ F k) (mTo σ k)) (mFr σ k) (if ((say1 σ F k) (mTo σ k) (mFr σ k)) < ((-(hA σ 43 7 0 k)).toInt64) then (say1 σ F k) (mTo σ k) (mFr σ k) else (-(hA σ 43 7 0 k)).toInt64))) Z := M
                    rw [sB_sG] at M
                    have M : hM E A s H locs (sG σ (say2 σ F k)) Z := M
                    refine lv_iinc (v := nI (k + 1)) (lv' := [(1, .int (nI (k + 1))), (3, .int (hA σ 43 6 0 k)), (2, .int (hA σ 43 5 0 k)), (0, .ref (hO E 43))]) C.1 C.2.1 dX12_canBe_173 hl (k := 2) rfl (nI_succ _).symm (by decide) rfl (fun ls hl => ?_)
                    refine lv_goto (tgt := 50) C.1 C.2.1 dX12_canBe_176 (by decide) ?_
                    exact ih50 (k + 1) (say2 σ F k) hk1 (Jk.s hW hk1 c_64 hJ) (by omega) _ _ _ M (lv_sub hl [0, 3] rfl)
                  refine lv_if_ge (tgt := 164) C.1 C.2.1 dX12_canBe_150 (by decide) (fun c_150 => ?_) (fun c_150 => ?_)
                  · skip
                    have c_150 : ¬ ((say1 σ F k) (mTo σ k) (mFr σ k)) < ((-(hA σ 43 7 0 k)).toInt64) := lc_ge0.mp c_150
                    refine lv_aload_n C.1 C.2.1 dX12_canBe_164 rfl (lv_at hl 3 rfl) ?_
                    refine g_getA C M 43 7 (by decide) rfl rfl (by decide) fl12_22 dX12_canBe_165 ?_
                    refine lv_iload_n C.1 C.2.1 dX12_canBe_168 rfl (lv_at hl 2 rfl) ?_
                    refine g_iald C M 43 7 (by decide) rfl k (nI_clamp (by omega)) (vp_in_nI (by omega) (by decide)) (v := hA σ 43 7 0 k) rfl dX12_canBe_169 ?_
                    refine lv_ineg C.1 C.2.1 dX12_canBe_170 ?_
                    refine lv_i2l C.1 C.2.1 dX12_canBe_171 rfl ?_
                    exact J14 _ (by first | (simp only [c_150, not_false_eq_true, not_true_eq_false, and_self, and_true, true_and, and_false, false_and, or_true, true_or, or_false, false_or, Bool.false_eq_true, if_true, if_false, ↓reduceIte]; done) | simp [c_150]) _ _ _ M (lv_sub hl [0, 1, 2, 3] rfl)
                  · skip
                    have c_150 : ((say1 σ F k) (mTo σ k) (mFr σ k)) < ((-(hA σ 43 7 0 k)).toInt64) := lc_ge1.mp c_150
                    refine lv_aload_n C.1 C.2.1 dX12_canBe_153 rfl (lv_at hl 3 rfl) ?_
                    refine g_getJJ C M 43 9 (by decide) rfl rfl (by decide) fl12_30 dX12_canBe_154 ?_
                    refine lv_iload_n C.1 C.2.1 dX12_canBe_157 rfl (lv_at hl 0 rfl) ?_
                    refine g_aald6 C M 43 9 (by decide) rfl (mTo σ k) rfl (by first | exact (hW k hk1).1 | exact (hW k hk1).2.1) dX12_canBe_158 ?_
                    refine lv_iload_n C.1 C.2.1 dX12_canBe_159 rfl (lv_at hl 1 rfl) ?_
                    refine g_rlald C M 43 9 (mTo σ k) (by decide) rfl (by first | exact vp_lt (hW k hk1).1 | exact vp_lt (hW k hk1).2.1) (by decide) (mFr σ k) rfl (by first | exact (hW k hk1).1 | exact (hW k hk1).2.1) (v := (say1 σ F k) (mTo σ k) (mFr σ k)) rfl dX12_canBe_160 ?_
                    refine lv_goto (tgt := 172) C.1 C.2.1 dX12_canBe_161 (by decide) ?_
                    exact J14 _ (by first | (simp only [c_150, not_false_eq_true, not_true_eq_false, and_self, and_true, true_and, and_false, false_and, or_true, true_or, or_false, false_or, Bool.false_eq_true, if_true, if_false, ↓reduceIte]; done) | simp [c_150]) _ _ _ M (lv_sub hl [0, 1, 2, 3] rfl)
                refine lv_if_ge (tgt := 118) C.1 C.2.1 dX12_canBe_104 (by decide) (fun c_104 => ?_) (fun c_104 => ?_)
                · skip
                  have c_104 : ¬ (F (mFr σ k) (mTo σ k)) < ((hA σ 43 8 0 k).toInt64) := lc_ge0.mp c_104
                  refine lv_aload_n C.1 C.2.1 dX12_canBe_118 rfl (lv_at hl 3 rfl) ?_
                  refine g_getA C M 43 8 (by decide) rfl rfl (by decide) fl12_25 dX12_canBe_119 ?_
                  refine lv_iload_n C.1 C.2.1 dX12_canBe_122 rfl (lv_at hl 2 rfl) ?_
                  refine g_iald C M 43 8 (by decide) rfl k (nI_clamp (by omega)) (vp_in_nI (by omega) (by decide)) (v := hA σ 43 8 0 k) rfl dX12_canBe_123 ?_
                  refine lv_i2l C.1 C.2.1 dX12_canBe_124 rfl ?_
                  exact J12 _ (by first | (simp only [c_104, not_false_eq_true, not_true_eq_false, and_self, and_true, true_and, and_false, false_and, or_true, true_or, or_false, false_or, Bool.false_eq_true, if_true, if_false, ↓reduceIte]; done) | simp [c_104]) _ _ _ M (lv_sub hl [0, 1, 2, 3] rfl)
                · skip
                  have c_104 : (F (mFr σ k) (mTo σ k)) < ((hA σ 43 8 0 k).toInt64) := lc_ge1.mp c_104
                  refine lv_aload_n C.1 C.2.1 dX12_canBe_107 rfl (lv_at hl 3 rfl) ?_
                  refine g_getJJ C M 43 9 (by decide) rfl rfl (by decide) fl12_30 dX12_canBe_108 ?_
                  refine lv_iload_n C.1 C.2.1 dX12_canBe_111 rfl (lv_at hl 1 rfl) ?_
                  refine g_aald6 C M 43 9 (by decide) rfl (mFr σ k) rfl (by first | exact (hW k hk1).1 | exact (hW k hk1).2.1) dX12_canBe_112 ?_
                  refine lv_iload_n C.1 C.2.1 dX12_canBe_113 rfl (lv_at hl 0 rfl) ?_
                  refine g_rlald C M 43 9 (mFr σ k) (by decide) rfl (by first | exact vp_lt (hW k hk1).1 | exact vp_lt (hW k hk1).2.1) (by decide) (mTo σ k) rfl (by first | exact (hW k hk1).1 | exact (hW k hk1).2.1) (v := F (mFr σ k) (mTo σ k)) rfl dX12_canBe_114 ?_
                  refine lv_goto (tgt := 125) C.1 C.2.1 dX12_canBe_115 (by decide) ?_
                  exact J12 _ (by first | (simp only [c_104, not_false_eq_true, not_true_eq_false, and_self, and_true, true_and, and_false, false_and, or_true, true_or, or_false, false_or, Bool.false_eq_true, if_true, if_false, ↓reduceIte]; done) | simp [c_104]) _ _ _ M (lv_sub hl [0, 1, 2, 3] rfl)
        have q15 : 0 = nI 0 := by rfl
        have hl : lv_has ls 4 [(1, .int (nI 0)), (0, .ref (hO E 43))] := by
          rw [← q15]
          exact lv_sub hl [0, 1] rfl
        exact L50 ((n - 0) + 1) 0 F (Nat.zero_le _) (Ini.j (by rw [hkn] at hIn; exact hIn)) (Nat.lt_succ_self _) _ _ _ M hl
      · skip
        have ha1 : a < 16 := ct_nge (n := 16) (k := a) c_5
        refine lv_iconst (v := 0) C.1 C.2.1 dX12_canBe_8 (by decide) ?_
        refine lv_istore_n (lv' := [(2, .int 0), (1, .int (nI a)), (0, .ref (hO E 43))]) C.1 C.2.1 dX12_canBe_9 rfl hl (by decide) rfl (fun ls hl => ?_)
        have L10 : ∀ (n9 : Nat) (b : Nat) (F : Nat → Nat → Int64), (b ≤ 16) → (Ini F a b) → 16 - b < n9 → ∀ (H : Heap) (locs : List Loc) (ls : Array Slot), hM E A s H locs (sG σ F) Z → lv_has ls 4 [(2, .int (nI b)), (0, .ref (hO E 43)), (1, .int (nI a))] → W p l e (hRm (0, 0, 0, 0)) s m [.ref (hO E 43)].toArray below meth c H locs 0 0 (MQ below (hQi E (fun r u => (r = 1 ∧ ∃ F, u = (sG σ F, Z) ∧ Km σ n 16 F) ∨ (r = 0 ∧ (∃ F, u = (sG σ F, Z)) ∧ ¬ NoNeg (mEd σ n))) A) [.ref (hO E 43)].toArray s 0 0 A) (F0 m 10 ls []) := by
          intro n9
          induction n9 with
          | zero =>
            intro b F hb hIn2 hn9
            exact absurd hn9 (Nat.not_lt_zero _)
          | succ n9 ih10 =>
            intro b F hb hIn2 hn10 H locs ls M hl
            refine lv_iload_n C.1 C.2.1 dX12_canBe_10 rfl (lv_at hl 0 rfl) ?_
            refine lv_bipush (v := 16) C.1 C.2.1 dX12_canBe_11 (by decide) ?_
            refine lv_icmp_ge (tgt := 42) C.1 C.2.1 dX12_canBe_13 (by decide) (fun c_13 => ?_) (fun c_13 => ?_)
            · skip
              have hkn : b = 16 := by have := ct_ge (n := 16) (k := b) c_13; omega
              have hl : lv_has ls 4 [(2, .int (nI 16)), (0, .ref (hO E 43)), (1, .int (nI a))] := by first | exact hl | (rw [hkn] at hl; exact hl)
              have M : hM E A s H locs (sG σ F) Z := by first | exact M | (rw [hkn] at M; exact M)
              refine lv_iinc (v := nI (a + 1)) (lv' := [(1, .int (nI (a + 1))), (2, .int (nI 16)), (0, .ref (hO E 43))]) C.1 C.2.1 dX12_canBe_42 hl (k := 2) rfl (nI_succ _).symm (by decide) rfl (fun ls hl => ?_)
              refine lv_goto (tgt := 2) C.1 C.2.1 dX12_canBe_45 (by decide) ?_
              exact ih2 (a + 1) F ha1 (Ini.r (by rw [hkn] at hIn2; exact hIn2)) (by omega) _ _ _ M (lv_sub hl [0, 2] rfl)
            · skip
              have hb1 : b < 16 := ct_nge (n := 16) (k := b) c_13
              refine lv_aload_n C.1 C.2.1 dX12_canBe_16 rfl (lv_at hl 1 rfl) ?_
              refine g_getJJ C M 43 9 (by decide) rfl rfl (by decide) fl12_30 dX12_canBe_17 ?_
              refine lv_iload_n C.1 C.2.1 dX12_canBe_20 rfl (lv_at hl 2 rfl) ?_
              refine g_aald6 C M 43 9 (by decide) rfl a (nI_clamp (by omega)) (vp_in_nI (by omega) (by decide)) dX12_canBe_21 ?_
              refine lv_iload_n C.1 C.2.1 dX12_canBe_22 rfl (lv_at hl 0 rfl) ?_
              refine lv_iload_n C.1 C.2.1 dX12_canBe_23 rfl (lv_at hl 2 rfl) ?_
              refine lv_iload_n C.1 C.2.1 dX12_canBe_24 rfl (lv_at hl 0 rfl) ?_
              have J17 : ∀ (v16 : Int64) (ev16 : v16 = (if (nI a) = (nI b) then 0 else 1099511627776)) (H : Heap) (locs : List Loc) (ls : Array Slot), hM E A s H locs (sG σ F) Z → lv_has ls 4 [(2, .int (nI b)), (0, .ref (hO E 43)), (1, .int (nI a))] → W p l e (hRm (0, 0, 0, 0)) s m [.ref (hO E 43)].toArray below meth c H locs 0 0 (MQ below (hQi E (fun r u => (r = 1 ∧ ∃ F, u = (sG σ F, Z) ∧ Km σ n 16 F) ∨ (r = 0 ∧ (∃ F, u = (sG σ F, Z)) ∧ ¬ NoNeg (mEd σ n))) A) [.ref (hO E 43)].toArray s 0 0 A) (F0 m 35 ls [.long v16, .int (nI b), .ref (hR E 43 9 a)]) := by
                intro v16 ev16 H locs ls M hl
                subst ev16
                refine g_rlast C M 43 9 a (by decide) rfl (by omega) (by decide) b (nI_clamp (by omega)) (vp_in_nI (by omega) (by decide)) dX12_canBe_35 (fun H locs M => ?_)
                have M : hM E A s H locs (sB (sG σ F) 43 9 a (vp_updL (F a) b (if (nI a) = (nI b) then 0 else 1099511627776))) Z := M
                rw [sB_sG] at M
                have M : hM E A s H locs (sG σ (up2 F a b (iniV a b))) Z := M
                refine lv_iinc (v := nI (b + 1)) (lv' := [(2, .int (nI (b + 1))), (0, .ref (hO E 43)), (1, .int (nI a))]) C.1 C.2.1 dX12_canBe_36 hl (k := 0) rfl (nI_succ _).symm (by decide) rfl (fun ls hl => ?_)
                refine lv_goto (tgt := 10) C.1 C.2.1 dX12_canBe_39 (by decide) ?_
                exact ih10 (b + 1) (up2 F a b (iniV a b)) hb1 (Ini.s hIn2) (by omega) _ _ _ M (lv_sub hl [0, 1, 2] rfl)
              refine lv_icmp_ne (tgt := 32) C.1 C.2.1 dX12_canBe_25 (by decide) (fun c_25 => ?_) (fun c_25 => ?_)
              · skip
                refine lv_ldc2 (v := 1099511627776) C.1 C.2.1 C.2.2.2.1 (C.2.2.2.2.1.1.use kc12_138 rfl) dX12_canBe_32 ?_
                exact J17 _ (by first | (simp only [c_25, not_false_eq_true, not_true_eq_false, and_self, and_true, true_and, and_false, false_and, or_true, true_or, or_false, false_or, Bool.false_eq_true, if_true, if_false, ↓reduceIte]; done) | simp [c_25]) _ _ _ M (lv_sub hl [0, 1, 2] rfl)
              · skip
                refine lv_lconst (v := 0) C.1 C.2.1 dX12_canBe_28 (by decide) ?_
                refine lv_goto (tgt := 35) C.1 C.2.1 dX12_canBe_29 (by decide) ?_
                exact J17 _ (by first | (simp only [c_25, not_false_eq_true, not_true_eq_false, and_self, and_true, true_and, and_false, false_and, or_true, true_or, or_false, false_or, Bool.false_eq_true, if_true, if_false, ↓reduceIte]; done) | simp [c_25]) _ _ _ M (lv_sub hl [0, 1, 2] rfl)
        have q18 : 0 = nI 0 := by rfl
        have hl : lv_has ls 4 [(2, .int (nI 0)), (0, .ref (hO E 43)), (1, .int (nI a))] := by
          rw [← q18]
          exact lv_sub hl [0, 2, 1] rfl
        exact L10 ((16 - 0) + 1) 0 F (Nat.zero_le _) hIn (Nat.lt_succ_self _) _ _ _ M hl
  have q19 : 0 = nI 0 := by rfl
  have hl : lv_has ls 4 [(1, .int (nI 0)), (0, .ref (hO E 43))] := by
    rw [← q19]
    exact lv_sub hl [0, 1] rfl
  have q20 : σ = (sG σ (hB σ 43 9)) := by exact sG_self σ
  rw [q20] at M
  exact L2 ((16 - 0) + 1) 0 (hB σ 43 9) (Nat.zero_le _) (Ini.z _) (Nat.lt_succ_self _) _ _ _ M hl
