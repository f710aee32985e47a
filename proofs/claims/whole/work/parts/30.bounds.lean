set_option maxHeartbeats 4000000 in
set_option maxRecDepth 100000 in
theorem x_bclear (l : Launch) (E : hEnv) (σ : hMem) (Z : va_W) (j : Nat) (hj : j < 44) (hL : hLay j = layBounds) (hC : hCi j = 0) : hMet l yX0_clear cX0_clear 2 none (1, 0, 0, 23) E σ Z [.ref (hO E j)] (hQv E (fun u => u = (sA σ j 0 0 (bCl (hA σ j 0 0) 16), Z))) := by
  refine hMet.of (by decide) (Nat.le_of_ble_eq_true rfl) (fun p e s m below meth c A ls C M hr hlk hl => ?_)
  have hl : lv_has ls 2 [(0, .ref (hO E j))] := hl
  generalize s.heap = H at M ⊢
  generalize ([] : List Loc) = locs at M ⊢
  refine lv_aload_n C.1 C.2.1 dX0_clear_0 rfl (lv_at hl 0 rfl) ?_
  refine g_getA C M j 0 hj (by rw [hL]; rfl) (by rw [hC]; rfl) (by decide) fl0_9 dX0_clear_1 ?_
  refine lv_ldc (v := 2147483647) C.1 C.2.1 C.2.2.2.1 (C.2.2.2.2.1.1.use kc0_15 rfl) dX0_clear_4 ?_
  refine g_callv M (g_runS (As := [.ref (hR E j 0 0), .int 2147483647]) (rest := []) C M (x_fill l E σ Z j 0 256 0 hj (by rw [hL]; rfl) (by decide) 2147483647) clJ7_fill_53178 stJ7_fill_53178 lk0_16 rfl ⟨Nat.le_of_ble_eq_true rfl, Nat.le_of_ble_eq_true rfl⟩ hl.1 rfl (Nat.le_of_ble_eq_true rfl) dX0_clear_6 ⟨Nat.le_of_ble_eq_true rfl, Nat.le_of_ble_eq_true rfl⟩) (fun u H locs hR M => ?_)
  refine W.widen (k := 0) (n := 0) (Nat.le_of_ble_eq_true rfl) (Nat.le_of_ble_eq_true rfl) ?_
  subst hR
  have M : hM E A s H locs (sA σ j 0 0 (pre (fun _ => 2147483647) (hA σ j 0 0) 256)) Z := M
  refine lv_iconst (v := 0) C.1 C.2.1 dX0_clear_9 (by decide) ?_
  refine lv_istore_n (lv' := [(1, .int 0), (0, .ref (hO E j))]) C.1 C.2.1 dX0_clear_10 rfl hl (by decide) rfl (fun ls hl => ?_)
  have L11 : ∀ (n9 : Nat) (k : Nat), (k ≤ 16) → 16 - k < n9 → ∀ (H : Heap) (locs : List Loc) (ls : Array Slot), hM E A s H locs (sA σ j 0 0 (bCl (hA σ j 0 0) k)) Z → lv_has ls 2 [(1, .int (nI k)), (0, .ref (hO E j))] → W p l e (hRm (1, 0, 0, 23)) s m [.ref (hO E j)].toArray below meth c H locs 0 0 (MQ below (hQv E (fun u => u = (sA σ j 0 0 (bCl (hA σ j 0 0) 16), Z)) A) [.ref (hO E j)].toArray s 0 0 A) (F0 m 11 ls []) := by
    intro n9
    induction n9 with
    | zero =>
      intro k hk hn9
      exact absurd hn9 (Nat.not_lt_zero _)
    | succ n9 ih11 =>
      intro k hk hn11 H locs ls M hl
      refine lv_iload_n C.1 C.2.1 dX0_clear_11 rfl (lv_at hl 0 rfl) ?_
      refine lv_bipush (v := 16) C.1 C.2.1 dX0_clear_12 (by decide) ?_
      refine lv_icmp_ge (tgt := 35) C.1 C.2.1 dX0_clear_14 (by decide) (fun c_14 => ?_) (fun c_14 => ?_)
      · skip
        have hkn : k = 16 := by have := ct_ge (n := 16) (k := k) c_14; omega
        have hl : lv_has ls 2 [(1, .int (nI 16)), (0, .ref (hO E j))] := by first | exact hl | (rw [hkn] at hl; exact hl)
        have M : hM E A s H locs (sA σ j 0 0 (bCl (hA σ j 0 0) 16)) Z := by first | exact M | (rw [hkn] at M; exact M)
        refine g_vret C M hr hlk ?_ (Nat.le_of_ble_eq_true rfl) (Nat.le_of_ble_eq_true rfl) dX0_clear_35
        rfl
      · skip
        have hk1 : k < 16 := ct_nge (n := 16) (k := k) c_14
        refine lv_aload_n C.1 C.2.1 dX0_clear_17 rfl (lv_at hl 1 rfl) ?_
        refine g_getA C M j 0 hj (by rw [hL]; rfl) (by rw [hC]; rfl) (by decide) fl0_9 dX0_clear_18 ?_
        refine lv_iload_n C.1 C.2.1 dX0_clear_21 rfl (lv_at hl 0 rfl) ?_
        refine lv_bipush (v := 16) C.1 C.2.1 dX0_clear_22 (by decide) ?_
        refine lv_imul C.1 C.2.1 dX0_clear_24 ?_
        refine g_rei (v := nI (k * 16)) (pk_mul _ 16) ?_
        refine lv_iload_n C.1 C.2.1 dX0_clear_25 rfl (lv_at hl 0 rfl) ?_
        refine lv_iadd C.1 C.2.1 dX0_clear_26 ?_
        refine g_rei (v := nI ((k * 16) + k)) (nI_add _ _) ?_
        refine lv_iconst (v := 0) C.1 C.2.1 dX0_clear_27 (by decide) ?_
        refine g_iast C M j 0 hj (by rw [hL]; rfl) ((k * 16) + k) (nI_clamp (by omega)) (vp_in_nI (by omega) (by decide)) dX0_clear_28 (fun H locs M => ?_)
        have M : hM E A s H locs (sA (sA σ j 0 0 (bCl (hA σ j 0 0) k)) j 0 0 (upd (bCl (hA σ j 0 0) k) ((k * 16) + k) 0)) Z := by rw [hA_same] at M; exact M
        refine lv_iinc (v := nI (k + 1)) (lv' := [(1, .int (nI (k + 1))), (0, .ref (hO E j))]) C.1 C.2.1 dX0_clear_29 hl (k := 0) rfl (nI_succ _).symm (by decide) rfl (fun ls hl => ?_)
        refine lv_goto (tgt := 11) C.1 C.2.1 dX0_clear_32 (by decide) ?_
        have q1 : (sA (sA σ j 0 0 (bCl (hA σ j 0 0) k)) j 0 0 (upd (bCl (hA σ j 0 0) k) ((k * 16) + k) 0)) = (sA σ j 0 0 (bCl (hA σ j 0 0) (k + 1))) := by first | exact congrArg _ (bCl_0 _) | (rw [sA_sA]; exact congrArg _ (bCl_s _ _))
        rw [q1] at M
        exact ih11 (k + 1) hk1 (by omega) _ _ _ M (lv_sub hl [0, 1] rfl)
  have q2 : 0 = nI 0 := by rfl
  have hl : lv_has ls 2 [(1, .int (nI 0)), (0, .ref (hO E j))] := by
    rw [← q2]
    exact lv_sub hl [0, 1] rfl
  have q3 : (sA σ j 0 0 (pre (fun _ => 2147483647) (hA σ j 0 0) 256)) = (sA σ j 0 0 (bCl (hA σ j 0 0) 0)) := by first | exact congrArg _ (bCl_0 _) | (rw [sA_sA]; exact congrArg _ (bCl_s _ _))
  rw [q3] at M
  exact L11 ((16 - 0) + 1) 0 (Nat.zero_le _) (Nat.lt_succ_self _) _ _ _ M hl

set_option maxHeartbeats 4000000 in
set_option maxRecDepth 100000 in
theorem x_bgreat (l : Launch) (E : hEnv) (σ : hMem) (Z : va_W) (j : Nat) (hj : j < 44) (hL : hLay j = layBounds) (hC : hCi j = 0) (a b : Nat) (ha : a < 16) (hb : b < 16) : hMet l yX0_greatest cX0_greatest 4 (some .int) (0, 0, 0, 0) E σ Z [.ref (hO E j), .int (nI a), .int (nI b)] (hQi E (fun r u => r = (if hA σ j 0 0 (a * 16 + b) = 2147483647 then -2147483648 else hA σ j 0 0 (a * 16 + b)) ∧ u = (σ, Z))) := by
  refine hMet.of (by decide) (Nat.le_of_ble_eq_true rfl) (fun p e s m below meth c A ls C M hr hlk hl => ?_)
  have hl : lv_has ls 4 [(0, .ref (hO E j)), (1, .int (nI a)), (2, .int (nI b))] := hl
  generalize s.heap = H at M ⊢
  generalize ([] : List Loc) = locs at M ⊢
  refine lv_aload_n C.1 C.2.1 dX0_greatest_0 rfl (lv_at hl 0 rfl) ?_
  refine g_getA C M j 0 hj (by rw [hL]; rfl) (by rw [hC]; rfl) (by decide) fl0_9 dX0_greatest_1 ?_
  refine lv_iload_n C.1 C.2.1 dX0_greatest_4 rfl (lv_at hl 1 rfl) ?_
  refine lv_bipush (v := 16) C.1 C.2.1 dX0_greatest_5 (by decide) ?_
  refine lv_imul C.1 C.2.1 dX0_greatest_7 ?_
  refine g_rei (v := nI (a * 16)) (pk_mul _ 16) ?_
  refine lv_iload_n C.1 C.2.1 dX0_greatest_8 rfl (lv_at hl 2 rfl) ?_
  refine lv_iadd C.1 C.2.1 dX0_greatest_9 ?_
  refine g_rei (v := nI ((a * 16) + b)) (nI_add _ _) ?_
  refine g_iald C M j 0 hj (by rw [hL]; rfl) ((a * 16) + b) (nI_clamp (by omega)) (vp_in_nI (by omega) (by decide)) (v := hA σ j 0 0 ((a * 16) + b)) rfl dX0_greatest_10 ?_
  refine lv_istore_n (lv' := [(3, .int (hA σ j 0 0 ((a * 16) + b))), (0, .ref (hO E j)), (1, .int (nI a)), (2, .int (nI b))]) C.1 C.2.1 dX0_greatest_11 rfl hl (by decide) rfl (fun ls hl => ?_)
  refine lv_iload_n C.1 C.2.1 dX0_greatest_12 rfl (lv_at hl 0 rfl) ?_
  refine lv_ldc (v := 2147483647) C.1 C.2.1 C.2.2.2.1 (C.2.2.2.2.1.1.use kc0_15 rfl) dX0_greatest_13 ?_
  refine lv_icmp_ne (tgt := 23) C.1 C.2.1 dX0_greatest_15 (by decide) (fun c_15 => ?_) (fun c_15 => ?_)
  · skip
    refine lv_iload_n C.1 C.2.1 dX0_greatest_23 rfl (lv_at hl 0 rfl) ?_
    refine g_iret C M hr hlk ?_ (Nat.le_of_ble_eq_true rfl) (Nat.le_of_ble_eq_true rfl) dX0_greatest_24
    simp only [bz, c_15, not_false_eq_true, not_true_eq_false, and_self, and_true, true_and, and_false, false_and, or_true, true_or, or_false, false_or, Bool.false_eq_true, if_true, if_false, ↓reduceIte]
  · skip
    refine lv_ldc (v := (-2147483648)) C.1 C.2.1 C.2.2.2.1 (C.2.2.2.2.1.1.use kc0_22 rfl) dX0_greatest_18 ?_
    refine lv_goto (tgt := 24) C.1 C.2.1 dX0_greatest_20 (by decide) ?_
    refine g_iret C M hr hlk ?_ (Nat.le_of_ble_eq_true rfl) (Nat.le_of_ble_eq_true rfl) dX0_greatest_24
    simp only [bz, c_15, not_false_eq_true, not_true_eq_false, and_self, and_true, true_and, and_false, false_and, or_true, true_or, or_false, false_or, Bool.false_eq_true, if_true, if_false, ↓reduceIte]

set_option maxHeartbeats 4000000 in
set_option maxRecDepth 100000 in
theorem x_bleast (l : Launch) (E : hEnv) (σ : hMem) (Z : va_W) (j : Nat) (hj : j < 44) (hL : hLay j = layBounds) (hC : hCi j = 0) (a b : Nat) (ha : a < 16) (hb : b < 16) : hMet l yX0_least cX0_least 4 (some .int) (0, 0, 0, 0) E σ Z [.ref (hO E j), .int (nI a), .int (nI b)] (hQi E (fun r u => r = (if hA σ j 0 0 (b * 16 + a) = 2147483647 then -2147483648 else -(hA σ j 0 0 (b * 16 + a))) ∧ u = (σ, Z))) := by
  refine hMet.of (by decide) (Nat.le_of_ble_eq_true rfl) (fun p e s m below meth c A ls C M hr hlk hl => ?_)
  have hl : lv_has ls 4 [(0, .ref (hO E j)), (1, .int (nI a)), (2, .int (nI b))] := hl
  generalize s.heap = H at M ⊢
  generalize ([] : List Loc) = locs at M ⊢
  refine lv_aload_n C.1 C.2.1 dX0_least_0 rfl (lv_at hl 0 rfl) ?_
  refine g_getA C M j 0 hj (by rw [hL]; rfl) (by rw [hC]; rfl) (by decide) fl0_9 dX0_least_1 ?_
  refine lv_iload_n C.1 C.2.1 dX0_least_4 rfl (lv_at hl 2 rfl) ?_
  refine lv_bipush (v := 16) C.1 C.2.1 dX0_least_5 (by decide) ?_
  refine lv_imul C.1 C.2.1 dX0_least_7 ?_
  refine g_rei (v := nI (b * 16)) (pk_mul _ 16) ?_
  refine lv_iload_n C.1 C.2.1 dX0_least_8 rfl (lv_at hl 1 rfl) ?_
  refine lv_iadd C.1 C.2.1 dX0_least_9 ?_
  refine g_rei (v := nI ((b * 16) + a)) (nI_add _ _) ?_
  refine g_iald C M j 0 hj (by rw [hL]; rfl) ((b * 16) + a) (nI_clamp (by omega)) (vp_in_nI (by omega) (by decide)) (v := hA σ j 0 0 ((b * 16) + a)) rfl dX0_least_10 ?_
  refine lv_istore_n (lv' := [(3, .int (hA σ j 0 0 ((b * 16) + a))), (0, .ref (hO E j)), (1, .int (nI a)), (2, .int (nI b))]) C.1 C.2.1 dX0_least_11 rfl hl (by decide) rfl (fun ls hl => ?_)
  refine lv_iload_n C.1 C.2.1 dX0_least_12 rfl (lv_at hl 0 rfl) ?_
  refine lv_ldc (v := 2147483647) C.1 C.2.1 C.2.2.2.1 (C.2.2.2.2.1.1.use kc0_15 rfl) dX0_least_13 ?_
  refine lv_icmp_ne (tgt := 23) C.1 C.2.1 dX0_least_15 (by decide) (fun c_15 => ?_) (fun c_15 => ?_)
  · skip
    refine lv_iload_n C.1 C.2.1 dX0_least_23 rfl (lv_at hl 0 rfl) ?_
    refine lv_ineg C.1 C.2.1 dX0_least_24 ?_
    refine g_iret C M hr hlk ?_ (Nat.le_of_ble_eq_true rfl) (Nat.le_of_ble_eq_true rfl) dX0_least_25
    simp only [bz, c_15, not_false_eq_true, not_true_eq_false, and_self, and_true, true_and, and_false, false_and, or_true, true_or, or_false, false_or, Bool.false_eq_true, if_true, if_false, ↓reduceIte]
  · skip
    refine lv_ldc (v := (-2147483648)) C.1 C.2.1 C.2.2.2.1 (C.2.2.2.2.1.1.use kc0_22 rfl) dX0_least_18 ?_
    refine lv_goto (tgt := 25) C.1 C.2.1 dX0_least_20 (by decide) ?_
    refine g_iret C M hr hlk ?_ (Nat.le_of_ble_eq_true rfl) (Nat.le_of_ble_eq_true rfl) dX0_least_25
    simp only [bz, c_15, not_false_eq_true, not_true_eq_false, and_self, and_true, true_and, and_false, false_and, or_true, true_or, or_false, false_or, Bool.false_eq_true, if_true, if_false, ↓reduceIte]

set_option maxHeartbeats 4000000 in
set_option maxRecDepth 100000 in
theorem x_blimit (l : Launch) (E : hEnv) (σ : hMem) (Z : va_W) (j : Nat) (hj : j < 44) (hL : hLay j = layBounds) (hC : hCi j = 0) (a b : Nat) (ha : a < 16) (hb : b < 16) (u9 : Int32) (hB : cBd (hA σ j 0 0)) (hu : -10000 ≤ u9.toInt ∧ u9.toInt ≤ 10000) (hc : ∀ v, cX (hA σ j 0 0) b a = some v → 0 ≤ v + u9.toInt) : hMet l yX0_limit cX0_limit 8 none (0, 0, 0, 0) E σ Z [.ref (hO E j), .int (nI a), .int (nI b), .int u9] (hQv E (fun u => u = (sA σ j 0 0 (lmW (hA σ j 0 0) a b u9), Z))) := by
  refine hMet.of (by decide) (Nat.le_of_ble_eq_true rfl) (fun p e s m below meth c A ls C M hr hlk hl => ?_)
  have hl : lv_has ls 8 [(0, .ref (hO E j)), (1, .int (nI a)), (2, .int (nI b)), (3, .int u9)] := hl
  generalize s.heap = H at M ⊢
  generalize ([] : List Loc) = locs at M ⊢
  refine lv_iload_n C.1 C.2.1 dX0_limit_0 rfl (lv_at hl 3 rfl) ?_
  refine lv_aload_n C.1 C.2.1 dX0_limit_1 rfl (lv_at hl 0 rfl) ?_
  refine g_getA C M j 0 hj (by rw [hL]; rfl) (by rw [hC]; rfl) (by decide) fl0_9 dX0_limit_2 ?_
  refine lv_iload_n C.1 C.2.1 dX0_limit_5 rfl (lv_at hl 1 rfl) ?_
  refine lv_bipush (v := 16) C.1 C.2.1 dX0_limit_6 (by decide) ?_
  refine lv_imul C.1 C.2.1 dX0_limit_8 ?_
  refine g_rei (v := nI (a * 16)) (pk_mul _ 16) ?_
  refine lv_iload_n C.1 C.2.1 dX0_limit_9 rfl (lv_at hl 2 rfl) ?_
  refine lv_iadd C.1 C.2.1 dX0_limit_10 ?_
  refine g_rei (v := nI ((a * 16) + b)) (nI_add _ _) ?_
  refine g_iald C M j 0 hj (by rw [hL]; rfl) ((a * 16) + b) (nI_clamp (by omega)) (vp_in_nI (by omega) (by decide)) (v := hA σ j 0 0 ((a * 16) + b)) rfl dX0_limit_11 ?_
  refine lv_icmp_lt (tgt := 16) C.1 C.2.1 dX0_limit_12 (by decide) (fun c_12 => ?_) (fun c_12 => ?_)
  · skip
    refine lv_iconst (v := 0) C.1 C.2.1 dX0_limit_16 (by decide) ?_
    refine lv_istore (lv' := [(4, .int 0), (0, .ref (hO E j)), (1, .int (nI a)), (2, .int (nI b)), (3, .int u9)]) C.1 C.2.1 dX0_limit_17 hl (by decide) rfl (fun ls hl => ?_)
    have L19 : ∀ (n9 : Nat) (x9 : Nat), (x9 ≤ 16) → 16 - x9 < n9 → ∀ (H : Heap) (locs : List Loc) (ls : Array Slot), hM E A s H locs (sA σ j 0 0 (lmF (hA σ j 0 0) a b u9 x9 0)) Z → lv_has ls 8 [(4, .int (nI x9)), (0, .ref (hO E j)), (1, .int (nI a)), (2, .int (nI b)), (3, .int u9)] → W p l e (hRm (0, 0, 0, 0)) s m [.ref (hO E j), .int (nI a), .int (nI b), .int u9].toArray below meth c H locs 0 0 (MQ below (hQv E (fun u => u = (sA σ j 0 0 (lmW (hA σ j 0 0) a b u9), Z)) A) [.ref (hO E j), .int (nI a), .int (nI b), .int u9].toArray s 0 0 A) (F0 m 19 ls []) := by
      intro n9
      induction n9 with
      | zero =>
        intro x9 hx hn9
        exact absurd hn9 (Nat.not_lt_zero _)
      | succ n9 ih19 =>
        intro x9 hx hn19 H locs ls M hl
        refine lv_iload C.1 C.2.1 dX0_limit_19 (lv_at hl 0 rfl) ?_
        refine lv_bipush (v := 16) C.1 C.2.1 dX0_limit_21 (by decide) ?_
        refine lv_icmp_ge (tgt := 133) C.1 C.2.1 dX0_limit_23 (by decide) (fun c_23 => ?_) (fun c_23 => ?_)
        · skip
          have hkn : x9 = 16 := by have := ct_ge (n := 16) (k := x9) c_23; omega
          have hl : lv_has ls 8 [(4, .int (nI 16)), (0, .ref (hO E j)), (1, .int (nI a)), (2, .int (nI b)), (3, .int u9)] := by first | exact hl | (rw [hkn] at hl; exact hl)
          have M : hM E A s H locs (sA σ j 0 0 (lmF (hA σ j 0 0) a b u9 16 0)) Z := by first | exact M | (rw [hkn] at M; exact M)
          refine g_vret C M hr hlk ?_ (Nat.le_of_ble_eq_true rfl) (Nat.le_of_ble_eq_true rfl) dX0_limit_133
          exact (congrArg (fun q => (q, Z)) (by unfold lmW; rw [if_pos c_12]))
        · skip
          have hx1 : x9 < 16 := ct_nge (n := 16) (k := x9) c_23
          refine lv_aload_n C.1 C.2.1 dX0_limit_26 rfl (lv_at hl 1 rfl) ?_
          refine g_getA C M j 0 hj (by rw [hL]; rfl) (by rw [hC]; rfl) (by decide) fl0_9 dX0_limit_27 ?_
          refine lv_iload C.1 C.2.1 dX0_limit_30 (lv_at hl 0 rfl) ?_
          refine lv_bipush (v := 16) C.1 C.2.1 dX0_limit_32 (by decide) ?_
          refine lv_imul C.1 C.2.1 dX0_limit_34 ?_
          refine g_rei (v := nI (x9 * 16)) (pk_mul _ 16) ?_
          refine lv_iload_n C.1 C.2.1 dX0_limit_35 rfl (lv_at hl 2 rfl) ?_
          refine lv_iadd C.1 C.2.1 dX0_limit_36 ?_
          refine g_rei (v := nI ((x9 * 16) + a)) (nI_add _ _) ?_
          refine g_iald C M j 0 hj (by rw [hL]; rfl) ((x9 * 16) + a) (nI_clamp (by omega)) (vp_in_nI (by omega) (by decide)) (v := hA σ j 0 0 (x9 * 16 + a)) (by rw [hA_same]; exact lmF_new (by omega) (by omega)) dX0_limit_37 ?_
          refine lv_istore (lv' := [(5, .int (hA σ j 0 0 (x9 * 16 + a))), (4, .int (nI x9)), (0, .ref (hO E j)), (1, .int (nI a)), (2, .int (nI b)), (3, .int u9)]) C.1 C.2.1 dX0_limit_38 hl (by decide) rfl (fun ls hl => ?_)
          refine lv_iconst (v := 0) C.1 C.2.1 dX0_limit_40 (by decide) ?_
          refine lv_istore (lv' := [(6, .int 0), (5, .int (hA σ j 0 0 (x9 * 16 + a))), (4, .int (nI x9)), (0, .ref (hO E j)), (1, .int (nI a)), (2, .int (nI b)), (3, .int u9)]) C.1 C.2.1 dX0_limit_41 hl (by decide) rfl (fun ls hl => ?_)
          have L43 : ∀ (n9 : Nat) (y9 : Nat), (y9 ≤ 16) → 16 - y9 < n9 → ∀ (H : Heap) (locs : List Loc) (ls : Array Slot), hM E A s H locs (sA σ j 0 0 (lmF (hA σ j 0 0) a b u9 x9 y9)) Z → lv_has ls 8 [(6, .int (nI y9)), (0, .ref (hO E j)), (1, .int (nI a)), (2, .int (nI b)), (3, .int u9), (4, .int (nI x9)), (5, .int (hA σ j 0 0 (x9 * 16 + a)))] → W p l e (hRm (0, 0, 0, 0)) s m [.ref (hO E j), .int (nI a), .int (nI b), .int u9].toArray below meth c H locs 0 0 (MQ below (hQv E (fun u => u = (sA σ j 0 0 (lmW (hA σ j 0 0) a b u9), Z)) A) [.ref (hO E j), .int (nI a), .int (nI b), .int u9].toArray s 0 0 A) (F0 m 43 ls []) := by
            intro n9
            induction n9 with
            | zero =>
              intro y9 hy hn9
              exact absurd hn9 (Nat.not_lt_zero _)
            | succ n9 ih43 =>
              intro y9 hy hn43 H locs ls M hl
              refine lv_iload C.1 C.2.1 dX0_limit_43 (lv_at hl 0 rfl) ?_
              refine lv_bipush (v := 16) C.1 C.2.1 dX0_limit_45 (by decide) ?_
              refine lv_icmp_ge (tgt := 127) C.1 C.2.1 dX0_limit_47 (by decide) (fun c_47 => ?_) (fun c_47 => ?_)
              · skip
                have hkn : y9 = 16 := by have := ct_ge (n := 16) (k := y9) c_47; omega
                have hl : lv_has ls 8 [(6, .int (nI 16)), (0, .ref (hO E j)), (1, .int (nI a)), (2, .int (nI b)), (3, .int u9), (4, .int (nI x9)), (5, .int (hA σ j 0 0 (x9 * 16 + a)))] := by first | exact hl | (rw [hkn] at hl; exact hl)
                have M : hM E A s H locs (sA σ j 0 0 (lmF (hA σ j 0 0) a b u9 x9 16)) Z := by first | exact M | (rw [hkn] at M; exact M)
                refine lv_iinc (v := nI (x9 + 1)) (lv' := [(4, .int (nI (x9 + 1))), (6, .int (nI 16)), (0, .ref (hO E j)), (1, .int (nI a)), (2, .int (nI b)), (3, .int u9), (5, .int (hA σ j 0 0 (x9 * 16 + a)))]) C.1 C.2.1 dX0_limit_127 hl (k := 5) rfl (nI_succ _).symm (by decide) rfl (fun ls hl => ?_)
                refine lv_goto (tgt := 19) C.1 C.2.1 dX0_limit_130 (by decide) ?_
                have q1 : (sA σ j 0 0 (lmF (hA σ j 0 0) a b u9 x9 16)) = (sA σ j 0 0 (lmF (hA σ j 0 0) a b u9 (x9 + 1) 0)) := by first | exact (sA_self σ j 0 0).trans (congrArg _ (lmF_0 _ _ _ _)) | exact congrArg _ (lmF_row _ _ _ _ _) | exact congrArg _ (lmF_skip c_54)
                rw [q1] at M
                exact ih19 (x9 + 1) hx1 (by omega) _ _ _ M (lv_sub hl [0, 2, 3, 4, 5] rfl)
              · skip
                have hy1 : y9 < 16 := ct_nge (n := 16) (k := y9) c_47
                refine lv_iload C.1 C.2.1 dX0_limit_50 (lv_at hl 6 rfl) ?_
                refine lv_ldc (v := 2147483647) C.1 C.2.1 C.2.2.2.1 (C.2.2.2.2.1.1.use kc0_15 rfl) dX0_limit_52 ?_
                refine lv_icmp_eq (tgt := 127) C.1 C.2.1 dX0_limit_54 (by decide) (fun c_54 => ?_) (fun c_54 => ?_)
                · skip
                  refine lv_iinc (v := nI (x9 + 1)) (lv' := [(4, .int (nI (x9 + 1))), (6, .int (nI y9)), (0, .ref (hO E j)), (1, .int (nI a)), (2, .int (nI b)), (3, .int u9), (5, .int (hA σ j 0 0 (x9 * 16 + a)))]) C.1 C.2.1 dX0_limit_127 hl (k := 5) rfl (nI_succ _).symm (by decide) rfl (fun ls hl => ?_)
                  refine lv_goto (tgt := 19) C.1 C.2.1 dX0_limit_130 (by decide) ?_
                  have q2 : (sA σ j 0 0 (lmF (hA σ j 0 0) a b u9 x9 y9)) = (sA σ j 0 0 (lmF (hA σ j 0 0) a b u9 (x9 + 1) 0)) := by first | exact (sA_self σ j 0 0).trans (congrArg _ (lmF_0 _ _ _ _)) | exact congrArg _ (lmF_row _ _ _ _ _) | exact congrArg _ (lmF_skip c_54)
                  rw [q2] at M
                  exact ih19 (x9 + 1) hx1 (by omega) _ _ _ M (lv_sub hl [0, 2, 3, 4, 5] rfl)
                · skip
                  refine lv_aload_n C.1 C.2.1 dX0_limit_57 rfl (lv_at hl 1 rfl) ?_
                  refine g_getA C M j 0 hj (by rw [hL]; rfl) (by rw [hC]; rfl) (by decide) fl0_9 dX0_limit_58 ?_
                  refine lv_iload_n C.1 C.2.1 dX0_limit_61 rfl (lv_at hl 3 rfl) ?_
                  refine lv_bipush (v := 16) C.1 C.2.1 dX0_limit_62 (by decide) ?_
                  refine lv_imul C.1 C.2.1 dX0_limit_64 ?_
                  refine g_rei (v := nI (b * 16)) (pk_mul _ 16) ?_
                  refine lv_iload C.1 C.2.1 dX0_limit_65 (lv_at hl 0 rfl) ?_
                  refine lv_iadd C.1 C.2.1 dX0_limit_67 ?_
                  refine g_rei (v := nI ((b * 16) + y9)) (nI_add _ _) ?_
                  refine g_iald C M j 0 hj (by rw [hL]; rfl) ((b * 16) + y9) (nI_clamp (by omega)) (vp_in_nI (by omega) (by decide)) (v := hA σ j 0 0 (b * 16 + y9)) (by rw [hA_same]; exact lmF_b hB ha hb (by omega) hu hc) dX0_limit_68 ?_
                  refine lv_istore (lv' := [(7, .int (hA σ j 0 0 (b * 16 + y9))), (6, .int (nI y9)), (0, .ref (hO E j)), (1, .int (nI a)), (2, .int (nI b)), (3, .int u9), (4, .int (nI x9)), (5, .int (hA σ j 0 0 (x9 * 16 + a)))]) C.1 C.2.1 dX0_limit_69 hl (by decide) rfl (fun ls hl => ?_)
                  refine lv_iload C.1 C.2.1 dX0_limit_71 (lv_at hl 0 rfl) ?_
                  refine lv_ldc (v := 2147483647) C.1 C.2.1 C.2.2.2.1 (C.2.2.2.2.1.1.use kc0_15 rfl) dX0_limit_73 ?_
                  refine lv_icmp_eq (tgt := 121) C.1 C.2.1 dX0_limit_75 (by decide) (fun c_75 => ?_) (fun c_75 => ?_)
                  · skip
                    refine lv_iinc (v := nI (y9 + 1)) (lv' := [(6, .int (nI (y9 + 1))), (7, .int (hA σ j 0 0 (b * 16 + y9))), (0, .ref (hO E j)), (1, .int (nI a)), (2, .int (nI b)), (3, .int u9), (4, .int (nI x9)), (5, .int (hA σ j 0 0 (x9 * 16 + a)))]) C.1 C.2.1 dX0_limit_121 hl (k := 1) rfl (nI_succ _).symm (by decide) rfl (fun ls hl => ?_)
                    refine lv_goto (tgt := 43) C.1 C.2.1 dX0_limit_124 (by decide) ?_
                    have hnw : lmV (hA σ j 0 0) a b u9 x9 y9 = hA σ j 0 0 (x9 * 16 + y9) := if_neg (fun q => by first | exact q.2.1 c_75 | exact (Int32.not_lt.mpr c_98) q.2.2)
                    have q3 : (sA σ j 0 0 (lmF (hA σ j 0 0) a b u9 x9 y9)) = (sA σ j 0 0 (lmF (hA σ j 0 0) a b u9 x9 (y9 + 1))) := by first | (rw [sA_sA]; exact congrArg _ (by rw [← hnw]; exact lmF_put hx1 hy1)) | exact congrArg _ (lmF_keep hx1 hy1 hnw)
                    rw [q3] at M
                    exact ih43 (y9 + 1) hy1 (by omega) _ _ _ M (lv_sub hl [0, 2, 3, 4, 5, 6, 7] rfl)
                  · skip
                    refine lv_iload C.1 C.2.1 dX0_limit_78 (lv_at hl 7 rfl) ?_
                    refine lv_iload_n C.1 C.2.1 dX0_limit_80 rfl (lv_at hl 5 rfl) ?_
                    refine lv_iadd C.1 C.2.1 dX0_limit_81 ?_
                    refine lv_iload C.1 C.2.1 dX0_limit_82 (lv_at hl 0 rfl) ?_
                    refine lv_iadd C.1 C.2.1 dX0_limit_84 ?_
                    refine lv_aload_n C.1 C.2.1 dX0_limit_85 rfl (lv_at hl 2 rfl) ?_
                    refine g_getA C M j 0 hj (by rw [hL]; rfl) (by rw [hC]; rfl) (by decide) fl0_9 dX0_limit_86 ?_
                    refine lv_iload C.1 C.2.1 dX0_limit_89 (lv_at hl 6 rfl) ?_
                    refine lv_bipush (v := 16) C.1 C.2.1 dX0_limit_91 (by decide) ?_
                    refine lv_imul C.1 C.2.1 dX0_limit_93 ?_
                    refine g_rei (v := nI (x9 * 16)) (pk_mul _ 16) ?_
                    refine lv_iload C.1 C.2.1 dX0_limit_94 (lv_at hl 1 rfl) ?_
                    refine lv_iadd C.1 C.2.1 dX0_limit_96 ?_
                    refine g_rei (v := nI ((x9 * 16) + y9)) (nI_add _ _) ?_
                    refine g_iald C M j 0 hj (by rw [hL]; rfl) ((x9 * 16) + y9) (nI_clamp (by omega)) (vp_in_nI (by omega) (by decide)) (v := hA σ j 0 0 (x9 * 16 + y9)) (by rw [hA_same]; exact lmF_new (by omega) (by omega)) dX0_limit_97 ?_
                    refine lv_icmp_ge (tgt := 121) C.1 C.2.1 dX0_limit_98 (by decide) (fun c_98 => ?_) (fun c_98 => ?_)
                    · skip
                      refine lv_iinc (v := nI (y9 + 1)) (lv' := [(6, .int (nI (y9 + 1))), (7, .int (hA σ j 0 0 (b * 16 + y9))), (0, .ref (hO E j)), (1, .int (nI a)), (2, .int (nI b)), (3, .int u9), (4, .int (nI x9)), (5, .int (hA σ j 0 0 (x9 * 16 + a)))]) C.1 C.2.1 dX0_limit_121 hl (k := 1) rfl (nI_succ _).symm (by decide) rfl (fun ls hl => ?_)
                      refine lv_goto (tgt := 43) C.1 C.2.1 dX0_limit_124 (by decide) ?_
                      have hnw : lmV (hA σ j 0 0) a b u9 x9 y9 = hA σ j 0 0 (x9 * 16 + y9) := if_neg (fun q => by first | exact q.2.1 c_75 | exact (Int32.not_lt.mpr c_98) q.2.2)
                      have q4 : (sA σ j 0 0 (lmF (hA σ j 0 0) a b u9 x9 y9)) = (sA σ j 0 0 (lmF (hA σ j 0 0) a b u9 x9 (y9 + 1))) := by first | (rw [sA_sA]; exact congrArg _ (by rw [← hnw]; exact lmF_put hx1 hy1)) | exact congrArg _ (lmF_keep hx1 hy1 hnw)
                      rw [q4] at M
                      exact ih43 (y9 + 1) hy1 (by omega) _ _ _ M (lv_sub hl [0, 2, 3, 4, 5, 6, 7] rfl)
                    · skip
                      refine lv_aload_n C.1 C.2.1 dX0_limit_101 rfl (lv_at hl 2 rfl) ?_
                      refine g_getA C M j 0 hj (by rw [hL]; rfl) (by rw [hC]; rfl) (by decide) fl0_9 dX0_limit_102 ?_
                      refine lv_iload C.1 C.2.1 dX0_limit_105 (lv_at hl 6 rfl) ?_
                      refine lv_bipush (v := 16) C.1 C.2.1 dX0_limit_107 (by decide) ?_
                      refine lv_imul C.1 C.2.1 dX0_limit_109 ?_
                      refine g_rei (v := nI (x9 * 16)) (pk_mul _ 16) ?_
                      refine lv_iload C.1 C.2.1 dX0_limit_110 (lv_at hl 1 rfl) ?_
                      refine lv_iadd C.1 C.2.1 dX0_limit_112 ?_
                      refine g_rei (v := nI ((x9 * 16) + y9)) (nI_add _ _) ?_
                      refine lv_iload C.1 C.2.1 dX0_limit_113 (lv_at hl 7 rfl) ?_
                      refine lv_iload_n C.1 C.2.1 dX0_limit_115 rfl (lv_at hl 5 rfl) ?_
                      refine lv_iadd C.1 C.2.1 dX0_limit_116 ?_
                      refine lv_iload C.1 C.2.1 dX0_limit_117 (lv_at hl 0 rfl) ?_
                      refine lv_iadd C.1 C.2.1 dX0_limit_119 ?_
                      refine g_iast C M j 0 hj (by rw [hL]; rfl) ((x9 * 16) + y9) (nI_clamp (by omega)) (vp_in_nI (by omega) (by decide)) dX0_limit_120 (fun H locs M => ?_)
                      have M : hM E A s H locs (sA (sA σ j 0 0 (lmF (hA σ j 0 0) a b u9 x9 y9)) j 0 0 (upd (lmF (hA σ j 0 0) a b u9 x9 y9) ((x9 * 16) + y9) (((hA σ j 0 0 (x9 * 16 + a)) + u9) + (hA σ j 0 0 (b * 16 + y9))))) Z := by rw [hA_same] at M; exact M
                      refine lv_iinc (v := nI (y9 + 1)) (lv' := [(6, .int (nI (y9 + 1))), (7, .int (hA σ j 0 0 (b * 16 + y9))), (0, .ref (hO E j)), (1, .int (nI a)), (2, .int (nI b)), (3, .int u9), (4, .int (nI x9)), (5, .int (hA σ j 0 0 (x9 * 16 + a)))]) C.1 C.2.1 dX0_limit_121 hl (k := 1) rfl (nI_succ _).symm (by decide) rfl (fun ls hl => ?_)
                      refine lv_goto (tgt := 43) C.1 C.2.1 dX0_limit_124 (by decide) ?_
                      have hnw : lmV (hA σ j 0 0) a b u9 x9 y9 = hA σ j 0 0 (x9 * 16 + a) + u9 + hA σ j 0 0 (b * 16 + y9) := if_pos ⟨c_54, c_75, Int32.not_le.mp c_98⟩
                      have q5 : (sA (sA σ j 0 0 (lmF (hA σ j 0 0) a b u9 x9 y9)) j 0 0 (upd (lmF (hA σ j 0 0) a b u9 x9 y9) ((x9 * 16) + y9) (((hA σ j 0 0 (x9 * 16 + a)) + u9) + (hA σ j 0 0 (b * 16 + y9))))) = (sA σ j 0 0 (lmF (hA σ j 0 0) a b u9 x9 (y9 + 1))) := by first | (rw [sA_sA]; exact congrArg _ (by rw [← hnw]; exact lmF_put hx1 hy1)) | exact congrArg _ (lmF_keep hx1 hy1 hnw)
                      rw [q5] at M
                      exact ih43 (y9 + 1) hy1 (by omega) _ _ _ M (lv_sub hl [0, 2, 3, 4, 5, 6, 7] rfl)
          have q6 : 0 = nI 0 := by rfl
          have hl : lv_has ls 8 [(6, .int (nI 0)), (0, .ref (hO E j)), (1, .int (nI a)), (2, .int (nI b)), (3, .int u9), (4, .int (nI x9)), (5, .int (hA σ j 0 0 (x9 * 16 + a)))] := by
            rw [← q6]
            exact lv_sub hl [0, 3, 4, 5, 6, 2, 1] rfl
          exact L43 ((16 - 0) + 1) 0 (Nat.zero_le _) (Nat.lt_succ_self _) _ _ _ M hl
    have q7 : 0 = nI 0 := by rfl
    have hl : lv_has ls 8 [(4, .int (nI 0)), (0, .ref (hO E j)), (1, .int (nI a)), (2, .int (nI b)), (3, .int u9)] := by
      rw [← q7]
      exact lv_sub hl [0, 1, 2, 3, 4] rfl
    have q8 : σ = (sA σ j 0 0 (lmF (hA σ j 0 0) a b u9 0 0)) := by first | exact (sA_self σ j 0 0).trans (congrArg _ (lmF_0 _ _ _ _)) | exact congrArg _ (lmF_row _ _ _ _ _) | exact congrArg _ (lmF_skip c_54)
    rw [q8] at M
    exact L19 ((16 - 0) + 1) 0 (Nat.zero_le _) (Nat.lt_succ_self _) _ _ _ M hl
  · skip
    refine g_vret C M hr hlk ?_ (Nat.le_of_ble_eq_true rfl) (Nat.le_of_ble_eq_true rfl) dX0_limit_15
    exact (congrArg (fun q => (q, Z)) (by unfold lmW; rw [if_neg c_12]; exact sA_self σ j 0 0))

set_option maxHeartbeats 4000000 in
set_option maxRecDepth 100000 in
theorem x_bnarrow (l : Launch) (E : hEnv) (σ : hMem) (Z : va_W) (j : Nat) (hj : j < 44) (hL : hLay j = layBounds) (hC : hCi j = 0) (a b : Nat) (ha : a < 16) (hb : b < 16) (hab : a ≠ b) (l9 h9 : Int32) (Ed : Nat → Nat → Int → Prop) (hE : EdIn Ed) (hs : Seed Ed) (hX : PT Ed 16 (cX (hA σ j 0 0))) (hlo : -10000 ≤ l9.toInt) (hlh : l9.toInt ≤ h9.toInt) (hhi : h9.toInt ≤ 10000) : hMet l yX0_narrow cX0_narrow 5 (some .boolean) (1, 0, 0, 27) E σ Z [.ref (hO E j), .int (nI a), .int (nI b), .int l9, .int h9] (hQi E (fun r u => (r = 1 ∧ ∃ f, u = (sA σ j 0 0 f, Z) ∧ PT (EdS Ed a b l9.toInt h9.toInt) 16 (cX f)) ∨ (r = 0 ∧ u = (σ, Z) ∧ ¬ NoNeg (EdS Ed a b l9.toInt h9.toInt)))) := by
  refine hMet.of (by decide) (Nat.le_of_ble_eq_true rfl) (fun p e s m below meth c A ls C M hr hlk hl => ?_)
  have hl : lv_has ls 5 [(0, .ref (hO E j)), (1, .int (nI a)), (2, .int (nI b)), (3, .int l9), (4, .int h9)] := hl
  generalize s.heap = H at M ⊢
  generalize ([] : List Loc) = locs at M ⊢
  have hB := cBd_of hE hs hX
  have hh : -10000 ≤ h9.toInt ∧ h9.toInt ≤ 10000 := ⟨by omega, hhi⟩
  have ho := open_toInt
  have hng : ∀ v : Int32, (v = 2147483647 ∨ (-655360000 ≤ v.toInt ∧ v.toInt ≤ 655360000)) → (-v).toInt = -(v.toInt) := fun v hv => by
    rw [Int32.toInt_neg]
    rcases hv with hv | hv
    · rw [hv]; rfl
    · exact Int.bmod_eq_of_le (by omega) (by omega)
  refine lv_iload_n C.1 C.2.1 dX0_narrow_0 rfl (lv_at hl 3 rfl) ?_
  refine lv_aload_n C.1 C.2.1 dX0_narrow_1 rfl (lv_at hl 0 rfl) ?_
  refine g_getA C M j 0 hj (by rw [hL]; rfl) (by rw [hC]; rfl) (by decide) fl0_9 dX0_narrow_2 ?_
  refine lv_iload_n C.1 C.2.1 dX0_narrow_5 rfl (lv_at hl 1 rfl) ?_
  refine lv_bipush (v := 16) C.1 C.2.1 dX0_narrow_6 (by decide) ?_
  refine lv_imul C.1 C.2.1 dX0_narrow_8 ?_
  refine g_rei (v := nI (a * 16)) (pk_mul _ 16) ?_
  refine lv_iload_n C.1 C.2.1 dX0_narrow_9 rfl (lv_at hl 2 rfl) ?_
  refine lv_iadd C.1 C.2.1 dX0_narrow_10 ?_
  refine g_rei (v := nI ((a * 16) + b)) (nI_add _ _) ?_
  refine g_iald C M j 0 hj (by rw [hL]; rfl) ((a * 16) + b) (nI_clamp (by omega)) (vp_in_nI (by omega) (by decide)) (v := hA σ j 0 0 ((a * 16) + b)) rfl dX0_narrow_11 ?_
  refine lv_icmp_gt (tgt := 32) C.1 C.2.1 dX0_narrow_12 (by decide) (fun c_12 => ?_) (fun c_12 => ?_)
  · skip
    refine lv_iconst (v := 0) C.1 C.2.1 dX0_narrow_32 (by decide) ?_
    refine g_zret rfl C M hr hlk ?_ (Nat.le_of_ble_eq_true rfl) (Nat.le_of_ble_eq_true rfl) dX0_narrow_33
    refine Or.inr ⟨rfl, rfl, ?_⟩; exact nar_no1 hX ha hb (cE_some.mpr ⟨fun q => by rw [q, Int32.lt_iff_toInt_lt, ho] at c_12; omega, rfl⟩) (by rw [Int32.lt_iff_toInt_lt] at c_12; exact c_12)
  · skip
    refine lv_iload C.1 C.2.1 dX0_narrow_15 (lv_at hl 4 rfl) ?_
    refine lv_aload_n C.1 C.2.1 dX0_narrow_17 rfl (lv_at hl 0 rfl) ?_
    refine g_getA C M j 0 hj (by rw [hL]; rfl) (by rw [hC]; rfl) (by decide) fl0_9 dX0_narrow_18 ?_
    refine lv_iload_n C.1 C.2.1 dX0_narrow_21 rfl (lv_at hl 2 rfl) ?_
    refine lv_bipush (v := 16) C.1 C.2.1 dX0_narrow_22 (by decide) ?_
    refine lv_imul C.1 C.2.1 dX0_narrow_24 ?_
    refine g_rei (v := nI (b * 16)) (pk_mul _ 16) ?_
    refine lv_iload_n C.1 C.2.1 dX0_narrow_25 rfl (lv_at hl 1 rfl) ?_
    refine lv_iadd C.1 C.2.1 dX0_narrow_26 ?_
    refine g_rei (v := nI ((b * 16) + a)) (nI_add _ _) ?_
    refine g_iald C M j 0 hj (by rw [hL]; rfl) ((b * 16) + a) (nI_clamp (by omega)) (vp_in_nI (by omega) (by decide)) (v := hA σ j 0 0 ((b * 16) + a)) rfl dX0_narrow_27 ?_
    refine lv_ineg C.1 C.2.1 dX0_narrow_28 ?_
    refine lv_icmp_ge (tgt := 34) C.1 C.2.1 dX0_narrow_29 (by decide) (fun c_29 => ?_) (fun c_29 => ?_)
    · skip
      have hab1 : ∀ v, cX (hA σ j 0 0) a b = some v → l9.toInt ≤ v := fun v hv => by
        have h1 := cE_some.mp (show cE (hA σ j 0 0 (a * 16 + b)) = some v from hv)
        rw [Int32.lt_iff_toInt_lt, h1.2] at c_12
        omega
      have hc2 : ∀ v, cX (hA σ j 0 0) b a = some v → 0 ≤ v + h9.toInt := fun v hv => by
        have h1 := cE_some.mp (show cE (hA σ j 0 0 (b * 16 + a)) = some v from hv)
        rw [Int32.le_iff_toInt_le, hng _ (hB b a hb ha), h1.2] at c_29
        omega
      have hnl : -10000 ≤ (-l9).toInt ∧ (-l9).toInt ≤ 10000 := by rw [hng _ (Or.inr ⟨by omega, by omega⟩)]; omega
      have hen : (-l9).toInt = -(l9.toInt) := hng _ (Or.inr ⟨by omega, by omega⟩)
      have hp1 := lmW_pt hE hX hB ha hb hh hc2
      have hE1 : EdIn (EdP Ed a b h9.toInt) := fun x y w hw => by rcases hw with hw | ⟨rfl, rfl, _⟩; exact hE x y w hw; exact ⟨ha, hb⟩
      have hB2 : cBd (lmW (hA σ j 0 0) a b h9) := cBd_of hE1 (hs.edge ha hb hab hh) hp1
      have hmid : ∀ v, cX (lmW (hA σ j 0 0) a b h9) a b = some v → 0 ≤ v + (-l9).toInt := by rw [hen]; exact nar_mid hX hB ha hb hh hlh hab1
      have hp2 := lmW_pt hE1 hp1 hB2 hb ha hnl hmid
      rw [hen] at hp2
      refine lv_aload_n C.1 C.2.1 dX0_narrow_34 rfl (lv_at hl 0 rfl) ?_
      refine lv_iload_n C.1 C.2.1 dX0_narrow_35 rfl (lv_at hl 1 rfl) ?_
      refine lv_iload_n C.1 C.2.1 dX0_narrow_36 rfl (lv_at hl 2 rfl) ?_
      refine lv_iload C.1 C.2.1 dX0_narrow_37 (lv_at hl 4 rfl) ?_
      refine g_callv M (g_runV (As := [.int (nI a), .int (nI b), .int h9]) (rest := []) C M j (x_blimit l E σ Z j hj hL hC a b ha hb h9 hB hh hc2) clX0_limit ivX0_limit lk0_23 hj (by rw [hC]; rfl) rfl ⟨Nat.le_of_ble_eq_true rfl, Nat.le_of_ble_eq_true rfl⟩ hl.1 rfl (Nat.le_of_ble_eq_true rfl) dX0_narrow_39 ⟨Nat.le_of_ble_eq_true rfl, Nat.le_of_ble_eq_true rfl⟩) (fun u H locs hR M => ?_)
      refine W.widen (k := 0) (n := 0) (Nat.le_of_ble_eq_true rfl) (Nat.le_of_ble_eq_true rfl) ?_
      subst hR
      have M : hM E A s H locs (sA σ j 0 0 (lmW (hA σ j 0 0) a b h9)) Z := M
      refine lv_aload_n C.1 C.2.1 dX0_narrow_42 rfl (lv_at hl 0 rfl) ?_
      refine lv_iload_n C.1 C.2.1 dX0_narrow_43 rfl (lv_at hl 2 rfl) ?_
      refine lv_iload_n C.1 C.2.1 dX0_narrow_44 rfl (lv_at hl 1 rfl) ?_
      refine lv_iload_n C.1 C.2.1 dX0_narrow_45 rfl (lv_at hl 3 rfl) ?_
      refine lv_ineg C.1 C.2.1 dX0_narrow_46 ?_
      refine g_callv M (g_runV (As := [.int (nI b), .int (nI a), .int (-l9)]) (rest := []) C M j (x_blimit l E (sA σ j 0 0 (lmW (hA σ j 0 0) a b h9)) Z j hj hL hC b a hb ha (-l9) (by rw [hA_same]; exact hB2) hnl (by rw [hA_same]; exact hmid)) clX0_limit ivX0_limit lk0_23 hj (by rw [hC]; rfl) rfl ⟨Nat.le_of_ble_eq_true rfl, Nat.le_of_ble_eq_true rfl⟩ hl.1 rfl (Nat.le_of_ble_eq_true rfl) dX0_narrow_47 ⟨Nat.le_of_ble_eq_true rfl, Nat.le_of_ble_eq_true rfl⟩) (fun u H locs hR M => ?_)
      refine W.widen (k := 0) (n := 0) (Nat.le_of_ble_eq_true rfl) (Nat.le_of_ble_eq_true rfl) ?_
      subst hR
      have M : hM E A s H locs (sA σ j 0 0 (lmW (lmW (hA σ j 0 0) a b h9) b a (-l9))) Z := by rw [hA_same, sA_sA] at M; exact M
      refine lv_iconst (v := 1) C.1 C.2.1 dX0_narrow_50 (by decide) ?_
      refine g_zret rfl C M hr hlk ?_ (Nat.le_of_ble_eq_true rfl) (Nat.le_of_ble_eq_true rfl) dX0_narrow_51
      exact Or.inl ⟨rfl, _, rfl, hp2⟩
    · skip
      refine lv_iconst (v := 0) C.1 C.2.1 dX0_narrow_32 (by decide) ?_
      refine g_zret rfl C M hr hlk ?_ (Nat.le_of_ble_eq_true rfl) (Nat.le_of_ble_eq_true rfl) dX0_narrow_33
      refine Or.inr ⟨rfl, rfl, ?_⟩; rw [Int32.le_iff_toInt_le, hng _ (hB b a hb ha)] at c_29; exact nar_no2 hX ha hb (cE_some.mpr ⟨fun q => by rw [q, ho] at c_29; omega, rfl⟩) (by omega)
