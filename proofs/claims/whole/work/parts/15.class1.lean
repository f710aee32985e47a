set_option maxHeartbeats 4000000 in
set_option maxRecDepth 100000 in
theorem x_within (l : Launch) (E : hEnv) (σ : hMem) (Z : va_W) (v low high : Int32) : hMet l yX11_isWithin cX11_isWithin 3 (some .boolean) (0, 0, 0, 0) E σ Z [.int v, .int low, .int high] (hQi E (fun r u => r = bz (inB v low high = true) ∧ u = (σ, Z))) := by
  refine hMet.of (by decide) (Nat.le_of_ble_eq_true rfl) (fun p e s m below meth c A ls C M hr hlk hl => ?_)
  have hl : lv_has ls 3 [(0, .int v), (1, .int low), (2, .int high)] := hl
  refine lv_iload_n C.1 C.2.1 dX11_isWithin_0 rfl (lv_at hl 0 rfl) ?_
  refine lv_iload_n C.1 C.2.1 dX11_isWithin_1 rfl (lv_at hl 1 rfl) ?_
  have J2 : ∀ (v1 : Int32) (ev1 : v1 = bz ((¬ v < low) ∧ (¬ high < v))) (H : Heap) (locs : List Loc) (ls : Array Slot), hM E A s H locs σ Z → lv_has ls 3 [(0, .int v), (1, .int low), (2, .int high)] → W p l e (hRm (0, 0, 0, 0)) s m [.int v, .int low, .int high].toArray below meth c H locs 0 0 (MQ below (hQi E (fun r u => r = bz (inB v low high = true) ∧ u = (σ, Z)) A) [.int v, .int low, .int high].toArray s 0 0 A) (F0 m 15 ls [.int v1]) := by
    intro v1 ev1 H locs ls M hl
    subst ev1
    refine g_zret bz_nar C M hr hlk ?_ (Nat.le_of_ble_eq_true rfl) (Nat.le_of_ble_eq_true rfl) dX11_isWithin_15
    exact ⟨bz_congr inB_iff.symm, rfl⟩
  refine lv_icmp_lt (tgt := 14) C.1 C.2.1 dX11_isWithin_2 (by decide) (fun c_2 => ?_) (fun c_2 => ?_)
  · skip
    refine lv_iconst (v := 0) C.1 C.2.1 dX11_isWithin_14 (by decide) ?_
    exact J2 _ (by first | (simp only [bz, c_2, not_false_eq_true, not_true_eq_false, and_self, and_true, true_and, and_false, false_and, or_true, true_or, or_false, false_or, Bool.false_eq_true, if_true, if_false, ↓reduceIte]; done) | simp [bz, c_2]) _ _ _ M (lv_sub hl [0, 1, 2] rfl)
  · skip
    refine lv_iload_n C.1 C.2.1 dX11_isWithin_5 rfl (lv_at hl 0 rfl) ?_
    refine lv_iload_n C.1 C.2.1 dX11_isWithin_6 rfl (lv_at hl 2 rfl) ?_
    refine lv_icmp_gt (tgt := 14) C.1 C.2.1 dX11_isWithin_7 (by decide) (fun c_7 => ?_) (fun c_7 => ?_)
    · skip
      refine lv_iconst (v := 0) C.1 C.2.1 dX11_isWithin_14 (by decide) ?_
      exact J2 _ (by first | (simp only [bz, c_2, c_7, not_false_eq_true, not_true_eq_false, and_self, and_true, true_and, and_false, false_and, or_true, true_or, or_false, false_or, Bool.false_eq_true, if_true, if_false, ↓reduceIte]; done) | simp [bz, c_2, c_7]) _ _ _ M (lv_sub hl [0, 1, 2] rfl)
    · skip
      refine lv_iconst (v := 1) C.1 C.2.1 dX11_isWithin_10 (by decide) ?_
      refine lv_goto (tgt := 15) C.1 C.2.1 dX11_isWithin_11 (by decide) ?_
      exact J2 _ (by first | (simp only [bz, c_2, c_7, not_false_eq_true, not_true_eq_false, and_self, and_true, true_and, and_false, false_and, or_true, true_or, or_false, false_or, Bool.false_eq_true, if_true, if_false, ↓reduceIte]; done) | simp [bz, c_2, c_7]) _ _ _ M (lv_sub hl [0, 1, 2] rfl)

set_option maxHeartbeats 4000000 in
set_option maxRecDepth 100000 in
theorem x_isDay (l : Launch) (E : hEnv) (σ : hMem) (Z : va_W) (v : Int32) : hMet l yX11_isDay cX11_isDay 1 (some .boolean) (1, 0, 0, 22) E σ Z [.int v] (hQi E (fun r u => r = bz (inB v 0 5000 = true) ∧ u = (σ, Z))) := by
  refine hMet.of (by decide) (Nat.le_of_ble_eq_true rfl) (fun p e s m below meth c A ls C M hr hlk hl => ?_)
  have hl : lv_has ls 1 [(0, .int v)] := hl
  refine lv_iload_n C.1 C.2.1 dX11_isDay_0 rfl (lv_at hl 0 rfl) ?_
  refine lv_iconst (v := 0) C.1 C.2.1 dX11_isDay_1 (by decide) ?_
  refine lv_sipush (v := 5000) C.1 C.2.1 dX11_isDay_2 (by decide) ?_
  refine g_calli M (g_runS (As := [.int v, .int 0, .int 5000]) (rest := []) C M (x_within l E σ Z v 0 5000) clX11_isWithin stX11_isWithin lk11_78 rfl ⟨Nat.le_of_ble_eq_true rfl, Nat.le_of_ble_eq_true rfl⟩ hl.1 rfl (Nat.le_of_ble_eq_true rfl) dX11_isDay_5 ⟨Nat.le_of_ble_eq_true rfl, Nat.le_of_ble_eq_true rfl⟩) (fun r1 u H locs hR M => ?_)
  refine W.widen (k := 0) (n := 0) (Nat.le_of_ble_eq_true rfl) (Nat.le_of_ble_eq_true rfl) ?_
  obtain ⟨rfl, rfl⟩ := hR
  have M : hM E A s H locs σ Z := M
  refine g_zret bz_nar C M hr hlk ?_ (Nat.le_of_ble_eq_true rfl) (Nat.le_of_ble_eq_true rfl) dX11_isDay_8
  exact ⟨rfl, rfl⟩

set_option maxHeartbeats 4000000 in
set_option maxRecDepth 100000 in
theorem x_isThing (l : Launch) (E : hEnv) (σ : hMem) (Z : va_W) (v : Int32) : hMet l yX11_isThing cX11_isThing 1 (some .boolean) (1, 0, 0, 22) E σ Z [.int v] (hQi E (fun r u => r = bz (inB v 0 15 = true) ∧ u = (σ, Z))) := by
  refine hMet.of (by decide) (Nat.le_of_ble_eq_true rfl) (fun p e s m below meth c A ls C M hr hlk hl => ?_)
  have hl : lv_has ls 1 [(0, .int v)] := hl
  refine lv_iload_n C.1 C.2.1 dX11_isThing_0 rfl (lv_at hl 0 rfl) ?_
  refine lv_iconst (v := 0) C.1 C.2.1 dX11_isThing_1 (by decide) ?_
  refine lv_bipush (v := 15) C.1 C.2.1 dX11_isThing_2 (by decide) ?_
  refine g_calli M (g_runS (As := [.int v, .int 0, .int 15]) (rest := []) C M (x_within l E σ Z v 0 15) clX11_isWithin stX11_isWithin lk11_78 rfl ⟨Nat.le_of_ble_eq_true rfl, Nat.le_of_ble_eq_true rfl⟩ hl.1 rfl (Nat.le_of_ble_eq_true rfl) dX11_isThing_4 ⟨Nat.le_of_ble_eq_true rfl, Nat.le_of_ble_eq_true rfl⟩) (fun r1 u H locs hR M => ?_)
  refine W.widen (k := 0) (n := 0) (Nat.le_of_ble_eq_true rfl) (Nat.le_of_ble_eq_true rfl) ?_
  obtain ⟨rfl, rfl⟩ := hR
  have M : hM E A s H locs σ Z := M
  refine g_zret bz_nar C M hr hlk ?_ (Nat.le_of_ble_eq_true rfl) (Nat.le_of_ble_eq_true rfl) dX11_isThing_7
  exact ⟨rfl, rfl⟩

set_option maxHeartbeats 4000000 in
set_option maxRecDepth 100000 in
theorem x_isGood (l : Launch) (E : hEnv) (σ : hMem) (Z : va_W) (v : Int32) : hMet l yX11_isGood cX11_isGood 1 (some .boolean) (1, 0, 0, 22) E σ Z [.int v] (hQi E (fun r u => r = bz (inB v 0 9 = true) ∧ u = (σ, Z))) := by
  refine hMet.of (by decide) (Nat.le_of_ble_eq_true rfl) (fun p e s m below meth c A ls C M hr hlk hl => ?_)
  have hl : lv_has ls 1 [(0, .int v)] := hl
  refine lv_iload_n C.1 C.2.1 dX11_isGood_0 rfl (lv_at hl 0 rfl) ?_
  refine lv_iconst (v := 0) C.1 C.2.1 dX11_isGood_1 (by decide) ?_
  refine lv_bipush (v := 9) C.1 C.2.1 dX11_isGood_2 (by decide) ?_
  refine g_calli M (g_runS (As := [.int v, .int 0, .int 9]) (rest := []) C M (x_within l E σ Z v 0 9) clX11_isWithin stX11_isWithin lk11_78 rfl ⟨Nat.le_of_ble_eq_true rfl, Nat.le_of_ble_eq_true rfl⟩ hl.1 rfl (Nat.le_of_ble_eq_true rfl) dX11_isGood_4 ⟨Nat.le_of_ble_eq_true rfl, Nat.le_of_ble_eq_true rfl⟩) (fun r1 u H locs hR M => ?_)
  refine W.widen (k := 0) (n := 0) (Nat.le_of_ble_eq_true rfl) (Nat.le_of_ble_eq_true rfl) ?_
  obtain ⟨rfl, rfl⟩ := hR
  have M : hM E A s H locs σ Z := M
  refine g_zret bz_nar C M hr hlk ?_ (Nat.le_of_ble_eq_true rfl) (Nat.le_of_ble_eq_true rfl) dX11_isGood_7
  exact ⟨rfl, rfl⟩

set_option maxHeartbeats 4000000 in
set_option maxRecDepth 100000 in
theorem x_fill (l : Launch) (E : hEnv) (σ : hMem) (Z : va_W) (j kk n b : Nat) (hj : j < 44) (hly : (hLay j)[kk]? = some (3, 0, n, b)) (hn : n < 2 ^ 31) (v : Int32) : hMet l yJ7_fill_53178 cJ7_fill_53178 4 none (0, 0, 0, 0) E σ Z [.ref (hR E j kk 0), .int v] (hQv E (fun u => u = (sA σ j kk 0 (pre (fun _ => v) (hA σ j kk 0) n), Z))) := by
  refine hMet.of (by decide) (Nat.le_of_ble_eq_true rfl) (fun p e s m below meth c A ls C M hr hlk hl => ?_)
  have hl : lv_has ls 4 [(0, .ref (hR E j kk 0)), (1, .int v)] := hl
  refine lv_iconst (v := 0) C.1 C.2.1 dJ7_fill_53178_0 (by decide) ?_
  refine lv_istore_n (lv' := [(2, .int 0), (0, .ref (hR E j kk 0)), (1, .int v)]) C.1 C.2.1 dJ7_fill_53178_1 rfl hl (by decide) rfl (fun ls hl => ?_)
  refine lv_aload_n C.1 C.2.1 dJ7_fill_53178_2 rfl (lv_at hl 1 rfl) ?_
  refine g_alen C M j kk hj hly (by decide) dJ7_fill_53178_3 ?_
  refine lv_istore_n (lv' := [(3, .int (nI n)), (2, .int 0), (0, .ref (hR E j kk 0)), (1, .int v)]) C.1 C.2.1 dJ7_fill_53178_4 rfl hl (by decide) rfl (fun ls hl => ?_)
  have L5 : ∀ (n9 : Nat) (k : Nat), (k ≤ n) → n - k < n9 → ∀ (H : Heap) (locs : List Loc) (ls : Array Slot), hM E A s H locs (sA σ j kk 0 (pre (fun _ => v) (hA σ j kk 0) k)) Z → lv_has ls 4 [(2, .int (nI k)), (0, .ref (hR E j kk 0)), (1, .int v), (3, .int (nI n))] → W p l e (hRm (0, 0, 0, 0)) s m [.ref (hR E j kk 0), .int v].toArray below meth c H locs 0 0 (MQ below (hQv E (fun u => u = (sA σ j kk 0 (pre (fun _ => v) (hA σ j kk 0) n), Z)) A) [.ref (hR E j kk 0), .int v].toArray s 0 0 A) (F0 m 5 ls []) := by
    intro n9
    induction n9 with
    | zero =>
      intro k hk hn9
      exact absurd hn9 (Nat.not_lt_zero _)
    | succ n9 ih5 =>
      intro k hk hn5 H locs ls M hl
      refine lv_iload_n C.1 C.2.1 dJ7_fill_53178_5 rfl (lv_at hl 0 rfl) ?_
      refine lv_iload_n C.1 C.2.1 dJ7_fill_53178_6 rfl (lv_at hl 3 rfl) ?_
      refine lv_icmp_ge (tgt := 20) C.1 C.2.1 dJ7_fill_53178_7 (by decide) (fun c_7 => ?_) (fun c_7 => ?_)
      · skip
        have hkn : k = n := by have := ct_ge (n := n) (k := k) c_7; omega
        have hl : lv_has ls 4 [(2, .int (nI n)), (0, .ref (hR E j kk 0)), (1, .int v), (3, .int (nI n))] := by first | exact hl | (rw [hkn] at hl; exact hl)
        have M : hM E A s H locs (sA σ j kk 0 (pre (fun _ => v) (hA σ j kk 0) n)) Z := by first | exact M | (rw [hkn] at M; exact M)
        refine g_vret C M hr hlk ?_ (Nat.le_of_ble_eq_true rfl) (Nat.le_of_ble_eq_true rfl) dJ7_fill_53178_20
        rfl
      · skip
        have hk1 : k < n := ct_nge (n := n) (k := k) c_7
        refine lv_aload_n C.1 C.2.1 dJ7_fill_53178_10 rfl (lv_at hl 1 rfl) ?_
        refine lv_iload_n C.1 C.2.1 dJ7_fill_53178_11 rfl (lv_at hl 0 rfl) ?_
        refine lv_iload_n C.1 C.2.1 dJ7_fill_53178_12 rfl (lv_at hl 2 rfl) ?_
        refine g_iast C M j kk hj hly k (nI_clamp (by omega)) (vp_in_nI (by omega) (by omega)) dJ7_fill_53178_13 (fun H locs M => ?_)
        have M : hM E A s H locs (sA (sA σ j kk 0 (pre (fun _ => v) (hA σ j kk 0) k)) j kk 0 (upd (pre (fun _ => v) (hA σ j kk 0) k) k v)) Z := by rw [hA_same] at M; exact M
        refine lv_iinc (v := nI (k + 1)) (lv' := [(2, .int (nI (k + 1))), (0, .ref (hR E j kk 0)), (1, .int v), (3, .int (nI n))]) C.1 C.2.1 dJ7_fill_53178_14 hl (k := 0) rfl (nI_succ _).symm (by decide) rfl (fun ls hl => ?_)
        refine lv_goto (tgt := 5) C.1 C.2.1 dJ7_fill_53178_17 (by decide) ?_
        have q1 : (sA (sA σ j kk 0 (pre (fun _ => v) (hA σ j kk 0) k)) j kk 0 (upd (pre (fun _ => v) (hA σ j kk 0) k) k v)) = (sA σ j kk 0 (pre (fun _ => v) (hA σ j kk 0) (k + 1))) := by first | exact (sA_self _ _ _ _).trans (by rw [← pre_0]) | (rw [sA_sA]; exact congrArg _ (pre_s _ _ _))
        rw [q1] at M
        exact ih5 (k + 1) hk1 (by omega) _ _ _ M (lv_sub hl [0, 1, 2, 3] rfl)
  have q2 : 0 = nI 0 := by rfl
  have hl : lv_has ls 4 [(2, .int (nI 0)), (0, .ref (hR E j kk 0)), (1, .int v), (3, .int (nI n))] := by
    rw [← q2]
    exact lv_sub hl [1, 2, 3, 0] rfl
  have q3 : σ = (sA σ j kk 0 (pre (fun _ => v) (hA σ j kk 0) 0)) := by first | exact (sA_self _ _ _ _).trans (by rw [← pre_0]) | (rw [sA_sA]; exact congrArg _ (pre_s _ _ _))
  rw [q3] at M
  exact L5 ((n - 0) + 1) 0 (Nat.zero_le _) (Nat.lt_succ_self _) _ _ _ M hl

set_option maxHeartbeats 4000000 in
set_option maxRecDepth 100000 in
theorem x_tset (l : Launch) (E : hEnv) (σ : hMem) (Z : va_W) (j n : Nat) (hj : j < 44) (hL : hLay j = layTimes n) (hC : hCi j = 10) (hn : n ≤ 60) (x : Int32) (i : Nat) (hx : x.toNatClampNeg = i) (hin : vp_in x n) (day today : Int32) : hMet l yX10_set cX10_set 4 none (0, 0, 0, 0) E σ Z [.ref (hO E j), .int x, .int day, .int today] (hQv E (fun u => u = (sA (sA σ j 0 0 (upd (hA σ j 0 0) i day)) j 1 0 (upd (hA σ j 1 0) i today), Z))) := by
  refine hMet.of (by decide) (Nat.le_of_ble_eq_true rfl) (fun p e s m below meth c A ls C M hr hlk hl => ?_)
  have hl : lv_has ls 4 [(0, .ref (hO E j)), (1, .int x), (2, .int day), (3, .int today)] := hl
  refine lv_aload_n C.1 C.2.1 dX10_set_0 rfl (lv_at hl 0 rfl) ?_
  refine g_getA C M j 0 hj (by rw [hL]; rfl) (by rw [hC]; rfl) (by decide) fl10_9 dX10_set_1 ?_
  refine lv_iload_n C.1 C.2.1 dX10_set_4 rfl (lv_at hl 1 rfl) ?_
  refine lv_iload_n C.1 C.2.1 dX10_set_5 rfl (lv_at hl 2 rfl) ?_
  refine g_iast C M j 0 hj (by rw [hL]; rfl) i hx hin dX10_set_6 (fun H locs M => ?_)
  have M : hM E A s H locs (sA σ j 0 0 (upd (hA σ j 0 0) i day)) Z := M
  refine lv_aload_n C.1 C.2.1 dX10_set_7 rfl (lv_at hl 0 rfl) ?_
  refine g_getA C M j 1 hj (by rw [hL]; rfl) (by rw [hC]; rfl) (by decide) fl10_15 dX10_set_8 ?_
  refine lv_iload_n C.1 C.2.1 dX10_set_11 rfl (lv_at hl 1 rfl) ?_
  refine lv_iload_n C.1 C.2.1 dX10_set_12 rfl (lv_at hl 3 rfl) ?_
  refine g_iast C M j 1 hj (by rw [hL]; rfl) i hx hin dX10_set_13 (fun H locs M => ?_)
  have M : hM E A s H locs (sA (sA σ j 0 0 (upd (hA σ j 0 0) i day)) j 1 0 (upd (hA σ j 1 0) i today)) Z := M
  refine g_vret C M hr hlk ?_ (Nat.le_of_ble_eq_true rfl) (Nat.le_of_ble_eq_true rfl) dX10_set_14
  rfl

set_option maxHeartbeats 4000000 in
set_option maxRecDepth 100000 in
theorem x_tisSet (l : Launch) (E : hEnv) (σ : hMem) (Z : va_W) (j n : Nat) (hj : j < 44) (hL : hLay j = layTimes n) (hC : hCi j = 10) (hn : n ≤ 60) (x : Int32) (i : Nat) (hx : x.toNatClampNeg = i) (hin : vp_in x n) : hMet l yX10_isSet cX10_isSet 2 (some .boolean) (0, 0, 0, 0) E σ Z [.ref (hO E j), .int x] (hQi E (fun r u => r = bz (¬ hA σ j 0 0 i = 5001) ∧ u = (σ, Z))) := by
  refine hMet.of (by decide) (Nat.le_of_ble_eq_true rfl) (fun p e s m below meth c A ls C M hr hlk hl => ?_)
  have hl : lv_has ls 2 [(0, .ref (hO E j)), (1, .int x)] := hl
  refine lv_aload_n C.1 C.2.1 dX10_isSet_0 rfl (lv_at hl 0 rfl) ?_
  refine g_getA C M j 0 hj (by rw [hL]; rfl) (by rw [hC]; rfl) (by decide) fl10_9 dX10_isSet_1 ?_
  refine lv_iload_n C.1 C.2.1 dX10_isSet_4 rfl (lv_at hl 1 rfl) ?_
  refine g_iald C M j 0 hj (by rw [hL]; rfl) i hx hin (v := hA σ j 0 0 i) rfl dX10_isSet_5 ?_
  refine lv_sipush (v := 5001) C.1 C.2.1 dX10_isSet_6 (by decide) ?_
  have J2 : ∀ (v1 : Int32) (ev1 : v1 = bz (¬ (hA σ j 0 0 i) = 5001)) (H : Heap) (locs : List Loc) (ls : Array Slot), hM E A s H locs σ Z → lv_has ls 2 [(0, .ref (hO E j)), (1, .int x)] → W p l e (hRm (0, 0, 0, 0)) s m [.ref (hO E j), .int x].toArray below meth c H locs 0 0 (MQ below (hQi E (fun r u => r = bz (¬ hA σ j 0 0 i = 5001) ∧ u = (σ, Z)) A) [.ref (hO E j), .int x].toArray s 0 0 A) (F0 m 17 ls [.int v1]) := by
    intro v1 ev1 H locs ls M hl
    subst ev1
    refine g_zret bz_nar C M hr hlk ?_ (Nat.le_of_ble_eq_true rfl) (Nat.le_of_ble_eq_true rfl) dX10_isSet_17
    exact ⟨rfl, rfl⟩
  refine lv_icmp_eq (tgt := 16) C.1 C.2.1 dX10_isSet_9 (by decide) (fun c_9 => ?_) (fun c_9 => ?_)
  · skip
    refine lv_iconst (v := 0) C.1 C.2.1 dX10_isSet_16 (by decide) ?_
    exact J2 _ (by first | (simp only [bz, c_9, not_false_eq_true, not_true_eq_false, and_self, and_true, true_and, and_false, false_and, or_true, true_or, or_false, false_or, Bool.false_eq_true, if_true, if_false, ↓reduceIte]; done) | simp [bz, c_9]) _ _ _ M (lv_sub hl [0, 1] rfl)
  · skip
    refine lv_iconst (v := 1) C.1 C.2.1 dX10_isSet_12 (by decide) ?_
    refine lv_goto (tgt := 17) C.1 C.2.1 dX10_isSet_13 (by decide) ?_
    exact J2 _ (by first | (simp only [bz, c_9, not_false_eq_true, not_true_eq_false, and_self, and_true, true_and, and_false, false_and, or_true, true_or, or_false, false_or, Bool.false_eq_true, if_true, if_false, ↓reduceIte]; done) | simp [bz, c_9]) _ _ _ M (lv_sub hl [0, 1] rfl)

set_option maxHeartbeats 4000000 in
set_option maxRecDepth 100000 in
theorem x_tholds (l : Launch) (E : hEnv) (σ : hMem) (Z : va_W) (j n : Nat) (hj : j < 44) (hL : hLay j = layTimes n) (hC : hCi j = 10) (hn : n ≤ 60) (x : Int32) (i : Nat) (hx : x.toNatClampNeg = i) (hin : vp_in x n) (known day : Int32) : hMet l yX10_holds cX10_holds 4 (some .boolean) (0, 0, 0, 0) E σ Z [.ref (hO E j), .int x, .int known, .int day] (hQi E (fun r u => r = bz ((¬ known < hA σ j 1 0 i) ∧ (¬ day < hA σ j 0 0 i)) ∧ u = (σ, Z))) := by
  refine hMet.of (by decide) (Nat.le_of_ble_eq_true rfl) (fun p e s m below meth c A ls C M hr hlk hl => ?_)
  have hl : lv_has ls 4 [(0, .ref (hO E j)), (1, .int x), (2, .int known), (3, .int day)] := hl
  refine lv_aload_n C.1 C.2.1 dX10_holds_0 rfl (lv_at hl 0 rfl) ?_
  refine g_getA C M j 1 hj (by rw [hL]; rfl) (by rw [hC]; rfl) (by decide) fl10_15 dX10_holds_1 ?_
  refine lv_iload_n C.1 C.2.1 dX10_holds_4 rfl (lv_at hl 1 rfl) ?_
  refine g_iald C M j 1 hj (by rw [hL]; rfl) i hx hin (v := hA σ j 1 0 i) rfl dX10_holds_5 ?_
  refine lv_iload_n C.1 C.2.1 dX10_holds_6 rfl (lv_at hl 2 rfl) ?_
  have J2 : ∀ (v1 : Int32) (ev1 : v1 = bz ((¬ known < (hA σ j 1 0 i)) ∧ (¬ day < (hA σ j 0 0 i)))) (H : Heap) (locs : List Loc) (ls : Array Slot), hM E A s H locs σ Z → lv_has ls 4 [(0, .ref (hO E j)), (1, .int x), (2, .int known), (3, .int day)] → W p l e (hRm (0, 0, 0, 0)) s m [.ref (hO E j), .int x, .int known, .int day].toArray below meth c H locs 0 0 (MQ below (hQi E (fun r u => r = bz ((¬ known < hA σ j 1 0 i) ∧ (¬ day < hA σ j 0 0 i)) ∧ u = (σ, Z)) A) [.ref (hO E j), .int x, .int known, .int day].toArray s 0 0 A) (F0 m 25 ls [.int v1]) := by
    intro v1 ev1 H locs ls M hl
    subst ev1
    refine g_zret bz_nar C M hr hlk ?_ (Nat.le_of_ble_eq_true rfl) (Nat.le_of_ble_eq_true rfl) dX10_holds_25
    exact ⟨rfl, rfl⟩
  refine lv_icmp_gt (tgt := 24) C.1 C.2.1 dX10_holds_7 (by decide) (fun c_7 => ?_) (fun c_7 => ?_)
  · skip
    refine lv_iconst (v := 0) C.1 C.2.1 dX10_holds_24 (by decide) ?_
    exact J2 _ (by first | (simp only [bz, c_7, not_false_eq_true, not_true_eq_false, and_self, and_true, true_and, and_false, false_and, or_true, true_or, or_false, false_or, Bool.false_eq_true, if_true, if_false, ↓reduceIte]; done) | simp [bz, c_7]) _ _ _ M (lv_sub hl [0, 1, 2, 3] rfl)
  · skip
    refine lv_aload_n C.1 C.2.1 dX10_holds_10 rfl (lv_at hl 0 rfl) ?_
    refine g_getA C M j 0 hj (by rw [hL]; rfl) (by rw [hC]; rfl) (by decide) fl10_9 dX10_holds_11 ?_
    refine lv_iload_n C.1 C.2.1 dX10_holds_14 rfl (lv_at hl 1 rfl) ?_
    refine g_iald C M j 0 hj (by rw [hL]; rfl) i hx hin (v := hA σ j 0 0 i) rfl dX10_holds_15 ?_
    refine lv_iload_n C.1 C.2.1 dX10_holds_16 rfl (lv_at hl 3 rfl) ?_
    refine lv_icmp_gt (tgt := 24) C.1 C.2.1 dX10_holds_17 (by decide) (fun c_17 => ?_) (fun c_17 => ?_)
    · skip
      refine lv_iconst (v := 0) C.1 C.2.1 dX10_holds_24 (by decide) ?_
      exact J2 _ (by first | (simp only [bz, c_7, c_17, not_false_eq_true, not_true_eq_false, and_self, and_true, true_and, and_false, false_and, or_true, true_or, or_false, false_or, Bool.false_eq_true, if_true, if_false, ↓reduceIte]; done) | simp [bz, c_7, c_17]) _ _ _ M (lv_sub hl [0, 1, 2, 3] rfl)
    · skip
      refine lv_iconst (v := 1) C.1 C.2.1 dX10_holds_20 (by decide) ?_
      refine lv_goto (tgt := 25) C.1 C.2.1 dX10_holds_21 (by decide) ?_
      exact J2 _ (by first | (simp only [bz, c_7, c_17, not_false_eq_true, not_true_eq_false, and_self, and_true, true_and, and_false, false_and, or_true, true_or, or_false, false_or, Bool.false_eq_true, if_true, if_false, ↓reduceIte]; done) | simp [bz, c_7, c_17]) _ _ _ M (lv_sub hl [0, 1, 2, 3] rfl)

set_option maxHeartbeats 4000000 in
set_option maxRecDepth 100000 in
theorem x_tsup (l : Launch) (E : hEnv) (σ : hMem) (Z : va_W) (j n : Nat) (hj : j < 44) (hL : hLay j = layTimes n) (hC : hCi j = 10) (hn : n ≤ 60) (x y : Int32) (i i2 : Nat) (hx : x.toNatClampNeg = i) (hin : vp_in x n) (hy : y.toNatClampNeg = i2) (hin2 : vp_in y n) : hMet l yX10_supersedes cX10_supersedes 3 (some .boolean) (0, 0, 0, 0) E σ Z [.ref (hO E j), .int x, .int y] (hQi E (fun r u => r = bz (¬ hA σ j 0 0 i < hA σ j 0 0 i2) ∧ u = (σ, Z))) := by
  refine hMet.of (by decide) (Nat.le_of_ble_eq_true rfl) (fun p e s m below meth c A ls C M hr hlk hl => ?_)
  have hl : lv_has ls 3 [(0, .ref (hO E j)), (1, .int x), (2, .int y)] := hl
  refine lv_aload_n C.1 C.2.1 dX10_supersedes_0 rfl (lv_at hl 0 rfl) ?_
  refine g_getA C M j 0 hj (by rw [hL]; rfl) (by rw [hC]; rfl) (by decide) fl10_9 dX10_supersedes_1 ?_
  refine lv_iload_n C.1 C.2.1 dX10_supersedes_4 rfl (lv_at hl 1 rfl) ?_
  refine g_iald C M j 0 hj (by rw [hL]; rfl) i hx hin (v := hA σ j 0 0 i) rfl dX10_supersedes_5 ?_
  refine lv_aload_n C.1 C.2.1 dX10_supersedes_6 rfl (lv_at hl 0 rfl) ?_
  refine g_getA C M j 0 hj (by rw [hL]; rfl) (by rw [hC]; rfl) (by decide) fl10_9 dX10_supersedes_7 ?_
  refine lv_iload_n C.1 C.2.1 dX10_supersedes_10 rfl (lv_at hl 2 rfl) ?_
  refine g_iald C M j 0 hj (by rw [hL]; rfl) i2 hy hin2 (v := hA σ j 0 0 i2) rfl dX10_supersedes_11 ?_
  have J2 : ∀ (v1 : Int32) (ev1 : v1 = bz (¬ (hA σ j 0 0 i) < (hA σ j 0 0 i2))) (H : Heap) (locs : List Loc) (ls : Array Slot), hM E A s H locs σ Z → lv_has ls 3 [(0, .ref (hO E j)), (1, .int x), (2, .int y)] → W p l e (hRm (0, 0, 0, 0)) s m [.ref (hO E j), .int x, .int y].toArray below meth c H locs 0 0 (MQ below (hQi E (fun r u => r = bz (¬ hA σ j 0 0 i < hA σ j 0 0 i2) ∧ u = (σ, Z)) A) [.ref (hO E j), .int x, .int y].toArray s 0 0 A) (F0 m 20 ls [.int v1]) := by
    intro v1 ev1 H locs ls M hl
    subst ev1
    refine g_zret bz_nar C M hr hlk ?_ (Nat.le_of_ble_eq_true rfl) (Nat.le_of_ble_eq_true rfl) dX10_supersedes_20
    exact ⟨rfl, rfl⟩
  refine lv_icmp_lt (tgt := 19) C.1 C.2.1 dX10_supersedes_12 (by decide) (fun c_12 => ?_) (fun c_12 => ?_)
  · skip
    refine lv_iconst (v := 0) C.1 C.2.1 dX10_supersedes_19 (by decide) ?_
    exact J2 _ (by first | (simp only [bz, c_12, not_false_eq_true, not_true_eq_false, and_self, and_true, true_and, and_false, false_and, or_true, true_or, or_false, false_or, Bool.false_eq_true, if_true, if_false, ↓reduceIte]; done) | simp [bz, c_12]) _ _ _ M (lv_sub hl [0, 1, 2] rfl)
  · skip
    refine lv_iconst (v := 1) C.1 C.2.1 dX10_supersedes_15 (by decide) ?_
    refine lv_goto (tgt := 20) C.1 C.2.1 dX10_supersedes_16 (by decide) ?_
    exact J2 _ (by first | (simp only [bz, c_12, not_false_eq_true, not_true_eq_false, and_self, and_true, true_and, and_false, false_and, or_true, true_or, or_false, false_or, Bool.false_eq_true, if_true, if_false, ↓reduceIte]; done) | simp [bz, c_12]) _ _ _ M (lv_sub hl [0, 1, 2] rfl)

/-- the latest that holds, of the first k: its number, or -1; ok: which count -/
def ltB (ok : Nat → Prop) [DecidablePred ok] (sn : Nat → Int32) : Nat → Int32
  | 0 => -1
  | k + 1 => if ok k ∧ (ltB ok sn k < 0 ∨ ¬ sn k < sn (ltB ok sn k).toNatClampNeg) then nI k else ltB ok sn k
theorem ltB_in (ok : Nat → Prop) [DecidablePred ok] (sn : Nat → Int32) : ∀ k, ltB ok sn k = -1 ∨ ∃ j, j < k ∧ ltB ok sn k = nI j
  | 0 => Or.inl rfl
  | k + 1 => by
    unfold ltB
    split
    · exact Or.inr ⟨k, Nat.lt_succ_self k, rfl⟩
    · rcases ltB_in ok sn k with h | ⟨j, h1, h2⟩
      · exact Or.inl h
      · exact Or.inr ⟨j, Nat.lt_succ_of_lt h1, h2⟩
theorem vp_in_or2 {x : Int32} {k N : Nat} (h : x = -1 ∨ ∃ j, j < k ∧ x = nI j) (hx : ¬ x < 0) (hk : k ≤ N) (hN : N < 2 ^ 31) : vp_in x N := vp_in_or h (fun q => hx (by rw [q]; decide)) hk hN

set_option maxHeartbeats 4000000 in
set_option maxRecDepth 100000 in
theorem x_tlatest (l : Launch) (E : hEnv) (σ : hMem) (Z : va_W) (j n : Nat) (hj : j < 44) (hL : hLay j = layTimes n) (hC : hCi j = 10) (hn : n ≤ 60) (r9 : Nat) (hr9 : r9 ≤ n) (known day : Int32) : hMet l yX10_latestOf cX10_latestOf 6 (some .int) (1, 0, 0, 23) E σ Z [.ref (hO E j), .int (nI r9), .int known, .int day] (hQi E (fun r u => r = ltB (fun i => (¬ known < hA σ j 1 0 i) ∧ (¬ day < hA σ j 0 0 i)) (hA σ j 0 0) r9 ∧ u = (σ, Z))) := by
  refine hMet.of (by decide) (Nat.le_of_ble_eq_true rfl) (fun p e s m below meth c A ls C M hr hlk hl => ?_)
  have hl : lv_has ls 6 [(0, .ref (hO E j)), (1, .int (nI r9)), (2, .int known), (3, .int day)] := hl
  refine lv_iconst (v := (-1)) C.1 C.2.1 dX10_latestOf_0 (by decide) ?_
  refine lv_istore (lv' := [(4, .int (-1)), (0, .ref (hO E j)), (1, .int (nI r9)), (2, .int known), (3, .int day)]) C.1 C.2.1 dX10_latestOf_1 hl (by decide) rfl (fun ls hl => ?_)
  refine lv_iconst (v := 0) C.1 C.2.1 dX10_latestOf_3 (by decide) ?_
  refine lv_istore (lv' := [(5, .int 0), (4, .int (-1)), (0, .ref (hO E j)), (1, .int (nI r9)), (2, .int known), (3, .int day)]) C.1 C.2.1 dX10_latestOf_4 hl (by decide) rfl (fun ls hl => ?_)
  have L6 : ∀ (n9 : Nat) (k : Nat), (k ≤ r9) → r9 - k < n9 → ∀ (H : Heap) (locs : List Loc) (ls : Array Slot), hM E A s H locs σ Z → lv_has ls 6 [(5, .int (nI k)), (4, .int (ltB (fun i => (¬ known < hA σ j 1 0 i) ∧ (¬ day < hA σ j 0 0 i)) (hA σ j 0 0) k)), (0, .ref (hO E j)), (1, .int (nI r9)), (2, .int known), (3, .int day)] → W p l e (hRm (1, 0, 0, 23)) s m [.ref (hO E j), .int (nI r9), .int known, .int day].toArray below meth c H locs 0 0 (MQ below (hQi E (fun r u => r = ltB (fun i => (¬ known < hA σ j 1 0 i) ∧ (¬ day < hA σ j 0 0 i)) (hA σ j 0 0) r9 ∧ u = (σ, Z)) A) [.ref (hO E j), .int (nI r9), .int known, .int day].toArray s 0 0 A) (F0 m 6 ls []) := by
    intro n9
    induction n9 with
    | zero =>
      intro k hk hn9
      exact absurd hn9 (Nat.not_lt_zero _)
    | succ n9 ih6 =>
      intro k hk hn6 H locs ls M hl
      refine lv_iload C.1 C.2.1 dX10_latestOf_6 (lv_at hl 0 rfl) ?_
      refine lv_iload_n C.1 C.2.1 dX10_latestOf_8 rfl (lv_at hl 3 rfl) ?_
      refine lv_icmp_ge (tgt := 59) C.1 C.2.1 dX10_latestOf_9 (by decide) (fun c_9 => ?_) (fun c_9 => ?_)
      · skip
        have hkn : k = r9 := by have := ct_ge (n := r9) (k := k) c_9; omega
        have hl : lv_has ls 6 [(5, .int (nI r9)), (4, .int (ltB (fun i => (¬ known < hA σ j 1 0 i) ∧ (¬ day < hA σ j 0 0 i)) (hA σ j 0 0) r9)), (0, .ref (hO E j)), (1, .int (nI r9)), (2, .int known), (3, .int day)] := by first | exact hl | (rw [hkn] at hl; exact hl)
        have M : hM E A s H locs σ Z := by first | exact M | (rw [hkn] at M; exact M)
        refine lv_iload C.1 C.2.1 dX10_latestOf_59 (lv_at hl 1 rfl) ?_
        refine g_iret C M hr hlk ?_ (Nat.le_of_ble_eq_true rfl) (Nat.le_of_ble_eq_true rfl) dX10_latestOf_61
        exact ⟨rfl, rfl⟩
      · skip
        have hk1 : k < r9 := ct_nge (n := r9) (k := k) c_9
        refine lv_iload C.1 C.2.1 dX10_latestOf_12 (lv_at hl 0 rfl) ?_
        refine lv_aload_n C.1 C.2.1 dX10_latestOf_14 rfl (lv_at hl 2 rfl) ?_
        refine g_getA C M j 0 hj (by rw [hL]; rfl) (by rw [hC]; rfl) (by decide) fl10_9 dX10_latestOf_15 ?_
        refine g_alen C M j 0 hj (by rw [hL]; rfl) (by decide) dX10_latestOf_18 ?_
        refine lv_icmp_ge (tgt := 59) C.1 C.2.1 dX10_latestOf_19 (by decide) (fun c_19 => ?_) (fun c_19 => ?_)
        · skip
          exact absurd (ct_ge c_19) (by omega)
        · skip
          refine lv_aload_n C.1 C.2.1 dX10_latestOf_22 rfl (lv_at hl 2 rfl) ?_
          refine lv_iload C.1 C.2.1 dX10_latestOf_23 (lv_at hl 0 rfl) ?_
          refine lv_iload_n C.1 C.2.1 dX10_latestOf_25 rfl (lv_at hl 4 rfl) ?_
          refine lv_iload_n C.1 C.2.1 dX10_latestOf_26 rfl (lv_at hl 5 rfl) ?_
          refine g_calli M (g_runV (As := [.int (nI k), .int known, .int day]) (rest := []) C M j (x_tholds l E σ Z j n hj hL hC hn (nI k) k (nI_clamp (by omega)) (vp_in_nI (by omega) (by omega)) known day) clX10_holds ivX10_holds lk10_24 hj (by rw [hC]; rfl) rfl ⟨Nat.le_of_ble_eq_true rfl, Nat.le_of_ble_eq_true rfl⟩ hl.1 rfl (Nat.le_of_ble_eq_true rfl) dX10_latestOf_27 ⟨Nat.le_of_ble_eq_true rfl, Nat.le_of_ble_eq_true rfl⟩) (fun r1 u H locs hR M => ?_)
          refine W.widen (k := 0) (n := 0) (Nat.le_of_ble_eq_true rfl) (Nat.le_of_ble_eq_true rfl) ?_
          obtain ⟨rfl, rfl⟩ := hR
          have M : hM E A s H locs σ Z := M
          refine lv_if_eq (tgt := 53) C.1 C.2.1 dX10_latestOf_30 (by decide) (fun c_30 => ?_) (fun c_30 => ?_)
          · skip
            have c_30 : ¬ ((¬ known < hA σ j 1 0 k) ∧ (¬ day < hA σ j 0 0 k)) := bz_0.mp c_30
            refine lv_iinc (v := nI (k + 1)) (lv' := [(5, .int (nI (k + 1))), (4, .int (ltB (fun i => (¬ known < hA σ j 1 0 i) ∧ (¬ day < hA σ j 0 0 i)) (hA σ j 0 0) k)), (0, .ref (hO E j)), (1, .int (nI r9)), (2, .int known), (3, .int day)]) C.1 C.2.1 dX10_latestOf_53 hl (k := 0) rfl (nI_succ _).symm (by decide) rfl (fun ls hl => ?_)
            refine lv_goto (tgt := 6) C.1 C.2.1 dX10_latestOf_56 (by decide) ?_
            have q2 : ltB (fun i => (¬ known < hA σ j 1 0 i) ∧ (¬ day < hA σ j 0 0 i)) (hA σ j 0 0) k = ltB (fun i => (¬ known < hA σ j 1 0 i) ∧ (¬ day < hA σ j 0 0 i)) (hA σ j 0 0) (k + 1) := by simp only [ltB, c_9, c_19, c_30, not_false_eq_true, not_true_eq_false, and_self, and_true, true_and, and_false, false_and, or_true, true_or, or_false, false_or, Bool.false_eq_true, if_true, if_false, ↓reduceIte]
            have hl : lv_has ls 6 [(5, .int (nI (k + 1))), (4, .int (ltB (fun i => (¬ known < hA σ j 1 0 i) ∧ (¬ day < hA σ j 0 0 i)) (hA σ j 0 0) (k + 1))), (0, .ref (hO E j)), (1, .int (nI r9)), (2, .int known), (3, .int day)] := by
              rw [← q2]
              exact lv_sub hl [0, 1, 2, 3, 4, 5] rfl
            exact ih6 (k + 1) hk1 (by omega) _ _ _ M hl
          · skip
            have c_30 : ((¬ known < hA σ j 1 0 k) ∧ (¬ day < hA σ j 0 0 k)) := bz_ne0.mp c_30
            refine lv_iload C.1 C.2.1 dX10_latestOf_33 (lv_at hl 1 rfl) ?_
            refine lv_if_lt (tgt := 49) C.1 C.2.1 dX10_latestOf_35 (by decide) (fun c_35 => ?_) (fun c_35 => ?_)
            · skip
              refine lv_iload C.1 C.2.1 dX10_latestOf_49 (lv_at hl 0 rfl) ?_
              refine lv_istore (lv' := [(4, .int (nI k)), (5, .int (nI k)), (0, .ref (hO E j)), (1, .int (nI r9)), (2, .int known), (3, .int day)]) C.1 C.2.1 dX10_latestOf_51 hl (by decide) rfl (fun ls hl => ?_)
              refine lv_iinc (v := nI (k + 1)) (lv' := [(5, .int (nI (k + 1))), (4, .int (nI k)), (0, .ref (hO E j)), (1, .int (nI r9)), (2, .int known), (3, .int day)]) C.1 C.2.1 dX10_latestOf_53 hl (k := 1) rfl (nI_succ _).symm (by decide) rfl (fun ls hl => ?_)
              refine lv_goto (tgt := 6) C.1 C.2.1 dX10_latestOf_56 (by decide) ?_
              have q3 : nI k = ltB (fun i => (¬ known < hA σ j 1 0 i) ∧ (¬ day < hA σ j 0 0 i)) (hA σ j 0 0) (k + 1) := by simp only [ltB, c_9, c_19, c_30, c_35, not_false_eq_true, not_true_eq_false, and_self, and_true, true_and, and_false, false_and, or_true, true_or, or_false, false_or, Bool.false_eq_true, if_true, if_false, ↓reduceIte]
              have hl : lv_has ls 6 [(5, .int (nI (k + 1))), (4, .int (ltB (fun i => (¬ known < hA σ j 1 0 i) ∧ (¬ day < hA σ j 0 0 i)) (hA σ j 0 0) (k + 1))), (0, .ref (hO E j)), (1, .int (nI r9)), (2, .int known), (3, .int day)] := by
                rw [← q3]
                exact lv_sub hl [0, 1, 2, 3, 4, 5] rfl
              exact ih6 (k + 1) hk1 (by omega) _ _ _ M hl
            · skip
              refine lv_aload_n C.1 C.2.1 dX10_latestOf_38 rfl (lv_at hl 2 rfl) ?_
              refine lv_iload C.1 C.2.1 dX10_latestOf_39 (lv_at hl 0 rfl) ?_
              refine lv_iload C.1 C.2.1 dX10_latestOf_41 (lv_at hl 1 rfl) ?_
              refine g_calli M (g_runV (As := [.int (nI k), .int (ltB (fun i => (¬ known < hA σ j 1 0 i) ∧ (¬ day < hA σ j 0 0 i)) (hA σ j 0 0) k)]) (rest := []) C M j (x_tsup l E σ Z j n hj hL hC hn (nI k) (ltB (fun i => (¬ known < hA σ j 1 0 i) ∧ (¬ day < hA σ j 0 0 i)) (hA σ j 0 0) k) k ((ltB (fun i => (¬ known < hA σ j 1 0 i) ∧ (¬ day < hA σ j 0 0 i)) (hA σ j 0 0) k).toNatClampNeg) (nI_clamp (by omega)) (vp_in_nI (by omega) (by omega)) rfl (vp_in_or2 (ltB_in _ _ k) c_35 (by omega) (by omega)) ) clX10_supersedes ivX10_supersedes lk10_28 hj (by rw [hC]; rfl) rfl ⟨Nat.le_of_ble_eq_true rfl, Nat.le_of_ble_eq_true rfl⟩ hl.1 rfl (Nat.le_of_ble_eq_true rfl) dX10_latestOf_43 ⟨Nat.le_of_ble_eq_true rfl, Nat.le_of_ble_eq_true rfl⟩) (fun r4 u H locs hR M => ?_)
              refine W.widen (k := 0) (n := 0) (Nat.le_of_ble_eq_true rfl) (Nat.le_of_ble_eq_true rfl) ?_
              obtain ⟨rfl, rfl⟩ := hR
              have M : hM E A s H locs σ Z := M
              refine lv_if_eq (tgt := 53) C.1 C.2.1 dX10_latestOf_46 (by decide) (fun c_46 => ?_) (fun c_46 => ?_)
              · skip
                have c_46 : ¬ (¬ hA σ j 0 0 k < hA σ j 0 0 ((ltB (fun i => (¬ known < hA σ j 1 0 i) ∧ (¬ day < hA σ j 0 0 i)) (hA σ j 0 0) k).toNatClampNeg)) := bz_0.mp c_46
                refine lv_iinc (v := nI (k + 1)) (lv' := [(5, .int (nI (k + 1))), (4, .int (ltB (fun i => (¬ known < hA σ j 1 0 i) ∧ (¬ day < hA σ j 0 0 i)) (hA σ j 0 0) k)), (0, .ref (hO E j)), (1, .int (nI r9)), (2, .int known), (3, .int day)]) C.1 C.2.1 dX10_latestOf_53 hl (k := 0) rfl (nI_succ _).symm (by decide) rfl (fun ls hl => ?_)
                refine lv_goto (tgt := 6) C.1 C.2.1 dX10_latestOf_56 (by decide) ?_
                have q5 : ltB (fun i => (¬ known < hA σ j 1 0 i) ∧ (¬ day < hA σ j 0 0 i)) (hA σ j 0 0) k = ltB (fun i => (¬ known < hA σ j 1 0 i) ∧ (¬ day < hA σ j 0 0 i)) (hA σ j 0 0) (k + 1) := by simp only [ltB, c_9, c_19, c_30, c_35, c_46, not_false_eq_true, not_true_eq_false, and_self, and_true, true_and, and_false, false_and, or_true, true_or, or_false, false_or, Bool.false_eq_true, if_true, if_false, ↓reduceIte]
                have hl : lv_has ls 6 [(5, .int (nI (k + 1))), (4, .int (ltB (fun i => (¬ known < hA σ j 1 0 i) ∧ (¬ day < hA σ j 0 0 i)) (hA σ j 0 0) (k + 1))), (0, .ref (hO E j)), (1, .int (nI r9)), (2, .int known), (3, .int day)] := by
                  rw [← q5]
                  exact lv_sub hl [0, 1, 2, 3, 4, 5] rfl
                exact ih6 (k + 1) hk1 (by omega) _ _ _ M hl
              · skip
                have c_46 : (¬ hA σ j 0 0 k < hA σ j 0 0 ((ltB (fun i => (¬ known < hA σ j 1 0 i) ∧ (¬ day < hA σ j 0 0 i)) (hA σ j 0 0) k).toNatClampNeg)) := bz_ne0.mp c_46
                refine lv_iload C.1 C.2.1 dX10_latestOf_49 (lv_at hl 0 rfl) ?_
                refine lv_istore (lv' := [(4, .int (nI k)), (5, .int (nI k)), (0, .ref (hO E j)), (1, .int (nI r9)), (2, .int known), (3, .int day)]) C.1 C.2.1 dX10_latestOf_51 hl (by decide) rfl (fun ls hl => ?_)
                refine lv_iinc (v := nI (k + 1)) (lv' := [(5, .int (nI (k + 1))), (4, .int (nI k)), (0, .ref (hO E j)), (1, .int (nI r9)), (2, .int known), (3, .int day)]) C.1 C.2.1 dX10_latestOf_53 hl (k := 1) rfl (nI_succ _).symm (by decide) rfl (fun ls hl => ?_)
                refine lv_goto (tgt := 6) C.1 C.2.1 dX10_latestOf_56 (by decide) ?_
                have q6 : nI k = ltB (fun i => (¬ known < hA σ j 1 0 i) ∧ (¬ day < hA σ j 0 0 i)) (hA σ j 0 0) (k + 1) := by simp only [ltB, c_9, c_19, c_30, c_35, c_46, not_false_eq_true, not_true_eq_false, and_self, and_true, true_and, and_false, false_and, or_true, true_or, or_false, false_or, Bool.false_eq_true, if_true, if_false, ↓reduceIte]
                have hl : lv_has ls 6 [(5, .int (nI (k + 1))), (4, .int (ltB (fun i => (¬ known < hA σ j 1 0 i) ∧ (¬ day < hA σ j 0 0 i)) (hA σ j 0 0) (k + 1))), (0, .ref (hO E j)), (1, .int (nI r9)), (2, .int known), (3, .int day)] := by
                  rw [← q6]
                  exact lv_sub hl [0, 1, 2, 3, 4, 5] rfl
                exact ih6 (k + 1) hk1 (by omega) _ _ _ M hl
  have q7 : 0 = nI 0 := by rfl
  have q8 : (-1) = ltB (fun i => (¬ known < hA σ j 1 0 i) ∧ (¬ day < hA σ j 0 0 i)) (hA σ j 0 0) 0 := by rfl
  have hl : lv_has ls 6 [(5, .int (nI 0)), (4, .int (ltB (fun i => (¬ known < hA σ j 1 0 i) ∧ (¬ day < hA σ j 0 0 i)) (hA σ j 0 0) 0)), (0, .ref (hO E j)), (1, .int (nI r9)), (2, .int known), (3, .int day)] := by
    rw [← q7, ← q8]
    exact lv_sub hl [0, 1, 2, 3, 4, 5] rfl
  exact L6 ((r9 - 0) + 1) 0 (Nat.zero_le _) (Nat.lt_succ_self _) _ _ _ M hl
