set_option maxHeartbeats 4000000 in
set_option maxRecDepth 100000 in
theorem x_tskip (l : Launch) (E : hEnv) (σ : hMem) (Z : va_W) (x0 w0 : Nat) (td ft : Int32) (n : Nat) (t : Nat → Int32) (hn : hI σ 9 1 = nI n) (ht : hA σ 9 0 0 = t) (hn3 : n ≤ 300) (hp : x0 ≤ n) : hMet l yX9_skipBlanks cX9_skipBlanks 1 none (0, 0, 0, 0) E (tM σ x0 w0 td ft) Z [.ref (hO E 9)] (hQv E (fun u => u = (tM σ (sk t n x0) w0 td ft, Z))) := by
  refine hMet.of (by decide) (Nat.le_of_ble_eq_true rfl) (fun p e s m below meth c A ls C M hr hlk hl => ?_)
  have hl : lv_has ls 1 [(0, .ref (hO E 9))] := hl
  generalize s.heap = H at M ⊢
  generalize ([] : List Loc) = locs at M ⊢
  have L0 : ∀ (n9 : Nat) (x : Nat), (x ≤ n) → (sk t n x = sk t n x0) → n - x < n9 → ∀ (H : Heap) (locs : List Loc) (ls : Array Slot), hM E A s H locs (tM σ x w0 td ft) Z → lv_has ls 1 [(0, .ref (hO E 9))] → W p l e (hRm (0, 0, 0, 0)) s m [.ref (hO E 9)].toArray below meth c H locs 0 0 (MQ below (hQv E (fun u => u = (tM σ (sk t n x0) w0 td ft, Z)) A) [.ref (hO E 9)].toArray s 0 0 A) (F0 m 0 ls []) := by
    intro n9
    induction n9 with
    | zero =>
      intro x hx hs hn9
      exact absurd hn9 (Nat.not_lt_zero _)
    | succ n9 ih0 =>
      intro x hx hs hn0 H locs ls M hl
      refine lv_aload_n C.1 C.2.1 dX9_skipBlanks_0 rfl (lv_at hl 0 rfl) ?_
      refine g_getI C M 9 2 (by decide) rfl rfl (by decide) fl9_24 (v := nI x) rfl dX9_skipBlanks_1 ?_
      refine lv_aload_n C.1 C.2.1 dX9_skipBlanks_4 rfl (lv_at hl 0 rfl) ?_
      refine g_getI C M 9 1 (by decide) rfl rfl (by decide) fl9_15 (v := nI n) hn dX9_skipBlanks_5 ?_
      refine lv_icmp_ge (tgt := 38) C.1 C.2.1 dX9_skipBlanks_8 (by decide) (fun c_8 => ?_) (fun c_8 => ?_)
      · skip
        have hxn : n ≤ x := ct_ge c_8
        refine g_vret C M hr hlk ?_ (Nat.le_of_ble_eq_true rfl) (Nat.le_of_ble_eq_true rfl) dX9_skipBlanks_38
        have hsx : sk t n x0 = x := hs.symm.trans (scn_n hxn); subst hsx; rfl
      · skip
        have hxn : x < n := ct_nge c_8
        refine lv_aload_n C.1 C.2.1 dX9_skipBlanks_11 rfl (lv_at hl 0 rfl) ?_
        refine g_getA C M 9 0 (by decide) rfl rfl (by decide) fl9_9 dX9_skipBlanks_12 ?_
        refine lv_aload_n C.1 C.2.1 dX9_skipBlanks_15 rfl (lv_at hl 0 rfl) ?_
        refine g_getI C M 9 2 (by decide) rfl rfl (by decide) fl9_24 (v := nI x) rfl dX9_skipBlanks_16 ?_
        refine g_bald C M 9 0 (by decide) rfl x (nI_clamp (by omega)) (vp_in_nI (by omega) (by decide)) (v := t x) (congrFun ht _) dX9_skipBlanks_19 ?_
        refine lv_bipush (v := 32) C.1 C.2.1 dX9_skipBlanks_20 (by decide) ?_
        refine lv_icmp_ne (tgt := 38) C.1 C.2.1 dX9_skipBlanks_22 (by decide) (fun c_22 => ?_) (fun c_22 => ?_)
        · skip
          refine g_vret C M hr hlk ?_ (Nat.le_of_ble_eq_true rfl) (Nat.le_of_ble_eq_true rfl) dX9_skipBlanks_38
          have hsx : sk t n x0 = x := hs.symm.trans (scn_x (fun h9 => c_22 (pB_iff.mp h9))); subst hsx; rfl
        · skip
          refine lv_aload_n C.1 C.2.1 dX9_skipBlanks_25 rfl (lv_at hl 0 rfl) ?_
          refine lv_dup C.1 C.2.1 dX9_skipBlanks_26 rfl ?_
          refine g_getI C M 9 2 (by decide) rfl rfl (by decide) fl9_24 (v := nI x) rfl dX9_skipBlanks_27 ?_
          refine lv_iconst (v := 1) C.1 C.2.1 dX9_skipBlanks_30 (by decide) ?_
          refine lv_iadd C.1 C.2.1 dX9_skipBlanks_31 ?_
          refine g_rei (v := nI (x + 1)) (nI_1 _) ?_
          refine g_putI C M 9 2 (by decide) rfl rfl (by decide) fl9_24 rfl rfl dX9_skipBlanks_32 (fun H locs M => ?_)
          rw [tM_p] at M
          refine lv_goto (tgt := 0) C.1 C.2.1 dX9_skipBlanks_35 (by decide) ?_
          exact ih0 (x + 1) hxn ((scn_s hxn (pB_iff.mpr c_22)).trans hs) (by omega) _ _ _ M (lv_sub hl [0] rfl)
  exact L0 ((n - x0) + 1) x0 hp rfl (Nat.lt_succ_self _) _ _ _ M (lv_sub hl [0] rfl)

set_option maxHeartbeats 4000000 in
set_option maxRecDepth 100000 in
theorem x_trefuse (l : Launch) (E : hEnv) (σ : hMem) (Z : va_W) (x0 w0 : Nat) (td ft : Int32) (k9 h9 : Int32) : hMet l yX9_refuse cX9_refuse 3 none (0, 0, 0, 0) E (tM σ x0 w0 td ft) Z [.ref (hO E 9), .int k9, .int h9] (hQv E (fun u => u = (tM σ x0 w0 td (ftl ft (k9 + 4 * h9)), Z))) := by
  refine hMet.of (by decide) (Nat.le_of_ble_eq_true rfl) (fun p e s m below meth c A ls C M hr hlk hl => ?_)
  have hl : lv_has ls 3 [(0, .ref (hO E 9)), (1, .int k9), (2, .int h9)] := hl
  generalize s.heap = H at M ⊢
  generalize ([] : List Loc) = locs at M ⊢
  refine lv_aload_n C.1 C.2.1 dX9_refuse_0 rfl (lv_at hl 0 rfl) ?_
  refine g_getI C M 9 5 (by decide) rfl rfl (by decide) fl9_30 (v := ft) rfl dX9_refuse_1 ?_
  refine lv_if_ne (tgt := 16) C.1 C.2.1 dX9_refuse_4 (by decide) (fun c_4 => ?_) (fun c_4 => ?_)
  · skip
    refine g_vret C M hr hlk ?_ (Nat.le_of_ble_eq_true rfl) (Nat.le_of_ble_eq_true rfl) dX9_refuse_16
    rw [ftl_n c_4]
  · skip
    refine lv_aload_n C.1 C.2.1 dX9_refuse_7 rfl (lv_at hl 0 rfl) ?_
    refine lv_iload_n C.1 C.2.1 dX9_refuse_8 rfl (lv_at hl 1 rfl) ?_
    refine lv_iconst (v := 4) C.1 C.2.1 dX9_refuse_9 (by decide) ?_
    refine lv_iload_n C.1 C.2.1 dX9_refuse_10 rfl (lv_at hl 2 rfl) ?_
    refine lv_imul C.1 C.2.1 dX9_refuse_11 ?_
    refine lv_iadd C.1 C.2.1 dX9_refuse_12 ?_
    refine g_putI C M 9 5 (by decide) rfl rfl (by decide) fl9_30 rfl rfl dX9_refuse_13 (fun H locs M => ?_)
    rw [tM_f] at M
    refine g_vret C M hr hlk ?_ (Nat.le_of_ble_eq_true rfl) (Nat.le_of_ble_eq_true rfl) dX9_refuse_16
    rw [c_4, ftl_0]

set_option maxHeartbeats 4000000 in
set_option maxRecDepth 100000 in
theorem x_isb (l : Launch) (E : hEnv) (σ : hMem) (Z : va_W) (v a b : Int32) : hMet l yX9_isBetween cX9_isBetween 3 (some .boolean) (0, 0, 0, 0) E σ Z [.int v, .int a, .int b] (hQi E (fun r u => r = bz (inB v a b = true) ∧ u = (σ, Z))) := by
  refine hMet.of (by decide) (Nat.le_of_ble_eq_true rfl) (fun p e s m below meth c A ls C M hr hlk hl => ?_)
  have hl : lv_has ls 3 [(0, .int v), (1, .int a), (2, .int b)] := hl
  generalize s.heap = H at M ⊢
  generalize ([] : List Loc) = locs at M ⊢
  refine lv_iload_n C.1 C.2.1 dX9_isBetween_0 rfl (lv_at hl 0 rfl) ?_
  refine lv_iload_n C.1 C.2.1 dX9_isBetween_1 rfl (lv_at hl 1 rfl) ?_
  have J2 : ∀ (v1 : Int32) (ev1 : v1 = bz ((¬ v < a) ∧ (¬ b < v))) (H : Heap) (locs : List Loc) (ls : Array Slot), hM E A s H locs σ Z → lv_has ls 3 [(0, .int v), (1, .int a), (2, .int b)] → W p l e (hRm (0, 0, 0, 0)) s m [.int v, .int a, .int b].toArray below meth c H locs 0 0 (MQ below (hQi E (fun r u => r = bz (inB v a b = true) ∧ u = (σ, Z)) A) [.int v, .int a, .int b].toArray s 0 0 A) (F0 m 15 ls [.int v1]) := by
    intro v1 ev1 H locs ls M hl
    subst ev1
    refine g_zret bz_nar C M hr hlk ?_ (Nat.le_of_ble_eq_true rfl) (Nat.le_of_ble_eq_true rfl) dX9_isBetween_15
    exact ⟨bz_congr inB_iff.symm, rfl⟩
  refine lv_icmp_lt (tgt := 14) C.1 C.2.1 dX9_isBetween_2 (by decide) (fun c_2 => ?_) (fun c_2 => ?_)
  · skip
    refine lv_iconst (v := 0) C.1 C.2.1 dX9_isBetween_14 (by decide) ?_
    exact J2 _ (by first | (simp only [bz, c_2, not_false_eq_true, not_true_eq_false, and_self, and_true, true_and, and_false, false_and, or_true, true_or, or_false, false_or, Bool.false_eq_true, if_true, if_false, ↓reduceIte]; done) | simp [bz, c_2]) _ _ _ M (lv_sub hl [0, 1, 2] rfl)
  · skip
    refine lv_iload_n C.1 C.2.1 dX9_isBetween_5 rfl (lv_at hl 0 rfl) ?_
    refine lv_iload_n C.1 C.2.1 dX9_isBetween_6 rfl (lv_at hl 2 rfl) ?_
    refine lv_icmp_gt (tgt := 14) C.1 C.2.1 dX9_isBetween_7 (by decide) (fun c_7 => ?_) (fun c_7 => ?_)
    · skip
      refine lv_iconst (v := 0) C.1 C.2.1 dX9_isBetween_14 (by decide) ?_
      exact J2 _ (by first | (simp only [bz, c_2, c_7, not_false_eq_true, not_true_eq_false, and_self, and_true, true_and, and_false, false_and, or_true, true_or, or_false, false_or, Bool.false_eq_true, if_true, if_false, ↓reduceIte]; done) | simp [bz, c_2, c_7]) _ _ _ M (lv_sub hl [0, 1, 2] rfl)
    · skip
      refine lv_iconst (v := 1) C.1 C.2.1 dX9_isBetween_10 (by decide) ?_
      refine lv_goto (tgt := 15) C.1 C.2.1 dX9_isBetween_11 (by decide) ?_
      exact J2 _ (by first | (simp only [bz, c_2, c_7, not_false_eq_true, not_true_eq_false, and_self, and_true, true_and, and_false, false_and, or_true, true_or, or_false, false_or, Bool.false_eq_true, if_true, if_false, ↓reduceIte]; done) | simp [bz, c_2, c_7]) _ _ _ M (lv_sub hl [0, 1, 2] rfl)

set_option maxHeartbeats 4000000 in
set_option maxRecDepth 100000 in
theorem x_tnow (l : Launch) (E : hEnv) (σ : hMem) (Z : va_W) (x0 w0 : Nat) (td ft : Int32) (t : Nat → Int32) (ht : hA σ 9 0 0 = t) (hw : w0 ≤ x0) (hx3 : x0 ≤ 300) (i : Nat) (hi : i < 20) : hMet l yX9_numberOfWord cX9_numberOfWord 7 (some .int) (4, 0, 0, 85) E (tM σ x0 w0 td ft) Z [.ref (hO E 9), .ref (E.2.2.2.1 i)] (hQi E (fun r u => r = nwT t w0 x0 i ∧ u = (tM σ x0 w0 td ft, Z))) := by
  refine hMet.of (by decide) (Nat.le_of_ble_eq_true rfl) (fun p e s m below meth c A ls C M hr hlk hl => ?_)
  have hl : lv_has ls 7 [(0, .ref (hO E 9)), (1, .ref (E.2.2.2.1 i))] := hl
  generalize s.heap = H at M ⊢
  generalize ([] : List Loc) = locs at M ⊢
  have hL34 := sLen_lt i hi
  refine lv_iconst (v := 0) C.1 C.2.1 dX9_numberOfWord_0 (by decide) ?_
  refine lv_istore_n (lv' := [(2, .int 0), (0, .ref (hO E 9)), (1, .ref (E.2.2.2.1 i))]) C.1 C.2.1 dX9_numberOfWord_1 rfl hl (by decide) rfl (fun ls hl => ?_)
  refine lv_aload_n C.1 C.2.1 dX9_numberOfWord_2 rfl (lv_at hl 1 rfl) ?_
  refine g_getI C M 9 3 (by decide) rfl rfl (by decide) fl9_92 (v := nI w0) rfl dX9_numberOfWord_3 ?_
  refine lv_istore_n (lv' := [(3, .int (nI w0)), (2, .int 0), (0, .ref (hO E 9)), (1, .ref (E.2.2.2.1 i))]) C.1 C.2.1 dX9_numberOfWord_6 rfl hl (by decide) rfl (fun ls hl => ?_)
  refine lv_iconst (v := 1) C.1 C.2.1 dX9_numberOfWord_7 (by decide) ?_
  refine lv_istore (lv' := [(4, .int 1), (3, .int (nI w0)), (2, .int 0), (0, .ref (hO E 9)), (1, .ref (E.2.2.2.1 i))]) C.1 C.2.1 dX9_numberOfWord_8 hl (by decide) rfl (fun ls hl => ?_)
  refine lv_iconst (v := 0) C.1 C.2.1 dX9_numberOfWord_10 (by decide) ?_
  refine lv_istore (lv' := [(5, .int 0), (4, .int 1), (3, .int (nI w0)), (2, .int 0), (0, .ref (hO E 9)), (1, .ref (E.2.2.2.1 i))]) C.1 C.2.1 dX9_numberOfWord_11 hl (by decide) rfl (fun ls hl => ?_)
  have L13 : ∀ (n9 : Nat) (k : Nat) (m9 : Nat) (a9 : Nat) (sb : Bool), (k ≤ sLen.getD i 0) → (m9 ≤ k) → (a9 ≤ w0 + k) → (nwF t w0 x0 ((sByt.getD i []).drop k) m9 a9 sb = nwT t w0 x0 i) → sLen.getD i 0 - k < n9 → ∀ (H : Heap) (locs : List Loc) (ls : Array Slot), hM E A s H locs (tM σ x0 w0 td ft) Z → lv_has ls 7 [(2, .int (nI m9)), (3, .int (nI a9)), (4, .int (bz (sb = true))), (5, .int (nI k)), (0, .ref (hO E 9)), (1, .ref (E.2.2.2.1 i))] → W p l e (hRm (4, 0, 0, 85)) s m [.ref (hO E 9), .ref (E.2.2.2.1 i)].toArray below meth c H locs 0 0 (MQ below (hQi E (fun r u => r = nwT t w0 x0 i ∧ u = (tM σ x0 w0 td ft, Z)) A) [.ref (hO E 9), .ref (E.2.2.2.1 i)].toArray s 0 0 A) (F0 m 13 ls []) := by
    intro n9
    induction n9 with
    | zero =>
      intro k m9 a9 sb hk hm9 ha9 hF hn9
      exact absurd hn9 (Nat.not_lt_zero _)
    | succ n9 ih13 =>
      intro k m9 a9 sb hk hm9 ha9 hF hn13 H locs ls M hl
      refine lv_iload C.1 C.2.1 dX9_numberOfWord_13 (lv_at hl 3 rfl) ?_
      refine lv_aload_n C.1 C.2.1 dX9_numberOfWord_15 rfl (lv_at hl 5 rfl) ?_
      refine g_calli M (g_runT (As := []) (rest := [.int (nI k)]) C M i hi (s_length l E (tM σ x0 w0 td ft) Z i hi) clJ0_length_8abf5 ivJ0_length_8abf5 lk9_102 rfl rfl ⟨Nat.le_of_ble_eq_true rfl, Nat.le_of_ble_eq_true rfl⟩ hl.1 rfl (Nat.le_of_ble_eq_true rfl) dX9_numberOfWord_16 ⟨Nat.le_of_ble_eq_true rfl, Nat.le_of_ble_eq_true rfl⟩) (fun r1 u H locs hR M => ?_)
      refine W.widen (k := 0) (n := 0) (Nat.le_of_ble_eq_true rfl) (Nat.le_of_ble_eq_true rfl) ?_
      obtain ⟨rfl, rfl⟩ := hR
      have M : hM E A s H locs (tM σ x0 w0 td ft) Z := M
      refine lv_icmp_ge (tgt := 106) C.1 C.2.1 dX9_numberOfWord_19 (by decide) (fun c_19 => ?_) (fun c_19 => ?_)
      · skip
        have hkn : k = (sLen.getD i 0) := by have := ct_ge (n := (sLen.getD i 0)) (k := k) c_19; omega
        have hl : lv_has ls 7 [(2, .int (nI m9)), (3, .int (nI a9)), (4, .int (bz (sb = true))), (5, .int (nI (sLen.getD i 0))), (0, .ref (hO E 9)), (1, .ref (E.2.2.2.1 i))] := by first | exact hl | (rw [hkn] at hl; exact hl)
        have M : hM E A s H locs (tM σ x0 w0 td ft) Z := by first | exact M | (rw [hkn] at M; exact M)
        refine lv_iconst (v := (-1)) C.1 C.2.1 dX9_numberOfWord_106 (by decide) ?_
        refine g_iret C M hr hlk ?_ (Nat.le_of_ble_eq_true rfl) (Nat.le_of_ble_eq_true rfl) dX9_numberOfWord_107
        exact ⟨(nwF_e (by rw [sLen_eq i hi]; omega)).trans hF, rfl⟩
      · skip
        have hk1 : k < (sLen.getD i 0) := ct_nge (n := (sLen.getD i 0)) (k := k) c_19
        refine lv_aload_n C.1 C.2.1 dX9_numberOfWord_22 rfl (lv_at hl 5 rfl) ?_
        refine lv_iload C.1 C.2.1 dX9_numberOfWord_23 (lv_at hl 3 rfl) ?_
        refine g_calli M (g_runT (As := [.int (nI k)]) (rest := []) C M i hi (s_charAt l E (tM σ x0 w0 td ft) Z i hi k hk1) clJ0_charAt_5068e ivJ0_charAt_5068e lk9_107 rfl rfl ⟨Nat.le_of_ble_eq_true rfl, Nat.le_of_ble_eq_true rfl⟩ hl.1 rfl (Nat.le_of_ble_eq_true rfl) dX9_numberOfWord_25 ⟨Nat.le_of_ble_eq_true rfl, Nat.le_of_ble_eq_true rfl⟩) (fun r2 u H locs hR M => ?_)
        refine W.widen (k := 0) (n := 0) (Nat.le_of_ble_eq_true rfl) (Nat.le_of_ble_eq_true rfl) ?_
        obtain ⟨rfl, rfl⟩ := hR
        have M : hM E A s H locs (tM σ x0 w0 td ft) Z := M
        refine lv_istore (lv' := [(6, .int (chr i k)), (2, .int (nI m9)), (3, .int (nI a9)), (4, .int (bz (sb = true))), (5, .int (nI k)), (0, .ref (hO E 9)), (1, .ref (E.2.2.2.1 i))]) C.1 C.2.1 dX9_numberOfWord_28 hl (by decide) rfl (fun ls hl => ?_)
        refine lv_iload C.1 C.2.1 dX9_numberOfWord_30 (lv_at hl 0 rfl) ?_
        refine lv_bipush (v := 32) C.1 C.2.1 dX9_numberOfWord_32 (by decide) ?_
        refine lv_icmp_eq (tgt := 74) C.1 C.2.1 dX9_numberOfWord_34 (by decide) (fun c_34 => ?_) (fun c_34 => ?_)
        · skip
          refine lv_iload C.1 C.2.1 dX9_numberOfWord_74 (lv_at hl 3 rfl) ?_
          refine lv_if_eq (tgt := 89) C.1 C.2.1 dX9_numberOfWord_76 (by decide) (fun c_76 => ?_) (fun c_76 => ?_)
          · skip
            have c_76 : ¬ sb = true := bz_0.mp c_76
            refine lv_iinc (v := nI (m9 + 1)) (lv' := [(2, .int (nI (m9 + 1))), (6, .int (chr i k)), (3, .int (nI a9)), (4, .int (bz (sb = true))), (5, .int (nI k)), (0, .ref (hO E 9)), (1, .ref (E.2.2.2.1 i))]) C.1 C.2.1 dX9_numberOfWord_89 hl (k := 1) rfl (nI_succ _).symm (by decide) rfl (fun ls hl => ?_)
            refine lv_aload_n C.1 C.2.1 dX9_numberOfWord_92 rfl (lv_at hl 5 rfl) ?_
            refine g_getI C M 9 3 (by decide) rfl rfl (by decide) fl9_92 (v := nI w0) rfl dX9_numberOfWord_93 ?_
            refine lv_istore_n (lv' := [(3, .int (nI w0)), (2, .int (nI (m9 + 1))), (6, .int (chr i k)), (4, .int (bz (sb = true))), (5, .int (nI k)), (0, .ref (hO E 9)), (1, .ref (E.2.2.2.1 i))]) C.1 C.2.1 dX9_numberOfWord_96 rfl hl (by decide) rfl (fun ls hl => ?_)
            refine lv_iconst (v := 1) C.1 C.2.1 dX9_numberOfWord_97 (by decide) ?_
            refine lv_istore (lv' := [(4, .int 1), (3, .int (nI w0)), (2, .int (nI (m9 + 1))), (6, .int (chr i k)), (5, .int (nI k)), (0, .ref (hO E 9)), (1, .ref (E.2.2.2.1 i))]) C.1 C.2.1 dX9_numberOfWord_98 hl (by decide) rfl (fun ls hl => ?_)
            refine lv_iinc (v := nI (k + 1)) (lv' := [(5, .int (nI (k + 1))), (4, .int 1), (3, .int (nI w0)), (2, .int (nI (m9 + 1))), (6, .int (chr i k)), (0, .ref (hO E 9)), (1, .ref (E.2.2.2.1 i))]) C.1 C.2.1 dX9_numberOfWord_100 hl (k := 4) rfl (nI_succ _).symm (by decide) rfl (fun ls hl => ?_)
            refine lv_goto (tgt := 13) C.1 C.2.1 dX9_numberOfWord_103 (by decide) ?_
            have q3 : 1 = bz (true = true) := by rfl
            have hl : lv_has ls 7 [(2, .int (nI (m9 + 1))), (3, .int (nI w0)), (4, .int (bz (true = true))), (5, .int (nI (k + 1))), (0, .ref (hO E 9)), (1, .ref (E.2.2.2.1 i))] := by
              rw [← q3]
              exact lv_sub hl [3, 2, 1, 0, 5, 6] rfl
            exact ih13 (k + 1) (m9 + 1) w0 true hk1 (by omega) (by omega) ((nwF_b (by rw [sLen_eq i hi]; exact hk1) c_34 (fun h9 => c_76 h9.1)).trans hF) (by omega) _ _ _ M hl
          · skip
            have c_76 : sb = true := bz_ne0.mp c_76
            refine lv_iload_n C.1 C.2.1 dX9_numberOfWord_79 rfl (lv_at hl 2 rfl) ?_
            refine lv_aload_n C.1 C.2.1 dX9_numberOfWord_80 rfl (lv_at hl 5 rfl) ?_
            refine g_getI C M 9 2 (by decide) rfl rfl (by decide) fl9_24 (v := nI x0) rfl dX9_numberOfWord_81 ?_
            refine lv_icmp_ne (tgt := 89) C.1 C.2.1 dX9_numberOfWord_84 (by decide) (fun c_84 => ?_) (fun c_84 => ?_)
            · skip
              refine lv_iinc (v := nI (m9 + 1)) (lv' := [(2, .int (nI (m9 + 1))), (6, .int (chr i k)), (3, .int (nI a9)), (4, .int (bz (sb = true))), (5, .int (nI k)), (0, .ref (hO E 9)), (1, .ref (E.2.2.2.1 i))]) C.1 C.2.1 dX9_numberOfWord_89 hl (k := 1) rfl (nI_succ _).symm (by decide) rfl (fun ls hl => ?_)
              refine lv_aload_n C.1 C.2.1 dX9_numberOfWord_92 rfl (lv_at hl 5 rfl) ?_
              refine g_getI C M 9 3 (by decide) rfl rfl (by decide) fl9_92 (v := nI w0) rfl dX9_numberOfWord_93 ?_
              refine lv_istore_n (lv' := [(3, .int (nI w0)), (2, .int (nI (m9 + 1))), (6, .int (chr i k)), (4, .int (bz (sb = true))), (5, .int (nI k)), (0, .ref (hO E 9)), (1, .ref (E.2.2.2.1 i))]) C.1 C.2.1 dX9_numberOfWord_96 rfl hl (by decide) rfl (fun ls hl => ?_)
              refine lv_iconst (v := 1) C.1 C.2.1 dX9_numberOfWord_97 (by decide) ?_
              refine lv_istore (lv' := [(4, .int 1), (3, .int (nI w0)), (2, .int (nI (m9 + 1))), (6, .int (chr i k)), (5, .int (nI k)), (0, .ref (hO E 9)), (1, .ref (E.2.2.2.1 i))]) C.1 C.2.1 dX9_numberOfWord_98 hl (by decide) rfl (fun ls hl => ?_)
              refine lv_iinc (v := nI (k + 1)) (lv' := [(5, .int (nI (k + 1))), (4, .int 1), (3, .int (nI w0)), (2, .int (nI (m9 + 1))), (6, .int (chr i k)), (0, .ref (hO E 9)), (1, .ref (E.2.2.2.1 i))]) C.1 C.2.1 dX9_numberOfWord_100 hl (k := 4) rfl (nI_succ _).symm (by decide) rfl (fun ls hl => ?_)
              refine lv_goto (tgt := 13) C.1 C.2.1 dX9_numberOfWord_103 (by decide) ?_
              have q4 : 1 = bz (true = true) := by rfl
              have hl : lv_has ls 7 [(2, .int (nI (m9 + 1))), (3, .int (nI w0)), (4, .int (bz (true = true))), (5, .int (nI (k + 1))), (0, .ref (hO E 9)), (1, .ref (E.2.2.2.1 i))] := by
                rw [← q4]
                exact lv_sub hl [3, 2, 1, 0, 5, 6] rfl
              exact ih13 (k + 1) (m9 + 1) w0 true hk1 (by omega) (by omega) ((nwF_b (by rw [sLen_eq i hi]; exact hk1) c_34 (fun h9 => c_84 (by rw [h9.2]))).trans hF) (by omega) _ _ _ M hl
            · skip
              refine lv_iload_n C.1 C.2.1 dX9_numberOfWord_87 rfl (lv_at hl 1 rfl) ?_
              refine g_iret C M hr hlk ?_ (Nat.le_of_ble_eq_true rfl) (Nat.le_of_ble_eq_true rfl) dX9_numberOfWord_88
              exact ⟨(nwF_y (by rw [sLen_eq i hi]; exact hk1) c_34 ⟨c_76, (nI_eq (by omega) (by omega)).mp c_84⟩).trans hF, rfl⟩
        · skip
          refine lv_iload C.1 C.2.1 dX9_numberOfWord_37 (lv_at hl 3 rfl) ?_
          refine lv_if_eq (tgt := 65) C.1 C.2.1 dX9_numberOfWord_39 (by decide) (fun c_39 => ?_) (fun c_39 => ?_)
          · skip
            have c_39 : ¬ sb = true := bz_0.mp c_39
            refine lv_iconst (v := 0) C.1 C.2.1 dX9_numberOfWord_65 (by decide) ?_
            refine lv_istore (lv' := [(4, .int 0), (6, .int (chr i k)), (2, .int (nI m9)), (3, .int (nI a9)), (5, .int (nI k)), (0, .ref (hO E 9)), (1, .ref (E.2.2.2.1 i))]) C.1 C.2.1 dX9_numberOfWord_66 hl (by decide) rfl (fun ls hl => ?_)
            refine lv_iinc (v := nI (a9 + 1)) (lv' := [(3, .int (nI (a9 + 1))), (4, .int 0), (6, .int (chr i k)), (2, .int (nI m9)), (5, .int (nI k)), (0, .ref (hO E 9)), (1, .ref (E.2.2.2.1 i))]) C.1 C.2.1 dX9_numberOfWord_68 hl (k := 3) rfl (nI_succ _).symm (by decide) rfl (fun ls hl => ?_)
            refine lv_goto (tgt := 100) C.1 C.2.1 dX9_numberOfWord_71 (by decide) ?_
            refine lv_iinc (v := nI (k + 1)) (lv' := [(5, .int (nI (k + 1))), (3, .int (nI (a9 + 1))), (4, .int 0), (6, .int (chr i k)), (2, .int (nI m9)), (0, .ref (hO E 9)), (1, .ref (E.2.2.2.1 i))]) C.1 C.2.1 dX9_numberOfWord_100 hl (k := 4) rfl (nI_succ _).symm (by decide) rfl (fun ls hl => ?_)
            refine lv_goto (tgt := 13) C.1 C.2.1 dX9_numberOfWord_103 (by decide) ?_
            have q5 : 0 = bz (false = true) := by rfl
            have hl : lv_has ls 7 [(2, .int (nI m9)), (3, .int (nI (a9 + 1))), (4, .int (bz (false = true))), (5, .int (nI (k + 1))), (0, .ref (hO E 9)), (1, .ref (E.2.2.2.1 i))] := by
              rw [← q5]
              exact lv_sub hl [4, 1, 2, 0, 5, 6] rfl
            exact ih13 (k + 1) m9 (a9 + 1) false hk1 (by omega) (by omega) ((nwF_n (by rw [sLen_eq i hi]; exact hk1) c_34 _ (by rw [Bool.eq_false_iff.mpr c_39]; rfl)).trans hF) (by omega) _ _ _ M hl
          · skip
            have c_39 : sb = true := bz_ne0.mp c_39
            refine lv_iload_n C.1 C.2.1 dX9_numberOfWord_42 rfl (lv_at hl 2 rfl) ?_
            refine lv_aload_n C.1 C.2.1 dX9_numberOfWord_43 rfl (lv_at hl 5 rfl) ?_
            refine g_getI C M 9 2 (by decide) rfl rfl (by decide) fl9_24 (v := nI x0) rfl dX9_numberOfWord_44 ?_
            refine lv_icmp_ge (tgt := 65) C.1 C.2.1 dX9_numberOfWord_47 (by decide) (fun c_47 => ?_) (fun c_47 => ?_)
            · skip
              have hx47 : ¬ a9 < x0 := by have := ct_ge (n := x0) (k := a9) c_47; omega
              refine lv_iconst (v := 0) C.1 C.2.1 dX9_numberOfWord_65 (by decide) ?_
              refine lv_istore (lv' := [(4, .int 0), (6, .int (chr i k)), (2, .int (nI m9)), (3, .int (nI a9)), (5, .int (nI k)), (0, .ref (hO E 9)), (1, .ref (E.2.2.2.1 i))]) C.1 C.2.1 dX9_numberOfWord_66 hl (by decide) rfl (fun ls hl => ?_)
              refine lv_iinc (v := nI (a9 + 1)) (lv' := [(3, .int (nI (a9 + 1))), (4, .int 0), (6, .int (chr i k)), (2, .int (nI m9)), (5, .int (nI k)), (0, .ref (hO E 9)), (1, .ref (E.2.2.2.1 i))]) C.1 C.2.1 dX9_numberOfWord_68 hl (k := 3) rfl (nI_succ _).symm (by decide) rfl (fun ls hl => ?_)
              refine lv_goto (tgt := 100) C.1 C.2.1 dX9_numberOfWord_71 (by decide) ?_
              refine lv_iinc (v := nI (k + 1)) (lv' := [(5, .int (nI (k + 1))), (3, .int (nI (a9 + 1))), (4, .int 0), (6, .int (chr i k)), (2, .int (nI m9)), (0, .ref (hO E 9)), (1, .ref (E.2.2.2.1 i))]) C.1 C.2.1 dX9_numberOfWord_100 hl (k := 4) rfl (nI_succ _).symm (by decide) rfl (fun ls hl => ?_)
              refine lv_goto (tgt := 13) C.1 C.2.1 dX9_numberOfWord_103 (by decide) ?_
              have q6 : 0 = bz (false = true) := by rfl
              have hl : lv_has ls 7 [(2, .int (nI m9)), (3, .int (nI (a9 + 1))), (4, .int (bz (false = true))), (5, .int (nI (k + 1))), (0, .ref (hO E 9)), (1, .ref (E.2.2.2.1 i))] := by
                rw [← q6]
                exact lv_sub hl [4, 1, 2, 0, 5, 6] rfl
              exact ih13 (k + 1) m9 (a9 + 1) false hk1 (by omega) (by omega) ((nwF_n (by rw [sLen_eq i hi]; exact hk1) c_34 _ (by rw [c_39, decide_eq_false hx47]; rfl)).trans hF) (by omega) _ _ _ M hl
            · skip
              have hx47 : a9 < x0 := ct_nge (n := x0) (k := a9) c_47
              refine lv_aload_n C.1 C.2.1 dX9_numberOfWord_50 rfl (lv_at hl 5 rfl) ?_
              refine g_getA C M 9 0 (by decide) rfl rfl (by decide) fl9_9 dX9_numberOfWord_51 ?_
              refine lv_iload_n C.1 C.2.1 dX9_numberOfWord_54 rfl (lv_at hl 2 rfl) ?_
              refine g_bald C M 9 0 (by decide) rfl a9 (nI_clamp (by omega)) (vp_in_nI (by omega) (by decide)) (v := t a9) (congrFun ht _) dX9_numberOfWord_55 ?_
              refine lv_iload C.1 C.2.1 dX9_numberOfWord_56 (lv_at hl 0 rfl) ?_
              refine lv_icmp_ne (tgt := 65) C.1 C.2.1 dX9_numberOfWord_58 (by decide) (fun c_58 => ?_) (fun c_58 => ?_)
              · skip
                refine lv_iconst (v := 0) C.1 C.2.1 dX9_numberOfWord_65 (by decide) ?_
                refine lv_istore (lv' := [(4, .int 0), (6, .int (chr i k)), (2, .int (nI m9)), (3, .int (nI a9)), (5, .int (nI k)), (0, .ref (hO E 9)), (1, .ref (E.2.2.2.1 i))]) C.1 C.2.1 dX9_numberOfWord_66 hl (by decide) rfl (fun ls hl => ?_)
                refine lv_iinc (v := nI (a9 + 1)) (lv' := [(3, .int (nI (a9 + 1))), (4, .int 0), (6, .int (chr i k)), (2, .int (nI m9)), (5, .int (nI k)), (0, .ref (hO E 9)), (1, .ref (E.2.2.2.1 i))]) C.1 C.2.1 dX9_numberOfWord_68 hl (k := 3) rfl (nI_succ _).symm (by decide) rfl (fun ls hl => ?_)
                refine lv_goto (tgt := 100) C.1 C.2.1 dX9_numberOfWord_71 (by decide) ?_
                refine lv_iinc (v := nI (k + 1)) (lv' := [(5, .int (nI (k + 1))), (3, .int (nI (a9 + 1))), (4, .int 0), (6, .int (chr i k)), (2, .int (nI m9)), (0, .ref (hO E 9)), (1, .ref (E.2.2.2.1 i))]) C.1 C.2.1 dX9_numberOfWord_100 hl (k := 4) rfl (nI_succ _).symm (by decide) rfl (fun ls hl => ?_)
                refine lv_goto (tgt := 13) C.1 C.2.1 dX9_numberOfWord_103 (by decide) ?_
                have q7 : 0 = bz (false = true) := by rfl
                have hl : lv_has ls 7 [(2, .int (nI m9)), (3, .int (nI (a9 + 1))), (4, .int (bz (false = true))), (5, .int (nI (k + 1))), (0, .ref (hO E 9)), (1, .ref (E.2.2.2.1 i))] := by
                  rw [← q7]
                  exact lv_sub hl [4, 1, 2, 0, 5, 6] rfl
                exact ih13 (k + 1) m9 (a9 + 1) false hk1 (by omega) (by omega) ((nwF_n (by rw [sLen_eq i hi]; exact hk1) c_34 _ (by rw [c_39, decide_eq_true hx47]; exact decide_eq_false c_58)).trans hF) (by omega) _ _ _ M hl
              · skip
                refine lv_iconst (v := 1) C.1 C.2.1 dX9_numberOfWord_61 (by decide) ?_
                refine lv_goto (tgt := 66) C.1 C.2.1 dX9_numberOfWord_62 (by decide) ?_
                refine lv_istore (lv' := [(4, .int 1), (6, .int (chr i k)), (2, .int (nI m9)), (3, .int (nI a9)), (5, .int (nI k)), (0, .ref (hO E 9)), (1, .ref (E.2.2.2.1 i))]) C.1 C.2.1 dX9_numberOfWord_66 hl (by decide) rfl (fun ls hl => ?_)
                refine lv_iinc (v := nI (a9 + 1)) (lv' := [(3, .int (nI (a9 + 1))), (4, .int 1), (6, .int (chr i k)), (2, .int (nI m9)), (5, .int (nI k)), (0, .ref (hO E 9)), (1, .ref (E.2.2.2.1 i))]) C.1 C.2.1 dX9_numberOfWord_68 hl (k := 3) rfl (nI_succ _).symm (by decide) rfl (fun ls hl => ?_)
                refine lv_goto (tgt := 100) C.1 C.2.1 dX9_numberOfWord_71 (by decide) ?_
                refine lv_iinc (v := nI (k + 1)) (lv' := [(5, .int (nI (k + 1))), (3, .int (nI (a9 + 1))), (4, .int 1), (6, .int (chr i k)), (2, .int (nI m9)), (0, .ref (hO E 9)), (1, .ref (E.2.2.2.1 i))]) C.1 C.2.1 dX9_numberOfWord_100 hl (k := 4) rfl (nI_succ _).symm (by decide) rfl (fun ls hl => ?_)
                refine lv_goto (tgt := 13) C.1 C.2.1 dX9_numberOfWord_103 (by decide) ?_
                have q8 : 1 = bz (true = true) := by rfl
                have hl : lv_has ls 7 [(2, .int (nI m9)), (3, .int (nI (a9 + 1))), (4, .int (bz (true = true))), (5, .int (nI (k + 1))), (0, .ref (hO E 9)), (1, .ref (E.2.2.2.1 i))] := by
                  rw [← q8]
                  exact lv_sub hl [4, 1, 2, 0, 5, 6] rfl
                exact ih13 (k + 1) m9 (a9 + 1) true hk1 (by omega) (by omega) ((nwF_n (by rw [sLen_eq i hi]; exact hk1) c_34 _ (by rw [c_39, decide_eq_true hx47]; exact decide_eq_true c_58)).trans hF) (by omega) _ _ _ M hl
  have q9 : 0 = nI 0 := by rfl
  have q10 : 1 = bz (true = true) := by rfl
  have hl : lv_has ls 7 [(2, .int (nI 0)), (3, .int (nI w0)), (4, .int (bz (true = true))), (5, .int (nI 0)), (0, .ref (hO E 9)), (1, .ref (E.2.2.2.1 i))] := by
    rw [← q9, ← q10]
    exact lv_sub hl [3, 2, 1, 0, 4, 5] rfl
  exact L13 ((sLen.getD i 0 - 0) + 1) 0 0 w0 true (Nat.zero_le _) (Nat.le_refl 0) (Nat.le_refl _) rfl (Nat.lt_succ_self _) _ _ _ M hl

set_option maxHeartbeats 4000000 in
set_option maxRecDepth 100000 in
theorem x_tword (l : Launch) (E : hEnv) (σ : hMem) (Z : va_W) (x0 w0 : Nat) (td ft : Int32) (n : Nat) (t : Nat → Int32) (hn : hI σ 9 1 = nI n) (ht : hA σ 9 0 0 = t) (hn3 : n ≤ 300) (hp : x0 ≤ n) (i : Nat) (hi : i < 20) : hMet l yX9_readWord cX9_readWord 3 (some .int) (5, 0, 0, 111) E (tM σ x0 w0 td ft) Z [.ref (hO E 9), .ref (E.2.2.2.1 i)] (hQi E (fun r u => r = nwT t (sk t n x0) (wd t n (sk t n x0)) i ∧ u = (tM σ (wd t n (sk t n x0)) (sk t n x0) td (if 0 ≤ nwT t (sk t n x0) (wd t n (sk t n x0)) i then ft else ftl ft (1 + 4 * nI (sk t n x0))), Z))) := by
  refine hMet.of (by decide) (Nat.le_of_ble_eq_true rfl) (fun p e s m below meth c A ls C M hr hlk hl => ?_)
  have hl : lv_has ls 3 [(0, .ref (hO E 9)), (1, .ref (E.2.2.2.1 i))] := hl
  generalize s.heap = H at M ⊢
  generalize ([] : List Loc) = locs at M ⊢
  refine lv_aload_n C.1 C.2.1 dX9_readWord_0 rfl (lv_at hl 0 rfl) ?_
  refine g_callv M (g_runV (As := []) (rest := []) C M 9 (x_tskip l E σ Z x0 w0 td ft n t hn ht hn3 hp) clX9_skipBlanks ivX9_skipBlanks lk9_33 (by decide) rfl rfl ⟨Nat.le_of_ble_eq_true rfl, Nat.le_of_ble_eq_true rfl⟩ hl.1 rfl (Nat.le_of_ble_eq_true rfl) dX9_readWord_1 ⟨Nat.le_of_ble_eq_true rfl, Nat.le_of_ble_eq_true rfl⟩) (fun u H locs hR M => ?_)
  refine W.widen (k := 0) (n := 0) (Nat.le_of_ble_eq_true rfl) (Nat.le_of_ble_eq_true rfl) ?_
  subst hR
  have M : hM E A s H locs (tM σ (sk t n x0) w0 td ft) Z := M
  refine lv_aload_n C.1 C.2.1 dX9_readWord_4 rfl (lv_at hl 0 rfl) ?_
  refine lv_aload_n C.1 C.2.1 dX9_readWord_5 rfl (lv_at hl 0 rfl) ?_
  refine g_getI C M 9 2 (by decide) rfl rfl (by decide) fl9_24 (v := nI (sk t n x0)) rfl dX9_readWord_6 ?_
  refine g_putI C M 9 3 (by decide) rfl rfl (by decide) fl9_92 rfl rfl dX9_readWord_9 (fun H locs M => ?_)
  rw [tM_w] at M
  have L12 : ∀ (n9 : Nat) (x : Nat), (x ≤ n) → (wd t n x = wd t n (sk t n x0)) → n - x < n9 → ∀ (H : Heap) (locs : List Loc) (ls : Array Slot), hM E A s H locs (tM σ x (sk t n x0) td ft) Z → lv_has ls 3 [(0, .ref (hO E 9)), (1, .ref (E.2.2.2.1 i))] → W p l e (hRm (5, 0, 0, 111)) s m [.ref (hO E 9), .ref (E.2.2.2.1 i)].toArray below meth c H locs 0 0 (MQ below (hQi E (fun r u => r = nwT t (sk t n x0) (wd t n (sk t n x0)) i ∧ u = (tM σ (wd t n (sk t n x0)) (sk t n x0) td (if 0 ≤ nwT t (sk t n x0) (wd t n (sk t n x0)) i then ft else ftl ft (1 + 4 * nI (sk t n x0))), Z)) A) [.ref (hO E 9), .ref (E.2.2.2.1 i)].toArray s 0 0 A) (F0 m 12 ls []) := by
    intro n9
    induction n9 with
    | zero =>
      intro x hx hs hn9
      exact absurd hn9 (Nat.not_lt_zero _)
    | succ n9 ih12 =>
      intro x hx hs hn12 H locs ls M hl
      refine lv_aload_n C.1 C.2.1 dX9_readWord_12 rfl (lv_at hl 0 rfl) ?_
      refine g_getI C M 9 2 (by decide) rfl rfl (by decide) fl9_24 (v := nI x) rfl dX9_readWord_13 ?_
      refine lv_aload_n C.1 C.2.1 dX9_readWord_16 rfl (lv_at hl 0 rfl) ?_
      refine g_getI C M 9 1 (by decide) rfl rfl (by decide) fl9_15 (v := nI n) hn dX9_readWord_17 ?_
      refine lv_icmp_ge (tgt := 55) C.1 C.2.1 dX9_readWord_20 (by decide) (fun c_20 => ?_) (fun c_20 => ?_)
      · skip
        have hxn : n ≤ x := ct_ge c_20
        have hsx : wd t n (sk t n x0) = x := hs.symm.trans (scn_n hxn)
        subst hsx
        refine lv_aload_n C.1 C.2.1 dX9_readWord_55 rfl (lv_at hl 0 rfl) ?_
        refine lv_aload_n C.1 C.2.1 dX9_readWord_56 rfl (lv_at hl 1 rfl) ?_
        refine g_calli M (g_runV (As := [.ref (E.2.2.2.1 i)]) (rest := []) C M 9 (x_tnow l E σ Z (wd t n (sk t n x0)) (sk t n x0) td ft t ht (scn_ge _ _ _ _) (by omega) i hi) clX9_numberOfWord ivX9_numberOfWord lk9_99 (by decide) rfl rfl ⟨Nat.le_of_ble_eq_true rfl, Nat.le_of_ble_eq_true rfl⟩ hl.1 rfl (Nat.le_of_ble_eq_true rfl) dX9_readWord_57 ⟨Nat.le_of_ble_eq_true rfl, Nat.le_of_ble_eq_true rfl⟩) (fun r1 u H locs hR M => ?_)
        refine W.widen (k := 0) (n := 0) (Nat.le_of_ble_eq_true rfl) (Nat.le_of_ble_eq_true rfl) ?_
        obtain ⟨rfl, rfl⟩ := hR
        have M : hM E A s H locs (tM σ (wd t n (sk t n x0)) (sk t n x0) td ft) Z := M
        refine lv_istore_n (lv' := [(2, .int (nwT t (sk t n x0) (wd t n (sk t n x0)) i)), (0, .ref (hO E 9)), (1, .ref (E.2.2.2.1 i))]) C.1 C.2.1 dX9_readWord_60 rfl hl (by decide) rfl (fun ls hl => ?_)
        refine lv_iload_n C.1 C.2.1 dX9_readWord_61 rfl (lv_at hl 0 rfl) ?_
        refine lv_if_ge (tgt := 74) C.1 C.2.1 dX9_readWord_62 (by decide) (fun c_62 => ?_) (fun c_62 => ?_)
        · skip
          refine lv_iload_n C.1 C.2.1 dX9_readWord_74 rfl (lv_at hl 0 rfl) ?_
          refine g_iret C M hr hlk ?_ (Nat.le_of_ble_eq_true rfl) (Nat.le_of_ble_eq_true rfl) dX9_readWord_75
          rw [if_pos c_62]; exact ⟨rfl, rfl⟩
        · skip
          refine lv_aload_n C.1 C.2.1 dX9_readWord_65 rfl (lv_at hl 1 rfl) ?_
          refine lv_iconst (v := 1) C.1 C.2.1 dX9_readWord_66 (by decide) ?_
          refine lv_aload_n C.1 C.2.1 dX9_readWord_67 rfl (lv_at hl 1 rfl) ?_
          refine g_getI C M 9 3 (by decide) rfl rfl (by decide) fl9_92 (v := nI (sk t n x0)) rfl dX9_readWord_68 ?_
          refine g_callv M (g_runV (As := [.int 1, .int (nI (sk t n x0))]) (rest := []) C M 9 (x_trefuse l E σ Z (wd t n (sk t n x0)) (sk t n x0) td ft 1 (nI (sk t n x0))) clX9_refuse ivX9_refuse lk9_40 (by decide) rfl rfl ⟨Nat.le_of_ble_eq_true rfl, Nat.le_of_ble_eq_true rfl⟩ hl.1 rfl (Nat.le_of_ble_eq_true rfl) dX9_readWord_71 ⟨Nat.le_of_ble_eq_true rfl, Nat.le_of_ble_eq_true rfl⟩) (fun u H locs hR M => ?_)
          refine W.widen (k := 0) (n := 0) (Nat.le_of_ble_eq_true rfl) (Nat.le_of_ble_eq_true rfl) ?_
          subst hR
          have M : hM E A s H locs (tM σ (wd t n (sk t n x0)) (sk t n x0) td (ftl ft (1 + 4 * (nI (sk t n x0))))) Z := M
          refine lv_iload_n C.1 C.2.1 dX9_readWord_74 rfl (lv_at hl 0 rfl) ?_
          refine g_iret C M hr hlk ?_ (Nat.le_of_ble_eq_true rfl) (Nat.le_of_ble_eq_true rfl) dX9_readWord_75
          rw [if_neg c_62]; exact ⟨rfl, rfl⟩
      · skip
        have hxn : x < n := ct_nge c_20
        refine lv_aload_n C.1 C.2.1 dX9_readWord_23 rfl (lv_at hl 0 rfl) ?_
        refine g_getA C M 9 0 (by decide) rfl rfl (by decide) fl9_9 dX9_readWord_24 ?_
        refine lv_aload_n C.1 C.2.1 dX9_readWord_27 rfl (lv_at hl 0 rfl) ?_
        refine g_getI C M 9 2 (by decide) rfl rfl (by decide) fl9_24 (v := nI x) rfl dX9_readWord_28 ?_
        refine g_bald C M 9 0 (by decide) rfl x (nI_clamp (by omega)) (vp_in_nI (by omega) (by decide)) (v := t x) (congrFun ht _) dX9_readWord_31 ?_
        refine lv_bipush (v := 97) C.1 C.2.1 dX9_readWord_32 (by decide) ?_
        refine lv_bipush (v := 122) C.1 C.2.1 dX9_readWord_34 (by decide) ?_
        refine g_calli M (g_runS (As := [.int (t x), .int 97, .int 122]) (rest := []) C M (x_isb l E (tM σ x (sk t n x0) td ft) Z (t x) 97 122) clX9_isBetween stX9_isBetween lk9_95 rfl ⟨Nat.le_of_ble_eq_true rfl, Nat.le_of_ble_eq_true rfl⟩ hl.1 rfl (Nat.le_of_ble_eq_true rfl) dX9_readWord_36 ⟨Nat.le_of_ble_eq_true rfl, Nat.le_of_ble_eq_true rfl⟩) (fun r2 u H locs hR M => ?_)
        refine W.widen (k := 0) (n := 0) (Nat.le_of_ble_eq_true rfl) (Nat.le_of_ble_eq_true rfl) ?_
        obtain ⟨rfl, rfl⟩ := hR
        have M : hM E A s H locs (tM σ x (sk t n x0) td ft) Z := M
        refine lv_if_eq (tgt := 55) C.1 C.2.1 dX9_readWord_39 (by decide) (fun c_39 => ?_) (fun c_39 => ?_)
        · skip
          have c_39 : ¬ inB (t x) 97 122 = true := bz_0.mp c_39
          have hsx : wd t n (sk t n x0) = x := hs.symm.trans (scn_x (P := fun c => inB c 97 122) c_39)
          subst hsx
          refine lv_aload_n C.1 C.2.1 dX9_readWord_55 rfl (lv_at hl 0 rfl) ?_
          refine lv_aload_n C.1 C.2.1 dX9_readWord_56 rfl (lv_at hl 1 rfl) ?_
          refine g_calli M (g_runV (As := [.ref (E.2.2.2.1 i)]) (rest := []) C M 9 (x_tnow l E σ Z (wd t n (sk t n x0)) (sk t n x0) td ft t ht (scn_ge _ _ _ _) (by omega) i hi) clX9_numberOfWord ivX9_numberOfWord lk9_99 (by decide) rfl rfl ⟨Nat.le_of_ble_eq_true rfl, Nat.le_of_ble_eq_true rfl⟩ hl.1 rfl (Nat.le_of_ble_eq_true rfl) dX9_readWord_57 ⟨Nat.le_of_ble_eq_true rfl, Nat.le_of_ble_eq_true rfl⟩) (fun r3 u H locs hR M => ?_)
          refine W.widen (k := 0) (n := 0) (Nat.le_of_ble_eq_true rfl) (Nat.le_of_ble_eq_true rfl) ?_
          obtain ⟨rfl, rfl⟩ := hR
          have M : hM E A s H locs (tM σ (wd t n (sk t n x0)) (sk t n x0) td ft) Z := M
          refine lv_istore_n (lv' := [(2, .int (nwT t (sk t n x0) (wd t n (sk t n x0)) i)), (0, .ref (hO E 9)), (1, .ref (E.2.2.2.1 i))]) C.1 C.2.1 dX9_readWord_60 rfl hl (by decide) rfl (fun ls hl => ?_)
          refine lv_iload_n C.1 C.2.1 dX9_readWord_61 rfl (lv_at hl 0 rfl) ?_
          refine lv_if_ge (tgt := 74) C.1 C.2.1 dX9_readWord_62 (by decide) (fun c_62 => ?_) (fun c_62 => ?_)
          · skip
            refine lv_iload_n C.1 C.2.1 dX9_readWord_74 rfl (lv_at hl 0 rfl) ?_
            refine g_iret C M hr hlk ?_ (Nat.le_of_ble_eq_true rfl) (Nat.le_of_ble_eq_true rfl) dX9_readWord_75
            rw [if_pos c_62]; exact ⟨rfl, rfl⟩
          · skip
            refine lv_aload_n C.1 C.2.1 dX9_readWord_65 rfl (lv_at hl 1 rfl) ?_
            refine lv_iconst (v := 1) C.1 C.2.1 dX9_readWord_66 (by decide) ?_
            refine lv_aload_n C.1 C.2.1 dX9_readWord_67 rfl (lv_at hl 1 rfl) ?_
            refine g_getI C M 9 3 (by decide) rfl rfl (by decide) fl9_92 (v := nI (sk t n x0)) rfl dX9_readWord_68 ?_
            refine g_callv M (g_runV (As := [.int 1, .int (nI (sk t n x0))]) (rest := []) C M 9 (x_trefuse l E σ Z (wd t n (sk t n x0)) (sk t n x0) td ft 1 (nI (sk t n x0))) clX9_refuse ivX9_refuse lk9_40 (by decide) rfl rfl ⟨Nat.le_of_ble_eq_true rfl, Nat.le_of_ble_eq_true rfl⟩ hl.1 rfl (Nat.le_of_ble_eq_true rfl) dX9_readWord_71 ⟨Nat.le_of_ble_eq_true rfl, Nat.le_of_ble_eq_true rfl⟩) (fun u H locs hR M => ?_)
            refine W.widen (k := 0) (n := 0) (Nat.le_of_ble_eq_true rfl) (Nat.le_of_ble_eq_true rfl) ?_
            subst hR
            have M : hM E A s H locs (tM σ (wd t n (sk t n x0)) (sk t n x0) td (ftl ft (1 + 4 * (nI (sk t n x0))))) Z := M
            refine lv_iload_n C.1 C.2.1 dX9_readWord_74 rfl (lv_at hl 0 rfl) ?_
            refine g_iret C M hr hlk ?_ (Nat.le_of_ble_eq_true rfl) (Nat.le_of_ble_eq_true rfl) dX9_readWord_75
            rw [if_neg c_62]; exact ⟨rfl, rfl⟩
        · skip
          have c_39 : inB (t x) 97 122 = true := bz_ne0.mp c_39
          refine lv_aload_n C.1 C.2.1 dX9_readWord_42 rfl (lv_at hl 0 rfl) ?_
          refine lv_dup C.1 C.2.1 dX9_readWord_43 rfl ?_
          refine g_getI C M 9 2 (by decide) rfl rfl (by decide) fl9_24 (v := nI x) rfl dX9_readWord_44 ?_
          refine lv_iconst (v := 1) C.1 C.2.1 dX9_readWord_47 (by decide) ?_
          refine lv_iadd C.1 C.2.1 dX9_readWord_48 ?_
          refine g_rei (v := nI (x + 1)) (nI_1 _) ?_
          refine g_putI C M 9 2 (by decide) rfl rfl (by decide) fl9_24 rfl rfl dX9_readWord_49 (fun H locs M => ?_)
          rw [tM_p] at M
          refine lv_goto (tgt := 12) C.1 C.2.1 dX9_readWord_52 (by decide) ?_
          exact ih12 (x + 1) hxn ((scn_s (P := fun c => inB c 97 122) hxn c_39).trans hs) (by omega) _ _ _ M (lv_sub hl [0, 1] rfl)
  exact L12 ((n - (sk t n x0)) + 1) (sk t n x0) (scn_le hp) rfl (Nat.lt_succ_self _) _ _ _ M (lv_sub hl [0, 1] rfl)

set_option maxHeartbeats 4000000 in
set_option maxRecDepth 100000 in
theorem x_tnum (l : Launch) (E : hEnv) (σ : hMem) (Z : va_W) (x0 w0 : Nat) (td ft : Int32) (n : Nat) (t : Nat → Int32) (hn : hI σ 9 1 = nI n) (ht : hA σ 9 0 0 = t) (hn3 : n ≤ 300) (hp : x0 ≤ n) (g : Int32) : hMet l yX9_readNumber cX9_readNumber 4 (some .int) (1, 0, 0, 22) E (tM σ x0 w0 td ft) Z [.ref (hO E 9), .int g] (hQi E (fun r u => r = cV t (sk t n x0) ((dg t n (sk t n x0)) - (sk t n x0)) ∧ u = (tM σ (dg t n (sk t n x0)) w0 td (nmF t n x0 g ft), Z))) := by
  refine hMet.of (by decide) (Nat.le_of_ble_eq_true rfl) (fun p e s m below meth c A ls C M hr hlk hl => ?_)
  have hl : lv_has ls 4 [(0, .ref (hO E 9)), (1, .int g)] := hl
  generalize s.heap = H at M ⊢
  generalize ([] : List Loc) = locs at M ⊢
  refine lv_aload_n C.1 C.2.1 dX9_readNumber_0 rfl (lv_at hl 0 rfl) ?_
  refine g_callv M (g_runV (As := []) (rest := []) C M 9 (x_tskip l E σ Z x0 w0 td ft n t hn ht hn3 hp) clX9_skipBlanks ivX9_skipBlanks lk9_33 (by decide) rfl rfl ⟨Nat.le_of_ble_eq_true rfl, Nat.le_of_ble_eq_true rfl⟩ hl.1 rfl (Nat.le_of_ble_eq_true rfl) dX9_readNumber_1 ⟨Nat.le_of_ble_eq_true rfl, Nat.le_of_ble_eq_true rfl⟩) (fun u H locs hR M => ?_)
  refine W.widen (k := 0) (n := 0) (Nat.le_of_ble_eq_true rfl) (Nat.le_of_ble_eq_true rfl) ?_
  subst hR
  have M : hM E A s H locs (tM σ (sk t n x0) w0 td ft) Z := M
  refine lv_aload_n C.1 C.2.1 dX9_readNumber_4 rfl (lv_at hl 0 rfl) ?_
  refine g_getI C M 9 2 (by decide) rfl rfl (by decide) fl9_24 (v := nI (sk t n x0)) rfl dX9_readNumber_5 ?_
  refine lv_istore_n (lv' := [(2, .int (nI (sk t n x0))), (0, .ref (hO E 9)), (1, .int g)]) C.1 C.2.1 dX9_readNumber_8 rfl hl (by decide) rfl (fun ls hl => ?_)
  refine lv_iconst (v := 0) C.1 C.2.1 dX9_readNumber_9 (by decide) ?_
  refine lv_istore_n (lv' := [(3, .int 0), (2, .int (nI (sk t n x0))), (0, .ref (hO E 9)), (1, .int g)]) C.1 C.2.1 dX9_readNumber_10 rfl hl (by decide) rfl (fun ls hl => ?_)
  have L11 : ∀ (n9 : Nat) (k : Nat), ((sk t n x0) + k ≤ n) → (dg t n ((sk t n x0) + k) = dg t n (sk t n x0)) → n - ((sk t n x0) + k) < n9 → ∀ (H : Heap) (locs : List Loc) (ls : Array Slot), hM E A s H locs (tM σ ((sk t n x0) + k) w0 td ft) Z → lv_has ls 4 [(3, .int (cV t (sk t n x0) k)), (0, .ref (hO E 9)), (1, .int g), (2, .int (nI (sk t n x0)))] → W p l e (hRm (1, 0, 0, 22)) s m [.ref (hO E 9), .int g].toArray below meth c H locs 0 0 (MQ below (hQi E (fun r u => r = cV t (sk t n x0) ((dg t n (sk t n x0)) - (sk t n x0)) ∧ u = (tM σ (dg t n (sk t n x0)) w0 td (nmF t n x0 g ft), Z)) A) [.ref (hO E 9), .int g].toArray s 0 0 A) (F0 m 11 ls []) := by
    intro n9
    induction n9 with
    | zero =>
      intro k hk hs hn9
      exact absurd hn9 (Nat.not_lt_zero _)
    | succ n9 ih11 =>
      intro k hk hs hn11 H locs ls M hl
      refine lv_aload_n C.1 C.2.1 dX9_readNumber_11 rfl (lv_at hl 1 rfl) ?_
      refine g_getI C M 9 2 (by decide) rfl rfl (by decide) fl9_24 (v := nI ((sk t n x0) + k)) rfl dX9_readNumber_12 ?_
      refine lv_aload_n C.1 C.2.1 dX9_readNumber_15 rfl (lv_at hl 1 rfl) ?_
      refine g_getI C M 9 1 (by decide) rfl rfl (by decide) fl9_15 (v := nI n) hn dX9_readNumber_16 ?_
      refine lv_icmp_ge (tgt := 82) C.1 C.2.1 dX9_readNumber_19 (by decide) (fun c_19 => ?_) (fun c_19 => ?_)
      · skip
        have hxn : n ≤ (sk t n x0) + k := ct_ge c_19
        have hd : dg t n (sk t n x0) = (sk t n x0) + k := hs.symm.trans (scn_n hxn)
        have hdk : dg t n (sk t n x0) - (sk t n x0) = k := by omega
        refine lv_aload_n C.1 C.2.1 dX9_readNumber_82 rfl (lv_at hl 1 rfl) ?_
        refine g_getI C M 9 2 (by decide) rfl rfl (by decide) fl9_24 (v := nI ((sk t n x0) + k)) rfl dX9_readNumber_83 ?_
        refine lv_iload_n C.1 C.2.1 dX9_readNumber_86 rfl (lv_at hl 3 rfl) ?_
        refine lv_icmp_ne (tgt := 99) C.1 C.2.1 dX9_readNumber_87 (by decide) (fun c_87 => ?_) (fun c_87 => ?_)
        · skip
          refine lv_aload_n C.1 C.2.1 dX9_readNumber_99 rfl (lv_at hl 1 rfl) ?_
          refine g_getI C M 9 2 (by decide) rfl rfl (by decide) fl9_24 (v := nI ((sk t n x0) + k)) rfl dX9_readNumber_100 ?_
          refine lv_iload_n C.1 C.2.1 dX9_readNumber_103 rfl (lv_at hl 3 rfl) ?_
          refine lv_isub C.1 C.2.1 dX9_readNumber_104 ?_
          refine g_rei (v := nI k) (nI_subS _ _) ?_
          refine lv_iconst (v := 4) C.1 C.2.1 dX9_readNumber_105 (by decide) ?_
          refine lv_icmp_gt (tgt := 114) C.1 C.2.1 dX9_readNumber_106 (by decide) (fun c_106 => ?_) (fun c_106 => ?_)
          · skip
            refine lv_aload_n C.1 C.2.1 dX9_readNumber_114 rfl (lv_at hl 1 rfl) ?_
            refine lv_iconst (v := 2) C.1 C.2.1 dX9_readNumber_115 (by decide) ?_
            refine lv_iload_n C.1 C.2.1 dX9_readNumber_116 rfl (lv_at hl 3 rfl) ?_
            refine g_callv M (g_runV (As := [.int 2, .int (nI (sk t n x0))]) (rest := []) C M 9 (x_trefuse l E σ Z ((sk t n x0) + k) w0 td ft 2 (nI (sk t n x0))) clX9_refuse ivX9_refuse lk9_40 (by decide) rfl rfl ⟨Nat.le_of_ble_eq_true rfl, Nat.le_of_ble_eq_true rfl⟩ hl.1 rfl (Nat.le_of_ble_eq_true rfl) dX9_readNumber_117 ⟨Nat.le_of_ble_eq_true rfl, Nat.le_of_ble_eq_true rfl⟩) (fun u H locs hR M => ?_)
            refine W.widen (k := 0) (n := 0) (Nat.le_of_ble_eq_true rfl) (Nat.le_of_ble_eq_true rfl) ?_
            subst hR
            have M : hM E A s H locs (tM σ ((sk t n x0) + k) w0 td (ftl ft (2 + 4 * (nI (sk t n x0))))) Z := M
            refine lv_iload_n C.1 C.2.1 dX9_readNumber_120 rfl (lv_at hl 0 rfl) ?_
            refine g_iret C M hr hlk ?_ (Nat.le_of_ble_eq_true rfl) (Nat.le_of_ble_eq_true rfl) dX9_readNumber_121
            refine ⟨by rw [hdk], ?_⟩; unfold nmF; rw [hdk, hd]; rw [if_neg (fun h9 => c_87 (by rw [h9]))]; rw [if_pos (Or.inl ((nI_ltI (a := 4) (by omega) (by omega)).mp c_106))]
          · skip
            refine lv_iload_n C.1 C.2.1 dX9_readNumber_109 rfl (lv_at hl 0 rfl) ?_
            refine lv_iload_n C.1 C.2.1 dX9_readNumber_110 rfl (lv_at hl 2 rfl) ?_
            refine lv_icmp_le (tgt := 120) C.1 C.2.1 dX9_readNumber_111 (by decide) (fun c_111 => ?_) (fun c_111 => ?_)
            · skip
              refine lv_iload_n C.1 C.2.1 dX9_readNumber_120 rfl (lv_at hl 0 rfl) ?_
              refine g_iret C M hr hlk ?_ (Nat.le_of_ble_eq_true rfl) (Nat.le_of_ble_eq_true rfl) dX9_readNumber_121
              refine ⟨by rw [hdk], ?_⟩; unfold nmF; rw [hdk, hd]; rw [if_neg (fun h9 => c_87 (by rw [h9]))]; rw [if_neg (fun h9 => h9.elim (fun q => c_106 ((nI_ltI (a := 4) (by omega) (by omega)).mpr q)) (fun q => Int32.not_lt.mpr c_111 q))]
            · skip
              refine lv_aload_n C.1 C.2.1 dX9_readNumber_114 rfl (lv_at hl 1 rfl) ?_
              refine lv_iconst (v := 2) C.1 C.2.1 dX9_readNumber_115 (by decide) ?_
              refine lv_iload_n C.1 C.2.1 dX9_readNumber_116 rfl (lv_at hl 3 rfl) ?_
              refine g_callv M (g_runV (As := [.int 2, .int (nI (sk t n x0))]) (rest := []) C M 9 (x_trefuse l E σ Z ((sk t n x0) + k) w0 td ft 2 (nI (sk t n x0))) clX9_refuse ivX9_refuse lk9_40 (by decide) rfl rfl ⟨Nat.le_of_ble_eq_true rfl, Nat.le_of_ble_eq_true rfl⟩ hl.1 rfl (Nat.le_of_ble_eq_true rfl) dX9_readNumber_117 ⟨Nat.le_of_ble_eq_true rfl, Nat.le_of_ble_eq_true rfl⟩) (fun u H locs hR M => ?_)
              refine W.widen (k := 0) (n := 0) (Nat.le_of_ble_eq_true rfl) (Nat.le_of_ble_eq_true rfl) ?_
              subst hR
              have M : hM E A s H locs (tM σ ((sk t n x0) + k) w0 td (ftl ft (2 + 4 * (nI (sk t n x0))))) Z := M
              refine lv_iload_n C.1 C.2.1 dX9_readNumber_120 rfl (lv_at hl 0 rfl) ?_
              refine g_iret C M hr hlk ?_ (Nat.le_of_ble_eq_true rfl) (Nat.le_of_ble_eq_true rfl) dX9_readNumber_121
              refine ⟨by rw [hdk], ?_⟩; unfold nmF; rw [hdk, hd]; rw [if_neg (fun h9 => c_87 (by rw [h9]))]; rw [if_pos (Or.inr (Int32.not_le.mp c_111))]
        · skip
          refine lv_aload_n C.1 C.2.1 dX9_readNumber_90 rfl (lv_at hl 1 rfl) ?_
          refine lv_iconst (v := 1) C.1 C.2.1 dX9_readNumber_91 (by decide) ?_
          refine lv_iload_n C.1 C.2.1 dX9_readNumber_92 rfl (lv_at hl 3 rfl) ?_
          refine g_callv M (g_runV (As := [.int 1, .int (nI (sk t n x0))]) (rest := []) C M 9 (x_trefuse l E σ Z ((sk t n x0) + k) w0 td ft 1 (nI (sk t n x0))) clX9_refuse ivX9_refuse lk9_40 (by decide) rfl rfl ⟨Nat.le_of_ble_eq_true rfl, Nat.le_of_ble_eq_true rfl⟩ hl.1 rfl (Nat.le_of_ble_eq_true rfl) dX9_readNumber_93 ⟨Nat.le_of_ble_eq_true rfl, Nat.le_of_ble_eq_true rfl⟩) (fun u H locs hR M => ?_)
          refine W.widen (k := 0) (n := 0) (Nat.le_of_ble_eq_true rfl) (Nat.le_of_ble_eq_true rfl) ?_
          subst hR
          have M : hM E A s H locs (tM σ ((sk t n x0) + k) w0 td (ftl ft (1 + 4 * (nI (sk t n x0))))) Z := M
          refine lv_goto (tgt := 120) C.1 C.2.1 dX9_readNumber_96 (by decide) ?_
          refine lv_iload_n C.1 C.2.1 dX9_readNumber_120 rfl (lv_at hl 0 rfl) ?_
          refine g_iret C M hr hlk ?_ (Nat.le_of_ble_eq_true rfl) (Nat.le_of_ble_eq_true rfl) dX9_readNumber_121
          refine ⟨by rw [hdk], ?_⟩; unfold nmF; rw [hdk, hd]; rw [if_pos ((nI_eq (by omega) (by omega)).mp c_87)]
      · skip
        have hxn : (sk t n x0) + k < n := ct_nge c_19
        refine lv_aload_n C.1 C.2.1 dX9_readNumber_22 rfl (lv_at hl 1 rfl) ?_
        refine g_getA C M 9 0 (by decide) rfl rfl (by decide) fl9_9 dX9_readNumber_23 ?_
        refine lv_aload_n C.1 C.2.1 dX9_readNumber_26 rfl (lv_at hl 1 rfl) ?_
        refine g_getI C M 9 2 (by decide) rfl rfl (by decide) fl9_24 (v := nI ((sk t n x0) + k)) rfl dX9_readNumber_27 ?_
        refine g_bald C M 9 0 (by decide) rfl ((sk t n x0) + k) (nI_clamp (by omega)) (vp_in_nI (by omega) (by decide)) (v := t ((sk t n x0) + k)) (congrFun ht _) dX9_readNumber_30 ?_
        refine lv_bipush (v := 48) C.1 C.2.1 dX9_readNumber_31 (by decide) ?_
        refine lv_bipush (v := 57) C.1 C.2.1 dX9_readNumber_33 (by decide) ?_
        refine g_calli M (g_runS (As := [.int (t ((sk t n x0) + k)), .int 48, .int 57]) (rest := []) C M (x_isb l E (tM σ ((sk t n x0) + k) w0 td ft) Z (t ((sk t n x0) + k)) 48 57) clX9_isBetween stX9_isBetween lk9_95 rfl ⟨Nat.le_of_ble_eq_true rfl, Nat.le_of_ble_eq_true rfl⟩ hl.1 rfl (Nat.le_of_ble_eq_true rfl) dX9_readNumber_35 ⟨Nat.le_of_ble_eq_true rfl, Nat.le_of_ble_eq_true rfl⟩) (fun r1 u H locs hR M => ?_)
        refine W.widen (k := 0) (n := 0) (Nat.le_of_ble_eq_true rfl) (Nat.le_of_ble_eq_true rfl) ?_
        obtain ⟨rfl, rfl⟩ := hR
        have M : hM E A s H locs (tM σ ((sk t n x0) + k) w0 td ft) Z := M
        refine lv_if_eq (tgt := 82) C.1 C.2.1 dX9_readNumber_38 (by decide) (fun c_38 => ?_) (fun c_38 => ?_)
        · skip
          have c_38 : ¬ inB (t ((sk t n x0) + k)) 48 57 = true := bz_0.mp c_38
          have hd : dg t n (sk t n x0) = (sk t n x0) + k := hs.symm.trans (scn_x (P := fun c => inB c 48 57) c_38)
          have hdk : dg t n (sk t n x0) - (sk t n x0) = k := by omega
          refine lv_aload_n C.1 C.2.1 dX9_readNumber_82 rfl (lv_at hl 1 rfl) ?_
          refine g_getI C M 9 2 (by decide) rfl rfl (by decide) fl9_24 (v := nI ((sk t n x0) + k)) rfl dX9_readNumber_83 ?_
          refine lv_iload_n C.1 C.2.1 dX9_readNumber_86 rfl (lv_at hl 3 rfl) ?_
          refine lv_icmp_ne (tgt := 99) C.1 C.2.1 dX9_readNumber_87 (by decide) (fun c_87 => ?_) (fun c_87 => ?_)
          · skip
            refine lv_aload_n C.1 C.2.1 dX9_readNumber_99 rfl (lv_at hl 1 rfl) ?_
            refine g_getI C M 9 2 (by decide) rfl rfl (by decide) fl9_24 (v := nI ((sk t n x0) + k)) rfl dX9_readNumber_100 ?_
            refine lv_iload_n C.1 C.2.1 dX9_readNumber_103 rfl (lv_at hl 3 rfl) ?_
            refine lv_isub C.1 C.2.1 dX9_readNumber_104 ?_
            refine g_rei (v := nI k) (nI_subS _ _) ?_
            refine lv_iconst (v := 4) C.1 C.2.1 dX9_readNumber_105 (by decide) ?_
            refine lv_icmp_gt (tgt := 114) C.1 C.2.1 dX9_readNumber_106 (by decide) (fun c_106 => ?_) (fun c_106 => ?_)
            · skip
              refine lv_aload_n C.1 C.2.1 dX9_readNumber_114 rfl (lv_at hl 1 rfl) ?_
              refine lv_iconst (v := 2) C.1 C.2.1 dX9_readNumber_115 (by decide) ?_
              refine lv_iload_n C.1 C.2.1 dX9_readNumber_116 rfl (lv_at hl 3 rfl) ?_
              refine g_callv M (g_runV (As := [.int 2, .int (nI (sk t n x0))]) (rest := []) C M 9 (x_trefuse l E σ Z ((sk t n x0) + k) w0 td ft 2 (nI (sk t n x0))) clX9_refuse ivX9_refuse lk9_40 (by decide) rfl rfl ⟨Nat.le_of_ble_eq_true rfl, Nat.le_of_ble_eq_true rfl⟩ hl.1 rfl (Nat.le_of_ble_eq_true rfl) dX9_readNumber_117 ⟨Nat.le_of_ble_eq_true rfl, Nat.le_of_ble_eq_true rfl⟩) (fun u H locs hR M => ?_)
              refine W.widen (k := 0) (n := 0) (Nat.le_of_ble_eq_true rfl) (Nat.le_of_ble_eq_true rfl) ?_
              subst hR
              have M : hM E A s H locs (tM σ ((sk t n x0) + k) w0 td (ftl ft (2 + 4 * (nI (sk t n x0))))) Z := M
              refine lv_iload_n C.1 C.2.1 dX9_readNumber_120 rfl (lv_at hl 0 rfl) ?_
              refine g_iret C M hr hlk ?_ (Nat.le_of_ble_eq_true rfl) (Nat.le_of_ble_eq_true rfl) dX9_readNumber_121
              refine ⟨by rw [hdk], ?_⟩; unfold nmF; rw [hdk, hd]; rw [if_neg (fun h9 => c_87 (by rw [h9]))]; rw [if_pos (Or.inl ((nI_ltI (a := 4) (by omega) (by omega)).mp c_106))]
            · skip
              refine lv_iload_n C.1 C.2.1 dX9_readNumber_109 rfl (lv_at hl 0 rfl) ?_
              refine lv_iload_n C.1 C.2.1 dX9_readNumber_110 rfl (lv_at hl 2 rfl) ?_
              refine lv_icmp_le (tgt := 120) C.1 C.2.1 dX9_readNumber_111 (by decide) (fun c_111 => ?_) (fun c_111 => ?_)
              · skip
                refine lv_iload_n C.1 C.2.1 dX9_readNumber_120 rfl (lv_at hl 0 rfl) ?_
                refine g_iret C M hr hlk ?_ (Nat.le_of_ble_eq_true rfl) (Nat.le_of_ble_eq_true rfl) dX9_readNumber_121
                refine ⟨by rw [hdk], ?_⟩; unfold nmF; rw [hdk, hd]; rw [if_neg (fun h9 => c_87 (by rw [h9]))]; rw [if_neg (fun h9 => h9.elim (fun q => c_106 ((nI_ltI (a := 4) (by omega) (by omega)).mpr q)) (fun q => Int32.not_lt.mpr c_111 q))]
              · skip
                refine lv_aload_n C.1 C.2.1 dX9_readNumber_114 rfl (lv_at hl 1 rfl) ?_
                refine lv_iconst (v := 2) C.1 C.2.1 dX9_readNumber_115 (by decide) ?_
                refine lv_iload_n C.1 C.2.1 dX9_readNumber_116 rfl (lv_at hl 3 rfl) ?_
                refine g_callv M (g_runV (As := [.int 2, .int (nI (sk t n x0))]) (rest := []) C M 9 (x_trefuse l E σ Z ((sk t n x0) + k) w0 td ft 2 (nI (sk t n x0))) clX9_refuse ivX9_refuse lk9_40 (by decide) rfl rfl ⟨Nat.le_of_ble_eq_true rfl, Nat.le_of_ble_eq_true rfl⟩ hl.1 rfl (Nat.le_of_ble_eq_true rfl) dX9_readNumber_117 ⟨Nat.le_of_ble_eq_true rfl, Nat.le_of_ble_eq_true rfl⟩) (fun u H locs hR M => ?_)
                refine W.widen (k := 0) (n := 0) (Nat.le_of_ble_eq_true rfl) (Nat.le_of_ble_eq_true rfl) ?_
                subst hR
                have M : hM E A s H locs (tM σ ((sk t n x0) + k) w0 td (ftl ft (2 + 4 * (nI (sk t n x0))))) Z := M
                refine lv_iload_n C.1 C.2.1 dX9_readNumber_120 rfl (lv_at hl 0 rfl) ?_
                refine g_iret C M hr hlk ?_ (Nat.le_of_ble_eq_true rfl) (Nat.le_of_ble_eq_true rfl) dX9_readNumber_121
                refine ⟨by rw [hdk], ?_⟩; unfold nmF; rw [hdk, hd]; rw [if_neg (fun h9 => c_87 (by rw [h9]))]; rw [if_pos (Or.inr (Int32.not_le.mp c_111))]
          · skip
            refine lv_aload_n C.1 C.2.1 dX9_readNumber_90 rfl (lv_at hl 1 rfl) ?_
            refine lv_iconst (v := 1) C.1 C.2.1 dX9_readNumber_91 (by decide) ?_
            refine lv_iload_n C.1 C.2.1 dX9_readNumber_92 rfl (lv_at hl 3 rfl) ?_
            refine g_callv M (g_runV (As := [.int 1, .int (nI (sk t n x0))]) (rest := []) C M 9 (x_trefuse l E σ Z ((sk t n x0) + k) w0 td ft 1 (nI (sk t n x0))) clX9_refuse ivX9_refuse lk9_40 (by decide) rfl rfl ⟨Nat.le_of_ble_eq_true rfl, Nat.le_of_ble_eq_true rfl⟩ hl.1 rfl (Nat.le_of_ble_eq_true rfl) dX9_readNumber_93 ⟨Nat.le_of_ble_eq_true rfl, Nat.le_of_ble_eq_true rfl⟩) (fun u H locs hR M => ?_)
            refine W.widen (k := 0) (n := 0) (Nat.le_of_ble_eq_true rfl) (Nat.le_of_ble_eq_true rfl) ?_
            subst hR
            have M : hM E A s H locs (tM σ ((sk t n x0) + k) w0 td (ftl ft (1 + 4 * (nI (sk t n x0))))) Z := M
            refine lv_goto (tgt := 120) C.1 C.2.1 dX9_readNumber_96 (by decide) ?_
            refine lv_iload_n C.1 C.2.1 dX9_readNumber_120 rfl (lv_at hl 0 rfl) ?_
            refine g_iret C M hr hlk ?_ (Nat.le_of_ble_eq_true rfl) (Nat.le_of_ble_eq_true rfl) dX9_readNumber_121
            refine ⟨by rw [hdk], ?_⟩; unfold nmF; rw [hdk, hd]; rw [if_pos ((nI_eq (by omega) (by omega)).mp c_87)]
        · skip
          have c_38 : inB (t ((sk t n x0) + k)) 48 57 = true := bz_ne0.mp c_38
          refine lv_aload_n C.1 C.2.1 dX9_readNumber_41 rfl (lv_at hl 1 rfl) ?_
          refine g_getI C M 9 2 (by decide) rfl rfl (by decide) fl9_24 (v := nI ((sk t n x0) + k)) rfl dX9_readNumber_42 ?_
          refine lv_iload_n C.1 C.2.1 dX9_readNumber_45 rfl (lv_at hl 3 rfl) ?_
          refine lv_isub C.1 C.2.1 dX9_readNumber_46 ?_
          refine g_rei (v := nI k) (nI_subS _ _) ?_
          refine lv_iconst (v := 4) C.1 C.2.1 dX9_readNumber_47 (by decide) ?_
          refine lv_icmp_ge (tgt := 69) C.1 C.2.1 dX9_readNumber_48 (by decide) (fun c_48 => ?_) (fun c_48 => ?_)
          · skip
            have hk4 : ¬ k < 4 := by have := (nI_le9 (a := 4) (c := k) (by omega) (by omega)).mp c_48; omega
            refine lv_aload_n C.1 C.2.1 dX9_readNumber_69 rfl (lv_at hl 1 rfl) ?_
            refine lv_dup C.1 C.2.1 dX9_readNumber_70 rfl ?_
            refine g_getI C M 9 2 (by decide) rfl rfl (by decide) fl9_24 (v := nI ((sk t n x0) + k)) rfl dX9_readNumber_71 ?_
            refine lv_iconst (v := 1) C.1 C.2.1 dX9_readNumber_74 (by decide) ?_
            refine lv_iadd C.1 C.2.1 dX9_readNumber_75 ?_
            refine g_rei (v := nI (((sk t n x0) + k) + 1)) (nI_1 _) ?_
            refine g_putI C M 9 2 (by decide) rfl rfl (by decide) fl9_24 rfl rfl dX9_readNumber_76 (fun H locs M => ?_)
            rw [tM_p] at M
            refine lv_goto (tgt := 11) C.1 C.2.1 dX9_readNumber_79 (by decide) ?_
            have q2 : cV t (sk t n x0) k = cV t (sk t n x0) (k + 1) := by first | rfl | (show _ = cV _ _ (k + 1); rw [cV]; first | rw [if_pos hk4] | rw [if_neg hk4])
            have hl : lv_has ls 4 [(3, .int (cV t (sk t n x0) (k + 1))), (0, .ref (hO E 9)), (1, .int g), (2, .int (nI (sk t n x0)))] := by
              rw [← q2]
              exact lv_sub hl [0, 1, 2, 3] rfl
            have q3 : (tM σ (((sk t n x0) + k) + 1) w0 td ft) = (tM σ ((sk t n x0) + (k + 1)) w0 td ft) := by rfl
            rw [q3] at M
            exact ih11 (k + 1) hxn ((scn_s (P := fun c => inB c 48 57) hxn c_38).trans hs) (by omega) _ _ _ M hl
          · skip
            have hk4 : k < 4 := Nat.not_le.mp (fun h9 => c_48 ((nI_le9 (a := 4) (c := k) (by omega) (by omega)).mpr h9))
            refine lv_iload_n C.1 C.2.1 dX9_readNumber_51 rfl (lv_at hl 0 rfl) ?_
            refine lv_bipush (v := 10) C.1 C.2.1 dX9_readNumber_52 (by decide) ?_
            refine lv_imul C.1 C.2.1 dX9_readNumber_54 ?_
            refine lv_aload_n C.1 C.2.1 dX9_readNumber_55 rfl (lv_at hl 1 rfl) ?_
            refine g_getA C M 9 0 (by decide) rfl rfl (by decide) fl9_9 dX9_readNumber_56 ?_
            refine lv_aload_n C.1 C.2.1 dX9_readNumber_59 rfl (lv_at hl 1 rfl) ?_
            refine g_getI C M 9 2 (by decide) rfl rfl (by decide) fl9_24 (v := nI ((sk t n x0) + k)) rfl dX9_readNumber_60 ?_
            refine g_bald C M 9 0 (by decide) rfl ((sk t n x0) + k) (nI_clamp (by omega)) (vp_in_nI (by omega) (by decide)) (v := t ((sk t n x0) + k)) (congrFun ht _) dX9_readNumber_63 ?_
            refine lv_iadd C.1 C.2.1 dX9_readNumber_64 ?_
            refine lv_bipush (v := 48) C.1 C.2.1 dX9_readNumber_65 (by decide) ?_
            refine lv_isub C.1 C.2.1 dX9_readNumber_67 ?_
            refine lv_istore_n (lv' := [(3, .int ((((cV t (sk t n x0) k) * 10) + (t ((sk t n x0) + k))) - 48)), (0, .ref (hO E 9)), (1, .int g), (2, .int (nI (sk t n x0)))]) C.1 C.2.1 dX9_readNumber_68 rfl hl (by decide) rfl (fun ls hl => ?_)
            refine lv_aload_n C.1 C.2.1 dX9_readNumber_69 rfl (lv_at hl 1 rfl) ?_
            refine lv_dup C.1 C.2.1 dX9_readNumber_70 rfl ?_
            refine g_getI C M 9 2 (by decide) rfl rfl (by decide) fl9_24 (v := nI ((sk t n x0) + k)) rfl dX9_readNumber_71 ?_
            refine lv_iconst (v := 1) C.1 C.2.1 dX9_readNumber_74 (by decide) ?_
            refine lv_iadd C.1 C.2.1 dX9_readNumber_75 ?_
            refine g_rei (v := nI (((sk t n x0) + k) + 1)) (nI_1 _) ?_
            refine g_putI C M 9 2 (by decide) rfl rfl (by decide) fl9_24 rfl rfl dX9_readNumber_76 (fun H locs M => ?_)
            rw [tM_p] at M
            refine lv_goto (tgt := 11) C.1 C.2.1 dX9_readNumber_79 (by decide) ?_
            have q4 : (((cV t (sk t n x0) k) * 10) + (t ((sk t n x0) + k))) - 48 = cV t (sk t n x0) (k + 1) := by first | rfl | (show _ = cV _ _ (k + 1); rw [cV]; first | rw [if_pos hk4] | rw [if_neg hk4])
            have hl : lv_has ls 4 [(3, .int (cV t (sk t n x0) (k + 1))), (0, .ref (hO E 9)), (1, .int g), (2, .int (nI (sk t n x0)))] := by
              rw [← q4]
              exact lv_sub hl [0, 1, 2, 3] rfl
            have q5 : (tM σ (((sk t n x0) + k) + 1) w0 td ft) = (tM σ ((sk t n x0) + (k + 1)) w0 td ft) := by rfl
            rw [q5] at M
            exact ih11 (k + 1) hxn ((scn_s (P := fun c => inB c 48 57) hxn c_38).trans hs) (by omega) _ _ _ M hl
  have q6 : 0 = cV t (sk t n x0) 0 := by first | rfl | (show _ = cV _ _ (k + 1); rw [cV]; first | rw [if_pos hk4] | rw [if_neg hk4])
  have hl : lv_has ls 4 [(3, .int (cV t (sk t n x0) 0)), (0, .ref (hO E 9)), (1, .int g), (2, .int (nI (sk t n x0)))] := by
    rw [← q6]
    exact lv_sub hl [0, 2, 3, 1] rfl
  have q7 : (tM σ (sk t n x0) w0 td ft) = (tM σ ((sk t n x0) + 0) w0 td ft) := by rfl
  rw [q7] at M
  exact L11 ((n - ((sk t n x0) + 0)) + 1) 0 (scn_le hp) rfl (Nat.lt_succ_self _) _ _ _ M hl

set_option maxHeartbeats 4000000 in
set_option maxRecDepth 100000 in
theorem x_tsemi (l : Launch) (E : hEnv) (σ : hMem) (Z : va_W) (x0 w0 : Nat) (td ft : Int32) (n : Nat) (t : Nat → Int32) (hn : hI σ 9 1 = nI n) (ht : hA σ 9 0 0 = t) (hn3 : n ≤ 300) (hp : x0 ≤ n) : hMet l yX9_readSemicolon cX9_readSemicolon 1 none (1, 0, 0, 22) E (tM σ x0 w0 td ft) Z [.ref (hO E 9)] (hQv E (fun u => u = (if (sk t n x0) < n ∧ t (sk t n x0) = 59 then tM σ ((sk t n x0) + 1) w0 td ft else tM σ (sk t n x0) w0 td (ftl ft (1 + 4 * nI (sk t n x0))), Z))) := by
  refine hMet.of (by decide) (Nat.le_of_ble_eq_true rfl) (fun p e s m below meth c A ls C M hr hlk hl => ?_)
  have hl : lv_has ls 1 [(0, .ref (hO E 9))] := hl
  generalize s.heap = H at M ⊢
  generalize ([] : List Loc) = locs at M ⊢
  have hS9 : (sk t n x0) ≤ n := scn_le hp
  refine lv_aload_n C.1 C.2.1 dX9_readSemicolon_0 rfl (lv_at hl 0 rfl) ?_
  refine g_callv M (g_runV (As := []) (rest := []) C M 9 (x_tskip l E σ Z x0 w0 td ft n t hn ht hn3 hp) clX9_skipBlanks ivX9_skipBlanks lk9_33 (by decide) rfl rfl ⟨Nat.le_of_ble_eq_true rfl, Nat.le_of_ble_eq_true rfl⟩ hl.1 rfl (Nat.le_of_ble_eq_true rfl) dX9_readSemicolon_1 ⟨Nat.le_of_ble_eq_true rfl, Nat.le_of_ble_eq_true rfl⟩) (fun u H locs hR M => ?_)
  refine W.widen (k := 0) (n := 0) (Nat.le_of_ble_eq_true rfl) (Nat.le_of_ble_eq_true rfl) ?_
  subst hR
  have M : hM E A s H locs (tM σ (sk t n x0) w0 td ft) Z := M
  refine lv_aload_n C.1 C.2.1 dX9_readSemicolon_4 rfl (lv_at hl 0 rfl) ?_
  refine g_getI C M 9 2 (by decide) rfl rfl (by decide) fl9_24 (v := nI (sk t n x0)) rfl dX9_readSemicolon_5 ?_
  refine lv_aload_n C.1 C.2.1 dX9_readSemicolon_8 rfl (lv_at hl 0 rfl) ?_
  refine g_getI C M 9 1 (by decide) rfl rfl (by decide) fl9_15 (v := nI n) hn dX9_readSemicolon_9 ?_
  refine lv_icmp_ge (tgt := 42) C.1 C.2.1 dX9_readSemicolon_12 (by decide) (fun c_12 => ?_) (fun c_12 => ?_)
  · skip
    have hxn : n ≤ (sk t n x0) := ct_ge c_12
    refine lv_aload_n C.1 C.2.1 dX9_readSemicolon_42 rfl (lv_at hl 0 rfl) ?_
    refine lv_iconst (v := 1) C.1 C.2.1 dX9_readSemicolon_43 (by decide) ?_
    refine lv_aload_n C.1 C.2.1 dX9_readSemicolon_44 rfl (lv_at hl 0 rfl) ?_
    refine g_getI C M 9 2 (by decide) rfl rfl (by decide) fl9_24 (v := nI (sk t n x0)) rfl dX9_readSemicolon_45 ?_
    refine g_callv M (g_runV (As := [.int 1, .int (nI (sk t n x0))]) (rest := []) C M 9 (x_trefuse l E σ Z (sk t n x0) w0 td ft 1 (nI (sk t n x0))) clX9_refuse ivX9_refuse lk9_40 (by decide) rfl rfl ⟨Nat.le_of_ble_eq_true rfl, Nat.le_of_ble_eq_true rfl⟩ hl.1 rfl (Nat.le_of_ble_eq_true rfl) dX9_readSemicolon_48 ⟨Nat.le_of_ble_eq_true rfl, Nat.le_of_ble_eq_true rfl⟩) (fun u H locs hR M => ?_)
    refine W.widen (k := 0) (n := 0) (Nat.le_of_ble_eq_true rfl) (Nat.le_of_ble_eq_true rfl) ?_
    subst hR
    have M : hM E A s H locs (tM σ (sk t n x0) w0 td (ftl ft (1 + 4 * (nI (sk t n x0))))) Z := M
    refine g_vret C M hr hlk ?_ (Nat.le_of_ble_eq_true rfl) (Nat.le_of_ble_eq_true rfl) dX9_readSemicolon_51
    rw [if_neg (fun h9 => absurd h9.1 (by omega))]
  · skip
    have hxn : (sk t n x0) < n := ct_nge c_12
    refine lv_aload_n C.1 C.2.1 dX9_readSemicolon_15 rfl (lv_at hl 0 rfl) ?_
    refine g_getA C M 9 0 (by decide) rfl rfl (by decide) fl9_9 dX9_readSemicolon_16 ?_
    refine lv_aload_n C.1 C.2.1 dX9_readSemicolon_19 rfl (lv_at hl 0 rfl) ?_
    refine g_getI C M 9 2 (by decide) rfl rfl (by decide) fl9_24 (v := nI (sk t n x0)) rfl dX9_readSemicolon_20 ?_
    refine g_bald C M 9 0 (by decide) rfl (sk t n x0) (nI_clamp (by omega)) (vp_in_nI (by omega) (by decide)) (v := t (sk t n x0)) (congrFun ht _) dX9_readSemicolon_23 ?_
    refine lv_bipush (v := 59) C.1 C.2.1 dX9_readSemicolon_24 (by decide) ?_
    refine lv_icmp_ne (tgt := 42) C.1 C.2.1 dX9_readSemicolon_26 (by decide) (fun c_26 => ?_) (fun c_26 => ?_)
    · skip
      refine lv_aload_n C.1 C.2.1 dX9_readSemicolon_42 rfl (lv_at hl 0 rfl) ?_
      refine lv_iconst (v := 1) C.1 C.2.1 dX9_readSemicolon_43 (by decide) ?_
      refine lv_aload_n C.1 C.2.1 dX9_readSemicolon_44 rfl (lv_at hl 0 rfl) ?_
      refine g_getI C M 9 2 (by decide) rfl rfl (by decide) fl9_24 (v := nI (sk t n x0)) rfl dX9_readSemicolon_45 ?_
      refine g_callv M (g_runV (As := [.int 1, .int (nI (sk t n x0))]) (rest := []) C M 9 (x_trefuse l E σ Z (sk t n x0) w0 td ft 1 (nI (sk t n x0))) clX9_refuse ivX9_refuse lk9_40 (by decide) rfl rfl ⟨Nat.le_of_ble_eq_true rfl, Nat.le_of_ble_eq_true rfl⟩ hl.1 rfl (Nat.le_of_ble_eq_true rfl) dX9_readSemicolon_48 ⟨Nat.le_of_ble_eq_true rfl, Nat.le_of_ble_eq_true rfl⟩) (fun u H locs hR M => ?_)
      refine W.widen (k := 0) (n := 0) (Nat.le_of_ble_eq_true rfl) (Nat.le_of_ble_eq_true rfl) ?_
      subst hR
      have M : hM E A s H locs (tM σ (sk t n x0) w0 td (ftl ft (1 + 4 * (nI (sk t n x0))))) Z := M
      refine g_vret C M hr hlk ?_ (Nat.le_of_ble_eq_true rfl) (Nat.le_of_ble_eq_true rfl) dX9_readSemicolon_51
      rw [if_neg (fun h9 => c_26 h9.2)]
    · skip
      refine lv_aload_n C.1 C.2.1 dX9_readSemicolon_29 rfl (lv_at hl 0 rfl) ?_
      refine lv_dup C.1 C.2.1 dX9_readSemicolon_30 rfl ?_
      refine g_getI C M 9 2 (by decide) rfl rfl (by decide) fl9_24 (v := nI (sk t n x0)) rfl dX9_readSemicolon_31 ?_
      refine lv_iconst (v := 1) C.1 C.2.1 dX9_readSemicolon_34 (by decide) ?_
      refine lv_iadd C.1 C.2.1 dX9_readSemicolon_35 ?_
      refine g_rei (v := nI ((sk t n x0) + 1)) (nI_1 _) ?_
      refine g_putI C M 9 2 (by decide) rfl rfl (by decide) fl9_24 rfl rfl dX9_readSemicolon_36 (fun H locs M => ?_)
      rw [tM_p] at M
      refine lv_goto (tgt := 51) C.1 C.2.1 dX9_readSemicolon_39 (by decide) ?_
      refine g_vret C M hr hlk ?_ (Nat.le_of_ble_eq_true rfl) (Nat.le_of_ble_eq_true rfl) dX9_readSemicolon_51
      rw [if_pos ⟨hxn, c_26⟩]

set_option maxHeartbeats 4000000 in
set_option maxRecDepth 100000 in
theorem x_ttell (l : Launch) (E : hEnv) (σ : hMem) (Z : va_W) (x0 w0 : Nat) (td ft : Int32) (r9 : Int32) : hMet l yX9_tellOnce cX9_tellOnce 2 none (1, 0, 0, 22) E (tM σ x0 w0 td ft) Z [.ref (hO E 9), .int r9] (hQv E (fun u => u = (tM σ x0 w0 (tdF td r9) (ttF td ft w0 r9), Z))) := by
  refine hMet.of (by decide) (Nat.le_of_ble_eq_true rfl) (fun p e s m below meth c A ls C M hr hlk hl => ?_)
  have hl : lv_has ls 2 [(0, .ref (hO E 9)), (1, .int r9)] := hl
  generalize s.heap = H at M ⊢
  generalize ([] : List Loc) = locs at M ⊢
  refine lv_iload_n C.1 C.2.1 dX9_tellOnce_0 rfl (lv_at hl 1 rfl) ?_
  refine lv_if_ge (tgt := 5) C.1 C.2.1 dX9_tellOnce_1 (by decide) (fun c_1 => ?_) (fun c_1 => ?_)
  · skip
    refine lv_aload_n C.1 C.2.1 dX9_tellOnce_5 rfl (lv_at hl 0 rfl) ?_
    refine g_getI C M 9 4 (by decide) rfl rfl (by decide) fl9_27 (v := td) rfl dX9_tellOnce_6 ?_
    refine lv_iconst (v := 1) C.1 C.2.1 dX9_tellOnce_9 (by decide) ?_
    refine lv_iload_n C.1 C.2.1 dX9_tellOnce_10 rfl (lv_at hl 1 rfl) ?_
    refine lv_ishl C.1 C.2.1 dX9_tellOnce_11 ?_
    refine lv_iand C.1 C.2.1 dX9_tellOnce_12 ?_
    refine lv_if_eq (tgt := 25) C.1 C.2.1 dX9_tellOnce_13 (by decide) (fun c_13 => ?_) (fun c_13 => ?_)
    · skip
      refine lv_aload_n C.1 C.2.1 dX9_tellOnce_25 rfl (lv_at hl 0 rfl) ?_
      refine lv_dup C.1 C.2.1 dX9_tellOnce_26 rfl ?_
      refine g_getI C M 9 4 (by decide) rfl rfl (by decide) fl9_27 (v := td) rfl dX9_tellOnce_27 ?_
      refine lv_iconst (v := 1) C.1 C.2.1 dX9_tellOnce_30 (by decide) ?_
      refine lv_iload_n C.1 C.2.1 dX9_tellOnce_31 rfl (lv_at hl 1 rfl) ?_
      refine lv_ishl C.1 C.2.1 dX9_tellOnce_32 ?_
      refine lv_ior C.1 C.2.1 dX9_tellOnce_33 ?_
      refine g_putI C M 9 4 (by decide) rfl rfl (by decide) fl9_27 rfl rfl dX9_tellOnce_34 (fun H locs M => ?_)
      rw [tM_t] at M
      refine g_vret C M hr hlk ?_ (Nat.le_of_ble_eq_true rfl) (Nat.le_of_ble_eq_true rfl) dX9_tellOnce_37
      unfold tdF ttF; rw [if_pos c_1, if_pos c_1, if_pos c_13]
    · skip
      refine lv_aload_n C.1 C.2.1 dX9_tellOnce_16 rfl (lv_at hl 0 rfl) ?_
      refine lv_iconst (v := 3) C.1 C.2.1 dX9_tellOnce_17 (by decide) ?_
      refine lv_aload_n C.1 C.2.1 dX9_tellOnce_18 rfl (lv_at hl 0 rfl) ?_
      refine g_getI C M 9 3 (by decide) rfl rfl (by decide) fl9_92 (v := nI w0) rfl dX9_tellOnce_19 ?_
      refine g_callv M (g_runV (As := [.int 3, .int (nI w0)]) (rest := []) C M 9 (x_trefuse l E σ Z x0 w0 td ft 3 (nI w0)) clX9_refuse ivX9_refuse lk9_40 (by decide) rfl rfl ⟨Nat.le_of_ble_eq_true rfl, Nat.le_of_ble_eq_true rfl⟩ hl.1 rfl (Nat.le_of_ble_eq_true rfl) dX9_tellOnce_22 ⟨Nat.le_of_ble_eq_true rfl, Nat.le_of_ble_eq_true rfl⟩) (fun u H locs hR M => ?_)
      refine W.widen (k := 0) (n := 0) (Nat.le_of_ble_eq_true rfl) (Nat.le_of_ble_eq_true rfl) ?_
      subst hR
      have M : hM E A s H locs (tM σ x0 w0 td (ftl ft (3 + 4 * (nI w0)))) Z := M
      refine lv_aload_n C.1 C.2.1 dX9_tellOnce_25 rfl (lv_at hl 0 rfl) ?_
      refine lv_dup C.1 C.2.1 dX9_tellOnce_26 rfl ?_
      refine g_getI C M 9 4 (by decide) rfl rfl (by decide) fl9_27 (v := td) rfl dX9_tellOnce_27 ?_
      refine lv_iconst (v := 1) C.1 C.2.1 dX9_tellOnce_30 (by decide) ?_
      refine lv_iload_n C.1 C.2.1 dX9_tellOnce_31 rfl (lv_at hl 1 rfl) ?_
      refine lv_ishl C.1 C.2.1 dX9_tellOnce_32 ?_
      refine lv_ior C.1 C.2.1 dX9_tellOnce_33 ?_
      refine g_putI C M 9 4 (by decide) rfl rfl (by decide) fl9_27 rfl rfl dX9_tellOnce_34 (fun H locs M => ?_)
      rw [tM_t] at M
      refine g_vret C M hr hlk ?_ (Nat.le_of_ble_eq_true rfl) (Nat.le_of_ble_eq_true rfl) dX9_tellOnce_37
      unfold tdF ttF; rw [if_pos c_1, if_pos c_1, if_neg c_13]
  · skip
    refine g_vret C M hr hlk ?_ (Nat.le_of_ble_eq_true rfl) (Nat.le_of_ble_eq_true rfl) dX9_tellOnce_4
    unfold tdF ttF; rw [if_neg c_1, if_neg c_1]
