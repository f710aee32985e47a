def mPut (σ : hMem) (t : Nat) (x : Int32) : hMem := sI (sA (sI (sA (sI (sA (sI (sA σ 43 30 0 (upd (hA σ 43 30 0) t ((x >>> (24 &&& 31)).toInt8.toInt32))) 43 31 (nI (t + 1))) 43 30 0 (upd (upd (hA σ 43 30 0) t ((x >>> (24 &&& 31)).toInt8.toInt32)) (t + 1) ((x >>> (16 &&& 31)).toInt8.toInt32))) 43 31 (nI ((t + 1) + 1))) 43 30 0 (upd (upd (upd (hA σ 43 30 0) t ((x >>> (24 &&& 31)).toInt8.toInt32)) (t + 1) ((x >>> (16 &&& 31)).toInt8.toInt32)) ((t + 1) + 1) ((x >>> (8 &&& 31)).toInt8.toInt32))) 43 31 (nI (((t + 1) + 1) + 1))) 43 30 0 (upd (upd (upd (upd (hA σ 43 30 0) t ((x >>> (24 &&& 31)).toInt8.toInt32)) (t + 1) ((x >>> (16 &&& 31)).toInt8.toInt32)) ((t + 1) + 1) ((x >>> (8 &&& 31)).toInt8.toInt32)) (((t + 1) + 1) + 1) ((x >>> (0 &&& 31)).toInt8.toInt32))) 43 31 (nI (t + 1 + 1 + 1 + 1))

set_option maxHeartbeats 4000000 in
set_option maxRecDepth 100000 in
theorem m_put (l : Launch) (E : hEnv) (σ : hMem) (Z : va_W) (t : Nat) (ht : hI σ 43 31 = nI t) (ht4 : t + 4 ≤ 300) (x : Int32) : hMet l yX12_put cX12_put 3 none (0, 0, 0, 0) E σ Z [.ref (hO E 43), .int x] (hQv E (fun u => u = (mPut σ t x, Z))) := by
  refine hMet.of (by decide) (Nat.le_of_ble_eq_true rfl) (fun p e s m below meth c A ls C M hr hlk hl => ?_)
  have hl : lv_has ls 3 [(0, .ref (hO E 43)), (1, .int x)] := hl
  refine lv_bipush (v := 24) C.1 C.2.1 dX12_put_0 (by decide) ?_
  refine lv_istore_n (lv' := [(2, .int 24), (0, .ref (hO E 43)), (1, .int x)]) C.1 C.2.1 dX12_put_2 rfl hl (by decide) rfl (fun ls hl => ?_)
  refine lv_iload_n C.1 C.2.1 dX12_put_3 rfl (lv_at hl 0 rfl) ?_
  refine lv_if_lt (tgt := 36) C.1 C.2.1 dX12_put_4 (by decide) (fun h9 => absurd h9 (by decide)) (fun _ => ?_)
  refine lv_aload_n C.1 C.2.1 dX12_put_7 rfl (lv_at hl 1 rfl) ?_
  refine g_getA C M 43 30 (by decide) rfl rfl (by decide) fl12_81 dX12_put_8 ?_
  refine lv_aload_n C.1 C.2.1 dX12_put_11 rfl (lv_at hl 1 rfl) ?_
  refine g_getI C M 43 31 (by decide) rfl rfl (by decide) fl12_166 (v := nI t) ht dX12_put_12 ?_
  refine lv_iload_n C.1 C.2.1 dX12_put_15 rfl (lv_at hl 2 rfl) ?_
  refine lv_iload_n C.1 C.2.1 dX12_put_16 rfl (lv_at hl 0 rfl) ?_
  refine lv_ishr C.1 C.2.1 dX12_put_17 ?_
  refine lv_i2b C.1 C.2.1 dX12_put_18 rfl ?_
  refine g_bast C M 43 30 (by decide) rfl (pk_vb _) t (nI_clamp (by omega)) (vp_in_nI (by omega) (by decide)) dX12_put_19 (fun H locs M => ?_)
  have M : hM E A s H locs (sA σ 43 30 0 (upd (hA σ 43 30 0) t ((x >>> (24 &&& 31)).toInt8.toInt32))) Z := M
  refine lv_aload_n C.1 C.2.1 dX12_put_20 rfl (lv_at hl 1 rfl) ?_
  refine lv_dup C.1 C.2.1 dX12_put_21 rfl ?_
  refine g_getI C M 43 31 (by decide) rfl rfl (by decide) fl12_166 (v := nI t) ht dX12_put_22 ?_
  refine lv_iconst (v := 1) C.1 C.2.1 dX12_put_25 (by decide) ?_
  refine lv_iadd C.1 C.2.1 dX12_put_26 ?_
  refine g_rei (v := nI (t + 1)) (nI_1 _) ?_
  refine g_putI C M 43 31 (by decide) rfl rfl (by decide) fl12_166 rfl rfl dX12_put_27 (fun H locs M => ?_)
  refine lv_iinc (v := 16) (lv' := [(2, .int 16), (0, .ref (hO E 43)), (1, .int x)]) C.1 C.2.1 dX12_put_30 hl (k := 0) rfl (by decide) (by decide) rfl (fun ls hl => ?_)
  refine lv_goto (tgt := 3) C.1 C.2.1 dX12_put_33 (by decide) ?_
  refine lv_iload_n C.1 C.2.1 dX12_put_3 rfl (lv_at hl 0 rfl) ?_
  refine lv_if_lt (tgt := 36) C.1 C.2.1 dX12_put_4 (by decide) (fun h9 => absurd h9 (by decide)) (fun _ => ?_)
  refine lv_aload_n C.1 C.2.1 dX12_put_7 rfl (lv_at hl 1 rfl) ?_
  refine g_getA C M 43 30 (by decide) rfl rfl (by decide) fl12_81 dX12_put_8 ?_
  refine lv_aload_n C.1 C.2.1 dX12_put_11 rfl (lv_at hl 1 rfl) ?_
  refine g_getI C M 43 31 (by decide) rfl rfl (by decide) fl12_166 (v := nI (t + 1)) rfl dX12_put_12 ?_
  refine lv_iload_n C.1 C.2.1 dX12_put_15 rfl (lv_at hl 2 rfl) ?_
  refine lv_iload_n C.1 C.2.1 dX12_put_16 rfl (lv_at hl 0 rfl) ?_
  refine lv_ishr C.1 C.2.1 dX12_put_17 ?_
  refine lv_i2b C.1 C.2.1 dX12_put_18 rfl ?_
  refine g_bast C M 43 30 (by decide) rfl (pk_vb _) (t + 1) (nI_clamp (by omega)) (vp_in_nI (by omega) (by decide)) dX12_put_19 (fun H locs M => ?_)
  have M : hM E A s H locs (sA (sI (sA σ 43 30 0 (upd (hA σ 43 30 0) t ((x >>> (24 &&& 31)).toInt8.toInt32))) 43 31 (nI (t + 1))) 43 30 0 (upd (upd (hA σ 43 30 0) t ((x >>> (24 &&& 31)).toInt8.toInt32)) (t + 1) ((x >>> (16 &&& 31)).toInt8.toInt32))) Z := M
  refine lv_aload_n C.1 C.2.1 dX12_put_20 rfl (lv_at hl 1 rfl) ?_
  refine lv_dup C.1 C.2.1 dX12_put_21 rfl ?_
  refine g_getI C M 43 31 (by decide) rfl rfl (by decide) fl12_166 (v := nI (t + 1)) rfl dX12_put_22 ?_
  refine lv_iconst (v := 1) C.1 C.2.1 dX12_put_25 (by decide) ?_
  refine lv_iadd C.1 C.2.1 dX12_put_26 ?_
  refine g_rei (v := nI ((t + 1) + 1)) (nI_1 _) ?_
  refine g_putI C M 43 31 (by decide) rfl rfl (by decide) fl12_166 rfl rfl dX12_put_27 (fun H locs M => ?_)
  refine lv_iinc (v := 8) (lv' := [(2, .int 8), (0, .ref (hO E 43)), (1, .int x)]) C.1 C.2.1 dX12_put_30 hl (k := 0) rfl (by decide) (by decide) rfl (fun ls hl => ?_)
  refine lv_goto (tgt := 3) C.1 C.2.1 dX12_put_33 (by decide) ?_
  refine lv_iload_n C.1 C.2.1 dX12_put_3 rfl (lv_at hl 0 rfl) ?_
  refine lv_if_lt (tgt := 36) C.1 C.2.1 dX12_put_4 (by decide) (fun h9 => absurd h9 (by decide)) (fun _ => ?_)
  refine lv_aload_n C.1 C.2.1 dX12_put_7 rfl (lv_at hl 1 rfl) ?_
  refine g_getA C M 43 30 (by decide) rfl rfl (by decide) fl12_81 dX12_put_8 ?_
  refine lv_aload_n C.1 C.2.1 dX12_put_11 rfl (lv_at hl 1 rfl) ?_
  refine g_getI C M 43 31 (by decide) rfl rfl (by decide) fl12_166 (v := nI ((t + 1) + 1)) rfl dX12_put_12 ?_
  refine lv_iload_n C.1 C.2.1 dX12_put_15 rfl (lv_at hl 2 rfl) ?_
  refine lv_iload_n C.1 C.2.1 dX12_put_16 rfl (lv_at hl 0 rfl) ?_
  refine lv_ishr C.1 C.2.1 dX12_put_17 ?_
  refine lv_i2b C.1 C.2.1 dX12_put_18 rfl ?_
  refine g_bast C M 43 30 (by decide) rfl (pk_vb _) ((t + 1) + 1) (nI_clamp (by omega)) (vp_in_nI (by omega) (by decide)) dX12_put_19 (fun H locs M => ?_)
  have M : hM E A s H locs (sA (sI (sA (sI (sA σ 43 30 0 (upd (hA σ 43 30 0) t ((x >>> (24 &&& 31)).toInt8.toInt32))) 43 31 (nI (t + 1))) 43 30 0 (upd (upd (hA σ 43 30 0) t ((x >>> (24 &&& 31)).toInt8.toInt32)) (t + 1) ((x >>> (16 &&& 31)).toInt8.toInt32))) 43 31 (nI ((t + 1) + 1))) 43 30 0 (upd (upd (upd (hA σ 43 30 0) t ((x >>> (24 &&& 31)).toInt8.toInt32)) (t + 1) ((x >>> (16 &&& 31)).toInt8.toInt32)) ((t + 1) + 1) ((x >>> (8 &&& 31)).toInt8.toInt32))) Z := M
  refine lv_aload_n C.1 C.2.1 dX12_put_20 rfl (lv_at hl 1 rfl) ?_
  refine lv_dup C.1 C.2.1 dX12_put_21 rfl ?_
  refine g_getI C M 43 31 (by decide) rfl rfl (by decide) fl12_166 (v := nI ((t + 1) + 1)) rfl dX12_put_22 ?_
  refine lv_iconst (v := 1) C.1 C.2.1 dX12_put_25 (by decide) ?_
  refine lv_iadd C.1 C.2.1 dX12_put_26 ?_
  refine g_rei (v := nI (((t + 1) + 1) + 1)) (nI_1 _) ?_
  refine g_putI C M 43 31 (by decide) rfl rfl (by decide) fl12_166 rfl rfl dX12_put_27 (fun H locs M => ?_)
  refine lv_iinc (v := 0) (lv' := [(2, .int 0), (0, .ref (hO E 43)), (1, .int x)]) C.1 C.2.1 dX12_put_30 hl (k := 0) rfl (by decide) (by decide) rfl (fun ls hl => ?_)
  refine lv_goto (tgt := 3) C.1 C.2.1 dX12_put_33 (by decide) ?_
  refine lv_iload_n C.1 C.2.1 dX12_put_3 rfl (lv_at hl 0 rfl) ?_
  refine lv_if_lt (tgt := 36) C.1 C.2.1 dX12_put_4 (by decide) (fun h9 => absurd h9 (by decide)) (fun _ => ?_)
  refine lv_aload_n C.1 C.2.1 dX12_put_7 rfl (lv_at hl 1 rfl) ?_
  refine g_getA C M 43 30 (by decide) rfl rfl (by decide) fl12_81 dX12_put_8 ?_
  refine lv_aload_n C.1 C.2.1 dX12_put_11 rfl (lv_at hl 1 rfl) ?_
  refine g_getI C M 43 31 (by decide) rfl rfl (by decide) fl12_166 (v := nI (((t + 1) + 1) + 1)) rfl dX12_put_12 ?_
  refine lv_iload_n C.1 C.2.1 dX12_put_15 rfl (lv_at hl 2 rfl) ?_
  refine lv_iload_n C.1 C.2.1 dX12_put_16 rfl (lv_at hl 0 rfl) ?_
  refine lv_ishr C.1 C.2.1 dX12_put_17 ?_
  refine lv_i2b C.1 C.2.1 dX12_put_18 rfl ?_
  refine g_bast C M 43 30 (by decide) rfl (pk_vb _) (((t + 1) + 1) + 1) (nI_clamp (by omega)) (vp_in_nI (by omega) (by decide)) dX12_put_19 (fun H locs M => ?_)
  have M : hM E A s H locs (sA (sI (sA (sI (sA (sI (sA σ 43 30 0 (upd (hA σ 43 30 0) t ((x >>> (24 &&& 31)).toInt8.toInt32))) 43 31 (nI (t + 1))) 43 30 0 (upd (upd (hA σ 43 30 0) t ((x >>> (24 &&& 31)).toInt8.toInt32)) (t + 1) ((x >>> (16 &&& 31)).toInt8.toInt32))) 43 31 (nI ((t + 1) + 1))) 43 30 0 (upd (upd (upd (hA σ 43 30 0) t ((x >>> (24 &&& 31)).toInt8.toInt32)) (t + 1) ((x >>> (16 &&& 31)).toInt8.toInt32)) ((t + 1) + 1) ((x >>> (8 &&& 31)).toInt8.toInt32))) 43 31 (nI (((t + 1) + 1) + 1))) 43 30 0 (upd (upd (upd (upd (hA σ 43 30 0) t ((x >>> (24 &&& 31)).toInt8.toInt32)) (t + 1) ((x >>> (16 &&& 31)).toInt8.toInt32)) ((t + 1) + 1) ((x >>> (8 &&& 31)).toInt8.toInt32)) (((t + 1) + 1) + 1) ((x >>> (0 &&& 31)).toInt8.toInt32))) Z := M
  refine lv_aload_n C.1 C.2.1 dX12_put_20 rfl (lv_at hl 1 rfl) ?_
  refine lv_dup C.1 C.2.1 dX12_put_21 rfl ?_
  refine g_getI C M 43 31 (by decide) rfl rfl (by decide) fl12_166 (v := nI (((t + 1) + 1) + 1)) rfl dX12_put_22 ?_
  refine lv_iconst (v := 1) C.1 C.2.1 dX12_put_25 (by decide) ?_
  refine lv_iadd C.1 C.2.1 dX12_put_26 ?_
  refine g_rei (v := nI ((((t + 1) + 1) + 1) + 1)) (nI_1 _) ?_
  refine g_putI C M 43 31 (by decide) rfl rfl (by decide) fl12_166 rfl rfl dX12_put_27 (fun H locs M => ?_)
  refine lv_iinc (v := (-8)) (lv' := [(2, .int (-8)), (0, .ref (hO E 43)), (1, .int x)]) C.1 C.2.1 dX12_put_30 hl (k := 0) rfl (by decide) (by decide) rfl (fun ls hl => ?_)
  refine lv_goto (tgt := 3) C.1 C.2.1 dX12_put_33 (by decide) ?_
  refine lv_iload_n C.1 C.2.1 dX12_put_3 rfl (lv_at hl 0 rfl) ?_
  refine lv_if_lt (tgt := 36) C.1 C.2.1 dX12_put_4 (by decide) (fun _ => ?_) (fun h9 => absurd h9 (by decide))
  refine g_vret C M hr hlk ?_ (Nat.le_of_ble_eq_true rfl) (Nat.le_of_ble_eq_true rfl) dX12_put_36
  rfl

theorem mPut_t (σ : hMem) (t : Nat) (x : Int32) : hI (mPut σ t x) 43 31 = nI (t + 4) := rfl
def mFeed (σ : hMem) (t : Nat) (a b c d e : Int32) : hMem := mPut (mPut (mPut (mPut (mPut σ t a) (t + 4) b) (t + 4 + 4) c) (t + 4 + 4 + 4) d) (t + 4 + 4 + 4 + 4) e

set_option maxHeartbeats 4000000 in
set_option maxRecDepth 100000 in
theorem m_feed (l : Launch) (E : hEnv) (σ : hMem) (Z : va_W) (t : Nat) (ht : hI σ 43 31 = nI t) (ht3 : t ≤ 300) (a9 b9 c9 d9 e9 : Int32) : hMet l yX12_feed cX12_feed 6 (some .int) (1, 0, 0, 22) E σ Z [.ref (hO E 43), .int a9, .int b9, .int c9, .int d9, .int e9] (hQi E (fun r u => r = (if t + 20 ≤ 300 then nI (t + 20) else -1) ∧ u = (if t + 20 ≤ 300 then mFeed σ t a9 b9 c9 d9 e9 else σ, Z))) := by
  refine hMet.of (by decide) (Nat.le_of_ble_eq_true rfl) (fun p e s m below meth c A ls C M hr hlk hl => ?_)
  have hl : lv_has ls 6 [(0, .ref (hO E 43)), (1, .int a9), (2, .int b9), (3, .int c9), (4, .int d9), (5, .int e9)] := hl
  refine lv_aload_n C.1 C.2.1 dX12_feed_0 rfl (lv_at hl 0 rfl) ?_
  refine g_getI C M 43 31 (by decide) rfl rfl (by decide) fl12_166 (v := nI t) ht dX12_feed_1 ?_
  refine lv_bipush (v := 20) C.1 C.2.1 dX12_feed_4 (by decide) ?_
  refine lv_iadd C.1 C.2.1 dX12_feed_6 ?_
  refine g_rei (v := nI (t + 20)) (nI_add _ 20) ?_
  refine lv_sipush (v := 300) C.1 C.2.1 dX12_feed_7 (by decide) ?_
  refine lv_icmp_le (tgt := 15) C.1 C.2.1 dX12_feed_10 (by decide) (fun c_10 => ?_) (fun c_10 => ?_)
  · skip
    have h20 : t + 20 ≤ 300 := ct_ge c_10
    refine lv_aload_n C.1 C.2.1 dX12_feed_15 rfl (lv_at hl 0 rfl) ?_
    refine lv_iload_n C.1 C.2.1 dX12_feed_16 rfl (lv_at hl 1 rfl) ?_
    refine g_callv M (g_runV (As := [.int a9]) (rest := []) C M 43 (m_put l E σ Z t ht (by omega) a9) clX12_put ivX12_put lk12_169 (by decide) rfl rfl ⟨Nat.le_of_ble_eq_true rfl, Nat.le_of_ble_eq_true rfl⟩ hl.1 rfl (Nat.le_of_ble_eq_true rfl) dX12_feed_17 ⟨Nat.le_of_ble_eq_true rfl, Nat.le_of_ble_eq_true rfl⟩) (fun u H locs hR M => ?_)
    refine W.widen (k := 0) (n := 0) (Nat.le_of_ble_eq_true rfl) (Nat.le_of_ble_eq_true rfl) ?_
    subst hR
    have M : hM E A s H locs (mPut σ t a9) Z := M
    refine lv_aload_n C.1 C.2.1 dX12_feed_20 rfl (lv_at hl 0 rfl) ?_
    refine lv_iload_n C.1 C.2.1 dX12_feed_21 rfl (lv_at hl 2 rfl) ?_
    refine g_callv M (g_runV (As := [.int b9]) (rest := []) C M 43 (m_put l E (mPut σ t a9) Z (t + 4) (mPut_t _ _ _) (by omega) b9) clX12_put ivX12_put lk12_169 (by decide) rfl rfl ⟨Nat.le_of_ble_eq_true rfl, Nat.le_of_ble_eq_true rfl⟩ hl.1 rfl (Nat.le_of_ble_eq_true rfl) dX12_feed_22 ⟨Nat.le_of_ble_eq_true rfl, Nat.le_of_ble_eq_true rfl⟩) (fun u H locs hR M => ?_)
    refine W.widen (k := 0) (n := 0) (Nat.le_of_ble_eq_true rfl) (Nat.le_of_ble_eq_true rfl) ?_
    subst hR
    have M : hM E A s H locs (mPut (mPut σ t a9) (t + 4) b9) Z := M
    refine lv_aload_n C.1 C.2.1 dX12_feed_25 rfl (lv_at hl 0 rfl) ?_
    refine lv_iload_n C.1 C.2.1 dX12_feed_26 rfl (lv_at hl 3 rfl) ?_
    refine g_callv M (g_runV (As := [.int c9]) (rest := []) C M 43 (m_put l E (mPut (mPut σ t a9) (t + 4) b9) Z (t + 4 + 4) (mPut_t _ _ _) (by omega) c9) clX12_put ivX12_put lk12_169 (by decide) rfl rfl ⟨Nat.le_of_ble_eq_true rfl, Nat.le_of_ble_eq_true rfl⟩ hl.1 rfl (Nat.le_of_ble_eq_true rfl) dX12_feed_27 ⟨Nat.le_of_ble_eq_true rfl, Nat.le_of_ble_eq_true rfl⟩) (fun u H locs hR M => ?_)
    refine W.widen (k := 0) (n := 0) (Nat.le_of_ble_eq_true rfl) (Nat.le_of_ble_eq_true rfl) ?_
    subst hR
    have M : hM E A s H locs (mPut (mPut (mPut σ t a9) (t + 4) b9) (t + 4 + 4) c9) Z := M
    refine lv_aload_n C.1 C.2.1 dX12_feed_30 rfl (lv_at hl 0 rfl) ?_
    refine lv_iload C.1 C.2.1 dX12_feed_31 (lv_at hl 4 rfl) ?_
    refine g_callv M (g_runV (As := [.int d9]) (rest := []) C M 43 (m_put l E (mPut (mPut (mPut σ t a9) (t + 4) b9) (t + 4 + 4) c9) Z (t + 4 + 4 + 4) (mPut_t _ _ _) (by omega) d9) clX12_put ivX12_put lk12_169 (by decide) rfl rfl ⟨Nat.le_of_ble_eq_true rfl, Nat.le_of_ble_eq_true rfl⟩ hl.1 rfl (Nat.le_of_ble_eq_true rfl) dX12_feed_33 ⟨Nat.le_of_ble_eq_true rfl, Nat.le_of_ble_eq_true rfl⟩) (fun u H locs hR M => ?_)
    refine W.widen (k := 0) (n := 0) (Nat.le_of_ble_eq_true rfl) (Nat.le_of_ble_eq_true rfl) ?_
    subst hR
    have M : hM E A s H locs (mPut (mPut (mPut (mPut σ t a9) (t + 4) b9) (t + 4 + 4) c9) (t + 4 + 4 + 4) d9) Z := M
    refine lv_aload_n C.1 C.2.1 dX12_feed_36 rfl (lv_at hl 0 rfl) ?_
    refine lv_iload C.1 C.2.1 dX12_feed_37 (lv_at hl 5 rfl) ?_
    refine g_callv M (g_runV (As := [.int e9]) (rest := []) C M 43 (m_put l E (mPut (mPut (mPut (mPut σ t a9) (t + 4) b9) (t + 4 + 4) c9) (t + 4 + 4 + 4) d9) Z (t + 4 + 4 + 4 + 4) (mPut_t _ _ _) (by omega) e9) clX12_put ivX12_put lk12_169 (by decide) rfl rfl ⟨Nat.le_of_ble_eq_true rfl, Nat.le_of_ble_eq_true rfl⟩ hl.1 rfl (Nat.le_of_ble_eq_true rfl) dX12_feed_39 ⟨Nat.le_of_ble_eq_true rfl, Nat.le_of_ble_eq_true rfl⟩) (fun u H locs hR M => ?_)
    refine W.widen (k := 0) (n := 0) (Nat.le_of_ble_eq_true rfl) (Nat.le_of_ble_eq_true rfl) ?_
    subst hR
    have M : hM E A s H locs (mPut (mPut (mPut (mPut (mPut σ t a9) (t + 4) b9) (t + 4 + 4) c9) (t + 4 + 4 + 4) d9) (t + 4 + 4 + 4 + 4) e9) Z := M
    refine lv_aload_n C.1 C.2.1 dX12_feed_42 rfl (lv_at hl 0 rfl) ?_
    refine g_getI C M 43 31 (by decide) rfl rfl (by decide) fl12_166 (v := nI (t + 20)) (mPut_t _ _ _) dX12_feed_43 ?_
    refine g_iret C M hr hlk ?_ (Nat.le_of_ble_eq_true rfl) (Nat.le_of_ble_eq_true rfl) dX12_feed_46
    rw [if_pos h20, if_pos h20]; exact ⟨rfl, rfl⟩
  · skip
    have h20 : ¬ t + 20 ≤ 300 := by have := ct_nge (n := t + 20) (k := 300) c_10; omega
    refine lv_iconst (v := (-1)) C.1 C.2.1 dX12_feed_13 (by decide) ?_
    refine g_iret C M hr hlk ?_ (Nat.le_of_ble_eq_true rfl) (Nat.le_of_ble_eq_true rfl) dX12_feed_14
    rw [if_neg h20, if_neg h20]; exact ⟨rfl, rfl⟩
