set_option maxHeartbeats 4000000 in
set_option maxRecDepth 100000 in
theorem m_like (l : Launch) (E : hEnv) (σ : hMem) (Z : va_W) (n : Nat) (hn : hI σ 43 49 = nI n) (hn40 : n ≤ 40) (k : Int32) : hMet l yX12_like cX12_like 2 (some .int) (1, 0, 0, 22) E σ Z [.ref (hO E 43), .int k] (hQi E (fun r u => r = (if ¬ hI σ 43 47 = 0 ∧ inB k 0 (nI n - 1) = true then hA σ 43 52 0 k.toNatClampNeg else -1) ∧ u = (σ, Z))) := by
  refine hMet.of (by decide) (Nat.le_of_ble_eq_true rfl) (fun p e s m below meth c A ls C M hr hlk hl => ?_)
  have hl : lv_has ls 2 [(0, .ref (hO E 43)), (1, .int k)] := hl
  refine lv_aload_n C.1 C.2.1 dX12_like_0 rfl (lv_at hl 0 rfl) ?_
  refine g_getI C M 43 47 (by decide) rfl rfl (by decide) fl12_272 (v := hI σ 43 47) rfl dX12_like_1 ?_
  refine lv_if_eq (tgt := 30) C.1 C.2.1 dX12_like_4 (by decide) (fun c_4 => ?_) (fun c_4 => ?_)
  · skip
    refine lv_iconst (v := (-1)) C.1 C.2.1 dX12_like_30 (by decide) ?_
    refine g_iret C M hr hlk ?_ (Nat.le_of_ble_eq_true rfl) (Nat.le_of_ble_eq_true rfl) dX12_like_31
    simp only [bz, c_4, not_false_eq_true, not_true_eq_false, and_self, and_true, true_and, and_false, false_and, or_true, true_or, or_false, false_or, Bool.false_eq_true, if_true, if_false, ↓reduceIte]
  · skip
    refine lv_iload_n C.1 C.2.1 dX12_like_7 rfl (lv_at hl 1 rfl) ?_
    refine lv_iconst (v := 0) C.1 C.2.1 dX12_like_8 (by decide) ?_
    refine lv_aload_n C.1 C.2.1 dX12_like_9 rfl (lv_at hl 0 rfl) ?_
    refine g_getI C M 43 49 (by decide) rfl rfl (by decide) fl12_269 (v := nI n) hn dX12_like_10 ?_
    refine lv_iconst (v := 1) C.1 C.2.1 dX12_like_13 (by decide) ?_
    refine lv_isub C.1 C.2.1 dX12_like_14 ?_
    refine g_calli M (g_runS (As := [.int k, .int 0, .int ((nI n) - 1)]) (rest := []) C M (m_in l E σ Z k 0 ((nI n) - 1)) clX12_in stX12_in lk12_131 rfl ⟨Nat.le_of_ble_eq_true rfl, Nat.le_of_ble_eq_true rfl⟩ hl.1 rfl (Nat.le_of_ble_eq_true rfl) dX12_like_15 ⟨Nat.le_of_ble_eq_true rfl, Nat.le_of_ble_eq_true rfl⟩) (fun r1 u H locs hR M => ?_)
    refine W.widen (k := 0) (n := 0) (Nat.le_of_ble_eq_true rfl) (Nat.le_of_ble_eq_true rfl) ?_
    obtain ⟨rfl, rfl⟩ := hR
    have M : hM E A s H locs σ Z := M
    refine lv_if_eq (tgt := 30) C.1 C.2.1 dX12_like_18 (by decide) (fun c_18 => ?_) (fun c_18 => ?_)
    · skip
      have c_18 : ¬ inB k 0 ((nI n) - 1) = true := bz_0.mp c_18
      refine lv_iconst (v := (-1)) C.1 C.2.1 dX12_like_30 (by decide) ?_
      refine g_iret C M hr hlk ?_ (Nat.le_of_ble_eq_true rfl) (Nat.le_of_ble_eq_true rfl) dX12_like_31
      simp only [bz, c_4, c_18, not_false_eq_true, not_true_eq_false, and_self, and_true, true_and, and_false, false_and, or_true, true_or, or_false, false_or, Bool.false_eq_true, if_true, if_false, ↓reduceIte]
    · skip
      have c_18 : inB k 0 ((nI n) - 1) = true := bz_ne0.mp c_18
      refine lv_aload_n C.1 C.2.1 dX12_like_21 rfl (lv_at hl 0 rfl) ?_
      refine g_getA C M 43 52 (by decide) rfl rfl (by decide) fl12_112 dX12_like_22 ?_
      refine lv_iload_n C.1 C.2.1 dX12_like_25 rfl (lv_at hl 1 rfl) ?_
      refine g_iald C M 43 52 (by decide) rfl k.toNatClampNeg rfl (by exact vp_in_pre c_18 hn40 (by decide)) (v := hA σ 43 52 0 k.toNatClampNeg) rfl dX12_like_26 ?_
      refine lv_goto (tgt := 31) C.1 C.2.1 dX12_like_27 (by decide) ?_
      refine g_iret C M hr hlk ?_ (Nat.le_of_ble_eq_true rfl) (Nat.le_of_ble_eq_true rfl) dX12_like_31
      simp only [bz, c_4, c_18, not_false_eq_true, not_true_eq_false, and_self, and_true, true_and, and_false, false_and, or_true, true_or, or_false, false_or, Bool.false_eq_true, if_true, if_false, ↓reduceIte]

set_option maxHeartbeats 4000000 in
set_option maxRecDepth 100000 in
theorem m_share (l : Launch) (E : hEnv) (σ : hMem) (Z : va_W) (n : Nat) (hn : hI σ 43 51 = nI n) (hn8 : n ≤ 8) (k w : Int32) : hMet l yX12_share cX12_share 3 (some .long) (1, 0, 0, 22) E σ Z [.ref (hO E 43), .int k, .int w] (hQl E (fun r u => r = (if ¬ hI σ 43 47 = 0 ∧ inB k 0 (nI n - 1) = true ∧ inB w 0 6 = true then hB σ 43 56 k.toNatClampNeg w.toNatClampNeg else -1) ∧ u = (σ, Z))) := by
  refine hMet.of (by decide) (Nat.le_of_ble_eq_true rfl) (fun p e s m below meth c A ls C M hr hlk hl => ?_)
  have hl : lv_has ls 3 [(0, .ref (hO E 43)), (1, .int k), (2, .int w)] := hl
  refine lv_aload_n C.1 C.2.1 dX12_share_0 rfl (lv_at hl 0 rfl) ?_
  refine g_getI C M 43 47 (by decide) rfl rfl (by decide) fl12_272 (v := hI σ 43 47) rfl dX12_share_1 ?_
  refine lv_if_eq (tgt := 42) C.1 C.2.1 dX12_share_4 (by decide) (fun c_4 => ?_) (fun c_4 => ?_)
  · skip
    refine lv_ldc2 (v := (-1)) C.1 C.2.1 C.2.2.2.1 (C.2.2.2.2.1.1.use kc12_318 rfl) dX12_share_42 ?_
    refine g_lret C M hr hlk ?_ (Nat.le_of_ble_eq_true rfl) (Nat.le_of_ble_eq_true rfl) dX12_share_45
    simp only [bz, c_4, not_false_eq_true, not_true_eq_false, and_self, and_true, true_and, and_false, false_and, or_true, true_or, or_false, false_or, Bool.false_eq_true, if_true, if_false, ↓reduceIte]
  · skip
    refine lv_iload_n C.1 C.2.1 dX12_share_7 rfl (lv_at hl 1 rfl) ?_
    refine lv_iconst (v := 0) C.1 C.2.1 dX12_share_8 (by decide) ?_
    refine lv_aload_n C.1 C.2.1 dX12_share_9 rfl (lv_at hl 0 rfl) ?_
    refine g_getI C M 43 51 (by decide) rfl rfl (by decide) fl12_301 (v := nI n) hn dX12_share_10 ?_
    refine lv_iconst (v := 1) C.1 C.2.1 dX12_share_13 (by decide) ?_
    refine lv_isub C.1 C.2.1 dX12_share_14 ?_
    refine g_calli M (g_runS (As := [.int k, .int 0, .int ((nI n) - 1)]) (rest := []) C M (m_in l E σ Z k 0 ((nI n) - 1)) clX12_in stX12_in lk12_131 rfl ⟨Nat.le_of_ble_eq_true rfl, Nat.le_of_ble_eq_true rfl⟩ hl.1 rfl (Nat.le_of_ble_eq_true rfl) dX12_share_15 ⟨Nat.le_of_ble_eq_true rfl, Nat.le_of_ble_eq_true rfl⟩) (fun r1 u H locs hR M => ?_)
    refine W.widen (k := 0) (n := 0) (Nat.le_of_ble_eq_true rfl) (Nat.le_of_ble_eq_true rfl) ?_
    obtain ⟨rfl, rfl⟩ := hR
    have M : hM E A s H locs σ Z := M
    refine lv_if_eq (tgt := 42) C.1 C.2.1 dX12_share_18 (by decide) (fun c_18 => ?_) (fun c_18 => ?_)
    · skip
      have c_18 : ¬ inB k 0 ((nI n) - 1) = true := bz_0.mp c_18
      refine lv_ldc2 (v := (-1)) C.1 C.2.1 C.2.2.2.1 (C.2.2.2.2.1.1.use kc12_318 rfl) dX12_share_42 ?_
      refine g_lret C M hr hlk ?_ (Nat.le_of_ble_eq_true rfl) (Nat.le_of_ble_eq_true rfl) dX12_share_45
      simp only [bz, c_4, c_18, not_false_eq_true, not_true_eq_false, and_self, and_true, true_and, and_false, false_and, or_true, true_or, or_false, false_or, Bool.false_eq_true, if_true, if_false, ↓reduceIte]
    · skip
      have c_18 : inB k 0 ((nI n) - 1) = true := bz_ne0.mp c_18
      refine lv_iload_n C.1 C.2.1 dX12_share_21 rfl (lv_at hl 2 rfl) ?_
      refine lv_iconst (v := 0) C.1 C.2.1 dX12_share_22 (by decide) ?_
      refine lv_bipush (v := 6) C.1 C.2.1 dX12_share_23 (by decide) ?_
      refine g_calli M (g_runS (As := [.int w, .int 0, .int 6]) (rest := []) C M (m_in l E σ Z w 0 6) clX12_in stX12_in lk12_131 rfl ⟨Nat.le_of_ble_eq_true rfl, Nat.le_of_ble_eq_true rfl⟩ hl.1 rfl (Nat.le_of_ble_eq_true rfl) dX12_share_25 ⟨Nat.le_of_ble_eq_true rfl, Nat.le_of_ble_eq_true rfl⟩) (fun r2 u H locs hR M => ?_)
      refine W.widen (k := 0) (n := 0) (Nat.le_of_ble_eq_true rfl) (Nat.le_of_ble_eq_true rfl) ?_
      obtain ⟨rfl, rfl⟩ := hR
      have M : hM E A s H locs σ Z := M
      refine lv_if_eq (tgt := 42) C.1 C.2.1 dX12_share_28 (by decide) (fun c_28 => ?_) (fun c_28 => ?_)
      · skip
        have c_28 : ¬ inB w 0 6 = true := bz_0.mp c_28
        refine lv_ldc2 (v := (-1)) C.1 C.2.1 C.2.2.2.1 (C.2.2.2.2.1.1.use kc12_318 rfl) dX12_share_42 ?_
        refine g_lret C M hr hlk ?_ (Nat.le_of_ble_eq_true rfl) (Nat.le_of_ble_eq_true rfl) dX12_share_45
        simp only [bz, c_4, c_18, c_28, not_false_eq_true, not_true_eq_false, and_self, and_true, true_and, and_false, false_and, or_true, true_or, or_false, false_or, Bool.false_eq_true, if_true, if_false, ↓reduceIte]
      · skip
        have c_28 : inB w 0 6 = true := bz_ne0.mp c_28
        refine lv_aload_n C.1 C.2.1 dX12_share_31 rfl (lv_at hl 0 rfl) ?_
        refine g_getJJ C M 43 56 (by decide) rfl rfl (by decide) fl12_115 dX12_share_32 ?_
        refine lv_iload_n C.1 C.2.1 dX12_share_35 rfl (lv_at hl 1 rfl) ?_
        refine g_aald6 C M 43 56 (by decide) rfl k.toNatClampNeg rfl (vp_in_pre c_18 hn8 (by decide)) dX12_share_36 ?_
        refine lv_iload_n C.1 C.2.1 dX12_share_37 rfl (lv_at hl 2 rfl) ?_
        refine g_rlald C M 43 56 k.toNatClampNeg (by decide) rfl (vp_lt (vp_in_pre c_18 hn8 (by decide))) (by decide) w.toNatClampNeg rfl (vp_in_B c_28 (by decide)) (v := hB σ 43 56 k.toNatClampNeg w.toNatClampNeg) rfl dX12_share_38 ?_
        refine lv_goto (tgt := 45) C.1 C.2.1 dX12_share_39 (by decide) ?_
        refine g_lret C M hr hlk ?_ (Nat.le_of_ble_eq_true rfl) (Nat.le_of_ble_eq_true rfl) dX12_share_45
        simp only [bz, c_4, c_18, c_28, not_false_eq_true, not_true_eq_false, and_self, and_true, true_and, and_false, false_and, or_true, true_or, or_false, false_or, Bool.false_eq_true, if_true, if_false, ↓reduceIte]

set_option maxHeartbeats 4000000 in
set_option maxRecDepth 100000 in
theorem m_hand (l : Launch) (E : hEnv) (σ : hMem) (Z : va_W) (n : Nat) (hn : hI σ 43 51 = nI n) (hn8 : n ≤ 8) (hh : ∀ i, i < n → ∃ q, q ≤ 60 ∧ hA σ 43 58 0 i = nI q) (k w : Int32) : hMet l yX12_hand cX12_hand 3 (some .long) (1, 0, 0, 22) E σ Z [.ref (hO E 43), .int k, .int w] (hQl E (fun r u => r = (if ¬ hI σ 43 47 = 0 ∧ inB k 0 (nI n - 1) = true ∧ inB w 0 (hA σ 43 58 0 k.toNatClampNeg - 1) = true then hB σ 43 57 k.toNatClampNeg w.toNatClampNeg else -1) ∧ u = (σ, Z))) := by
  refine hMet.of (by decide) (Nat.le_of_ble_eq_true rfl) (fun p e s m below meth c A ls C M hr hlk hl => ?_)
  have hl : lv_has ls 3 [(0, .ref (hO E 43)), (1, .int k), (2, .int w)] := hl
  refine lv_aload_n C.1 C.2.1 dX12_hand_0 rfl (lv_at hl 0 rfl) ?_
  refine g_getI C M 43 47 (by decide) rfl rfl (by decide) fl12_272 (v := hI σ 43 47) rfl dX12_hand_1 ?_
  refine lv_if_eq (tgt := 48) C.1 C.2.1 dX12_hand_4 (by decide) (fun c_4 => ?_) (fun c_4 => ?_)
  · skip
    refine lv_ldc2 (v := (-1)) C.1 C.2.1 C.2.2.2.1 (C.2.2.2.2.1.1.use kc12_318 rfl) dX12_hand_48 ?_
    refine g_lret C M hr hlk ?_ (Nat.le_of_ble_eq_true rfl) (Nat.le_of_ble_eq_true rfl) dX12_hand_51
    simp only [bz, c_4, not_false_eq_true, not_true_eq_false, and_self, and_true, true_and, and_false, false_and, or_true, true_or, or_false, false_or, Bool.false_eq_true, if_true, if_false, ↓reduceIte]
  · skip
    refine lv_iload_n C.1 C.2.1 dX12_hand_7 rfl (lv_at hl 1 rfl) ?_
    refine lv_iconst (v := 0) C.1 C.2.1 dX12_hand_8 (by decide) ?_
    refine lv_aload_n C.1 C.2.1 dX12_hand_9 rfl (lv_at hl 0 rfl) ?_
    refine g_getI C M 43 51 (by decide) rfl rfl (by decide) fl12_301 (v := nI n) hn dX12_hand_10 ?_
    refine lv_iconst (v := 1) C.1 C.2.1 dX12_hand_13 (by decide) ?_
    refine lv_isub C.1 C.2.1 dX12_hand_14 ?_
    refine g_calli M (g_runS (As := [.int k, .int 0, .int ((nI n) - 1)]) (rest := []) C M (m_in l E σ Z k 0 ((nI n) - 1)) clX12_in stX12_in lk12_131 rfl ⟨Nat.le_of_ble_eq_true rfl, Nat.le_of_ble_eq_true rfl⟩ hl.1 rfl (Nat.le_of_ble_eq_true rfl) dX12_hand_15 ⟨Nat.le_of_ble_eq_true rfl, Nat.le_of_ble_eq_true rfl⟩) (fun r1 u H locs hR M => ?_)
    refine W.widen (k := 0) (n := 0) (Nat.le_of_ble_eq_true rfl) (Nat.le_of_ble_eq_true rfl) ?_
    obtain ⟨rfl, rfl⟩ := hR
    have M : hM E A s H locs σ Z := M
    refine lv_if_eq (tgt := 48) C.1 C.2.1 dX12_hand_18 (by decide) (fun c_18 => ?_) (fun c_18 => ?_)
    · skip
      have c_18 : ¬ inB k 0 ((nI n) - 1) = true := bz_0.mp c_18
      refine lv_ldc2 (v := (-1)) C.1 C.2.1 C.2.2.2.1 (C.2.2.2.2.1.1.use kc12_318 rfl) dX12_hand_48 ?_
      refine g_lret C M hr hlk ?_ (Nat.le_of_ble_eq_true rfl) (Nat.le_of_ble_eq_true rfl) dX12_hand_51
      simp only [bz, c_4, c_18, not_false_eq_true, not_true_eq_false, and_self, and_true, true_and, and_false, false_and, or_true, true_or, or_false, false_or, Bool.false_eq_true, if_true, if_false, ↓reduceIte]
    · skip
      have c_18 : inB k 0 ((nI n) - 1) = true := bz_ne0.mp c_18
      refine lv_iload_n C.1 C.2.1 dX12_hand_21 rfl (lv_at hl 2 rfl) ?_
      refine lv_iconst (v := 0) C.1 C.2.1 dX12_hand_22 (by decide) ?_
      refine lv_aload_n C.1 C.2.1 dX12_hand_23 rfl (lv_at hl 0 rfl) ?_
      refine g_getA C M 43 58 (by decide) rfl rfl (by decide) fl12_121 dX12_hand_24 ?_
      refine lv_iload_n C.1 C.2.1 dX12_hand_27 rfl (lv_at hl 1 rfl) ?_
      refine g_iald C M 43 58 (by decide) rfl k.toNatClampNeg rfl (vp_in_pre c_18 hn8 (by decide)) (v := hA σ 43 58 0 k.toNatClampNeg) rfl dX12_hand_28 ?_
      refine lv_iconst (v := 1) C.1 C.2.1 dX12_hand_29 (by decide) ?_
      refine lv_isub C.1 C.2.1 dX12_hand_30 ?_
      refine g_calli M (g_runS (As := [.int w, .int 0, .int ((hA σ 43 58 0 k.toNatClampNeg) - 1)]) (rest := []) C M (m_in l E σ Z w 0 ((hA σ 43 58 0 k.toNatClampNeg) - 1)) clX12_in stX12_in lk12_131 rfl ⟨Nat.le_of_ble_eq_true rfl, Nat.le_of_ble_eq_true rfl⟩ hl.1 rfl (Nat.le_of_ble_eq_true rfl) dX12_hand_31 ⟨Nat.le_of_ble_eq_true rfl, Nat.le_of_ble_eq_true rfl⟩) (fun r2 u H locs hR M => ?_)
      refine W.widen (k := 0) (n := 0) (Nat.le_of_ble_eq_true rfl) (Nat.le_of_ble_eq_true rfl) ?_
      obtain ⟨rfl, rfl⟩ := hR
      have M : hM E A s H locs σ Z := M
      refine lv_if_eq (tgt := 48) C.1 C.2.1 dX12_hand_34 (by decide) (fun c_34 => ?_) (fun c_34 => ?_)
      · skip
        have c_34 : ¬ inB w 0 ((hA σ 43 58 0 k.toNatClampNeg) - 1) = true := bz_0.mp c_34
        refine lv_ldc2 (v := (-1)) C.1 C.2.1 C.2.2.2.1 (C.2.2.2.2.1.1.use kc12_318 rfl) dX12_hand_48 ?_
        refine g_lret C M hr hlk ?_ (Nat.le_of_ble_eq_true rfl) (Nat.le_of_ble_eq_true rfl) dX12_hand_51
        simp only [bz, c_4, c_18, c_34, not_false_eq_true, not_true_eq_false, and_self, and_true, true_and, and_false, false_and, or_true, true_or, or_false, false_or, Bool.false_eq_true, if_true, if_false, ↓reduceIte]
      · skip
        have c_34 : inB w 0 ((hA σ 43 58 0 k.toNatClampNeg) - 1) = true := bz_ne0.mp c_34
        refine lv_aload_n C.1 C.2.1 dX12_hand_37 rfl (lv_at hl 0 rfl) ?_
        refine g_getJJ C M 43 57 (by decide) rfl rfl (by decide) fl12_118 dX12_hand_38 ?_
        refine lv_iload_n C.1 C.2.1 dX12_hand_41 rfl (lv_at hl 1 rfl) ?_
        refine g_aald6 C M 43 57 (by decide) rfl k.toNatClampNeg rfl (vp_in_pre c_18 hn8 (by decide)) dX12_hand_42 ?_
        refine lv_iload_n C.1 C.2.1 dX12_hand_43 rfl (lv_at hl 2 rfl) ?_
        refine g_rlald C M 43 57 k.toNatClampNeg (by decide) rfl (vp_lt (vp_in_pre c_18 hn8 (by decide))) (by decide) w.toNatClampNeg rfl (by obtain ⟨q, h1, h2⟩ := hh _ (pre_lt18 c_18 (by omega)); rw [h2] at c_34; exact vp_in_pre c_34 h1 (by decide)) (v := hB σ 43 57 k.toNatClampNeg w.toNatClampNeg) rfl dX12_hand_44 ?_
        refine lv_goto (tgt := 51) C.1 C.2.1 dX12_hand_45 (by decide) ?_
        refine g_lret C M hr hlk ?_ (Nat.le_of_ble_eq_true rfl) (Nat.le_of_ble_eq_true rfl) dX12_hand_51
        simp only [bz, c_4, c_18, c_34, not_false_eq_true, not_true_eq_false, and_self, and_true, true_and, and_false, false_and, or_true, true_or, or_false, false_or, Bool.false_eq_true, if_true, if_false, ↓reduceIte]

def mJdd (σ : hMem) (w : Int32) : Int64 := if hI σ 43 47 = 0 then -1 else if w = 0 then (hI σ 43 48).toInt64 else if w = 1 then (hI σ 43 49).toInt64 else if w = 2 then (hI σ 43 50).toInt64 else if w = 3 then hL σ 43 53 else if w = 4 then hL σ 43 54 else if w = 5 then hL σ 43 55 else -1

set_option maxHeartbeats 4000000 in
set_option maxRecDepth 100000 in
theorem m_judged (l : Launch) (E : hEnv) (σ : hMem) (Z : va_W) (w : Int32) : hMet l yX12_judged cX12_judged 2 (some .long) (0, 0, 0, 0) E σ Z [.ref (hO E 43), .int w] (hQl E (fun r u => r = mJdd σ w ∧ u = (σ, Z))) := by
  refine hMet.of (by decide) (Nat.le_of_ble_eq_true rfl) (fun p e s m below meth c A ls C M hr hlk hl => ?_)
  have hl : lv_has ls 2 [(0, .ref (hO E 43)), (1, .int w)] := hl
  refine lv_aload_n C.1 C.2.1 dX12_judged_0 rfl (lv_at hl 0 rfl) ?_
  refine g_getI C M 43 47 (by decide) rfl rfl (by decide) fl12_272 (v := hI σ 43 47) rfl dX12_judged_1 ?_
  refine lv_if_ne (tgt := 11) C.1 C.2.1 dX12_judged_4 (by decide) (fun c_4 => ?_) (fun c_4 => ?_)
  · skip
    refine lv_iload_n C.1 C.2.1 dX12_judged_11 rfl (lv_at hl 1 rfl) ?_
    by_cases c_12_0 : w = 0
    · refine lv_tableIn (off := 40) (tgt := 52) C.1 C.2.1 dX12_judged_12 (by rw [c_12_0]; decide) (by rw [c_12_0]; decide) (by rw [c_12_0]; rfl) (by decide) ?_
      refine lv_aload_n C.1 C.2.1 dX12_judged_52 rfl (lv_at hl 0 rfl) ?_
      refine g_getI C M 43 48 (by decide) rfl rfl (by decide) fl12_275 (v := hI σ 43 48) rfl dX12_judged_53 ?_
      refine lv_i2l C.1 C.2.1 dX12_judged_56 rfl ?_
      refine g_lret C M hr hlk ?_ (Nat.le_of_ble_eq_true rfl) (Nat.le_of_ble_eq_true rfl) dX12_judged_57
      simp [mJdd, c_4, c_12_0]
    by_cases c_12_1 : w = 1
    · refine lv_tableIn (off := 46) (tgt := 58) C.1 C.2.1 dX12_judged_12 (by rw [c_12_1]; decide) (by rw [c_12_1]; decide) (by rw [c_12_1]; rfl) (by decide) ?_
      refine lv_aload_n C.1 C.2.1 dX12_judged_58 rfl (lv_at hl 0 rfl) ?_
      refine g_getI C M 43 49 (by decide) rfl rfl (by decide) fl12_269 (v := hI σ 43 49) rfl dX12_judged_59 ?_
      refine lv_i2l C.1 C.2.1 dX12_judged_62 rfl ?_
      refine g_lret C M hr hlk ?_ (Nat.le_of_ble_eq_true rfl) (Nat.le_of_ble_eq_true rfl) dX12_judged_63
      simp [mJdd, c_4, c_12_0, c_12_1]
    by_cases c_12_2 : w = 2
    · refine lv_tableIn (off := 52) (tgt := 64) C.1 C.2.1 dX12_judged_12 (by rw [c_12_2]; decide) (by rw [c_12_2]; decide) (by rw [c_12_2]; rfl) (by decide) ?_
      refine lv_aload_n C.1 C.2.1 dX12_judged_64 rfl (lv_at hl 0 rfl) ?_
      refine g_getI C M 43 50 (by decide) rfl rfl (by decide) fl12_286 (v := hI σ 43 50) rfl dX12_judged_65 ?_
      refine lv_i2l C.1 C.2.1 dX12_judged_68 rfl ?_
      refine g_lret C M hr hlk ?_ (Nat.le_of_ble_eq_true rfl) (Nat.le_of_ble_eq_true rfl) dX12_judged_69
      simp [mJdd, c_4, c_12_0, c_12_1, c_12_2]
    by_cases c_12_3 : w = 3
    · refine lv_tableIn (off := 58) (tgt := 70) C.1 C.2.1 dX12_judged_12 (by rw [c_12_3]; decide) (by rw [c_12_3]; decide) (by rw [c_12_3]; rfl) (by decide) ?_
      refine lv_aload_n C.1 C.2.1 dX12_judged_70 rfl (lv_at hl 0 rfl) ?_
      refine g_getL C M 43 53 (by decide) rfl rfl (by decide) fl12_289 (v := hL σ 43 53) rfl dX12_judged_71 ?_
      refine g_lret C M hr hlk ?_ (Nat.le_of_ble_eq_true rfl) (Nat.le_of_ble_eq_true rfl) dX12_judged_74
      simp [mJdd, c_4, c_12_0, c_12_1, c_12_2, c_12_3]
    by_cases c_12_4 : w = 4
    · refine lv_tableIn (off := 63) (tgt := 75) C.1 C.2.1 dX12_judged_12 (by rw [c_12_4]; decide) (by rw [c_12_4]; decide) (by rw [c_12_4]; rfl) (by decide) ?_
      refine lv_aload_n C.1 C.2.1 dX12_judged_75 rfl (lv_at hl 0 rfl) ?_
      refine g_getL C M 43 54 (by decide) rfl rfl (by decide) fl12_306 (v := hL σ 43 54) rfl dX12_judged_76 ?_
      refine g_lret C M hr hlk ?_ (Nat.le_of_ble_eq_true rfl) (Nat.le_of_ble_eq_true rfl) dX12_judged_79
      simp [mJdd, c_4, c_12_0, c_12_1, c_12_2, c_12_3, c_12_4]
    by_cases c_12_5 : w = 5
    · refine lv_tableIn (off := 68) (tgt := 80) C.1 C.2.1 dX12_judged_12 (by rw [c_12_5]; decide) (by rw [c_12_5]; decide) (by rw [c_12_5]; rfl) (by decide) ?_
      refine lv_aload_n C.1 C.2.1 dX12_judged_80 rfl (lv_at hl 0 rfl) ?_
      refine g_getL C M 43 55 (by decide) rfl rfl (by decide) fl12_309 (v := hL σ 43 55) rfl dX12_judged_81 ?_
      refine g_lret C M hr hlk ?_ (Nat.le_of_ble_eq_true rfl) (Nat.le_of_ble_eq_true rfl) dX12_judged_84
      simp [mJdd, c_4, c_12_0, c_12_1, c_12_2, c_12_3, c_12_4, c_12_5]
    refine lv_tableOut (tgt := 85) C.1 C.2.1 dX12_judged_12 (tb_out w (by decide) (by decide) (fun k hk => by rcases (show k = 0 ∨ k = 1 ∨ k = 2 ∨ k = 3 ∨ k = 4 ∨ k = 5 by omega) with rfl | rfl | rfl | rfl | rfl | rfl <;> assumption)) (by decide) ?_
    refine lv_ldc2 (v := (-1)) C.1 C.2.1 C.2.2.2.1 (C.2.2.2.2.1.1.use kc12_318 rfl) dX12_judged_85 ?_
    refine g_lret C M hr hlk ?_ (Nat.le_of_ble_eq_true rfl) (Nat.le_of_ble_eq_true rfl) dX12_judged_88
    simp [mJdd, c_4, c_12_0, c_12_1, c_12_2, c_12_3, c_12_4, c_12_5]
  · skip
    refine lv_ldc2 (v := (-1)) C.1 C.2.1 C.2.2.2.1 (C.2.2.2.2.1.1.use kc12_318 rfl) dX12_judged_7 ?_
    refine g_lret C M hr hlk ?_ (Nat.le_of_ble_eq_true rfl) (Nat.le_of_ble_eq_true rfl) dX12_judged_10
    simp [mJdd, c_4]

def shpOk (σ : hMem) (s : Nat) (t a b day o m : Int32) : Prop := ((¬ 8 ≤ nI s) ∧ ((¬ hI σ 43 35 = 0) ∧ ((inB t 1 5000 = true) ∧ ((inB a 0 15 = true) ∧ ((inB b 0 15 = true) ∧ ((inB day 0 5000 = true) ∧ ((inB o 0 100 = true) ∧ (inB m 0 (100 - o) = true))))))))
def mShp (σ : hMem) (s hd : Nat) (t a b day o m : Int32) : hMem := sI (sA (sA (sA (sA (sA (sA (sA (sA σ 43 39 0 (upd (hA σ 43 39 0) s t)) 43 40 0 (upd (hA σ 43 40 0) s a)) 43 41 0 (upd (hA σ 43 41 0) s b)) 43 42 0 (upd (hA σ 43 42 0) s day)) 43 43 0 (upd (hA σ 43 43 0) s o)) 43 44 0 (upd (hA σ 43 44 0) s m)) 43 45 0 (upd (hA σ 43 45 0) s (nI hd))) 43 46 s (pre (hA σ 43 37 0) (hA σ 43 46 s) hd)) 43 38 (nI (s + 1))

set_option maxHeartbeats 4000000 in
set_option maxRecDepth 100000 in
theorem m_ship (l : Launch) (E : hEnv) (σ : hMem) (Z : va_W) (s9 hd : Nat) (hs : hI σ 43 38 = nI s9) (hs8 : s9 ≤ 8) (hh : hI σ 43 36 = nI hd) (hd60 : hd ≤ 60) (t9 a b day o m9 : Int32) : hMet l yX12_ship cX12_ship 9 (some .int) (1, 0, 0, 22) E σ Z [.ref (hO E 43), .int t9, .int a, .int b, .int day, .int o, .int m9] (hQi E (fun r u => (shpOk σ s9 t9 a b day o m9 → r = nI s9 ∧ u = (mShp σ s9 hd t9 a b day o m9, Z)) ∧ (¬ (shpOk σ s9 t9 a b day o m9) → r = -1 ∧ u = (σ, Z)))) := by
  refine hMet.of (by decide) (Nat.le_of_ble_eq_true rfl) (fun p e s m below meth c A ls C M hr hlk hl => ?_)
  have hl : lv_has ls 9 [(0, .ref (hO E 43)), (1, .int t9), (2, .int a), (3, .int b), (4, .int day), (5, .int o), (6, .int m9)] := hl
  refine lv_aload_n C.1 C.2.1 dX12_ship_0 rfl (lv_at hl 0 rfl) ?_
  refine g_getI C M 43 38 (by decide) rfl rfl (by decide) fl12_266 (v := nI s9) hs dX12_ship_1 ?_
  refine lv_bipush (v := 8) C.1 C.2.1 dX12_ship_4 (by decide) ?_
  have J2 : ∀ (v1 : Int32) (ev1 : v1 = bz ((¬ 8 ≤ (nI s9)) ∧ ((¬ (hI σ 43 35) = 0) ∧ ((inB t9 1 5000 = true) ∧ ((inB a 0 15 = true) ∧ ((inB b 0 15 = true) ∧ ((inB day 0 5000 = true) ∧ ((inB o 0 100 = true) ∧ (inB m9 0 (100 - o) = true))))))))) (H : Heap) (locs : List Loc) (ls : Array Slot), hM E A s H locs σ Z → lv_has ls 9 [(0, .ref (hO E 43)), (1, .int t9), (2, .int a), (3, .int b), (4, .int day), (5, .int o), (6, .int m9)] → W p l e (hRm (1, 0, 0, 22)) s m [.ref (hO E 43), .int t9, .int a, .int b, .int day, .int o, .int m9].toArray below meth c H locs 0 0 (MQ below (hQi E (fun r u => (shpOk σ s9 t9 a b day o m9 → r = nI s9 ∧ u = (mShp σ s9 hd t9 a b day o m9, Z)) ∧ (¬ (shpOk σ s9 t9 a b day o m9) → r = -1 ∧ u = (σ, Z))) A) [.ref (hO E 43), .int t9, .int a, .int b, .int day, .int o, .int m9].toArray s 0 0 A) (F0 m 89 ls [.int v1]) := by
    intro v1 ev1 H locs ls M hl
    subst ev1
    refine lv_istore (lv' := [(7, .int (bz ((¬ 8 ≤ (nI s9)) ∧ ((¬ (hI σ 43 35) = 0) ∧ ((inB t9 1 5000 = true) ∧ ((inB a 0 15 = true) ∧ ((inB b 0 15 = true) ∧ ((inB day 0 5000 = true) ∧ ((inB o 0 100 = true) ∧ (inB m9 0 (100 - o) = true)))))))))), (0, .ref (hO E 43)), (1, .int t9), (2, .int a), (3, .int b), (4, .int day), (5, .int o), (6, .int m9)]) C.1 C.2.1 dX12_ship_89 hl (by decide) rfl (fun ls hl => ?_)
    refine lv_iload C.1 C.2.1 dX12_ship_91 (lv_at hl 0 rfl) ?_
    refine lv_if_ne (tgt := 98) C.1 C.2.1 dX12_ship_93 (by decide) (fun c_93 => ?_) (fun c_93 => ?_)
    · skip
      have c_93 : ((¬ 8 ≤ (nI s9)) ∧ ((¬ (hI σ 43 35) = 0) ∧ ((inB t9 1 5000 = true) ∧ ((inB a 0 15 = true) ∧ ((inB b 0 15 = true) ∧ ((inB day 0 5000 = true) ∧ ((inB o 0 100 = true) ∧ (inB m9 0 (100 - o) = true)))))))) := bz_ne0.mp c_93
      have hs1 : s9 < 8 := ct_nge (n := 8) c_93.1
      refine lv_aload_n C.1 C.2.1 dX12_ship_98 rfl (lv_at hl 1 rfl) ?_
      refine g_getA C M 43 39 (by decide) rfl rfl (by decide) fl12_88 dX12_ship_99 ?_
      refine lv_aload_n C.1 C.2.1 dX12_ship_102 rfl (lv_at hl 1 rfl) ?_
      refine g_getI C M 43 38 (by decide) rfl rfl (by decide) fl12_266 (v := nI s9) hs dX12_ship_103 ?_
      refine lv_iload_n C.1 C.2.1 dX12_ship_106 rfl (lv_at hl 2 rfl) ?_
      refine g_iast C M 43 39 (by decide) rfl s9 (nI_clamp (by omega)) (vp_in_nI (by omega) (by decide)) dX12_ship_107 (fun H locs M => ?_)
      have M : hM E A s H locs (sA σ 43 39 0 (upd (hA σ 43 39 0) s9 t9)) Z := M
      refine lv_aload_n C.1 C.2.1 dX12_ship_108 rfl (lv_at hl 1 rfl) ?_
      refine g_getA C M 43 40 (by decide) rfl rfl (by decide) fl12_91 dX12_ship_109 ?_
      refine lv_aload_n C.1 C.2.1 dX12_ship_112 rfl (lv_at hl 1 rfl) ?_
      refine g_getI C M 43 38 (by decide) rfl rfl (by decide) fl12_266 (v := nI s9) hs dX12_ship_113 ?_
      refine lv_iload_n C.1 C.2.1 dX12_ship_116 rfl (lv_at hl 3 rfl) ?_
      refine g_iast C M 43 40 (by decide) rfl s9 (nI_clamp (by omega)) (vp_in_nI (by omega) (by decide)) dX12_ship_117 (fun H locs M => ?_)
      have M : hM E A s H locs (sA (sA σ 43 39 0 (upd (hA σ 43 39 0) s9 t9)) 43 40 0 (upd (hA σ 43 40 0) s9 a)) Z := M
      refine lv_aload_n C.1 C.2.1 dX12_ship_118 rfl (lv_at hl 1 rfl) ?_
      refine g_getA C M 43 41 (by decide) rfl rfl (by decide) fl12_94 dX12_ship_119 ?_
      refine lv_aload_n C.1 C.2.1 dX12_ship_122 rfl (lv_at hl 1 rfl) ?_
      refine g_getI C M 43 38 (by decide) rfl rfl (by decide) fl12_266 (v := nI s9) hs dX12_ship_123 ?_
      refine lv_iload_n C.1 C.2.1 dX12_ship_126 rfl (lv_at hl 4 rfl) ?_
      refine g_iast C M 43 41 (by decide) rfl s9 (nI_clamp (by omega)) (vp_in_nI (by omega) (by decide)) dX12_ship_127 (fun H locs M => ?_)
      have M : hM E A s H locs (sA (sA (sA σ 43 39 0 (upd (hA σ 43 39 0) s9 t9)) 43 40 0 (upd (hA σ 43 40 0) s9 a)) 43 41 0 (upd (hA σ 43 41 0) s9 b)) Z := M
      refine lv_aload_n C.1 C.2.1 dX12_ship_128 rfl (lv_at hl 1 rfl) ?_
      refine g_getA C M 43 42 (by decide) rfl rfl (by decide) fl12_97 dX12_ship_129 ?_
      refine lv_aload_n C.1 C.2.1 dX12_ship_132 rfl (lv_at hl 1 rfl) ?_
      refine g_getI C M 43 38 (by decide) rfl rfl (by decide) fl12_266 (v := nI s9) hs dX12_ship_133 ?_
      refine lv_iload C.1 C.2.1 dX12_ship_136 (lv_at hl 5 rfl) ?_
      refine g_iast C M 43 42 (by decide) rfl s9 (nI_clamp (by omega)) (vp_in_nI (by omega) (by decide)) dX12_ship_138 (fun H locs M => ?_)
      have M : hM E A s H locs (sA (sA (sA (sA σ 43 39 0 (upd (hA σ 43 39 0) s9 t9)) 43 40 0 (upd (hA σ 43 40 0) s9 a)) 43 41 0 (upd (hA σ 43 41 0) s9 b)) 43 42 0 (upd (hA σ 43 42 0) s9 day)) Z := M
      refine lv_aload_n C.1 C.2.1 dX12_ship_139 rfl (lv_at hl 1 rfl) ?_
      refine g_getA C M 43 43 (by decide) rfl rfl (by decide) fl12_100 dX12_ship_140 ?_
      refine lv_aload_n C.1 C.2.1 dX12_ship_143 rfl (lv_at hl 1 rfl) ?_
      refine g_getI C M 43 38 (by decide) rfl rfl (by decide) fl12_266 (v := nI s9) hs dX12_ship_144 ?_
      refine lv_iload C.1 C.2.1 dX12_ship_147 (lv_at hl 6 rfl) ?_
      refine g_iast C M 43 43 (by decide) rfl s9 (nI_clamp (by omega)) (vp_in_nI (by omega) (by decide)) dX12_ship_149 (fun H locs M => ?_)
      have M : hM E A s H locs (sA (sA (sA (sA (sA σ 43 39 0 (upd (hA σ 43 39 0) s9 t9)) 43 40 0 (upd (hA σ 43 40 0) s9 a)) 43 41 0 (upd (hA σ 43 41 0) s9 b)) 43 42 0 (upd (hA σ 43 42 0) s9 day)) 43 43 0 (upd (hA σ 43 43 0) s9 o)) Z := M
      refine lv_aload_n C.1 C.2.1 dX12_ship_150 rfl (lv_at hl 1 rfl) ?_
      refine g_getA C M 43 44 (by decide) rfl rfl (by decide) fl12_103 dX12_ship_151 ?_
      refine lv_aload_n C.1 C.2.1 dX12_ship_154 rfl (lv_at hl 1 rfl) ?_
      refine g_getI C M 43 38 (by decide) rfl rfl (by decide) fl12_266 (v := nI s9) hs dX12_ship_155 ?_
      refine lv_iload C.1 C.2.1 dX12_ship_158 (lv_at hl 7 rfl) ?_
      refine g_iast C M 43 44 (by decide) rfl s9 (nI_clamp (by omega)) (vp_in_nI (by omega) (by decide)) dX12_ship_160 (fun H locs M => ?_)
      have M : hM E A s H locs (sA (sA (sA (sA (sA (sA σ 43 39 0 (upd (hA σ 43 39 0) s9 t9)) 43 40 0 (upd (hA σ 43 40 0) s9 a)) 43 41 0 (upd (hA σ 43 41 0) s9 b)) 43 42 0 (upd (hA σ 43 42 0) s9 day)) 43 43 0 (upd (hA σ 43 43 0) s9 o)) 43 44 0 (upd (hA σ 43 44 0) s9 m9)) Z := M
      refine lv_aload_n C.1 C.2.1 dX12_ship_161 rfl (lv_at hl 1 rfl) ?_
      refine g_getA C M 43 45 (by decide) rfl rfl (by decide) fl12_106 dX12_ship_162 ?_
      refine lv_aload_n C.1 C.2.1 dX12_ship_165 rfl (lv_at hl 1 rfl) ?_
      refine g_getI C M 43 38 (by decide) rfl rfl (by decide) fl12_266 (v := nI s9) hs dX12_ship_166 ?_
      refine lv_aload_n C.1 C.2.1 dX12_ship_169 rfl (lv_at hl 1 rfl) ?_
      refine g_getI C M 43 36 (by decide) rfl rfl (by decide) fl12_259 (v := nI hd) hh dX12_ship_170 ?_
      refine g_iast C M 43 45 (by decide) rfl s9 (nI_clamp (by omega)) (vp_in_nI (by omega) (by decide)) dX12_ship_173 (fun H locs M => ?_)
      have M : hM E A s H locs (sA (sA (sA (sA (sA (sA (sA σ 43 39 0 (upd (hA σ 43 39 0) s9 t9)) 43 40 0 (upd (hA σ 43 40 0) s9 a)) 43 41 0 (upd (hA σ 43 41 0) s9 b)) 43 42 0 (upd (hA σ 43 42 0) s9 day)) 43 43 0 (upd (hA σ 43 43 0) s9 o)) 43 44 0 (upd (hA σ 43 44 0) s9 m9)) 43 45 0 (upd (hA σ 43 45 0) s9 (nI hd))) Z := M
      refine lv_iconst (v := 0) C.1 C.2.1 dX12_ship_174 (by decide) ?_
      refine lv_istore (lv' := [(8, .int 0), (7, .int (bz ((¬ 8 ≤ (nI s9)) ∧ ((¬ (hI σ 43 35) = 0) ∧ ((inB t9 1 5000 = true) ∧ ((inB a 0 15 = true) ∧ ((inB b 0 15 = true) ∧ ((inB day 0 5000 = true) ∧ ((inB o 0 100 = true) ∧ (inB m9 0 (100 - o) = true)))))))))), (0, .ref (hO E 43)), (1, .int t9), (2, .int a), (3, .int b), (4, .int day), (5, .int o), (6, .int m9)]) C.1 C.2.1 dX12_ship_175 hl (by decide) rfl (fun ls hl => ?_)
      have L177 : ∀ (n9 : Nat) (k : Nat), (k ≤ hd) → hd - k < n9 → ∀ (H : Heap) (locs : List Loc) (ls : Array Slot), hM E A s H locs (sA (sA (sA (sA (sA (sA (sA (sA σ 43 39 0 (upd (hA σ 43 39 0) s9 t9)) 43 40 0 (upd (hA σ 43 40 0) s9 a)) 43 41 0 (upd (hA σ 43 41 0) s9 b)) 43 42 0 (upd (hA σ 43 42 0) s9 day)) 43 43 0 (upd (hA σ 43 43 0) s9 o)) 43 44 0 (upd (hA σ 43 44 0) s9 m9)) 43 45 0 (upd (hA σ 43 45 0) s9 (nI hd))) 43 46 s9 (pre (hA σ 43 37 0) (hA σ 43 46 s9) k)) Z → lv_has ls 9 [(8, .int (nI k)), (0, .ref (hO E 43))] → W p l e (hRm (1, 0, 0, 22)) s m [.ref (hO E 43), .int t9, .int a, .int b, .int day, .int o, .int m9].toArray below meth c H locs 0 0 (MQ below (hQi E (fun r u => (shpOk σ s9 t9 a b day o m9 → r = nI s9 ∧ u = (mShp σ s9 hd t9 a b day o m9, Z)) ∧ (¬ (shpOk σ s9 t9 a b day o m9) → r = -1 ∧ u = (σ, Z))) A) [.ref (hO E 43), .int t9, .int a, .int b, .int day, .int o, .int m9].toArray s 0 0 A) (F0 m 177 ls []) := by
        intro n9
        induction n9 with
        | zero =>
          intro k hk hn9
          exact absurd hn9 (Nat.not_lt_zero _)
        | succ n9 ih177 =>
          intro k hk hn177 H locs ls M hl
          refine lv_iload C.1 C.2.1 dX12_ship_177 (lv_at hl 0 rfl) ?_
          refine lv_aload_n C.1 C.2.1 dX12_ship_179 rfl (lv_at hl 1 rfl) ?_
          refine g_getI C M 43 36 (by decide) rfl rfl (by decide) fl12_259 (v := nI hd) hh dX12_ship_180 ?_
          refine lv_icmp_ge (tgt := 211) C.1 C.2.1 dX12_ship_183 (by decide) (fun c_183 => ?_) (fun c_183 => ?_)
          · skip
            have hkn : k = hd := by have := ct_ge (n := hd) (k := k) c_183; omega
            have hl : lv_has ls 9 [(8, .int (nI hd)), (0, .ref (hO E 43))] := by first | exact hl | (rw [hkn] at hl; exact hl)
            have M : hM E A s H locs (sA (sA (sA (sA (sA (sA (sA (sA σ 43 39 0 (upd (hA σ 43 39 0) s9 t9)) 43 40 0 (upd (hA σ 43 40 0) s9 a)) 43 41 0 (upd (hA σ 43 41 0) s9 b)) 43 42 0 (upd (hA σ 43 42 0) s9 day)) 43 43 0 (upd (hA σ 43 43 0) s9 o)) 43 44 0 (upd (hA σ 43 44 0) s9 m9)) 43 45 0 (upd (hA σ 43 45 0) s9 (nI hd))) 43 46 s9 (pre (hA σ 43 37 0) (hA σ 43 46 s9) hd)) Z := by first | exact M | (rw [hkn] at M; exact M)
            refine lv_aload_n C.1 C.2.1 dX12_ship_211 rfl (lv_at hl 1 rfl) ?_
            refine lv_dup C.1 C.2.1 dX12_ship_212 rfl ?_
            refine g_getI C M 43 38 (by decide) rfl rfl (by decide) fl12_266 (v := nI s9) hs dX12_ship_213 ?_
            refine lv_iconst (v := 1) C.1 C.2.1 dX12_ship_216 (by decide) ?_
            refine lv_iadd C.1 C.2.1 dX12_ship_217 ?_
            refine g_rei (v := nI (s9 + 1)) (nI_1 _) ?_
            refine g_putI C M 43 38 (by decide) rfl rfl (by decide) fl12_266 rfl rfl dX12_ship_218 (fun H locs M => ?_)
            refine lv_aload_n C.1 C.2.1 dX12_ship_221 rfl (lv_at hl 1 rfl) ?_
            refine g_getI C M 43 38 (by decide) rfl rfl (by decide) fl12_266 (v := nI (s9 + 1)) rfl dX12_ship_222 ?_
            refine lv_iconst (v := 1) C.1 C.2.1 dX12_ship_225 (by decide) ?_
            refine lv_isub C.1 C.2.1 dX12_ship_226 ?_
            refine g_rei (v := nI s9) (nI_pred _) ?_
            refine g_iret C M hr hlk ?_ (Nat.le_of_ble_eq_true rfl) (Nat.le_of_ble_eq_true rfl) dX12_ship_227
            exact ⟨fun _ => ⟨rfl, rfl⟩, fun h => absurd c_93 h⟩
          · skip
            have hk1 : k < hd := ct_nge (n := hd) (k := k) c_183
            refine lv_aload_n C.1 C.2.1 dX12_ship_186 rfl (lv_at hl 1 rfl) ?_
            refine g_getII C M 43 46 (by decide) rfl rfl (by decide) fl12_109 dX12_ship_187 ?_
            refine lv_aload_n C.1 C.2.1 dX12_ship_190 rfl (lv_at hl 1 rfl) ?_
            refine g_getI C M 43 38 (by decide) rfl rfl (by decide) fl12_266 (v := nI s9) hs dX12_ship_191 ?_
            refine g_aald5 C M 43 46 (by decide) rfl s9 (nI_clamp (by omega)) (vp_in_nI (by omega) (by decide)) dX12_ship_194 ?_
            refine lv_iload C.1 C.2.1 dX12_ship_195 (lv_at hl 0 rfl) ?_
            refine lv_aload_n C.1 C.2.1 dX12_ship_197 rfl (lv_at hl 1 rfl) ?_
            refine g_getA C M 43 37 (by decide) rfl rfl (by decide) fl12_85 dX12_ship_198 ?_
            refine lv_iload C.1 C.2.1 dX12_ship_201 (lv_at hl 0 rfl) ?_
            refine g_iald C M 43 37 (by decide) rfl k (nI_clamp (by omega)) (vp_in_nI (by omega) (by decide)) (v := hA σ 43 37 0 k) rfl dX12_ship_203 ?_
            refine g_riast C M 43 46 s9 (by decide) rfl (by omega) (by decide) k (nI_clamp (by omega)) (vp_in_nI (by omega) (by decide)) dX12_ship_204 (fun H locs M => ?_)
            have M : hM E A s H locs (sA (sA (sA (sA (sA (sA (sA (sA (sA σ 43 39 0 (upd (hA σ 43 39 0) s9 t9)) 43 40 0 (upd (hA σ 43 40 0) s9 a)) 43 41 0 (upd (hA σ 43 41 0) s9 b)) 43 42 0 (upd (hA σ 43 42 0) s9 day)) 43 43 0 (upd (hA σ 43 43 0) s9 o)) 43 44 0 (upd (hA σ 43 44 0) s9 m9)) 43 45 0 (upd (hA σ 43 45 0) s9 (nI hd))) 43 46 s9 (pre (hA σ 43 37 0) (hA σ 43 46 s9) k)) 43 46 s9 (upd (pre (hA σ 43 37 0) (hA σ 43 46 s9) k) k (hA σ 43 37 0 k))) Z := by rw [hA_same] at M; exact M
            refine lv_iinc (v := nI (k + 1)) (lv' := [(8, .int (nI (k + 1))), (0, .ref (hO E 43))]) C.1 C.2.1 dX12_ship_205 hl (k := 0) rfl (nI_succ _).symm (by decide) rfl (fun ls hl => ?_)
            refine lv_goto (tgt := 177) C.1 C.2.1 dX12_ship_208 (by decide) ?_
            have q3 : (sA (sA (sA (sA (sA (sA (sA (sA (sA σ 43 39 0 (upd (hA σ 43 39 0) s9 t9)) 43 40 0 (upd (hA σ 43 40 0) s9 a)) 43 41 0 (upd (hA σ 43 41 0) s9 b)) 43 42 0 (upd (hA σ 43 42 0) s9 day)) 43 43 0 (upd (hA σ 43 43 0) s9 o)) 43 44 0 (upd (hA σ 43 44 0) s9 m9)) 43 45 0 (upd (hA σ 43 45 0) s9 (nI hd))) 43 46 s9 (pre (hA σ 43 37 0) (hA σ 43 46 s9) k)) 43 46 s9 (upd (pre (hA σ 43 37 0) (hA σ 43 46 s9) k) k (hA σ 43 37 0 k))) = (sA (sA (sA (sA (sA (sA (sA (sA σ 43 39 0 (upd (hA σ 43 39 0) s9 t9)) 43 40 0 (upd (hA σ 43 40 0) s9 a)) 43 41 0 (upd (hA σ 43 41 0) s9 b)) 43 42 0 (upd (hA σ 43 42 0) s9 day)) 43 43 0 (upd (hA σ 43 43 0) s9 o)) 43 44 0 (upd (hA σ 43 44 0) s9 m9)) 43 45 0 (upd (hA σ 43 45 0) s9 (nI hd))) 43 46 s9 (pre (hA σ 43 37 0) (hA σ 43 46 s9) (k + 1))) := by first | exact (sA_self _ 43 46 s9).trans (by rw [← pre_0]; rfl) | (rw [sA_sA, pre_s])
            rw [q3] at M
            exact ih177 (k + 1) hk1 (by omega) _ _ _ M (lv_sub hl [0, 1] rfl)
      have q4 : 0 = nI 0 := by rfl
      have hl : lv_has ls 9 [(8, .int (nI 0)), (0, .ref (hO E 43))] := by
        rw [← q4]
        exact lv_sub hl [0, 2] rfl
      have q5 : (sA (sA (sA (sA (sA (sA (sA σ 43 39 0 (upd (hA σ 43 39 0) s9 t9)) 43 40 0 (upd (hA σ 43 40 0) s9 a)) 43 41 0 (upd (hA σ 43 41 0) s9 b)) 43 42 0 (upd (hA σ 43 42 0) s9 day)) 43 43 0 (upd (hA σ 43 43 0) s9 o)) 43 44 0 (upd (hA σ 43 44 0) s9 m9)) 43 45 0 (upd (hA σ 43 45 0) s9 (nI hd))) = (sA (sA (sA (sA (sA (sA (sA (sA σ 43 39 0 (upd (hA σ 43 39 0) s9 t9)) 43 40 0 (upd (hA σ 43 40 0) s9 a)) 43 41 0 (upd (hA σ 43 41 0) s9 b)) 43 42 0 (upd (hA σ 43 42 0) s9 day)) 43 43 0 (upd (hA σ 43 43 0) s9 o)) 43 44 0 (upd (hA σ 43 44 0) s9 m9)) 43 45 0 (upd (hA σ 43 45 0) s9 (nI hd))) 43 46 s9 (pre (hA σ 43 37 0) (hA σ 43 46 s9) 0)) := by first | exact (sA_self _ 43 46 s9).trans (by rw [← pre_0]; rfl) | (rw [sA_sA, pre_s])
      rw [q5] at M
      exact L177 ((hd - 0) + 1) 0 (Nat.zero_le _) (Nat.lt_succ_self _) _ _ _ M hl
    · skip
      have c_93 : ¬ ((¬ 8 ≤ (nI s9)) ∧ ((¬ (hI σ 43 35) = 0) ∧ ((inB t9 1 5000 = true) ∧ ((inB a 0 15 = true) ∧ ((inB b 0 15 = true) ∧ ((inB day 0 5000 = true) ∧ ((inB o 0 100 = true) ∧ (inB m9 0 (100 - o) = true)))))))) := bz_0.mp c_93
      refine lv_iconst (v := (-1)) C.1 C.2.1 dX12_ship_96 (by decide) ?_
      refine g_iret C M hr hlk ?_ (Nat.le_of_ble_eq_true rfl) (Nat.le_of_ble_eq_true rfl) dX12_ship_97
      exact ⟨fun h => absurd h c_93, fun _ => ⟨rfl, rfl⟩⟩
  refine lv_icmp_ge (tgt := 88) C.1 C.2.1 dX12_ship_6 (by decide) (fun c_6 => ?_) (fun c_6 => ?_)
  · skip
    refine lv_iconst (v := 0) C.1 C.2.1 dX12_ship_88 (by decide) ?_
    exact J2 _ (by first | (simp only [bz, c_6, not_false_eq_true, not_true_eq_false, and_self, and_true, true_and, and_false, false_and, or_true, true_or, or_false, false_or, Bool.false_eq_true, if_true, if_false, ↓reduceIte]; done) | simp [bz, c_6]) _ _ _ M (lv_sub hl [0, 1, 2, 3, 4, 5, 6] rfl)
  · skip
    refine lv_aload_n C.1 C.2.1 dX12_ship_9 rfl (lv_at hl 0 rfl) ?_
    refine g_getI C M 43 35 (by decide) rfl rfl (by decide) fl12_262 (v := hI σ 43 35) rfl dX12_ship_10 ?_
    refine lv_if_eq (tgt := 88) C.1 C.2.1 dX12_ship_13 (by decide) (fun c_13 => ?_) (fun c_13 => ?_)
    · skip
      refine lv_iconst (v := 0) C.1 C.2.1 dX12_ship_88 (by decide) ?_
      exact J2 _ (by first | (simp only [bz, c_6, c_13, not_false_eq_true, not_true_eq_false, and_self, and_true, true_and, and_false, false_and, or_true, true_or, or_false, false_or, Bool.false_eq_true, if_true, if_false, ↓reduceIte]; done) | simp [bz, c_6, c_13]) _ _ _ M (lv_sub hl [0, 1, 2, 3, 4, 5, 6] rfl)
    · skip
      refine lv_iload_n C.1 C.2.1 dX12_ship_16 rfl (lv_at hl 1 rfl) ?_
      refine lv_iconst (v := 1) C.1 C.2.1 dX12_ship_17 (by decide) ?_
      refine lv_sipush (v := 5000) C.1 C.2.1 dX12_ship_18 (by decide) ?_
      refine g_calli M (g_runS (As := [.int t9, .int 1, .int 5000]) (rest := []) C M (m_in l E σ Z t9 1 5000) clX12_in stX12_in lk12_131 rfl ⟨Nat.le_of_ble_eq_true rfl, Nat.le_of_ble_eq_true rfl⟩ hl.1 rfl (Nat.le_of_ble_eq_true rfl) dX12_ship_21 ⟨Nat.le_of_ble_eq_true rfl, Nat.le_of_ble_eq_true rfl⟩) (fun r6 u H locs hR M => ?_)
      refine W.widen (k := 0) (n := 0) (Nat.le_of_ble_eq_true rfl) (Nat.le_of_ble_eq_true rfl) ?_
      obtain ⟨rfl, rfl⟩ := hR
      have M : hM E A s H locs σ Z := M
      refine lv_if_eq (tgt := 88) C.1 C.2.1 dX12_ship_24 (by decide) (fun c_24 => ?_) (fun c_24 => ?_)
      · skip
        have c_24 : ¬ inB t9 1 5000 = true := bz_0.mp c_24
        refine lv_iconst (v := 0) C.1 C.2.1 dX12_ship_88 (by decide) ?_
        exact J2 _ (by first | (simp only [bz, c_6, c_13, c_24, not_false_eq_true, not_true_eq_false, and_self, and_true, true_and, and_false, false_and, or_true, true_or, or_false, false_or, Bool.false_eq_true, if_true, if_false, ↓reduceIte]; done) | simp [bz, c_6, c_13, c_24]) _ _ _ M (lv_sub hl [0, 1, 2, 3, 4, 5, 6] rfl)
      · skip
        have c_24 : inB t9 1 5000 = true := bz_ne0.mp c_24
        refine lv_iload_n C.1 C.2.1 dX12_ship_27 rfl (lv_at hl 2 rfl) ?_
        refine lv_iconst (v := 0) C.1 C.2.1 dX12_ship_28 (by decide) ?_
        refine lv_bipush (v := 15) C.1 C.2.1 dX12_ship_29 (by decide) ?_
        refine g_calli M (g_runS (As := [.int a, .int 0, .int 15]) (rest := []) C M (m_in l E σ Z a 0 15) clX12_in stX12_in lk12_131 rfl ⟨Nat.le_of_ble_eq_true rfl, Nat.le_of_ble_eq_true rfl⟩ hl.1 rfl (Nat.le_of_ble_eq_true rfl) dX12_ship_31 ⟨Nat.le_of_ble_eq_true rfl, Nat.le_of_ble_eq_true rfl⟩) (fun r7 u H locs hR M => ?_)
        refine W.widen (k := 0) (n := 0) (Nat.le_of_ble_eq_true rfl) (Nat.le_of_ble_eq_true rfl) ?_
        obtain ⟨rfl, rfl⟩ := hR
        have M : hM E A s H locs σ Z := M
        refine lv_if_eq (tgt := 88) C.1 C.2.1 dX12_ship_34 (by decide) (fun c_34 => ?_) (fun c_34 => ?_)
        · skip
          have c_34 : ¬ inB a 0 15 = true := bz_0.mp c_34
          refine lv_iconst (v := 0) C.1 C.2.1 dX12_ship_88 (by decide) ?_
          exact J2 _ (by first | (simp only [bz, c_6, c_13, c_24, c_34, not_false_eq_true, not_true_eq_false, and_self, and_true, true_and, and_false, false_and, or_true, true_or, or_false, false_or, Bool.false_eq_true, if_true, if_false, ↓reduceIte]; done) | simp [bz, c_6, c_13, c_24, c_34]) _ _ _ M (lv_sub hl [0, 1, 2, 3, 4, 5, 6] rfl)
        · skip
          have c_34 : inB a 0 15 = true := bz_ne0.mp c_34
          refine lv_iload_n C.1 C.2.1 dX12_ship_37 rfl (lv_at hl 3 rfl) ?_
          refine lv_iconst (v := 0) C.1 C.2.1 dX12_ship_38 (by decide) ?_
          refine lv_bipush (v := 15) C.1 C.2.1 dX12_ship_39 (by decide) ?_
          refine g_calli M (g_runS (As := [.int b, .int 0, .int 15]) (rest := []) C M (m_in l E σ Z b 0 15) clX12_in stX12_in lk12_131 rfl ⟨Nat.le_of_ble_eq_true rfl, Nat.le_of_ble_eq_true rfl⟩ hl.1 rfl (Nat.le_of_ble_eq_true rfl) dX12_ship_41 ⟨Nat.le_of_ble_eq_true rfl, Nat.le_of_ble_eq_true rfl⟩) (fun r8 u H locs hR M => ?_)
          refine W.widen (k := 0) (n := 0) (Nat.le_of_ble_eq_true rfl) (Nat.le_of_ble_eq_true rfl) ?_
          obtain ⟨rfl, rfl⟩ := hR
          have M : hM E A s H locs σ Z := M
          refine lv_if_eq (tgt := 88) C.1 C.2.1 dX12_ship_44 (by decide) (fun c_44 => ?_) (fun c_44 => ?_)
          · skip
            have c_44 : ¬ inB b 0 15 = true := bz_0.mp c_44
            refine lv_iconst (v := 0) C.1 C.2.1 dX12_ship_88 (by decide) ?_
            exact J2 _ (by first | (simp only [bz, c_6, c_13, c_24, c_34, c_44, not_false_eq_true, not_true_eq_false, and_self, and_true, true_and, and_false, false_and, or_true, true_or, or_false, false_or, Bool.false_eq_true, if_true, if_false, ↓reduceIte]; done) | simp [bz, c_6, c_13, c_24, c_34, c_44]) _ _ _ M (lv_sub hl [0, 1, 2, 3, 4, 5, 6] rfl)
          · skip
            have c_44 : inB b 0 15 = true := bz_ne0.mp c_44
            refine lv_iload C.1 C.2.1 dX12_ship_47 (lv_at hl 4 rfl) ?_
            refine lv_iconst (v := 0) C.1 C.2.1 dX12_ship_49 (by decide) ?_
            refine lv_sipush (v := 5000) C.1 C.2.1 dX12_ship_50 (by decide) ?_
            refine g_calli M (g_runS (As := [.int day, .int 0, .int 5000]) (rest := []) C M (m_in l E σ Z day 0 5000) clX12_in stX12_in lk12_131 rfl ⟨Nat.le_of_ble_eq_true rfl, Nat.le_of_ble_eq_true rfl⟩ hl.1 rfl (Nat.le_of_ble_eq_true rfl) dX12_ship_53 ⟨Nat.le_of_ble_eq_true rfl, Nat.le_of_ble_eq_true rfl⟩) (fun r9 u H locs hR M => ?_)
            refine W.widen (k := 0) (n := 0) (Nat.le_of_ble_eq_true rfl) (Nat.le_of_ble_eq_true rfl) ?_
            obtain ⟨rfl, rfl⟩ := hR
            have M : hM E A s H locs σ Z := M
            refine lv_if_eq (tgt := 88) C.1 C.2.1 dX12_ship_56 (by decide) (fun c_56 => ?_) (fun c_56 => ?_)
            · skip
              have c_56 : ¬ inB day 0 5000 = true := bz_0.mp c_56
              refine lv_iconst (v := 0) C.1 C.2.1 dX12_ship_88 (by decide) ?_
              exact J2 _ (by first | (simp only [bz, c_6, c_13, c_24, c_34, c_44, c_56, not_false_eq_true, not_true_eq_false, and_self, and_true, true_and, and_false, false_and, or_true, true_or, or_false, false_or, Bool.false_eq_true, if_true, if_false, ↓reduceIte]; done) | simp [bz, c_6, c_13, c_24, c_34, c_44, c_56]) _ _ _ M (lv_sub hl [0, 1, 2, 3, 4, 5, 6] rfl)
            · skip
              have c_56 : inB day 0 5000 = true := bz_ne0.mp c_56
              refine lv_iload C.1 C.2.1 dX12_ship_59 (lv_at hl 5 rfl) ?_
              refine lv_iconst (v := 0) C.1 C.2.1 dX12_ship_61 (by decide) ?_
              refine lv_bipush (v := 100) C.1 C.2.1 dX12_ship_62 (by decide) ?_
              refine g_calli M (g_runS (As := [.int o, .int 0, .int 100]) (rest := []) C M (m_in l E σ Z o 0 100) clX12_in stX12_in lk12_131 rfl ⟨Nat.le_of_ble_eq_true rfl, Nat.le_of_ble_eq_true rfl⟩ hl.1 rfl (Nat.le_of_ble_eq_true rfl) dX12_ship_64 ⟨Nat.le_of_ble_eq_true rfl, Nat.le_of_ble_eq_true rfl⟩) (fun r10 u H locs hR M => ?_)
              refine W.widen (k := 0) (n := 0) (Nat.le_of_ble_eq_true rfl) (Nat.le_of_ble_eq_true rfl) ?_
              obtain ⟨rfl, rfl⟩ := hR
              have M : hM E A s H locs σ Z := M
              refine lv_if_eq (tgt := 88) C.1 C.2.1 dX12_ship_67 (by decide) (fun c_67 => ?_) (fun c_67 => ?_)
              · skip
                have c_67 : ¬ inB o 0 100 = true := bz_0.mp c_67
                refine lv_iconst (v := 0) C.1 C.2.1 dX12_ship_88 (by decide) ?_
                exact J2 _ (by first | (simp only [bz, c_6, c_13, c_24, c_34, c_44, c_56, c_67, not_false_eq_true, not_true_eq_false, and_self, and_true, true_and, and_false, false_and, or_true, true_or, or_false, false_or, Bool.false_eq_true, if_true, if_false, ↓reduceIte]; done) | simp [bz, c_6, c_13, c_24, c_34, c_44, c_56, c_67]) _ _ _ M (lv_sub hl [0, 1, 2, 3, 4, 5, 6] rfl)
              · skip
                have c_67 : inB o 0 100 = true := bz_ne0.mp c_67
                refine lv_iload C.1 C.2.1 dX12_ship_70 (lv_at hl 6 rfl) ?_
                refine lv_iconst (v := 0) C.1 C.2.1 dX12_ship_72 (by decide) ?_
                refine lv_bipush (v := 100) C.1 C.2.1 dX12_ship_73 (by decide) ?_
                refine lv_iload C.1 C.2.1 dX12_ship_75 (lv_at hl 5 rfl) ?_
                refine lv_isub C.1 C.2.1 dX12_ship_77 ?_
                refine g_calli M (g_runS (As := [.int m9, .int 0, .int (100 - o)]) (rest := []) C M (m_in l E σ Z m9 0 (100 - o)) clX12_in stX12_in lk12_131 rfl ⟨Nat.le_of_ble_eq_true rfl, Nat.le_of_ble_eq_true rfl⟩ hl.1 rfl (Nat.le_of_ble_eq_true rfl) dX12_ship_78 ⟨Nat.le_of_ble_eq_true rfl, Nat.le_of_ble_eq_true rfl⟩) (fun r11 u H locs hR M => ?_)
                refine W.widen (k := 0) (n := 0) (Nat.le_of_ble_eq_true rfl) (Nat.le_of_ble_eq_true rfl) ?_
                obtain ⟨rfl, rfl⟩ := hR
                have M : hM E A s H locs σ Z := M
                refine lv_if_eq (tgt := 88) C.1 C.2.1 dX12_ship_81 (by decide) (fun c_81 => ?_) (fun c_81 => ?_)
                · skip
                  have c_81 : ¬ inB m9 0 (100 - o) = true := bz_0.mp c_81
                  refine lv_iconst (v := 0) C.1 C.2.1 dX12_ship_88 (by decide) ?_
                  exact J2 _ (by first | (simp only [bz, c_6, c_13, c_24, c_34, c_44, c_56, c_67, c_81, not_false_eq_true, not_true_eq_false, and_self, and_true, true_and, and_false, false_and, or_true, true_or, or_false, false_or, Bool.false_eq_true, if_true, if_false, ↓reduceIte]; done) | simp [bz, c_6, c_13, c_24, c_34, c_44, c_56, c_67, c_81]) _ _ _ M (lv_sub hl [0, 1, 2, 3, 4, 5, 6] rfl)
                · skip
                  have c_81 : inB m9 0 (100 - o) = true := bz_ne0.mp c_81
                  refine lv_iconst (v := 1) C.1 C.2.1 dX12_ship_84 (by decide) ?_
                  refine lv_goto (tgt := 89) C.1 C.2.1 dX12_ship_85 (by decide) ?_
                  exact J2 _ (by first | (simp only [bz, c_6, c_13, c_24, c_34, c_44, c_56, c_67, c_81, not_false_eq_true, not_true_eq_false, and_self, and_true, true_and, and_false, false_and, or_true, true_or, or_false, false_or, Bool.false_eq_true, if_true, if_false, ↓reduceIte]; done) | simp [bz, c_6, c_13, c_24, c_34, c_44, c_56, c_67, c_81]) _ _ _ M (lv_sub hl [0, 1, 2, 3, 4, 5, 6] rfl)

def dgt (b v : Int32) : Int32 := v / b - v / b / 10 * 10
def absI (x : Int32) : Int32 := if 0 ≤ x then x else -x
def mDist (mk sm : Int32) (w : Nat → Int32) : Int32 := 0 + w 0 * absI (dgt 10000 mk - dgt 10000 sm) + w 1 * absI (dgt 1000 mk - dgt 1000 sm) + w 2 * absI (dgt 100 mk - dgt 100 sm) + w 3 * absI (dgt 10 mk - dgt 10 sm) + w 4 * absI (dgt 1 mk - dgt 1 sm)

set_option maxHeartbeats 4000000 in
set_option maxRecDepth 100000 in
theorem m_dist (l : Launch) (E : hEnv) (σ : hMem) (Z : va_W) (i ro : Nat) (hi : i < 40) (hr7 : ro < 7) : hMet l yX12_distance cX12_distance 7 (some .int) (0, 0, 0, 0) E σ Z [.ref (hO E 43), .int (nI i), .ref (hR E 43 29 ro)] (hQi E (fun r u => r = mDist (hA σ 43 18 0 i) (hI σ 43 24) (hA σ 43 29 ro) ∧ u = (σ, Z))) := by
  refine hMet.of (by decide) (Nat.le_of_ble_eq_true rfl) (fun p e s m below meth c A ls C M hr hlk hl => ?_)
  have hl : lv_has ls 7 [(0, .ref (hO E 43)), (1, .int (nI i)), (2, .ref (hR E 43 29 ro))] := hl
  refine lv_iconst (v := 0) C.1 C.2.1 dX12_distance_0 (by decide) ?_
  refine lv_istore_n (lv' := [(3, .int 0), (0, .ref (hO E 43)), (1, .int (nI i)), (2, .ref (hR E 43 29 ro))]) C.1 C.2.1 dX12_distance_1 rfl hl (by decide) rfl (fun ls hl => ?_)
  refine lv_sipush (v := 10000) C.1 C.2.1 dX12_distance_2 (by decide) ?_
  refine lv_istore (lv' := [(4, .int 10000), (3, .int 0), (0, .ref (hO E 43)), (1, .int (nI i)), (2, .ref (hR E 43 29 ro))]) C.1 C.2.1 dX12_distance_5 hl (by decide) rfl (fun ls hl => ?_)
  refine lv_iconst (v := 0) C.1 C.2.1 dX12_distance_7 (by decide) ?_
  refine lv_istore (lv' := [(5, .int 0), (4, .int 10000), (3, .int 0), (0, .ref (hO E 43)), (1, .int (nI i)), (2, .ref (hR E 43 29 ro))]) C.1 C.2.1 dX12_distance_8 hl (by decide) rfl (fun ls hl => ?_)
  refine lv_iload C.1 C.2.1 dX12_distance_10 (lv_at hl 0 rfl) ?_
  refine lv_iconst (v := 5) C.1 C.2.1 dX12_distance_12 (by decide) ?_
  refine lv_icmp_ge (tgt := 75) C.1 C.2.1 dX12_distance_13 (by decide) (fun h9 => absurd h9 (by decide)) (fun _ => ?_)
  refine lv_aload_n C.1 C.2.1 dX12_distance_16 rfl (lv_at hl 3 rfl) ?_
  refine g_getA C M 43 18 (by decide) rfl rfl (by decide) fl12_52 dX12_distance_17 ?_
  refine lv_iload_n C.1 C.2.1 dX12_distance_20 rfl (lv_at hl 4 rfl) ?_
  refine g_iald C M 43 18 (by decide) rfl i (nI_clamp (by omega)) (vp_in_nI (by omega) (by decide)) (v := hA σ 43 18 0 i) rfl dX12_distance_21 ?_
  refine lv_iload C.1 C.2.1 dX12_distance_22 (lv_at hl 1 rfl) ?_
  refine lv_idiv C.1 C.2.1 dX12_distance_24 (by decide) ?_
  refine lv_bipush (v := 10) C.1 C.2.1 dX12_distance_25 (by decide) ?_
  refine lv_irem C.1 C.2.1 dX12_distance_27 (by decide) ?_
  refine lv_aload_n C.1 C.2.1 dX12_distance_28 rfl (lv_at hl 3 rfl) ?_
  refine g_getI C M 43 24 (by decide) rfl rfl (by decide) fl12_160 (v := hI σ 43 24) rfl dX12_distance_29 ?_
  refine lv_iload C.1 C.2.1 dX12_distance_32 (lv_at hl 1 rfl) ?_
  refine lv_idiv C.1 C.2.1 dX12_distance_34 (by decide) ?_
  refine lv_bipush (v := 10) C.1 C.2.1 dX12_distance_35 (by decide) ?_
  refine lv_irem C.1 C.2.1 dX12_distance_37 (by decide) ?_
  refine lv_isub C.1 C.2.1 dX12_distance_38 ?_
  refine lv_istore (lv' := [(6, .int ((((hA σ 43 18 0 i) / 10000) - ((hA σ 43 18 0 i) / 10000) / 10 * 10) - (((hI σ 43 24) / 10000) - ((hI σ 43 24) / 10000) / 10 * 10))), (5, .int 0), (4, .int 10000), (3, .int 0), (0, .ref (hO E 43)), (1, .int (nI i)), (2, .ref (hR E 43 29 ro))]) C.1 C.2.1 dX12_distance_39 hl (by decide) rfl (fun ls hl => ?_)
  refine lv_iload_n C.1 C.2.1 dX12_distance_41 rfl (lv_at hl 3 rfl) ?_
  refine lv_aload_n C.1 C.2.1 dX12_distance_42 rfl (lv_at hl 6 rfl) ?_
  refine lv_iload C.1 C.2.1 dX12_distance_43 (lv_at hl 1 rfl) ?_
  refine g_riald C M 43 29 ro (by decide) rfl (by omega) (by decide) 0 (by decide) (by rw [vp_in_iff]; decide) (v := hA σ 43 29 ro 0) rfl dX12_distance_45 ?_
  refine lv_iload C.1 C.2.1 dX12_distance_46 (lv_at hl 0 rfl) ?_
  have J2 : ∀ (v1 : Int32) (ev1 : v1 = (if 0 ≤ ((((hA σ 43 18 0 i) / 10000) - ((hA σ 43 18 0 i) / 10000) / 10 * 10) - (((hI σ 43 24) / 10000) - ((hI σ 43 24) / 10000) / 10 * 10)) then (((hA σ 43 18 0 i) / 10000) - ((hA σ 43 18 0 i) / 10000) / 10 * 10) - (((hI σ 43 24) / 10000) - ((hI σ 43 24) / 10000) / 10 * 10) else -((((hA σ 43 18 0 i) / 10000) - ((hA σ 43 18 0 i) / 10000) / 10 * 10) - (((hI σ 43 24) / 10000) - ((hI σ 43 24) / 10000) / 10 * 10)))) (H : Heap) (locs : List Loc) (ls : Array Slot), hM E A s H locs σ Z → lv_has ls 7 [(6, .int ((((hA σ 43 18 0 i) / 10000) - ((hA σ 43 18 0 i) / 10000) / 10 * 10) - (((hI σ 43 24) / 10000) - ((hI σ 43 24) / 10000) / 10 * 10))), (5, .int 0), (4, .int 10000), (3, .int 0), (0, .ref (hO E 43)), (1, .int (nI i)), (2, .ref (hR E 43 29 ro))] → W p l e (hRm (0, 0, 0, 0)) s m [.ref (hO E 43), .int (nI i), .ref (hR E 43 29 ro)].toArray below meth c H locs 0 0 (MQ below (hQi E (fun r u => r = mDist (hA σ 43 18 0 i) (hI σ 43 24) (hA σ 43 29 ro) ∧ u = (σ, Z)) A) [.ref (hO E 43), .int (nI i), .ref (hR E 43 29 ro)].toArray s 0 0 A) (F0 m 59 ls [.int v1, .int (hA σ 43 29 ro 0), .int 0]) := by
    intro v1 ev1 H locs ls M hl
    subst ev1
    refine lv_imul C.1 C.2.1 dX12_distance_59 ?_
    refine lv_iadd C.1 C.2.1 dX12_distance_60 ?_
    refine lv_istore_n (lv' := [(3, .int (0 + ((hA σ 43 29 ro 0) * (if 0 ≤ ((((hA σ 43 18 0 i) / 10000) - ((hA σ 43 18 0 i) / 10000) / 10 * 10) - (((hI σ 43 24) / 10000) - ((hI σ 43 24) / 10000) / 10 * 10)) then (((hA σ 43 18 0 i) / 10000) - ((hA σ 43 18 0 i) / 10000) / 10 * 10) - (((hI σ 43 24) / 10000) - ((hI σ 43 24) / 10000) / 10 * 10) else -((((hA σ 43 18 0 i) / 10000) - ((hA σ 43 18 0 i) / 10000) / 10 * 10) - (((hI σ 43 24) / 10000) - ((hI σ 43 24) / 10000) / 10 * 10)))))), (6, .int ((((hA σ 43 18 0 i) / 10000) - ((hA σ 43 18 0 i) / 10000) / 10 * 10) - (((hI σ 43 24) / 10000) - ((hI σ 43 24) / 10000) / 10 * 10))), (5, .int 0), (4, .int 10000), (0, .ref (hO E 43)), (1, .int (nI i)), (2, .ref (hR E 43 29 ro))]) C.1 C.2.1 dX12_distance_61 rfl hl (by decide) rfl (fun ls hl => ?_)
    refine lv_iload C.1 C.2.1 dX12_distance_62 (lv_at hl 3 rfl) ?_
    refine lv_bipush (v := 10) C.1 C.2.1 dX12_distance_64 (by decide) ?_
    refine lv_idiv C.1 C.2.1 dX12_distance_66 (by decide) ?_
    refine g_rei (v := 1000) (by decide) ?_
    refine lv_istore (lv' := [(4, .int 1000), (3, .int (0 + ((hA σ 43 29 ro 0) * (if 0 ≤ ((((hA σ 43 18 0 i) / 10000) - ((hA σ 43 18 0 i) / 10000) / 10 * 10) - (((hI σ 43 24) / 10000) - ((hI σ 43 24) / 10000) / 10 * 10)) then (((hA σ 43 18 0 i) / 10000) - ((hA σ 43 18 0 i) / 10000) / 10 * 10) - (((hI σ 43 24) / 10000) - ((hI σ 43 24) / 10000) / 10 * 10) else -((((hA σ 43 18 0 i) / 10000) - ((hA σ 43 18 0 i) / 10000) / 10 * 10) - (((hI σ 43 24) / 10000) - ((hI σ 43 24) / 10000) / 10 * 10)))))), (6, .int ((((hA σ 43 18 0 i) / 10000) - ((hA σ 43 18 0 i) / 10000) / 10 * 10) - (((hI σ 43 24) / 10000) - ((hI σ 43 24) / 10000) / 10 * 10))), (5, .int 0), (0, .ref (hO E 43)), (1, .int (nI i)), (2, .ref (hR E 43 29 ro))]) C.1 C.2.1 dX12_distance_67 hl (by decide) rfl (fun ls hl => ?_)
    refine lv_iinc (v := 1) (lv' := [(5, .int 1), (4, .int 1000), (3, .int (0 + ((hA σ 43 29 ro 0) * (if 0 ≤ ((((hA σ 43 18 0 i) / 10000) - ((hA σ 43 18 0 i) / 10000) / 10 * 10) - (((hI σ 43 24) / 10000) - ((hI σ 43 24) / 10000) / 10 * 10)) then (((hA σ 43 18 0 i) / 10000) - ((hA σ 43 18 0 i) / 10000) / 10 * 10) - (((hI σ 43 24) / 10000) - ((hI σ 43 24) / 10000) / 10 * 10) else -((((hA σ 43 18 0 i) / 10000) - ((hA σ 43 18 0 i) / 10000) / 10 * 10) - (((hI σ 43 24) / 10000) - ((hI σ 43 24) / 10000) / 10 * 10)))))), (6, .int ((((hA σ 43 18 0 i) / 10000) - ((hA σ 43 18 0 i) / 10000) / 10 * 10) - (((hI σ 43 24) / 10000) - ((hI σ 43 24) / 10000) / 10 * 10))), (0, .ref (hO E 43)), (1, .int (nI i)), (2, .ref (hR E 43 29 ro))]) C.1 C.2.1 dX12_distance_69 hl (k := 3) rfl (by decide) (by decide) rfl (fun ls hl => ?_)
    refine lv_goto (tgt := 10) C.1 C.2.1 dX12_distance_72 (by decide) ?_
    refine lv_iload C.1 C.2.1 dX12_distance_10 (lv_at hl 0 rfl) ?_
    refine lv_iconst (v := 5) C.1 C.2.1 dX12_distance_12 (by decide) ?_
    refine lv_icmp_ge (tgt := 75) C.1 C.2.1 dX12_distance_13 (by decide) (fun h9 => absurd h9 (by decide)) (fun _ => ?_)
    refine lv_aload_n C.1 C.2.1 dX12_distance_16 rfl (lv_at hl 4 rfl) ?_
    refine g_getA C M 43 18 (by decide) rfl rfl (by decide) fl12_52 dX12_distance_17 ?_
    refine lv_iload_n C.1 C.2.1 dX12_distance_20 rfl (lv_at hl 5 rfl) ?_
    refine g_iald C M 43 18 (by decide) rfl i (nI_clamp (by omega)) (vp_in_nI (by omega) (by decide)) (v := hA σ 43 18 0 i) rfl dX12_distance_21 ?_
    refine lv_iload C.1 C.2.1 dX12_distance_22 (lv_at hl 1 rfl) ?_
    refine lv_idiv C.1 C.2.1 dX12_distance_24 (by decide) ?_
    refine lv_bipush (v := 10) C.1 C.2.1 dX12_distance_25 (by decide) ?_
    refine lv_irem C.1 C.2.1 dX12_distance_27 (by decide) ?_
    refine lv_aload_n C.1 C.2.1 dX12_distance_28 rfl (lv_at hl 4 rfl) ?_
    refine g_getI C M 43 24 (by decide) rfl rfl (by decide) fl12_160 (v := hI σ 43 24) rfl dX12_distance_29 ?_
    refine lv_iload C.1 C.2.1 dX12_distance_32 (lv_at hl 1 rfl) ?_
    refine lv_idiv C.1 C.2.1 dX12_distance_34 (by decide) ?_
    refine lv_bipush (v := 10) C.1 C.2.1 dX12_distance_35 (by decide) ?_
    refine lv_irem C.1 C.2.1 dX12_distance_37 (by decide) ?_
    refine lv_isub C.1 C.2.1 dX12_distance_38 ?_
    refine lv_istore (lv' := [(6, .int ((((hA σ 43 18 0 i) / 1000) - ((hA σ 43 18 0 i) / 1000) / 10 * 10) - (((hI σ 43 24) / 1000) - ((hI σ 43 24) / 1000) / 10 * 10))), (5, .int 1), (4, .int 1000), (3, .int (0 + ((hA σ 43 29 ro 0) * (if 0 ≤ ((((hA σ 43 18 0 i) / 10000) - ((hA σ 43 18 0 i) / 10000) / 10 * 10) - (((hI σ 43 24) / 10000) - ((hI σ 43 24) / 10000) / 10 * 10)) then (((hA σ 43 18 0 i) / 10000) - ((hA σ 43 18 0 i) / 10000) / 10 * 10) - (((hI σ 43 24) / 10000) - ((hI σ 43 24) / 10000) / 10 * 10) else -((((hA σ 43 18 0 i) / 10000) - ((hA σ 43 18 0 i) / 10000) / 10 * 10) - (((hI σ 43 24) / 10000) - ((hI σ 43 24) / 10000) / 10 * 10)))))), (0, .ref (hO E 43)), (1, .int (nI i)), (2, .ref (hR E 43 29 ro))]) C.1 C.2.1 dX12_distance_39 hl (by decide) rfl (fun ls hl => ?_)
    refine lv_iload_n C.1 C.2.1 dX12_distance_41 rfl (lv_at hl 3 rfl) ?_
    refine lv_aload_n C.1 C.2.1 dX12_distance_42 rfl (lv_at hl 6 rfl) ?_
    refine lv_iload C.1 C.2.1 dX12_distance_43 (lv_at hl 1 rfl) ?_
    refine g_riald C M 43 29 ro (by decide) rfl (by omega) (by decide) 1 (by decide) (by rw [vp_in_iff]; decide) (v := hA σ 43 29 ro 1) rfl dX12_distance_45 ?_
    refine lv_iload C.1 C.2.1 dX12_distance_46 (lv_at hl 0 rfl) ?_
    have J4 : ∀ (v3 : Int32) (ev3 : v3 = (if 0 ≤ ((((hA σ 43 18 0 i) / 1000) - ((hA σ 43 18 0 i) / 1000) / 10 * 10) - (((hI σ 43 24) / 1000) - ((hI σ 43 24) / 1000) / 10 * 10)) then (((hA σ 43 18 0 i) / 1000) - ((hA σ 43 18 0 i) / 1000) / 10 * 10) - (((hI σ 43 24) / 1000) - ((hI σ 43 24) / 1000) / 10 * 10) else -((((hA σ 43 18 0 i) / 1000) - ((hA σ 43 18 0 i) / 1000) / 10 * 10) - (((hI σ 43 24) / 1000) - ((hI σ 43 24) / 1000) / 10 * 10)))) (H : Heap) (locs : List Loc) (ls : Array Slot), hM E A s H locs σ Z → lv_has ls 7 [(6, .int ((((hA σ 43 18 0 i) / 1000) - ((hA σ 43 18 0 i) / 1000) / 10 * 10) - (((hI σ 43 24) / 1000) - ((hI σ 43 24) / 1000) / 10 * 10))), (5, .int 1), (4, .int 1000), (3, .int (0 + ((hA σ 43 29 ro 0) * (if 0 ≤ ((((hA σ 43 18 0 i) / 10000) - ((hA σ 43 18 0 i) / 10000) / 10 * 10) - (((hI σ 43 24) / 10000) - ((hI σ 43 24) / 10000) / 10 * 10)) then (((hA σ 43 18 0 i) / 10000) - ((hA σ 43 18 0 i) / 10000) / 10 * 10) - (((hI σ 43 24) / 10000) - ((hI σ 43 24) / 10000) / 10 * 10) else -((((hA σ 43 18 0 i) / 10000) - ((hA σ 43 18 0 i) / 10000) / 10 * 10) - (((hI σ 43 24) / 10000) - ((hI σ 43 24) / 10000) / 10 * 10)))))), (0, .ref (hO E 43)), (1, .int (nI i)), (2, .ref (hR E 43 29 ro))] → W p l e (hRm (0, 0, 0, 0)) s m [.ref (hO E 43), .int (nI i), .ref (hR E 43 29 ro)].toArray below meth c H locs 0 0 (MQ below (hQi E (fun r u => r = mDist (hA σ 43 18 0 i) (hI σ 43 24) (hA σ 43 29 ro) ∧ u = (σ, Z)) A) [.ref (hO E 43), .int (nI i), .ref (hR E 43 29 ro)].toArray s 0 0 A) (F0 m 59 ls [.int v3, .int (hA σ 43 29 ro 1), .int (0 + ((hA σ 43 29 ro 0) * (if 0 ≤ ((((hA σ 43 18 0 i) / 10000) - ((hA σ 43 18 0 i) / 10000) / 10 * 10) - (((hI σ 43 24) / 10000) - ((hI σ 43 24) / 10000) / 10 * 10)) then (((hA σ 43 18 0 i) / 10000) - ((hA σ 43 18 0 i) / 10000) / 10 * 10) - (((hI σ 43 24) / 10000) - ((hI σ 43 24) / 10000) / 10 * 10) else -((((hA σ 43 18 0 i) / 10000) - ((hA σ 43 18 0 i) / 10000) / 10 * 10) - (((hI σ 43 24) / 10000) - ((hI σ 43 24) / 10000) / 10 * 10)))))]) := by
      intro v3 ev3 H locs ls M hl
      subst ev3
      refine lv_imul C.1 C.2.1 dX12_distance_59 ?_
      refine lv_iadd C.1 C.2.1 dX12_distance_60 ?_
      refine lv_istore_n (lv' := [(3, .int ((0 + ((hA σ 43 29 ro 0) * (if 0 ≤ ((((hA σ 43 18 0 i) / 10000) - ((hA σ 43 18 0 i) / 10000) / 10 * 10) - (((hI σ 43 24) / 10000) - ((hI σ 43 24) / 10000) / 10 * 10)) then (((hA σ 43 18 0 i) / 10000) - ((hA σ 43 18 0 i) / 10000) / 10 * 10) - (((hI σ 43 24) / 10000) - ((hI σ 43 24) / 10000) / 10 * 10) else -((((hA σ 43 18 0 i) / 10000) - ((hA σ 43 18 0 i) / 10000) / 10 * 10) - (((hI σ 43 24) / 10000) - ((hI σ 43 24) / 10000) / 10 * 10))))) + ((hA σ 43 29 ro 1) * (if 0 ≤ ((((hA σ 43 18 0 i) / 1000) - ((hA σ 43 18 0 i) / 1000) / 10 * 10) - (((hI σ 43 24) / 1000) - ((hI σ 43 24) / 1000) / 10 * 10)) then (((hA σ 43 18 0 i) / 1000) - ((hA σ 43 18 0 i) / 1000) / 10 * 10) - (((hI σ 43 24) / 1000) - ((hI σ 43 24) / 1000) / 10 * 10) else -((((hA σ 43 18 0 i) / 1000) - ((hA σ 43 18 0 i) / 1000) / 10 * 10) - (((hI σ 43 24) / 1000) - ((hI σ 43 24) / 1000) / 10 * 10)))))), (6, .int ((((hA σ 43 18 0 i) / 1000) - ((hA σ 43 18 0 i) / 1000) / 10 * 10) - (((hI σ 43 24) / 1000) - ((hI σ 43 24) / 1000) / 10 * 10))), (5, .int 1), (4, .int 1000), (0, .ref (hO E 43)), (1, .int (nI i)), (2, .ref (hR E 43 29 ro))]) C.1 C.2.1 dX12_distance_61 rfl hl (by decide) rfl (fun ls hl => ?_)
      refine lv_iload C.1 C.2.1 dX12_distance_62 (lv_at hl 3 rfl) ?_
      refine lv_bipush (v := 10) C.1 C.2.1 dX12_distance_64 (by decide) ?_
      refine lv_idiv C.1 C.2.1 dX12_distance_66 (by decide) ?_
      refine g_rei (v := 100) (by decide) ?_
      refine lv_istore (lv' := [(4, .int 100), (3, .int ((0 + ((hA σ 43 29 ro 0) * (if 0 ≤ ((((hA σ 43 18 0 i) / 10000) - ((hA σ 43 18 0 i) / 10000) / 10 * 10) - (((hI σ 43 24) / 10000) - ((hI σ 43 24) / 10000) / 10 * 10)) then (((hA σ 43 18 0 i) / 10000) - ((hA σ 43 18 0 i) / 10000) / 10 * 10) - (((hI σ 43 24) / 10000) - ((hI σ 43 24) / 10000) / 10 * 10) else -((((hA σ 43 18 0 i) / 10000) - ((hA σ 43 18 0 i) / 10000) / 10 * 10) - (((hI σ 43 24) / 10000) - ((hI σ 43 24) / 10000) / 10 * 10))))) + ((hA σ 43 29 ro 1) * (if 0 ≤ ((((hA σ 43 18 0 i) / 1000) - ((hA σ 43 18 0 i) / 1000) / 10 * 10) - (((hI σ 43 24) / 1000) - ((hI σ 43 24) / 1000) / 10 * 10)) then (((hA σ 43 18 0 i) / 1000) - ((hA σ 43 18 0 i) / 1000) / 10 * 10) - (((hI σ 43 24) / 1000) - ((hI σ 43 24) / 1000) / 10 * 10) else -((((hA σ 43 18 0 i) / 1000) - ((hA σ 43 18 0 i) / 1000) / 10 * 10) - (((hI σ 43 24) / 1000) - ((hI σ 43 24) / 1000) / 10 * 10)))))), (6, .int ((((hA σ 43 18 0 i) / 1000) - ((hA σ 43 18 0 i) / 1000) / 10 * 10) - (((hI σ 43 24) / 1000) - ((hI σ 43 24) / 1000) / 10 * 10))), (5, .int 1), (0, .ref (hO E 43)), (1, .int (nI i)), (2, .ref (hR E 43 29 ro))]) C.1 C.2.1 dX12_distance_67 hl (by decide) rfl (fun ls hl => ?_)
      refine lv_iinc (v := 2) (lv' := [(5, .int 2), (4, .int 100), (3, .int ((0 + ((hA σ 43 29 ro 0) * (if 0 ≤ ((((hA σ 43 18 0 i) / 10000) - ((hA σ 43 18 0 i) / 10000) / 10 * 10) - (((hI σ 43 24) / 10000) - ((hI σ 43 24) / 10000) / 10 * 10)) then (((hA σ 43 18 0 i) / 10000) - ((hA σ 43 18 0 i) / 10000) / 10 * 10) - (((hI σ 43 24) / 10000) - ((hI σ 43 24) / 10000) / 10 * 10) else -((((hA σ 43 18 0 i) / 10000) - ((hA σ 43 18 0 i) / 10000) / 10 * 10) - (((hI σ 43 24) / 10000) - ((hI σ 43 24) / 10000) / 10 * 10))))) + ((hA σ 43 29 ro 1) * (if 0 ≤ ((((hA σ 43 18 0 i) / 1000) - ((hA σ 43 18 0 i) / 1000) / 10 * 10) - (((hI σ 43 24) / 1000) - ((hI σ 43 24) / 1000) / 10 * 10)) then (((hA σ 43 18 0 i) / 1000) - ((hA σ 43 18 0 i) / 1000) / 10 * 10) - (((hI σ 43 24) / 1000) - ((hI σ 43 24) / 1000) / 10 * 10) else -((((hA σ 43 18 0 i) / 1000) - ((hA σ 43 18 0 i) / 1000) / 10 * 10) - (((hI σ 43 24) / 1000) - ((hI σ 43 24) / 1000) / 10 * 10)))))), (6, .int ((((hA σ 43 18 0 i) / 1000) - ((hA σ 43 18 0 i) / 1000) / 10 * 10) - (((hI σ 43 24) / 1000) - ((hI σ 43 24) / 1000) / 10 * 10))), (0, .ref (hO E 43)), (1, .int (nI i)), (2, .ref (hR E 43 29 ro))]) C.1 C.2.1 dX12_distance_69 hl (k := 3) rfl (by decide) (by decide) rfl (fun ls hl => ?_)
      refine lv_goto (tgt := 10) C.1 C.2.1 dX12_distance_72 (by decide) ?_
      refine lv_iload C.1 C.2.1 dX12_distance_10 (lv_at hl 0 rfl) ?_
      refine lv_iconst (v := 5) C.1 C.2.1 dX12_distance_12 (by decide) ?_
      refine lv_icmp_ge (tgt := 75) C.1 C.2.1 dX12_distance_13 (by decide) (fun h9 => absurd h9 (by decide)) (fun _ => ?_)
      refine lv_aload_n C.1 C.2.1 dX12_distance_16 rfl (lv_at hl 4 rfl) ?_
      refine g_getA C M 43 18 (by decide) rfl rfl (by decide) fl12_52 dX12_distance_17 ?_
      refine lv_iload_n C.1 C.2.1 dX12_distance_20 rfl (lv_at hl 5 rfl) ?_
      refine g_iald C M 43 18 (by decide) rfl i (nI_clamp (by omega)) (vp_in_nI (by omega) (by decide)) (v := hA σ 43 18 0 i) rfl dX12_distance_21 ?_
      refine lv_iload C.1 C.2.1 dX12_distance_22 (lv_at hl 1 rfl) ?_
      refine lv_idiv C.1 C.2.1 dX12_distance_24 (by decide) ?_
      refine lv_bipush (v := 10) C.1 C.2.1 dX12_distance_25 (by decide) ?_
      refine lv_irem C.1 C.2.1 dX12_distance_27 (by decide) ?_
      refine lv_aload_n C.1 C.2.1 dX12_distance_28 rfl (lv_at hl 4 rfl) ?_
      refine g_getI C M 43 24 (by decide) rfl rfl (by decide) fl12_160 (v := hI σ 43 24) rfl dX12_distance_29 ?_
      refine lv_iload C.1 C.2.1 dX12_distance_32 (lv_at hl 1 rfl) ?_
      refine lv_idiv C.1 C.2.1 dX12_distance_34 (by decide) ?_
      refine lv_bipush (v := 10) C.1 C.2.1 dX12_distance_35 (by decide) ?_
      refine lv_irem C.1 C.2.1 dX12_distance_37 (by decide) ?_
      refine lv_isub C.1 C.2.1 dX12_distance_38 ?_
      refine lv_istore (lv' := [(6, .int ((((hA σ 43 18 0 i) / 100) - ((hA σ 43 18 0 i) / 100) / 10 * 10) - (((hI σ 43 24) / 100) - ((hI σ 43 24) / 100) / 10 * 10))), (5, .int 2), (4, .int 100), (3, .int ((0 + ((hA σ 43 29 ro 0) * (if 0 ≤ ((((hA σ 43 18 0 i) / 10000) - ((hA σ 43 18 0 i) / 10000) / 10 * 10) - (((hI σ 43 24) / 10000) - ((hI σ 43 24) / 10000) / 10 * 10)) then (((hA σ 43 18 0 i) / 10000) - ((hA σ 43 18 0 i) / 10000) / 10 * 10) - (((hI σ 43 24) / 10000) - ((hI σ 43 24) / 10000) / 10 * 10) else -((((hA σ 43 18 0 i) / 10000) - ((hA σ 43 18 0 i) / 10000) / 10 * 10) - (((hI σ 43 24) / 10000) - ((hI σ 43 24) / 10000) / 10 * 10))))) + ((hA σ 43 29 ro 1) * (if 0 ≤ ((((hA σ 43 18 0 i) / 1000) - ((hA σ 43 18 0 i) / 1000) / 10 * 10) - (((hI σ 43 24) / 1000) - ((hI σ 43 24) / 1000) / 10 * 10)) then (((hA σ 43 18 0 i) / 1000) - ((hA σ 43 18 0 i) / 1000) / 10 * 10) - (((hI σ 43 24) / 1000) - ((hI σ 43 24) / 1000) / 10 * 10) else -((((hA σ 43 18 0 i) / 1000) - ((hA σ 43 18 0 i) / 1000) / 10 * 10) - (((hI σ 43 24) / 1000) - ((hI σ 43 24) / 1000) / 10 * 10)))))), (0, .ref (hO E 43)), (1, .int (nI i)), (2, .ref (hR E 43 29 ro))]) C.1 C.2.1 dX12_distance_39 hl (by decide) rfl (fun ls hl => ?_)
      refine lv_iload_n C.1 C.2.1 dX12_distance_41 rfl (lv_at hl 3 rfl) ?_
      refine lv_aload_n C.1 C.2.1 dX12_distance_42 rfl (lv_at hl 6 rfl) ?_
      refine lv_iload C.1 C.2.1 dX12_distance_43 (lv_at hl 1 rfl) ?_
      refine g_riald C M 43 29 ro (by decide) rfl (by omega) (by decide) 2 (by decide) (by rw [vp_in_iff]; decide) (v := hA σ 43 29 ro 2) rfl dX12_distance_45 ?_
      refine lv_iload C.1 C.2.1 dX12_distance_46 (lv_at hl 0 rfl) ?_
      have J6 : ∀ (v5 : Int32) (ev5 : v5 = (if 0 ≤ ((((hA σ 43 18 0 i) / 100) - ((hA σ 43 18 0 i) / 100) / 10 * 10) - (((hI σ 43 24) / 100) - ((hI σ 43 24) / 100) / 10 * 10)) then (((hA σ 43 18 0 i) / 100) - ((hA σ 43 18 0 i) / 100) / 10 * 10) - (((hI σ 43 24) / 100) - ((hI σ 43 24) / 100) / 10 * 10) else -((((hA σ 43 18 0 i) / 100) - ((hA σ 43 18 0 i) / 100) / 10 * 10) - (((hI σ 43 24) / 100) - ((hI σ 43 24) / 100) / 10 * 10)))) (H : Heap) (locs : List Loc) (ls : Array Slot), hM E A s H locs σ Z → lv_has ls 7 [(6, .int ((((hA σ 43 18 0 i) / 100) - ((hA σ 43 18 0 i) / 100) / 10 * 10) - (((hI σ 43 24) / 100) - ((hI σ 43 24) / 100) / 10 * 10))), (5, .int 2), (4, .int 100), (3, .int ((0 + ((hA σ 43 29 ro 0) * (if 0 ≤ ((((hA σ 43 18 0 i) / 10000) - ((hA σ 43 18 0 i) / 10000) / 10 * 10) - (((hI σ 43 24) / 10000) - ((hI σ 43 24) / 10000) / 10 * 10)) then (((hA σ 43 18 0 i) / 10000) - ((hA σ 43 18 0 i) / 10000) / 10 * 10) - (((hI σ 43 24) / 10000) - ((hI σ 43 24) / 10000) / 10 * 10) else -((((hA σ 43 18 0 i) / 10000) - ((hA σ 43 18 0 i) / 10000) / 10 * 10) - (((hI σ 43 24) / 10000) - ((hI σ 43 24) / 10000) / 10 * 10))))) + ((hA σ 43 29 ro 1) * (if 0 ≤ ((((hA σ 43 18 0 i) / 1000) - ((hA σ 43 18 0 i) / 1000) / 10 * 10) - (((hI σ 43 24) / 1000) - ((hI σ 43 24) / 1000) / 10 * 10)) then (((hA σ 43 18 0 i) / 1000) - ((hA σ 43 18 0 i) / 1000) / 10 * 10) - (((hI σ 43 24) / 1000) - ((hI σ 43 24) / 1000) / 10 * 10) else -((((hA σ 43 18 0 i) / 1000) - ((hA σ 43 18 0 i) / 1000) / 10 * 10) - (((hI σ 43 24) / 1000) - ((hI σ 43 24) / 1000) / 10 * 10)))))), (0, .ref (hO E 43)), (1, .int (nI i)), (2, .ref (hR E 43 29 ro))] → W p l e (hRm (0, 0, 0, 0)) s m [.ref (hO E 43), .int (nI i), .ref (hR E 43 29 ro)].toArray below meth c H locs 0 0 (MQ below (hQi E (fun r u => r = mDist (hA σ 43 18 0 i) (hI σ 43 24) (hA σ 43 29 ro) ∧ u = (σ, Z)) A) [.ref (hO E 43), .int (nI i), .ref (hR E 43 29 ro)].toArray s 0 0 A) (F0 m 59 ls [.int v5, .int (hA σ 43 29 ro 2), .int ((0 + ((hA σ 43 29 ro 0) * (if 0 ≤ ((((hA σ 43 18 0 i) / 10000) - ((hA σ 43 18 0 i) / 10000) / 10 * 10) - (((hI σ 43 24) / 10000) - ((hI σ 43 24) / 10000) / 10 * 10)) then (((hA σ 43 18 0 i) / 10000) - ((hA σ 43 18 0 i) / 10000) / 10 * 10) - (((hI σ 43 24) / 10000) - ((hI σ 43 24) / 10000) / 10 * 10) else -((((hA σ 43 18 0 i) / 10000) - ((hA σ 43 18 0 i) / 10000) / 10 * 10) - (((hI σ 43 24) / 10000) - ((hI σ 43 24) / 10000) / 10 * 10))))) + ((hA σ 43 29 ro 1) * (if 0 ≤ ((((hA σ 43 18 0 i) / 1000) - ((hA σ 43 18 0 i) / 1000) / 10 * 10) - (((hI σ 43 24) / 1000) - ((hI σ 43 24) / 1000) / 10 * 10)) then (((hA σ 43 18 0 i) / 1000) - ((hA σ 43 18 0 i) / 1000) / 10 * 10) - (((hI σ 43 24) / 1000) - ((hI σ 43 24) / 1000) / 10 * 10) else -((((hA σ 43 18 0 i) / 1000) - ((hA σ 43 18 0 i) / 1000) / 10 * 10) - (((hI σ 43 24) / 1000) - ((hI σ 43 24) / 1000) / 10 * 10)))))]) := by
        intro v5 ev5 H locs ls M hl
        subst ev5
        refine lv_imul C.1 C.2.1 dX12_distance_59 ?_
        refine lv_iadd C.1 C.2.1 dX12_distance_60 ?_
        refine lv_istore_n (lv' := [(3, .int (((0 + ((hA σ 43 29 ro 0) * (if 0 ≤ ((((hA σ 43 18 0 i) / 10000) - ((hA σ 43 18 0 i) / 10000) / 10 * 10) - (((hI σ 43 24) / 10000) - ((hI σ 43 24) / 10000) / 10 * 10)) then (((hA σ 43 18 0 i) / 10000) - ((hA σ 43 18 0 i) / 10000) / 10 * 10) - (((hI σ 43 24) / 10000) - ((hI σ 43 24) / 10000) / 10 * 10) else -((((hA σ 43 18 0 i) / 10000) - ((hA σ 43 18 0 i) / 10000) / 10 * 10) - (((hI σ 43 24) / 10000) - ((hI σ 43 24) / 10000) / 10 * 10))))) + ((hA σ 43 29 ro 1) * (if 0 ≤ ((((hA σ 43 18 0 i) / 1000) - ((hA σ 43 18 0 i) / 1000) / 10 * 10) - (((hI σ 43 24) / 1000) - ((hI σ 43 24) / 1000) / 10 * 10)) then (((hA σ 43 18 0 i) / 1000) - ((hA σ 43 18 0 i) / 1000) / 10 * 10) - (((hI σ 43 24) / 1000) - ((hI σ 43 24) / 1000) / 10 * 10) else -((((hA σ 43 18 0 i) / 1000) - ((hA σ 43 18 0 i) / 1000) / 10 * 10) - (((hI σ 43 24) / 1000) - ((hI σ 43 24) / 1000) / 10 * 10))))) + ((hA σ 43 29 ro 2) * (if 0 ≤ ((((hA σ 43 18 0 i) / 100) - ((hA σ 43 18 0 i) / 100) / 10 * 10) - (((hI σ 43 24) / 100) - ((hI σ 43 24) / 100) / 10 * 10)) then (((hA σ 43 18 0 i) / 100) - ((hA σ 43 18 0 i) / 100) / 10 * 10) - (((hI σ 43 24) / 100) - ((hI σ 43 24) / 100) / 10 * 10) else -((((hA σ 43 18 0 i) / 100) - ((hA σ 43 18 0 i) / 100) / 10 * 10) - (((hI σ 43 24) / 100) - ((hI σ 43 24) / 100) / 10 * 10)))))), (6, .int ((((hA σ 43 18 0 i) / 100) - ((hA σ 43 18 0 i) / 100) / 10 * 10) - (((hI σ 43 24) / 100) - ((hI σ 43 24) / 100) / 10 * 10))), (5, .int 2), (4, .int 100), (0, .ref (hO E 43)), (1, .int (nI i)), (2, .ref (hR E 43 29 ro))]) C.1 C.2.1 dX12_distance_61 rfl hl (by decide) rfl (fun ls hl => ?_)
        refine lv_iload C.1 C.2.1 dX12_distance_62 (lv_at hl 3 rfl) ?_
        refine lv_bipush (v := 10) C.1 C.2.1 dX12_distance_64 (by decide) ?_
        refine lv_idiv C.1 C.2.1 dX12_distance_66 (by decide) ?_
        refine g_rei (v := 10) (by decide) ?_
        refine lv_istore (lv' := [(4, .int 10), (3, .int (((0 + ((hA σ 43 29 ro 0) * (if 0 ≤ ((((hA σ 43 18 0 i) / 10000) - ((hA σ 43 18 0 i) / 10000) / 10 * 10) - (((hI σ 43 24) / 10000) - ((hI σ 43 24) / 10000) / 10 * 10)) then (((hA σ 43 18 0 i) / 10000) - ((hA σ 43 18 0 i) / 10000) / 10 * 10) - (((hI σ 43 24) / 10000) - ((hI σ 43 24) / 10000) / 10 * 10) else -((((hA σ 43 18 0 i) / 10000) - ((hA σ 43 18 0 i) / 10000) / 10 * 10) - (((hI σ 43 24) / 10000) - ((hI σ 43 24) / 10000) / 10 * 10))))) + ((hA σ 43 29 ro 1) * (if 0 ≤ ((((hA σ 43 18 0 i) / 1000) - ((hA σ 43 18 0 i) / 1000) / 10 * 10) - (((hI σ 43 24) / 1000) - ((hI σ 43 24) / 1000) / 10 * 10)) then (((hA σ 43 18 0 i) / 1000) - ((hA σ 43 18 0 i) / 1000) / 10 * 10) - (((hI σ 43 24) / 1000) - ((hI σ 43 24) / 1000) / 10 * 10) else -((((hA σ 43 18 0 i) / 1000) - ((hA σ 43 18 0 i) / 1000) / 10 * 10) - (((hI σ 43 24) / 1000) - ((hI σ 43 24) / 1000) / 10 * 10))))) + ((hA σ 43 29 ro 2) * (if 0 ≤ ((((hA σ 43 18 0 i) / 100) - ((hA σ 43 18 0 i) / 100) / 10 * 10) - (((hI σ 43 24) / 100) - ((hI σ 43 24) / 100) / 10 * 10)) then (((hA σ 43 18 0 i) / 100) - ((hA σ 43 18 0 i) / 100) / 10 * 10) - (((hI σ 43 24) / 100) - ((hI σ 43 24) / 100) / 10 * 10) else -((((hA σ 43 18 0 i) / 100) - ((hA σ 43 18 0 i) / 100) / 10 * 10) - (((hI σ 43 24) / 100) - ((hI σ 43 24) / 100) / 10 * 10)))))), (6, .int ((((hA σ 43 18 0 i) / 100) - ((hA σ 43 18 0 i) / 100) / 10 * 10) - (((hI σ 43 24) / 100) - ((hI σ 43 24) / 100) / 10 * 10))), (5, .int 2), (0, .ref (hO E 43)), (1, .int (nI i)), (2, .ref (hR E 43 29 ro))]) C.1 C.2.1 dX12_distance_67 hl (by decide) rfl (fun ls hl => ?_)
        refine lv_iinc (v := 3) (lv' := [(5, .int 3), (4, .int 10), (3, .int (((0 + ((hA σ 43 29 ro 0) * (if 0 ≤ ((((hA σ 43 18 0 i) / 10000) - ((hA σ 43 18 0 i) / 10000) / 10 * 10) - (((hI σ 43 24) / 10000) - ((hI σ 43 24) / 10000) / 10 * 10)) then (((hA σ 43 18 0 i) / 10000) - ((hA σ 43 18 0 i) / 10000) / 10 * 10) - (((hI σ 43 24) / 10000) - ((hI σ 43 24) / 10000) / 10 * 10) else -((((hA σ 43 18 0 i) / 10000) - ((hA σ 43 18 0 i) / 10000) / 10 * 10) - (((hI σ 43 24) / 10000) - ((hI σ 43 24) / 10000) / 10 * 10))))) + ((hA σ 43 29 ro 1) * (if 0 ≤ ((((hA σ 43 18 0 i) / 1000) - ((hA σ 43 18 0 i) / 1000) / 10 * 10) - (((hI σ 43 24) / 1000) - ((hI σ 43 24) / 1000) / 10 * 10)) then (((hA σ 43 18 0 i) / 1000) - ((hA σ 43 18 0 i) / 1000) / 10 * 10) - (((hI σ 43 24) / 1000) - ((hI σ 43 24) / 1000) / 10 * 10) else -((((hA σ 43 18 0 i) / 1000) - ((hA σ 43 18 0 i) / 1000) / 10 * 10) - (((hI σ 43 24) / 1000) - ((hI σ 43 24) / 1000) / 10 * 10))))) + ((hA σ 43 29 ro 2) * (if 0 ≤ ((((hA σ 43 18 0 i) / 100) - ((hA σ 43 18 0 i) / 100) / 10 * 10) - (((hI σ 43 24) / 100) - ((hI σ 43 24) / 100) / 10 * 10)) then (((hA σ 43 18 0 i) / 100) - ((hA σ 43 18 0 i) / 100) / 10 * 10) - (((hI σ 43 24) / 100) - ((hI σ 43 24) / 100) / 10 * 10) else -((((hA σ 43 18 0 i) / 100) - ((hA σ 43 18 0 i) / 100) / 10 * 10) - (((hI σ 43 24) / 100) - ((hI σ 43 24) / 100) / 10 * 10)))))), (6, .int ((((hA σ 43 18 0 i) / 100) - ((hA σ 43 18 0 i) / 100) / 10 * 10) - (((hI σ 43 24) / 100) - ((hI σ 43 24) / 100) / 10 * 10))), (0, .ref (hO E 43)), (1, .int (nI i)), (2, .ref (hR E 43 29 ro))]) C.1 C.2.1 dX12_distance_69 hl (k := 3) rfl (by decide) (by decide) rfl (fun ls hl => ?_)
        refine lv_goto (tgt := 10) C.1 C.2.1 dX12_distance_72 (by decide) ?_
        refine lv_iload C.1 C.2.1 dX12_distance_10 (lv_at hl 0 rfl) ?_
        refine lv_iconst (v := 5) C.1 C.2.1 dX12_distance_12 (by decide) ?_
        refine lv_icmp_ge (tgt := 75) C.1 C.2.1 dX12_distance_13 (by decide) (fun h9 => absurd h9 (by decide)) (fun _ => ?_)
        refine lv_aload_n C.1 C.2.1 dX12_distance_16 rfl (lv_at hl 4 rfl) ?_
        refine g_getA C M 43 18 (by decide) rfl rfl (by decide) fl12_52 dX12_distance_17 ?_
        refine lv_iload_n C.1 C.2.1 dX12_distance_20 rfl (lv_at hl 5 rfl) ?_
        refine g_iald C M 43 18 (by decide) rfl i (nI_clamp (by omega)) (vp_in_nI (by omega) (by decide)) (v := hA σ 43 18 0 i) rfl dX12_distance_21 ?_
        refine lv_iload C.1 C.2.1 dX12_distance_22 (lv_at hl 1 rfl) ?_
        refine lv_idiv C.1 C.2.1 dX12_distance_24 (by decide) ?_
        refine lv_bipush (v := 10) C.1 C.2.1 dX12_distance_25 (by decide) ?_
        refine lv_irem C.1 C.2.1 dX12_distance_27 (by decide) ?_
        refine lv_aload_n C.1 C.2.1 dX12_distance_28 rfl (lv_at hl 4 rfl) ?_
        refine g_getI C M 43 24 (by decide) rfl rfl (by decide) fl12_160 (v := hI σ 43 24) rfl dX12_distance_29 ?_
        refine lv_iload C.1 C.2.1 dX12_distance_32 (lv_at hl 1 rfl) ?_
        refine lv_idiv C.1 C.2.1 dX12_distance_34 (by decide) ?_
        refine lv_bipush (v := 10) C.1 C.2.1 dX12_distance_35 (by decide) ?_
        refine lv_irem C.1 C.2.1 dX12_distance_37 (by decide) ?_
        refine lv_isub C.1 C.2.1 dX12_distance_38 ?_
        refine lv_istore (lv' := [(6, .int ((((hA σ 43 18 0 i) / 10) - ((hA σ 43 18 0 i) / 10) / 10 * 10) - (((hI σ 43 24) / 10) - ((hI σ 43 24) / 10) / 10 * 10))), (5, .int 3), (4, .int 10), (3, .int (((0 + ((hA σ 43 29 ro 0) * (if 0 ≤ ((((hA σ 43 18 0 i) / 10000) - ((hA σ 43 18 0 i) / 10000) / 10 * 10) - (((hI σ 43 24) / 10000) - ((hI σ 43 24) / 10000) / 10 * 10)) then (((hA σ 43 18 0 i) / 10000) - ((hA σ 43 18 0 i) / 10000) / 10 * 10) - (((hI σ 43 24) / 10000) - ((hI σ 43 24) / 10000) / 10 * 10) else -((((hA σ 43 18 0 i) / 10000) - ((hA σ 43 18 0 i) / 10000) / 10 * 10) - (((hI σ 43 24) / 10000) - ((hI σ 43 24) / 10000) / 10 * 10))))) + ((hA σ 43 29 ro 1) * (if 0 ≤ ((((hA σ 43 18 0 i) / 1000) - ((hA σ 43 18 0 i) / 1000) / 10 * 10) - (((hI σ 43 24) / 1000) - ((hI σ 43 24) / 1000) / 10 * 10)) then (((hA σ 43 18 0 i) / 1000) - ((hA σ 43 18 0 i) / 1000) / 10 * 10) - (((hI σ 43 24) / 1000) - ((hI σ 43 24) / 1000) / 10 * 10) else -((((hA σ 43 18 0 i) / 1000) - ((hA σ 43 18 0 i) / 1000) / 10 * 10) - (((hI σ 43 24) / 1000) - ((hI σ 43 24) / 1000) / 10 * 10))))) + ((hA σ 43 29 ro 2) * (if 0 ≤ ((((hA σ 43 18 0 i) / 100) - ((hA σ 43 18 0 i) / 100) / 10 * 10) - (((hI σ 43 24) / 100) - ((hI σ 43 24) / 100) / 10 * 10)) then (((hA σ 43 18 0 i) / 100) - ((hA σ 43 18 0 i) / 100) / 10 * 10) - (((hI σ 43 24) / 100) - ((hI σ 43 24) / 100) / 10 * 10) else -((((hA σ 43 18 0 i) / 100) - ((hA σ 43 18 0 i) / 100) / 10 * 10) - (((hI σ 43 24) / 100) - ((hI σ 43 24) / 100) / 10 * 10)))))), (0, .ref (hO E 43)), (1, .int (nI i)), (2, .ref (hR E 43 29 ro))]) C.1 C.2.1 dX12_distance_39 hl (by decide) rfl (fun ls hl => ?_)
        refine lv_iload_n C.1 C.2.1 dX12_distance_41 rfl (lv_at hl 3 rfl) ?_
        refine lv_aload_n C.1 C.2.1 dX12_distance_42 rfl (lv_at hl 6 rfl) ?_
        refine lv_iload C.1 C.2.1 dX12_distance_43 (lv_at hl 1 rfl) ?_
        refine g_riald C M 43 29 ro (by decide) rfl (by omega) (by decide) 3 (by decide) (by rw [vp_in_iff]; decide) (v := hA σ 43 29 ro 3) rfl dX12_distance_45 ?_
        refine lv_iload C.1 C.2.1 dX12_distance_46 (lv_at hl 0 rfl) ?_
        have J8 : ∀ (v7 : Int32) (ev7 : v7 = (if 0 ≤ ((((hA σ 43 18 0 i) / 10) - ((hA σ 43 18 0 i) / 10) / 10 * 10) - (((hI σ 43 24) / 10) - ((hI σ 43 24) / 10) / 10 * 10)) then (((hA σ 43 18 0 i) / 10) - ((hA σ 43 18 0 i) / 10) / 10 * 10) - (((hI σ 43 24) / 10) - ((hI σ 43 24) / 10) / 10 * 10) else -((((hA σ 43 18 0 i) / 10) - ((hA σ 43 18 0 i) / 10) / 10 * 10) - (((hI σ 43 24) / 10) - ((hI σ 43 24) / 10) / 10 * 10)))) (H : Heap) (locs : List Loc) (ls : Array Slot), hM E A s H locs σ Z → lv_has ls 7 [(6, .int ((((hA σ 43 18 0 i) / 10) - ((hA σ 43 18 0 i) / 10) / 10 * 10) - (((hI σ 43 24) / 10) - ((hI σ 43 24) / 10) / 10 * 10))), (5, .int 3), (4, .int 10), (3, .int (((0 + ((hA σ 43 29 ro 0) * (if 0 ≤ ((((hA σ 43 18 0 i) / 10000) - ((hA σ 43 18 0 i) / 10000) / 10 * 10) - (((hI σ 43 24) / 10000) - ((hI σ 43 24) / 10000) / 10 * 10)) then (((hA σ 43 18 0 i) / 10000) - ((hA σ 43 18 0 i) / 10000) / 10 * 10) - (((hI σ 43 24) / 10000) - ((hI σ 43 24) / 10000) / 10 * 10) else -((((hA σ 43 18 0 i) / 10000) - ((hA σ 43 18 0 i) / 10000) / 10 * 10) - (((hI σ 43 24) / 10000) - ((hI σ 43 24) / 10000) / 10 * 10))))) + ((hA σ 43 29 ro 1) * (if 0 ≤ ((((hA σ 43 18 0 i) / 1000) - ((hA σ 43 18 0 i) / 1000) / 10 * 10) - (((hI σ 43 24) / 1000) - ((hI σ 43 24) / 1000) / 10 * 10)) then (((hA σ 43 18 0 i) / 1000) - ((hA σ 43 18 0 i) / 1000) / 10 * 10) - (((hI σ 43 24) / 1000) - ((hI σ 43 24) / 1000) / 10 * 10) else -((((hA σ 43 18 0 i) / 1000) - ((hA σ 43 18 0 i) / 1000) / 10 * 10) - (((hI σ 43 24) / 1000) - ((hI σ 43 24) / 1000) / 10 * 10))))) + ((hA σ 43 29 ro 2) * (if 0 ≤ ((((hA σ 43 18 0 i) / 100) - ((hA σ 43 18 0 i) / 100) / 10 * 10) - (((hI σ 43 24) / 100) - ((hI σ 43 24) / 100) / 10 * 10)) then (((hA σ 43 18 0 i) / 100) - ((hA σ 43 18 0 i) / 100) / 10 * 10) - (((hI σ 43 24) / 100) - ((hI σ 43 24) / 100) / 10 * 10) else -((((hA σ 43 18 0 i) / 100) - ((hA σ 43 18 0 i) / 100) / 10 * 10) - (((hI σ 43 24) / 100) - ((hI σ 43 24) / 100) / 10 * 10)))))), (0, .ref (hO E 43)), (1, .int (nI i)), (2, .ref (hR E 43 29 ro))] → W p l e (hRm (0, 0, 0, 0)) s m [.ref (hO E 43), .int (nI i), .ref (hR E 43 29 ro)].toArray below meth c H locs 0 0 (MQ below (hQi E (fun r u => r = mDist (hA σ 43 18 0 i) (hI σ 43 24) (hA σ 43 29 ro) ∧ u = (σ, Z)) A) [.ref (hO E 43), .int (nI i), .ref (hR E 43 29 ro)].toArray s 0 0 A) (F0 m 59 ls [.int v7, .int (hA σ 43 29 ro 3), .int (((0 + ((hA σ 43 29 ro 0) * (if 0 ≤ ((((hA σ 43 18 0 i) / 10000) - ((hA σ 43 18 0 i) / 10000) / 10 * 10) - (((hI σ 43 24) / 10000) - ((hI σ 43 24) / 10000) / 10 * 10)) then (((hA σ 43 18 0 i) / 10000) - ((hA σ 43 18 0 i) / 10000) / 10 * 10) - (((hI σ 43 24) / 10000) - ((hI σ 43 24) / 10000) / 10 * 10) else -((((hA σ 43 18 0 i) / 10000) - ((hA σ 43 18 0 i) / 10000) / 10 * 10) - (((hI σ 43 24) / 10000) - ((hI σ 43 24) / 10000) / 10 * 10))))) + ((hA σ 43 29 ro 1) * (if 0 ≤ ((((hA σ 43 18 0 i) / 1000) - ((hA σ 43 18 0 i) / 1000) / 10 * 10) - (((hI σ 43 24) / 1000) - ((hI σ 43 24) / 1000) / 10 * 10)) then (((hA σ 43 18 0 i) / 1000) - ((hA σ 43 18 0 i) / 1000) / 10 * 10) - (((hI σ 43 24) / 1000) - ((hI σ 43 24) / 1000) / 10 * 10) else -((((hA σ 43 18 0 i) / 1000) - ((hA σ 43 18 0 i) / 1000) / 10 * 10) - (((hI σ 43 24) / 1000) - ((hI σ 43 24) / 1000) / 10 * 10))))) + ((hA σ 43 29 ro 2) * (if 0 ≤ ((((hA σ 43 18 0 i) / 100) - ((hA σ 43 18 0 i) / 100) / 10 * 10) - (((hI σ 43 24) / 100) - ((hI σ 43 24) / 100) / 10 * 10)) then (((hA σ 43 18 0 i) / 100) - ((hA σ 43 18 0 i) / 100) / 10 * 10) - (((hI σ 43 24) / 100) - ((hI σ 43 24) / 100) / 10 * 10) else -((((hA σ 43 18 0 i) / 100) - ((hA σ 43 18 0 i) / 100) / 10 * 10) - (((hI σ 43 24) / 100) - ((hI σ 43 24) / 100) / 10 * 10)))))]) := by
          intro v7 ev7 H locs ls M hl
          subst ev7
          refine lv_imul C.1 C.2.1 dX12_distance_59 ?_
          refine lv_iadd C.1 C.2.1 dX12_distance_60 ?_
          refine lv_istore_n (lv' := [(3, .int ((((0 + ((hA σ 43 29 ro 0) * (if 0 ≤ ((((hA σ 43 18 0 i) / 10000) - ((hA σ 43 18 0 i) / 10000) / 10 * 10) - (((hI σ 43 24) / 10000) - ((hI σ 43 24) / 10000) / 10 * 10)) then (((hA σ 43 18 0 i) / 10000) - ((hA σ 43 18 0 i) / 10000) / 10 * 10) - (((hI σ 43 24) / 10000) - ((hI σ 43 24) / 10000) / 10 * 10) else -((((hA σ 43 18 0 i) / 10000) - ((hA σ 43 18 0 i) / 10000) / 10 * 10) - (((hI σ 43 24) / 10000) - ((hI σ 43 24) / 10000) / 10 * 10))))) + ((hA σ 43 29 ro 1) * (if 0 ≤ ((((hA σ 43 18 0 i) / 1000) - ((hA σ 43 18 0 i) / 1000) / 10 * 10) - (((hI σ 43 24) / 1000) - ((hI σ 43 24) / 1000) / 10 * 10)) then (((hA σ 43 18 0 i) / 1000) - ((hA σ 43 18 0 i) / 1000) / 10 * 10) - (((hI σ 43 24) / 1000) - ((hI σ 43 24) / 1000) / 10 * 10) else -((((hA σ 43 18 0 i) / 1000) - ((hA σ 43 18 0 i) / 1000) / 10 * 10) - (((hI σ 43 24) / 1000) - ((hI σ 43 24) / 1000) / 10 * 10))))) + ((hA σ 43 29 ro 2) * (if 0 ≤ ((((hA σ 43 18 0 i) / 100) - ((hA σ 43 18 0 i) / 100) / 10 * 10) - (((hI σ 43 24) / 100) - ((hI σ 43 24) / 100) / 10 * 10)) then (((hA σ 43 18 0 i) / 100) - ((hA σ 43 18 0 i) / 100) / 10 * 10) - (((hI σ 43 24) / 100) - ((hI σ 43 24) / 100) / 10 * 10) else -((((hA σ 43 18 0 i) / 100) - ((hA σ 43 18 0 i) / 100) / 10 * 10) - (((hI σ 43 24) / 100) - ((hI σ 43 24) / 100) / 10 * 10))))) + ((hA σ 43 29 ro 3) * (if 0 ≤ ((((hA σ 43 18 0 i) / 10) - ((hA σ 43 18 0 i) / 10) / 10 * 10) - (((hI σ 43 24) / 10) - ((hI σ 43 24) / 10) / 10 * 10)) then (((hA σ 43 18 0 i) / 10) - ((hA σ 43 18 0 i) / 10) / 10 * 10) - (((hI σ 43 24) / 10) - ((hI σ 43 24) / 10) / 10 * 10) else -((((hA σ 43 18 0 i) / 10) - ((hA σ 43 18 0 i) / 10) / 10 * 10) - (((hI σ 43 24) / 10) - ((hI σ 43 24) / 10) / 10 * 10)))))), (6, .int ((((hA σ 43 18 0 i) / 10) - ((hA σ 43 18 0 i) / 10) / 10 * 10) - (((hI σ 43 24) / 10) - ((hI σ 43 24) / 10) / 10 * 10))), (5, .int 3), (4, .int 10), (0, .ref (hO E 43)), (1, .int (nI i)), (2, .ref (hR E 43 29 ro))]) C.1 C.2.1 dX12_distance_61 rfl hl (by decide) rfl (fun ls hl => ?_)
          refine lv_iload C.1 C.2.1 dX12_distance_62 (lv_at hl 3 rfl) ?_
          refine lv_bipush (v := 10) C.1 C.2.1 dX12_distance_64 (by decide) ?_
          refine lv_idiv C.1 C.2.1 dX12_distance_66 (by decide) ?_
          refine g_rei (v := 1) (by decide) ?_
          refine lv_istore (lv' := [(4, .int 1), (3, .int ((((0 + ((hA σ 43 29 ro 0) * (if 0 ≤ ((((hA σ 43 18 0 i) / 10000) - ((hA σ 43 18 0 i) / 10000) / 10 * 10) - (((hI σ 43 24) / 10000) - ((hI σ 43 24) / 10000) / 10 * 10)) then (((hA σ 43 18 0 i) / 10000) - ((hA σ 43 18 0 i) / 10000) / 10 * 10) - (((hI σ 43 24) / 10000) - ((hI σ 43 24) / 10000) / 10 * 10) else -((((hA σ 43 18 0 i) / 10000) - ((hA σ 43 18 0 i) / 10000) / 10 * 10) - (((hI σ 43 24) / 10000) - ((hI σ 43 24) / 10000) / 10 * 10))))) + ((hA σ 43 29 ro 1) * (if 0 ≤ ((((hA σ 43 18 0 i) / 1000) - ((hA σ 43 18 0 i) / 1000) / 10 * 10) - (((hI σ 43 24) / 1000) - ((hI σ 43 24) / 1000) / 10 * 10)) then (((hA σ 43 18 0 i) / 1000) - ((hA σ 43 18 0 i) / 1000) / 10 * 10) - (((hI σ 43 24) / 1000) - ((hI σ 43 24) / 1000) / 10 * 10) else -((((hA σ 43 18 0 i) / 1000) - ((hA σ 43 18 0 i) / 1000) / 10 * 10) - (((hI σ 43 24) / 1000) - ((hI σ 43 24) / 1000) / 10 * 10))))) + ((hA σ 43 29 ro 2) * (if 0 ≤ ((((hA σ 43 18 0 i) / 100) - ((hA σ 43 18 0 i) / 100) / 10 * 10) - (((hI σ 43 24) / 100) - ((hI σ 43 24) / 100) / 10 * 10)) then (((hA σ 43 18 0 i) / 100) - ((hA σ 43 18 0 i) / 100) / 10 * 10) - (((hI σ 43 24) / 100) - ((hI σ 43 24) / 100) / 10 * 10) else -((((hA σ 43 18 0 i) / 100) - ((hA σ 43 18 0 i) / 100) / 10 * 10) - (((hI σ 43 24) / 100) - ((hI σ 43 24) / 100) / 10 * 10))))) + ((hA σ 43 29 ro 3) * (if 0 ≤ ((((hA σ 43 18 0 i) / 10) - ((hA σ 43 18 0 i) / 10) / 10 * 10) - (((hI σ 43 24) / 10) - ((hI σ 43 24) / 10) / 10 * 10)) then (((hA σ 43 18 0 i) / 10) - ((hA σ 43 18 0 i) / 10) / 10 * 10) - (((hI σ 43 24) / 10) - ((hI σ 43 24) / 10) / 10 * 10) else -((((hA σ 43 18 0 i) / 10) - ((hA σ 43 18 0 i) / 10) / 10 * 10) - (((hI σ 43 24) / 10) - ((hI σ 43 24) / 10) / 10 * 10)))))), (6, .int ((((hA σ 43 18 0 i) / 10) - ((hA σ 43 18 0 i) / 10) / 10 * 10) - (((hI σ 43 24) / 10) - ((hI σ 43 24) / 10) / 10 * 10))), (5, .int 3), (0, .ref (hO E 43)), (1, .int (nI i)), (2, .ref (hR E 43 29 ro))]) C.1 C.2.1 dX12_distance_67 hl (by decide) rfl (fun ls hl => ?_)
          refine lv_iinc (v := 4) (lv' := [(5, .int 4), (4, .int 1), (3, .int ((((0 + ((hA σ 43 29 ro 0) * (if 0 ≤ ((((hA σ 43 18 0 i) / 10000) - ((hA σ 43 18 0 i) / 10000) / 10 * 10) - (((hI σ 43 24) / 10000) - ((hI σ 43 24) / 10000) / 10 * 10)) then (((hA σ 43 18 0 i) / 10000) - ((hA σ 43 18 0 i) / 10000) / 10 * 10) - (((hI σ 43 24) / 10000) - ((hI σ 43 24) / 10000) / 10 * 10) else -((((hA σ 43 18 0 i) / 10000) - ((hA σ 43 18 0 i) / 10000) / 10 * 10) - (((hI σ 43 24) / 10000) - ((hI σ 43 24) / 10000) / 10 * 10))))) + ((hA σ 43 29 ro 1) * (if 0 ≤ ((((hA σ 43 18 0 i) / 1000) - ((hA σ 43 18 0 i) / 1000) / 10 * 10) - (((hI σ 43 24) / 1000) - ((hI σ 43 24) / 1000) / 10 * 10)) then (((hA σ 43 18 0 i) / 1000) - ((hA σ 43 18 0 i) / 1000) / 10 * 10) - (((hI σ 43 24) / 1000) - ((hI σ 43 24) / 1000) / 10 * 10) else -((((hA σ 43 18 0 i) / 1000) - ((hA σ 43 18 0 i) / 1000) / 10 * 10) - (((hI σ 43 24) / 1000) - ((hI σ 43 24) / 1000) / 10 * 10))))) + ((hA σ 43 29 ro 2) * (if 0 ≤ ((((hA σ 43 18 0 i) / 100) - ((hA σ 43 18 0 i) / 100) / 10 * 10) - (((hI σ 43 24) / 100) - ((hI σ 43 24) / 100) / 10 * 10)) then (((hA σ 43 18 0 i) / 100) - ((hA σ 43 18 0 i) / 100) / 10 * 10) - (((hI σ 43 24) / 100) - ((hI σ 43 24) / 100) / 10 * 10) else -((((hA σ 43 18 0 i) / 100) - ((hA σ 43 18 0 i) / 100) / 10 * 10) - (((hI σ 43 24) / 100) - ((hI σ 43 24) / 100) / 10 * 10))))) + ((hA σ 43 29 ro 3) * (if 0 ≤ ((((hA σ 43 18 0 i) / 10) - ((hA σ 43 18 0 i) / 10) / 10 * 10) - (((hI σ 43 24) / 10) - ((hI σ 43 24) / 10) / 10 * 10)) then (((hA σ 43 18 0 i) / 10) - ((hA σ 43 18 0 i) / 10) / 10 * 10) - (((hI σ 43 24) / 10) - ((hI σ 43 24) / 10) / 10 * 10) else -((((hA σ 43 18 0 i) / 10) - ((hA σ 43 18 0 i) / 10) / 10 * 10) - (((hI σ 43 24) / 10) - ((hI σ 43 24) / 10) / 10 * 10)))))), (6, .int ((((hA σ 43 18 0 i) / 10) - ((hA σ 43 18 0 i) / 10) / 10 * 10) - (((hI σ 43 24) / 10) - ((hI σ 43 24) / 10) / 10 * 10))), (0, .ref (hO E 43)), (1, .int (nI i)), (2, .ref (hR E 43 29 ro))]) C.1 C.2.1 dX12_distance_69 hl (k := 3) rfl (by decide) (by decide) rfl (fun ls hl => ?_)
          refine lv_goto (tgt := 10) C.1 C.2.1 dX12_distance_72 (by decide) ?_
          refine lv_iload C.1 C.2.1 dX12_distance_10 (lv_at hl 0 rfl) ?_
          refine lv_iconst (v := 5) C.1 C.2.1 dX12_distance_12 (by decide) ?_
          refine lv_icmp_ge (tgt := 75) C.1 C.2.1 dX12_distance_13 (by decide) (fun h9 => absurd h9 (by decide)) (fun _ => ?_)
          refine lv_aload_n C.1 C.2.1 dX12_distance_16 rfl (lv_at hl 4 rfl) ?_
          refine g_getA C M 43 18 (by decide) rfl rfl (by decide) fl12_52 dX12_distance_17 ?_
          refine lv_iload_n C.1 C.2.1 dX12_distance_20 rfl (lv_at hl 5 rfl) ?_
          refine g_iald C M 43 18 (by decide) rfl i (nI_clamp (by omega)) (vp_in_nI (by omega) (by decide)) (v := hA σ 43 18 0 i) rfl dX12_distance_21 ?_
          refine lv_iload C.1 C.2.1 dX12_distance_22 (lv_at hl 1 rfl) ?_
          refine lv_idiv C.1 C.2.1 dX12_distance_24 (by decide) ?_
          refine lv_bipush (v := 10) C.1 C.2.1 dX12_distance_25 (by decide) ?_
          refine lv_irem C.1 C.2.1 dX12_distance_27 (by decide) ?_
          refine lv_aload_n C.1 C.2.1 dX12_distance_28 rfl (lv_at hl 4 rfl) ?_
          refine g_getI C M 43 24 (by decide) rfl rfl (by decide) fl12_160 (v := hI σ 43 24) rfl dX12_distance_29 ?_
          refine lv_iload C.1 C.2.1 dX12_distance_32 (lv_at hl 1 rfl) ?_
          refine lv_idiv C.1 C.2.1 dX12_distance_34 (by decide) ?_
          refine lv_bipush (v := 10) C.1 C.2.1 dX12_distance_35 (by decide) ?_
          refine lv_irem C.1 C.2.1 dX12_distance_37 (by decide) ?_
          refine lv_isub C.1 C.2.1 dX12_distance_38 ?_
          refine lv_istore (lv' := [(6, .int ((((hA σ 43 18 0 i) / 1) - ((hA σ 43 18 0 i) / 1) / 10 * 10) - (((hI σ 43 24) / 1) - ((hI σ 43 24) / 1) / 10 * 10))), (5, .int 4), (4, .int 1), (3, .int ((((0 + ((hA σ 43 29 ro 0) * (if 0 ≤ ((((hA σ 43 18 0 i) / 10000) - ((hA σ 43 18 0 i) / 10000) / 10 * 10) - (((hI σ 43 24) / 10000) - ((hI σ 43 24) / 10000) / 10 * 10)) then (((hA σ 43 18 0 i) / 10000) - ((hA σ 43 18 0 i) / 10000) / 10 * 10) - (((hI σ 43 24) / 10000) - ((hI σ 43 24) / 10000) / 10 * 10) else -((((hA σ 43 18 0 i) / 10000) - ((hA σ 43 18 0 i) / 10000) / 10 * 10) - (((hI σ 43 24) / 10000) - ((hI σ 43 24) / 10000) / 10 * 10))))) + ((hA σ 43 29 ro 1) * (if 0 ≤ ((((hA σ 43 18 0 i) / 1000) - ((hA σ 43 18 0 i) / 1000) / 10 * 10) - (((hI σ 43 24) / 1000) - ((hI σ 43 24) / 1000) / 10 * 10)) then (((hA σ 43 18 0 i) / 1000) - ((hA σ 43 18 0 i) / 1000) / 10 * 10) - (((hI σ 43 24) / 1000) - ((hI σ 43 24) / 1000) / 10 * 10) else -((((hA σ 43 18 0 i) / 1000) - ((hA σ 43 18 0 i) / 1000) / 10 * 10) - (((hI σ 43 24) / 1000) - ((hI σ 43 24) / 1000) / 10 * 10))))) + ((hA σ 43 29 ro 2) * (if 0 ≤ ((((hA σ 43 18 0 i) / 100) - ((hA σ 43 18 0 i) / 100) / 10 * 10) - (((hI σ 43 24) / 100) - ((hI σ 43 24) / 100) / 10 * 10)) then (((hA σ 43 18 0 i) / 100) - ((hA σ 43 18 0 i) / 100) / 10 * 10) - (((hI σ 43 24) / 100) - ((hI σ 43 24) / 100) / 10 * 10) else -((((hA σ 43 18 0 i) / 100) - ((hA σ 43 18 0 i) / 100) / 10 * 10) - (((hI σ 43 24) / 100) - ((hI σ 43 24) / 100) / 10 * 10))))) + ((hA σ 43 29 ro 3) * (if 0 ≤ ((((hA σ 43 18 0 i) / 10) - ((hA σ 43 18 0 i) / 10) / 10 * 10) - (((hI σ 43 24) / 10) - ((hI σ 43 24) / 10) / 10 * 10)) then (((hA σ 43 18 0 i) / 10) - ((hA σ 43 18 0 i) / 10) / 10 * 10) - (((hI σ 43 24) / 10) - ((hI σ 43 24) / 10) / 10 * 10) else -((((hA σ 43 18 0 i) / 10) - ((hA σ 43 18 0 i) / 10) / 10 * 10) - (((hI σ 43 24) / 10) - ((hI σ 43 24) / 10) / 10 * 10)))))), (0, .ref (hO E 43)), (1, .int (nI i)), (2, .ref (hR E 43 29 ro))]) C.1 C.2.1 dX12_distance_39 hl (by decide) rfl (fun ls hl => ?_)
          refine lv_iload_n C.1 C.2.1 dX12_distance_41 rfl (lv_at hl 3 rfl) ?_
          refine lv_aload_n C.1 C.2.1 dX12_distance_42 rfl (lv_at hl 6 rfl) ?_
          refine lv_iload C.1 C.2.1 dX12_distance_43 (lv_at hl 1 rfl) ?_
          refine g_riald C M 43 29 ro (by decide) rfl (by omega) (by decide) 4 (by decide) (by rw [vp_in_iff]; decide) (v := hA σ 43 29 ro 4) rfl dX12_distance_45 ?_
          refine lv_iload C.1 C.2.1 dX12_distance_46 (lv_at hl 0 rfl) ?_
          have J10 : ∀ (v9 : Int32) (ev9 : v9 = (if 0 ≤ ((((hA σ 43 18 0 i) / 1) - ((hA σ 43 18 0 i) / 1) / 10 * 10) - (((hI σ 43 24) / 1) - ((hI σ 43 24) / 1) / 10 * 10)) then (((hA σ 43 18 0 i) / 1) - ((hA σ 43 18 0 i) / 1) / 10 * 10) - (((hI σ 43 24) / 1) - ((hI σ 43 24) / 1) / 10 * 10) else -((((hA σ 43 18 0 i) / 1) - ((hA σ 43 18 0 i) / 1) / 10 * 10) - (((hI σ 43 24) / 1) - ((hI σ 43 24) / 1) / 10 * 10)))) (H : Heap) (locs : List Loc) (ls : Array Slot), hM E A s H locs σ Z → lv_has ls 7 [(6, .int ((((hA σ 43 18 0 i) / 1) - ((hA σ 43 18 0 i) / 1) / 10 * 10) - (((hI σ 43 24) / 1) - ((hI σ 43 24) / 1) / 10 * 10))), (5, .int 4), (4, .int 1), (3, .int ((((0 + ((hA σ 43 29 ro 0) * (if 0 ≤ ((((hA σ 43 18 0 i) / 10000) - ((hA σ 43 18 0 i) / 10000) / 10 * 10) - (((hI σ 43 24) / 10000) - ((hI σ 43 24) / 10000) / 10 * 10)) then (((hA σ 43 18 0 i) / 10000) - ((hA σ 43 18 0 i) / 10000) / 10 * 10) - (((hI σ 43 24) / 10000) - ((hI σ 43 24) / 10000) / 10 * 10) else -((((hA σ 43 18 0 i) / 10000) - ((hA σ 43 18 0 i) / 10000) / 10 * 10) - (((hI σ 43 24) / 10000) - ((hI σ 43 24) / 10000) / 10 * 10))))) + ((hA σ 43 29 ro 1) * (if 0 ≤ ((((hA σ 43 18 0 i) / 1000) - ((hA σ 43 18 0 i) / 1000) / 10 * 10) - (((hI σ 43 24) / 1000) - ((hI σ 43 24) / 1000) / 10 * 10)) then (((hA σ 43 18 0 i) / 1000) - ((hA σ 43 18 0 i) / 1000) / 10 * 10) - (((hI σ 43 24) / 1000) - ((hI σ 43 24) / 1000) / 10 * 10) else -((((hA σ 43 18 0 i) / 1000) - ((hA σ 43 18 0 i) / 1000) / 10 * 10) - (((hI σ 43 24) / 1000) - ((hI σ 43 24) / 1000) / 10 * 10))))) + ((hA σ 43 29 ro 2) * (if 0 ≤ ((((hA σ 43 18 0 i) / 100) - ((hA σ 43 18 0 i) / 100) / 10 * 10) - (((hI σ 43 24) / 100) - ((hI σ 43 24) / 100) / 10 * 10)) then (((hA σ 43 18 0 i) / 100) - ((hA σ 43 18 0 i) / 100) / 10 * 10) - (((hI σ 43 24) / 100) - ((hI σ 43 24) / 100) / 10 * 10) else -((((hA σ 43 18 0 i) / 100) - ((hA σ 43 18 0 i) / 100) / 10 * 10) - (((hI σ 43 24) / 100) - ((hI σ 43 24) / 100) / 10 * 10))))) + ((hA σ 43 29 ro 3) * (if 0 ≤ ((((hA σ 43 18 0 i) / 10) - ((hA σ 43 18 0 i) / 10) / 10 * 10) - (((hI σ 43 24) / 10) - ((hI σ 43 24) / 10) / 10 * 10)) then (((hA σ 43 18 0 i) / 10) - ((hA σ 43 18 0 i) / 10) / 10 * 10) - (((hI σ 43 24) / 10) - ((hI σ 43 24) / 10) / 10 * 10) else -((((hA σ 43 18 0 i) / 10) - ((hA σ 43 18 0 i) / 10) / 10 * 10) - (((hI σ 43 24) / 10) - ((hI σ 43 24) / 10) / 10 * 10)))))), (0, .ref (hO E 43)), (1, .int (nI i)), (2, .ref (hR E 43 29 ro))] → W p l e (hRm (0, 0, 0, 0)) s m [.ref (hO E 43), .int (nI i), .ref (hR E 43 29 ro)].toArray below meth c H locs 0 0 (MQ below (hQi E (fun r u => r = mDist (hA σ 43 18 0 i) (hI σ 43 24) (hA σ 43 29 ro) ∧ u = (σ, Z)) A) [.ref (hO E 43), .int (nI i), .ref (hR E 43 29 ro)].toArray s 0 0 A) (F0 m 59 ls [.int v9, .int (hA σ 43 29 ro 4), .int ((((0 + ((hA σ 43 29 ro 0) * (if 0 ≤ ((((hA σ 43 18 0 i) / 10000) - ((hA σ 43 18 0 i) / 10000) / 10 * 10) - (((hI σ 43 24) / 10000) - ((hI σ 43 24) / 10000) / 10 * 10)) then (((hA σ 43 18 0 i) / 10000) - ((hA σ 43 18 0 i) / 10000) / 10 * 10) - (((hI σ 43 24) / 10000) - ((hI σ 43 24) / 10000) / 10 * 10) else -((((hA σ 43 18 0 i) / 10000) - ((hA σ 43 18 0 i) / 10000) / 10 * 10) - (((hI σ 43 24) / 10000) - ((hI σ 43 24) / 10000) / 10 * 10))))) + ((hA σ 43 29 ro 1) * (if 0 ≤ ((((hA σ 43 18 0 i) / 1000) - ((hA σ 43 18 0 i) / 1000) / 10 * 10) - (((hI σ 43 24) / 1000) - ((hI σ 43 24) / 1000) / 10 * 10)) then (((hA σ 43 18 0 i) / 1000) - ((hA σ 43 18 0 i) / 1000) / 10 * 10) - (((hI σ 43 24) / 1000) - ((hI σ 43 24) / 1000) / 10 * 10) else -((((hA σ 43 18 0 i) / 1000) - ((hA σ 43 18 0 i) / 1000) / 10 * 10) - (((hI σ 43 24) / 1000) - ((hI σ 43 24) / 1000) / 10 * 10))))) + ((hA σ 43 29 ro 2) * (if 0 ≤ ((((hA σ 43 18 0 i) / 100) - ((hA σ 43 18 0 i) / 100) / 10 * 10) - (((hI σ 43 24) / 100) - ((hI σ 43 24) / 100) / 10 * 10)) then (((hA σ 43 18 0 i) / 100) - ((hA σ 43 18 0 i) / 100) / 10 * 10) - (((hI σ 43 24) / 100) - ((hI σ 43 24) / 100) / 10 * 10) else -((((hA σ 43 18 0 i) / 100) - ((hA σ 43 18 0 i) / 100) / 10 * 10) - (((hI σ 43 24) / 100) - ((hI σ 43 24) / 100) / 10 * 10))))) + ((hA σ 43 29 ro 3) * (if 0 ≤ ((((hA σ 43 18 0 i) / 10) - ((hA σ 43 18 0 i) / 10) / 10 * 10) - (((hI σ 43 24) / 10) - ((hI σ 43 24) / 10) / 10 * 10)) then (((hA σ 43 18 0 i) / 10) - ((hA σ 43 18 0 i) / 10) / 10 * 10) - (((hI σ 43 24) / 10) - ((hI σ 43 24) / 10) / 10 * 10) else -((((hA σ 43 18 0 i) / 10) - ((hA σ 43 18 0 i) / 10) / 10 * 10) - (((hI σ 43 24) / 10) - ((hI σ 43 24) / 10) / 10 * 10)))))]) := by
            intro v9 ev9 H locs ls M hl
            subst ev9
            refine lv_imul C.1 C.2.1 dX12_distance_59 ?_
            refine lv_iadd C.1 C.2.1 dX12_distance_60 ?_
            refine lv_istore_n (lv' := [(3, .int (((((0 + ((hA σ 43 29 ro 0) * (if 0 ≤ ((((hA σ 43 18 0 i) / 10000) - ((hA σ 43 18 0 i) / 10000) / 10 * 10) - (((hI σ 43 24) / 10000) - ((hI σ 43 24) / 10000) / 10 * 10)) then (((hA σ 43 18 0 i) / 10000) - ((hA σ 43 18 0 i) / 10000) / 10 * 10) - (((hI σ 43 24) / 10000) - ((hI σ 43 24) / 10000) / 10 * 10) else -((((hA σ 43 18 0 i) / 10000) - ((hA σ 43 18 0 i) / 10000) / 10 * 10) - (((hI σ 43 24) / 10000) - ((hI σ 43 24) / 10000) / 10 * 10))))) + ((hA σ 43 29 ro 1) * (if 0 ≤ ((((hA σ 43 18 0 i) / 1000) - ((hA σ 43 18 0 i) / 1000) / 10 * 10) - (((hI σ 43 24) / 1000) - ((hI σ 43 24) / 1000) / 10 * 10)) then (((hA σ 43 18 0 i) / 1000) - ((hA σ 43 18 0 i) / 1000) / 10 * 10) - (((hI σ 43 24) / 1000) - ((hI σ 43 24) / 1000) / 10 * 10) else -((((hA σ 43 18 0 i) / 1000) - ((hA σ 43 18 0 i) / 1000) / 10 * 10) - (((hI σ 43 24) / 1000) - ((hI σ 43 24) / 1000) / 10 * 10))))) + ((hA σ 43 29 ro 2) * (if 0 ≤ ((((hA σ 43 18 0 i) / 100) - ((hA σ 43 18 0 i) / 100) / 10 * 10) - (((hI σ 43 24) / 100) - ((hI σ 43 24) / 100) / 10 * 10)) then (((hA σ 43 18 0 i) / 100) - ((hA σ 43 18 0 i) / 100) / 10 * 10) - (((hI σ 43 24) / 100) - ((hI σ 43 24) / 100) / 10 * 10) else -((((hA σ 43 18 0 i) / 100) - ((hA σ 43 18 0 i) / 100) / 10 * 10) - (((hI σ 43 24) / 100) - ((hI σ 43 24) / 100) / 10 * 10))))) + ((hA σ 43 29 ro 3) * (if 0 ≤ ((((hA σ 43 18 0 i) / 10) - ((hA σ 43 18 0 i) / 10) / 10 * 10) - (((hI σ 43 24) / 10) - ((hI σ 43 24) / 10) / 10 * 10)) then (((hA σ 43 18 0 i) / 10) - ((hA σ 43 18 0 i) / 10) / 10 * 10) - (((hI σ 43 24) / 10) - ((hI σ 43 24) / 10) / 10 * 10) else -((((hA σ 43 18 0 i) / 10) - ((hA σ 43 18 0 i) / 10) / 10 * 10) - (((hI σ 43 24) / 10) - ((hI σ 43 24) / 10) / 10 * 10))))) + ((hA σ 43 29 ro 4) * (if 0 ≤ ((((hA σ 43 18 0 i) / 1) - ((hA σ 43 18 0 i) / 1) / 10 * 10) - (((hI σ 43 24) / 1) - ((hI σ 43 24) / 1) / 10 * 10)) then (((hA σ 43 18 0 i) / 1) - ((hA σ 43 18 0 i) / 1) / 10 * 10) - (((hI σ 43 24) / 1) - ((hI σ 43 24) / 1) / 10 * 10) else -((((hA σ 43 18 0 i) / 1) - ((hA σ 43 18 0 i) / 1) / 10 * 10) - (((hI σ 43 24) / 1) - ((hI σ 43 24) / 1) / 10 * 10)))))), (6, .int ((((hA σ 43 18 0 i) / 1) - ((hA σ 43 18 0 i) / 1) / 10 * 10) - (((hI σ 43 24) / 1) - ((hI σ 43 24) / 1) / 10 * 10))), (5, .int 4), (4, .int 1), (0, .ref (hO E 43)), (1, .int (nI i)), (2, .ref (hR E 43 29 ro))]) C.1 C.2.1 dX12_distance_61 rfl hl (by decide) rfl (fun ls hl => ?_)
            refine lv_iload C.1 C.2.1 dX12_distance_62 (lv_at hl 3 rfl) ?_
            refine lv_bipush (v := 10) C.1 C.2.1 dX12_distance_64 (by decide) ?_
            refine lv_idiv C.1 C.2.1 dX12_distance_66 (by decide) ?_
            refine g_rei (v := 0) (by decide) ?_
            refine lv_istore (lv' := [(4, .int 0), (3, .int (((((0 + ((hA σ 43 29 ro 0) * (if 0 ≤ ((((hA σ 43 18 0 i) / 10000) - ((hA σ 43 18 0 i) / 10000) / 10 * 10) - (((hI σ 43 24) / 10000) - ((hI σ 43 24) / 10000) / 10 * 10)) then (((hA σ 43 18 0 i) / 10000) - ((hA σ 43 18 0 i) / 10000) / 10 * 10) - (((hI σ 43 24) / 10000) - ((hI σ 43 24) / 10000) / 10 * 10) else -((((hA σ 43 18 0 i) / 10000) - ((hA σ 43 18 0 i) / 10000) / 10 * 10) - (((hI σ 43 24) / 10000) - ((hI σ 43 24) / 10000) / 10 * 10))))) + ((hA σ 43 29 ro 1) * (if 0 ≤ ((((hA σ 43 18 0 i) / 1000) - ((hA σ 43 18 0 i) / 1000) / 10 * 10) - (((hI σ 43 24) / 1000) - ((hI σ 43 24) / 1000) / 10 * 10)) then (((hA σ 43 18 0 i) / 1000) - ((hA σ 43 18 0 i) / 1000) / 10 * 10) - (((hI σ 43 24) / 1000) - ((hI σ 43 24) / 1000) / 10 * 10) else -((((hA σ 43 18 0 i) / 1000) - ((hA σ 43 18 0 i) / 1000) / 10 * 10) - (((hI σ 43 24) / 1000) - ((hI σ 43 24) / 1000) / 10 * 10))))) + ((hA σ 43 29 ro 2) * (if 0 ≤ ((((hA σ 43 18 0 i) / 100) - ((hA σ 43 18 0 i) / 100) / 10 * 10) - (((hI σ 43 24) / 100) - ((hI σ 43 24) / 100) / 10 * 10)) then (((hA σ 43 18 0 i) / 100) - ((hA σ 43 18 0 i) / 100) / 10 * 10) - (((hI σ 43 24) / 100) - ((hI σ 43 24) / 100) / 10 * 10) else -((((hA σ 43 18 0 i) / 100) - ((hA σ 43 18 0 i) / 100) / 10 * 10) - (((hI σ 43 24) / 100) - ((hI σ 43 24) / 100) / 10 * 10))))) + ((hA σ 43 29 ro 3) * (if 0 ≤ ((((hA σ 43 18 0 i) / 10) - ((hA σ 43 18 0 i) / 10) / 10 * 10) - (((hI σ 43 24) / 10) - ((hI σ 43 24) / 10) / 10 * 10)) then (((hA σ 43 18 0 i) / 10) - ((hA σ 43 18 0 i) / 10) / 10 * 10) - (((hI σ 43 24) / 10) - ((hI σ 43 24) / 10) / 10 * 10) else -((((hA σ 43 18 0 i) / 10) - ((hA σ 43 18 0 i) / 10) / 10 * 10) - (((hI σ 43 24) / 10) - ((hI σ 43 24) / 10) / 10 * 10))))) + ((hA σ 43 29 ro 4) * (if 0 ≤ ((((hA σ 43 18 0 i) / 1) - ((hA σ 43 18 0 i) / 1) / 10 * 10) - (((hI σ 43 24) / 1) - ((hI σ 43 24) / 1) / 10 * 10)) then (((hA σ 43 18 0 i) / 1) - ((hA σ 43 18 0 i) / 1) / 10 * 10) - (((hI σ 43 24) / 1) - ((hI σ 43 24) / 1) / 10 * 10) else -((((hA σ 43 18 0 i) / 1) - ((hA σ 43 18 0 i) / 1) / 10 * 10) - (((hI σ 43 24) / 1) - ((hI σ 43 24) / 1) / 10 * 10)))))), (6, .int ((((hA σ 43 18 0 i) / 1) - ((hA σ 43 18 0 i) / 1) / 10 * 10) - (((hI σ 43 24) / 1) - ((hI σ 43 24) / 1) / 10 * 10))), (5, .int 4), (0, .ref (hO E 43)), (1, .int (nI i)), (2, .ref (hR E 43 29 ro))]) C.1 C.2.1 dX12_distance_67 hl (by decide) rfl (fun ls hl => ?_)
            refine lv_iinc (v := 5) (lv' := [(5, .int 5), (4, .int 0), (3, .int (((((0 + ((hA σ 43 29 ro 0) * (if 0 ≤ ((((hA σ 43 18 0 i) / 10000) - ((hA σ 43 18 0 i) / 10000) / 10 * 10) - (((hI σ 43 24) / 10000) - ((hI σ 43 24) / 10000) / 10 * 10)) then (((hA σ 43 18 0 i) / 10000) - ((hA σ 43 18 0 i) / 10000) / 10 * 10) - (((hI σ 43 24) / 10000) - ((hI σ 43 24) / 10000) / 10 * 10) else -((((hA σ 43 18 0 i) / 10000) - ((hA σ 43 18 0 i) / 10000) / 10 * 10) - (((hI σ 43 24) / 10000) - ((hI σ 43 24) / 10000) / 10 * 10))))) + ((hA σ 43 29 ro 1) * (if 0 ≤ ((((hA σ 43 18 0 i) / 1000) - ((hA σ 43 18 0 i) / 1000) / 10 * 10) - (((hI σ 43 24) / 1000) - ((hI σ 43 24) / 1000) / 10 * 10)) then (((hA σ 43 18 0 i) / 1000) - ((hA σ 43 18 0 i) / 1000) / 10 * 10) - (((hI σ 43 24) / 1000) - ((hI σ 43 24) / 1000) / 10 * 10) else -((((hA σ 43 18 0 i) / 1000) - ((hA σ 43 18 0 i) / 1000) / 10 * 10) - (((hI σ 43 24) / 1000) - ((hI σ 43 24) / 1000) / 10 * 10))))) + ((hA σ 43 29 ro 2) * (if 0 ≤ ((((hA σ 43 18 0 i) / 100) - ((hA σ 43 18 0 i) / 100) / 10 * 10) - (((hI σ 43 24) / 100) - ((hI σ 43 24) / 100) / 10 * 10)) then (((hA σ 43 18 0 i) / 100) - ((hA σ 43 18 0 i) / 100) / 10 * 10) - (((hI σ 43 24) / 100) - ((hI σ 43 24) / 100) / 10 * 10) else -((((hA σ 43 18 0 i) / 100) - ((hA σ 43 18 0 i) / 100) / 10 * 10) - (((hI σ 43 24) / 100) - ((hI σ 43 24) / 100) / 10 * 10))))) + ((hA σ 43 29 ro 3) * (if 0 ≤ ((((hA σ 43 18 0 i) / 10) - ((hA σ 43 18 0 i) / 10) / 10 * 10) - (((hI σ 43 24) / 10) - ((hI σ 43 24) / 10) / 10 * 10)) then (((hA σ 43 18 0 i) / 10) - ((hA σ 43 18 0 i) / 10) / 10 * 10) - (((hI σ 43 24) / 10) - ((hI σ 43 24) / 10) / 10 * 10) else -((((hA σ 43 18 0 i) / 10) - ((hA σ 43 18 0 i) / 10) / 10 * 10) - (((hI σ 43 24) / 10) - ((hI σ 43 24) / 10) / 10 * 10))))) + ((hA σ 43 29 ro 4) * (if 0 ≤ ((((hA σ 43 18 0 i) / 1) - ((hA σ 43 18 0 i) / 1) / 10 * 10) - (((hI σ 43 24) / 1) - ((hI σ 43 24) / 1) / 10 * 10)) then (((hA σ 43 18 0 i) / 1) - ((hA σ 43 18 0 i) / 1) / 10 * 10) - (((hI σ 43 24) / 1) - ((hI σ 43 24) / 1) / 10 * 10) else -((((hA σ 43 18 0 i) / 1) - ((hA σ 43 18 0 i) / 1) / 10 * 10) - (((hI σ 43 24) / 1) - ((hI σ 43 24) / 1) / 10 * 10)))))), (6, .int ((((hA σ 43 18 0 i) / 1) - ((hA σ 43 18 0 i) / 1) / 10 * 10) - (((hI σ 43 24) / 1) - ((hI σ 43 24) / 1) / 10 * 10))), (0, .ref (hO E 43)), (1, .int (nI i)), (2, .ref (hR E 43 29 ro))]) C.1 C.2.1 dX12_distance_69 hl (k := 3) rfl (by decide) (by decide) rfl (fun ls hl => ?_)
            refine lv_goto (tgt := 10) C.1 C.2.1 dX12_distance_72 (by decide) ?_
            refine lv_iload C.1 C.2.1 dX12_distance_10 (lv_at hl 0 rfl) ?_
            refine lv_iconst (v := 5) C.1 C.2.1 dX12_distance_12 (by decide) ?_
            refine lv_icmp_ge (tgt := 75) C.1 C.2.1 dX12_distance_13 (by decide) (fun _ => ?_) (fun h9 => absurd h9 (by decide))
            refine lv_iload_n C.1 C.2.1 dX12_distance_75 rfl (lv_at hl 2 rfl) ?_
            refine g_iret C M hr hlk ?_ (Nat.le_of_ble_eq_true rfl) (Nat.le_of_ble_eq_true rfl) dX12_distance_76
            exact ⟨rfl, rfl⟩
          refine lv_if_ge (tgt := 57) C.1 C.2.1 dX12_distance_48 (by decide) (fun c_48 => ?_) (fun c_48 => ?_)
          · skip
            refine lv_iload C.1 C.2.1 dX12_distance_57 (lv_at hl 0 rfl) ?_
            exact J10 _ (by first | (simp only [c_48, not_false_eq_true, not_true_eq_false, and_self, and_true, true_and, and_false, false_and, or_true, true_or, or_false, false_or, Bool.false_eq_true, if_true, if_false, ↓reduceIte]; done) | simp [c_48]) _ _ _ M (lv_sub hl [0, 1, 2, 3, 4, 5, 6] rfl)
          · skip
            refine lv_iload C.1 C.2.1 dX12_distance_51 (lv_at hl 0 rfl) ?_
            refine lv_ineg C.1 C.2.1 dX12_distance_53 ?_
            refine lv_goto (tgt := 59) C.1 C.2.1 dX12_distance_54 (by decide) ?_
            exact J10 _ (by first | (simp only [c_48, not_false_eq_true, not_true_eq_false, and_self, and_true, true_and, and_false, false_and, or_true, true_or, or_false, false_or, Bool.false_eq_true, if_true, if_false, ↓reduceIte]; done) | simp [c_48]) _ _ _ M (lv_sub hl [0, 1, 2, 3, 4, 5, 6] rfl)
        refine lv_if_ge (tgt := 57) C.1 C.2.1 dX12_distance_48 (by decide) (fun c_48 => ?_) (fun c_48 => ?_)
        · skip
          refine lv_iload C.1 C.2.1 dX12_distance_57 (lv_at hl 0 rfl) ?_
          exact J8 _ (by first | (simp only [c_48, not_false_eq_true, not_true_eq_false, and_self, and_true, true_and, and_false, false_and, or_true, true_or, or_false, false_or, Bool.false_eq_true, if_true, if_false, ↓reduceIte]; done) | simp [c_48]) _ _ _ M (lv_sub hl [0, 1, 2, 3, 4, 5, 6] rfl)
        · skip
          refine lv_iload C.1 C.2.1 dX12_distance_51 (lv_at hl 0 rfl) ?_
          refine lv_ineg C.1 C.2.1 dX12_distance_53 ?_
          refine lv_goto (tgt := 59) C.1 C.2.1 dX12_distance_54 (by decide) ?_
          exact J8 _ (by first | (simp only [c_48, not_false_eq_true, not_true_eq_false, and_self, and_true, true_and, and_false, false_and, or_true, true_or, or_false, false_or, Bool.false_eq_true, if_true, if_false, ↓reduceIte]; done) | simp [c_48]) _ _ _ M (lv_sub hl [0, 1, 2, 3, 4, 5, 6] rfl)
      refine lv_if_ge (tgt := 57) C.1 C.2.1 dX12_distance_48 (by decide) (fun c_48 => ?_) (fun c_48 => ?_)
      · skip
        refine lv_iload C.1 C.2.1 dX12_distance_57 (lv_at hl 0 rfl) ?_
        exact J6 _ (by first | (simp only [c_48, not_false_eq_true, not_true_eq_false, and_self, and_true, true_and, and_false, false_and, or_true, true_or, or_false, false_or, Bool.false_eq_true, if_true, if_false, ↓reduceIte]; done) | simp [c_48]) _ _ _ M (lv_sub hl [0, 1, 2, 3, 4, 5, 6] rfl)
      · skip
        refine lv_iload C.1 C.2.1 dX12_distance_51 (lv_at hl 0 rfl) ?_
        refine lv_ineg C.1 C.2.1 dX12_distance_53 ?_
        refine lv_goto (tgt := 59) C.1 C.2.1 dX12_distance_54 (by decide) ?_
        exact J6 _ (by first | (simp only [c_48, not_false_eq_true, not_true_eq_false, and_self, and_true, true_and, and_false, false_and, or_true, true_or, or_false, false_or, Bool.false_eq_true, if_true, if_false, ↓reduceIte]; done) | simp [c_48]) _ _ _ M (lv_sub hl [0, 1, 2, 3, 4, 5, 6] rfl)
    refine lv_if_ge (tgt := 57) C.1 C.2.1 dX12_distance_48 (by decide) (fun c_48 => ?_) (fun c_48 => ?_)
    · skip
      refine lv_iload C.1 C.2.1 dX12_distance_57 (lv_at hl 0 rfl) ?_
      exact J4 _ (by first | (simp only [c_48, not_false_eq_true, not_true_eq_false, and_self, and_true, true_and, and_false, false_and, or_true, true_or, or_false, false_or, Bool.false_eq_true, if_true, if_false, ↓reduceIte]; done) | simp [c_48]) _ _ _ M (lv_sub hl [0, 1, 2, 3, 4, 5, 6] rfl)
    · skip
      refine lv_iload C.1 C.2.1 dX12_distance_51 (lv_at hl 0 rfl) ?_
      refine lv_ineg C.1 C.2.1 dX12_distance_53 ?_
      refine lv_goto (tgt := 59) C.1 C.2.1 dX12_distance_54 (by decide) ?_
      exact J4 _ (by first | (simp only [c_48, not_false_eq_true, not_true_eq_false, and_self, and_true, true_and, and_false, false_and, or_true, true_or, or_false, false_or, Bool.false_eq_true, if_true, if_false, ↓reduceIte]; done) | simp [c_48]) _ _ _ M (lv_sub hl [0, 1, 2, 3, 4, 5, 6] rfl)
  refine lv_if_ge (tgt := 57) C.1 C.2.1 dX12_distance_48 (by decide) (fun c_48 => ?_) (fun c_48 => ?_)
  · skip
    refine lv_iload C.1 C.2.1 dX12_distance_57 (lv_at hl 0 rfl) ?_
    exact J2 _ (by first | (simp only [c_48, not_false_eq_true, not_true_eq_false, and_self, and_true, true_and, and_false, false_and, or_true, true_or, or_false, false_or, Bool.false_eq_true, if_true, if_false, ↓reduceIte]; done) | simp [c_48]) _ _ _ M (lv_sub hl [0, 1, 2, 3, 4, 5, 6] rfl)
  · skip
    refine lv_iload C.1 C.2.1 dX12_distance_51 (lv_at hl 0 rfl) ?_
    refine lv_ineg C.1 C.2.1 dX12_distance_53 ?_
    refine lv_goto (tgt := 59) C.1 C.2.1 dX12_distance_54 (by decide) ?_
    exact J2 _ (by first | (simp only [c_48, not_false_eq_true, not_true_eq_false, and_self, and_true, true_and, and_false, false_and, or_true, true_or, or_false, false_or, Bool.false_eq_true, if_true, if_false, ↓reduceIte]; done) | simp [c_48]) _ _ _ M (lv_sub hl [0, 1, 2, 3, 4, 5, 6] rfl)
