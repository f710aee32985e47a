set_option maxHeartbeats 4000000 in
set_option maxRecDepth 100000 in
/-- in: low to high -/
theorem m_in (l : Launch) (E : hEnv) (σ : hMem) (Z : va_W) (v low high : Int32) : hMet l yX12_in cX12_in 3 (some .boolean) (0, 0, 0, 0) E σ Z [.int v, .int low, .int high] (hQi E (fun r u => r = bz (¬ v < low ∧ ¬ high < v) ∧ u = (σ, Z))) := by
  refine hMet.of (by decide) (Nat.le_of_ble_eq_true rfl) (fun p e s m below meth c A ls C M hr hlk hl => ?_)
  have hl : lv_has ls 3 [(0, .int v), (1, .int low), (2, .int high)] := hl
  refine lv_iload_n C.1 C.2.1 dX12_in_0 rfl (lv_at hl 0 rfl) ?_
  refine lv_iload_n C.1 C.2.1 dX12_in_1 rfl (lv_at hl 1 rfl) ?_
  have J2 : ∀ (v1 : Int32) (ev1 : v1 = bz ((¬ v < low) ∧ (¬ high < v))) (H : Heap) (locs : List Loc) (ls : Array Slot), hM E A s H locs σ Z → lv_has ls 3 [(0, .int v), (1, .int low), (2, .int high)] → W p l e (hRm (0, 0, 0, 0)) s m [.int v, .int low, .int high].toArray below meth c H locs 0 0 (MQ below (hQi E (fun r u => r = bz (¬ v < low ∧ ¬ high < v) ∧ u = (σ, Z)) A) [.int v, .int low, .int high].toArray s 0 0 A) (F0 m 15 ls [.int v1]) := by
    intro v1 ev1 H locs ls M hl
    subst ev1
    refine g_zret bz_nar C M hr hlk ?_ (Nat.le_of_ble_eq_true rfl) (Nat.le_of_ble_eq_true rfl) dX12_in_15
    exact ⟨rfl, rfl⟩
  refine lv_icmp_lt (tgt := 14) C.1 C.2.1 dX12_in_2 (by decide) (fun c_2 => ?_) (fun c_2 => ?_)
  · skip
    refine lv_iconst (v := 0) C.1 C.2.1 dX12_in_14 (by decide) ?_
    exact J2 _ (by simp [bz, c_2]) _ _ _ M (lv_sub hl [0, 1, 2] rfl)
  · skip
    refine lv_iload_n C.1 C.2.1 dX12_in_5 rfl (lv_at hl 0 rfl) ?_
    refine lv_iload_n C.1 C.2.1 dX12_in_6 rfl (lv_at hl 2 rfl) ?_
    refine lv_icmp_gt (tgt := 14) C.1 C.2.1 dX12_in_7 (by decide) (fun c_7 => ?_) (fun c_7 => ?_)
    · skip
      refine lv_iconst (v := 0) C.1 C.2.1 dX12_in_14 (by decide) ?_
      exact J2 _ (by simp [bz, c_2, c_7]) _ _ _ M (lv_sub hl [0, 1, 2] rfl)
    · skip
      refine lv_iconst (v := 1) C.1 C.2.1 dX12_in_10 (by decide) ?_
      refine lv_goto (tgt := 15) C.1 C.2.1 dX12_in_11 (by decide) ?_
      exact J2 _ (by simp [bz, c_2, c_7]) _ _ _ M (lv_sub hl [0, 1, 2] rfl)

set_option maxHeartbeats 4000000 in
set_option maxRecDepth 100000 in
theorem m_clock (l : Launch) (E : hEnv) (σ : hMem) (Z : va_W) (day : Int32) : hMet l yX12_clock cX12_clock 2 (some .boolean) (1, 0, 0, 22) E σ Z [.ref (hO E 43), .int day] (hQi E (fun r u => r = bz (¬ day < hI σ 43 1 ∧ ¬ 5000 < day) ∧ u = (if (¬ day < hI σ 43 1 ∧ ¬ 5000 < day) then sI σ 43 1 day else σ, Z))) := by
  refine hMet.of (by decide) (Nat.le_of_ble_eq_true rfl) (fun p e s m below meth c A ls C M hr hlk hl => ?_)
  have hl : lv_has ls 2 [(0, .ref (hO E 43)), (1, .int day)] := hl
  refine lv_iload_n C.1 C.2.1 dX12_clock_0 rfl (lv_at hl 1 rfl) ?_
  refine lv_aload_n C.1 C.2.1 dX12_clock_1 rfl (lv_at hl 0 rfl) ?_
  refine g_getI C M 43 1 (by decide) rfl rfl (by decide) fl12_128 (v := hI σ 43 1) rfl dX12_clock_2 ?_
  refine lv_sipush (v := 5000) C.1 C.2.1 dX12_clock_5 (by decide) ?_
  refine g_calli M (g_runS (As := [.int day, .int (hI σ 43 1), .int 5000]) (rest := []) C M (m_in l E σ Z day (hI σ 43 1) 5000) clX12_in stX12_in lk12_131 rfl ⟨Nat.le_of_ble_eq_true rfl, Nat.le_of_ble_eq_true rfl⟩ hl.1 rfl (Nat.le_of_ble_eq_true rfl) dX12_clock_8 ⟨Nat.le_of_ble_eq_true rfl, Nat.le_of_ble_eq_true rfl⟩) (fun r1 u H locs hR M => ?_)
  refine W.widen (k := 0) (n := 0) (Nat.le_of_ble_eq_true rfl) (Nat.le_of_ble_eq_true rfl) ?_
  obtain ⟨rfl, rfl⟩ := hR
  have M : hM E A s H locs σ Z := M
  refine lv_if_ne (tgt := 16) C.1 C.2.1 dX12_clock_11 (by decide) (fun c_11 => ?_) (fun c_11 => ?_)
  · skip
    simp only [bz_0, bz_1, bz_ne0, Classical.not_not] at c_11
    refine lv_aload_n C.1 C.2.1 dX12_clock_16 rfl (lv_at hl 0 rfl) ?_
    refine lv_iload_n C.1 C.2.1 dX12_clock_17 rfl (lv_at hl 1 rfl) ?_
    refine g_putI C M 43 1 (by decide) rfl rfl (by decide) fl12_128 rfl rfl dX12_clock_18 (fun H locs M => ?_)
    refine lv_iconst (v := 1) C.1 C.2.1 dX12_clock_21 (by decide) ?_
    refine g_zret rfl C M hr hlk ?_ (Nat.le_of_ble_eq_true rfl) (Nat.le_of_ble_eq_true rfl) dX12_clock_22
    simp only [bz, c_11, not_false_eq_true, not_true_eq_false, and_self, and_true, true_and, and_false, false_and, or_true, true_or, or_false, false_or, if_true, if_false, ↓reduceIte]
  · skip
    simp only [bz_0, bz_1, bz_ne0, Classical.not_not] at c_11
    refine lv_iconst (v := 0) C.1 C.2.1 dX12_clock_14 (by decide) ?_
    refine g_zret rfl C M hr hlk ?_ (Nat.le_of_ble_eq_true rfl) (Nat.le_of_ble_eq_true rfl) dX12_clock_15
    simp only [bz, c_11, not_false_eq_true, not_true_eq_false, and_self, and_true, true_and, and_false, false_and, or_true, true_or, or_false, false_or, if_true, if_false, ↓reduceIte]

set_option maxHeartbeats 4000000 in
set_option maxRecDepth 100000 in
theorem m_trust (l : Launch) (E : hEnv) (σ : hMem) (Z : va_W) (k v : Int32) : hMet l yX12_trust cX12_trust 4 (some .int) (1, 0, 0, 22) E σ Z [.ref (hO E 43), .int k, .int v] (hQi E (fun r u => r = (if (¬ k < 0 ∧ ¬ 5 < k) ∧ (¬ v < 0 ∧ ¬ 9 < v) then hA σ 43 2 0 k.toNatClampNeg else -1) ∧ u = (if (¬ k < 0 ∧ ¬ 5 < k) ∧ (¬ v < 0 ∧ ¬ 9 < v) then sA σ 43 2 0 (upd (hA σ 43 2 0) k.toNatClampNeg v) else σ, Z))) := by
  refine hMet.of (by decide) (Nat.le_of_ble_eq_true rfl) (fun p e s m below meth c A ls C M hr hlk hl => ?_)
  have hl : lv_has ls 4 [(0, .ref (hO E 43)), (1, .int k), (2, .int v)] := hl
  refine lv_iload_n C.1 C.2.1 dX12_trust_0 rfl (lv_at hl 1 rfl) ?_
  refine lv_iconst (v := 0) C.1 C.2.1 dX12_trust_1 (by decide) ?_
  refine lv_iconst (v := 5) C.1 C.2.1 dX12_trust_2 (by decide) ?_
  refine g_calli M (g_runS (As := [.int k, .int 0, .int 5]) (rest := []) C M (m_in l E σ Z k 0 5) clX12_in stX12_in lk12_131 rfl ⟨Nat.le_of_ble_eq_true rfl, Nat.le_of_ble_eq_true rfl⟩ hl.1 rfl (Nat.le_of_ble_eq_true rfl) dX12_trust_3 ⟨Nat.le_of_ble_eq_true rfl, Nat.le_of_ble_eq_true rfl⟩) (fun r1 u H locs hR M => ?_)
  refine W.widen (k := 0) (n := 0) (Nat.le_of_ble_eq_true rfl) (Nat.le_of_ble_eq_true rfl) ?_
  obtain ⟨rfl, rfl⟩ := hR
  have M : hM E A s H locs σ Z := M
  refine lv_if_eq (tgt := 19) C.1 C.2.1 dX12_trust_6 (by decide) (fun c_6 => ?_) (fun c_6 => ?_)
  · skip
    simp only [bz_0, bz_1, bz_ne0, Classical.not_not] at c_6
    refine lv_iconst (v := (-1)) C.1 C.2.1 dX12_trust_19 (by decide) ?_
    refine g_iret C M hr hlk ?_ (Nat.le_of_ble_eq_true rfl) (Nat.le_of_ble_eq_true rfl) dX12_trust_20
    simp only [bz, c_6, not_false_eq_true, not_true_eq_false, and_self, and_true, true_and, and_false, false_and, or_true, true_or, or_false, false_or, if_true, if_false, ↓reduceIte]
  · skip
    simp only [bz_0, bz_1, bz_ne0, Classical.not_not] at c_6
    refine lv_iload_n C.1 C.2.1 dX12_trust_9 rfl (lv_at hl 2 rfl) ?_
    refine lv_iconst (v := 0) C.1 C.2.1 dX12_trust_10 (by decide) ?_
    refine lv_bipush (v := 9) C.1 C.2.1 dX12_trust_11 (by decide) ?_
    refine g_calli M (g_runS (As := [.int v, .int 0, .int 9]) (rest := []) C M (m_in l E σ Z v 0 9) clX12_in stX12_in lk12_131 rfl ⟨Nat.le_of_ble_eq_true rfl, Nat.le_of_ble_eq_true rfl⟩ hl.1 rfl (Nat.le_of_ble_eq_true rfl) dX12_trust_13 ⟨Nat.le_of_ble_eq_true rfl, Nat.le_of_ble_eq_true rfl⟩) (fun r2 u H locs hR M => ?_)
    refine W.widen (k := 0) (n := 0) (Nat.le_of_ble_eq_true rfl) (Nat.le_of_ble_eq_true rfl) ?_
    obtain ⟨rfl, rfl⟩ := hR
    have M : hM E A s H locs σ Z := M
    refine lv_if_ne (tgt := 21) C.1 C.2.1 dX12_trust_16 (by decide) (fun c_16 => ?_) (fun c_16 => ?_)
    · skip
      simp only [bz_0, bz_1, bz_ne0, Classical.not_not] at c_16
      refine lv_aload_n C.1 C.2.1 dX12_trust_21 rfl (lv_at hl 0 rfl) ?_
      refine g_getA C M 43 2 (by decide) rfl rfl (by decide) fl12_7 dX12_trust_22 ?_
      refine lv_iload_n C.1 C.2.1 dX12_trust_25 rfl (lv_at hl 1 rfl) ?_
      refine g_iald C M 43 2 (by decide) rfl k.toNatClampNeg rfl (by exact vp_in_le c_6.1 c_6.2 (by decide)) (v := hA σ 43 2 0 k.toNatClampNeg) rfl dX12_trust_26 ?_
      refine lv_istore_n (lv' := [(3, .int (hA σ 43 2 0 k.toNatClampNeg)), (0, .ref (hO E 43)), (1, .int k), (2, .int v)]) C.1 C.2.1 dX12_trust_27 rfl hl (by decide) rfl (fun ls hl => ?_)
      refine lv_aload_n C.1 C.2.1 dX12_trust_28 rfl (lv_at hl 1 rfl) ?_
      refine g_getA C M 43 2 (by decide) rfl rfl (by decide) fl12_7 dX12_trust_29 ?_
      refine lv_iload_n C.1 C.2.1 dX12_trust_32 rfl (lv_at hl 2 rfl) ?_
      refine lv_iload_n C.1 C.2.1 dX12_trust_33 rfl (lv_at hl 3 rfl) ?_
      refine g_iast C M 43 2 (by decide) rfl k.toNatClampNeg rfl (by exact vp_in_le c_6.1 c_6.2 (by decide)) dX12_trust_34 (fun H locs M => ?_)
      have M : hM E A s H locs (sA σ 43 2 0 (upd (hA σ 43 2 0) k.toNatClampNeg v)) Z := M
      refine lv_iload_n C.1 C.2.1 dX12_trust_35 rfl (lv_at hl 0 rfl) ?_
      refine g_iret C M hr hlk ?_ (Nat.le_of_ble_eq_true rfl) (Nat.le_of_ble_eq_true rfl) dX12_trust_36
      simp only [bz, c_6, c_16, not_false_eq_true, not_true_eq_false, and_self, and_true, true_and, and_false, false_and, or_true, true_or, or_false, false_or, if_true, if_false, ↓reduceIte]
    · skip
      simp only [bz_0, bz_1, bz_ne0, Classical.not_not] at c_16
      refine lv_iconst (v := (-1)) C.1 C.2.1 dX12_trust_19 (by decide) ?_
      refine g_iret C M hr hlk ?_ (Nat.le_of_ble_eq_true rfl) (Nat.le_of_ble_eq_true rfl) dX12_trust_20
      simp only [bz, c_6, c_16, not_false_eq_true, not_true_eq_false, and_self, and_true, true_and, and_false, false_and, or_true, true_or, or_false, false_or, if_true, if_false, ↓reduceIte]
