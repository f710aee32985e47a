set_option maxHeartbeats 4000000 in
set_option maxRecDepth 100000 in
/-- in: low to high -/
theorem m_in (l : Launch) (E : hEnv) (σ : hMem) (Z : va_W) (v low high : Int32) : hMet l yX12_in cX12_in 3 (some .boolean) (0, 0, 0, 0) E σ Z [.int v, .int low, .int high] (hQi E (fun r u => r = bz (inB v low high = true) ∧ u = (σ, Z))) := by
  refine hMet.of (by decide) (Nat.le_of_ble_eq_true rfl) (fun p e s m below meth c A ls C M hr hlk hl => ?_)
  have hl : lv_has ls 3 [(0, .int v), (1, .int low), (2, .int high)] := hl
  refine lv_iload_n C.1 C.2.1 dX12_in_0 rfl (lv_at hl 0 rfl) ?_
  refine lv_iload_n C.1 C.2.1 dX12_in_1 rfl (lv_at hl 1 rfl) ?_
  have J2 : ∀ (v1 : Int32) (ev1 : v1 = bz ((¬ v < low) ∧ (¬ high < v))) (H : Heap) (locs : List Loc) (ls : Array Slot), hM E A s H locs σ Z → lv_has ls 3 [(0, .int v), (1, .int low), (2, .int high)] → W p l e (hRm (0, 0, 0, 0)) s m [.int v, .int low, .int high].toArray below meth c H locs 0 0 (MQ below (hQi E (fun r u => r = bz (inB v low high = true) ∧ u = (σ, Z)) A) [.int v, .int low, .int high].toArray s 0 0 A) (F0 m 15 ls [.int v1]) := by
    intro v1 ev1 H locs ls M hl
    subst ev1
    refine g_zret bz_nar C M hr hlk ?_ (Nat.le_of_ble_eq_true rfl) (Nat.le_of_ble_eq_true rfl) dX12_in_15
    exact ⟨bz_congr inB_iff.symm, rfl⟩
  refine lv_icmp_lt (tgt := 14) C.1 C.2.1 dX12_in_2 (by decide) (fun c_2 => ?_) (fun c_2 => ?_)
  · skip
    refine lv_iconst (v := 0) C.1 C.2.1 dX12_in_14 (by decide) ?_
    exact J2 _ (by first | (simp only [bz, c_2, not_false_eq_true, not_true_eq_false, and_self, and_true, true_and, and_false, false_and, or_true, true_or, or_false, false_or, Bool.false_eq_true, if_true, if_false, ↓reduceIte]; done) | simp [bz, c_2]) _ _ _ M (lv_sub hl [0, 1, 2] rfl)
  · skip
    refine lv_iload_n C.1 C.2.1 dX12_in_5 rfl (lv_at hl 0 rfl) ?_
    refine lv_iload_n C.1 C.2.1 dX12_in_6 rfl (lv_at hl 2 rfl) ?_
    refine lv_icmp_gt (tgt := 14) C.1 C.2.1 dX12_in_7 (by decide) (fun c_7 => ?_) (fun c_7 => ?_)
    · skip
      refine lv_iconst (v := 0) C.1 C.2.1 dX12_in_14 (by decide) ?_
      exact J2 _ (by first | (simp only [bz, c_2, c_7, not_false_eq_true, not_true_eq_false, and_self, and_true, true_and, and_false, false_and, or_true, true_or, or_false, false_or, Bool.false_eq_true, if_true, if_false, ↓reduceIte]; done) | simp [bz, c_2, c_7]) _ _ _ M (lv_sub hl [0, 1, 2] rfl)
    · skip
      refine lv_iconst (v := 1) C.1 C.2.1 dX12_in_10 (by decide) ?_
      refine lv_goto (tgt := 15) C.1 C.2.1 dX12_in_11 (by decide) ?_
      exact J2 _ (by first | (simp only [bz, c_2, c_7, not_false_eq_true, not_true_eq_false, and_self, and_true, true_and, and_false, false_and, or_true, true_or, or_false, false_or, Bool.false_eq_true, if_true, if_false, ↓reduceIte]; done) | simp [bz, c_2, c_7]) _ _ _ M (lv_sub hl [0, 1, 2] rfl)

set_option maxHeartbeats 4000000 in
set_option maxRecDepth 100000 in
theorem m_clock (l : Launch) (E : hEnv) (σ : hMem) (Z : va_W) (day : Int32) : hMet l yX12_clock cX12_clock 2 (some .boolean) (1, 0, 0, 22) E σ Z [.ref (hO E 43), .int day] (hQi E (fun r u => r = bz (inB day (hI σ 43 1) 5000 = true) ∧ u = (if inB day (hI σ 43 1) 5000 = true then sI σ 43 1 day else σ, Z))) := by
  refine hMet.of (by decide) (Nat.le_of_ble_eq_true rfl) (fun p e s m below meth c A ls C M hr hlk hl => ?_)
  have hl : lv_has ls 2 [(0, .ref (hO E 43)), (1, .int day)] := hl
  refine lv_iload_n C.1 C.2.1 dX12_clock_0 rfl (lv_at hl 1 rfl) ?_
  refine lv_aload_n C.1 C.2.1 dX12_clock_1 rfl (lv_at hl 0 rfl) ?_
  refine g_getI C M 43 1 (by decide) rfl rfl (by decide) fl12_128 (v := hI σ 43 1) rfl dX12_clock_2 ?_
  refine lv_sipush (v := 5000) C.1 C.2.1 dX12_clock_5 (by decide) ?_
  refine g_calli M (g_runS (As := [.int day, .int (hI σ 43 1), .int 5000]) (rest := []) C M (m_in l E σ Z day (hI σ 43 1) 5000) clX12_in stX12_in lk12_131 rfl ⟨Nat.le_of_ble_eq_true rfl, Nat.le_of_ble_eq_true rfl⟩ hl.1 rfl (Nat.le_of_ble_eq_true rfl) dX12_clock_8 ⟨Nat.le_of_ble_eq_true rfl, Nat.le_of_ble_eq_true rfl⟩) (fun r1 u H locs hR M => ?_)
  refine W.widen (k := 0) (n := 0) (Nat.le_of_ble_eq_true rfl) (Nat.le_of_ble_eq_true rfl) ?_
  obtain ⟨rfl, rfl⟩ := hR
  have M : hM E A s H locs σ Z := M
  refine lv_if_ne (tgt := 16) C.1 C.2.1 dX12_clock_11 (by decide) (fun c_11 => ?_) (fun c_11 => ?_)
  · skip
    have c_11 : inB day (hI σ 43 1) 5000 = true := bz_ne0.mp c_11
    refine lv_aload_n C.1 C.2.1 dX12_clock_16 rfl (lv_at hl 0 rfl) ?_
    refine lv_iload_n C.1 C.2.1 dX12_clock_17 rfl (lv_at hl 1 rfl) ?_
    refine g_putI C M 43 1 (by decide) rfl rfl (by decide) fl12_128 rfl rfl dX12_clock_18 (fun H locs M => ?_)
    refine lv_iconst (v := 1) C.1 C.2.1 dX12_clock_21 (by decide) ?_
    refine g_zret rfl C M hr hlk ?_ (Nat.le_of_ble_eq_true rfl) (Nat.le_of_ble_eq_true rfl) dX12_clock_22
    simp only [bz, c_11, not_false_eq_true, not_true_eq_false, and_self, and_true, true_and, and_false, false_and, or_true, true_or, or_false, false_or, Bool.false_eq_true, if_true, if_false, ↓reduceIte]
  · skip
    have c_11 : ¬ inB day (hI σ 43 1) 5000 = true := bz_0.mp c_11
    refine lv_iconst (v := 0) C.1 C.2.1 dX12_clock_14 (by decide) ?_
    refine g_zret rfl C M hr hlk ?_ (Nat.le_of_ble_eq_true rfl) (Nat.le_of_ble_eq_true rfl) dX12_clock_15
    simp only [bz, c_11, not_false_eq_true, not_true_eq_false, and_self, and_true, true_and, and_false, false_and, or_true, true_or, or_false, false_or, Bool.false_eq_true, if_true, if_false, ↓reduceIte]

set_option maxHeartbeats 4000000 in
set_option maxRecDepth 100000 in
theorem m_trust (l : Launch) (E : hEnv) (σ : hMem) (Z : va_W) (k v : Int32) : hMet l yX12_trust cX12_trust 4 (some .int) (1, 0, 0, 22) E σ Z [.ref (hO E 43), .int k, .int v] (hQi E (fun r u => r = (if inB k 0 5 = true ∧ inB v 0 9 = true then hA σ 43 2 0 k.toNatClampNeg else -1) ∧ u = (if inB k 0 5 = true ∧ inB v 0 9 = true then sA σ 43 2 0 (upd (hA σ 43 2 0) k.toNatClampNeg v) else σ, Z))) := by
  refine hMet.of (by decide) (Nat.le_of_ble_eq_true rfl) (fun p e s m below meth c A ls C M hr hlk hl => ?_)
  have hl : lv_has ls 4 [(0, .ref (hO E 43)), (1, .int k), (2, .int v)] := hl
  refine lv_iload_n C.1 C.2.1 dX12_trust_0 rfl (lv_at hl 1 rfl) ?_
  refine lv_iconst (v := 0) C.1 C.2.1 dX12_trust_1 (by decide) ?_
  refine lv_iconst (v := 5) C.1 C.2.1 dX12_trust_2 (by decide) ?_
  refine g_calli M (g_runS (As := [.int k, .int 0, .int 5]) (rest := []) C M (m_in l E σ Z k 0 5) clX12_in stX12_in lk12_131 rfl ⟨Nat.le_of_ble_eq_true rfl, Nat.le_of_ble_eq_true rfl⟩ hl.1 rfl (Nat.le_of_ble_eq_true rfl) dX12_trust_3 ⟨Nat.le_of_ble_eq_true rfl, Nat.le_of_ble_eq_true rfl⟩) (fun r1 u H locs hR M => ?_)
  refine W.widen (k := 0) (n := 0) (Nat.le_of_ble_eq_true rfl) (Nat.le_of_ble_eq_true rfl) ?_
  obtain ⟨rfl, rfl⟩ := hR
  have M : hM E A s H locs σ Z := M
  refine lv_if_eq (tgt := 19) C.1 C.2.1 dX12_trust_6 (by decide) (fun c_6 => ?_) (fun c_6 => ?_)
  · skip
    have c_6 : ¬ inB k 0 5 = true := bz_0.mp c_6
    refine lv_iconst (v := (-1)) C.1 C.2.1 dX12_trust_19 (by decide) ?_
    refine g_iret C M hr hlk ?_ (Nat.le_of_ble_eq_true rfl) (Nat.le_of_ble_eq_true rfl) dX12_trust_20
    simp only [bz, c_6, not_false_eq_true, not_true_eq_false, and_self, and_true, true_and, and_false, false_and, or_true, true_or, or_false, false_or, Bool.false_eq_true, if_true, if_false, ↓reduceIte]
  · skip
    have c_6 : inB k 0 5 = true := bz_ne0.mp c_6
    refine lv_iload_n C.1 C.2.1 dX12_trust_9 rfl (lv_at hl 2 rfl) ?_
    refine lv_iconst (v := 0) C.1 C.2.1 dX12_trust_10 (by decide) ?_
    refine lv_bipush (v := 9) C.1 C.2.1 dX12_trust_11 (by decide) ?_
    refine g_calli M (g_runS (As := [.int v, .int 0, .int 9]) (rest := []) C M (m_in l E σ Z v 0 9) clX12_in stX12_in lk12_131 rfl ⟨Nat.le_of_ble_eq_true rfl, Nat.le_of_ble_eq_true rfl⟩ hl.1 rfl (Nat.le_of_ble_eq_true rfl) dX12_trust_13 ⟨Nat.le_of_ble_eq_true rfl, Nat.le_of_ble_eq_true rfl⟩) (fun r2 u H locs hR M => ?_)
    refine W.widen (k := 0) (n := 0) (Nat.le_of_ble_eq_true rfl) (Nat.le_of_ble_eq_true rfl) ?_
    obtain ⟨rfl, rfl⟩ := hR
    have M : hM E A s H locs σ Z := M
    refine lv_if_ne (tgt := 21) C.1 C.2.1 dX12_trust_16 (by decide) (fun c_16 => ?_) (fun c_16 => ?_)
    · skip
      have c_16 : inB v 0 9 = true := bz_ne0.mp c_16
      refine lv_aload_n C.1 C.2.1 dX12_trust_21 rfl (lv_at hl 0 rfl) ?_
      refine g_getA C M 43 2 (by decide) rfl rfl (by decide) fl12_7 dX12_trust_22 ?_
      refine lv_iload_n C.1 C.2.1 dX12_trust_25 rfl (lv_at hl 1 rfl) ?_
      refine g_iald C M 43 2 (by decide) rfl k.toNatClampNeg rfl (by exact vp_in_B c_6 (by decide)) (v := hA σ 43 2 0 k.toNatClampNeg) rfl dX12_trust_26 ?_
      refine lv_istore_n (lv' := [(3, .int (hA σ 43 2 0 k.toNatClampNeg)), (0, .ref (hO E 43)), (1, .int k), (2, .int v)]) C.1 C.2.1 dX12_trust_27 rfl hl (by decide) rfl (fun ls hl => ?_)
      refine lv_aload_n C.1 C.2.1 dX12_trust_28 rfl (lv_at hl 1 rfl) ?_
      refine g_getA C M 43 2 (by decide) rfl rfl (by decide) fl12_7 dX12_trust_29 ?_
      refine lv_iload_n C.1 C.2.1 dX12_trust_32 rfl (lv_at hl 2 rfl) ?_
      refine lv_iload_n C.1 C.2.1 dX12_trust_33 rfl (lv_at hl 3 rfl) ?_
      refine g_iast C M 43 2 (by decide) rfl k.toNatClampNeg rfl (by exact vp_in_B c_6 (by decide)) dX12_trust_34 (fun H locs M => ?_)
      have M : hM E A s H locs (sA σ 43 2 0 (upd (hA σ 43 2 0) k.toNatClampNeg v)) Z := M
      refine lv_iload_n C.1 C.2.1 dX12_trust_35 rfl (lv_at hl 0 rfl) ?_
      refine g_iret C M hr hlk ?_ (Nat.le_of_ble_eq_true rfl) (Nat.le_of_ble_eq_true rfl) dX12_trust_36
      simp only [bz, c_6, c_16, not_false_eq_true, not_true_eq_false, and_self, and_true, true_and, and_false, false_and, or_true, true_or, or_false, false_or, Bool.false_eq_true, if_true, if_false, ↓reduceIte]
    · skip
      have c_16 : ¬ inB v 0 9 = true := bz_0.mp c_16
      refine lv_iconst (v := (-1)) C.1 C.2.1 dX12_trust_19 (by decide) ?_
      refine g_iret C M hr hlk ?_ (Nat.le_of_ble_eq_true rfl) (Nat.le_of_ble_eq_true rfl) dX12_trust_20
      simp only [bz, c_6, c_16, not_false_eq_true, not_true_eq_false, and_self, and_true, true_and, and_false, false_and, or_true, true_or, or_false, false_or, Bool.false_eq_true, if_true, if_false, ↓reduceIte]

def sayOk (n : Nat) (l a b low high : Int32) : Prop := ¬ nI n = 40 ∧ inB l 0 5 = true ∧ inB a 0 15 = true ∧ inB b 0 15 = true ∧ ¬ a = b ∧ inB low (-10000) 10000 = true ∧ inB high low 10000 = true
def mSay (σ : hMem) (n : Nat) (l a b low high : Int32) : hMem := sI (sA (sA (sA (sA (sA σ 43 4 0 (upd (hA σ 43 4 0) n l)) 43 5 0 (upd (hA σ 43 5 0) n a)) 43 6 0 (upd (hA σ 43 6 0) n b)) 43 7 0 (upd (hA σ 43 7 0) n low)) 43 8 0 (upd (hA σ 43 8 0) n high)) 43 3 (nI (n + 1))

set_option maxHeartbeats 4000000 in
set_option maxRecDepth 100000 in
theorem m_says (l : Launch) (E : hEnv) (σ : hMem) (Z : va_W) (n : Nat) (hn : hI σ 43 3 = nI n) (hn40 : n ≤ 40) (l9 a b low high : Int32) : hMet l yX12_says cX12_says 6 (some .int) (1, 0, 0, 22) E σ Z [.ref (hO E 43), .int l9, .int a, .int b, .int low, .int high] (hQi E (fun r u => (sayOk n l9 a b low high → r = nI n ∧ u = (mSay σ n l9 a b low high, Z)) ∧ (¬ (sayOk n l9 a b low high) → r = -1 ∧ u = (σ, Z)))) := by
  refine hMet.of (by decide) (Nat.le_of_ble_eq_true rfl) (fun p e s m below meth c A ls C M hr hlk hl => ?_)
  have hl : lv_has ls 6 [(0, .ref (hO E 43)), (1, .int l9), (2, .int a), (3, .int b), (4, .int low), (5, .int high)] := hl
  refine lv_aload_n C.1 C.2.1 dX12_says_0 rfl (lv_at hl 0 rfl) ?_
  refine g_getI C M 43 3 (by decide) rfl rfl (by decide) fl12_135 (v := nI n) hn dX12_says_1 ?_
  refine lv_bipush (v := 40) C.1 C.2.1 dX12_says_4 (by decide) ?_
  refine lv_icmp_eq (tgt := 70) C.1 C.2.1 dX12_says_6 (by decide) (fun c_6 => ?_) (fun c_6 => ?_)
  · skip
    refine lv_iconst (v := (-1)) C.1 C.2.1 dX12_says_70 (by decide) ?_
    refine g_iret C M hr hlk ?_ (Nat.le_of_ble_eq_true rfl) (Nat.le_of_ble_eq_true rfl) dX12_says_71
    refine ⟨fun h => absurd h (by simp only [sayOk, c_6, Bool.false_eq_true, not_true_eq_false, not_false_eq_true, and_true, true_and, false_and, and_false]), fun _ => ⟨rfl, rfl⟩⟩
  · skip
    have hlt : n < 40 := by have := ct_ne 40 c_6; omega
    refine lv_iload_n C.1 C.2.1 dX12_says_9 rfl (lv_at hl 1 rfl) ?_
    refine lv_iconst (v := 0) C.1 C.2.1 dX12_says_10 (by decide) ?_
    refine lv_iconst (v := 5) C.1 C.2.1 dX12_says_11 (by decide) ?_
    refine g_calli M (g_runS (As := [.int l9, .int 0, .int 5]) (rest := []) C M (m_in l E σ Z l9 0 5) clX12_in stX12_in lk12_131 rfl ⟨Nat.le_of_ble_eq_true rfl, Nat.le_of_ble_eq_true rfl⟩ hl.1 rfl (Nat.le_of_ble_eq_true rfl) dX12_says_12 ⟨Nat.le_of_ble_eq_true rfl, Nat.le_of_ble_eq_true rfl⟩) (fun r1 u H locs hR M => ?_)
    refine W.widen (k := 0) (n := 0) (Nat.le_of_ble_eq_true rfl) (Nat.le_of_ble_eq_true rfl) ?_
    obtain ⟨rfl, rfl⟩ := hR
    have M : hM E A s H locs σ Z := M
    refine lv_if_eq (tgt := 70) C.1 C.2.1 dX12_says_15 (by decide) (fun c_15 => ?_) (fun c_15 => ?_)
    · skip
      have c_15 : ¬ inB l9 0 5 = true := bz_0.mp c_15
      refine lv_iconst (v := (-1)) C.1 C.2.1 dX12_says_70 (by decide) ?_
      refine g_iret C M hr hlk ?_ (Nat.le_of_ble_eq_true rfl) (Nat.le_of_ble_eq_true rfl) dX12_says_71
      refine ⟨fun h => absurd h (by simp only [sayOk, c_6, c_15, Bool.false_eq_true, not_true_eq_false, not_false_eq_true, and_true, true_and, false_and, and_false]), fun _ => ⟨rfl, rfl⟩⟩
    · skip
      have c_15 : inB l9 0 5 = true := bz_ne0.mp c_15
      refine lv_iload_n C.1 C.2.1 dX12_says_18 rfl (lv_at hl 2 rfl) ?_
      refine lv_iconst (v := 0) C.1 C.2.1 dX12_says_19 (by decide) ?_
      refine lv_bipush (v := 15) C.1 C.2.1 dX12_says_20 (by decide) ?_
      refine g_calli M (g_runS (As := [.int a, .int 0, .int 15]) (rest := []) C M (m_in l E σ Z a 0 15) clX12_in stX12_in lk12_131 rfl ⟨Nat.le_of_ble_eq_true rfl, Nat.le_of_ble_eq_true rfl⟩ hl.1 rfl (Nat.le_of_ble_eq_true rfl) dX12_says_22 ⟨Nat.le_of_ble_eq_true rfl, Nat.le_of_ble_eq_true rfl⟩) (fun r2 u H locs hR M => ?_)
      refine W.widen (k := 0) (n := 0) (Nat.le_of_ble_eq_true rfl) (Nat.le_of_ble_eq_true rfl) ?_
      obtain ⟨rfl, rfl⟩ := hR
      have M : hM E A s H locs σ Z := M
      refine lv_if_eq (tgt := 70) C.1 C.2.1 dX12_says_25 (by decide) (fun c_25 => ?_) (fun c_25 => ?_)
      · skip
        have c_25 : ¬ inB a 0 15 = true := bz_0.mp c_25
        refine lv_iconst (v := (-1)) C.1 C.2.1 dX12_says_70 (by decide) ?_
        refine g_iret C M hr hlk ?_ (Nat.le_of_ble_eq_true rfl) (Nat.le_of_ble_eq_true rfl) dX12_says_71
        refine ⟨fun h => absurd h (by simp only [sayOk, c_6, c_15, c_25, Bool.false_eq_true, not_true_eq_false, not_false_eq_true, and_true, true_and, false_and, and_false]), fun _ => ⟨rfl, rfl⟩⟩
      · skip
        have c_25 : inB a 0 15 = true := bz_ne0.mp c_25
        refine lv_iload_n C.1 C.2.1 dX12_says_28 rfl (lv_at hl 3 rfl) ?_
        refine lv_iconst (v := 0) C.1 C.2.1 dX12_says_29 (by decide) ?_
        refine lv_bipush (v := 15) C.1 C.2.1 dX12_says_30 (by decide) ?_
        refine g_calli M (g_runS (As := [.int b, .int 0, .int 15]) (rest := []) C M (m_in l E σ Z b 0 15) clX12_in stX12_in lk12_131 rfl ⟨Nat.le_of_ble_eq_true rfl, Nat.le_of_ble_eq_true rfl⟩ hl.1 rfl (Nat.le_of_ble_eq_true rfl) dX12_says_32 ⟨Nat.le_of_ble_eq_true rfl, Nat.le_of_ble_eq_true rfl⟩) (fun r3 u H locs hR M => ?_)
        refine W.widen (k := 0) (n := 0) (Nat.le_of_ble_eq_true rfl) (Nat.le_of_ble_eq_true rfl) ?_
        obtain ⟨rfl, rfl⟩ := hR
        have M : hM E A s H locs σ Z := M
        refine lv_if_eq (tgt := 70) C.1 C.2.1 dX12_says_35 (by decide) (fun c_35 => ?_) (fun c_35 => ?_)
        · skip
          have c_35 : ¬ inB b 0 15 = true := bz_0.mp c_35
          refine lv_iconst (v := (-1)) C.1 C.2.1 dX12_says_70 (by decide) ?_
          refine g_iret C M hr hlk ?_ (Nat.le_of_ble_eq_true rfl) (Nat.le_of_ble_eq_true rfl) dX12_says_71
          refine ⟨fun h => absurd h (by simp only [sayOk, c_6, c_15, c_25, c_35, Bool.false_eq_true, not_true_eq_false, not_false_eq_true, and_true, true_and, false_and, and_false]), fun _ => ⟨rfl, rfl⟩⟩
        · skip
          have c_35 : inB b 0 15 = true := bz_ne0.mp c_35
          refine lv_iload_n C.1 C.2.1 dX12_says_38 rfl (lv_at hl 2 rfl) ?_
          refine lv_iload_n C.1 C.2.1 dX12_says_39 rfl (lv_at hl 3 rfl) ?_
          refine lv_icmp_eq (tgt := 70) C.1 C.2.1 dX12_says_40 (by decide) (fun c_40 => ?_) (fun c_40 => ?_)
          · skip
            refine lv_iconst (v := (-1)) C.1 C.2.1 dX12_says_70 (by decide) ?_
            refine g_iret C M hr hlk ?_ (Nat.le_of_ble_eq_true rfl) (Nat.le_of_ble_eq_true rfl) dX12_says_71
            refine ⟨fun h => absurd h (by simp only [sayOk, c_6, c_15, c_25, c_35, c_40, Bool.false_eq_true, not_true_eq_false, not_false_eq_true, and_true, true_and, false_and, and_false]), fun _ => ⟨rfl, rfl⟩⟩
          · skip
            refine lv_iload C.1 C.2.1 dX12_says_43 (lv_at hl 4 rfl) ?_
            refine lv_sipush (v := (-10000)) C.1 C.2.1 dX12_says_45 (by decide) ?_
            refine lv_sipush (v := 10000) C.1 C.2.1 dX12_says_48 (by decide) ?_
            refine g_calli M (g_runS (As := [.int low, .int (-10000), .int 10000]) (rest := []) C M (m_in l E σ Z low (-10000) 10000) clX12_in stX12_in lk12_131 rfl ⟨Nat.le_of_ble_eq_true rfl, Nat.le_of_ble_eq_true rfl⟩ hl.1 rfl (Nat.le_of_ble_eq_true rfl) dX12_says_51 ⟨Nat.le_of_ble_eq_true rfl, Nat.le_of_ble_eq_true rfl⟩) (fun r4 u H locs hR M => ?_)
            refine W.widen (k := 0) (n := 0) (Nat.le_of_ble_eq_true rfl) (Nat.le_of_ble_eq_true rfl) ?_
            obtain ⟨rfl, rfl⟩ := hR
            have M : hM E A s H locs σ Z := M
            refine lv_if_eq (tgt := 70) C.1 C.2.1 dX12_says_54 (by decide) (fun c_54 => ?_) (fun c_54 => ?_)
            · skip
              have c_54 : ¬ inB low (-10000) 10000 = true := bz_0.mp c_54
              refine lv_iconst (v := (-1)) C.1 C.2.1 dX12_says_70 (by decide) ?_
              refine g_iret C M hr hlk ?_ (Nat.le_of_ble_eq_true rfl) (Nat.le_of_ble_eq_true rfl) dX12_says_71
              refine ⟨fun h => absurd h (by simp only [sayOk, c_6, c_15, c_25, c_35, c_40, c_54, Bool.false_eq_true, not_true_eq_false, not_false_eq_true, and_true, true_and, false_and, and_false]), fun _ => ⟨rfl, rfl⟩⟩
            · skip
              have c_54 : inB low (-10000) 10000 = true := bz_ne0.mp c_54
              refine lv_iload C.1 C.2.1 dX12_says_57 (lv_at hl 5 rfl) ?_
              refine lv_iload C.1 C.2.1 dX12_says_59 (lv_at hl 4 rfl) ?_
              refine lv_sipush (v := 10000) C.1 C.2.1 dX12_says_61 (by decide) ?_
              refine g_calli M (g_runS (As := [.int high, .int low, .int 10000]) (rest := []) C M (m_in l E σ Z high low 10000) clX12_in stX12_in lk12_131 rfl ⟨Nat.le_of_ble_eq_true rfl, Nat.le_of_ble_eq_true rfl⟩ hl.1 rfl (Nat.le_of_ble_eq_true rfl) dX12_says_64 ⟨Nat.le_of_ble_eq_true rfl, Nat.le_of_ble_eq_true rfl⟩) (fun r5 u H locs hR M => ?_)
              refine W.widen (k := 0) (n := 0) (Nat.le_of_ble_eq_true rfl) (Nat.le_of_ble_eq_true rfl) ?_
              obtain ⟨rfl, rfl⟩ := hR
              have M : hM E A s H locs σ Z := M
              refine lv_if_ne (tgt := 72) C.1 C.2.1 dX12_says_67 (by decide) (fun c_67 => ?_) (fun c_67 => ?_)
              · skip
                have c_67 : inB high low 10000 = true := bz_ne0.mp c_67
                refine lv_aload_n C.1 C.2.1 dX12_says_72 rfl (lv_at hl 0 rfl) ?_
                refine g_getA C M 43 4 (by decide) rfl rfl (by decide) fl12_13 dX12_says_73 ?_
                refine lv_aload_n C.1 C.2.1 dX12_says_76 rfl (lv_at hl 0 rfl) ?_
                refine g_getI C M 43 3 (by decide) rfl rfl (by decide) fl12_135 (v := nI n) hn dX12_says_77 ?_
                refine lv_iload_n C.1 C.2.1 dX12_says_80 rfl (lv_at hl 1 rfl) ?_
                refine g_iast C M 43 4 (by decide) rfl n (nI_clamp (by omega)) (vp_in_nI (by omega) (by decide)) dX12_says_81 (fun H locs M => ?_)
                have M : hM E A s H locs (sA σ 43 4 0 (upd (hA σ 43 4 0) n l9)) Z := M
                refine lv_aload_n C.1 C.2.1 dX12_says_82 rfl (lv_at hl 0 rfl) ?_
                refine g_getA C M 43 5 (by decide) rfl rfl (by decide) fl12_16 dX12_says_83 ?_
                refine lv_aload_n C.1 C.2.1 dX12_says_86 rfl (lv_at hl 0 rfl) ?_
                refine g_getI C M 43 3 (by decide) rfl rfl (by decide) fl12_135 (v := nI n) hn dX12_says_87 ?_
                refine lv_iload_n C.1 C.2.1 dX12_says_90 rfl (lv_at hl 2 rfl) ?_
                refine g_iast C M 43 5 (by decide) rfl n (nI_clamp (by omega)) (vp_in_nI (by omega) (by decide)) dX12_says_91 (fun H locs M => ?_)
                have M : hM E A s H locs (sA (sA σ 43 4 0 (upd (hA σ 43 4 0) n l9)) 43 5 0 (upd (hA σ 43 5 0) n a)) Z := M
                refine lv_aload_n C.1 C.2.1 dX12_says_92 rfl (lv_at hl 0 rfl) ?_
                refine g_getA C M 43 6 (by decide) rfl rfl (by decide) fl12_19 dX12_says_93 ?_
                refine lv_aload_n C.1 C.2.1 dX12_says_96 rfl (lv_at hl 0 rfl) ?_
                refine g_getI C M 43 3 (by decide) rfl rfl (by decide) fl12_135 (v := nI n) hn dX12_says_97 ?_
                refine lv_iload_n C.1 C.2.1 dX12_says_100 rfl (lv_at hl 3 rfl) ?_
                refine g_iast C M 43 6 (by decide) rfl n (nI_clamp (by omega)) (vp_in_nI (by omega) (by decide)) dX12_says_101 (fun H locs M => ?_)
                have M : hM E A s H locs (sA (sA (sA σ 43 4 0 (upd (hA σ 43 4 0) n l9)) 43 5 0 (upd (hA σ 43 5 0) n a)) 43 6 0 (upd (hA σ 43 6 0) n b)) Z := M
                refine lv_aload_n C.1 C.2.1 dX12_says_102 rfl (lv_at hl 0 rfl) ?_
                refine g_getA C M 43 7 (by decide) rfl rfl (by decide) fl12_22 dX12_says_103 ?_
                refine lv_aload_n C.1 C.2.1 dX12_says_106 rfl (lv_at hl 0 rfl) ?_
                refine g_getI C M 43 3 (by decide) rfl rfl (by decide) fl12_135 (v := nI n) hn dX12_says_107 ?_
                refine lv_iload C.1 C.2.1 dX12_says_110 (lv_at hl 4 rfl) ?_
                refine g_iast C M 43 7 (by decide) rfl n (nI_clamp (by omega)) (vp_in_nI (by omega) (by decide)) dX12_says_112 (fun H locs M => ?_)
                have M : hM E A s H locs (sA (sA (sA (sA σ 43 4 0 (upd (hA σ 43 4 0) n l9)) 43 5 0 (upd (hA σ 43 5 0) n a)) 43 6 0 (upd (hA σ 43 6 0) n b)) 43 7 0 (upd (hA σ 43 7 0) n low)) Z := M
                refine lv_aload_n C.1 C.2.1 dX12_says_113 rfl (lv_at hl 0 rfl) ?_
                refine g_getA C M 43 8 (by decide) rfl rfl (by decide) fl12_25 dX12_says_114 ?_
                refine lv_aload_n C.1 C.2.1 dX12_says_117 rfl (lv_at hl 0 rfl) ?_
                refine g_getI C M 43 3 (by decide) rfl rfl (by decide) fl12_135 (v := nI n) hn dX12_says_118 ?_
                refine lv_iload C.1 C.2.1 dX12_says_121 (lv_at hl 5 rfl) ?_
                refine g_iast C M 43 8 (by decide) rfl n (nI_clamp (by omega)) (vp_in_nI (by omega) (by decide)) dX12_says_123 (fun H locs M => ?_)
                have M : hM E A s H locs (sA (sA (sA (sA (sA σ 43 4 0 (upd (hA σ 43 4 0) n l9)) 43 5 0 (upd (hA σ 43 5 0) n a)) 43 6 0 (upd (hA σ 43 6 0) n b)) 43 7 0 (upd (hA σ 43 7 0) n low)) 43 8 0 (upd (hA σ 43 8 0) n high)) Z := M
                refine lv_aload_n C.1 C.2.1 dX12_says_124 rfl (lv_at hl 0 rfl) ?_
                refine lv_dup C.1 C.2.1 dX12_says_125 rfl ?_
                refine g_getI C M 43 3 (by decide) rfl rfl (by decide) fl12_135 (v := nI n) hn dX12_says_126 ?_
                refine lv_iconst (v := 1) C.1 C.2.1 dX12_says_129 (by decide) ?_
                refine lv_iadd C.1 C.2.1 dX12_says_130 ?_
                refine g_rei (v := nI (n + 1)) (nI_1 _) ?_
                refine g_putI C M 43 3 (by decide) rfl rfl (by decide) fl12_135 rfl rfl dX12_says_131 (fun H locs M => ?_)
                refine lv_aload_n C.1 C.2.1 dX12_says_134 rfl (lv_at hl 0 rfl) ?_
                refine g_getI C M 43 3 (by decide) rfl rfl (by decide) fl12_135 (v := nI (n + 1)) rfl dX12_says_135 ?_
                refine lv_iconst (v := 1) C.1 C.2.1 dX12_says_138 (by decide) ?_
                refine lv_isub C.1 C.2.1 dX12_says_139 ?_
                refine g_rei (v := nI n) (nI_pred _) ?_
                refine g_iret C M hr hlk ?_ (Nat.le_of_ble_eq_true rfl) (Nat.le_of_ble_eq_true rfl) dX12_says_140
                refine ⟨fun _ => ⟨rfl, rfl⟩, fun h => absurd (by simp only [sayOk, c_6, c_15, c_25, c_35, c_40, c_54, c_67, not_true_eq_false, not_false_eq_true, and_self]) h⟩
              · skip
                have c_67 : ¬ inB high low 10000 = true := bz_0.mp c_67
                refine lv_iconst (v := (-1)) C.1 C.2.1 dX12_says_70 (by decide) ?_
                refine g_iret C M hr hlk ?_ (Nat.le_of_ble_eq_true rfl) (Nat.le_of_ble_eq_true rfl) dX12_says_71
                refine ⟨fun h => absurd h (by simp only [sayOk, c_6, c_15, c_25, c_35, c_40, c_54, c_67, Bool.false_eq_true, not_true_eq_false, not_false_eq_true, and_true, true_and, false_and, and_false]), fun _ => ⟨rfl, rfl⟩⟩

def valOk (n : Nat) (g c r day : Int32) : Prop := ¬ nI n = 60 ∧ inB g 0 9 = true ∧ inB c 0 1000000 = true ∧ inB r 0 1000000 = true ∧ inB day 0 5000 = true
def mVal (σ : hMem) (n : Nat) (g c r day : Int32) : hMem := sI (sA (sA (sA (sA (sA σ 43 12 0 (upd (hA σ 43 12 0) n g)) 43 13 0 (upd (hA σ 43 13 0) n c)) 43 14 0 (upd (hA σ 43 14 0) n r)) 43 15 0 (upd (hA σ 43 15 0) n day)) 43 16 0 (upd (hA σ 43 16 0) n (hI σ 43 1))) 43 11 (nI (n + 1))
def casOk (n : Nat) (m a day : Int32) : Prop := ¬ nI n = 40 ∧ inB m 0 99999 = true ∧ inB a 0 1000 = true ∧ inB day 0 5000 = true
def mCas (σ : hMem) (n : Nat) (m a day : Int32) : hMem := sI (sA (sA (sA (sA (sA σ 43 18 0 (upd (hA σ 43 18 0) n m)) 43 19 0 (upd (hA σ 43 19 0) n a)) 43 20 0 (upd (hA σ 43 20 0) n day)) 43 21 0 (upd (hA σ 43 21 0) n (hI σ 43 1))) 43 22 0 (upd (hA σ 43 22 0) n (-1))) 43 17 (nI (n + 1))

set_option maxHeartbeats 4000000 in
set_option maxRecDepth 100000 in
theorem m_value (l : Launch) (E : hEnv) (σ : hMem) (Z : va_W) (n : Nat) (hn : hI σ 43 11 = nI n) (hn60 : n ≤ 60) (g c9 r9 day : Int32) : hMet l yX12_value cX12_value 5 (some .int) (1, 0, 0, 22) E σ Z [.ref (hO E 43), .int g, .int c9, .int r9, .int day] (hQi E (fun r u => (valOk n g c9 r9 day → r = nI (n + 1) ∧ u = (mVal σ n g c9 r9 day, Z)) ∧ (¬ (valOk n g c9 r9 day) → r = -1 ∧ u = (σ, Z)))) := by
  refine hMet.of (by decide) (Nat.le_of_ble_eq_true rfl) (fun p e s m below meth c A ls C M hr hlk hl => ?_)
  have hl : lv_has ls 5 [(0, .ref (hO E 43)), (1, .int g), (2, .int c9), (3, .int r9), (4, .int day)] := hl
  refine lv_aload_n C.1 C.2.1 dX12_value_0 rfl (lv_at hl 0 rfl) ?_
  refine g_getI C M 43 11 (by decide) rfl rfl (by decide) fl12_152 (v := nI n) hn dX12_value_1 ?_
  refine lv_bipush (v := 60) C.1 C.2.1 dX12_value_4 (by decide) ?_
  refine lv_icmp_eq (tgt := 51) C.1 C.2.1 dX12_value_6 (by decide) (fun c_6 => ?_) (fun c_6 => ?_)
  · skip
    refine lv_iconst (v := (-1)) C.1 C.2.1 dX12_value_51 (by decide) ?_
    refine g_iret C M hr hlk ?_ (Nat.le_of_ble_eq_true rfl) (Nat.le_of_ble_eq_true rfl) dX12_value_52
    refine ⟨fun h => absurd h (by simp only [valOk, c_6, Bool.false_eq_true, not_true_eq_false, not_false_eq_true, and_true, true_and, false_and, and_false]), fun _ => ⟨rfl, rfl⟩⟩
  · skip
    have hlt : n < 60 := by have := ct_ne 60 c_6; omega
    refine lv_iload_n C.1 C.2.1 dX12_value_9 rfl (lv_at hl 1 rfl) ?_
    refine lv_iconst (v := 0) C.1 C.2.1 dX12_value_10 (by decide) ?_
    refine lv_bipush (v := 9) C.1 C.2.1 dX12_value_11 (by decide) ?_
    refine g_calli M (g_runS (As := [.int g, .int 0, .int 9]) (rest := []) C M (m_in l E σ Z g 0 9) clX12_in stX12_in lk12_131 rfl ⟨Nat.le_of_ble_eq_true rfl, Nat.le_of_ble_eq_true rfl⟩ hl.1 rfl (Nat.le_of_ble_eq_true rfl) dX12_value_13 ⟨Nat.le_of_ble_eq_true rfl, Nat.le_of_ble_eq_true rfl⟩) (fun r1 u H locs hR M => ?_)
    refine W.widen (k := 0) (n := 0) (Nat.le_of_ble_eq_true rfl) (Nat.le_of_ble_eq_true rfl) ?_
    obtain ⟨rfl, rfl⟩ := hR
    have M : hM E A s H locs σ Z := M
    refine lv_if_eq (tgt := 51) C.1 C.2.1 dX12_value_16 (by decide) (fun c_16 => ?_) (fun c_16 => ?_)
    · skip
      have c_16 : ¬ inB g 0 9 = true := bz_0.mp c_16
      refine lv_iconst (v := (-1)) C.1 C.2.1 dX12_value_51 (by decide) ?_
      refine g_iret C M hr hlk ?_ (Nat.le_of_ble_eq_true rfl) (Nat.le_of_ble_eq_true rfl) dX12_value_52
      refine ⟨fun h => absurd h (by simp only [valOk, c_6, c_16, Bool.false_eq_true, not_true_eq_false, not_false_eq_true, and_true, true_and, false_and, and_false]), fun _ => ⟨rfl, rfl⟩⟩
    · skip
      have c_16 : inB g 0 9 = true := bz_ne0.mp c_16
      refine lv_iload_n C.1 C.2.1 dX12_value_19 rfl (lv_at hl 2 rfl) ?_
      refine lv_iconst (v := 0) C.1 C.2.1 dX12_value_20 (by decide) ?_
      refine lv_ldc (v := 1000000) C.1 C.2.1 C.2.2.2.1 (C.2.2.2.2.1.1.use kc12_155 rfl) dX12_value_21 ?_
      refine g_calli M (g_runS (As := [.int c9, .int 0, .int 1000000]) (rest := []) C M (m_in l E σ Z c9 0 1000000) clX12_in stX12_in lk12_131 rfl ⟨Nat.le_of_ble_eq_true rfl, Nat.le_of_ble_eq_true rfl⟩ hl.1 rfl (Nat.le_of_ble_eq_true rfl) dX12_value_23 ⟨Nat.le_of_ble_eq_true rfl, Nat.le_of_ble_eq_true rfl⟩) (fun r2 u H locs hR M => ?_)
      refine W.widen (k := 0) (n := 0) (Nat.le_of_ble_eq_true rfl) (Nat.le_of_ble_eq_true rfl) ?_
      obtain ⟨rfl, rfl⟩ := hR
      have M : hM E A s H locs σ Z := M
      refine lv_if_eq (tgt := 51) C.1 C.2.1 dX12_value_26 (by decide) (fun c_26 => ?_) (fun c_26 => ?_)
      · skip
        have c_26 : ¬ inB c9 0 1000000 = true := bz_0.mp c_26
        refine lv_iconst (v := (-1)) C.1 C.2.1 dX12_value_51 (by decide) ?_
        refine g_iret C M hr hlk ?_ (Nat.le_of_ble_eq_true rfl) (Nat.le_of_ble_eq_true rfl) dX12_value_52
        refine ⟨fun h => absurd h (by simp only [valOk, c_6, c_16, c_26, Bool.false_eq_true, not_true_eq_false, not_false_eq_true, and_true, true_and, false_and, and_false]), fun _ => ⟨rfl, rfl⟩⟩
      · skip
        have c_26 : inB c9 0 1000000 = true := bz_ne0.mp c_26
        refine lv_iload_n C.1 C.2.1 dX12_value_29 rfl (lv_at hl 3 rfl) ?_
        refine lv_iconst (v := 0) C.1 C.2.1 dX12_value_30 (by decide) ?_
        refine lv_ldc (v := 1000000) C.1 C.2.1 C.2.2.2.1 (C.2.2.2.2.1.1.use kc12_155 rfl) dX12_value_31 ?_
        refine g_calli M (g_runS (As := [.int r9, .int 0, .int 1000000]) (rest := []) C M (m_in l E σ Z r9 0 1000000) clX12_in stX12_in lk12_131 rfl ⟨Nat.le_of_ble_eq_true rfl, Nat.le_of_ble_eq_true rfl⟩ hl.1 rfl (Nat.le_of_ble_eq_true rfl) dX12_value_33 ⟨Nat.le_of_ble_eq_true rfl, Nat.le_of_ble_eq_true rfl⟩) (fun r3 u H locs hR M => ?_)
        refine W.widen (k := 0) (n := 0) (Nat.le_of_ble_eq_true rfl) (Nat.le_of_ble_eq_true rfl) ?_
        obtain ⟨rfl, rfl⟩ := hR
        have M : hM E A s H locs σ Z := M
        refine lv_if_eq (tgt := 51) C.1 C.2.1 dX12_value_36 (by decide) (fun c_36 => ?_) (fun c_36 => ?_)
        · skip
          have c_36 : ¬ inB r9 0 1000000 = true := bz_0.mp c_36
          refine lv_iconst (v := (-1)) C.1 C.2.1 dX12_value_51 (by decide) ?_
          refine g_iret C M hr hlk ?_ (Nat.le_of_ble_eq_true rfl) (Nat.le_of_ble_eq_true rfl) dX12_value_52
          refine ⟨fun h => absurd h (by simp only [valOk, c_6, c_16, c_26, c_36, Bool.false_eq_true, not_true_eq_false, not_false_eq_true, and_true, true_and, false_and, and_false]), fun _ => ⟨rfl, rfl⟩⟩
        · skip
          have c_36 : inB r9 0 1000000 = true := bz_ne0.mp c_36
          refine lv_iload C.1 C.2.1 dX12_value_39 (lv_at hl 4 rfl) ?_
          refine lv_iconst (v := 0) C.1 C.2.1 dX12_value_41 (by decide) ?_
          refine lv_sipush (v := 5000) C.1 C.2.1 dX12_value_42 (by decide) ?_
          refine g_calli M (g_runS (As := [.int day, .int 0, .int 5000]) (rest := []) C M (m_in l E σ Z day 0 5000) clX12_in stX12_in lk12_131 rfl ⟨Nat.le_of_ble_eq_true rfl, Nat.le_of_ble_eq_true rfl⟩ hl.1 rfl (Nat.le_of_ble_eq_true rfl) dX12_value_45 ⟨Nat.le_of_ble_eq_true rfl, Nat.le_of_ble_eq_true rfl⟩) (fun r4 u H locs hR M => ?_)
          refine W.widen (k := 0) (n := 0) (Nat.le_of_ble_eq_true rfl) (Nat.le_of_ble_eq_true rfl) ?_
          obtain ⟨rfl, rfl⟩ := hR
          have M : hM E A s H locs σ Z := M
          refine lv_if_ne (tgt := 53) C.1 C.2.1 dX12_value_48 (by decide) (fun c_48 => ?_) (fun c_48 => ?_)
          · skip
            have c_48 : inB day 0 5000 = true := bz_ne0.mp c_48
            refine lv_aload_n C.1 C.2.1 dX12_value_53 rfl (lv_at hl 0 rfl) ?_
            refine g_getA C M 43 12 (by decide) rfl rfl (by decide) fl12_37 dX12_value_54 ?_
            refine lv_aload_n C.1 C.2.1 dX12_value_57 rfl (lv_at hl 0 rfl) ?_
            refine g_getI C M 43 11 (by decide) rfl rfl (by decide) fl12_152 (v := nI n) hn dX12_value_58 ?_
            refine lv_iload_n C.1 C.2.1 dX12_value_61 rfl (lv_at hl 1 rfl) ?_
            refine g_iast C M 43 12 (by decide) rfl n (nI_clamp (by omega)) (vp_in_nI (by omega) (by decide)) dX12_value_62 (fun H locs M => ?_)
            have M : hM E A s H locs (sA σ 43 12 0 (upd (hA σ 43 12 0) n g)) Z := M
            refine lv_aload_n C.1 C.2.1 dX12_value_63 rfl (lv_at hl 0 rfl) ?_
            refine g_getA C M 43 13 (by decide) rfl rfl (by decide) fl12_40 dX12_value_64 ?_
            refine lv_aload_n C.1 C.2.1 dX12_value_67 rfl (lv_at hl 0 rfl) ?_
            refine g_getI C M 43 11 (by decide) rfl rfl (by decide) fl12_152 (v := nI n) hn dX12_value_68 ?_
            refine lv_iload_n C.1 C.2.1 dX12_value_71 rfl (lv_at hl 2 rfl) ?_
            refine g_iast C M 43 13 (by decide) rfl n (nI_clamp (by omega)) (vp_in_nI (by omega) (by decide)) dX12_value_72 (fun H locs M => ?_)
            have M : hM E A s H locs (sA (sA σ 43 12 0 (upd (hA σ 43 12 0) n g)) 43 13 0 (upd (hA σ 43 13 0) n c9)) Z := M
            refine lv_aload_n C.1 C.2.1 dX12_value_73 rfl (lv_at hl 0 rfl) ?_
            refine g_getA C M 43 14 (by decide) rfl rfl (by decide) fl12_43 dX12_value_74 ?_
            refine lv_aload_n C.1 C.2.1 dX12_value_77 rfl (lv_at hl 0 rfl) ?_
            refine g_getI C M 43 11 (by decide) rfl rfl (by decide) fl12_152 (v := nI n) hn dX12_value_78 ?_
            refine lv_iload_n C.1 C.2.1 dX12_value_81 rfl (lv_at hl 3 rfl) ?_
            refine g_iast C M 43 14 (by decide) rfl n (nI_clamp (by omega)) (vp_in_nI (by omega) (by decide)) dX12_value_82 (fun H locs M => ?_)
            have M : hM E A s H locs (sA (sA (sA σ 43 12 0 (upd (hA σ 43 12 0) n g)) 43 13 0 (upd (hA σ 43 13 0) n c9)) 43 14 0 (upd (hA σ 43 14 0) n r9)) Z := M
            refine lv_aload_n C.1 C.2.1 dX12_value_83 rfl (lv_at hl 0 rfl) ?_
            refine g_getA C M 43 15 (by decide) rfl rfl (by decide) fl12_46 dX12_value_84 ?_
            refine lv_aload_n C.1 C.2.1 dX12_value_87 rfl (lv_at hl 0 rfl) ?_
            refine g_getI C M 43 11 (by decide) rfl rfl (by decide) fl12_152 (v := nI n) hn dX12_value_88 ?_
            refine lv_iload C.1 C.2.1 dX12_value_91 (lv_at hl 4 rfl) ?_
            refine g_iast C M 43 15 (by decide) rfl n (nI_clamp (by omega)) (vp_in_nI (by omega) (by decide)) dX12_value_93 (fun H locs M => ?_)
            have M : hM E A s H locs (sA (sA (sA (sA σ 43 12 0 (upd (hA σ 43 12 0) n g)) 43 13 0 (upd (hA σ 43 13 0) n c9)) 43 14 0 (upd (hA σ 43 14 0) n r9)) 43 15 0 (upd (hA σ 43 15 0) n day)) Z := M
            refine lv_aload_n C.1 C.2.1 dX12_value_94 rfl (lv_at hl 0 rfl) ?_
            refine g_getA C M 43 16 (by decide) rfl rfl (by decide) fl12_49 dX12_value_95 ?_
            refine lv_aload_n C.1 C.2.1 dX12_value_98 rfl (lv_at hl 0 rfl) ?_
            refine g_getI C M 43 11 (by decide) rfl rfl (by decide) fl12_152 (v := nI n) hn dX12_value_99 ?_
            refine lv_aload_n C.1 C.2.1 dX12_value_102 rfl (lv_at hl 0 rfl) ?_
            refine g_getI C M 43 1 (by decide) rfl rfl (by decide) fl12_128 (v := hI σ 43 1) rfl dX12_value_103 ?_
            refine g_iast C M 43 16 (by decide) rfl n (nI_clamp (by omega)) (vp_in_nI (by omega) (by decide)) dX12_value_106 (fun H locs M => ?_)
            have M : hM E A s H locs (sA (sA (sA (sA (sA σ 43 12 0 (upd (hA σ 43 12 0) n g)) 43 13 0 (upd (hA σ 43 13 0) n c9)) 43 14 0 (upd (hA σ 43 14 0) n r9)) 43 15 0 (upd (hA σ 43 15 0) n day)) 43 16 0 (upd (hA σ 43 16 0) n (hI σ 43 1))) Z := M
            refine lv_aload_n C.1 C.2.1 dX12_value_107 rfl (lv_at hl 0 rfl) ?_
            refine lv_dup C.1 C.2.1 dX12_value_108 rfl ?_
            refine g_getI C M 43 11 (by decide) rfl rfl (by decide) fl12_152 (v := nI n) hn dX12_value_109 ?_
            refine lv_iconst (v := 1) C.1 C.2.1 dX12_value_112 (by decide) ?_
            refine lv_iadd C.1 C.2.1 dX12_value_113 ?_
            refine g_rei (v := nI (n + 1)) (nI_1 _) ?_
            refine g_putI C M 43 11 (by decide) rfl rfl (by decide) fl12_152 rfl rfl dX12_value_114 (fun H locs M => ?_)
            refine lv_aload_n C.1 C.2.1 dX12_value_117 rfl (lv_at hl 0 rfl) ?_
            refine g_getI C M 43 11 (by decide) rfl rfl (by decide) fl12_152 (v := nI (n + 1)) rfl dX12_value_118 ?_
            refine g_iret C M hr hlk ?_ (Nat.le_of_ble_eq_true rfl) (Nat.le_of_ble_eq_true rfl) dX12_value_121
            refine ⟨fun _ => ⟨rfl, rfl⟩, fun h => absurd (by simp only [valOk, c_6, c_16, c_26, c_36, c_48, not_true_eq_false, not_false_eq_true, and_self]) h⟩
          · skip
            have c_48 : ¬ inB day 0 5000 = true := bz_0.mp c_48
            refine lv_iconst (v := (-1)) C.1 C.2.1 dX12_value_51 (by decide) ?_
            refine g_iret C M hr hlk ?_ (Nat.le_of_ble_eq_true rfl) (Nat.le_of_ble_eq_true rfl) dX12_value_52
            refine ⟨fun h => absurd h (by simp only [valOk, c_6, c_16, c_26, c_36, c_48, Bool.false_eq_true, not_true_eq_false, not_false_eq_true, and_true, true_and, false_and, and_false]), fun _ => ⟨rfl, rfl⟩⟩

set_option maxHeartbeats 4000000 in
set_option maxRecDepth 100000 in
theorem m_earlier (l : Launch) (E : hEnv) (σ : hMem) (Z : va_W) (n : Nat) (hn : hI σ 43 17 = nI n) (hn40 : n ≤ 40) (m9 a day : Int32) : hMet l yX12_earlier cX12_earlier 4 (some .int) (1, 0, 0, 22) E σ Z [.ref (hO E 43), .int m9, .int a, .int day] (hQi E (fun r u => (casOk n m9 a day → r = nI n ∧ u = (mCas σ n m9 a day, Z)) ∧ (¬ (casOk n m9 a day) → r = -1 ∧ u = (σ, Z)))) := by
  refine hMet.of (by decide) (Nat.le_of_ble_eq_true rfl) (fun p e s m below meth c A ls C M hr hlk hl => ?_)
  have hl : lv_has ls 4 [(0, .ref (hO E 43)), (1, .int m9), (2, .int a), (3, .int day)] := hl
  refine lv_aload_n C.1 C.2.1 dX12_earlier_0 rfl (lv_at hl 0 rfl) ?_
  refine g_getI C M 43 17 (by decide) rfl rfl (by decide) fl12_156 (v := nI n) hn dX12_earlier_1 ?_
  refine lv_bipush (v := 40) C.1 C.2.1 dX12_earlier_4 (by decide) ?_
  refine lv_icmp_eq (tgt := 41) C.1 C.2.1 dX12_earlier_6 (by decide) (fun c_6 => ?_) (fun c_6 => ?_)
  · skip
    refine lv_iconst (v := (-1)) C.1 C.2.1 dX12_earlier_41 (by decide) ?_
    refine g_iret C M hr hlk ?_ (Nat.le_of_ble_eq_true rfl) (Nat.le_of_ble_eq_true rfl) dX12_earlier_42
    refine ⟨fun h => absurd h (by simp only [casOk, c_6, Bool.false_eq_true, not_true_eq_false, not_false_eq_true, and_true, true_and, false_and, and_false]), fun _ => ⟨rfl, rfl⟩⟩
  · skip
    have hlt : n < 40 := by have := ct_ne 40 c_6; omega
    refine lv_iload_n C.1 C.2.1 dX12_earlier_9 rfl (lv_at hl 1 rfl) ?_
    refine lv_iconst (v := 0) C.1 C.2.1 dX12_earlier_10 (by decide) ?_
    refine lv_ldc (v := 99999) C.1 C.2.1 C.2.2.2.1 (C.2.2.2.2.1.1.use kc12_159 rfl) dX12_earlier_11 ?_
    refine g_calli M (g_runS (As := [.int m9, .int 0, .int 99999]) (rest := []) C M (m_in l E σ Z m9 0 99999) clX12_in stX12_in lk12_131 rfl ⟨Nat.le_of_ble_eq_true rfl, Nat.le_of_ble_eq_true rfl⟩ hl.1 rfl (Nat.le_of_ble_eq_true rfl) dX12_earlier_13 ⟨Nat.le_of_ble_eq_true rfl, Nat.le_of_ble_eq_true rfl⟩) (fun r1 u H locs hR M => ?_)
    refine W.widen (k := 0) (n := 0) (Nat.le_of_ble_eq_true rfl) (Nat.le_of_ble_eq_true rfl) ?_
    obtain ⟨rfl, rfl⟩ := hR
    have M : hM E A s H locs σ Z := M
    refine lv_if_eq (tgt := 41) C.1 C.2.1 dX12_earlier_16 (by decide) (fun c_16 => ?_) (fun c_16 => ?_)
    · skip
      have c_16 : ¬ inB m9 0 99999 = true := bz_0.mp c_16
      refine lv_iconst (v := (-1)) C.1 C.2.1 dX12_earlier_41 (by decide) ?_
      refine g_iret C M hr hlk ?_ (Nat.le_of_ble_eq_true rfl) (Nat.le_of_ble_eq_true rfl) dX12_earlier_42
      refine ⟨fun h => absurd h (by simp only [casOk, c_6, c_16, Bool.false_eq_true, not_true_eq_false, not_false_eq_true, and_true, true_and, false_and, and_false]), fun _ => ⟨rfl, rfl⟩⟩
    · skip
      have c_16 : inB m9 0 99999 = true := bz_ne0.mp c_16
      refine lv_iload_n C.1 C.2.1 dX12_earlier_19 rfl (lv_at hl 2 rfl) ?_
      refine lv_iconst (v := 0) C.1 C.2.1 dX12_earlier_20 (by decide) ?_
      refine lv_sipush (v := 1000) C.1 C.2.1 dX12_earlier_21 (by decide) ?_
      refine g_calli M (g_runS (As := [.int a, .int 0, .int 1000]) (rest := []) C M (m_in l E σ Z a 0 1000) clX12_in stX12_in lk12_131 rfl ⟨Nat.le_of_ble_eq_true rfl, Nat.le_of_ble_eq_true rfl⟩ hl.1 rfl (Nat.le_of_ble_eq_true rfl) dX12_earlier_24 ⟨Nat.le_of_ble_eq_true rfl, Nat.le_of_ble_eq_true rfl⟩) (fun r2 u H locs hR M => ?_)
      refine W.widen (k := 0) (n := 0) (Nat.le_of_ble_eq_true rfl) (Nat.le_of_ble_eq_true rfl) ?_
      obtain ⟨rfl, rfl⟩ := hR
      have M : hM E A s H locs σ Z := M
      refine lv_if_eq (tgt := 41) C.1 C.2.1 dX12_earlier_27 (by decide) (fun c_27 => ?_) (fun c_27 => ?_)
      · skip
        have c_27 : ¬ inB a 0 1000 = true := bz_0.mp c_27
        refine lv_iconst (v := (-1)) C.1 C.2.1 dX12_earlier_41 (by decide) ?_
        refine g_iret C M hr hlk ?_ (Nat.le_of_ble_eq_true rfl) (Nat.le_of_ble_eq_true rfl) dX12_earlier_42
        refine ⟨fun h => absurd h (by simp only [casOk, c_6, c_16, c_27, Bool.false_eq_true, not_true_eq_false, not_false_eq_true, and_true, true_and, false_and, and_false]), fun _ => ⟨rfl, rfl⟩⟩
      · skip
        have c_27 : inB a 0 1000 = true := bz_ne0.mp c_27
        refine lv_iload_n C.1 C.2.1 dX12_earlier_30 rfl (lv_at hl 3 rfl) ?_
        refine lv_iconst (v := 0) C.1 C.2.1 dX12_earlier_31 (by decide) ?_
        refine lv_sipush (v := 5000) C.1 C.2.1 dX12_earlier_32 (by decide) ?_
        refine g_calli M (g_runS (As := [.int day, .int 0, .int 5000]) (rest := []) C M (m_in l E σ Z day 0 5000) clX12_in stX12_in lk12_131 rfl ⟨Nat.le_of_ble_eq_true rfl, Nat.le_of_ble_eq_true rfl⟩ hl.1 rfl (Nat.le_of_ble_eq_true rfl) dX12_earlier_35 ⟨Nat.le_of_ble_eq_true rfl, Nat.le_of_ble_eq_true rfl⟩) (fun r3 u H locs hR M => ?_)
        refine W.widen (k := 0) (n := 0) (Nat.le_of_ble_eq_true rfl) (Nat.le_of_ble_eq_true rfl) ?_
        obtain ⟨rfl, rfl⟩ := hR
        have M : hM E A s H locs σ Z := M
        refine lv_if_ne (tgt := 43) C.1 C.2.1 dX12_earlier_38 (by decide) (fun c_38 => ?_) (fun c_38 => ?_)
        · skip
          have c_38 : inB day 0 5000 = true := bz_ne0.mp c_38
          refine lv_aload_n C.1 C.2.1 dX12_earlier_43 rfl (lv_at hl 0 rfl) ?_
          refine g_getA C M 43 18 (by decide) rfl rfl (by decide) fl12_52 dX12_earlier_44 ?_
          refine lv_aload_n C.1 C.2.1 dX12_earlier_47 rfl (lv_at hl 0 rfl) ?_
          refine g_getI C M 43 17 (by decide) rfl rfl (by decide) fl12_156 (v := nI n) hn dX12_earlier_48 ?_
          refine lv_iload_n C.1 C.2.1 dX12_earlier_51 rfl (lv_at hl 1 rfl) ?_
          refine g_iast C M 43 18 (by decide) rfl n (nI_clamp (by omega)) (vp_in_nI (by omega) (by decide)) dX12_earlier_52 (fun H locs M => ?_)
          have M : hM E A s H locs (sA σ 43 18 0 (upd (hA σ 43 18 0) n m9)) Z := M
          refine lv_aload_n C.1 C.2.1 dX12_earlier_53 rfl (lv_at hl 0 rfl) ?_
          refine g_getA C M 43 19 (by decide) rfl rfl (by decide) fl12_55 dX12_earlier_54 ?_
          refine lv_aload_n C.1 C.2.1 dX12_earlier_57 rfl (lv_at hl 0 rfl) ?_
          refine g_getI C M 43 17 (by decide) rfl rfl (by decide) fl12_156 (v := nI n) hn dX12_earlier_58 ?_
          refine lv_iload_n C.1 C.2.1 dX12_earlier_61 rfl (lv_at hl 2 rfl) ?_
          refine g_iast C M 43 19 (by decide) rfl n (nI_clamp (by omega)) (vp_in_nI (by omega) (by decide)) dX12_earlier_62 (fun H locs M => ?_)
          have M : hM E A s H locs (sA (sA σ 43 18 0 (upd (hA σ 43 18 0) n m9)) 43 19 0 (upd (hA σ 43 19 0) n a)) Z := M
          refine lv_aload_n C.1 C.2.1 dX12_earlier_63 rfl (lv_at hl 0 rfl) ?_
          refine g_getA C M 43 20 (by decide) rfl rfl (by decide) fl12_58 dX12_earlier_64 ?_
          refine lv_aload_n C.1 C.2.1 dX12_earlier_67 rfl (lv_at hl 0 rfl) ?_
          refine g_getI C M 43 17 (by decide) rfl rfl (by decide) fl12_156 (v := nI n) hn dX12_earlier_68 ?_
          refine lv_iload_n C.1 C.2.1 dX12_earlier_71 rfl (lv_at hl 3 rfl) ?_
          refine g_iast C M 43 20 (by decide) rfl n (nI_clamp (by omega)) (vp_in_nI (by omega) (by decide)) dX12_earlier_72 (fun H locs M => ?_)
          have M : hM E A s H locs (sA (sA (sA σ 43 18 0 (upd (hA σ 43 18 0) n m9)) 43 19 0 (upd (hA σ 43 19 0) n a)) 43 20 0 (upd (hA σ 43 20 0) n day)) Z := M
          refine lv_aload_n C.1 C.2.1 dX12_earlier_73 rfl (lv_at hl 0 rfl) ?_
          refine g_getA C M 43 21 (by decide) rfl rfl (by decide) fl12_61 dX12_earlier_74 ?_
          refine lv_aload_n C.1 C.2.1 dX12_earlier_77 rfl (lv_at hl 0 rfl) ?_
          refine g_getI C M 43 17 (by decide) rfl rfl (by decide) fl12_156 (v := nI n) hn dX12_earlier_78 ?_
          refine lv_aload_n C.1 C.2.1 dX12_earlier_81 rfl (lv_at hl 0 rfl) ?_
          refine g_getI C M 43 1 (by decide) rfl rfl (by decide) fl12_128 (v := hI σ 43 1) rfl dX12_earlier_82 ?_
          refine g_iast C M 43 21 (by decide) rfl n (nI_clamp (by omega)) (vp_in_nI (by omega) (by decide)) dX12_earlier_85 (fun H locs M => ?_)
          have M : hM E A s H locs (sA (sA (sA (sA σ 43 18 0 (upd (hA σ 43 18 0) n m9)) 43 19 0 (upd (hA σ 43 19 0) n a)) 43 20 0 (upd (hA σ 43 20 0) n day)) 43 21 0 (upd (hA σ 43 21 0) n (hI σ 43 1))) Z := M
          refine lv_aload_n C.1 C.2.1 dX12_earlier_86 rfl (lv_at hl 0 rfl) ?_
          refine g_getA C M 43 22 (by decide) rfl rfl (by decide) fl12_64 dX12_earlier_87 ?_
          refine lv_aload_n C.1 C.2.1 dX12_earlier_90 rfl (lv_at hl 0 rfl) ?_
          refine g_getI C M 43 17 (by decide) rfl rfl (by decide) fl12_156 (v := nI n) hn dX12_earlier_91 ?_
          refine lv_iconst (v := (-1)) C.1 C.2.1 dX12_earlier_94 (by decide) ?_
          refine g_iast C M 43 22 (by decide) rfl n (nI_clamp (by omega)) (vp_in_nI (by omega) (by decide)) dX12_earlier_95 (fun H locs M => ?_)
          have M : hM E A s H locs (sA (sA (sA (sA (sA σ 43 18 0 (upd (hA σ 43 18 0) n m9)) 43 19 0 (upd (hA σ 43 19 0) n a)) 43 20 0 (upd (hA σ 43 20 0) n day)) 43 21 0 (upd (hA σ 43 21 0) n (hI σ 43 1))) 43 22 0 (upd (hA σ 43 22 0) n (-1))) Z := M
          refine lv_aload_n C.1 C.2.1 dX12_earlier_96 rfl (lv_at hl 0 rfl) ?_
          refine lv_dup C.1 C.2.1 dX12_earlier_97 rfl ?_
          refine g_getI C M 43 17 (by decide) rfl rfl (by decide) fl12_156 (v := nI n) hn dX12_earlier_98 ?_
          refine lv_iconst (v := 1) C.1 C.2.1 dX12_earlier_101 (by decide) ?_
          refine lv_iadd C.1 C.2.1 dX12_earlier_102 ?_
          refine g_rei (v := nI (n + 1)) (nI_1 _) ?_
          refine g_putI C M 43 17 (by decide) rfl rfl (by decide) fl12_156 rfl rfl dX12_earlier_103 (fun H locs M => ?_)
          refine lv_aload_n C.1 C.2.1 dX12_earlier_106 rfl (lv_at hl 0 rfl) ?_
          refine g_getI C M 43 17 (by decide) rfl rfl (by decide) fl12_156 (v := nI (n + 1)) rfl dX12_earlier_107 ?_
          refine lv_iconst (v := 1) C.1 C.2.1 dX12_earlier_110 (by decide) ?_
          refine lv_isub C.1 C.2.1 dX12_earlier_111 ?_
          refine g_rei (v := nI n) (nI_pred _) ?_
          refine g_iret C M hr hlk ?_ (Nat.le_of_ble_eq_true rfl) (Nat.le_of_ble_eq_true rfl) dX12_earlier_112
          refine ⟨fun _ => ⟨rfl, rfl⟩, fun h => absurd (by simp only [casOk, c_6, c_16, c_27, c_38, not_true_eq_false, not_false_eq_true, and_self]) h⟩
        · skip
          have c_38 : ¬ inB day 0 5000 = true := bz_0.mp c_38
          refine lv_iconst (v := (-1)) C.1 C.2.1 dX12_earlier_41 (by decide) ?_
          refine g_iret C M hr hlk ?_ (Nat.le_of_ble_eq_true rfl) (Nat.le_of_ble_eq_true rfl) dX12_earlier_42
          refine ⟨fun h => absurd h (by simp only [casOk, c_6, c_16, c_27, c_38, Bool.false_eq_true, not_true_eq_false, not_false_eq_true, and_true, true_and, false_and, and_false]), fun _ => ⟨rfl, rfl⟩⟩

def ovrOk (σ : hMem) (n : Nat) (k day : Int32) : Prop := inB k 0 (nI n - 1) = true ∧ inB day 0 5000 = true ∧ hA σ 43 22 0 k.toNatClampNeg = -1
def mOvr (σ : hMem) (k day : Int32) : hMem := sA (sA σ 43 22 0 (upd (hA σ 43 22 0) k.toNatClampNeg day)) 43 23 0 (upd (hA σ 43 23 0) k.toNatClampNeg (hI σ 43 1))
theorem vp_in_pre {x : Int32} {n N : Nat} (h : inB x 0 (nI n - 1) = true) (hn : n ≤ N) (hN : N < 2 ^ 30) : vp_in x N := by
  rw [inB_iff] at h
  rw [vp_in_iff]
  obtain ⟨h1, h2⟩ := h
  rw [Int32.lt_iff_toInt_lt] at h1 h2
  have e : (0 : Int32).toInt = 0 := rfl
  have e2 : (nI n - 1).toInt = (n : Int) - 1 := pk_sub_toInt (a := n) (b := 1) (by omega) (by omega)
  rw [e] at h1
  rw [e2] at h2
  omega

set_option maxHeartbeats 4000000 in
set_option maxRecDepth 100000 in
theorem m_overrule (l : Launch) (E : hEnv) (σ : hMem) (Z : va_W) (n : Nat) (hn : hI σ 43 17 = nI n) (hn40 : n ≤ 40) (k day : Int32) : hMet l yX12_overrule cX12_overrule 3 (some .boolean) (1, 0, 0, 22) E σ Z [.ref (hO E 43), .int k, .int day] (hQi E (fun r u => (ovrOk σ n k day → r = 1 ∧ u = (mOvr σ k day, Z)) ∧ (¬ (ovrOk σ n k day) → r = 0 ∧ u = (σ, Z)))) := by
  refine hMet.of (by decide) (Nat.le_of_ble_eq_true rfl) (fun p e s m below meth c A ls C M hr hlk hl => ?_)
  have hl : lv_has ls 3 [(0, .ref (hO E 43)), (1, .int k), (2, .int day)] := hl
  refine lv_iload_n C.1 C.2.1 dX12_overrule_0 rfl (lv_at hl 1 rfl) ?_
  refine lv_iconst (v := 0) C.1 C.2.1 dX12_overrule_1 (by decide) ?_
  refine lv_aload_n C.1 C.2.1 dX12_overrule_2 rfl (lv_at hl 0 rfl) ?_
  refine g_getI C M 43 17 (by decide) rfl rfl (by decide) fl12_156 (v := nI n) hn dX12_overrule_3 ?_
  refine lv_iconst (v := 1) C.1 C.2.1 dX12_overrule_6 (by decide) ?_
  refine lv_isub C.1 C.2.1 dX12_overrule_7 ?_
  refine g_calli M (g_runS (As := [.int k, .int 0, .int ((nI n) - 1)]) (rest := []) C M (m_in l E σ Z k 0 ((nI n) - 1)) clX12_in stX12_in lk12_131 rfl ⟨Nat.le_of_ble_eq_true rfl, Nat.le_of_ble_eq_true rfl⟩ hl.1 rfl (Nat.le_of_ble_eq_true rfl) dX12_overrule_8 ⟨Nat.le_of_ble_eq_true rfl, Nat.le_of_ble_eq_true rfl⟩) (fun r1 u H locs hR M => ?_)
  refine W.widen (k := 0) (n := 0) (Nat.le_of_ble_eq_true rfl) (Nat.le_of_ble_eq_true rfl) ?_
  obtain ⟨rfl, rfl⟩ := hR
  have M : hM E A s H locs σ Z := M
  refine lv_if_eq (tgt := 35) C.1 C.2.1 dX12_overrule_11 (by decide) (fun c_11 => ?_) (fun c_11 => ?_)
  · skip
    have c_11 : ¬ inB k 0 ((nI n) - 1) = true := bz_0.mp c_11
    refine lv_iconst (v := 0) C.1 C.2.1 dX12_overrule_35 (by decide) ?_
    refine g_zret rfl C M hr hlk ?_ (Nat.le_of_ble_eq_true rfl) (Nat.le_of_ble_eq_true rfl) dX12_overrule_36
    refine ⟨fun h => absurd h (by simp only [ovrOk, c_11, Bool.false_eq_true, not_true_eq_false, not_false_eq_true, and_true, true_and, false_and, and_false]), fun _ => ⟨rfl, rfl⟩⟩
  · skip
    have c_11 : inB k 0 ((nI n) - 1) = true := bz_ne0.mp c_11
    refine lv_iload_n C.1 C.2.1 dX12_overrule_14 rfl (lv_at hl 2 rfl) ?_
    refine lv_iconst (v := 0) C.1 C.2.1 dX12_overrule_15 (by decide) ?_
    refine lv_sipush (v := 5000) C.1 C.2.1 dX12_overrule_16 (by decide) ?_
    refine g_calli M (g_runS (As := [.int day, .int 0, .int 5000]) (rest := []) C M (m_in l E σ Z day 0 5000) clX12_in stX12_in lk12_131 rfl ⟨Nat.le_of_ble_eq_true rfl, Nat.le_of_ble_eq_true rfl⟩ hl.1 rfl (Nat.le_of_ble_eq_true rfl) dX12_overrule_19 ⟨Nat.le_of_ble_eq_true rfl, Nat.le_of_ble_eq_true rfl⟩) (fun r2 u H locs hR M => ?_)
    refine W.widen (k := 0) (n := 0) (Nat.le_of_ble_eq_true rfl) (Nat.le_of_ble_eq_true rfl) ?_
    obtain ⟨rfl, rfl⟩ := hR
    have M : hM E A s H locs σ Z := M
    refine lv_if_eq (tgt := 35) C.1 C.2.1 dX12_overrule_22 (by decide) (fun c_22 => ?_) (fun c_22 => ?_)
    · skip
      have c_22 : ¬ inB day 0 5000 = true := bz_0.mp c_22
      refine lv_iconst (v := 0) C.1 C.2.1 dX12_overrule_35 (by decide) ?_
      refine g_zret rfl C M hr hlk ?_ (Nat.le_of_ble_eq_true rfl) (Nat.le_of_ble_eq_true rfl) dX12_overrule_36
      refine ⟨fun h => absurd h (by simp only [ovrOk, c_11, c_22, Bool.false_eq_true, not_true_eq_false, not_false_eq_true, and_true, true_and, false_and, and_false]), fun _ => ⟨rfl, rfl⟩⟩
    · skip
      have c_22 : inB day 0 5000 = true := bz_ne0.mp c_22
      refine lv_aload_n C.1 C.2.1 dX12_overrule_25 rfl (lv_at hl 0 rfl) ?_
      refine g_getA C M 43 22 (by decide) rfl rfl (by decide) fl12_64 dX12_overrule_26 ?_
      refine lv_iload_n C.1 C.2.1 dX12_overrule_29 rfl (lv_at hl 1 rfl) ?_
      refine g_iald C M 43 22 (by decide) rfl k.toNatClampNeg rfl (by exact vp_in_pre c_11 hn40 (by decide)) (v := hA σ 43 22 0 k.toNatClampNeg) rfl dX12_overrule_30 ?_
      refine lv_iconst (v := (-1)) C.1 C.2.1 dX12_overrule_31 (by decide) ?_
      refine lv_icmp_eq (tgt := 37) C.1 C.2.1 dX12_overrule_32 (by decide) (fun c_32 => ?_) (fun c_32 => ?_)
      · skip
        refine lv_aload_n C.1 C.2.1 dX12_overrule_37 rfl (lv_at hl 0 rfl) ?_
        refine g_getA C M 43 22 (by decide) rfl rfl (by decide) fl12_64 dX12_overrule_38 ?_
        refine lv_iload_n C.1 C.2.1 dX12_overrule_41 rfl (lv_at hl 1 rfl) ?_
        refine lv_iload_n C.1 C.2.1 dX12_overrule_42 rfl (lv_at hl 2 rfl) ?_
        refine g_iast C M 43 22 (by decide) rfl k.toNatClampNeg rfl (by exact vp_in_pre c_11 hn40 (by decide)) dX12_overrule_43 (fun H locs M => ?_)
        have M : hM E A s H locs (sA σ 43 22 0 (upd (hA σ 43 22 0) k.toNatClampNeg day)) Z := M
        refine lv_aload_n C.1 C.2.1 dX12_overrule_44 rfl (lv_at hl 0 rfl) ?_
        refine g_getA C M 43 23 (by decide) rfl rfl (by decide) fl12_67 dX12_overrule_45 ?_
        refine lv_iload_n C.1 C.2.1 dX12_overrule_48 rfl (lv_at hl 1 rfl) ?_
        refine lv_aload_n C.1 C.2.1 dX12_overrule_49 rfl (lv_at hl 0 rfl) ?_
        refine g_getI C M 43 1 (by decide) rfl rfl (by decide) fl12_128 (v := hI σ 43 1) rfl dX12_overrule_50 ?_
        refine g_iast C M 43 23 (by decide) rfl k.toNatClampNeg rfl (by exact vp_in_pre c_11 hn40 (by decide)) dX12_overrule_53 (fun H locs M => ?_)
        have M : hM E A s H locs (sA (sA σ 43 22 0 (upd (hA σ 43 22 0) k.toNatClampNeg day)) 43 23 0 (upd (hA σ 43 23 0) k.toNatClampNeg (hI σ 43 1))) Z := M
        refine lv_iconst (v := 1) C.1 C.2.1 dX12_overrule_54 (by decide) ?_
        refine g_zret rfl C M hr hlk ?_ (Nat.le_of_ble_eq_true rfl) (Nat.le_of_ble_eq_true rfl) dX12_overrule_55
        refine ⟨fun _ => ⟨rfl, rfl⟩, fun h => absurd (by simp only [ovrOk, c_11, c_22, c_32, not_true_eq_false, not_false_eq_true, and_self]) h⟩
      · skip
        refine lv_iconst (v := 0) C.1 C.2.1 dX12_overrule_35 (by decide) ?_
        refine g_zret rfl C M hr hlk ?_ (Nat.le_of_ble_eq_true rfl) (Nat.le_of_ble_eq_true rfl) dX12_overrule_36
        refine ⟨fun h => absurd h (by simp only [ovrOk, c_11, c_22, c_32, Bool.false_eq_true, not_true_eq_false, not_false_eq_true, and_true, true_and, false_and, and_false]), fun _ => ⟨rfl, rfl⟩⟩

set_option maxHeartbeats 4000000 in
set_option maxRecDepth 100000 in
theorem m_suit (l : Launch) (E : hEnv) (σ : hMem) (Z : va_W) (m9 l9 : Int32) : hMet l yX12_suit cX12_suit 3 (some .boolean) (1, 0, 0, 22) E σ Z [.ref (hO E 43), .int m9, .int l9] (hQi E (fun r u => r = bz (inB m9 0 99999 = true ∧ inB l9 0 99 = true) ∧ u = (if inB m9 0 99999 = true ∧ inB l9 0 99 = true then sI (sI σ 43 24 m9) 43 25 l9 else σ, Z))) := by
  refine hMet.of (by decide) (Nat.le_of_ble_eq_true rfl) (fun p e s m below meth c A ls C M hr hlk hl => ?_)
  have hl : lv_has ls 3 [(0, .ref (hO E 43)), (1, .int m9), (2, .int l9)] := hl
  refine lv_iload_n C.1 C.2.1 dX12_suit_0 rfl (lv_at hl 1 rfl) ?_
  refine lv_iconst (v := 0) C.1 C.2.1 dX12_suit_1 (by decide) ?_
  refine lv_ldc (v := 99999) C.1 C.2.1 C.2.2.2.1 (C.2.2.2.2.1.1.use kc12_159 rfl) dX12_suit_2 ?_
  refine g_calli M (g_runS (As := [.int m9, .int 0, .int 99999]) (rest := []) C M (m_in l E σ Z m9 0 99999) clX12_in stX12_in lk12_131 rfl ⟨Nat.le_of_ble_eq_true rfl, Nat.le_of_ble_eq_true rfl⟩ hl.1 rfl (Nat.le_of_ble_eq_true rfl) dX12_suit_4 ⟨Nat.le_of_ble_eq_true rfl, Nat.le_of_ble_eq_true rfl⟩) (fun r1 u H locs hR M => ?_)
  refine W.widen (k := 0) (n := 0) (Nat.le_of_ble_eq_true rfl) (Nat.le_of_ble_eq_true rfl) ?_
  obtain ⟨rfl, rfl⟩ := hR
  have M : hM E A s H locs σ Z := M
  refine lv_if_eq (tgt := 20) C.1 C.2.1 dX12_suit_7 (by decide) (fun c_7 => ?_) (fun c_7 => ?_)
  · skip
    have c_7 : ¬ inB m9 0 99999 = true := bz_0.mp c_7
    refine lv_iconst (v := 0) C.1 C.2.1 dX12_suit_20 (by decide) ?_
    refine g_zret rfl C M hr hlk ?_ (Nat.le_of_ble_eq_true rfl) (Nat.le_of_ble_eq_true rfl) dX12_suit_21
    simp only [bz, c_7, not_false_eq_true, not_true_eq_false, and_self, and_true, true_and, and_false, false_and, or_true, true_or, or_false, false_or, Bool.false_eq_true, if_true, if_false, ↓reduceIte]
  · skip
    have c_7 : inB m9 0 99999 = true := bz_ne0.mp c_7
    refine lv_iload_n C.1 C.2.1 dX12_suit_10 rfl (lv_at hl 2 rfl) ?_
    refine lv_iconst (v := 0) C.1 C.2.1 dX12_suit_11 (by decide) ?_
    refine lv_bipush (v := 99) C.1 C.2.1 dX12_suit_12 (by decide) ?_
    refine g_calli M (g_runS (As := [.int l9, .int 0, .int 99]) (rest := []) C M (m_in l E σ Z l9 0 99) clX12_in stX12_in lk12_131 rfl ⟨Nat.le_of_ble_eq_true rfl, Nat.le_of_ble_eq_true rfl⟩ hl.1 rfl (Nat.le_of_ble_eq_true rfl) dX12_suit_14 ⟨Nat.le_of_ble_eq_true rfl, Nat.le_of_ble_eq_true rfl⟩) (fun r2 u H locs hR M => ?_)
    refine W.widen (k := 0) (n := 0) (Nat.le_of_ble_eq_true rfl) (Nat.le_of_ble_eq_true rfl) ?_
    obtain ⟨rfl, rfl⟩ := hR
    have M : hM E A s H locs σ Z := M
    refine lv_if_ne (tgt := 22) C.1 C.2.1 dX12_suit_17 (by decide) (fun c_17 => ?_) (fun c_17 => ?_)
    · skip
      have c_17 : inB l9 0 99 = true := bz_ne0.mp c_17
      refine lv_aload_n C.1 C.2.1 dX12_suit_22 rfl (lv_at hl 0 rfl) ?_
      refine lv_iload_n C.1 C.2.1 dX12_suit_23 rfl (lv_at hl 1 rfl) ?_
      refine g_putI C M 43 24 (by decide) rfl rfl (by decide) fl12_160 rfl rfl dX12_suit_24 (fun H locs M => ?_)
      refine lv_aload_n C.1 C.2.1 dX12_suit_27 rfl (lv_at hl 0 rfl) ?_
      refine lv_iload_n C.1 C.2.1 dX12_suit_28 rfl (lv_at hl 2 rfl) ?_
      refine g_putI C M 43 25 (by decide) rfl rfl (by decide) fl12_163 rfl rfl dX12_suit_29 (fun H locs M => ?_)
      refine lv_iconst (v := 1) C.1 C.2.1 dX12_suit_32 (by decide) ?_
      refine g_zret rfl C M hr hlk ?_ (Nat.le_of_ble_eq_true rfl) (Nat.le_of_ble_eq_true rfl) dX12_suit_33
      simp only [bz, c_7, c_17, not_false_eq_true, not_true_eq_false, and_self, and_true, true_and, and_false, false_and, or_true, true_or, or_false, false_or, Bool.false_eq_true, if_true, if_false, ↓reduceIte]
    · skip
      have c_17 : ¬ inB l9 0 99 = true := bz_0.mp c_17
      refine lv_iconst (v := 0) C.1 C.2.1 dX12_suit_20 (by decide) ?_
      refine g_zret rfl C M hr hlk ?_ (Nat.le_of_ble_eq_true rfl) (Nat.le_of_ble_eq_true rfl) dX12_suit_21
      simp only [bz, c_7, c_17, not_false_eq_true, not_true_eq_false, and_self, and_true, true_and, and_false, false_and, or_true, true_or, or_false, false_or, Bool.false_eq_true, if_true, if_false, ↓reduceIte]

set_option maxHeartbeats 4000000 in
set_option maxRecDepth 100000 in
theorem m_end (l : Launch) (E : hEnv) (σ : hMem) (Z : va_W) (k : Int32) : hMet l yX12_end cX12_end 2 (some .int) (0, 0, 0, 0) E σ Z [.ref (hO E 43), .int k] (hQi E (fun r u => r = (if ¬ k < 0 ∧ k ≤ hI σ 43 31 then k else -1) ∧ u = (if ¬ k < 0 ∧ k ≤ hI σ 43 31 then sI σ 43 31 k else σ, Z))) := by
  refine hMet.of (by decide) (Nat.le_of_ble_eq_true rfl) (fun p e s m below meth c A ls C M hr hlk hl => ?_)
  have hl : lv_has ls 2 [(0, .ref (hO E 43)), (1, .int k)] := hl
  refine lv_iload_n C.1 C.2.1 dX12_end_0 rfl (lv_at hl 1 rfl) ?_
  refine lv_if_lt (tgt := 12) C.1 C.2.1 dX12_end_1 (by decide) (fun c_1 => ?_) (fun c_1 => ?_)
  · skip
    refine lv_iconst (v := (-1)) C.1 C.2.1 dX12_end_12 (by decide) ?_
    refine g_iret C M hr hlk ?_ (Nat.le_of_ble_eq_true rfl) (Nat.le_of_ble_eq_true rfl) dX12_end_13
    simp only [bz, c_1, not_false_eq_true, not_true_eq_false, and_self, and_true, true_and, and_false, false_and, or_true, true_or, or_false, false_or, Bool.false_eq_true, if_true, if_false, ↓reduceIte]
  · skip
    refine lv_iload_n C.1 C.2.1 dX12_end_4 rfl (lv_at hl 1 rfl) ?_
    refine lv_aload_n C.1 C.2.1 dX12_end_5 rfl (lv_at hl 0 rfl) ?_
    refine g_getI C M 43 31 (by decide) rfl rfl (by decide) fl12_166 (v := hI σ 43 31) rfl dX12_end_6 ?_
    refine lv_icmp_le (tgt := 14) C.1 C.2.1 dX12_end_9 (by decide) (fun c_9 => ?_) (fun c_9 => ?_)
    · skip
      refine lv_aload_n C.1 C.2.1 dX12_end_14 rfl (lv_at hl 0 rfl) ?_
      refine lv_iload_n C.1 C.2.1 dX12_end_15 rfl (lv_at hl 1 rfl) ?_
      refine g_putI C M 43 31 (by decide) rfl rfl (by decide) fl12_166 rfl rfl dX12_end_16 (fun H locs M => ?_)
      refine lv_iload_n C.1 C.2.1 dX12_end_19 rfl (lv_at hl 1 rfl) ?_
      refine g_iret C M hr hlk ?_ (Nat.le_of_ble_eq_true rfl) (Nat.le_of_ble_eq_true rfl) dX12_end_20
      simp only [bz, c_1, c_9, not_false_eq_true, not_true_eq_false, and_self, and_true, true_and, and_false, false_and, or_true, true_or, or_false, false_or, Bool.false_eq_true, if_true, if_false, ↓reduceIte]
    · skip
      refine lv_iconst (v := (-1)) C.1 C.2.1 dX12_end_12 (by decide) ?_
      refine g_iret C M hr hlk ?_ (Nat.le_of_ble_eq_true rfl) (Nat.le_of_ble_eq_true rfl) dX12_end_13
      simp only [bz, c_1, c_9, not_false_eq_true, not_true_eq_false, and_self, and_true, true_and, and_false, false_and, or_true, true_or, or_false, false_or, Bool.false_eq_true, if_true, if_false, ↓reduceIte]

set_option maxHeartbeats 4000000 in
set_option maxRecDepth 100000 in
theorem m_fails (l : Launch) (E : hEnv) (σ : hMem) (Z : va_W) (kind place : Int32) : hMet l yX12_fails cX12_fails 3 none (0, 0, 0, 0) E σ Z [.ref (hO E 43), .int kind, .int place] (hQv E (fun u => u = (if hI σ 43 34 = 0 then sI σ 43 34 (kind + 4 * place) else σ, Z))) := by
  refine hMet.of (by decide) (Nat.le_of_ble_eq_true rfl) (fun p e s m below meth c A ls C M hr hlk hl => ?_)
  have hl : lv_has ls 3 [(0, .ref (hO E 43)), (1, .int kind), (2, .int place)] := hl
  refine lv_aload_n C.1 C.2.1 dX12_fails_0 rfl (lv_at hl 0 rfl) ?_
  refine g_getI C M 43 34 (by decide) rfl rfl (by decide) fl12_173 (v := hI σ 43 34) rfl dX12_fails_1 ?_
  refine lv_if_ne (tgt := 16) C.1 C.2.1 dX12_fails_4 (by decide) (fun c_4 => ?_) (fun c_4 => ?_)
  · skip
    refine g_vret C M hr hlk ?_ (Nat.le_of_ble_eq_true rfl) (Nat.le_of_ble_eq_true rfl) dX12_fails_16
    simp only [bz, c_4, not_false_eq_true, not_true_eq_false, and_self, and_true, true_and, and_false, false_and, or_true, true_or, or_false, false_or, Bool.false_eq_true, if_true, if_false, ↓reduceIte]
  · skip
    refine lv_aload_n C.1 C.2.1 dX12_fails_7 rfl (lv_at hl 0 rfl) ?_
    refine lv_iload_n C.1 C.2.1 dX12_fails_8 rfl (lv_at hl 1 rfl) ?_
    refine lv_iconst (v := 4) C.1 C.2.1 dX12_fails_9 (by decide) ?_
    refine lv_iload_n C.1 C.2.1 dX12_fails_10 rfl (lv_at hl 2 rfl) ?_
    refine lv_imul C.1 C.2.1 dX12_fails_11 ?_
    refine lv_iadd C.1 C.2.1 dX12_fails_12 ?_
    refine g_putI C M 43 34 (by decide) rfl rfl (by decide) fl12_173 rfl rfl dX12_fails_13 (fun H locs M => ?_)
    refine g_vret C M hr hlk ?_ (Nat.le_of_ble_eq_true rfl) (Nat.le_of_ble_eq_true rfl) dX12_fails_16
    simp only [bz, c_4, not_false_eq_true, not_true_eq_false, and_self, and_true, true_and, and_false, false_and, or_true, true_or, or_false, false_or, Bool.false_eq_true, if_true, if_false, ↓reduceIte]

/-- the best value told of a good, of the first k: its number, or -1 -/
def svB (g known day : Int32) (go vk vd : Nat → Int32) : Nat → Int32
  | 0 => -1
  | k + 1 => if go k = g ∧ ¬ known < vk k ∧ ¬ day < vd k ∧ (svB g known day go vk vd k = -1 ∨ ¬ vd k < vd (svB g known day go vk vd k).toNatClampNeg) then nI k else svB g known day go vk vd k
theorem svB_in (g known day : Int32) (go vk vd : Nat → Int32) : ∀ k, svB g known day go vk vd k = -1 ∨ ∃ j, j < k ∧ svB g known day go vk vd k = nI j
  | 0 => Or.inl rfl
  | k + 1 => by
    unfold svB
    split
    · exact Or.inr ⟨k, Nat.lt_succ_self k, rfl⟩
    · rcases svB_in g known day go vk vd k with h | ⟨j, h1, h2⟩
      · exact Or.inl h
      · exact Or.inr ⟨j, Nat.lt_succ_of_lt h1, h2⟩
theorem vp_in_or {x : Int32} {k N : Nat} (h : x = -1 ∨ ∃ j, j < k ∧ x = nI j) (hx : ¬ x = -1) (hk : k ≤ N) (hN : N < 2 ^ 31) : vp_in x N := by
  rcases h with h | ⟨j, h1, h2⟩
  · exact absurd h hx
  · rw [h2]
    exact vp_in_nI (by omega) hN
def mSvd (σ : hMem) (n : Nat) (g known day : Int32) : Int32 := if (svB g known day (hA σ 43 12 0) (hA σ 43 16 0) (hA σ 43 15 0) n) = -1 then 0 else if hA σ 43 14 0 (svB g known day (hA σ 43 12 0) (hA σ 43 16 0) (hA σ 43 15 0) n).toNatClampNeg ≤ hA σ 43 13 0 (svB g known day (hA σ 43 12 0) (hA σ 43 16 0) (hA σ 43 15 0) n).toNatClampNeg then hA σ 43 13 0 (svB g known day (hA σ 43 12 0) (hA σ 43 16 0) (hA σ 43 15 0) n).toNatClampNeg - hA σ 43 14 0 (svB g known day (hA σ 43 12 0) (hA σ 43 16 0) (hA σ 43 15 0) n).toNatClampNeg else 0

set_option maxHeartbeats 4000000 in
set_option maxRecDepth 100000 in
theorem m_saved (l : Launch) (E : hEnv) (σ : hMem) (Z : va_W) (n : Nat) (hn : hI σ 43 11 = nI n) (hn60 : n ≤ 60) (g known day : Int32) : hMet l yX12_saved cX12_saved 6 (some .int) (1, 0, 0, 22) E σ Z [.ref (hO E 43), .int g, .int known, .int day] (hQi E (fun r u => r = (if inB g 0 9 = true ∧ inB known 0 5000 = true ∧ inB day 0 5000 = true then mSvd σ n g known day else -1) ∧ u = (σ, Z))) := by
  refine hMet.of (by decide) (Nat.le_of_ble_eq_true rfl) (fun p e s m below meth c A ls C M hr hlk hl => ?_)
  have hl : lv_has ls 6 [(0, .ref (hO E 43)), (1, .int g), (2, .int known), (3, .int day)] := hl
  refine lv_iload_n C.1 C.2.1 dX12_saved_0 rfl (lv_at hl 1 rfl) ?_
  refine lv_iconst (v := 0) C.1 C.2.1 dX12_saved_1 (by decide) ?_
  refine lv_bipush (v := 9) C.1 C.2.1 dX12_saved_2 (by decide) ?_
  refine g_calli M (g_runS (As := [.int g, .int 0, .int 9]) (rest := []) C M (m_in l E σ Z g 0 9) clX12_in stX12_in lk12_131 rfl ⟨Nat.le_of_ble_eq_true rfl, Nat.le_of_ble_eq_true rfl⟩ hl.1 rfl (Nat.le_of_ble_eq_true rfl) dX12_saved_4 ⟨Nat.le_of_ble_eq_true rfl, Nat.le_of_ble_eq_true rfl⟩) (fun r1 u H locs hR M => ?_)
  refine W.widen (k := 0) (n := 0) (Nat.le_of_ble_eq_true rfl) (Nat.le_of_ble_eq_true rfl) ?_
  obtain ⟨rfl, rfl⟩ := hR
  have M : hM E A s H locs σ Z := M
  refine lv_if_eq (tgt := 32) C.1 C.2.1 dX12_saved_7 (by decide) (fun c_7 => ?_) (fun c_7 => ?_)
  · skip
    have c_7 : ¬ inB g 0 9 = true := bz_0.mp c_7
    refine lv_iconst (v := (-1)) C.1 C.2.1 dX12_saved_32 (by decide) ?_
    refine g_iret C M hr hlk ?_ (Nat.le_of_ble_eq_true rfl) (Nat.le_of_ble_eq_true rfl) dX12_saved_33
    simp only [mSvd, c_7, not_false_eq_true, not_true_eq_false, and_self, and_true, true_and, and_false, false_and, or_true, true_or, or_false, false_or, Bool.false_eq_true, if_true, if_false, ↓reduceIte]
  · skip
    have c_7 : inB g 0 9 = true := bz_ne0.mp c_7
    refine lv_iload_n C.1 C.2.1 dX12_saved_10 rfl (lv_at hl 2 rfl) ?_
    refine lv_iconst (v := 0) C.1 C.2.1 dX12_saved_11 (by decide) ?_
    refine lv_sipush (v := 5000) C.1 C.2.1 dX12_saved_12 (by decide) ?_
    refine g_calli M (g_runS (As := [.int known, .int 0, .int 5000]) (rest := []) C M (m_in l E σ Z known 0 5000) clX12_in stX12_in lk12_131 rfl ⟨Nat.le_of_ble_eq_true rfl, Nat.le_of_ble_eq_true rfl⟩ hl.1 rfl (Nat.le_of_ble_eq_true rfl) dX12_saved_15 ⟨Nat.le_of_ble_eq_true rfl, Nat.le_of_ble_eq_true rfl⟩) (fun r2 u H locs hR M => ?_)
    refine W.widen (k := 0) (n := 0) (Nat.le_of_ble_eq_true rfl) (Nat.le_of_ble_eq_true rfl) ?_
    obtain ⟨rfl, rfl⟩ := hR
    have M : hM E A s H locs σ Z := M
    refine lv_if_eq (tgt := 32) C.1 C.2.1 dX12_saved_18 (by decide) (fun c_18 => ?_) (fun c_18 => ?_)
    · skip
      have c_18 : ¬ inB known 0 5000 = true := bz_0.mp c_18
      refine lv_iconst (v := (-1)) C.1 C.2.1 dX12_saved_32 (by decide) ?_
      refine g_iret C M hr hlk ?_ (Nat.le_of_ble_eq_true rfl) (Nat.le_of_ble_eq_true rfl) dX12_saved_33
      simp only [mSvd, c_7, c_18, not_false_eq_true, not_true_eq_false, and_self, and_true, true_and, and_false, false_and, or_true, true_or, or_false, false_or, Bool.false_eq_true, if_true, if_false, ↓reduceIte]
    · skip
      have c_18 : inB known 0 5000 = true := bz_ne0.mp c_18
      refine lv_iload_n C.1 C.2.1 dX12_saved_21 rfl (lv_at hl 3 rfl) ?_
      refine lv_iconst (v := 0) C.1 C.2.1 dX12_saved_22 (by decide) ?_
      refine lv_sipush (v := 5000) C.1 C.2.1 dX12_saved_23 (by decide) ?_
      refine g_calli M (g_runS (As := [.int day, .int 0, .int 5000]) (rest := []) C M (m_in l E σ Z day 0 5000) clX12_in stX12_in lk12_131 rfl ⟨Nat.le_of_ble_eq_true rfl, Nat.le_of_ble_eq_true rfl⟩ hl.1 rfl (Nat.le_of_ble_eq_true rfl) dX12_saved_26 ⟨Nat.le_of_ble_eq_true rfl, Nat.le_of_ble_eq_true rfl⟩) (fun r3 u H locs hR M => ?_)
      refine W.widen (k := 0) (n := 0) (Nat.le_of_ble_eq_true rfl) (Nat.le_of_ble_eq_true rfl) ?_
      obtain ⟨rfl, rfl⟩ := hR
      have M : hM E A s H locs σ Z := M
      refine lv_if_ne (tgt := 34) C.1 C.2.1 dX12_saved_29 (by decide) (fun c_29 => ?_) (fun c_29 => ?_)
      · skip
        have c_29 : inB day 0 5000 = true := bz_ne0.mp c_29
        refine lv_iconst (v := (-1)) C.1 C.2.1 dX12_saved_34 (by decide) ?_
        refine lv_istore (lv' := [(4, .int (-1)), (0, .ref (hO E 43)), (1, .int g), (2, .int known), (3, .int day)]) C.1 C.2.1 dX12_saved_35 hl (by decide) rfl (fun ls hl => ?_)
        refine lv_iconst (v := 0) C.1 C.2.1 dX12_saved_37 (by decide) ?_
        refine lv_istore (lv' := [(5, .int 0), (4, .int (-1)), (0, .ref (hO E 43)), (1, .int g), (2, .int known), (3, .int day)]) C.1 C.2.1 dX12_saved_38 hl (by decide) rfl (fun ls hl => ?_)
        have L40 : ∀ (n9 : Nat) (k : Nat), (k ≤ n) → n - k < n9 → ∀ (H : Heap) (locs : List Loc) (ls : Array Slot), hM E A s H locs σ Z → lv_has ls 6 [(5, .int (nI k)), (4, .int (svB g known day (hA σ 43 12 0) (hA σ 43 16 0) (hA σ 43 15 0) k)), (0, .ref (hO E 43)), (1, .int g), (2, .int known), (3, .int day)] → W p l e (hRm (1, 0, 0, 22)) s m [.ref (hO E 43), .int g, .int known, .int day].toArray below meth c H locs 0 0 (MQ below (hQi E (fun r u => r = (if inB g 0 9 = true ∧ inB known 0 5000 = true ∧ inB day 0 5000 = true then mSvd σ n g known day else -1) ∧ u = (σ, Z)) A) [.ref (hO E 43), .int g, .int known, .int day].toArray s 0 0 A) (F0 m 40 ls []) := by
          intro n9
          induction n9 with
          | zero =>
            intro k hk hn9
            exact absurd hn9 (Nat.not_lt_zero _)
          | succ n9 ih40 =>
            intro k hk hn40 H locs ls M hl
            refine lv_iload C.1 C.2.1 dX12_saved_40 (lv_at hl 0 rfl) ?_
            refine lv_aload_n C.1 C.2.1 dX12_saved_42 rfl (lv_at hl 2 rfl) ?_
            refine g_getI C M 43 11 (by decide) rfl rfl (by decide) fl12_152 (v := nI n) hn dX12_saved_43 ?_
            refine lv_icmp_ge (tgt := 115) C.1 C.2.1 dX12_saved_46 (by decide) (fun c_46 => ?_) (fun c_46 => ?_)
            · skip
              have hkn : k = n := by have := ct_ge (n := n) (k := k) c_46; omega
              have hl : lv_has ls 6 [(5, .int (nI n)), (4, .int (svB g known day (hA σ 43 12 0) (hA σ 43 16 0) (hA σ 43 15 0) n)), (0, .ref (hO E 43)), (1, .int g), (2, .int known), (3, .int day)] := by first | exact hl | (rw [hkn] at hl; exact hl)
              have M : hM E A s H locs σ Z := by first | exact M | (rw [hkn] at M; exact M)
              refine lv_iload C.1 C.2.1 dX12_saved_115 (lv_at hl 1 rfl) ?_
              refine lv_iconst (v := (-1)) C.1 C.2.1 dX12_saved_117 (by decide) ?_
              refine lv_icmp_eq (tgt := 138) C.1 C.2.1 dX12_saved_118 (by decide) (fun c_118 => ?_) (fun c_118 => ?_)
              · skip
                refine lv_iconst (v := 0) C.1 C.2.1 dX12_saved_138 (by decide) ?_
                refine lv_goto (tgt := 157) C.1 C.2.1 dX12_saved_139 (by decide) ?_
                refine g_iret C M hr hlk ?_ (Nat.le_of_ble_eq_true rfl) (Nat.le_of_ble_eq_true rfl) dX12_saved_157
                simp only [mSvd, c_7, c_18, c_29, c_46, c_118, not_false_eq_true, not_true_eq_false, and_self, and_true, true_and, and_false, false_and, or_true, true_or, or_false, false_or, Bool.false_eq_true, if_true, if_false, ↓reduceIte]
              · skip
                refine lv_aload_n C.1 C.2.1 dX12_saved_121 rfl (lv_at hl 2 rfl) ?_
                refine g_getA C M 43 13 (by decide) rfl rfl (by decide) fl12_40 dX12_saved_122 ?_
                refine lv_iload C.1 C.2.1 dX12_saved_125 (lv_at hl 1 rfl) ?_
                refine g_iald C M 43 13 (by decide) rfl ((svB g known day (hA σ 43 12 0) (hA σ 43 16 0) (hA σ 43 15 0) n).toNatClampNeg) rfl (vp_in_or (svB_in _ _ _ _ _ _ n) c_118 (by omega) (by decide)) (v := hA σ 43 13 0 ((svB g known day (hA σ 43 12 0) (hA σ 43 16 0) (hA σ 43 15 0) n).toNatClampNeg)) rfl dX12_saved_127 ?_
                refine lv_aload_n C.1 C.2.1 dX12_saved_128 rfl (lv_at hl 2 rfl) ?_
                refine g_getA C M 43 14 (by decide) rfl rfl (by decide) fl12_43 dX12_saved_129 ?_
                refine lv_iload C.1 C.2.1 dX12_saved_132 (lv_at hl 1 rfl) ?_
                refine g_iald C M 43 14 (by decide) rfl ((svB g known day (hA σ 43 12 0) (hA σ 43 16 0) (hA σ 43 15 0) n).toNatClampNeg) rfl (vp_in_or (svB_in _ _ _ _ _ _ n) c_118 (by omega) (by decide)) (v := hA σ 43 14 0 ((svB g known day (hA σ 43 12 0) (hA σ 43 16 0) (hA σ 43 15 0) n).toNatClampNeg)) rfl dX12_saved_134 ?_
                refine lv_icmp_ge (tgt := 142) C.1 C.2.1 dX12_saved_135 (by decide) (fun c_135 => ?_) (fun c_135 => ?_)
                · skip
                  refine lv_aload_n C.1 C.2.1 dX12_saved_142 rfl (lv_at hl 2 rfl) ?_
                  refine g_getA C M 43 13 (by decide) rfl rfl (by decide) fl12_40 dX12_saved_143 ?_
                  refine lv_iload C.1 C.2.1 dX12_saved_146 (lv_at hl 1 rfl) ?_
                  refine g_iald C M 43 13 (by decide) rfl ((svB g known day (hA σ 43 12 0) (hA σ 43 16 0) (hA σ 43 15 0) n).toNatClampNeg) rfl (vp_in_or (svB_in _ _ _ _ _ _ n) c_118 (by omega) (by decide)) (v := hA σ 43 13 0 ((svB g known day (hA σ 43 12 0) (hA σ 43 16 0) (hA σ 43 15 0) n).toNatClampNeg)) rfl dX12_saved_148 ?_
                  refine lv_aload_n C.1 C.2.1 dX12_saved_149 rfl (lv_at hl 2 rfl) ?_
                  refine g_getA C M 43 14 (by decide) rfl rfl (by decide) fl12_43 dX12_saved_150 ?_
                  refine lv_iload C.1 C.2.1 dX12_saved_153 (lv_at hl 1 rfl) ?_
                  refine g_iald C M 43 14 (by decide) rfl ((svB g known day (hA σ 43 12 0) (hA σ 43 16 0) (hA σ 43 15 0) n).toNatClampNeg) rfl (vp_in_or (svB_in _ _ _ _ _ _ n) c_118 (by omega) (by decide)) (v := hA σ 43 14 0 ((svB g known day (hA σ 43 12 0) (hA σ 43 16 0) (hA σ 43 15 0) n).toNatClampNeg)) rfl dX12_saved_155 ?_
                  refine lv_isub C.1 C.2.1 dX12_saved_156 ?_
                  refine g_iret C M hr hlk ?_ (Nat.le_of_ble_eq_true rfl) (Nat.le_of_ble_eq_true rfl) dX12_saved_157
                  simp only [mSvd, c_7, c_18, c_29, c_46, c_118, c_135, not_false_eq_true, not_true_eq_false, and_self, and_true, true_and, and_false, false_and, or_true, true_or, or_false, false_or, Bool.false_eq_true, if_true, if_false, ↓reduceIte]
                · skip
                  refine lv_iconst (v := 0) C.1 C.2.1 dX12_saved_138 (by decide) ?_
                  refine lv_goto (tgt := 157) C.1 C.2.1 dX12_saved_139 (by decide) ?_
                  refine g_iret C M hr hlk ?_ (Nat.le_of_ble_eq_true rfl) (Nat.le_of_ble_eq_true rfl) dX12_saved_157
                  simp only [mSvd, c_7, c_18, c_29, c_46, c_118, c_135, not_false_eq_true, not_true_eq_false, and_self, and_true, true_and, and_false, false_and, or_true, true_or, or_false, false_or, Bool.false_eq_true, if_true, if_false, ↓reduceIte]
            · skip
              have hk1 : k < n := ct_nge (n := n) (k := k) c_46
              refine lv_aload_n C.1 C.2.1 dX12_saved_49 rfl (lv_at hl 2 rfl) ?_
              refine g_getA C M 43 12 (by decide) rfl rfl (by decide) fl12_37 dX12_saved_50 ?_
              refine lv_iload C.1 C.2.1 dX12_saved_53 (lv_at hl 0 rfl) ?_
              refine g_iald C M 43 12 (by decide) rfl k (nI_clamp (by omega)) (vp_in_nI (by omega) (by decide)) (v := hA σ 43 12 0 k) rfl dX12_saved_55 ?_
              refine lv_iload_n C.1 C.2.1 dX12_saved_56 rfl (lv_at hl 3 rfl) ?_
              refine lv_icmp_ne (tgt := 109) C.1 C.2.1 dX12_saved_57 (by decide) (fun c_57 => ?_) (fun c_57 => ?_)
              · skip
                refine lv_iinc (v := nI (k + 1)) (lv' := [(5, .int (nI (k + 1))), (4, .int (svB g known day (hA σ 43 12 0) (hA σ 43 16 0) (hA σ 43 15 0) k)), (0, .ref (hO E 43)), (1, .int g), (2, .int known), (3, .int day)]) C.1 C.2.1 dX12_saved_109 hl (k := 0) rfl (nI_succ _).symm (by decide) rfl (fun ls hl => ?_)
                refine lv_goto (tgt := 40) C.1 C.2.1 dX12_saved_112 (by decide) ?_
                have q4 : svB g known day (hA σ 43 12 0) (hA σ 43 16 0) (hA σ 43 15 0) k = svB g known day (hA σ 43 12 0) (hA σ 43 16 0) (hA σ 43 15 0) (k + 1) := by simp only [svB, c_7, c_18, c_29, c_46, c_57, not_false_eq_true, not_true_eq_false, and_self, and_true, true_and, and_false, false_and, or_true, true_or, or_false, false_or, Bool.false_eq_true, if_true, if_false, ↓reduceIte]
                have hl : lv_has ls 6 [(5, .int (nI (k + 1))), (4, .int (svB g known day (hA σ 43 12 0) (hA σ 43 16 0) (hA σ 43 15 0) (k + 1))), (0, .ref (hO E 43)), (1, .int g), (2, .int known), (3, .int day)] := by
                  rw [← q4]
                  exact lv_sub hl [0, 1, 2, 3, 4, 5] rfl
                exact ih40 (k + 1) hk1 (by omega) _ _ _ M hl
              · skip
                refine lv_aload_n C.1 C.2.1 dX12_saved_60 rfl (lv_at hl 2 rfl) ?_
                refine g_getA C M 43 16 (by decide) rfl rfl (by decide) fl12_49 dX12_saved_61 ?_
                refine lv_iload C.1 C.2.1 dX12_saved_64 (lv_at hl 0 rfl) ?_
                refine g_iald C M 43 16 (by decide) rfl k (nI_clamp (by omega)) (vp_in_nI (by omega) (by decide)) (v := hA σ 43 16 0 k) rfl dX12_saved_66 ?_
                refine lv_iload_n C.1 C.2.1 dX12_saved_67 rfl (lv_at hl 4 rfl) ?_
                refine lv_icmp_gt (tgt := 109) C.1 C.2.1 dX12_saved_68 (by decide) (fun c_68 => ?_) (fun c_68 => ?_)
                · skip
                  refine lv_iinc (v := nI (k + 1)) (lv' := [(5, .int (nI (k + 1))), (4, .int (svB g known day (hA σ 43 12 0) (hA σ 43 16 0) (hA σ 43 15 0) k)), (0, .ref (hO E 43)), (1, .int g), (2, .int known), (3, .int day)]) C.1 C.2.1 dX12_saved_109 hl (k := 0) rfl (nI_succ _).symm (by decide) rfl (fun ls hl => ?_)
                  refine lv_goto (tgt := 40) C.1 C.2.1 dX12_saved_112 (by decide) ?_
                  have q5 : svB g known day (hA σ 43 12 0) (hA σ 43 16 0) (hA σ 43 15 0) k = svB g known day (hA σ 43 12 0) (hA σ 43 16 0) (hA σ 43 15 0) (k + 1) := by simp only [svB, c_7, c_18, c_29, c_46, c_57, c_68, not_false_eq_true, not_true_eq_false, and_self, and_true, true_and, and_false, false_and, or_true, true_or, or_false, false_or, Bool.false_eq_true, if_true, if_false, ↓reduceIte]
                  have hl : lv_has ls 6 [(5, .int (nI (k + 1))), (4, .int (svB g known day (hA σ 43 12 0) (hA σ 43 16 0) (hA σ 43 15 0) (k + 1))), (0, .ref (hO E 43)), (1, .int g), (2, .int known), (3, .int day)] := by
                    rw [← q5]
                    exact lv_sub hl [0, 1, 2, 3, 4, 5] rfl
                  exact ih40 (k + 1) hk1 (by omega) _ _ _ M hl
                · skip
                  refine lv_aload_n C.1 C.2.1 dX12_saved_71 rfl (lv_at hl 2 rfl) ?_
                  refine g_getA C M 43 15 (by decide) rfl rfl (by decide) fl12_46 dX12_saved_72 ?_
                  refine lv_iload C.1 C.2.1 dX12_saved_75 (lv_at hl 0 rfl) ?_
                  refine g_iald C M 43 15 (by decide) rfl k (nI_clamp (by omega)) (vp_in_nI (by omega) (by decide)) (v := hA σ 43 15 0 k) rfl dX12_saved_77 ?_
                  refine lv_iload_n C.1 C.2.1 dX12_saved_78 rfl (lv_at hl 5 rfl) ?_
                  refine lv_icmp_gt (tgt := 109) C.1 C.2.1 dX12_saved_79 (by decide) (fun c_79 => ?_) (fun c_79 => ?_)
                  · skip
                    refine lv_iinc (v := nI (k + 1)) (lv' := [(5, .int (nI (k + 1))), (4, .int (svB g known day (hA σ 43 12 0) (hA σ 43 16 0) (hA σ 43 15 0) k)), (0, .ref (hO E 43)), (1, .int g), (2, .int known), (3, .int day)]) C.1 C.2.1 dX12_saved_109 hl (k := 0) rfl (nI_succ _).symm (by decide) rfl (fun ls hl => ?_)
                    refine lv_goto (tgt := 40) C.1 C.2.1 dX12_saved_112 (by decide) ?_
                    have q6 : svB g known day (hA σ 43 12 0) (hA σ 43 16 0) (hA σ 43 15 0) k = svB g known day (hA σ 43 12 0) (hA σ 43 16 0) (hA σ 43 15 0) (k + 1) := by simp only [svB, c_7, c_18, c_29, c_46, c_57, c_68, c_79, not_false_eq_true, not_true_eq_false, and_self, and_true, true_and, and_false, false_and, or_true, true_or, or_false, false_or, Bool.false_eq_true, if_true, if_false, ↓reduceIte]
                    have hl : lv_has ls 6 [(5, .int (nI (k + 1))), (4, .int (svB g known day (hA σ 43 12 0) (hA σ 43 16 0) (hA σ 43 15 0) (k + 1))), (0, .ref (hO E 43)), (1, .int g), (2, .int known), (3, .int day)] := by
                      rw [← q6]
                      exact lv_sub hl [0, 1, 2, 3, 4, 5] rfl
                    exact ih40 (k + 1) hk1 (by omega) _ _ _ M hl
                  · skip
                    refine lv_iload C.1 C.2.1 dX12_saved_82 (lv_at hl 1 rfl) ?_
                    refine lv_iconst (v := (-1)) C.1 C.2.1 dX12_saved_84 (by decide) ?_
                    refine lv_icmp_eq (tgt := 105) C.1 C.2.1 dX12_saved_85 (by decide) (fun c_85 => ?_) (fun c_85 => ?_)
                    · skip
                      refine lv_iload C.1 C.2.1 dX12_saved_105 (lv_at hl 0 rfl) ?_
                      refine lv_istore (lv' := [(4, .int (nI k)), (5, .int (nI k)), (0, .ref (hO E 43)), (1, .int g), (2, .int known), (3, .int day)]) C.1 C.2.1 dX12_saved_107 hl (by decide) rfl (fun ls hl => ?_)
                      refine lv_iinc (v := nI (k + 1)) (lv' := [(5, .int (nI (k + 1))), (4, .int (nI k)), (0, .ref (hO E 43)), (1, .int g), (2, .int known), (3, .int day)]) C.1 C.2.1 dX12_saved_109 hl (k := 1) rfl (nI_succ _).symm (by decide) rfl (fun ls hl => ?_)
                      refine lv_goto (tgt := 40) C.1 C.2.1 dX12_saved_112 (by decide) ?_
                      have q7 : nI k = svB g known day (hA σ 43 12 0) (hA σ 43 16 0) (hA σ 43 15 0) (k + 1) := by simp only [svB, c_7, c_18, c_29, c_46, c_57, c_68, c_79, c_85, not_false_eq_true, not_true_eq_false, and_self, and_true, true_and, and_false, false_and, or_true, true_or, or_false, false_or, Bool.false_eq_true, if_true, if_false, ↓reduceIte]
                      have hl : lv_has ls 6 [(5, .int (nI (k + 1))), (4, .int (svB g known day (hA σ 43 12 0) (hA σ 43 16 0) (hA σ 43 15 0) (k + 1))), (0, .ref (hO E 43)), (1, .int g), (2, .int known), (3, .int day)] := by
                        rw [← q7]
                        exact lv_sub hl [0, 1, 2, 3, 4, 5] rfl
                      exact ih40 (k + 1) hk1 (by omega) _ _ _ M hl
                    · skip
                      refine lv_aload_n C.1 C.2.1 dX12_saved_88 rfl (lv_at hl 2 rfl) ?_
                      refine g_getA C M 43 15 (by decide) rfl rfl (by decide) fl12_46 dX12_saved_89 ?_
                      refine lv_iload C.1 C.2.1 dX12_saved_92 (lv_at hl 0 rfl) ?_
                      refine g_iald C M 43 15 (by decide) rfl k (nI_clamp (by omega)) (vp_in_nI (by omega) (by decide)) (v := hA σ 43 15 0 k) rfl dX12_saved_94 ?_
                      refine lv_aload_n C.1 C.2.1 dX12_saved_95 rfl (lv_at hl 2 rfl) ?_
                      refine g_getA C M 43 15 (by decide) rfl rfl (by decide) fl12_46 dX12_saved_96 ?_
                      refine lv_iload C.1 C.2.1 dX12_saved_99 (lv_at hl 1 rfl) ?_
                      refine g_iald C M 43 15 (by decide) rfl ((svB g known day (hA σ 43 12 0) (hA σ 43 16 0) (hA σ 43 15 0) k).toNatClampNeg) rfl (vp_in_or (svB_in _ _ _ _ _ _ k) c_85 (by omega) (by decide)) (v := hA σ 43 15 0 ((svB g known day (hA σ 43 12 0) (hA σ 43 16 0) (hA σ 43 15 0) k).toNatClampNeg)) rfl dX12_saved_101 ?_
                      refine lv_icmp_lt (tgt := 109) C.1 C.2.1 dX12_saved_102 (by decide) (fun c_102 => ?_) (fun c_102 => ?_)
                      · skip
                        refine lv_iinc (v := nI (k + 1)) (lv' := [(5, .int (nI (k + 1))), (4, .int (svB g known day (hA σ 43 12 0) (hA σ 43 16 0) (hA σ 43 15 0) k)), (0, .ref (hO E 43)), (1, .int g), (2, .int known), (3, .int day)]) C.1 C.2.1 dX12_saved_109 hl (k := 0) rfl (nI_succ _).symm (by decide) rfl (fun ls hl => ?_)
                        refine lv_goto (tgt := 40) C.1 C.2.1 dX12_saved_112 (by decide) ?_
                        have q8 : svB g known day (hA σ 43 12 0) (hA σ 43 16 0) (hA σ 43 15 0) k = svB g known day (hA σ 43 12 0) (hA σ 43 16 0) (hA σ 43 15 0) (k + 1) := by simp only [svB, c_7, c_18, c_29, c_46, c_57, c_68, c_79, c_85, c_102, not_false_eq_true, not_true_eq_false, and_self, and_true, true_and, and_false, false_and, or_true, true_or, or_false, false_or, Bool.false_eq_true, if_true, if_false, ↓reduceIte]
                        have hl : lv_has ls 6 [(5, .int (nI (k + 1))), (4, .int (svB g known day (hA σ 43 12 0) (hA σ 43 16 0) (hA σ 43 15 0) (k + 1))), (0, .ref (hO E 43)), (1, .int g), (2, .int known), (3, .int day)] := by
                          rw [← q8]
                          exact lv_sub hl [0, 1, 2, 3, 4, 5] rfl
                        exact ih40 (k + 1) hk1 (by omega) _ _ _ M hl
                      · skip
                        refine lv_iload C.1 C.2.1 dX12_saved_105 (lv_at hl 0 rfl) ?_
                        refine lv_istore (lv' := [(4, .int (nI k)), (5, .int (nI k)), (0, .ref (hO E 43)), (1, .int g), (2, .int known), (3, .int day)]) C.1 C.2.1 dX12_saved_107 hl (by decide) rfl (fun ls hl => ?_)
                        refine lv_iinc (v := nI (k + 1)) (lv' := [(5, .int (nI (k + 1))), (4, .int (nI k)), (0, .ref (hO E 43)), (1, .int g), (2, .int known), (3, .int day)]) C.1 C.2.1 dX12_saved_109 hl (k := 1) rfl (nI_succ _).symm (by decide) rfl (fun ls hl => ?_)
                        refine lv_goto (tgt := 40) C.1 C.2.1 dX12_saved_112 (by decide) ?_
                        have q9 : nI k = svB g known day (hA σ 43 12 0) (hA σ 43 16 0) (hA σ 43 15 0) (k + 1) := by simp only [svB, c_7, c_18, c_29, c_46, c_57, c_68, c_79, c_85, c_102, not_false_eq_true, not_true_eq_false, and_self, and_true, true_and, and_false, false_and, or_true, true_or, or_false, false_or, Bool.false_eq_true, if_true, if_false, ↓reduceIte]
                        have hl : lv_has ls 6 [(5, .int (nI (k + 1))), (4, .int (svB g known day (hA σ 43 12 0) (hA σ 43 16 0) (hA σ 43 15 0) (k + 1))), (0, .ref (hO E 43)), (1, .int g), (2, .int known), (3, .int day)] := by
                          rw [← q9]
                          exact lv_sub hl [0, 1, 2, 3, 4, 5] rfl
                        exact ih40 (k + 1) hk1 (by omega) _ _ _ M hl
        have q10 : 0 = nI 0 := by rfl
        have q11 : (-1) = svB g known day (hA σ 43 12 0) (hA σ 43 16 0) (hA σ 43 15 0) 0 := by rfl
        have hl : lv_has ls 6 [(5, .int (nI 0)), (4, .int (svB g known day (hA σ 43 12 0) (hA σ 43 16 0) (hA σ 43 15 0) 0)), (0, .ref (hO E 43)), (1, .int g), (2, .int known), (3, .int day)] := by
          rw [← q10, ← q11]
          exact lv_sub hl [0, 1, 2, 3, 4, 5] rfl
        exact L40 ((n - 0) + 1) 0 (Nat.zero_le _) (Nat.lt_succ_self _) _ _ _ M hl
      · skip
        have c_29 : ¬ inB day 0 5000 = true := bz_0.mp c_29
        refine lv_iconst (v := (-1)) C.1 C.2.1 dX12_saved_32 (by decide) ?_
        refine g_iret C M hr hlk ?_ (Nat.le_of_ble_eq_true rfl) (Nat.le_of_ble_eq_true rfl) dX12_saved_33
        simp only [mSvd, c_7, c_18, c_29, not_false_eq_true, not_true_eq_false, and_self, and_true, true_and, and_false, false_and, or_true, true_or, or_false, false_or, Bool.false_eq_true, if_true, if_false, ↓reduceIte]
