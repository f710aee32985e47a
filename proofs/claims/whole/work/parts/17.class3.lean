def cCad (σ : hMem) (n : Nat) (m a day today : Int32) : hMem := sI (sA (sA (sA (sA σ 6 0 0 (upd (hA σ 6 0 0) n m)) 6 1 0 (upd (hA σ 6 1 0) n a)) 7 0 0 (upd (hA σ 7 0 0) n day)) 7 1 0 (upd (hA σ 7 1 0) n today)) 6 4 (nI (n + 1))
def cOvr (σ : hMem) (i : Nat) (day today : Int32) : hMem := sA (sA σ 8 0 0 (upd (hA σ 8 0 0) i day)) 8 1 0 (upd (hA σ 8 1 0) i today)

set_option maxHeartbeats 4000000 in
set_option maxRecDepth 100000 in
theorem x_csadd (l : Launch) (E : hEnv) (σ : hMem) (Z : va_W) (n : Nat) (hn : hI σ 6 4 = nI n) (hn40 : n ≤ 40) (m9 a day today : Int32) : hMet l yX1_add cX1_add 5 (some .int) (1, 0, 0, 23) E σ Z [.ref (hO E 6), .int m9, .int a, .int day, .int today] (hQi E (fun r u => r = (if nI n < 40 then nI n else -1) ∧ u = (if nI n < 40 then cCad σ n m9 a day today else σ, Z))) := by
  refine hMet.of (by decide) (Nat.le_of_ble_eq_true rfl) (fun p e s m below meth c A ls C M hr hlk hl => ?_)
  have hl : lv_has ls 5 [(0, .ref (hO E 6)), (1, .int m9), (2, .int a), (3, .int day), (4, .int today)] := hl
  refine lv_aload_n C.1 C.2.1 dX1_add_0 rfl (lv_at hl 0 rfl) ?_
  refine g_getI C M 6 4 (by decide) rfl rfl (by decide) fl1_30 (v := nI n) hn dX1_add_1 ?_
  refine lv_bipush (v := 40) C.1 C.2.1 dX1_add_4 (by decide) ?_
  refine lv_icmp_lt (tgt := 11) C.1 C.2.1 dX1_add_6 (by decide) (fun c_6 => ?_) (fun c_6 => ?_)
  · skip
    have hlt : n < 40 := (nI_ltI (by omega) (by decide)).mp c_6
    refine lv_aload_n C.1 C.2.1 dX1_add_11 rfl (lv_at hl 0 rfl) ?_
    refine g_getA C M 6 0 (by decide) rfl rfl (by decide) fl1_9 dX1_add_12 ?_
    refine lv_aload_n C.1 C.2.1 dX1_add_15 rfl (lv_at hl 0 rfl) ?_
    refine g_getI C M 6 4 (by decide) rfl rfl (by decide) fl1_30 (v := nI n) hn dX1_add_16 ?_
    refine lv_iload_n C.1 C.2.1 dX1_add_19 rfl (lv_at hl 1 rfl) ?_
    refine g_iast C M 6 0 (by decide) rfl n (nI_clamp (by omega)) (vp_in_nI (by omega) (by decide)) dX1_add_20 (fun H locs M => ?_)
    have M : hM E A s H locs (sA σ 6 0 0 (upd (hA σ 6 0 0) n m9)) Z := M
    refine lv_aload_n C.1 C.2.1 dX1_add_21 rfl (lv_at hl 0 rfl) ?_
    refine g_getA C M 6 1 (by decide) rfl rfl (by decide) fl1_15 dX1_add_22 ?_
    refine lv_aload_n C.1 C.2.1 dX1_add_25 rfl (lv_at hl 0 rfl) ?_
    refine g_getI C M 6 4 (by decide) rfl rfl (by decide) fl1_30 (v := nI n) hn dX1_add_26 ?_
    refine lv_iload_n C.1 C.2.1 dX1_add_29 rfl (lv_at hl 2 rfl) ?_
    refine g_iast C M 6 1 (by decide) rfl n (nI_clamp (by omega)) (vp_in_nI (by omega) (by decide)) dX1_add_30 (fun H locs M => ?_)
    have M : hM E A s H locs (sA (sA σ 6 0 0 (upd (hA σ 6 0 0) n m9)) 6 1 0 (upd (hA σ 6 1 0) n a)) Z := M
    refine lv_aload_n C.1 C.2.1 dX1_add_31 rfl (lv_at hl 0 rfl) ?_
    refine g_getO C M 6 2 7 (by decide) rfl rfl (by decide) fl1_23 dX1_add_32 ?_
    refine lv_aload_n C.1 C.2.1 dX1_add_35 rfl (lv_at hl 0 rfl) ?_
    refine g_getI C M 6 4 (by decide) rfl rfl (by decide) fl1_30 (v := nI n) hn dX1_add_36 ?_
    refine lv_iload_n C.1 C.2.1 dX1_add_39 rfl (lv_at hl 3 rfl) ?_
    refine lv_iload C.1 C.2.1 dX1_add_40 (lv_at hl 4 rfl) ?_
    refine g_callv M (g_runV (As := [.int (nI n), .int day, .int today]) (rest := []) C M 7 (x_tset l E (sA (sA σ 6 0 0 (upd (hA σ 6 0 0) n m9)) 6 1 0 (upd (hA σ 6 1 0) n a)) Z 7 40 (by decide) rfl rfl (by decide) (nI n) n (nI_clamp (by omega)) (vp_in_nI (by omega) (by decide)) day today) clX10_set ivX10_set lk1_34 (by decide) rfl rfl ⟨Nat.le_of_ble_eq_true rfl, Nat.le_of_ble_eq_true rfl⟩ hl.1 rfl (Nat.le_of_ble_eq_true rfl) dX1_add_42 ⟨Nat.le_of_ble_eq_true rfl, Nat.le_of_ble_eq_true rfl⟩) (fun u H locs hR M => ?_)
    refine W.widen (k := 0) (n := 0) (Nat.le_of_ble_eq_true rfl) (Nat.le_of_ble_eq_true rfl) ?_
    subst hR
    have M : hM E A s H locs (sA (sA (sA (sA σ 6 0 0 (upd (hA σ 6 0 0) n m9)) 6 1 0 (upd (hA σ 6 1 0) n a)) 7 0 0 (upd (hA σ 7 0 0) n day)) 7 1 0 (upd (hA σ 7 1 0) n today)) Z := M
    refine lv_aload_n C.1 C.2.1 dX1_add_45 rfl (lv_at hl 0 rfl) ?_
    refine lv_dup C.1 C.2.1 dX1_add_46 rfl ?_
    refine g_getI C M 6 4 (by decide) rfl rfl (by decide) fl1_30 (v := nI n) hn dX1_add_47 ?_
    refine lv_iconst (v := 1) C.1 C.2.1 dX1_add_50 (by decide) ?_
    refine lv_iadd C.1 C.2.1 dX1_add_51 ?_
    refine g_rei (v := nI (n + 1)) (nI_1 _) ?_
    refine g_putI C M 6 4 (by decide) rfl rfl (by decide) fl1_30 rfl rfl dX1_add_52 (fun H locs M => ?_)
    refine lv_aload_n C.1 C.2.1 dX1_add_55 rfl (lv_at hl 0 rfl) ?_
    refine g_getI C M 6 4 (by decide) rfl rfl (by decide) fl1_30 (v := nI (n + 1)) rfl dX1_add_56 ?_
    refine lv_iconst (v := 1) C.1 C.2.1 dX1_add_59 (by decide) ?_
    refine lv_isub C.1 C.2.1 dX1_add_60 ?_
    refine g_rei (v := nI n) (nI_pred _) ?_
    refine g_iret C M hr hlk ?_ (Nat.le_of_ble_eq_true rfl) (Nat.le_of_ble_eq_true rfl) dX1_add_61
    simp only [cCad, c_6, not_false_eq_true, not_true_eq_false, and_self, and_true, true_and, and_false, false_and, or_true, true_or, or_false, false_or, Bool.false_eq_true, if_true, if_false, ↓reduceIte]
  · skip
    refine lv_iconst (v := (-1)) C.1 C.2.1 dX1_add_9 (by decide) ?_
    refine g_iret C M hr hlk ?_ (Nat.le_of_ble_eq_true rfl) (Nat.le_of_ble_eq_true rfl) dX1_add_10
    simp only [cCad, c_6, not_false_eq_true, not_true_eq_false, and_self, and_true, true_and, and_false, false_and, or_true, true_or, or_false, false_or, Bool.false_eq_true, if_true, if_false, ↓reduceIte]

set_option maxHeartbeats 4000000 in
set_option maxRecDepth 100000 in
theorem x_csover (l : Launch) (E : hEnv) (σ : hMem) (Z : va_W) (n : Nat) (hn : hI σ 6 4 = nI n) (hn40 : n ≤ 40) (k day today : Int32) : hMet l yX1_setOverruled cX1_setOverruled 4 (some .boolean) (1, 0, 0, 23) E σ Z [.ref (hO E 6), .int k, .int day, .int today] (hQi E (fun r u => r = bz (inB k 0 (nI n - 1) = true ∧ hA σ 8 0 0 k.toNatClampNeg = 5001) ∧ u = (if inB k 0 (nI n - 1) = true ∧ hA σ 8 0 0 k.toNatClampNeg = 5001 then cOvr σ k.toNatClampNeg day today else σ, Z))) := by
  refine hMet.of (by decide) (Nat.le_of_ble_eq_true rfl) (fun p e s m below meth c A ls C M hr hlk hl => ?_)
  have hl : lv_has ls 4 [(0, .ref (hO E 6)), (1, .int k), (2, .int day), (3, .int today)] := hl
  refine lv_iload_n C.1 C.2.1 dX1_setOverruled_0 rfl (lv_at hl 1 rfl) ?_
  refine lv_iconst (v := 0) C.1 C.2.1 dX1_setOverruled_1 (by decide) ?_
  refine lv_aload_n C.1 C.2.1 dX1_setOverruled_2 rfl (lv_at hl 0 rfl) ?_
  refine g_getI C M 6 4 (by decide) rfl rfl (by decide) fl1_30 (v := nI n) hn dX1_setOverruled_3 ?_
  refine lv_iconst (v := 1) C.1 C.2.1 dX1_setOverruled_6 (by decide) ?_
  refine lv_isub C.1 C.2.1 dX1_setOverruled_7 ?_
  refine g_calli M (g_runS (As := [.int k, .int 0, .int ((nI n) - 1)]) (rest := []) C M (x_within l E σ Z k 0 ((nI n) - 1)) clX11_isWithin stX11_isWithin lk1_38 rfl ⟨Nat.le_of_ble_eq_true rfl, Nat.le_of_ble_eq_true rfl⟩ hl.1 rfl (Nat.le_of_ble_eq_true rfl) dX1_setOverruled_8 ⟨Nat.le_of_ble_eq_true rfl, Nat.le_of_ble_eq_true rfl⟩) (fun r1 u H locs hR M => ?_)
  refine W.widen (k := 0) (n := 0) (Nat.le_of_ble_eq_true rfl) (Nat.le_of_ble_eq_true rfl) ?_
  obtain ⟨rfl, rfl⟩ := hR
  have M : hM E A s H locs σ Z := M
  refine lv_if_eq (tgt := 25) C.1 C.2.1 dX1_setOverruled_11 (by decide) (fun c_11 => ?_) (fun c_11 => ?_)
  · skip
    have c_11 : ¬ inB k 0 ((nI n) - 1) = true := bz_0.mp c_11
    refine lv_iconst (v := 0) C.1 C.2.1 dX1_setOverruled_25 (by decide) ?_
    refine g_zret rfl C M hr hlk ?_ (Nat.le_of_ble_eq_true rfl) (Nat.le_of_ble_eq_true rfl) dX1_setOverruled_26
    simp only [bz, cOvr, c_11, not_false_eq_true, not_true_eq_false, and_self, and_true, true_and, and_false, false_and, or_true, true_or, or_false, false_or, Bool.false_eq_true, if_true, if_false, ↓reduceIte]
  · skip
    have c_11 : inB k 0 ((nI n) - 1) = true := bz_ne0.mp c_11
    refine lv_aload_n C.1 C.2.1 dX1_setOverruled_14 rfl (lv_at hl 0 rfl) ?_
    refine g_getO C M 6 3 8 (by decide) rfl rfl (by decide) fl1_27 dX1_setOverruled_15 ?_
    refine lv_iload_n C.1 C.2.1 dX1_setOverruled_18 rfl (lv_at hl 1 rfl) ?_
    refine g_calli M (g_runV (As := [.int k]) (rest := []) C M 8 (x_tisSet l E σ Z 8 40 (by decide) rfl rfl (by decide) k k.toNatClampNeg rfl (vp_in_pre c_11 hn40 (by decide)) ) clX10_isSet ivX10_isSet lk1_42 (by decide) rfl rfl ⟨Nat.le_of_ble_eq_true rfl, Nat.le_of_ble_eq_true rfl⟩ hl.1 rfl (Nat.le_of_ble_eq_true rfl) dX1_setOverruled_19 ⟨Nat.le_of_ble_eq_true rfl, Nat.le_of_ble_eq_true rfl⟩) (fun r2 u H locs hR M => ?_)
    refine W.widen (k := 0) (n := 0) (Nat.le_of_ble_eq_true rfl) (Nat.le_of_ble_eq_true rfl) ?_
    obtain ⟨rfl, rfl⟩ := hR
    have M : hM E A s H locs σ Z := M
    refine lv_if_eq (tgt := 27) C.1 C.2.1 dX1_setOverruled_22 (by decide) (fun c_22 => ?_) (fun c_22 => ?_)
    · skip
      have c_22 : ¬ (¬ hA σ 8 0 0 k.toNatClampNeg = 5001) := bz_0.mp c_22
      have c_22 : hA σ 8 0 0 k.toNatClampNeg = 5001 := Classical.not_not.mp c_22
      refine lv_aload_n C.1 C.2.1 dX1_setOverruled_27 rfl (lv_at hl 0 rfl) ?_
      refine g_getO C M 6 3 8 (by decide) rfl rfl (by decide) fl1_27 dX1_setOverruled_28 ?_
      refine lv_iload_n C.1 C.2.1 dX1_setOverruled_31 rfl (lv_at hl 1 rfl) ?_
      refine lv_iload_n C.1 C.2.1 dX1_setOverruled_32 rfl (lv_at hl 2 rfl) ?_
      refine lv_iload_n C.1 C.2.1 dX1_setOverruled_33 rfl (lv_at hl 3 rfl) ?_
      refine g_callv M (g_runV (As := [.int k, .int day, .int today]) (rest := []) C M 8 (x_tset l E σ Z 8 40 (by decide) rfl rfl (by decide) k k.toNatClampNeg rfl (vp_in_pre c_11 hn40 (by decide)) day today) clX10_set ivX10_set lk1_34 (by decide) rfl rfl ⟨Nat.le_of_ble_eq_true rfl, Nat.le_of_ble_eq_true rfl⟩ hl.1 rfl (Nat.le_of_ble_eq_true rfl) dX1_setOverruled_34 ⟨Nat.le_of_ble_eq_true rfl, Nat.le_of_ble_eq_true rfl⟩) (fun u H locs hR M => ?_)
      refine W.widen (k := 0) (n := 0) (Nat.le_of_ble_eq_true rfl) (Nat.le_of_ble_eq_true rfl) ?_
      subst hR
      have M : hM E A s H locs (sA (sA σ 8 0 0 (upd (hA σ 8 0 0) k.toNatClampNeg day)) 8 1 0 (upd (hA σ 8 1 0) k.toNatClampNeg today)) Z := M
      refine lv_iconst (v := 1) C.1 C.2.1 dX1_setOverruled_37 (by decide) ?_
      refine g_zret rfl C M hr hlk ?_ (Nat.le_of_ble_eq_true rfl) (Nat.le_of_ble_eq_true rfl) dX1_setOverruled_38
      simp only [bz, cOvr, c_11, c_22, not_false_eq_true, not_true_eq_false, and_self, and_true, true_and, and_false, false_and, or_true, true_or, or_false, false_or, Bool.false_eq_true, if_true, if_false, ↓reduceIte]
    · skip
      have c_22 : (¬ hA σ 8 0 0 k.toNatClampNeg = 5001) := bz_ne0.mp c_22
      refine lv_iconst (v := 0) C.1 C.2.1 dX1_setOverruled_25 (by decide) ?_
      refine g_zret rfl C M hr hlk ?_ (Nat.le_of_ble_eq_true rfl) (Nat.le_of_ble_eq_true rfl) dX1_setOverruled_26
      simp only [bz, cOvr, c_11, c_22, not_false_eq_true, not_true_eq_false, and_self, and_true, true_and, and_false, false_and, or_true, true_or, or_false, false_or, Bool.false_eq_true, if_true, if_false, ↓reduceIte]

def cLcl (σ : hMem) (j : Nat) : hMem := sI (sI (sI (sI (sI (sI (sA σ j 0 0 (pre (fun _ => 0) (hA σ j 0 0) 5)) j 1 0) j 2 0) j 3 100) j 4 0) j 5 0) j 6 0
def dg0 (v : Int32) : Int32 := v - v / 10 * 10
def absJ (x : Int32) : Int32 := if 0 ≤ x then x else 0 - x
def cDist (mk sm : Int32) (w : Nat → Int32) : Int32 := 0 + w 4 * absJ (dg0 mk - dg0 sm) + w 3 * absJ (dg0 (mk / 10) - dg0 (sm / 10)) + w 2 * absJ (dg0 (mk / 10 / 10) - dg0 (sm / 10 / 10)) + w 1 * absJ (dg0 (mk / 10 / 10 / 10) - dg0 (sm / 10 / 10 / 10)) + w 0 * absJ (dg0 (mk / 10 / 10 / 10 / 10) - dg0 (sm / 10 / 10 / 10 / 10))

set_option maxHeartbeats 4000000 in
set_option maxRecDepth 100000 in
theorem x_lclear (l : Launch) (E : hEnv) (σ : hMem) (Z : va_W) (j : Nat) (hj : j < 44) (hL : hLay j = layLaw) (hC : hCi j = 5) : hMet l yX5_clear cX5_clear 1 none (1, 0, 0, 23) E σ Z [.ref (hO E j)] (hQv E (fun u => u = (cLcl σ j, Z))) := by
  refine hMet.of (by decide) (Nat.le_of_ble_eq_true rfl) (fun p e s m below meth c A ls C M hr hlk hl => ?_)
  have hl : lv_has ls 1 [(0, .ref (hO E j))] := hl
  refine lv_aload_n C.1 C.2.1 dX5_clear_0 rfl (lv_at hl 0 rfl) ?_
  refine g_getA C M j 0 hj (by rw [hL]; rfl) (by rw [hC]; rfl) (by decide) fl5_9 dX5_clear_1 ?_
  refine lv_iconst (v := 0) C.1 C.2.1 dX5_clear_4 (by decide) ?_
  refine g_callv M (g_runS (As := [.ref (hR E j 0 0), .int 0]) (rest := []) C M (x_fill l E σ Z j 0 5 0 hj (by rw [hL]; rfl) (by decide) 0) clJ7_fill_53178 stJ7_fill_53178 lk5_15 rfl ⟨Nat.le_of_ble_eq_true rfl, Nat.le_of_ble_eq_true rfl⟩ hl.1 rfl (Nat.le_of_ble_eq_true rfl) dX5_clear_5 ⟨Nat.le_of_ble_eq_true rfl, Nat.le_of_ble_eq_true rfl⟩) (fun u H locs hR M => ?_)
  refine W.widen (k := 0) (n := 0) (Nat.le_of_ble_eq_true rfl) (Nat.le_of_ble_eq_true rfl) ?_
  subst hR
  have M : hM E A s H locs (sA σ j 0 0 (pre (fun _ => 0) (hA σ j 0 0) 5)) Z := M
  refine lv_aload_n C.1 C.2.1 dX5_clear_8 rfl (lv_at hl 0 rfl) ?_
  refine lv_iconst (v := 0) C.1 C.2.1 dX5_clear_9 (by decide) ?_
  refine g_putI C M j 1 hj (by rw [hL]; rfl) (by rw [hC]; rfl) (by decide) fl5_21 rfl (by rw [hC]; rfl) dX5_clear_10 (fun H locs M => ?_)
  refine lv_aload_n C.1 C.2.1 dX5_clear_13 rfl (lv_at hl 0 rfl) ?_
  refine lv_iconst (v := 0) C.1 C.2.1 dX5_clear_14 (by decide) ?_
  refine g_putI C M j 2 hj (by rw [hL]; rfl) (by rw [hC]; rfl) (by decide) fl5_25 rfl (by rw [hC]; rfl) dX5_clear_15 (fun H locs M => ?_)
  refine lv_aload_n C.1 C.2.1 dX5_clear_18 rfl (lv_at hl 0 rfl) ?_
  refine lv_bipush (v := 100) C.1 C.2.1 dX5_clear_19 (by decide) ?_
  refine g_putI C M j 3 hj (by rw [hL]; rfl) (by rw [hC]; rfl) (by decide) fl5_28 rfl (by rw [hC]; rfl) dX5_clear_21 (fun H locs M => ?_)
  refine lv_aload_n C.1 C.2.1 dX5_clear_24 rfl (lv_at hl 0 rfl) ?_
  refine lv_iconst (v := 0) C.1 C.2.1 dX5_clear_25 (by decide) ?_
  refine g_putI C M j 4 hj (by rw [hL]; rfl) (by rw [hC]; rfl) (by decide) fl5_31 rfl (by rw [hC]; rfl) dX5_clear_26 (fun H locs M => ?_)
  refine lv_aload_n C.1 C.2.1 dX5_clear_29 rfl (lv_at hl 0 rfl) ?_
  refine lv_iconst (v := 0) C.1 C.2.1 dX5_clear_30 (by decide) ?_
  refine g_putI C M j 5 hj (by rw [hL]; rfl) (by rw [hC]; rfl) (by decide) fl5_34 rfl (by rw [hC]; rfl) dX5_clear_31 (fun H locs M => ?_)
  refine lv_aload_n C.1 C.2.1 dX5_clear_34 rfl (lv_at hl 0 rfl) ?_
  refine lv_iconst (v := 0) C.1 C.2.1 dX5_clear_35 (by decide) ?_
  refine g_putI C M j 6 hj (by rw [hL]; rfl) (by rw [hC]; rfl) (by decide) fl5_37 rfl (by rw [hC]; rfl) dX5_clear_36 (fun H locs M => ?_)
  refine g_vret C M hr hlk ?_ (Nat.le_of_ble_eq_true rfl) (Nat.le_of_ble_eq_true rfl) dX5_clear_39
  rfl

set_option maxHeartbeats 4000000 in
set_option maxRecDepth 100000 in
theorem x_ldist (l : Launch) (E : hEnv) (σ : hMem) (Z : va_W) (j : Nat) (hj : j < 44) (hL : hLay j = layLaw) (hC : hCi j = 5) (mk sm : Int32) : hMet l yX5_distance cX5_distance 7 (some .int) (1, 0, 0, 15) E σ Z [.ref (hO E j), .int mk, .int sm] (hQi E (fun r u => r = cDist mk sm (hA σ j 0 0) ∧ u = (σ, Z))) := by
  refine hMet.of (by decide) (Nat.le_of_ble_eq_true rfl) (fun p e s m below meth c A ls C M hr hlk hl => ?_)
  have hl : lv_has ls 7 [(0, .ref (hO E j)), (1, .int mk), (2, .int sm)] := hl
  refine lv_iload_n C.1 C.2.1 dX5_distance_0 rfl (lv_at hl 1 rfl) ?_
  refine lv_istore_n (lv' := [(3, .int mk), (0, .ref (hO E j)), (1, .int mk), (2, .int sm)]) C.1 C.2.1 dX5_distance_1 rfl hl (by decide) rfl (fun ls hl => ?_)
  refine lv_iload_n C.1 C.2.1 dX5_distance_2 rfl (lv_at hl 3 rfl) ?_
  refine lv_istore (lv' := [(4, .int sm), (3, .int mk), (0, .ref (hO E j)), (1, .int mk), (2, .int sm)]) C.1 C.2.1 dX5_distance_3 hl (by decide) rfl (fun ls hl => ?_)
  refine lv_iconst (v := 0) C.1 C.2.1 dX5_distance_5 (by decide) ?_
  refine lv_istore (lv' := [(5, .int 0), (4, .int sm), (3, .int mk), (0, .ref (hO E j)), (1, .int mk), (2, .int sm)]) C.1 C.2.1 dX5_distance_6 hl (by decide) rfl (fun ls hl => ?_)
  refine lv_iconst (v := 4) C.1 C.2.1 dX5_distance_8 (by decide) ?_
  refine lv_istore (lv' := [(6, .int 4), (5, .int 0), (4, .int sm), (3, .int mk), (0, .ref (hO E j)), (1, .int mk), (2, .int sm)]) C.1 C.2.1 dX5_distance_9 hl (by decide) rfl (fun ls hl => ?_)
  refine lv_iload C.1 C.2.1 dX5_distance_11 (lv_at hl 0 rfl) ?_
  refine lv_if_lt (tgt := 60) C.1 C.2.1 dX5_distance_13 (by decide) (fun h9 => absurd h9 (by decide)) (fun _ => ?_)
  refine lv_iload C.1 C.2.1 dX5_distance_16 (lv_at hl 1 rfl) ?_
  refine lv_aload_n C.1 C.2.1 dX5_distance_18 rfl (lv_at hl 4 rfl) ?_
  refine g_getA C M j 0 hj (by rw [hL]; rfl) (by rw [hC]; rfl) (by decide) fl5_9 dX5_distance_19 ?_
  refine lv_iload C.1 C.2.1 dX5_distance_22 (lv_at hl 0 rfl) ?_
  refine g_iald C M j 0 hj (by rw [hL]; rfl) 4 (by decide) (by rw [vp_in_iff]; decide) (v := hA σ j 0 0 4) rfl dX5_distance_24 ?_
  refine lv_iload_n C.1 C.2.1 dX5_distance_25 rfl (lv_at hl 3 rfl) ?_
  refine lv_bipush (v := 10) C.1 C.2.1 dX5_distance_26 (by decide) ?_
  refine lv_irem C.1 C.2.1 dX5_distance_28 (by decide) ?_
  refine lv_iload C.1 C.2.1 dX5_distance_29 (lv_at hl 2 rfl) ?_
  refine lv_bipush (v := 10) C.1 C.2.1 dX5_distance_31 (by decide) ?_
  refine lv_irem C.1 C.2.1 dX5_distance_33 (by decide) ?_
  refine lv_isub C.1 C.2.1 dX5_distance_34 ?_
  refine g_mabs C hl.1 mlk5_40 (Nat.le_of_ble_eq_true rfl) (Nat.le_of_ble_eq_true rfl) (Nat.le_of_ble_eq_true rfl) (Nat.le_of_ble_eq_true rfl) dX5_distance_35 ?_
  refine lv_imul C.1 C.2.1 dX5_distance_38 ?_
  refine lv_iadd C.1 C.2.1 dX5_distance_39 ?_
  refine lv_istore (lv' := [(5, .int (0 + ((hA σ j 0 0 4) * (if 0 ≤ ((mk - mk / 10 * 10) - (sm - sm / 10 * 10)) then (mk - mk / 10 * 10) - (sm - sm / 10 * 10) else 0 - ((mk - mk / 10 * 10) - (sm - sm / 10 * 10)))))), (6, .int 4), (4, .int sm), (3, .int mk), (0, .ref (hO E j)), (1, .int mk), (2, .int sm)]) C.1 C.2.1 dX5_distance_40 hl (by decide) rfl (fun ls hl => ?_)
  refine lv_iload_n C.1 C.2.1 dX5_distance_42 rfl (lv_at hl 3 rfl) ?_
  refine lv_bipush (v := 10) C.1 C.2.1 dX5_distance_43 (by decide) ?_
  refine lv_idiv C.1 C.2.1 dX5_distance_45 (by decide) ?_
  refine lv_istore_n (lv' := [(3, .int (mk / 10)), (5, .int (0 + ((hA σ j 0 0 4) * (if 0 ≤ ((mk - mk / 10 * 10) - (sm - sm / 10 * 10)) then (mk - mk / 10 * 10) - (sm - sm / 10 * 10) else 0 - ((mk - mk / 10 * 10) - (sm - sm / 10 * 10)))))), (6, .int 4), (4, .int sm), (0, .ref (hO E j)), (1, .int mk), (2, .int sm)]) C.1 C.2.1 dX5_distance_46 rfl hl (by decide) rfl (fun ls hl => ?_)
  refine lv_iload C.1 C.2.1 dX5_distance_47 (lv_at hl 3 rfl) ?_
  refine lv_bipush (v := 10) C.1 C.2.1 dX5_distance_49 (by decide) ?_
  refine lv_idiv C.1 C.2.1 dX5_distance_51 (by decide) ?_
  refine lv_istore (lv' := [(4, .int (sm / 10)), (3, .int (mk / 10)), (5, .int (0 + ((hA σ j 0 0 4) * (if 0 ≤ ((mk - mk / 10 * 10) - (sm - sm / 10 * 10)) then (mk - mk / 10 * 10) - (sm - sm / 10 * 10) else 0 - ((mk - mk / 10 * 10) - (sm - sm / 10 * 10)))))), (6, .int 4), (0, .ref (hO E j)), (1, .int mk), (2, .int sm)]) C.1 C.2.1 dX5_distance_52 hl (by decide) rfl (fun ls hl => ?_)
  refine lv_iinc (v := 3) (lv' := [(6, .int 3), (4, .int (sm / 10)), (3, .int (mk / 10)), (5, .int (0 + ((hA σ j 0 0 4) * (if 0 ≤ ((mk - mk / 10 * 10) - (sm - sm / 10 * 10)) then (mk - mk / 10 * 10) - (sm - sm / 10 * 10) else 0 - ((mk - mk / 10 * 10) - (sm - sm / 10 * 10)))))), (0, .ref (hO E j)), (1, .int mk), (2, .int sm)]) C.1 C.2.1 dX5_distance_54 hl (k := 3) rfl (by decide) (by decide) rfl (fun ls hl => ?_)
  refine lv_goto (tgt := 11) C.1 C.2.1 dX5_distance_57 (by decide) ?_
  refine lv_iload C.1 C.2.1 dX5_distance_11 (lv_at hl 0 rfl) ?_
  refine lv_if_lt (tgt := 60) C.1 C.2.1 dX5_distance_13 (by decide) (fun h9 => absurd h9 (by decide)) (fun _ => ?_)
  refine lv_iload C.1 C.2.1 dX5_distance_16 (lv_at hl 3 rfl) ?_
  refine lv_aload_n C.1 C.2.1 dX5_distance_18 rfl (lv_at hl 4 rfl) ?_
  refine g_getA C M j 0 hj (by rw [hL]; rfl) (by rw [hC]; rfl) (by decide) fl5_9 dX5_distance_19 ?_
  refine lv_iload C.1 C.2.1 dX5_distance_22 (lv_at hl 0 rfl) ?_
  refine g_iald C M j 0 hj (by rw [hL]; rfl) 3 (by decide) (by rw [vp_in_iff]; decide) (v := hA σ j 0 0 3) rfl dX5_distance_24 ?_
  refine lv_iload_n C.1 C.2.1 dX5_distance_25 rfl (lv_at hl 2 rfl) ?_
  refine lv_bipush (v := 10) C.1 C.2.1 dX5_distance_26 (by decide) ?_
  refine lv_irem C.1 C.2.1 dX5_distance_28 (by decide) ?_
  refine lv_iload C.1 C.2.1 dX5_distance_29 (lv_at hl 1 rfl) ?_
  refine lv_bipush (v := 10) C.1 C.2.1 dX5_distance_31 (by decide) ?_
  refine lv_irem C.1 C.2.1 dX5_distance_33 (by decide) ?_
  refine lv_isub C.1 C.2.1 dX5_distance_34 ?_
  refine g_mabs C hl.1 mlk5_40 (Nat.le_of_ble_eq_true rfl) (Nat.le_of_ble_eq_true rfl) (Nat.le_of_ble_eq_true rfl) (Nat.le_of_ble_eq_true rfl) dX5_distance_35 ?_
  refine lv_imul C.1 C.2.1 dX5_distance_38 ?_
  refine lv_iadd C.1 C.2.1 dX5_distance_39 ?_
  refine lv_istore (lv' := [(5, .int ((0 + ((hA σ j 0 0 4) * (if 0 ≤ ((mk - mk / 10 * 10) - (sm - sm / 10 * 10)) then (mk - mk / 10 * 10) - (sm - sm / 10 * 10) else 0 - ((mk - mk / 10 * 10) - (sm - sm / 10 * 10))))) + ((hA σ j 0 0 3) * (if 0 ≤ (((mk / 10) - (mk / 10) / 10 * 10) - ((sm / 10) - (sm / 10) / 10 * 10)) then ((mk / 10) - (mk / 10) / 10 * 10) - ((sm / 10) - (sm / 10) / 10 * 10) else 0 - (((mk / 10) - (mk / 10) / 10 * 10) - ((sm / 10) - (sm / 10) / 10 * 10)))))), (6, .int 3), (4, .int (sm / 10)), (3, .int (mk / 10)), (0, .ref (hO E j)), (1, .int mk), (2, .int sm)]) C.1 C.2.1 dX5_distance_40 hl (by decide) rfl (fun ls hl => ?_)
  refine lv_iload_n C.1 C.2.1 dX5_distance_42 rfl (lv_at hl 3 rfl) ?_
  refine lv_bipush (v := 10) C.1 C.2.1 dX5_distance_43 (by decide) ?_
  refine lv_idiv C.1 C.2.1 dX5_distance_45 (by decide) ?_
  refine lv_istore_n (lv' := [(3, .int ((mk / 10) / 10)), (5, .int ((0 + ((hA σ j 0 0 4) * (if 0 ≤ ((mk - mk / 10 * 10) - (sm - sm / 10 * 10)) then (mk - mk / 10 * 10) - (sm - sm / 10 * 10) else 0 - ((mk - mk / 10 * 10) - (sm - sm / 10 * 10))))) + ((hA σ j 0 0 3) * (if 0 ≤ (((mk / 10) - (mk / 10) / 10 * 10) - ((sm / 10) - (sm / 10) / 10 * 10)) then ((mk / 10) - (mk / 10) / 10 * 10) - ((sm / 10) - (sm / 10) / 10 * 10) else 0 - (((mk / 10) - (mk / 10) / 10 * 10) - ((sm / 10) - (sm / 10) / 10 * 10)))))), (6, .int 3), (4, .int (sm / 10)), (0, .ref (hO E j)), (1, .int mk), (2, .int sm)]) C.1 C.2.1 dX5_distance_46 rfl hl (by decide) rfl (fun ls hl => ?_)
  refine lv_iload C.1 C.2.1 dX5_distance_47 (lv_at hl 3 rfl) ?_
  refine lv_bipush (v := 10) C.1 C.2.1 dX5_distance_49 (by decide) ?_
  refine lv_idiv C.1 C.2.1 dX5_distance_51 (by decide) ?_
  refine lv_istore (lv' := [(4, .int ((sm / 10) / 10)), (3, .int ((mk / 10) / 10)), (5, .int ((0 + ((hA σ j 0 0 4) * (if 0 ≤ ((mk - mk / 10 * 10) - (sm - sm / 10 * 10)) then (mk - mk / 10 * 10) - (sm - sm / 10 * 10) else 0 - ((mk - mk / 10 * 10) - (sm - sm / 10 * 10))))) + ((hA σ j 0 0 3) * (if 0 ≤ (((mk / 10) - (mk / 10) / 10 * 10) - ((sm / 10) - (sm / 10) / 10 * 10)) then ((mk / 10) - (mk / 10) / 10 * 10) - ((sm / 10) - (sm / 10) / 10 * 10) else 0 - (((mk / 10) - (mk / 10) / 10 * 10) - ((sm / 10) - (sm / 10) / 10 * 10)))))), (6, .int 3), (0, .ref (hO E j)), (1, .int mk), (2, .int sm)]) C.1 C.2.1 dX5_distance_52 hl (by decide) rfl (fun ls hl => ?_)
  refine lv_iinc (v := 2) (lv' := [(6, .int 2), (4, .int ((sm / 10) / 10)), (3, .int ((mk / 10) / 10)), (5, .int ((0 + ((hA σ j 0 0 4) * (if 0 ≤ ((mk - mk / 10 * 10) - (sm - sm / 10 * 10)) then (mk - mk / 10 * 10) - (sm - sm / 10 * 10) else 0 - ((mk - mk / 10 * 10) - (sm - sm / 10 * 10))))) + ((hA σ j 0 0 3) * (if 0 ≤ (((mk / 10) - (mk / 10) / 10 * 10) - ((sm / 10) - (sm / 10) / 10 * 10)) then ((mk / 10) - (mk / 10) / 10 * 10) - ((sm / 10) - (sm / 10) / 10 * 10) else 0 - (((mk / 10) - (mk / 10) / 10 * 10) - ((sm / 10) - (sm / 10) / 10 * 10)))))), (0, .ref (hO E j)), (1, .int mk), (2, .int sm)]) C.1 C.2.1 dX5_distance_54 hl (k := 3) rfl (by decide) (by decide) rfl (fun ls hl => ?_)
  refine lv_goto (tgt := 11) C.1 C.2.1 dX5_distance_57 (by decide) ?_
  refine lv_iload C.1 C.2.1 dX5_distance_11 (lv_at hl 0 rfl) ?_
  refine lv_if_lt (tgt := 60) C.1 C.2.1 dX5_distance_13 (by decide) (fun h9 => absurd h9 (by decide)) (fun _ => ?_)
  refine lv_iload C.1 C.2.1 dX5_distance_16 (lv_at hl 3 rfl) ?_
  refine lv_aload_n C.1 C.2.1 dX5_distance_18 rfl (lv_at hl 4 rfl) ?_
  refine g_getA C M j 0 hj (by rw [hL]; rfl) (by rw [hC]; rfl) (by decide) fl5_9 dX5_distance_19 ?_
  refine lv_iload C.1 C.2.1 dX5_distance_22 (lv_at hl 0 rfl) ?_
  refine g_iald C M j 0 hj (by rw [hL]; rfl) 2 (by decide) (by rw [vp_in_iff]; decide) (v := hA σ j 0 0 2) rfl dX5_distance_24 ?_
  refine lv_iload_n C.1 C.2.1 dX5_distance_25 rfl (lv_at hl 2 rfl) ?_
  refine lv_bipush (v := 10) C.1 C.2.1 dX5_distance_26 (by decide) ?_
  refine lv_irem C.1 C.2.1 dX5_distance_28 (by decide) ?_
  refine lv_iload C.1 C.2.1 dX5_distance_29 (lv_at hl 1 rfl) ?_
  refine lv_bipush (v := 10) C.1 C.2.1 dX5_distance_31 (by decide) ?_
  refine lv_irem C.1 C.2.1 dX5_distance_33 (by decide) ?_
  refine lv_isub C.1 C.2.1 dX5_distance_34 ?_
  refine g_mabs C hl.1 mlk5_40 (Nat.le_of_ble_eq_true rfl) (Nat.le_of_ble_eq_true rfl) (Nat.le_of_ble_eq_true rfl) (Nat.le_of_ble_eq_true rfl) dX5_distance_35 ?_
  refine lv_imul C.1 C.2.1 dX5_distance_38 ?_
  refine lv_iadd C.1 C.2.1 dX5_distance_39 ?_
  refine lv_istore (lv' := [(5, .int (((0 + ((hA σ j 0 0 4) * (if 0 ≤ ((mk - mk / 10 * 10) - (sm - sm / 10 * 10)) then (mk - mk / 10 * 10) - (sm - sm / 10 * 10) else 0 - ((mk - mk / 10 * 10) - (sm - sm / 10 * 10))))) + ((hA σ j 0 0 3) * (if 0 ≤ (((mk / 10) - (mk / 10) / 10 * 10) - ((sm / 10) - (sm / 10) / 10 * 10)) then ((mk / 10) - (mk / 10) / 10 * 10) - ((sm / 10) - (sm / 10) / 10 * 10) else 0 - (((mk / 10) - (mk / 10) / 10 * 10) - ((sm / 10) - (sm / 10) / 10 * 10))))) + ((hA σ j 0 0 2) * (if 0 ≤ ((((mk / 10) / 10) - ((mk / 10) / 10) / 10 * 10) - (((sm / 10) / 10) - ((sm / 10) / 10) / 10 * 10)) then (((mk / 10) / 10) - ((mk / 10) / 10) / 10 * 10) - (((sm / 10) / 10) - ((sm / 10) / 10) / 10 * 10) else 0 - ((((mk / 10) / 10) - ((mk / 10) / 10) / 10 * 10) - (((sm / 10) / 10) - ((sm / 10) / 10) / 10 * 10)))))), (6, .int 2), (4, .int ((sm / 10) / 10)), (3, .int ((mk / 10) / 10)), (0, .ref (hO E j)), (1, .int mk), (2, .int sm)]) C.1 C.2.1 dX5_distance_40 hl (by decide) rfl (fun ls hl => ?_)
  refine lv_iload_n C.1 C.2.1 dX5_distance_42 rfl (lv_at hl 3 rfl) ?_
  refine lv_bipush (v := 10) C.1 C.2.1 dX5_distance_43 (by decide) ?_
  refine lv_idiv C.1 C.2.1 dX5_distance_45 (by decide) ?_
  refine lv_istore_n (lv' := [(3, .int (((mk / 10) / 10) / 10)), (5, .int (((0 + ((hA σ j 0 0 4) * (if 0 ≤ ((mk - mk / 10 * 10) - (sm - sm / 10 * 10)) then (mk - mk / 10 * 10) - (sm - sm / 10 * 10) else 0 - ((mk - mk / 10 * 10) - (sm - sm / 10 * 10))))) + ((hA σ j 0 0 3) * (if 0 ≤ (((mk / 10) - (mk / 10) / 10 * 10) - ((sm / 10) - (sm / 10) / 10 * 10)) then ((mk / 10) - (mk / 10) / 10 * 10) - ((sm / 10) - (sm / 10) / 10 * 10) else 0 - (((mk / 10) - (mk / 10) / 10 * 10) - ((sm / 10) - (sm / 10) / 10 * 10))))) + ((hA σ j 0 0 2) * (if 0 ≤ ((((mk / 10) / 10) - ((mk / 10) / 10) / 10 * 10) - (((sm / 10) / 10) - ((sm / 10) / 10) / 10 * 10)) then (((mk / 10) / 10) - ((mk / 10) / 10) / 10 * 10) - (((sm / 10) / 10) - ((sm / 10) / 10) / 10 * 10) else 0 - ((((mk / 10) / 10) - ((mk / 10) / 10) / 10 * 10) - (((sm / 10) / 10) - ((sm / 10) / 10) / 10 * 10)))))), (6, .int 2), (4, .int ((sm / 10) / 10)), (0, .ref (hO E j)), (1, .int mk), (2, .int sm)]) C.1 C.2.1 dX5_distance_46 rfl hl (by decide) rfl (fun ls hl => ?_)
  refine lv_iload C.1 C.2.1 dX5_distance_47 (lv_at hl 3 rfl) ?_
  refine lv_bipush (v := 10) C.1 C.2.1 dX5_distance_49 (by decide) ?_
  refine lv_idiv C.1 C.2.1 dX5_distance_51 (by decide) ?_
  refine lv_istore (lv' := [(4, .int (((sm / 10) / 10) / 10)), (3, .int (((mk / 10) / 10) / 10)), (5, .int (((0 + ((hA σ j 0 0 4) * (if 0 ≤ ((mk - mk / 10 * 10) - (sm - sm / 10 * 10)) then (mk - mk / 10 * 10) - (sm - sm / 10 * 10) else 0 - ((mk - mk / 10 * 10) - (sm - sm / 10 * 10))))) + ((hA σ j 0 0 3) * (if 0 ≤ (((mk / 10) - (mk / 10) / 10 * 10) - ((sm / 10) - (sm / 10) / 10 * 10)) then ((mk / 10) - (mk / 10) / 10 * 10) - ((sm / 10) - (sm / 10) / 10 * 10) else 0 - (((mk / 10) - (mk / 10) / 10 * 10) - ((sm / 10) - (sm / 10) / 10 * 10))))) + ((hA σ j 0 0 2) * (if 0 ≤ ((((mk / 10) / 10) - ((mk / 10) / 10) / 10 * 10) - (((sm / 10) / 10) - ((sm / 10) / 10) / 10 * 10)) then (((mk / 10) / 10) - ((mk / 10) / 10) / 10 * 10) - (((sm / 10) / 10) - ((sm / 10) / 10) / 10 * 10) else 0 - ((((mk / 10) / 10) - ((mk / 10) / 10) / 10 * 10) - (((sm / 10) / 10) - ((sm / 10) / 10) / 10 * 10)))))), (6, .int 2), (0, .ref (hO E j)), (1, .int mk), (2, .int sm)]) C.1 C.2.1 dX5_distance_52 hl (by decide) rfl (fun ls hl => ?_)
  refine lv_iinc (v := 1) (lv' := [(6, .int 1), (4, .int (((sm / 10) / 10) / 10)), (3, .int (((mk / 10) / 10) / 10)), (5, .int (((0 + ((hA σ j 0 0 4) * (if 0 ≤ ((mk - mk / 10 * 10) - (sm - sm / 10 * 10)) then (mk - mk / 10 * 10) - (sm - sm / 10 * 10) else 0 - ((mk - mk / 10 * 10) - (sm - sm / 10 * 10))))) + ((hA σ j 0 0 3) * (if 0 ≤ (((mk / 10) - (mk / 10) / 10 * 10) - ((sm / 10) - (sm / 10) / 10 * 10)) then ((mk / 10) - (mk / 10) / 10 * 10) - ((sm / 10) - (sm / 10) / 10 * 10) else 0 - (((mk / 10) - (mk / 10) / 10 * 10) - ((sm / 10) - (sm / 10) / 10 * 10))))) + ((hA σ j 0 0 2) * (if 0 ≤ ((((mk / 10) / 10) - ((mk / 10) / 10) / 10 * 10) - (((sm / 10) / 10) - ((sm / 10) / 10) / 10 * 10)) then (((mk / 10) / 10) - ((mk / 10) / 10) / 10 * 10) - (((sm / 10) / 10) - ((sm / 10) / 10) / 10 * 10) else 0 - ((((mk / 10) / 10) - ((mk / 10) / 10) / 10 * 10) - (((sm / 10) / 10) - ((sm / 10) / 10) / 10 * 10)))))), (0, .ref (hO E j)), (1, .int mk), (2, .int sm)]) C.1 C.2.1 dX5_distance_54 hl (k := 3) rfl (by decide) (by decide) rfl (fun ls hl => ?_)
  refine lv_goto (tgt := 11) C.1 C.2.1 dX5_distance_57 (by decide) ?_
  refine lv_iload C.1 C.2.1 dX5_distance_11 (lv_at hl 0 rfl) ?_
  refine lv_if_lt (tgt := 60) C.1 C.2.1 dX5_distance_13 (by decide) (fun h9 => absurd h9 (by decide)) (fun _ => ?_)
  refine lv_iload C.1 C.2.1 dX5_distance_16 (lv_at hl 3 rfl) ?_
  refine lv_aload_n C.1 C.2.1 dX5_distance_18 rfl (lv_at hl 4 rfl) ?_
  refine g_getA C M j 0 hj (by rw [hL]; rfl) (by rw [hC]; rfl) (by decide) fl5_9 dX5_distance_19 ?_
  refine lv_iload C.1 C.2.1 dX5_distance_22 (lv_at hl 0 rfl) ?_
  refine g_iald C M j 0 hj (by rw [hL]; rfl) 1 (by decide) (by rw [vp_in_iff]; decide) (v := hA σ j 0 0 1) rfl dX5_distance_24 ?_
  refine lv_iload_n C.1 C.2.1 dX5_distance_25 rfl (lv_at hl 2 rfl) ?_
  refine lv_bipush (v := 10) C.1 C.2.1 dX5_distance_26 (by decide) ?_
  refine lv_irem C.1 C.2.1 dX5_distance_28 (by decide) ?_
  refine lv_iload C.1 C.2.1 dX5_distance_29 (lv_at hl 1 rfl) ?_
  refine lv_bipush (v := 10) C.1 C.2.1 dX5_distance_31 (by decide) ?_
  refine lv_irem C.1 C.2.1 dX5_distance_33 (by decide) ?_
  refine lv_isub C.1 C.2.1 dX5_distance_34 ?_
  refine g_mabs C hl.1 mlk5_40 (Nat.le_of_ble_eq_true rfl) (Nat.le_of_ble_eq_true rfl) (Nat.le_of_ble_eq_true rfl) (Nat.le_of_ble_eq_true rfl) dX5_distance_35 ?_
  refine lv_imul C.1 C.2.1 dX5_distance_38 ?_
  refine lv_iadd C.1 C.2.1 dX5_distance_39 ?_
  refine lv_istore (lv' := [(5, .int ((((0 + ((hA σ j 0 0 4) * (if 0 ≤ ((mk - mk / 10 * 10) - (sm - sm / 10 * 10)) then (mk - mk / 10 * 10) - (sm - sm / 10 * 10) else 0 - ((mk - mk / 10 * 10) - (sm - sm / 10 * 10))))) + ((hA σ j 0 0 3) * (if 0 ≤ (((mk / 10) - (mk / 10) / 10 * 10) - ((sm / 10) - (sm / 10) / 10 * 10)) then ((mk / 10) - (mk / 10) / 10 * 10) - ((sm / 10) - (sm / 10) / 10 * 10) else 0 - (((mk / 10) - (mk / 10) / 10 * 10) - ((sm / 10) - (sm / 10) / 10 * 10))))) + ((hA σ j 0 0 2) * (if 0 ≤ ((((mk / 10) / 10) - ((mk / 10) / 10) / 10 * 10) - (((sm / 10) / 10) - ((sm / 10) / 10) / 10 * 10)) then (((mk / 10) / 10) - ((mk / 10) / 10) / 10 * 10) - (((sm / 10) / 10) - ((sm / 10) / 10) / 10 * 10) else 0 - ((((mk / 10) / 10) - ((mk / 10) / 10) / 10 * 10) - (((sm / 10) / 10) - ((sm / 10) / 10) / 10 * 10))))) + ((hA σ j 0 0 1) * (if 0 ≤ (((((mk / 10) / 10) / 10) - (((mk / 10) / 10) / 10) / 10 * 10) - ((((sm / 10) / 10) / 10) - (((sm / 10) / 10) / 10) / 10 * 10)) then ((((mk / 10) / 10) / 10) - (((mk / 10) / 10) / 10) / 10 * 10) - ((((sm / 10) / 10) / 10) - (((sm / 10) / 10) / 10) / 10 * 10) else 0 - (((((mk / 10) / 10) / 10) - (((mk / 10) / 10) / 10) / 10 * 10) - ((((sm / 10) / 10) / 10) - (((sm / 10) / 10) / 10) / 10 * 10)))))), (6, .int 1), (4, .int (((sm / 10) / 10) / 10)), (3, .int (((mk / 10) / 10) / 10)), (0, .ref (hO E j)), (1, .int mk), (2, .int sm)]) C.1 C.2.1 dX5_distance_40 hl (by decide) rfl (fun ls hl => ?_)
  refine lv_iload_n C.1 C.2.1 dX5_distance_42 rfl (lv_at hl 3 rfl) ?_
  refine lv_bipush (v := 10) C.1 C.2.1 dX5_distance_43 (by decide) ?_
  refine lv_idiv C.1 C.2.1 dX5_distance_45 (by decide) ?_
  refine lv_istore_n (lv' := [(3, .int ((((mk / 10) / 10) / 10) / 10)), (5, .int ((((0 + ((hA σ j 0 0 4) * (if 0 ≤ ((mk - mk / 10 * 10) - (sm - sm / 10 * 10)) then (mk - mk / 10 * 10) - (sm - sm / 10 * 10) else 0 - ((mk - mk / 10 * 10) - (sm - sm / 10 * 10))))) + ((hA σ j 0 0 3) * (if 0 ≤ (((mk / 10) - (mk / 10) / 10 * 10) - ((sm / 10) - (sm / 10) / 10 * 10)) then ((mk / 10) - (mk / 10) / 10 * 10) - ((sm / 10) - (sm / 10) / 10 * 10) else 0 - (((mk / 10) - (mk / 10) / 10 * 10) - ((sm / 10) - (sm / 10) / 10 * 10))))) + ((hA σ j 0 0 2) * (if 0 ≤ ((((mk / 10) / 10) - ((mk / 10) / 10) / 10 * 10) - (((sm / 10) / 10) - ((sm / 10) / 10) / 10 * 10)) then (((mk / 10) / 10) - ((mk / 10) / 10) / 10 * 10) - (((sm / 10) / 10) - ((sm / 10) / 10) / 10 * 10) else 0 - ((((mk / 10) / 10) - ((mk / 10) / 10) / 10 * 10) - (((sm / 10) / 10) - ((sm / 10) / 10) / 10 * 10))))) + ((hA σ j 0 0 1) * (if 0 ≤ (((((mk / 10) / 10) / 10) - (((mk / 10) / 10) / 10) / 10 * 10) - ((((sm / 10) / 10) / 10) - (((sm / 10) / 10) / 10) / 10 * 10)) then ((((mk / 10) / 10) / 10) - (((mk / 10) / 10) / 10) / 10 * 10) - ((((sm / 10) / 10) / 10) - (((sm / 10) / 10) / 10) / 10 * 10) else 0 - (((((mk / 10) / 10) / 10) - (((mk / 10) / 10) / 10) / 10 * 10) - ((((sm / 10) / 10) / 10) - (((sm / 10) / 10) / 10) / 10 * 10)))))), (6, .int 1), (4, .int (((sm / 10) / 10) / 10)), (0, .ref (hO E j)), (1, .int mk), (2, .int sm)]) C.1 C.2.1 dX5_distance_46 rfl hl (by decide) rfl (fun ls hl => ?_)
  refine lv_iload C.1 C.2.1 dX5_distance_47 (lv_at hl 3 rfl) ?_
  refine lv_bipush (v := 10) C.1 C.2.1 dX5_distance_49 (by decide) ?_
  refine lv_idiv C.1 C.2.1 dX5_distance_51 (by decide) ?_
  refine lv_istore (lv' := [(4, .int ((((sm / 10) / 10) / 10) / 10)), (3, .int ((((mk / 10) / 10) / 10) / 10)), (5, .int ((((0 + ((hA σ j 0 0 4) * (if 0 ≤ ((mk - mk / 10 * 10) - (sm - sm / 10 * 10)) then (mk - mk / 10 * 10) - (sm - sm / 10 * 10) else 0 - ((mk - mk / 10 * 10) - (sm - sm / 10 * 10))))) + ((hA σ j 0 0 3) * (if 0 ≤ (((mk / 10) - (mk / 10) / 10 * 10) - ((sm / 10) - (sm / 10) / 10 * 10)) then ((mk / 10) - (mk / 10) / 10 * 10) - ((sm / 10) - (sm / 10) / 10 * 10) else 0 - (((mk / 10) - (mk / 10) / 10 * 10) - ((sm / 10) - (sm / 10) / 10 * 10))))) + ((hA σ j 0 0 2) * (if 0 ≤ ((((mk / 10) / 10) - ((mk / 10) / 10) / 10 * 10) - (((sm / 10) / 10) - ((sm / 10) / 10) / 10 * 10)) then (((mk / 10) / 10) - ((mk / 10) / 10) / 10 * 10) - (((sm / 10) / 10) - ((sm / 10) / 10) / 10 * 10) else 0 - ((((mk / 10) / 10) - ((mk / 10) / 10) / 10 * 10) - (((sm / 10) / 10) - ((sm / 10) / 10) / 10 * 10))))) + ((hA σ j 0 0 1) * (if 0 ≤ (((((mk / 10) / 10) / 10) - (((mk / 10) / 10) / 10) / 10 * 10) - ((((sm / 10) / 10) / 10) - (((sm / 10) / 10) / 10) / 10 * 10)) then ((((mk / 10) / 10) / 10) - (((mk / 10) / 10) / 10) / 10 * 10) - ((((sm / 10) / 10) / 10) - (((sm / 10) / 10) / 10) / 10 * 10) else 0 - (((((mk / 10) / 10) / 10) - (((mk / 10) / 10) / 10) / 10 * 10) - ((((sm / 10) / 10) / 10) - (((sm / 10) / 10) / 10) / 10 * 10)))))), (6, .int 1), (0, .ref (hO E j)), (1, .int mk), (2, .int sm)]) C.1 C.2.1 dX5_distance_52 hl (by decide) rfl (fun ls hl => ?_)
  refine lv_iinc (v := 0) (lv' := [(6, .int 0), (4, .int ((((sm / 10) / 10) / 10) / 10)), (3, .int ((((mk / 10) / 10) / 10) / 10)), (5, .int ((((0 + ((hA σ j 0 0 4) * (if 0 ≤ ((mk - mk / 10 * 10) - (sm - sm / 10 * 10)) then (mk - mk / 10 * 10) - (sm - sm / 10 * 10) else 0 - ((mk - mk / 10 * 10) - (sm - sm / 10 * 10))))) + ((hA σ j 0 0 3) * (if 0 ≤ (((mk / 10) - (mk / 10) / 10 * 10) - ((sm / 10) - (sm / 10) / 10 * 10)) then ((mk / 10) - (mk / 10) / 10 * 10) - ((sm / 10) - (sm / 10) / 10 * 10) else 0 - (((mk / 10) - (mk / 10) / 10 * 10) - ((sm / 10) - (sm / 10) / 10 * 10))))) + ((hA σ j 0 0 2) * (if 0 ≤ ((((mk / 10) / 10) - ((mk / 10) / 10) / 10 * 10) - (((sm / 10) / 10) - ((sm / 10) / 10) / 10 * 10)) then (((mk / 10) / 10) - ((mk / 10) / 10) / 10 * 10) - (((sm / 10) / 10) - ((sm / 10) / 10) / 10 * 10) else 0 - ((((mk / 10) / 10) - ((mk / 10) / 10) / 10 * 10) - (((sm / 10) / 10) - ((sm / 10) / 10) / 10 * 10))))) + ((hA σ j 0 0 1) * (if 0 ≤ (((((mk / 10) / 10) / 10) - (((mk / 10) / 10) / 10) / 10 * 10) - ((((sm / 10) / 10) / 10) - (((sm / 10) / 10) / 10) / 10 * 10)) then ((((mk / 10) / 10) / 10) - (((mk / 10) / 10) / 10) / 10 * 10) - ((((sm / 10) / 10) / 10) - (((sm / 10) / 10) / 10) / 10 * 10) else 0 - (((((mk / 10) / 10) / 10) - (((mk / 10) / 10) / 10) / 10 * 10) - ((((sm / 10) / 10) / 10) - (((sm / 10) / 10) / 10) / 10 * 10)))))), (0, .ref (hO E j)), (1, .int mk), (2, .int sm)]) C.1 C.2.1 dX5_distance_54 hl (k := 3) rfl (by decide) (by decide) rfl (fun ls hl => ?_)
  refine lv_goto (tgt := 11) C.1 C.2.1 dX5_distance_57 (by decide) ?_
  refine lv_iload C.1 C.2.1 dX5_distance_11 (lv_at hl 0 rfl) ?_
  refine lv_if_lt (tgt := 60) C.1 C.2.1 dX5_distance_13 (by decide) (fun h9 => absurd h9 (by decide)) (fun _ => ?_)
  refine lv_iload C.1 C.2.1 dX5_distance_16 (lv_at hl 3 rfl) ?_
  refine lv_aload_n C.1 C.2.1 dX5_distance_18 rfl (lv_at hl 4 rfl) ?_
  refine g_getA C M j 0 hj (by rw [hL]; rfl) (by rw [hC]; rfl) (by decide) fl5_9 dX5_distance_19 ?_
  refine lv_iload C.1 C.2.1 dX5_distance_22 (lv_at hl 0 rfl) ?_
  refine g_iald C M j 0 hj (by rw [hL]; rfl) 0 (by decide) (by rw [vp_in_iff]; decide) (v := hA σ j 0 0 0) rfl dX5_distance_24 ?_
  refine lv_iload_n C.1 C.2.1 dX5_distance_25 rfl (lv_at hl 2 rfl) ?_
  refine lv_bipush (v := 10) C.1 C.2.1 dX5_distance_26 (by decide) ?_
  refine lv_irem C.1 C.2.1 dX5_distance_28 (by decide) ?_
  refine lv_iload C.1 C.2.1 dX5_distance_29 (lv_at hl 1 rfl) ?_
  refine lv_bipush (v := 10) C.1 C.2.1 dX5_distance_31 (by decide) ?_
  refine lv_irem C.1 C.2.1 dX5_distance_33 (by decide) ?_
  refine lv_isub C.1 C.2.1 dX5_distance_34 ?_
  refine g_mabs C hl.1 mlk5_40 (Nat.le_of_ble_eq_true rfl) (Nat.le_of_ble_eq_true rfl) (Nat.le_of_ble_eq_true rfl) (Nat.le_of_ble_eq_true rfl) dX5_distance_35 ?_
  refine lv_imul C.1 C.2.1 dX5_distance_38 ?_
  refine lv_iadd C.1 C.2.1 dX5_distance_39 ?_
  refine lv_istore (lv' := [(5, .int (((((0 + ((hA σ j 0 0 4) * (if 0 ≤ ((mk - mk / 10 * 10) - (sm - sm / 10 * 10)) then (mk - mk / 10 * 10) - (sm - sm / 10 * 10) else 0 - ((mk - mk / 10 * 10) - (sm - sm / 10 * 10))))) + ((hA σ j 0 0 3) * (if 0 ≤ (((mk / 10) - (mk / 10) / 10 * 10) - ((sm / 10) - (sm / 10) / 10 * 10)) then ((mk / 10) - (mk / 10) / 10 * 10) - ((sm / 10) - (sm / 10) / 10 * 10) else 0 - (((mk / 10) - (mk / 10) / 10 * 10) - ((sm / 10) - (sm / 10) / 10 * 10))))) + ((hA σ j 0 0 2) * (if 0 ≤ ((((mk / 10) / 10) - ((mk / 10) / 10) / 10 * 10) - (((sm / 10) / 10) - ((sm / 10) / 10) / 10 * 10)) then (((mk / 10) / 10) - ((mk / 10) / 10) / 10 * 10) - (((sm / 10) / 10) - ((sm / 10) / 10) / 10 * 10) else 0 - ((((mk / 10) / 10) - ((mk / 10) / 10) / 10 * 10) - (((sm / 10) / 10) - ((sm / 10) / 10) / 10 * 10))))) + ((hA σ j 0 0 1) * (if 0 ≤ (((((mk / 10) / 10) / 10) - (((mk / 10) / 10) / 10) / 10 * 10) - ((((sm / 10) / 10) / 10) - (((sm / 10) / 10) / 10) / 10 * 10)) then ((((mk / 10) / 10) / 10) - (((mk / 10) / 10) / 10) / 10 * 10) - ((((sm / 10) / 10) / 10) - (((sm / 10) / 10) / 10) / 10 * 10) else 0 - (((((mk / 10) / 10) / 10) - (((mk / 10) / 10) / 10) / 10 * 10) - ((((sm / 10) / 10) / 10) - (((sm / 10) / 10) / 10) / 10 * 10))))) + ((hA σ j 0 0 0) * (if 0 ≤ ((((((mk / 10) / 10) / 10) / 10) - ((((mk / 10) / 10) / 10) / 10) / 10 * 10) - (((((sm / 10) / 10) / 10) / 10) - ((((sm / 10) / 10) / 10) / 10) / 10 * 10)) then (((((mk / 10) / 10) / 10) / 10) - ((((mk / 10) / 10) / 10) / 10) / 10 * 10) - (((((sm / 10) / 10) / 10) / 10) - ((((sm / 10) / 10) / 10) / 10) / 10 * 10) else 0 - ((((((mk / 10) / 10) / 10) / 10) - ((((mk / 10) / 10) / 10) / 10) / 10 * 10) - (((((sm / 10) / 10) / 10) / 10) - ((((sm / 10) / 10) / 10) / 10) / 10 * 10)))))), (6, .int 0), (4, .int ((((sm / 10) / 10) / 10) / 10)), (3, .int ((((mk / 10) / 10) / 10) / 10)), (0, .ref (hO E j)), (1, .int mk), (2, .int sm)]) C.1 C.2.1 dX5_distance_40 hl (by decide) rfl (fun ls hl => ?_)
  refine lv_iload_n C.1 C.2.1 dX5_distance_42 rfl (lv_at hl 3 rfl) ?_
  refine lv_bipush (v := 10) C.1 C.2.1 dX5_distance_43 (by decide) ?_
  refine lv_idiv C.1 C.2.1 dX5_distance_45 (by decide) ?_
  refine lv_istore_n (lv' := [(3, .int (((((mk / 10) / 10) / 10) / 10) / 10)), (5, .int (((((0 + ((hA σ j 0 0 4) * (if 0 ≤ ((mk - mk / 10 * 10) - (sm - sm / 10 * 10)) then (mk - mk / 10 * 10) - (sm - sm / 10 * 10) else 0 - ((mk - mk / 10 * 10) - (sm - sm / 10 * 10))))) + ((hA σ j 0 0 3) * (if 0 ≤ (((mk / 10) - (mk / 10) / 10 * 10) - ((sm / 10) - (sm / 10) / 10 * 10)) then ((mk / 10) - (mk / 10) / 10 * 10) - ((sm / 10) - (sm / 10) / 10 * 10) else 0 - (((mk / 10) - (mk / 10) / 10 * 10) - ((sm / 10) - (sm / 10) / 10 * 10))))) + ((hA σ j 0 0 2) * (if 0 ≤ ((((mk / 10) / 10) - ((mk / 10) / 10) / 10 * 10) - (((sm / 10) / 10) - ((sm / 10) / 10) / 10 * 10)) then (((mk / 10) / 10) - ((mk / 10) / 10) / 10 * 10) - (((sm / 10) / 10) - ((sm / 10) / 10) / 10 * 10) else 0 - ((((mk / 10) / 10) - ((mk / 10) / 10) / 10 * 10) - (((sm / 10) / 10) - ((sm / 10) / 10) / 10 * 10))))) + ((hA σ j 0 0 1) * (if 0 ≤ (((((mk / 10) / 10) / 10) - (((mk / 10) / 10) / 10) / 10 * 10) - ((((sm / 10) / 10) / 10) - (((sm / 10) / 10) / 10) / 10 * 10)) then ((((mk / 10) / 10) / 10) - (((mk / 10) / 10) / 10) / 10 * 10) - ((((sm / 10) / 10) / 10) - (((sm / 10) / 10) / 10) / 10 * 10) else 0 - (((((mk / 10) / 10) / 10) - (((mk / 10) / 10) / 10) / 10 * 10) - ((((sm / 10) / 10) / 10) - (((sm / 10) / 10) / 10) / 10 * 10))))) + ((hA σ j 0 0 0) * (if 0 ≤ ((((((mk / 10) / 10) / 10) / 10) - ((((mk / 10) / 10) / 10) / 10) / 10 * 10) - (((((sm / 10) / 10) / 10) / 10) - ((((sm / 10) / 10) / 10) / 10) / 10 * 10)) then (((((mk / 10) / 10) / 10) / 10) - ((((mk / 10) / 10) / 10) / 10) / 10 * 10) - (((((sm / 10) / 10) / 10) / 10) - ((((sm / 10) / 10) / 10) / 10) / 10 * 10) else 0 - ((((((mk / 10) / 10) / 10) / 10) - ((((mk / 10) / 10) / 10) / 10) / 10 * 10) - (((((sm / 10) / 10) / 10) / 10) - ((((sm / 10) / 10) / 10) / 10) / 10 * 10)))))), (6, .int 0), (4, .int ((((sm / 10) / 10) / 10) / 10)), (0, .ref (hO E j)), (1, .int mk), (2, .int sm)]) C.1 C.2.1 dX5_distance_46 rfl hl (by decide) rfl (fun ls hl => ?_)
  refine lv_iload C.1 C.2.1 dX5_distance_47 (lv_at hl 3 rfl) ?_
  refine lv_bipush (v := 10) C.1 C.2.1 dX5_distance_49 (by decide) ?_
  refine lv_idiv C.1 C.2.1 dX5_distance_51 (by decide) ?_
  refine lv_istore (lv' := [(4, .int (((((sm / 10) / 10) / 10) / 10) / 10)), (3, .int (((((mk / 10) / 10) / 10) / 10) / 10)), (5, .int (((((0 + ((hA σ j 0 0 4) * (if 0 ≤ ((mk - mk / 10 * 10) - (sm - sm / 10 * 10)) then (mk - mk / 10 * 10) - (sm - sm / 10 * 10) else 0 - ((mk - mk / 10 * 10) - (sm - sm / 10 * 10))))) + ((hA σ j 0 0 3) * (if 0 ≤ (((mk / 10) - (mk / 10) / 10 * 10) - ((sm / 10) - (sm / 10) / 10 * 10)) then ((mk / 10) - (mk / 10) / 10 * 10) - ((sm / 10) - (sm / 10) / 10 * 10) else 0 - (((mk / 10) - (mk / 10) / 10 * 10) - ((sm / 10) - (sm / 10) / 10 * 10))))) + ((hA σ j 0 0 2) * (if 0 ≤ ((((mk / 10) / 10) - ((mk / 10) / 10) / 10 * 10) - (((sm / 10) / 10) - ((sm / 10) / 10) / 10 * 10)) then (((mk / 10) / 10) - ((mk / 10) / 10) / 10 * 10) - (((sm / 10) / 10) - ((sm / 10) / 10) / 10 * 10) else 0 - ((((mk / 10) / 10) - ((mk / 10) / 10) / 10 * 10) - (((sm / 10) / 10) - ((sm / 10) / 10) / 10 * 10))))) + ((hA σ j 0 0 1) * (if 0 ≤ (((((mk / 10) / 10) / 10) - (((mk / 10) / 10) / 10) / 10 * 10) - ((((sm / 10) / 10) / 10) - (((sm / 10) / 10) / 10) / 10 * 10)) then ((((mk / 10) / 10) / 10) - (((mk / 10) / 10) / 10) / 10 * 10) - ((((sm / 10) / 10) / 10) - (((sm / 10) / 10) / 10) / 10 * 10) else 0 - (((((mk / 10) / 10) / 10) - (((mk / 10) / 10) / 10) / 10 * 10) - ((((sm / 10) / 10) / 10) - (((sm / 10) / 10) / 10) / 10 * 10))))) + ((hA σ j 0 0 0) * (if 0 ≤ ((((((mk / 10) / 10) / 10) / 10) - ((((mk / 10) / 10) / 10) / 10) / 10 * 10) - (((((sm / 10) / 10) / 10) / 10) - ((((sm / 10) / 10) / 10) / 10) / 10 * 10)) then (((((mk / 10) / 10) / 10) / 10) - ((((mk / 10) / 10) / 10) / 10) / 10 * 10) - (((((sm / 10) / 10) / 10) / 10) - ((((sm / 10) / 10) / 10) / 10) / 10 * 10) else 0 - ((((((mk / 10) / 10) / 10) / 10) - ((((mk / 10) / 10) / 10) / 10) / 10 * 10) - (((((sm / 10) / 10) / 10) / 10) - ((((sm / 10) / 10) / 10) / 10) / 10 * 10)))))), (6, .int 0), (0, .ref (hO E j)), (1, .int mk), (2, .int sm)]) C.1 C.2.1 dX5_distance_52 hl (by decide) rfl (fun ls hl => ?_)
  refine lv_iinc (v := (-1)) (lv' := [(6, .int (-1)), (4, .int (((((sm / 10) / 10) / 10) / 10) / 10)), (3, .int (((((mk / 10) / 10) / 10) / 10) / 10)), (5, .int (((((0 + ((hA σ j 0 0 4) * (if 0 ≤ ((mk - mk / 10 * 10) - (sm - sm / 10 * 10)) then (mk - mk / 10 * 10) - (sm - sm / 10 * 10) else 0 - ((mk - mk / 10 * 10) - (sm - sm / 10 * 10))))) + ((hA σ j 0 0 3) * (if 0 ≤ (((mk / 10) - (mk / 10) / 10 * 10) - ((sm / 10) - (sm / 10) / 10 * 10)) then ((mk / 10) - (mk / 10) / 10 * 10) - ((sm / 10) - (sm / 10) / 10 * 10) else 0 - (((mk / 10) - (mk / 10) / 10 * 10) - ((sm / 10) - (sm / 10) / 10 * 10))))) + ((hA σ j 0 0 2) * (if 0 ≤ ((((mk / 10) / 10) - ((mk / 10) / 10) / 10 * 10) - (((sm / 10) / 10) - ((sm / 10) / 10) / 10 * 10)) then (((mk / 10) / 10) - ((mk / 10) / 10) / 10 * 10) - (((sm / 10) / 10) - ((sm / 10) / 10) / 10 * 10) else 0 - ((((mk / 10) / 10) - ((mk / 10) / 10) / 10 * 10) - (((sm / 10) / 10) - ((sm / 10) / 10) / 10 * 10))))) + ((hA σ j 0 0 1) * (if 0 ≤ (((((mk / 10) / 10) / 10) - (((mk / 10) / 10) / 10) / 10 * 10) - ((((sm / 10) / 10) / 10) - (((sm / 10) / 10) / 10) / 10 * 10)) then ((((mk / 10) / 10) / 10) - (((mk / 10) / 10) / 10) / 10 * 10) - ((((sm / 10) / 10) / 10) - (((sm / 10) / 10) / 10) / 10 * 10) else 0 - (((((mk / 10) / 10) / 10) - (((mk / 10) / 10) / 10) / 10 * 10) - ((((sm / 10) / 10) / 10) - (((sm / 10) / 10) / 10) / 10 * 10))))) + ((hA σ j 0 0 0) * (if 0 ≤ ((((((mk / 10) / 10) / 10) / 10) - ((((mk / 10) / 10) / 10) / 10) / 10 * 10) - (((((sm / 10) / 10) / 10) / 10) - ((((sm / 10) / 10) / 10) / 10) / 10 * 10)) then (((((mk / 10) / 10) / 10) / 10) - ((((mk / 10) / 10) / 10) / 10) / 10 * 10) - (((((sm / 10) / 10) / 10) / 10) - ((((sm / 10) / 10) / 10) / 10) / 10 * 10) else 0 - ((((((mk / 10) / 10) / 10) / 10) - ((((mk / 10) / 10) / 10) / 10) / 10 * 10) - (((((sm / 10) / 10) / 10) / 10) - ((((sm / 10) / 10) / 10) / 10) / 10 * 10)))))), (0, .ref (hO E j)), (1, .int mk), (2, .int sm)]) C.1 C.2.1 dX5_distance_54 hl (k := 3) rfl (by decide) (by decide) rfl (fun ls hl => ?_)
  refine lv_goto (tgt := 11) C.1 C.2.1 dX5_distance_57 (by decide) ?_
  refine lv_iload C.1 C.2.1 dX5_distance_11 (lv_at hl 0 rfl) ?_
  refine lv_if_lt (tgt := 60) C.1 C.2.1 dX5_distance_13 (by decide) (fun _ => ?_) (fun h9 => absurd h9 (by decide))
  refine lv_iload C.1 C.2.1 dX5_distance_60 (lv_at hl 3 rfl) ?_
  refine g_iret C M hr hlk ?_ (Nat.le_of_ble_eq_true rfl) (Nat.le_of_ble_eq_true rfl) dX5_distance_62
  exact ⟨rfl, rfl⟩

set_option maxHeartbeats 4000000 in
set_option maxRecDepth 100000 in
theorem x_lmean (l : Launch) (E : hEnv) (σ : hMem) (Z : va_W) (n : Nat) (hn40 : n ≤ 40) : hMet l yX5_mean cX5_mean 4 (some .int) (0, 0, 0, 0) E σ Z [.ref (hR E 12 1 0), .int (nI n)] (hQi E (fun r u => r = (if nI n ≤ 0 then 0 else sumI (hA σ 12 1 0) n / nI n) ∧ u = (σ, Z))) := by
  refine hMet.of (by decide) (Nat.le_of_ble_eq_true rfl) (fun p e s m below meth c A ls C M hr hlk hl => ?_)
  have hl : lv_has ls 4 [(0, .ref (hR E 12 1 0)), (1, .int (nI n))] := hl
  refine lv_iconst (v := 0) C.1 C.2.1 dX5_mean_0 (by decide) ?_
  refine lv_istore_n (lv' := [(2, .int 0), (0, .ref (hR E 12 1 0)), (1, .int (nI n))]) C.1 C.2.1 dX5_mean_1 rfl hl (by decide) rfl (fun ls hl => ?_)
  refine lv_iconst (v := 0) C.1 C.2.1 dX5_mean_2 (by decide) ?_
  refine lv_istore_n (lv' := [(3, .int 0), (2, .int 0), (0, .ref (hR E 12 1 0)), (1, .int (nI n))]) C.1 C.2.1 dX5_mean_3 rfl hl (by decide) rfl (fun ls hl => ?_)
  have L4 : ∀ (n9 : Nat) (k : Nat), (k ≤ n) → n - k < n9 → ∀ (H : Heap) (locs : List Loc) (ls : Array Slot), hM E A s H locs σ Z → lv_has ls 4 [(3, .int (nI k)), (2, .int (sumI (hA σ 12 1 0) k)), (0, .ref (hR E 12 1 0)), (1, .int (nI n))] → W p l e (hRm (0, 0, 0, 0)) s m [.ref (hR E 12 1 0), .int (nI n)].toArray below meth c H locs 0 0 (MQ below (hQi E (fun r u => r = (if nI n ≤ 0 then 0 else sumI (hA σ 12 1 0) n / nI n) ∧ u = (σ, Z)) A) [.ref (hR E 12 1 0), .int (nI n)].toArray s 0 0 A) (F0 m 4 ls []) := by
    intro n9
    induction n9 with
    | zero =>
      intro k hk hn9
      exact absurd hn9 (Nat.not_lt_zero _)
    | succ n9 ih4 =>
      intro k hk hn4 H locs ls M hl
      refine lv_iload_n C.1 C.2.1 dX5_mean_4 rfl (lv_at hl 0 rfl) ?_
      refine lv_iload_n C.1 C.2.1 dX5_mean_5 rfl (lv_at hl 3 rfl) ?_
      refine lv_icmp_ge (tgt := 21) C.1 C.2.1 dX5_mean_6 (by decide) (fun c_6 => ?_) (fun c_6 => ?_)
      · skip
        have hkn : k = n := by have := ct_ge (n := n) (k := k) c_6; omega
        have hl : lv_has ls 4 [(3, .int (nI n)), (2, .int (sumI (hA σ 12 1 0) n)), (0, .ref (hR E 12 1 0)), (1, .int (nI n))] := by first | exact hl | (rw [hkn] at hl; exact hl)
        have M : hM E A s H locs σ Z := by first | exact M | (rw [hkn] at M; exact M)
        refine lv_iload_n C.1 C.2.1 dX5_mean_21 rfl (lv_at hl 3 rfl) ?_
        refine lv_if_le (tgt := 31) C.1 C.2.1 dX5_mean_22 (by decide) (fun c_22 => ?_) (fun c_22 => ?_)
        · skip
          refine lv_iconst (v := 0) C.1 C.2.1 dX5_mean_31 (by decide) ?_
          refine g_iret C M hr hlk ?_ (Nat.le_of_ble_eq_true rfl) (Nat.le_of_ble_eq_true rfl) dX5_mean_32
          simp only [bz, c_6, c_22, not_false_eq_true, not_true_eq_false, and_self, and_true, true_and, and_false, false_and, or_true, true_or, or_false, false_or, Bool.false_eq_true, if_true, if_false, ↓reduceIte]
        · skip
          refine lv_iload_n C.1 C.2.1 dX5_mean_25 rfl (lv_at hl 1 rfl) ?_
          refine lv_iload_n C.1 C.2.1 dX5_mean_26 rfl (lv_at hl 3 rfl) ?_
          refine lv_idiv C.1 C.2.1 dX5_mean_27 (fun h => c_22 (by rw [h]; decide)) ?_
          refine lv_goto (tgt := 32) C.1 C.2.1 dX5_mean_28 (by decide) ?_
          refine g_iret C M hr hlk ?_ (Nat.le_of_ble_eq_true rfl) (Nat.le_of_ble_eq_true rfl) dX5_mean_32
          simp only [bz, c_6, c_22, not_false_eq_true, not_true_eq_false, and_self, and_true, true_and, and_false, false_and, or_true, true_or, or_false, false_or, Bool.false_eq_true, if_true, if_false, ↓reduceIte]
      · skip
        have hk1 : k < n := ct_nge (n := n) (k := k) c_6
        refine lv_iload_n C.1 C.2.1 dX5_mean_9 rfl (lv_at hl 1 rfl) ?_
        refine lv_aload_n C.1 C.2.1 dX5_mean_10 rfl (lv_at hl 2 rfl) ?_
        refine lv_iload_n C.1 C.2.1 dX5_mean_11 rfl (lv_at hl 0 rfl) ?_
        refine g_iald C M 12 1 (by decide) rfl k (nI_clamp (by omega)) (vp_in_nI (by omega) (by decide)) (v := hA σ 12 1 0 k) rfl dX5_mean_12 ?_
        refine lv_iadd C.1 C.2.1 dX5_mean_13 ?_
        refine lv_istore_n (lv' := [(2, .int ((sumI (hA σ 12 1 0) k) + (hA σ 12 1 0 k))), (3, .int (nI k)), (0, .ref (hR E 12 1 0)), (1, .int (nI n))]) C.1 C.2.1 dX5_mean_14 rfl hl (by decide) rfl (fun ls hl => ?_)
        refine lv_iinc (v := nI (k + 1)) (lv' := [(3, .int (nI (k + 1))), (2, .int ((sumI (hA σ 12 1 0) k) + (hA σ 12 1 0 k))), (0, .ref (hR E 12 1 0)), (1, .int (nI n))]) C.1 C.2.1 dX5_mean_15 hl (k := 1) rfl (nI_succ _).symm (by decide) rfl (fun ls hl => ?_)
        refine lv_goto (tgt := 4) C.1 C.2.1 dX5_mean_18 (by decide) ?_
        have q1 : (sumI (hA σ 12 1 0) k) + (hA σ 12 1 0 k) = sumI (hA σ 12 1 0) (k + 1) := by rfl
        have hl : lv_has ls 4 [(3, .int (nI (k + 1))), (2, .int (sumI (hA σ 12 1 0) (k + 1))), (0, .ref (hR E 12 1 0)), (1, .int (nI n))] := by
          rw [← q1]
          exact lv_sub hl [0, 1, 2, 3] rfl
        exact ih4 (k + 1) hk1 (by omega) _ _ _ M hl
  have q2 : 0 = nI 0 := by rfl
  have q3 : 0 = sumI (hA σ 12 1 0) 0 := by rfl
  have hl : lv_has ls 4 [(3, .int (nI 0)), (2, .int (sumI (hA σ 12 1 0) 0)), (0, .ref (hR E 12 1 0)), (1, .int (nI n))] := by
    rw [← q2, ← q3]
    exact lv_sub hl [0, 1, 2, 3] rfl
  exact L4 ((n - 0) + 1) 0 (Nat.zero_le _) (Nat.lt_succ_self _) _ _ _ M hl

def cGiv (σ : hMem) (j n : Nat) : Int32 := if hI σ j 2 = 0 then hA σ 12 1 0 0 else if hI σ j 2 = 1 then hA σ 12 1 0 ((n - 1) / 2) else if hI σ j 2 = 2 then hA σ 12 1 0 (n - 1) else if nI n ≤ 0 then 0 else sumI (hA σ 12 1 0) n / nI n
theorem nI_m1 {n : Nat} (h : 0 < n) : nI n - 1 = nI (n - 1) := by
  obtain ⟨q, rfl⟩ : ∃ q, n = q + 1 := ⟨n - 1, by omega⟩
  exact nI_pred q

set_option maxHeartbeats 4000000 in
set_option maxRecDepth 100000 in
theorem x_lgiv (l : Launch) (E : hEnv) (σ : hMem) (Z : va_W) (j : Nat) (hj : j < 44) (hL : hLay j = layLaw) (hC : hCi j = 5) (n : Nat) (hn0 : 0 < n) (hn40 : n ≤ 40) : hMet l yX5_givenOf cX5_givenOf 3 (some .int) (1, 0, 0, 23) E σ Z [.ref (hO E j), .ref (hR E 12 1 0), .int (nI n)] (hQi E (fun r u => r = cGiv σ j n ∧ u = (σ, Z))) := by
  refine hMet.of (by decide) (Nat.le_of_ble_eq_true rfl) (fun p e s m below meth c A ls C M hr hlk hl => ?_)
  have hl : lv_has ls 3 [(0, .ref (hO E j)), (1, .ref (hR E 12 1 0)), (2, .int (nI n))] := hl
  refine lv_aload_n C.1 C.2.1 dX5_givenOf_0 rfl (lv_at hl 0 rfl) ?_
  refine g_getI C M j 2 hj (by rw [hL]; rfl) (by rw [hC]; rfl) (by decide) fl5_25 (v := hI σ j 2) rfl dX5_givenOf_1 ?_
  by_cases c_4_0 : (hI σ j 2) = 0
  · refine lv_tableIn (off := 28) (tgt := 32) C.1 C.2.1 dX5_givenOf_4 (by rw [c_4_0]; decide) (by rw [c_4_0]; decide) (by rw [c_4_0]; rfl) (by decide) ?_
    refine lv_aload_n C.1 C.2.1 dX5_givenOf_32 rfl (lv_at hl 1 rfl) ?_
    refine lv_iconst (v := 0) C.1 C.2.1 dX5_givenOf_33 (by decide) ?_
    refine g_iald C M 12 1 (by decide) rfl 0 (by decide) (by rw [vp_in_iff]; decide) (v := hA σ 12 1 0 0) rfl dX5_givenOf_34 ?_
    refine g_iret C M hr hlk ?_ (Nat.le_of_ble_eq_true rfl) (Nat.le_of_ble_eq_true rfl) dX5_givenOf_35
    simp [cGiv, c_4_0]
  by_cases c_4_1 : (hI σ j 2) = 1
  · refine lv_tableIn (off := 32) (tgt := 36) C.1 C.2.1 dX5_givenOf_4 (by rw [c_4_1]; decide) (by rw [c_4_1]; decide) (by rw [c_4_1]; rfl) (by decide) ?_
    refine lv_aload_n C.1 C.2.1 dX5_givenOf_36 rfl (lv_at hl 1 rfl) ?_
    refine lv_iload_n C.1 C.2.1 dX5_givenOf_37 rfl (lv_at hl 2 rfl) ?_
    refine lv_iconst (v := 1) C.1 C.2.1 dX5_givenOf_38 (by decide) ?_
    refine lv_isub C.1 C.2.1 dX5_givenOf_39 ?_
    refine g_rei (v := nI (n - 1)) (nI_m1 hn0) ?_
    refine lv_iconst (v := 2) C.1 C.2.1 dX5_givenOf_40 (by decide) ?_
    refine lv_idiv C.1 C.2.1 dX5_givenOf_41 (by decide) ?_
    refine g_rei (v := nI ((n - 1) / 2)) (pk_div (d := 2) (by omega) (by decide) (by decide)) ?_
    refine g_iald C M 12 1 (by decide) rfl ((n - 1) / 2) (nI_clamp (by omega)) (vp_in_nI (by omega) (by decide)) (v := hA σ 12 1 0 ((n - 1) / 2)) rfl dX5_givenOf_42 ?_
    refine g_iret C M hr hlk ?_ (Nat.le_of_ble_eq_true rfl) (Nat.le_of_ble_eq_true rfl) dX5_givenOf_43
    simp [cGiv, c_4_0, c_4_1]
  by_cases c_4_2 : (hI σ j 2) = 2
  · refine lv_tableIn (off := 40) (tgt := 44) C.1 C.2.1 dX5_givenOf_4 (by rw [c_4_2]; decide) (by rw [c_4_2]; decide) (by rw [c_4_2]; rfl) (by decide) ?_
    refine lv_aload_n C.1 C.2.1 dX5_givenOf_44 rfl (lv_at hl 1 rfl) ?_
    refine lv_iload_n C.1 C.2.1 dX5_givenOf_45 rfl (lv_at hl 2 rfl) ?_
    refine lv_iconst (v := 1) C.1 C.2.1 dX5_givenOf_46 (by decide) ?_
    refine lv_isub C.1 C.2.1 dX5_givenOf_47 ?_
    refine g_rei (v := nI (n - 1)) (nI_m1 hn0) ?_
    refine g_iald C M 12 1 (by decide) rfl (n - 1) (nI_clamp (by omega)) (vp_in_nI (by omega) (by decide)) (v := hA σ 12 1 0 (n - 1)) rfl dX5_givenOf_48 ?_
    refine g_iret C M hr hlk ?_ (Nat.le_of_ble_eq_true rfl) (Nat.le_of_ble_eq_true rfl) dX5_givenOf_49
    simp [cGiv, c_4_0, c_4_1, c_4_2]
  refine lv_tableOut (tgt := 50) C.1 C.2.1 dX5_givenOf_4 (tb_out (hI σ j 2) (by decide) (by decide) (fun k hk => by rcases (show k = 0 ∨ k = 1 ∨ k = 2 by omega) with rfl | rfl | rfl <;> assumption)) (by decide) ?_
  refine lv_aload_n C.1 C.2.1 dX5_givenOf_50 rfl (lv_at hl 1 rfl) ?_
  refine lv_iload_n C.1 C.2.1 dX5_givenOf_51 rfl (lv_at hl 2 rfl) ?_
  refine g_calli M (g_runS (As := [.ref (hR E 12 1 0), .int (nI n)]) (rest := []) C M (x_lmean l E σ Z n hn40) clX5_mean stX5_mean lk5_54 rfl ⟨Nat.le_of_ble_eq_true rfl, Nat.le_of_ble_eq_true rfl⟩ hl.1 rfl (Nat.le_of_ble_eq_true rfl) dX5_givenOf_52 ⟨Nat.le_of_ble_eq_true rfl, Nat.le_of_ble_eq_true rfl⟩) (fun r1 u H locs hR M => ?_)
  refine W.widen (k := 0) (n := 0) (Nat.le_of_ble_eq_true rfl) (Nat.le_of_ble_eq_true rfl) ?_
  obtain ⟨rfl, rfl⟩ := hR
  have M : hM E A s H locs σ Z := M
  refine g_iret C M hr hlk ?_ (Nat.le_of_ble_eq_true rfl) (Nat.le_of_ble_eq_true rfl) dX5_givenOf_55
  simp [cGiv, c_4_0, c_4_1, c_4_2]

def cRat (σ : hMem) (j n : Nat) (lives : Int32) : Int32 := if (if 0 < nI n then cGiv σ j n else hI σ j 3) + hI σ j 4 * lives < 1000 then (if 0 < nI n then cGiv σ j n else hI σ j 3) + hI σ j 4 * lives else 1000

set_option maxHeartbeats 4000000 in
set_option maxRecDepth 100000 in
theorem x_lrate (l : Launch) (E : hEnv) (σ : hMem) (Z : va_W) (j : Nat) (hj : j < 44) (hL : hLay j = layLaw) (hC : hCi j = 5) (n : Nat) (hn40 : n ≤ 40) (lives : Int32) : hMet l yX5_rateOf cX5_rateOf 5 (some .int) (2, 0, 0, 45) E σ Z [.ref (hO E j), .ref (hR E 12 1 0), .int (nI n), .int lives] (hQi E (fun r u => r = cRat σ j n lives ∧ u = (σ, Z))) := by
  refine hMet.of (by decide) (Nat.le_of_ble_eq_true rfl) (fun p e s m below meth c A ls C M hr hlk hl => ?_)
  have hl : lv_has ls 5 [(0, .ref (hO E j)), (1, .ref (hR E 12 1 0)), (2, .int (nI n)), (3, .int lives)] := hl
  refine lv_iload_n C.1 C.2.1 dX5_rateOf_0 rfl (lv_at hl 2 rfl) ?_
  have J2 : ∀ (v1 : Int32) (ev1 : v1 = (if 0 < (nI n) then cGiv σ j n else hI σ j 3)) (H : Heap) (locs : List Loc) (ls : Array Slot), hM E A s H locs σ Z → lv_has ls 5 [(0, .ref (hO E j)), (1, .ref (hR E 12 1 0)), (2, .int (nI n)), (3, .int lives)] → W p l e (hRm (2, 0, 0, 45)) s m [.ref (hO E j), .ref (hR E 12 1 0), .int (nI n), .int lives].toArray below meth c H locs 0 0 (MQ below (hQi E (fun r u => r = cRat σ j n lives ∧ u = (σ, Z)) A) [.ref (hO E j), .ref (hR E 12 1 0), .int (nI n), .int lives].toArray s 0 0 A) (F0 m 17 ls [.int v1]) := by
    intro v1 ev1 H locs ls M hl
    subst ev1
    refine lv_istore (lv' := [(4, .int (if 0 < (nI n) then cGiv σ j n else hI σ j 3)), (0, .ref (hO E j)), (1, .ref (hR E 12 1 0)), (2, .int (nI n)), (3, .int lives)]) C.1 C.2.1 dX5_rateOf_17 hl (by decide) rfl (fun ls hl => ?_)
    refine lv_sipush (v := 1000) C.1 C.2.1 dX5_rateOf_19 (by decide) ?_
    refine lv_iload C.1 C.2.1 dX5_rateOf_22 (lv_at hl 0 rfl) ?_
    refine lv_aload_n C.1 C.2.1 dX5_rateOf_24 rfl (lv_at hl 1 rfl) ?_
    refine g_getI C M j 4 hj (by rw [hL]; rfl) (by rw [hC]; rfl) (by decide) fl5_31 (v := hI σ j 4) rfl dX5_rateOf_25 ?_
    refine lv_iload_n C.1 C.2.1 dX5_rateOf_28 rfl (lv_at hl 4 rfl) ?_
    refine lv_imul C.1 C.2.1 dX5_rateOf_29 ?_
    refine lv_iadd C.1 C.2.1 dX5_rateOf_30 ?_
    refine g_mmin C hl.1 mlk5_50 (Nat.le_of_ble_eq_true rfl) (Nat.le_of_ble_eq_true rfl) (Nat.le_of_ble_eq_true rfl) (Nat.le_of_ble_eq_true rfl) dX5_rateOf_31 ?_
    refine g_iret C M hr hlk ?_ (Nat.le_of_ble_eq_true rfl) (Nat.le_of_ble_eq_true rfl) dX5_rateOf_34
    exact ⟨rfl, rfl⟩
  refine lv_if_gt (tgt := 11) C.1 C.2.1 dX5_rateOf_1 (by decide) (fun c_1 => ?_) (fun c_1 => ?_)
  · skip
    have hn0 : 0 < n := (nI_ltI (a := 0) (by decide) (by omega)).mp c_1
    refine lv_aload_n C.1 C.2.1 dX5_rateOf_11 rfl (lv_at hl 0 rfl) ?_
    refine lv_aload_n C.1 C.2.1 dX5_rateOf_12 rfl (lv_at hl 1 rfl) ?_
    refine lv_iload_n C.1 C.2.1 dX5_rateOf_13 rfl (lv_at hl 2 rfl) ?_
    refine g_calli M (g_runV (As := [.ref (hR E 12 1 0), .int (nI n)]) (rest := []) C M j (x_lgiv l E σ Z j hj hL hC n hn0 hn40) clX5_givenOf ivX5_givenOf lk5_46 hj (by rw [hC]; rfl) rfl ⟨Nat.le_of_ble_eq_true rfl, Nat.le_of_ble_eq_true rfl⟩ hl.1 rfl (Nat.le_of_ble_eq_true rfl) dX5_rateOf_14 ⟨Nat.le_of_ble_eq_true rfl, Nat.le_of_ble_eq_true rfl⟩) (fun r3 u H locs hR M => ?_)
    refine W.widen (k := 0) (n := 0) (Nat.le_of_ble_eq_true rfl) (Nat.le_of_ble_eq_true rfl) ?_
    obtain ⟨rfl, rfl⟩ := hR
    have M : hM E A s H locs σ Z := M
    exact J2 _ (by first | (simp only [c_1, not_false_eq_true, not_true_eq_false, and_self, and_true, true_and, and_false, false_and, or_true, true_or, or_false, false_or, Bool.false_eq_true, if_true, if_false, ↓reduceIte]; done) | simp [c_1]) _ _ _ M (lv_sub hl [0, 1, 2, 3] rfl)
  · skip
    refine lv_aload_n C.1 C.2.1 dX5_rateOf_4 rfl (lv_at hl 0 rfl) ?_
    refine g_getI C M j 3 hj (by rw [hL]; rfl) (by rw [hC]; rfl) (by decide) fl5_28 (v := hI σ j 3) rfl dX5_rateOf_5 ?_
    refine lv_goto (tgt := 17) C.1 C.2.1 dX5_rateOf_8 (by decide) ?_
    exact J2 _ (by first | (simp only [c_1, not_false_eq_true, not_true_eq_false, and_self, and_true, true_and, and_false, false_and, or_true, true_or, or_false, false_or, Bool.false_eq_true, if_true, if_false, ↓reduceIte]; done) | simp [c_1]) _ _ _ M (lv_sub hl [0, 1, 2, 3] rfl)

/-- v is put into f among the first i, from behind -/
def ins (f : Nat → Int32) (v : Int32) : Nat → Nat → Int32
  | 0 => upd f 0 v
  | i + 1 => if f i ≤ v then upd f (i + 1) v else ins (upd f (i + 1) (f i)) v i
def srt (f : Nat → Int32) (v : Nat → Int32) : Nat → Nat → Int32
  | 0 => f
  | k + 1 => ins (srt f v k) (v k) k

set_option maxHeartbeats 4000000 in
set_option maxRecDepth 100000 in
theorem x_cssort (l : Launch) (E : hEnv) (σ : hMem) (Z : va_W) (n : Nat) (hn40 : n ≤ 40) (hlik : ∀ i, i < n → vp_in (hA σ 12 0 0 i) 40) : hMet l yX1_sortAwards cX1_sortAwards 7 none (0, 0, 0, 0) E σ Z [.ref (hO E 6), .ref (hR E 12 0 0), .int (nI n), .ref (hR E 12 1 0)] (hQv E (fun u => u = (sA σ 12 1 0 (srt (hA σ 12 1 0) (fun i => hA σ 6 1 0 (hA σ 12 0 0 i).toNatClampNeg) n), Z))) := by
  refine hMet.of (by decide) (Nat.le_of_ble_eq_true rfl) (fun p e s m below meth c A ls C M hr hlk hl => ?_)
  have hl : lv_has ls 7 [(0, .ref (hO E 6)), (1, .ref (hR E 12 0 0)), (2, .int (nI n)), (3, .ref (hR E 12 1 0))] := hl
  refine lv_iconst (v := 0) C.1 C.2.1 dX1_sortAwards_0 (by decide) ?_
  refine lv_istore (lv' := [(4, .int 0), (0, .ref (hO E 6)), (1, .ref (hR E 12 0 0)), (2, .int (nI n)), (3, .ref (hR E 12 1 0))]) C.1 C.2.1 dX1_sortAwards_1 hl (by decide) rfl (fun ls hl => ?_)
  have L3 : ∀ (n9 : Nat) (k : Nat), (k ≤ n) → n - k < n9 → ∀ (H : Heap) (locs : List Loc) (ls : Array Slot), hM E A s H locs (sA σ 12 1 0 (srt (hA σ 12 1 0) (fun i => hA σ 6 1 0 (hA σ 12 0 0 i).toNatClampNeg) k)) Z → lv_has ls 7 [(4, .int (nI k)), (0, .ref (hO E 6)), (1, .ref (hR E 12 0 0)), (2, .int (nI n)), (3, .ref (hR E 12 1 0))] → W p l e (hRm (0, 0, 0, 0)) s m [.ref (hO E 6), .ref (hR E 12 0 0), .int (nI n), .ref (hR E 12 1 0)].toArray below meth c H locs 0 0 (MQ below (hQv E (fun u => u = (sA σ 12 1 0 (srt (hA σ 12 1 0) (fun i => hA σ 6 1 0 (hA σ 12 0 0 i).toNatClampNeg) n), Z)) A) [.ref (hO E 6), .ref (hR E 12 0 0), .int (nI n), .ref (hR E 12 1 0)].toArray s 0 0 A) (F0 m 3 ls []) := by
    intro n9
    induction n9 with
    | zero =>
      intro k hk hn9
      exact absurd hn9 (Nat.not_lt_zero _)
    | succ n9 ih3 =>
      intro k hk hn3 H locs ls M hl
      refine lv_iload C.1 C.2.1 dX1_sortAwards_3 (lv_at hl 0 rfl) ?_
      refine lv_iload_n C.1 C.2.1 dX1_sortAwards_5 rfl (lv_at hl 3 rfl) ?_
      refine lv_icmp_ge (tgt := 75) C.1 C.2.1 dX1_sortAwards_6 (by decide) (fun c_6 => ?_) (fun c_6 => ?_)
      · skip
        have hkn : k = n := by have := ct_ge (n := n) (k := k) c_6; omega
        have hl : lv_has ls 7 [(4, .int (nI n)), (0, .ref (hO E 6)), (1, .ref (hR E 12 0 0)), (2, .int (nI n)), (3, .ref (hR E 12 1 0))] := by first | exact hl | (rw [hkn] at hl; exact hl)
        have M : hM E A s H locs (sA σ 12 1 0 (srt (hA σ 12 1 0) (fun i => hA σ 6 1 0 (hA σ 12 0 0 i).toNatClampNeg) n)) Z := by first | exact M | (rw [hkn] at M; exact M)
        refine g_vret C M hr hlk ?_ (Nat.le_of_ble_eq_true rfl) (Nat.le_of_ble_eq_true rfl) dX1_sortAwards_75
        rfl
      · skip
        have hk1 : k < n := ct_nge (n := n) (k := k) c_6
        refine lv_iload C.1 C.2.1 dX1_sortAwards_9 (lv_at hl 0 rfl) ?_
        refine lv_aload_n C.1 C.2.1 dX1_sortAwards_11 rfl (lv_at hl 4 rfl) ?_
        refine g_alen C M 12 1 (by decide) rfl (by decide) dX1_sortAwards_12 ?_
        refine lv_icmp_ge (tgt := 75) C.1 C.2.1 dX1_sortAwards_13 (by decide) (fun c_13 => ?_) (fun c_13 => ?_)
        · skip
          exact absurd (ct_ge (n := 40) (k := k) c_13) (by omega)
        · skip
          refine lv_aload_n C.1 C.2.1 dX1_sortAwards_16 rfl (lv_at hl 1 rfl) ?_
          refine g_getA C M 6 1 (by decide) rfl rfl (by decide) fl1_15 dX1_sortAwards_17 ?_
          refine lv_aload_n C.1 C.2.1 dX1_sortAwards_20 rfl (lv_at hl 2 rfl) ?_
          refine lv_iload C.1 C.2.1 dX1_sortAwards_21 (lv_at hl 0 rfl) ?_
          refine g_iald C M 12 0 (by decide) rfl k (nI_clamp (by omega)) (vp_in_nI (by omega) (by decide)) (v := hA σ 12 0 0 k) rfl dX1_sortAwards_23 ?_
          refine g_iald C M 6 1 (by decide) rfl ((hA σ 12 0 0 k).toNatClampNeg) rfl (hlik k hk1) (v := hA σ 6 1 0 ((hA σ 12 0 0 k).toNatClampNeg)) rfl dX1_sortAwards_24 ?_
          refine lv_istore (lv' := [(5, .int (hA σ 6 1 0 ((hA σ 12 0 0 k).toNatClampNeg))), (4, .int (nI k)), (0, .ref (hO E 6)), (1, .ref (hR E 12 0 0)), (2, .int (nI n)), (3, .ref (hR E 12 1 0))]) C.1 C.2.1 dX1_sortAwards_25 hl (by decide) rfl (fun ls hl => ?_)
          refine lv_iload C.1 C.2.1 dX1_sortAwards_27 (lv_at hl 1 rfl) ?_
          refine lv_istore (lv' := [(6, .int (nI k)), (5, .int (hA σ 6 1 0 ((hA σ 12 0 0 k).toNatClampNeg))), (4, .int (nI k)), (0, .ref (hO E 6)), (1, .ref (hR E 12 0 0)), (2, .int (nI n)), (3, .ref (hR E 12 1 0))]) C.1 C.2.1 dX1_sortAwards_29 hl (by decide) rfl (fun ls hl => ?_)
          have L31 : ∀ (n9 : Nat) (i : Nat) (f : Nat → Int32), (i ≤ k) → (ins f (hA σ 6 1 0 (hA σ 12 0 0 k).toNatClampNeg) i = srt (hA σ 12 1 0) (fun i => hA σ 6 1 0 (hA σ 12 0 0 i).toNatClampNeg) (k + 1)) → i < n9 → ∀ (H : Heap) (locs : List Loc) (ls : Array Slot), hM E A s H locs (sA σ 12 1 0 f) Z → lv_has ls 7 [(6, .int (nI i)), (0, .ref (hO E 6)), (1, .ref (hR E 12 0 0)), (2, .int (nI n)), (3, .ref (hR E 12 1 0)), (4, .int (nI k)), (5, .int (hA σ 6 1 0 ((hA σ 12 0 0 k).toNatClampNeg)))] → W p l e (hRm (0, 0, 0, 0)) s m [.ref (hO E 6), .ref (hR E 12 0 0), .int (nI n), .ref (hR E 12 1 0)].toArray below meth c H locs 0 0 (MQ below (hQv E (fun u => u = (sA σ 12 1 0 (srt (hA σ 12 1 0) (fun i => hA σ 6 1 0 (hA σ 12 0 0 i).toNatClampNeg) n), Z)) A) [.ref (hO E 6), .ref (hR E 12 0 0), .int (nI n), .ref (hR E 12 1 0)].toArray s 0 0 A) (F0 m 31 ls []) := by
            intro n9
            induction n9 with
            | zero =>
              intro i f hi hf hn9
              exact absurd hn9 (Nat.not_lt_zero _)
            | succ n9 ih31 =>
              intro i f hi hf hn31 H locs ls M hl
              refine lv_iload C.1 C.2.1 dX1_sortAwards_31 (lv_at hl 0 rfl) ?_
              refine lv_if_le (tgt := 63) C.1 C.2.1 dX1_sortAwards_33 (by decide) (fun c_33 => ?_) (fun c_33 => ?_)
              · skip
                have hi0 : i = 0 := by have := ct_ge (n := i) (k := 0) c_33; omega
                have he9 : upd f i (hA σ 6 1 0 (hA σ 12 0 0 k).toNatClampNeg) = srt (hA σ 12 1 0) (fun i => hA σ 6 1 0 (hA σ 12 0 0 i).toNatClampNeg) (k + 1) := by rw [← hf, hi0]; rfl
                refine lv_aload_n C.1 C.2.1 dX1_sortAwards_63 rfl (lv_at hl 4 rfl) ?_
                refine lv_iload C.1 C.2.1 dX1_sortAwards_64 (lv_at hl 0 rfl) ?_
                refine lv_iload C.1 C.2.1 dX1_sortAwards_66 (lv_at hl 6 rfl) ?_
                refine g_iast C M 12 1 (by decide) rfl i (nI_clamp (by omega)) (vp_in_nI (by omega) (by decide)) dX1_sortAwards_68 (fun H locs M => ?_)
                have M : hM E A s H locs (sA (sA σ 12 1 0 f) 12 1 0 (upd f i (hA σ 6 1 0 ((hA σ 12 0 0 k).toNatClampNeg)))) Z := M
                refine lv_iinc (v := nI (k + 1)) (lv' := [(4, .int (nI (k + 1))), (6, .int (nI i)), (0, .ref (hO E 6)), (1, .ref (hR E 12 0 0)), (2, .int (nI n)), (3, .ref (hR E 12 1 0)), (5, .int (hA σ 6 1 0 ((hA σ 12 0 0 k).toNatClampNeg)))]) C.1 C.2.1 dX1_sortAwards_69 hl (k := 5) rfl (nI_succ _).symm (by decide) rfl (fun ls hl => ?_)
                refine lv_goto (tgt := 3) C.1 C.2.1 dX1_sortAwards_72 (by decide) ?_
                have q1 : (sA (sA σ 12 1 0 f) 12 1 0 (upd f i (hA σ 6 1 0 ((hA σ 12 0 0 k).toNatClampNeg)))) = (sA σ 12 1 0 (srt (hA σ 12 1 0) (fun i => hA σ 6 1 0 (hA σ 12 0 0 i).toNatClampNeg) (k + 1))) := by first | exact sA_self _ _ _ _ | (rw [sA_sA]; exact congrArg _ he9)
                rw [q1] at M
                exact ih3 (k + 1) hk1 (by omega) _ _ _ M (lv_sub hl [0, 2, 3, 4, 5] rfl)
              · skip
                obtain ⟨i, rfl⟩ : ∃ q, i = q + 1 := ⟨i - 1, by have := ct_nge (n := i) (k := 0) c_33; omega⟩
                refine lv_aload_n C.1 C.2.1 dX1_sortAwards_36 rfl (lv_at hl 4 rfl) ?_
                refine lv_iload C.1 C.2.1 dX1_sortAwards_37 (lv_at hl 0 rfl) ?_
                refine lv_iconst (v := 1) C.1 C.2.1 dX1_sortAwards_39 (by decide) ?_
                refine lv_isub C.1 C.2.1 dX1_sortAwards_40 ?_
                refine g_rei (v := nI i) (nI_pred _) ?_
                refine g_iald C M 12 1 (by decide) rfl i (nI_clamp (by omega)) (vp_in_nI (by omega) (by decide)) (v := f i) rfl dX1_sortAwards_41 ?_
                refine lv_iload C.1 C.2.1 dX1_sortAwards_42 (lv_at hl 6 rfl) ?_
                refine lv_icmp_le (tgt := 63) C.1 C.2.1 dX1_sortAwards_44 (by decide) (fun c_44 => ?_) (fun c_44 => ?_)
                · skip
                  have he9 : upd f (i + 1) (hA σ 6 1 0 (hA σ 12 0 0 k).toNatClampNeg) = srt (hA σ 12 1 0) (fun i => hA σ 6 1 0 (hA σ 12 0 0 i).toNatClampNeg) (k + 1) := by rw [← hf, ins, if_pos c_44]
                  refine lv_aload_n C.1 C.2.1 dX1_sortAwards_63 rfl (lv_at hl 4 rfl) ?_
                  refine lv_iload C.1 C.2.1 dX1_sortAwards_64 (lv_at hl 0 rfl) ?_
                  refine lv_iload C.1 C.2.1 dX1_sortAwards_66 (lv_at hl 6 rfl) ?_
                  refine g_iast C M 12 1 (by decide) rfl (i + 1) (nI_clamp (by omega)) (vp_in_nI (by omega) (by decide)) dX1_sortAwards_68 (fun H locs M => ?_)
                  have M : hM E A s H locs (sA (sA σ 12 1 0 f) 12 1 0 (upd f (i + 1) (hA σ 6 1 0 ((hA σ 12 0 0 k).toNatClampNeg)))) Z := M
                  refine lv_iinc (v := nI (k + 1)) (lv' := [(4, .int (nI (k + 1))), (6, .int (nI (i + 1))), (0, .ref (hO E 6)), (1, .ref (hR E 12 0 0)), (2, .int (nI n)), (3, .ref (hR E 12 1 0)), (5, .int (hA σ 6 1 0 ((hA σ 12 0 0 k).toNatClampNeg)))]) C.1 C.2.1 dX1_sortAwards_69 hl (k := 5) rfl (nI_succ _).symm (by decide) rfl (fun ls hl => ?_)
                  refine lv_goto (tgt := 3) C.1 C.2.1 dX1_sortAwards_72 (by decide) ?_
                  have q2 : (sA (sA σ 12 1 0 f) 12 1 0 (upd f (i + 1) (hA σ 6 1 0 ((hA σ 12 0 0 k).toNatClampNeg)))) = (sA σ 12 1 0 (srt (hA σ 12 1 0) (fun i => hA σ 6 1 0 (hA σ 12 0 0 i).toNatClampNeg) (k + 1))) := by first | exact sA_self _ _ _ _ | (rw [sA_sA]; exact congrArg _ he9)
                  rw [q2] at M
                  exact ih3 (k + 1) hk1 (by omega) _ _ _ M (lv_sub hl [0, 2, 3, 4, 5] rfl)
                · skip
                  refine lv_aload_n C.1 C.2.1 dX1_sortAwards_47 rfl (lv_at hl 4 rfl) ?_
                  refine lv_iload C.1 C.2.1 dX1_sortAwards_48 (lv_at hl 0 rfl) ?_
                  refine lv_aload_n C.1 C.2.1 dX1_sortAwards_50 rfl (lv_at hl 4 rfl) ?_
                  refine lv_iload C.1 C.2.1 dX1_sortAwards_51 (lv_at hl 0 rfl) ?_
                  refine lv_iconst (v := 1) C.1 C.2.1 dX1_sortAwards_53 (by decide) ?_
                  refine lv_isub C.1 C.2.1 dX1_sortAwards_54 ?_
                  refine g_rei (v := nI i) (nI_pred _) ?_
                  refine g_iald C M 12 1 (by decide) rfl i (nI_clamp (by omega)) (vp_in_nI (by omega) (by decide)) (v := f i) rfl dX1_sortAwards_55 ?_
                  refine g_iast C M 12 1 (by decide) rfl (i + 1) (nI_clamp (by omega)) (vp_in_nI (by omega) (by decide)) dX1_sortAwards_56 (fun H locs M => ?_)
                  have M : hM E A s H locs (sA (sA σ 12 1 0 f) 12 1 0 (upd f (i + 1) (f i))) Z := M
                  refine lv_iinc (v := nI i) (lv' := [(6, .int (nI i)), (0, .ref (hO E 6)), (1, .ref (hR E 12 0 0)), (2, .int (nI n)), (3, .ref (hR E 12 1 0)), (4, .int (nI k)), (5, .int (hA σ 6 1 0 ((hA σ 12 0 0 k).toNatClampNeg)))]) C.1 C.2.1 dX1_sortAwards_57 hl (k := 0) rfl (pk_m1 _) (by decide) rfl (fun ls hl => ?_)
                  refine lv_goto (tgt := 31) C.1 C.2.1 dX1_sortAwards_60 (by decide) ?_
                  have q3 : (sA (sA σ 12 1 0 f) 12 1 0 (upd f (i + 1) (f i))) = (sA σ 12 1 0 (upd f (i + 1) (f i))) := by rw [sA_sA]
                  rw [q3] at M
                  exact ih31 i (upd f (i + 1) (f i)) (by omega) (by rw [← hf, ins, if_neg c_44]) (by omega) _ _ _ M (lv_sub hl [0, 1, 2, 3, 4, 5, 6] rfl)
          exact L31 (k + 1) k (srt (hA σ 12 1 0) (fun i => hA σ 6 1 0 (hA σ 12 0 0 i).toNatClampNeg) k) (Nat.le_refl _) rfl (Nat.lt_succ_self _) _ _ _ M (lv_sub hl [0, 3, 4, 5, 6, 2, 1] rfl)
  have q4 : 0 = nI 0 := by rfl
  have hl : lv_has ls 7 [(4, .int (nI 0)), (0, .ref (hO E 6)), (1, .ref (hR E 12 0 0)), (2, .int (nI n)), (3, .ref (hR E 12 1 0))] := by
    rw [← q4]
    exact lv_sub hl [0, 1, 2, 3, 4] rfl
  have q5 : σ = (sA σ 12 1 0 (srt (hA σ 12 1 0) (fun i => hA σ 6 1 0 (hA σ 12 0 0 i).toNatClampNeg) 0)) := by first | exact sA_self _ _ _ _ | (rw [sA_sA]; exact congrArg _ he9)
  rw [q5] at M
  exact L3 ((n - 0) + 1) 0 (Nat.zero_le _) (Nat.lt_succ_self _) _ _ _ M hl
