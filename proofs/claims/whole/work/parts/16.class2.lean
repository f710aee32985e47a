def cGad (σ : hMem) (n : Nat) (g w day today : Int32) : hMem := sI (sA (sA (sA (sA σ 4 0 0 (upd (hA σ 4 0 0) n g)) 4 1 0 (upd (hA σ 4 1 0) n w)) 5 0 0 (upd (hA σ 5 0 0) n day)) 5 1 0 (upd (hA σ 5 1 0) n today)) 4 3 (nI (n + 1))

set_option maxHeartbeats 4000000 in
set_option maxRecDepth 100000 in
theorem x_gadd (l : Launch) (E : hEnv) (σ : hMem) (Z : va_W) (n : Nat) (hn : hI σ 4 3 = nI n) (hn60 : n ≤ 60) (g w9 day today : Int32) : hMet l yX3_add cX3_add 5 (some .int) (1, 0, 0, 23) E σ Z [.ref (hO E 4), .int g, .int w9, .int day, .int today] (hQi E (fun r u => r = (if nI n < 60 then nI (n + 1) else -1) ∧ u = (if nI n < 60 then cGad σ n g w9 day today else σ, Z))) := by
  refine hMet.of (by decide) (Nat.le_of_ble_eq_true rfl) (fun p e s m below meth c A ls C M hr hlk hl => ?_)
  have hl : lv_has ls 5 [(0, .ref (hO E 4)), (1, .int g), (2, .int w9), (3, .int day), (4, .int today)] := hl
  refine lv_aload_n C.1 C.2.1 dX3_add_0 rfl (lv_at hl 0 rfl) ?_
  refine g_getI C M 4 3 (by decide) rfl rfl (by decide) fl3_27 (v := nI n) hn dX3_add_1 ?_
  refine lv_bipush (v := 60) C.1 C.2.1 dX3_add_4 (by decide) ?_
  refine lv_icmp_lt (tgt := 11) C.1 C.2.1 dX3_add_6 (by decide) (fun c_6 => ?_) (fun c_6 => ?_)
  · skip
    have hlt : n < 60 := (nI_ltI (by omega) (by decide)).mp c_6
    refine lv_aload_n C.1 C.2.1 dX3_add_11 rfl (lv_at hl 0 rfl) ?_
    refine g_getA C M 4 0 (by decide) rfl rfl (by decide) fl3_9 dX3_add_12 ?_
    refine lv_aload_n C.1 C.2.1 dX3_add_15 rfl (lv_at hl 0 rfl) ?_
    refine g_getI C M 4 3 (by decide) rfl rfl (by decide) fl3_27 (v := nI n) hn dX3_add_16 ?_
    refine lv_iload_n C.1 C.2.1 dX3_add_19 rfl (lv_at hl 1 rfl) ?_
    refine g_iast C M 4 0 (by decide) rfl n (nI_clamp (by omega)) (vp_in_nI (by omega) (by decide)) dX3_add_20 (fun H locs M => ?_)
    have M : hM E A s H locs (sA σ 4 0 0 (upd (hA σ 4 0 0) n g)) Z := M
    refine lv_aload_n C.1 C.2.1 dX3_add_21 rfl (lv_at hl 0 rfl) ?_
    refine g_getA C M 4 1 (by decide) rfl rfl (by decide) fl3_15 dX3_add_22 ?_
    refine lv_aload_n C.1 C.2.1 dX3_add_25 rfl (lv_at hl 0 rfl) ?_
    refine g_getI C M 4 3 (by decide) rfl rfl (by decide) fl3_27 (v := nI n) hn dX3_add_26 ?_
    refine lv_iload_n C.1 C.2.1 dX3_add_29 rfl (lv_at hl 2 rfl) ?_
    refine g_iast C M 4 1 (by decide) rfl n (nI_clamp (by omega)) (vp_in_nI (by omega) (by decide)) dX3_add_30 (fun H locs M => ?_)
    have M : hM E A s H locs (sA (sA σ 4 0 0 (upd (hA σ 4 0 0) n g)) 4 1 0 (upd (hA σ 4 1 0) n w9)) Z := M
    refine lv_aload_n C.1 C.2.1 dX3_add_31 rfl (lv_at hl 0 rfl) ?_
    refine g_getO C M 4 2 5 (by decide) rfl rfl (by decide) fl3_23 dX3_add_32 ?_
    refine lv_aload_n C.1 C.2.1 dX3_add_35 rfl (lv_at hl 0 rfl) ?_
    refine g_getI C M 4 3 (by decide) rfl rfl (by decide) fl3_27 (v := nI n) hn dX3_add_36 ?_
    refine lv_iload_n C.1 C.2.1 dX3_add_39 rfl (lv_at hl 3 rfl) ?_
    refine lv_iload C.1 C.2.1 dX3_add_40 (lv_at hl 4 rfl) ?_
    refine g_callv M (g_runV (As := [.int (nI n), .int day, .int today]) (rest := []) C M 5 (x_tset l E (sA (sA σ 4 0 0 (upd (hA σ 4 0 0) n g)) 4 1 0 (upd (hA σ 4 1 0) n w9)) Z 5 60 (by decide) rfl rfl (by decide) (nI n) n (nI_clamp (by omega)) (vp_in_nI (by omega) (by decide)) day today) clX10_set ivX10_set lk3_31 (by decide) rfl rfl ⟨Nat.le_of_ble_eq_true rfl, Nat.le_of_ble_eq_true rfl⟩ hl.1 rfl (Nat.le_of_ble_eq_true rfl) dX3_add_42 ⟨Nat.le_of_ble_eq_true rfl, Nat.le_of_ble_eq_true rfl⟩) (fun u H locs hR M => ?_)
    refine W.widen (k := 0) (n := 0) (Nat.le_of_ble_eq_true rfl) (Nat.le_of_ble_eq_true rfl) ?_
    subst hR
    have M : hM E A s H locs (sA (sA (sA (sA σ 4 0 0 (upd (hA σ 4 0 0) n g)) 4 1 0 (upd (hA σ 4 1 0) n w9)) 5 0 0 (upd (hA σ 5 0 0) n day)) 5 1 0 (upd (hA σ 5 1 0) n today)) Z := M
    refine lv_aload_n C.1 C.2.1 dX3_add_45 rfl (lv_at hl 0 rfl) ?_
    refine lv_dup C.1 C.2.1 dX3_add_46 rfl ?_
    refine g_getI C M 4 3 (by decide) rfl rfl (by decide) fl3_27 (v := nI n) hn dX3_add_47 ?_
    refine lv_iconst (v := 1) C.1 C.2.1 dX3_add_50 (by decide) ?_
    refine lv_iadd C.1 C.2.1 dX3_add_51 ?_
    refine g_rei (v := nI (n + 1)) (nI_1 _) ?_
    refine g_putI C M 4 3 (by decide) rfl rfl (by decide) fl3_27 rfl rfl dX3_add_52 (fun H locs M => ?_)
    refine lv_aload_n C.1 C.2.1 dX3_add_55 rfl (lv_at hl 0 rfl) ?_
    refine g_getI C M 4 3 (by decide) rfl rfl (by decide) fl3_27 (v := nI (n + 1)) rfl dX3_add_56 ?_
    refine g_iret C M hr hlk ?_ (Nat.le_of_ble_eq_true rfl) (Nat.le_of_ble_eq_true rfl) dX3_add_59
    simp only [cGad, c_6, not_false_eq_true, not_true_eq_false, and_self, and_true, true_and, and_false, false_and, or_true, true_or, or_false, false_or, Bool.false_eq_true, if_true, if_false, ↓reduceIte]
  · skip
    refine lv_iconst (v := (-1)) C.1 C.2.1 dX3_add_9 (by decide) ?_
    refine g_iret C M hr hlk ?_ (Nat.le_of_ble_eq_true rfl) (Nat.le_of_ble_eq_true rfl) dX3_add_10
    simp only [cGad, c_6, not_false_eq_true, not_true_eq_false, and_self, and_true, true_and, and_false, false_and, or_true, true_or, or_false, false_or, Bool.false_eq_true, if_true, if_false, ↓reduceIte]

def cWo (σ : hMem) (n : Nat) (g known day : Int32) : Int32 := if 0 ≤ ltB (fun i => (hA σ 4 0 0 i = g) ∧ ((¬ known < hA σ 5 1 0 i) ∧ (¬ day < hA σ 5 0 0 i))) (hA σ 5 0 0) n then hA σ 4 1 0 (ltB (fun i => (hA σ 4 0 0 i = g) ∧ ((¬ known < hA σ 5 1 0 i) ∧ (¬ day < hA σ 5 0 0 i))) (hA σ 5 0 0) n).toNatClampNeg else 0
def cWs (σ : hMem) (n : Nat) (known day : Int32) : Nat → Int64
  | 0 => 0
  | k + 1 => cWs σ n known day k + (cWo σ n (nI k) known day).toInt64

set_option maxHeartbeats 4000000 in
set_option maxRecDepth 100000 in
theorem x_gwo (l : Launch) (E : hEnv) (σ : hMem) (Z : va_W) (n : Nat) (hn : hI σ 4 3 = nI n) (hn60 : n ≤ 60) (g known day : Int32) : hMet l yX3_worthOf cX3_worthOf 7 (some .int) (1, 0, 0, 23) E σ Z [.ref (hO E 4), .int g, .int known, .int day] (hQi E (fun r u => r = cWo σ n g known day ∧ u = (σ, Z))) := by
  refine hMet.of (by decide) (Nat.le_of_ble_eq_true rfl) (fun p e s m below meth c A ls C M hr hlk hl => ?_)
  have hl : lv_has ls 7 [(0, .ref (hO E 4)), (1, .int g), (2, .int known), (3, .int day)] := hl
  refine lv_iconst (v := (-1)) C.1 C.2.1 dX3_worthOf_0 (by decide) ?_
  refine lv_istore (lv' := [(4, .int (-1)), (0, .ref (hO E 4)), (1, .int g), (2, .int known), (3, .int day)]) C.1 C.2.1 dX3_worthOf_1 hl (by decide) rfl (fun ls hl => ?_)
  refine lv_iconst (v := 0) C.1 C.2.1 dX3_worthOf_3 (by decide) ?_
  refine lv_istore (lv' := [(5, .int 0), (4, .int (-1)), (0, .ref (hO E 4)), (1, .int g), (2, .int known), (3, .int day)]) C.1 C.2.1 dX3_worthOf_4 hl (by decide) rfl (fun ls hl => ?_)
  have L6 : ∀ (n9 : Nat) (k : Nat), (k ≤ n) → n - k < n9 → ∀ (H : Heap) (locs : List Loc) (ls : Array Slot), hM E A s H locs σ Z → lv_has ls 7 [(5, .int (nI k)), (4, .int (ltB (fun i => (hA σ 4 0 0 i = g) ∧ ((¬ known < hA σ 5 1 0 i) ∧ (¬ day < hA σ 5 0 0 i))) (hA σ 5 0 0) k)), (0, .ref (hO E 4)), (1, .int g), (2, .int known), (3, .int day)] → W p l e (hRm (1, 0, 0, 23)) s m [.ref (hO E 4), .int g, .int known, .int day].toArray below meth c H locs 0 0 (MQ below (hQi E (fun r u => r = cWo σ n g known day ∧ u = (σ, Z)) A) [.ref (hO E 4), .int g, .int known, .int day].toArray s 0 0 A) (F0 m 6 ls []) := by
    intro n9
    induction n9 with
    | zero =>
      intro k hk hn9
      exact absurd hn9 (Nat.not_lt_zero _)
    | succ n9 ih6 =>
      intro k hk hn6 H locs ls M hl
      refine lv_iload C.1 C.2.1 dX3_worthOf_6 (lv_at hl 0 rfl) ?_
      refine lv_aload_n C.1 C.2.1 dX3_worthOf_8 rfl (lv_at hl 2 rfl) ?_
      refine g_getI C M 4 3 (by decide) rfl rfl (by decide) fl3_27 (v := nI n) hn dX3_worthOf_9 ?_
      refine lv_icmp_ge (tgt := 81) C.1 C.2.1 dX3_worthOf_12 (by decide) (fun c_12 => ?_) (fun c_12 => ?_)
      · skip
        have hkn : k = n := by have := ct_ge (n := n) (k := k) c_12; omega
        have hl : lv_has ls 7 [(5, .int (nI n)), (4, .int (ltB (fun i => (hA σ 4 0 0 i = g) ∧ ((¬ known < hA σ 5 1 0 i) ∧ (¬ day < hA σ 5 0 0 i))) (hA σ 5 0 0) n)), (0, .ref (hO E 4)), (1, .int g), (2, .int known), (3, .int day)] := by first | exact hl | (rw [hkn] at hl; exact hl)
        have M : hM E A s H locs σ Z := by first | exact M | (rw [hkn] at M; exact M)
        refine lv_iload C.1 C.2.1 dX3_worthOf_81 (lv_at hl 1 rfl) ?_
        refine lv_if_ge (tgt := 90) C.1 C.2.1 dX3_worthOf_83 (by decide) (fun c_83 => ?_) (fun c_83 => ?_)
        · skip
          refine lv_aload_n C.1 C.2.1 dX3_worthOf_90 rfl (lv_at hl 2 rfl) ?_
          refine g_getA C M 4 1 (by decide) rfl rfl (by decide) fl3_15 dX3_worthOf_91 ?_
          refine lv_iload C.1 C.2.1 dX3_worthOf_94 (lv_at hl 1 rfl) ?_
          refine g_iald C M 4 1 (by decide) rfl ((ltB (fun i => (hA σ 4 0 0 i = g) ∧ ((¬ known < hA σ 5 1 0 i) ∧ (¬ day < hA σ 5 0 0 i))) (hA σ 5 0 0) n).toNatClampNeg) rfl (vp_in_or2 (ltB_in _ _ n) (Int32.not_lt.mpr c_83) (by omega) (by decide)) (v := hA σ 4 1 0 ((ltB (fun i => (hA σ 4 0 0 i = g) ∧ ((¬ known < hA σ 5 1 0 i) ∧ (¬ day < hA σ 5 0 0 i))) (hA σ 5 0 0) n).toNatClampNeg)) rfl dX3_worthOf_96 ?_
          refine g_iret C M hr hlk ?_ (Nat.le_of_ble_eq_true rfl) (Nat.le_of_ble_eq_true rfl) dX3_worthOf_97
          simp only [cWo, c_12, c_83, not_false_eq_true, not_true_eq_false, and_self, and_true, true_and, and_false, false_and, or_true, true_or, or_false, false_or, Bool.false_eq_true, if_true, if_false, ↓reduceIte]
        · skip
          refine lv_iconst (v := 0) C.1 C.2.1 dX3_worthOf_86 (by decide) ?_
          refine lv_goto (tgt := 97) C.1 C.2.1 dX3_worthOf_87 (by decide) ?_
          refine g_iret C M hr hlk ?_ (Nat.le_of_ble_eq_true rfl) (Nat.le_of_ble_eq_true rfl) dX3_worthOf_97
          simp only [cWo, c_12, c_83, not_false_eq_true, not_true_eq_false, and_self, and_true, true_and, and_false, false_and, or_true, true_or, or_false, false_or, Bool.false_eq_true, if_true, if_false, ↓reduceIte]
      · skip
        have hk1 : k < n := ct_nge (n := n) (k := k) c_12
        refine lv_aload_n C.1 C.2.1 dX3_worthOf_15 rfl (lv_at hl 2 rfl) ?_
        refine g_getA C M 4 0 (by decide) rfl rfl (by decide) fl3_9 dX3_worthOf_16 ?_
        refine lv_iload C.1 C.2.1 dX3_worthOf_19 (lv_at hl 0 rfl) ?_
        refine g_iald C M 4 0 (by decide) rfl k (nI_clamp (by omega)) (vp_in_nI (by omega) (by decide)) (v := hA σ 4 0 0 k) rfl dX3_worthOf_21 ?_
        refine lv_iload_n C.1 C.2.1 dX3_worthOf_22 rfl (lv_at hl 3 rfl) ?_
        have J2 : ∀ (v1 : Int32) (ev1 : v1 = bz (((hA σ 4 0 0 k) = g) ∧ (((¬ known < hA σ 5 1 0 k) ∧ (¬ day < hA σ 5 0 0 k))))) (H : Heap) (locs : List Loc) (ls : Array Slot), hM E A s H locs σ Z → lv_has ls 7 [(5, .int (nI k)), (4, .int (ltB (fun i => (hA σ 4 0 0 i = g) ∧ ((¬ known < hA σ 5 1 0 i) ∧ (¬ day < hA σ 5 0 0 i))) (hA σ 5 0 0) k)), (0, .ref (hO E 4)), (1, .int g), (2, .int known), (3, .int day)] → W p l e (hRm (1, 0, 0, 23)) s m [.ref (hO E 4), .int g, .int known, .int day].toArray below meth c H locs 0 0 (MQ below (hQi E (fun r u => r = cWo σ n g known day ∧ u = (σ, Z)) A) [.ref (hO E 4), .int g, .int known, .int day].toArray s 0 0 A) (F0 m 45 ls [.int v1]) := by
          intro v1 ev1 H locs ls M hl
          subst ev1
          refine lv_istore (lv' := [(6, .int (bz (((hA σ 4 0 0 k) = g) ∧ (((¬ known < hA σ 5 1 0 k) ∧ (¬ day < hA σ 5 0 0 k)))))), (5, .int (nI k)), (4, .int (ltB (fun i => (hA σ 4 0 0 i = g) ∧ ((¬ known < hA σ 5 1 0 i) ∧ (¬ day < hA σ 5 0 0 i))) (hA σ 5 0 0) k)), (0, .ref (hO E 4)), (1, .int g), (2, .int known), (3, .int day)]) C.1 C.2.1 dX3_worthOf_45 hl (by decide) rfl (fun ls hl => ?_)
          refine lv_iload C.1 C.2.1 dX3_worthOf_47 (lv_at hl 0 rfl) ?_
          refine lv_if_eq (tgt := 75) C.1 C.2.1 dX3_worthOf_49 (by decide) (fun c_49 => ?_) (fun c_49 => ?_)
          · skip
            have c_49 : ¬ (((hA σ 4 0 0 k) = g) ∧ (((¬ known < hA σ 5 1 0 k) ∧ (¬ day < hA σ 5 0 0 k)))) := bz_0.mp c_49
            refine lv_iinc (v := nI (k + 1)) (lv' := [(5, .int (nI (k + 1))), (6, .int (bz (((hA σ 4 0 0 k) = g) ∧ (((¬ known < hA σ 5 1 0 k) ∧ (¬ day < hA σ 5 0 0 k)))))), (4, .int (ltB (fun i => (hA σ 4 0 0 i = g) ∧ ((¬ known < hA σ 5 1 0 i) ∧ (¬ day < hA σ 5 0 0 i))) (hA σ 5 0 0) k)), (0, .ref (hO E 4)), (1, .int g), (2, .int known), (3, .int day)]) C.1 C.2.1 dX3_worthOf_75 hl (k := 1) rfl (nI_succ _).symm (by decide) rfl (fun ls hl => ?_)
            refine lv_goto (tgt := 6) C.1 C.2.1 dX3_worthOf_78 (by decide) ?_
            have q3 : ltB (fun i => (hA σ 4 0 0 i = g) ∧ ((¬ known < hA σ 5 1 0 i) ∧ (¬ day < hA σ 5 0 0 i))) (hA σ 5 0 0) k = ltB (fun i => (hA σ 4 0 0 i = g) ∧ ((¬ known < hA σ 5 1 0 i) ∧ (¬ day < hA σ 5 0 0 i))) (hA σ 5 0 0) (k + 1) := by simp only [ltB, c_12, c_49, not_false_eq_true, not_true_eq_false, and_self, and_true, true_and, and_false, false_and, or_true, true_or, or_false, false_or, Bool.false_eq_true, if_true, if_false, ↓reduceIte]
            have hl : lv_has ls 7 [(5, .int (nI (k + 1))), (4, .int (ltB (fun i => (hA σ 4 0 0 i = g) ∧ ((¬ known < hA σ 5 1 0 i) ∧ (¬ day < hA σ 5 0 0 i))) (hA σ 5 0 0) (k + 1))), (0, .ref (hO E 4)), (1, .int g), (2, .int known), (3, .int day)] := by
              rw [← q3]
              exact lv_sub hl [0, 2, 3, 4, 5, 6] rfl
            exact ih6 (k + 1) hk1 (by omega) _ _ _ M hl
          · skip
            have c_49 : (((hA σ 4 0 0 k) = g) ∧ (((¬ known < hA σ 5 1 0 k) ∧ (¬ day < hA σ 5 0 0 k)))) := bz_ne0.mp c_49
            refine lv_iload C.1 C.2.1 dX3_worthOf_52 (lv_at hl 2 rfl) ?_
            refine lv_if_lt (tgt := 71) C.1 C.2.1 dX3_worthOf_54 (by decide) (fun c_54 => ?_) (fun c_54 => ?_)
            · skip
              refine lv_iload C.1 C.2.1 dX3_worthOf_71 (lv_at hl 1 rfl) ?_
              refine lv_istore (lv' := [(4, .int (nI k)), (6, .int (bz (((hA σ 4 0 0 k) = g) ∧ (((¬ known < hA σ 5 1 0 k) ∧ (¬ day < hA σ 5 0 0 k)))))), (5, .int (nI k)), (0, .ref (hO E 4)), (1, .int g), (2, .int known), (3, .int day)]) C.1 C.2.1 dX3_worthOf_73 hl (by decide) rfl (fun ls hl => ?_)
              refine lv_iinc (v := nI (k + 1)) (lv' := [(5, .int (nI (k + 1))), (4, .int (nI k)), (6, .int (bz (((hA σ 4 0 0 k) = g) ∧ (((¬ known < hA σ 5 1 0 k) ∧ (¬ day < hA σ 5 0 0 k)))))), (0, .ref (hO E 4)), (1, .int g), (2, .int known), (3, .int day)]) C.1 C.2.1 dX3_worthOf_75 hl (k := 2) rfl (nI_succ _).symm (by decide) rfl (fun ls hl => ?_)
              refine lv_goto (tgt := 6) C.1 C.2.1 dX3_worthOf_78 (by decide) ?_
              have q4 : nI k = ltB (fun i => (hA σ 4 0 0 i = g) ∧ ((¬ known < hA σ 5 1 0 i) ∧ (¬ day < hA σ 5 0 0 i))) (hA σ 5 0 0) (k + 1) := by simp only [ltB, c_12, c_49, c_54, not_false_eq_true, not_true_eq_false, and_self, and_true, true_and, and_false, false_and, or_true, true_or, or_false, false_or, Bool.false_eq_true, if_true, if_false, ↓reduceIte]
              have hl : lv_has ls 7 [(5, .int (nI (k + 1))), (4, .int (ltB (fun i => (hA σ 4 0 0 i = g) ∧ ((¬ known < hA σ 5 1 0 i) ∧ (¬ day < hA σ 5 0 0 i))) (hA σ 5 0 0) (k + 1))), (0, .ref (hO E 4)), (1, .int g), (2, .int known), (3, .int day)] := by
                rw [← q4]
                exact lv_sub hl [0, 1, 3, 4, 5, 6] rfl
              exact ih6 (k + 1) hk1 (by omega) _ _ _ M hl
            · skip
              refine lv_aload_n C.1 C.2.1 dX3_worthOf_57 rfl (lv_at hl 3 rfl) ?_
              refine g_getO C M 4 2 5 (by decide) rfl rfl (by decide) fl3_23 dX3_worthOf_58 ?_
              refine lv_iload C.1 C.2.1 dX3_worthOf_61 (lv_at hl 1 rfl) ?_
              refine lv_iload C.1 C.2.1 dX3_worthOf_63 (lv_at hl 2 rfl) ?_
              refine g_calli M (g_runV (As := [.int (nI k), .int (ltB (fun i => (hA σ 4 0 0 i = g) ∧ ((¬ known < hA σ 5 1 0 i) ∧ (¬ day < hA σ 5 0 0 i))) (hA σ 5 0 0) k)]) (rest := []) C M 5 (x_tsup l E σ Z 5 60 (by decide) rfl rfl (by decide) (nI k) (ltB (fun i => (hA σ 4 0 0 i = g) ∧ ((¬ known < hA σ 5 1 0 i) ∧ (¬ day < hA σ 5 0 0 i))) (hA σ 5 0 0) k) k ((ltB (fun i => (hA σ 4 0 0 i = g) ∧ ((¬ known < hA σ 5 1 0 i) ∧ (¬ day < hA σ 5 0 0 i))) (hA σ 5 0 0) k).toNatClampNeg) (nI_clamp (by omega)) (vp_in_nI (by omega) (by decide)) rfl (vp_in_or2 (ltB_in _ _ k) c_54 (by omega) (by decide)) ) clX10_supersedes ivX10_supersedes lk3_39 (by decide) rfl rfl ⟨Nat.le_of_ble_eq_true rfl, Nat.le_of_ble_eq_true rfl⟩ hl.1 rfl (Nat.le_of_ble_eq_true rfl) dX3_worthOf_65 ⟨Nat.le_of_ble_eq_true rfl, Nat.le_of_ble_eq_true rfl⟩) (fun r5 u H locs hR M => ?_)
              refine W.widen (k := 0) (n := 0) (Nat.le_of_ble_eq_true rfl) (Nat.le_of_ble_eq_true rfl) ?_
              obtain ⟨rfl, rfl⟩ := hR
              have M : hM E A s H locs σ Z := M
              refine lv_if_eq (tgt := 75) C.1 C.2.1 dX3_worthOf_68 (by decide) (fun c_68 => ?_) (fun c_68 => ?_)
              · skip
                have c_68 : ¬ (¬ hA σ 5 0 0 k < hA σ 5 0 0 ((ltB (fun i => (hA σ 4 0 0 i = g) ∧ ((¬ known < hA σ 5 1 0 i) ∧ (¬ day < hA σ 5 0 0 i))) (hA σ 5 0 0) k).toNatClampNeg)) := bz_0.mp c_68
                refine lv_iinc (v := nI (k + 1)) (lv' := [(5, .int (nI (k + 1))), (6, .int (bz (((hA σ 4 0 0 k) = g) ∧ (((¬ known < hA σ 5 1 0 k) ∧ (¬ day < hA σ 5 0 0 k)))))), (4, .int (ltB (fun i => (hA σ 4 0 0 i = g) ∧ ((¬ known < hA σ 5 1 0 i) ∧ (¬ day < hA σ 5 0 0 i))) (hA σ 5 0 0) k)), (0, .ref (hO E 4)), (1, .int g), (2, .int known), (3, .int day)]) C.1 C.2.1 dX3_worthOf_75 hl (k := 1) rfl (nI_succ _).symm (by decide) rfl (fun ls hl => ?_)
                refine lv_goto (tgt := 6) C.1 C.2.1 dX3_worthOf_78 (by decide) ?_
                have q6 : ltB (fun i => (hA σ 4 0 0 i = g) ∧ ((¬ known < hA σ 5 1 0 i) ∧ (¬ day < hA σ 5 0 0 i))) (hA σ 5 0 0) k = ltB (fun i => (hA σ 4 0 0 i = g) ∧ ((¬ known < hA σ 5 1 0 i) ∧ (¬ day < hA σ 5 0 0 i))) (hA σ 5 0 0) (k + 1) := by simp only [ltB, c_12, c_49, c_54, c_68, not_false_eq_true, not_true_eq_false, and_self, and_true, true_and, and_false, false_and, or_true, true_or, or_false, false_or, Bool.false_eq_true, if_true, if_false, ↓reduceIte]
                have hl : lv_has ls 7 [(5, .int (nI (k + 1))), (4, .int (ltB (fun i => (hA σ 4 0 0 i = g) ∧ ((¬ known < hA σ 5 1 0 i) ∧ (¬ day < hA σ 5 0 0 i))) (hA σ 5 0 0) (k + 1))), (0, .ref (hO E 4)), (1, .int g), (2, .int known), (3, .int day)] := by
                  rw [← q6]
                  exact lv_sub hl [0, 2, 3, 4, 5, 6] rfl
                exact ih6 (k + 1) hk1 (by omega) _ _ _ M hl
              · skip
                have c_68 : (¬ hA σ 5 0 0 k < hA σ 5 0 0 ((ltB (fun i => (hA σ 4 0 0 i = g) ∧ ((¬ known < hA σ 5 1 0 i) ∧ (¬ day < hA σ 5 0 0 i))) (hA σ 5 0 0) k).toNatClampNeg)) := bz_ne0.mp c_68
                refine lv_iload C.1 C.2.1 dX3_worthOf_71 (lv_at hl 1 rfl) ?_
                refine lv_istore (lv' := [(4, .int (nI k)), (6, .int (bz (((hA σ 4 0 0 k) = g) ∧ (((¬ known < hA σ 5 1 0 k) ∧ (¬ day < hA σ 5 0 0 k)))))), (5, .int (nI k)), (0, .ref (hO E 4)), (1, .int g), (2, .int known), (3, .int day)]) C.1 C.2.1 dX3_worthOf_73 hl (by decide) rfl (fun ls hl => ?_)
                refine lv_iinc (v := nI (k + 1)) (lv' := [(5, .int (nI (k + 1))), (4, .int (nI k)), (6, .int (bz (((hA σ 4 0 0 k) = g) ∧ (((¬ known < hA σ 5 1 0 k) ∧ (¬ day < hA σ 5 0 0 k)))))), (0, .ref (hO E 4)), (1, .int g), (2, .int known), (3, .int day)]) C.1 C.2.1 dX3_worthOf_75 hl (k := 2) rfl (nI_succ _).symm (by decide) rfl (fun ls hl => ?_)
                refine lv_goto (tgt := 6) C.1 C.2.1 dX3_worthOf_78 (by decide) ?_
                have q7 : nI k = ltB (fun i => (hA σ 4 0 0 i = g) ∧ ((¬ known < hA σ 5 1 0 i) ∧ (¬ day < hA σ 5 0 0 i))) (hA σ 5 0 0) (k + 1) := by simp only [ltB, c_12, c_49, c_54, c_68, not_false_eq_true, not_true_eq_false, and_self, and_true, true_and, and_false, false_and, or_true, true_or, or_false, false_or, Bool.false_eq_true, if_true, if_false, ↓reduceIte]
                have hl : lv_has ls 7 [(5, .int (nI (k + 1))), (4, .int (ltB (fun i => (hA σ 4 0 0 i = g) ∧ ((¬ known < hA σ 5 1 0 i) ∧ (¬ day < hA σ 5 0 0 i))) (hA σ 5 0 0) (k + 1))), (0, .ref (hO E 4)), (1, .int g), (2, .int known), (3, .int day)] := by
                  rw [← q7]
                  exact lv_sub hl [0, 1, 3, 4, 5, 6] rfl
                exact ih6 (k + 1) hk1 (by omega) _ _ _ M hl
        refine lv_icmp_ne (tgt := 44) C.1 C.2.1 dX3_worthOf_23 (by decide) (fun c_23 => ?_) (fun c_23 => ?_)
        · skip
          refine lv_iconst (v := 0) C.1 C.2.1 dX3_worthOf_44 (by decide) ?_
          exact J2 _ (by first | (simp only [bz, c_23, not_false_eq_true, not_true_eq_false, and_self, and_true, true_and, and_false, false_and, or_true, true_or, or_false, false_or, Bool.false_eq_true, if_true, if_false, ↓reduceIte]; done) | simp [bz, c_23]) _ _ _ M (lv_sub hl [0, 1, 2, 3, 4, 5] rfl)
        · skip
          refine lv_aload_n C.1 C.2.1 dX3_worthOf_26 rfl (lv_at hl 2 rfl) ?_
          refine g_getO C M 4 2 5 (by decide) rfl rfl (by decide) fl3_23 dX3_worthOf_27 ?_
          refine lv_iload C.1 C.2.1 dX3_worthOf_30 (lv_at hl 0 rfl) ?_
          refine lv_iload_n C.1 C.2.1 dX3_worthOf_32 rfl (lv_at hl 4 rfl) ?_
          refine lv_iload_n C.1 C.2.1 dX3_worthOf_33 rfl (lv_at hl 5 rfl) ?_
          refine g_calli M (g_runV (As := [.int (nI k), .int known, .int day]) (rest := []) C M 5 (x_tholds l E σ Z 5 60 (by decide) rfl rfl (by decide) (nI k) k (nI_clamp (by omega)) (vp_in_nI (by omega) (by decide)) known day) clX10_holds ivX10_holds lk3_35 (by decide) rfl rfl ⟨Nat.le_of_ble_eq_true rfl, Nat.le_of_ble_eq_true rfl⟩ hl.1 rfl (Nat.le_of_ble_eq_true rfl) dX3_worthOf_34 ⟨Nat.le_of_ble_eq_true rfl, Nat.le_of_ble_eq_true rfl⟩) (fun r8 u H locs hR M => ?_)
          refine W.widen (k := 0) (n := 0) (Nat.le_of_ble_eq_true rfl) (Nat.le_of_ble_eq_true rfl) ?_
          obtain ⟨rfl, rfl⟩ := hR
          have M : hM E A s H locs σ Z := M
          refine lv_if_eq (tgt := 44) C.1 C.2.1 dX3_worthOf_37 (by decide) (fun c_37 => ?_) (fun c_37 => ?_)
          · skip
            have c_37 : ¬ ((¬ known < hA σ 5 1 0 k) ∧ (¬ day < hA σ 5 0 0 k)) := bz_0.mp c_37
            refine lv_iconst (v := 0) C.1 C.2.1 dX3_worthOf_44 (by decide) ?_
            exact J2 _ (by first | (simp only [bz, c_23, c_37, not_false_eq_true, not_true_eq_false, and_self, and_true, true_and, and_false, false_and, or_true, true_or, or_false, false_or, Bool.false_eq_true, if_true, if_false, ↓reduceIte]; done) | simp [bz, c_23, c_37]) _ _ _ M (lv_sub hl [0, 1, 2, 3, 4, 5] rfl)
          · skip
            have c_37 : ((¬ known < hA σ 5 1 0 k) ∧ (¬ day < hA σ 5 0 0 k)) := bz_ne0.mp c_37
            refine lv_iconst (v := 1) C.1 C.2.1 dX3_worthOf_40 (by decide) ?_
            refine lv_goto (tgt := 45) C.1 C.2.1 dX3_worthOf_41 (by decide) ?_
            exact J2 _ (by first | (simp only [bz, c_23, c_37, not_false_eq_true, not_true_eq_false, and_self, and_true, true_and, and_false, false_and, or_true, true_or, or_false, false_or, Bool.false_eq_true, if_true, if_false, ↓reduceIte]; done) | simp [bz, c_23, c_37]) _ _ _ M (lv_sub hl [0, 1, 2, 3, 4, 5] rfl)
  have q9 : 0 = nI 0 := by rfl
  have q10 : (-1) = ltB (fun i => (hA σ 4 0 0 i = g) ∧ ((¬ known < hA σ 5 1 0 i) ∧ (¬ day < hA σ 5 0 0 i))) (hA σ 5 0 0) 0 := by rfl
  have hl : lv_has ls 7 [(5, .int (nI 0)), (4, .int (ltB (fun i => (hA σ 4 0 0 i = g) ∧ ((¬ known < hA σ 5 1 0 i) ∧ (¬ day < hA σ 5 0 0 i))) (hA σ 5 0 0) 0)), (0, .ref (hO E 4)), (1, .int g), (2, .int known), (3, .int day)] := by
    rw [← q9, ← q10]
    exact lv_sub hl [0, 1, 2, 3, 4, 5] rfl
  exact L6 ((n - 0) + 1) 0 (Nat.zero_le _) (Nat.lt_succ_self _) _ _ _ M hl

set_option maxHeartbeats 4000000 in
set_option maxRecDepth 100000 in
theorem x_gall (l : Launch) (E : hEnv) (σ : hMem) (Z : va_W) (n : Nat) (hn : hI σ 4 3 = nI n) (hn60 : n ≤ 60) (known day : Int32) : hMet l yX3_worthOfAll cX3_worthOfAll 6 (some .long) (2, 0, 0, 49) E σ Z [.ref (hO E 4), .int known, .int day] (hQl E (fun r u => r = cWs σ n known day 10 ∧ u = (σ, Z))) := by
  refine hMet.of (by decide) (Nat.le_of_ble_eq_true rfl) (fun p e s m below meth c A ls C M hr hlk hl => ?_)
  have hl : lv_has ls 6 [(0, .ref (hO E 4)), (1, .int known), (2, .int day)] := hl
  refine lv_lconst (v := 0) C.1 C.2.1 dX3_worthOfAll_0 (by decide) ?_
  refine lv_lstore_n (lv' := [(3, .long 0), (0, .ref (hO E 4)), (1, .int known), (2, .int day)]) C.1 C.2.1 dX3_worthOfAll_1 rfl hl (by decide) rfl (fun ls hl => ?_)
  refine lv_iconst (v := 0) C.1 C.2.1 dX3_worthOfAll_2 (by decide) ?_
  refine lv_istore (lv' := [(5, .int 0), (3, .long 0), (0, .ref (hO E 4)), (1, .int known), (2, .int day)]) C.1 C.2.1 dX3_worthOfAll_3 hl (by decide) rfl (fun ls hl => ?_)
  have L5 : ∀ (n9 : Nat) (k : Nat), (k ≤ 10) → 10 - k < n9 → ∀ (H : Heap) (locs : List Loc) (ls : Array Slot), hM E A s H locs σ Z → lv_has ls 6 [(5, .int (nI k)), (3, .long (cWs σ n known day k)), (0, .ref (hO E 4)), (1, .int known), (2, .int day)] → W p l e (hRm (2, 0, 0, 49)) s m [.ref (hO E 4), .int known, .int day].toArray below meth c H locs 0 0 (MQ below (hQl E (fun r u => r = cWs σ n known day 10 ∧ u = (σ, Z)) A) [.ref (hO E 4), .int known, .int day].toArray s 0 0 A) (F0 m 5 ls []) := by
    intro n9
    induction n9 with
    | zero =>
      intro k hk hn9
      exact absurd hn9 (Nat.not_lt_zero _)
    | succ n9 ih5 =>
      intro k hk hn5 H locs ls M hl
      refine lv_iload C.1 C.2.1 dX3_worthOfAll_5 (lv_at hl 0 rfl) ?_
      refine lv_bipush (v := 10) C.1 C.2.1 dX3_worthOfAll_7 (by decide) ?_
      refine lv_icmp_ge (tgt := 30) C.1 C.2.1 dX3_worthOfAll_9 (by decide) (fun c_9 => ?_) (fun c_9 => ?_)
      · skip
        have hkn : k = 10 := by have := ct_ge (n := 10) (k := k) c_9; omega
        have hl : lv_has ls 6 [(5, .int (nI 10)), (3, .long (cWs σ n known day 10)), (0, .ref (hO E 4)), (1, .int known), (2, .int day)] := by first | exact hl | (rw [hkn] at hl; exact hl)
        have M : hM E A s H locs σ Z := by first | exact M | (rw [hkn] at M; exact M)
        refine lv_lload_n C.1 C.2.1 dX3_worthOfAll_30 rfl (lv_at hl 1 rfl) ?_
        refine g_lret C M hr hlk ?_ (Nat.le_of_ble_eq_true rfl) (Nat.le_of_ble_eq_true rfl) dX3_worthOfAll_31
        exact ⟨rfl, rfl⟩
      · skip
        have hk1 : k < 10 := ct_nge (n := 10) (k := k) c_9
        refine lv_lload_n C.1 C.2.1 dX3_worthOfAll_12 rfl (lv_at hl 1 rfl) ?_
        refine lv_aload_n C.1 C.2.1 dX3_worthOfAll_13 rfl (lv_at hl 2 rfl) ?_
        refine lv_iload C.1 C.2.1 dX3_worthOfAll_14 (lv_at hl 0 rfl) ?_
        refine lv_iload_n C.1 C.2.1 dX3_worthOfAll_16 rfl (lv_at hl 3 rfl) ?_
        refine lv_iload_n C.1 C.2.1 dX3_worthOfAll_17 rfl (lv_at hl 4 rfl) ?_
        refine g_calli M (g_runV (As := [.int (nI k), .int known, .int day]) (rest := [.long (cWs σ n known day k)]) C M 4 (x_gwo l E σ Z n hn hn60 (nI k) known day) clX3_worthOf ivX3_worthOf lk3_43 (by decide) rfl rfl ⟨Nat.le_of_ble_eq_true rfl, Nat.le_of_ble_eq_true rfl⟩ hl.1 rfl (Nat.le_of_ble_eq_true rfl) dX3_worthOfAll_18 ⟨Nat.le_of_ble_eq_true rfl, Nat.le_of_ble_eq_true rfl⟩) (fun r1 u H locs hR M => ?_)
        refine W.widen (k := 0) (n := 0) (Nat.le_of_ble_eq_true rfl) (Nat.le_of_ble_eq_true rfl) ?_
        obtain ⟨rfl, rfl⟩ := hR
        have M : hM E A s H locs σ Z := M
        refine lv_i2l C.1 C.2.1 dX3_worthOfAll_21 rfl ?_
        refine lv_ladd C.1 C.2.1 dX3_worthOfAll_22 ?_
        refine lv_lstore_n (lv' := [(3, .long ((cWs σ n known day k) + ((cWo σ n (nI k) known day).toInt64))), (5, .int (nI k)), (0, .ref (hO E 4)), (1, .int known), (2, .int day)]) C.1 C.2.1 dX3_worthOfAll_23 rfl hl (by decide) rfl (fun ls hl => ?_)
        refine lv_iinc (v := nI (k + 1)) (lv' := [(5, .int (nI (k + 1))), (3, .long ((cWs σ n known day k) + ((cWo σ n (nI k) known day).toInt64))), (0, .ref (hO E 4)), (1, .int known), (2, .int day)]) C.1 C.2.1 dX3_worthOfAll_24 hl (k := 1) rfl (nI_succ _).symm (by decide) rfl (fun ls hl => ?_)
        refine lv_goto (tgt := 5) C.1 C.2.1 dX3_worthOfAll_27 (by decide) ?_
        have q2 : (cWs σ n known day k) + ((cWo σ n (nI k) known day).toInt64) = cWs σ n known day (k + 1) := by rfl
        have hl : lv_has ls 6 [(5, .int (nI (k + 1))), (3, .long (cWs σ n known day (k + 1))), (0, .ref (hO E 4)), (1, .int known), (2, .int day)] := by
          rw [← q2]
          exact lv_sub hl [0, 1, 2, 3, 4] rfl
        exact ih5 (k + 1) hk1 (by omega) _ _ _ M hl
  have q3 : 0 = nI 0 := by rfl
  have q4 : 0 = cWs σ n known day 0 := by rfl
  have hl : lv_has ls 6 [(5, .int (nI 0)), (3, .long (cWs σ n known day 0)), (0, .ref (hO E 4)), (1, .int known), (2, .int day)] := by
    rw [← q3, ← q4]
    exact lv_sub hl [0, 1, 2, 3, 4] rfl
  exact L5 ((10 - 0) + 1) 0 (Nat.zero_le _) (Nat.lt_succ_self _) _ _ _ M hl

set_option maxHeartbeats 4000000 in
set_option maxRecDepth 100000 in
theorem x_cclear (l : Launch) (E : hEnv) (σ : hMem) (Z : va_W) (j : Nat) (hj : j < 44) (hL : hLay j = layCrew) (hC : hCi j = 2) : hMet l yX2_clear cX2_clear 1 none (0, 0, 0, 0) E σ Z [.ref (hO E j)] (hQv E (fun u => u = (sI (sI σ j 1 0) j 2 0, Z))) := by
  refine hMet.of (by decide) (Nat.le_of_ble_eq_true rfl) (fun p e s m below meth c A ls C M hr hlk hl => ?_)
  have hl : lv_has ls 1 [(0, .ref (hO E j))] := hl
  refine lv_aload_n C.1 C.2.1 dX2_clear_0 rfl (lv_at hl 0 rfl) ?_
  refine lv_iconst (v := 0) C.1 C.2.1 dX2_clear_1 (by decide) ?_
  refine g_putI C M j 1 hj (by rw [hL]; rfl) (by rw [hC]; rfl) (by decide) fl2_15 rfl (by rw [hC]; rfl) dX2_clear_2 (fun H locs M => ?_)
  refine lv_aload_n C.1 C.2.1 dX2_clear_5 rfl (lv_at hl 0 rfl) ?_
  refine lv_iconst (v := 0) C.1 C.2.1 dX2_clear_6 (by decide) ?_
  refine g_putI C M j 2 hj (by rw [hL]; rfl) (by rw [hC]; rfl) (by decide) fl2_19 rfl (by rw [hC]; rfl) dX2_clear_7 (fun H locs M => ?_)
  refine g_vret C M hr hlk ?_ (Nat.le_of_ble_eq_true rfl) (Nat.le_of_ble_eq_true rfl) dX2_clear_10
  rfl

set_option maxHeartbeats 4000000 in
set_option maxRecDepth 100000 in
theorem x_cadd (l : Launch) (E : hEnv) (σ : hMem) (Z : va_W) (j : Nat) (hj : j < 44) (hL : hLay j = layCrew) (hC : hCi j = 2) (h : Nat) (hh : hI σ j 1 = nI h) (hh6 : h < 60) (w9 : Int32) : hMet l yX2_add cX2_add 2 none (0, 0, 0, 0) E σ Z [.ref (hO E j), .int w9] (hQv E (fun u => u = (sI (sI (sA σ j 0 0 (upd (hA σ j 0 0) h w9)) j 1 (nI (h + 1))) j 2 (hI σ j 2 + w9), Z))) := by
  refine hMet.of (by decide) (Nat.le_of_ble_eq_true rfl) (fun p e s m below meth c A ls C M hr hlk hl => ?_)
  have hl : lv_has ls 2 [(0, .ref (hO E j)), (1, .int w9)] := hl
  refine lv_aload_n C.1 C.2.1 dX2_add_0 rfl (lv_at hl 0 rfl) ?_
  refine g_getI C M j 1 hj (by rw [hL]; rfl) (by rw [hC]; rfl) (by decide) fl2_15 (v := nI h) hh dX2_add_1 ?_
  refine lv_bipush (v := 60) C.1 C.2.1 dX2_add_4 (by decide) ?_
  refine lv_icmp_ge (tgt := 39) C.1 C.2.1 dX2_add_6 (by decide) (fun c_6 => ?_) (fun c_6 => ?_)
  · skip
    exact absurd (ct_ge (n := 60) (k := h) c_6) (by omega)
  · skip
    refine lv_aload_n C.1 C.2.1 dX2_add_9 rfl (lv_at hl 0 rfl) ?_
    refine g_getA C M j 0 hj (by rw [hL]; rfl) (by rw [hC]; rfl) (by decide) fl2_9 dX2_add_10 ?_
    refine lv_aload_n C.1 C.2.1 dX2_add_13 rfl (lv_at hl 0 rfl) ?_
    refine g_getI C M j 1 hj (by rw [hL]; rfl) (by rw [hC]; rfl) (by decide) fl2_15 (v := nI h) hh dX2_add_14 ?_
    refine lv_iload_n C.1 C.2.1 dX2_add_17 rfl (lv_at hl 1 rfl) ?_
    refine g_iast C M j 0 hj (by rw [hL]; rfl) h (nI_clamp (by omega)) (vp_in_nI (by omega) (by decide)) dX2_add_18 (fun H locs M => ?_)
    have M : hM E A s H locs (sA σ j 0 0 (upd (hA σ j 0 0) h w9)) Z := M
    refine lv_aload_n C.1 C.2.1 dX2_add_19 rfl (lv_at hl 0 rfl) ?_
    refine lv_dup C.1 C.2.1 dX2_add_20 rfl ?_
    refine g_getI C M j 1 hj (by rw [hL]; rfl) (by rw [hC]; rfl) (by decide) fl2_15 (v := nI h) hh dX2_add_21 ?_
    refine lv_iconst (v := 1) C.1 C.2.1 dX2_add_24 (by decide) ?_
    refine lv_iadd C.1 C.2.1 dX2_add_25 ?_
    refine g_rei (v := nI (h + 1)) (nI_1 _) ?_
    refine g_putI C M j 1 hj (by rw [hL]; rfl) (by rw [hC]; rfl) (by decide) fl2_15 rfl (by rw [hC]; rfl) dX2_add_26 (fun H locs M => ?_)
    refine lv_aload_n C.1 C.2.1 dX2_add_29 rfl (lv_at hl 0 rfl) ?_
    refine lv_dup C.1 C.2.1 dX2_add_30 rfl ?_
    refine g_getI C M j 2 hj (by rw [hL]; rfl) (by rw [hC]; rfl) (by decide) fl2_19 (v := hI σ j 2) rfl dX2_add_31 ?_
    refine lv_iload_n C.1 C.2.1 dX2_add_34 rfl (lv_at hl 1 rfl) ?_
    refine lv_iadd C.1 C.2.1 dX2_add_35 ?_
    refine g_putI C M j 2 hj (by rw [hL]; rfl) (by rw [hC]; rfl) (by decide) fl2_19 rfl (by rw [hC]; rfl) dX2_add_36 (fun H locs M => ?_)
    refine g_vret C M hr hlk ?_ (Nat.le_of_ble_eq_true rfl) (Nat.le_of_ble_eq_true rfl) dX2_add_39
    rfl

/-- the first k summed -/
def sumI (f : Nat → Int32) : Nat → Int32
  | 0 => 0
  | k + 1 => sumI f k + f k
def cCrw (σ : hMem) (j : Nat) (w : Nat → Int32) (k : Nat) : hMem := sI (sI (sA σ j 0 0 (pre w (hA σ j 0 0) k)) j 1 (nI k)) j 2 (sumI w k)
theorem cCrw_0 (σ : hMem) (j : Nat) (w : Nat → Int32) : sI (sI σ j 1 0) j 2 0 = cCrw σ j w 0 := by
  unfold cCrw
  rw [← pre_0, ← sA_self]
  rfl
theorem sI_sA_c (σ : hMem) (j k a b i : Nat) (v : Int32) (f : Nat → Int32) : sI (sA σ a b i f) j k v = sA (sI σ j k v) a b i f := rfl
theorem sI_sI_c (σ : hMem) (j k a b : Nat) (v w : Int32) (h : ¬ (b = k ∧ a = j)) : sI (sI σ a b w) j k v = sI (sI σ j k v) a b w := by
  unfold sI
  congr 1
  funext x y
  by_cases h1 : y = k ∧ x = j
  · by_cases h2 : y = b ∧ x = a
    · exact absurd ⟨h2.1.symm.trans h1.1, h2.2.symm.trans h1.2⟩ h
    · simp [h1, h2] <;> (intro q1 q2; exact absurd ⟨q1.symm, q2.symm⟩ h)
  · simp [h1]
theorem cCrw_h (σ : hMem) (j : Nat) (w : Nat → Int32) (k : Nat) : hI (cCrw σ j w k) j 1 = nI k := by simp [cCrw, hI_sI]
theorem cCrw_s (σ : hMem) (j : Nat) (w : Nat → Int32) (k : Nat) : sI (sI (sA (cCrw σ j w k) j 0 0 (upd (hA (cCrw σ j w k) j 0 0) k (w k))) j 1 (nI (k + 1))) j 2 (hI (cCrw σ j w k) j 2 + w k) = cCrw σ j w (k + 1) := by
  have e1 : hA (cCrw σ j w k) j 0 0 = pre w (hA σ j 0 0) k := by simp [cCrw, hA_sI, hA_sA]
  have e2 : hI (cCrw σ j w k) j 2 = sumI w k := by simp [cCrw, hI_sI]
  rw [e1, e2, pre_s]
  show sI (sI (sA (sI (sI (sA σ j 0 0 (pre w (hA σ j 0 0) k)) j 1 (nI k)) j 2 (sumI w k)) j 0 0 (pre w (hA σ j 0 0) (k + 1))) j 1 (nI (k + 1))) j 2 (sumI w (k + 1)) = cCrw σ j w (k + 1)
  rw [← sI_sA_c, ← sI_sA_c, sA_sA, sI_sI_c _ j 1 j 2 _ _ (fun h => absurd h.1 (by decide)), sI_sI, sI_sI]
  rfl

set_option maxHeartbeats 4000000 in
set_option maxRecDepth 100000 in
theorem x_ccopy (l : Launch) (E : hEnv) (σ : hMem) (Z : va_W) (j : Nat) (hj : j < 44) (hL : hLay j = layCrew) (hC : hCi j = 2) (j2 : Nat) (hj2 : j2 < 44) (hL2 : hLay j2 = layCrew) (hC2 : hCi j2 = 2) (hne : j2 ≠ j) (h : Nat) (hh : hI σ j2 1 = nI h) (hh6 : h ≤ 60) : hMet l yX2_copy cX2_copy 3 none (1, 0, 0, 21) E σ Z [.ref (hO E j), .ref (hO E j2)] (hQv E (fun u => u = (cCrw σ j (hA σ j2 0 0) h, Z))) := by
  refine hMet.of (by decide) (Nat.le_of_ble_eq_true rfl) (fun p e s m below meth c A ls C M hr hlk hl => ?_)
  have hl : lv_has ls 3 [(0, .ref (hO E j)), (1, .ref (hO E j2))] := hl
  refine lv_aload_n C.1 C.2.1 dX2_copy_0 rfl (lv_at hl 0 rfl) ?_
  refine g_callv M (g_runV (As := []) (rest := []) C M j (x_cclear l E σ Z j hj hL hC) clX2_clear ivX2_clear lk2_22 hj (by rw [hC]; rfl) rfl ⟨Nat.le_of_ble_eq_true rfl, Nat.le_of_ble_eq_true rfl⟩ hl.1 rfl (Nat.le_of_ble_eq_true rfl) dX2_copy_1 ⟨Nat.le_of_ble_eq_true rfl, Nat.le_of_ble_eq_true rfl⟩) (fun u H locs hR M => ?_)
  refine W.widen (k := 0) (n := 0) (Nat.le_of_ble_eq_true rfl) (Nat.le_of_ble_eq_true rfl) ?_
  subst hR
  have M : hM E A s H locs (sI (sI σ j 1 0) j 2 0) Z := M
  refine lv_iconst (v := 0) C.1 C.2.1 dX2_copy_4 (by decide) ?_
  refine lv_istore_n (lv' := [(2, .int 0), (0, .ref (hO E j)), (1, .ref (hO E j2))]) C.1 C.2.1 dX2_copy_5 rfl hl (by decide) rfl (fun ls hl => ?_)
  have L6 : ∀ (n9 : Nat) (k : Nat), (k ≤ h) → h - k < n9 → ∀ (H : Heap) (locs : List Loc) (ls : Array Slot), hM E A s H locs (cCrw σ j (hA σ j2 0 0) k) Z → lv_has ls 3 [(2, .int (nI k)), (0, .ref (hO E j)), (1, .ref (hO E j2))] → W p l e (hRm (1, 0, 0, 21)) s m [.ref (hO E j), .ref (hO E j2)].toArray below meth c H locs 0 0 (MQ below (hQv E (fun u => u = (cCrw σ j (hA σ j2 0 0) h, Z)) A) [.ref (hO E j), .ref (hO E j2)].toArray s 0 0 A) (F0 m 6 ls []) := by
    intro n9
    induction n9 with
    | zero =>
      intro k hk hn9
      exact absurd hn9 (Nat.not_lt_zero _)
    | succ n9 ih6 =>
      intro k hk hn6 H locs ls M hl
      refine lv_iload_n C.1 C.2.1 dX2_copy_6 rfl (lv_at hl 0 rfl) ?_
      refine lv_aload_n C.1 C.2.1 dX2_copy_7 rfl (lv_at hl 2 rfl) ?_
      refine g_getI C M j2 1 hj2 (by rw [hL2]; rfl) (by rw [hC2]; rfl) (by decide) fl2_15 (v := nI h) (by simp [cCrw, hI_sI, hI_sA, hne, hh]) dX2_copy_8 ?_
      refine lv_icmp_ge (tgt := 30) C.1 C.2.1 dX2_copy_11 (by decide) (fun c_11 => ?_) (fun c_11 => ?_)
      · skip
        have hkn : k = h := by have := ct_ge (n := h) (k := k) c_11; omega
        have hl : lv_has ls 3 [(2, .int (nI h)), (0, .ref (hO E j)), (1, .ref (hO E j2))] := by first | exact hl | (rw [hkn] at hl; exact hl)
        have M : hM E A s H locs (cCrw σ j (hA σ j2 0 0) h) Z := by first | exact M | (rw [hkn] at M; exact M)
        refine g_vret C M hr hlk ?_ (Nat.le_of_ble_eq_true rfl) (Nat.le_of_ble_eq_true rfl) dX2_copy_30
        rfl
      · skip
        have hk1 : k < h := ct_nge (n := h) (k := k) c_11
        refine lv_aload_n C.1 C.2.1 dX2_copy_14 rfl (lv_at hl 1 rfl) ?_
        refine lv_aload_n C.1 C.2.1 dX2_copy_15 rfl (lv_at hl 2 rfl) ?_
        refine g_getA C M j2 0 hj2 (by rw [hL2]; rfl) (by rw [hC2]; rfl) (by decide) fl2_9 dX2_copy_16 ?_
        refine lv_iload_n C.1 C.2.1 dX2_copy_19 rfl (lv_at hl 0 rfl) ?_
        refine g_iald C M j2 0 hj2 (by rw [hL2]; rfl) k (nI_clamp (by omega)) (vp_in_nI (by omega) (by decide)) (v := hA σ j2 0 0 k) (by simp [cCrw, hA_sI, hA_sA, hne]) dX2_copy_20 ?_
        refine g_callv M (g_runV (As := [.int (hA σ j2 0 0 k)]) (rest := []) C M j (x_cadd l E (cCrw σ j (hA σ j2 0 0) k) Z j hj hL hC k (cCrw_h _ _ _ _) (by omega) (hA σ j2 0 0 k)) clX2_add ivX2_add lk2_25 hj (by rw [hC]; rfl) rfl ⟨Nat.le_of_ble_eq_true rfl, Nat.le_of_ble_eq_true rfl⟩ hl.1 rfl (Nat.le_of_ble_eq_true rfl) dX2_copy_21 ⟨Nat.le_of_ble_eq_true rfl, Nat.le_of_ble_eq_true rfl⟩) (fun u H locs hR M => ?_)
        refine W.widen (k := 0) (n := 0) (Nat.le_of_ble_eq_true rfl) (Nat.le_of_ble_eq_true rfl) ?_
        subst hR
        have M : hM E A s H locs (cCrw σ j (hA σ j2 0 0) (k + 1)) Z := by rw [← cCrw_s]; exact M
        refine lv_iinc (v := nI (k + 1)) (lv' := [(2, .int (nI (k + 1))), (0, .ref (hO E j)), (1, .ref (hO E j2))]) C.1 C.2.1 dX2_copy_24 hl (k := 0) rfl (nI_succ _).symm (by decide) rfl (fun ls hl => ?_)
        refine lv_goto (tgt := 6) C.1 C.2.1 dX2_copy_27 (by decide) ?_
        exact ih6 (k + 1) hk1 (by omega) _ _ _ M (lv_sub hl [0, 1, 2] rfl)
  have q1 : 0 = nI 0 := by rfl
  have hl : lv_has ls 3 [(2, .int (nI 0)), (0, .ref (hO E j)), (1, .ref (hO E j2))] := by
    rw [← q1]
    exact lv_sub hl [0, 1, 2] rfl
  have q2 : (sI (sI σ j 1 0) j 2 0) = (cCrw σ j (hA σ j2 0 0) 0) := by exact cCrw_0 _ _ _
  rw [q2] at M
  exact L6 ((h - 0) + 1) 0 (Nat.zero_le _) (Nat.lt_succ_self _) _ _ _ M hl
