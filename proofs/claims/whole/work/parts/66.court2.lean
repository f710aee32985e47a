def cHw (a b c d : Int64) (k : Nat) : Int32 := ((((if nI (k / 16) = 0 then a else (if nI (k / 16) = 1 then b else (if nI (k / 16) = 2 then c else d))).toUInt64 >>> ((nI (4 * (k % 16))).toInt64.toUInt64 &&& Int64.toUInt64 63)).toInt64).toInt32) &&& 15

set_option maxHeartbeats 4000000 in
set_option maxRecDepth 100000 in
theorem x_hw (l : Launch) (E : hEnv) (σ : hMem) (Z : va_W) (k : Nat) (hk : k < 60) (a b c9 d : Int64) : hMet l yX11_handWeight cX11_handWeight 12 (some .int) (0, 0, 0, 0) E σ Z [.int (nI k), .long a, .long b, .long c9, .long d] (hQi E (fun r u => r = cHw a b c9 d k ∧ u = (σ, Z))) := by
  refine hMet.of (by decide) (Nat.le_of_ble_eq_true rfl) (fun p e s m below meth c A ls C M hr hlk hl => ?_)
  have hl : lv_has ls 12 [(0, .int (nI k)), (1, .long a), (3, .long b), (5, .long c9), (7, .long d)] := hl
  generalize s.heap = H at M ⊢
  generalize ([] : List Loc) = locs at M ⊢
  refine lv_iload_n C.1 C.2.1 dX11_handWeight_0 rfl (lv_at hl 0 rfl) ?_
  refine lv_bipush (v := 16) C.1 C.2.1 dX11_handWeight_1 (by decide) ?_
  refine lv_idiv C.1 C.2.1 dX11_handWeight_3 (by decide) ?_
  refine g_rei (v := nI (k / 16)) (pk_div (d := 16) (by omega) (by decide) (by decide)) ?_
  refine lv_istore (lv' := [(9, .int (nI (k / 16))), (0, .int (nI k)), (1, .long a), (3, .long b), (5, .long c9), (7, .long d)]) C.1 C.2.1 dX11_handWeight_4 hl (by decide) rfl (fun ls hl => ?_)
  refine lv_iload C.1 C.2.1 dX11_handWeight_6 (lv_at hl 0 rfl) ?_
  have J2 : ∀ (v1 : Int64) (ev1 : v1 = (if (nI (k / 16)) = 0 then a else (if (nI (k / 16)) = 1 then b else (if (nI (k / 16)) = 2 then c9 else d)))) (H : Heap) (locs : List Loc) (ls : Array Slot), hM E A s H locs σ Z → lv_has ls 12 [(9, .int (nI (k / 16))), (0, .int (nI k)), (1, .long a), (3, .long b), (5, .long c9), (7, .long d)] → W p l e (hRm (0, 0, 0, 0)) s m [.int (nI k), .long a, .long b, .long c9, .long d].toArray below meth c H locs 0 0 (MQ below (hQi E (fun r u => r = cHw a b c9 d k ∧ u = (σ, Z)) A) [.int (nI k), .long a, .long b, .long c9, .long d].toArray s 0 0 A) (F0 m 38 ls [.long v1]) := by
    intro v1 ev1 H locs ls M hl
    subst ev1
    refine lv_lstore (lv' := [(10, .long (if (nI (k / 16)) = 0 then a else (if (nI (k / 16)) = 1 then b else (if (nI (k / 16)) = 2 then c9 else d)))), (9, .int (nI (k / 16))), (0, .int (nI k)), (1, .long a), (3, .long b), (5, .long c9), (7, .long d)]) C.1 C.2.1 dX11_handWeight_38 hl (by decide) rfl (fun ls hl => ?_)
    refine lv_lload C.1 C.2.1 dX11_handWeight_40 (lv_at hl 0 rfl) ?_
    refine lv_iconst (v := 4) C.1 C.2.1 dX11_handWeight_42 (by decide) ?_
    refine lv_iload_n C.1 C.2.1 dX11_handWeight_43 rfl (lv_at hl 2 rfl) ?_
    refine lv_bipush (v := 16) C.1 C.2.1 dX11_handWeight_44 (by decide) ?_
    refine lv_irem C.1 C.2.1 dX11_handWeight_46 (by decide) ?_
    refine g_rei (v := nI (k % 16)) (pk_rem (d := 16) (by omega) (by decide) (by decide)) ?_
    refine lv_imul C.1 C.2.1 dX11_handWeight_47 ?_
    refine g_rei (v := nI (4 * (k % 16))) (pk_mul 4 _) ?_
    refine lv_lushr C.1 C.2.1 dX11_handWeight_48 rfl ?_
    refine lv_l2i C.1 C.2.1 dX11_handWeight_49 rfl ?_
    refine lv_bipush (v := 15) C.1 C.2.1 dX11_handWeight_50 (by decide) ?_
    refine lv_iand C.1 C.2.1 dX11_handWeight_52 ?_
    refine g_iret C M hr hlk ?_ (Nat.le_of_ble_eq_true rfl) (Nat.le_of_ble_eq_true rfl) dX11_handWeight_53
    exact ⟨rfl, rfl⟩
  refine lv_if_ne (tgt := 15) C.1 C.2.1 dX11_handWeight_8 (by decide) (fun c_8 => ?_) (fun c_8 => ?_)
  · skip
    refine lv_iload C.1 C.2.1 dX11_handWeight_15 (lv_at hl 0 rfl) ?_
    refine lv_iconst (v := 1) C.1 C.2.1 dX11_handWeight_17 (by decide) ?_
    refine lv_icmp_ne (tgt := 25) C.1 C.2.1 dX11_handWeight_18 (by decide) (fun c_18 => ?_) (fun c_18 => ?_)
    · skip
      refine lv_iload C.1 C.2.1 dX11_handWeight_25 (lv_at hl 0 rfl) ?_
      refine lv_iconst (v := 2) C.1 C.2.1 dX11_handWeight_27 (by decide) ?_
      refine lv_icmp_ne (tgt := 36) C.1 C.2.1 dX11_handWeight_28 (by decide) (fun c_28 => ?_) (fun c_28 => ?_)
      · skip
        refine lv_lload C.1 C.2.1 dX11_handWeight_36 (lv_at hl 5 rfl) ?_
        exact J2 _ (by first | (simp only [c_8, c_18, c_28, not_false_eq_true, not_true_eq_false, and_self, and_true, true_and, and_false, false_and, or_true, true_or, or_false, false_or, Bool.false_eq_true, if_true, if_false, ↓reduceIte]; done) | simp [c_8, c_18, c_28]) _ _ _ M (lv_sub hl [0, 1, 2, 3, 4, 5] rfl)
      · skip
        refine lv_lload C.1 C.2.1 dX11_handWeight_31 (lv_at hl 4 rfl) ?_
        refine lv_goto (tgt := 38) C.1 C.2.1 dX11_handWeight_33 (by decide) ?_
        exact J2 _ (by first | (simp only [c_8, c_18, c_28, not_false_eq_true, not_true_eq_false, and_self, and_true, true_and, and_false, false_and, or_true, true_or, or_false, false_or, Bool.false_eq_true, if_true, if_false, ↓reduceIte]; done) | simp [c_8, c_18, c_28]) _ _ _ M (lv_sub hl [0, 1, 2, 3, 4, 5] rfl)
    · skip
      refine lv_lload_n C.1 C.2.1 dX11_handWeight_21 rfl (lv_at hl 3 rfl) ?_
      refine lv_goto (tgt := 38) C.1 C.2.1 dX11_handWeight_22 (by decide) ?_
      exact J2 _ (by first | (simp only [c_8, c_18, not_false_eq_true, not_true_eq_false, and_self, and_true, true_and, and_false, false_and, or_true, true_or, or_false, false_or, Bool.false_eq_true, if_true, if_false, ↓reduceIte]; done) | simp [c_8, c_18]) _ _ _ M (lv_sub hl [0, 1, 2, 3, 4, 5] rfl)
  · skip
    refine lv_lload_n C.1 C.2.1 dX11_handWeight_11 rfl (lv_at hl 2 rfl) ?_
    refine lv_goto (tgt := 38) C.1 C.2.1 dX11_handWeight_12 (by decide) ?_
    exact J2 _ (by first | (simp only [c_8, not_false_eq_true, not_true_eq_false, and_self, and_true, true_and, and_false, false_and, or_true, true_or, or_false, false_or, Bool.false_eq_true, if_true, if_false, ↓reduceIte]; done) | simp [c_8]) _ _ _ M (lv_sub hl [0, 1, 2, 3, 4, 5] rfl)

set_option maxHeartbeats 4000000 in
set_option maxRecDepth 100000 in
theorem x_sheet (l : Launch) (E : hEnv) (σ : hMem) (Z : va_W) (n : Int32) (a b c9 d : Int64) : hMet l yX11_sheet cX11_sheet 11 (some .boolean) (1, 0, 0, 31) E σ Z [.ref (hO E 0), .int n, .long a, .long b, .long c9, .long d] (hQi E (fun r u => (∃ N, shtOk n N (cHw a b c9 d) ∧ r = 1 ∧ u = (cCrw σ 11 (cHw a b c9 d) N, Z)) ∨ ((∀ N, ¬ shtOk n N (cHw a b c9 d)) ∧ r = 0 ∧ u = (σ, Z)))) := by
  refine hMet.of (by decide) (Nat.le_of_ble_eq_true rfl) (fun p e s m below meth c A ls C M hr hlk hl => ?_)
  have hl : lv_has ls 11 [(0, .ref (hO E 0)), (1, .int n), (2, .long a), (4, .long b), (6, .long c9), (8, .long d)] := hl
  generalize s.heap = H at M ⊢
  generalize ([] : List Loc) = locs at M ⊢
  refine lv_iload_n C.1 C.2.1 dX11_sheet_0 rfl (lv_at hl 1 rfl) ?_
  refine lv_iconst (v := 1) C.1 C.2.1 dX11_sheet_1 (by decide) ?_
  refine lv_bipush (v := 60) C.1 C.2.1 dX11_sheet_2 (by decide) ?_
  refine g_calli M (g_runS (As := [.int n, .int 1, .int 60]) (rest := []) C M (x_within l E σ Z n 1 60) clX11_isWithin stX11_isWithin lk11_78 rfl ⟨Nat.le_of_ble_eq_true rfl, Nat.le_of_ble_eq_true rfl⟩ hl.1 rfl (Nat.le_of_ble_eq_true rfl) dX11_sheet_4 ⟨Nat.le_of_ble_eq_true rfl, Nat.le_of_ble_eq_true rfl⟩) (fun r1 u H locs hR M => ?_)
  refine W.widen (k := 0) (n := 0) (Nat.le_of_ble_eq_true rfl) (Nat.le_of_ble_eq_true rfl) ?_
  obtain ⟨rfl, rfl⟩ := hR
  have M : hM E A s H locs σ Z := M
  refine lv_if_ne (tgt := 12) C.1 C.2.1 dX11_sheet_7 (by decide) (fun c_7 => ?_) (fun c_7 => ?_)
  · skip
    have c_7 : inB n 1 60 = true := bz_ne0.mp c_7
    obtain ⟨N, hN1, hN60, hnN⟩ := nI_in1 (lo := 1) (hi := 60) c_7 rfl (by decide) (by decide)
    have hl : lv_has ls 11 [(0, .ref (hO E 0)), (1, .int (nI N)), (2, .long a), (4, .long b), (6, .long c9), (8, .long d)] := by rw [hnN] at hl; exact hl
    refine lv_iconst (v := 0) C.1 C.2.1 dX11_sheet_12 (by decide) ?_
    refine lv_istore (lv' := [(10, .int 0), (0, .ref (hO E 0)), (1, .int (nI N)), (2, .long a), (4, .long b), (6, .long c9), (8, .long d)]) C.1 C.2.1 dX11_sheet_13 hl (by decide) rfl (fun ls hl => ?_)
    have L15 : ∀ (n9 : Nat) (k : Nat), (k ≤ N) → (∀ q, q < k → inB ((cHw a b c9 d) q) 1 9 = true) → N - k < n9 → ∀ (H : Heap) (locs : List Loc) (ls : Array Slot), hM E A s H locs σ Z → lv_has ls 11 [(10, .int (nI k)), (0, .ref (hO E 0)), (1, .int (nI N)), (2, .long a), (4, .long b), (6, .long c9), (8, .long d)] → W p l e (hRm (1, 0, 0, 31)) s m [.ref (hO E 0), .int n, .long a, .long b, .long c9, .long d].toArray below meth c H locs 0 0 (MQ below (hQi E (fun r u => (∃ N, shtOk n N (cHw a b c9 d) ∧ r = 1 ∧ u = (cCrw σ 11 (cHw a b c9 d) N, Z)) ∨ ((∀ N, ¬ shtOk n N (cHw a b c9 d)) ∧ r = 0 ∧ u = (σ, Z))) A) [.ref (hO E 0), .int n, .long a, .long b, .long c9, .long d].toArray s 0 0 A) (F0 m 15 ls []) := by
      intro n9
      induction n9 with
      | zero =>
        intro k hk hall hn9
        exact absurd hn9 (Nat.not_lt_zero _)
      | succ n9 ih15 =>
        intro k hk hall hn15 H locs ls M hl
        refine lv_iload C.1 C.2.1 dX11_sheet_15 (lv_at hl 0 rfl) ?_
        refine lv_iload_n C.1 C.2.1 dX11_sheet_17 rfl (lv_at hl 2 rfl) ?_
        refine lv_icmp_ge (tgt := 50) C.1 C.2.1 dX11_sheet_18 (by decide) (fun c_18 => ?_) (fun c_18 => ?_)
        · skip
          have hkn : k = N := by have := ct_ge (n := N) (k := k) c_18; omega
          have hl : lv_has ls 11 [(10, .int (nI N)), (0, .ref (hO E 0)), (1, .int (nI N)), (2, .long a), (4, .long b), (6, .long c9), (8, .long d)] := by first | exact hl | (rw [hkn] at hl; exact hl)
          have M : hM E A s H locs σ Z := by first | exact M | (rw [hkn] at M; exact M)
          have hall9 : ∀ q, q < N → inB ((cHw a b c9 d) q) 1 9 = true := by rw [hkn] at hall; exact hall
          refine lv_aload_n C.1 C.2.1 dX11_sheet_50 rfl (lv_at hl 1 rfl) ?_
          refine g_getO C M 0 6 11 (by decide) rfl rfl (by decide) fl11_55 dX11_sheet_51 ?_
          refine g_callv M (g_runV (As := []) (rest := []) C M 11 (x_cclear l E σ Z 11 (by decide) rfl rfl) clX2_clear ivX2_clear lk11_162 (by decide) rfl rfl ⟨Nat.le_of_ble_eq_true rfl, Nat.le_of_ble_eq_true rfl⟩ hl.1 rfl (Nat.le_of_ble_eq_true rfl) dX11_sheet_54 ⟨Nat.le_of_ble_eq_true rfl, Nat.le_of_ble_eq_true rfl⟩) (fun u H locs hR M => ?_)
          refine W.widen (k := 0) (n := 0) (Nat.le_of_ble_eq_true rfl) (Nat.le_of_ble_eq_true rfl) ?_
          rw [cCrw_0 σ 11 (cHw a b c9 d)] at hR
          subst hR
          have M : hM E A s H locs (cCrw σ 11 (cHw a b c9 d) 0) Z := M
          refine lv_iconst (v := 0) C.1 C.2.1 dX11_sheet_57 (by decide) ?_
          refine lv_istore (lv' := [(10, .int 0), (0, .ref (hO E 0)), (1, .int (nI N)), (2, .long a), (4, .long b), (6, .long c9), (8, .long d)]) C.1 C.2.1 dX11_sheet_58 hl (by decide) rfl (fun ls hl => ?_)
          have L60 : ∀ (n9 : Nat) (k : Nat), (k ≤ N) → N - k < n9 → ∀ (H : Heap) (locs : List Loc) (ls : Array Slot), hM E A s H locs (cCrw σ 11 (cHw a b c9 d) k) Z → lv_has ls 11 [(10, .int (nI k)), (0, .ref (hO E 0)), (1, .int (nI N)), (2, .long a), (4, .long b), (6, .long c9), (8, .long d)] → W p l e (hRm (1, 0, 0, 31)) s m [.ref (hO E 0), .int n, .long a, .long b, .long c9, .long d].toArray below meth c H locs 0 0 (MQ below (hQi E (fun r u => (∃ N, shtOk n N (cHw a b c9 d) ∧ r = 1 ∧ u = (cCrw σ 11 (cHw a b c9 d) N, Z)) ∨ ((∀ N, ¬ shtOk n N (cHw a b c9 d)) ∧ r = 0 ∧ u = (σ, Z))) A) [.ref (hO E 0), .int n, .long a, .long b, .long c9, .long d].toArray s 0 0 A) (F0 m 60 ls []) := by
            intro n9
            induction n9 with
            | zero =>
              intro k hk hn9
              exact absurd hn9 (Nat.not_lt_zero _)
            | succ n9 ih60 =>
              intro k hk hn60 H locs ls M hl
              refine lv_iload C.1 C.2.1 dX11_sheet_60 (lv_at hl 0 rfl) ?_
              refine lv_iload_n C.1 C.2.1 dX11_sheet_62 rfl (lv_at hl 2 rfl) ?_
              refine lv_icmp_ge (tgt := 91) C.1 C.2.1 dX11_sheet_63 (by decide) (fun c_63 => ?_) (fun c_63 => ?_)
              · skip
                have hkn : k = N := by have := ct_ge (n := N) (k := k) c_63; omega
                have hl : lv_has ls 11 [(10, .int (nI N)), (0, .ref (hO E 0)), (1, .int (nI N)), (2, .long a), (4, .long b), (6, .long c9), (8, .long d)] := by first | exact hl | (rw [hkn] at hl; exact hl)
                have M : hM E A s H locs (cCrw σ 11 (cHw a b c9 d) N) Z := by first | exact M | (rw [hkn] at M; exact M)
                refine lv_iconst (v := 1) C.1 C.2.1 dX11_sheet_91 (by decide) ?_
                refine g_zret rfl C M hr hlk ?_ (Nat.le_of_ble_eq_true rfl) (Nat.le_of_ble_eq_true rfl) dX11_sheet_92
                exact Or.inl ⟨N, ⟨hnN, hN1, hN60, hall9⟩, rfl, rfl⟩
              · skip
                have hk1 : k < N := ct_nge (n := N) (k := k) c_63
                refine lv_aload_n C.1 C.2.1 dX11_sheet_66 rfl (lv_at hl 1 rfl) ?_
                refine g_getO C M 0 6 11 (by decide) rfl rfl (by decide) fl11_55 dX11_sheet_67 ?_
                refine lv_iload C.1 C.2.1 dX11_sheet_70 (lv_at hl 0 rfl) ?_
                refine lv_lload_n C.1 C.2.1 dX11_sheet_72 rfl (lv_at hl 3 rfl) ?_
                refine lv_lload C.1 C.2.1 dX11_sheet_73 (lv_at hl 4 rfl) ?_
                refine lv_lload C.1 C.2.1 dX11_sheet_75 (lv_at hl 5 rfl) ?_
                refine lv_lload C.1 C.2.1 dX11_sheet_77 (lv_at hl 6 rfl) ?_
                refine g_calli M (g_runS (As := [.int (nI k), .long a, .long b, .long c9, .long d]) (rest := [.ref (hO E 11)]) C M (x_hw l E (cCrw σ 11 (cHw a b c9 d) k) Z k (by omega) a b c9 d) clX11_handWeight stX11_handWeight lk11_158 rfl ⟨Nat.le_of_ble_eq_true rfl, Nat.le_of_ble_eq_true rfl⟩ hl.1 rfl (Nat.le_of_ble_eq_true rfl) dX11_sheet_79 ⟨Nat.le_of_ble_eq_true rfl, Nat.le_of_ble_eq_true rfl⟩) (fun r2 u H locs hR M => ?_)
                refine W.widen (k := 0) (n := 0) (Nat.le_of_ble_eq_true rfl) (Nat.le_of_ble_eq_true rfl) ?_
                obtain ⟨rfl, rfl⟩ := hR
                have M : hM E A s H locs (cCrw σ 11 (cHw a b c9 d) k) Z := M
                refine g_callv M (g_runV (As := [.int (cHw a b c9 d k)]) (rest := []) C M 11 (x_cadd l E (cCrw σ 11 (cHw a b c9 d) k) Z 11 (by decide) rfl rfl k (cCrw_h _ _ _ _) (by omega) (cHw a b c9 d k)) clX2_add ivX2_add lk11_165 (by decide) rfl rfl ⟨Nat.le_of_ble_eq_true rfl, Nat.le_of_ble_eq_true rfl⟩ hl.1 rfl (Nat.le_of_ble_eq_true rfl) dX11_sheet_82 ⟨Nat.le_of_ble_eq_true rfl, Nat.le_of_ble_eq_true rfl⟩) (fun u H locs hR M => ?_)
                refine W.widen (k := 0) (n := 0) (Nat.le_of_ble_eq_true rfl) (Nat.le_of_ble_eq_true rfl) ?_
                rw [cCrw_s] at hR
                subst hR
                have M : hM E A s H locs (cCrw σ 11 (cHw a b c9 d) (k + 1)) Z := M
                refine lv_iinc (v := nI (k + 1)) (lv' := [(10, .int (nI (k + 1))), (0, .ref (hO E 0)), (1, .int (nI N)), (2, .long a), (4, .long b), (6, .long c9), (8, .long d)]) C.1 C.2.1 dX11_sheet_85 hl (k := 0) rfl (nI_succ _).symm (by decide) rfl (fun ls hl => ?_)
                refine lv_goto (tgt := 60) C.1 C.2.1 dX11_sheet_88 (by decide) ?_
                exact ih60 (k + 1) hk1 (by omega) _ _ _ M (lv_sub hl [0, 1, 2, 3, 4, 5, 6] rfl)
          have q3 : 0 = nI 0 := by rfl
          have hl : lv_has ls 11 [(10, .int (nI 0)), (0, .ref (hO E 0)), (1, .int (nI N)), (2, .long a), (4, .long b), (6, .long c9), (8, .long d)] := by
            rw [← q3]
            exact lv_sub hl [0, 1, 2, 3, 4, 5, 6] rfl
          exact L60 ((N - 0) + 1) 0 (Nat.zero_le _) (Nat.lt_succ_self _) _ _ _ M hl
        · skip
          have hk1 : k < N := ct_nge (n := N) (k := k) c_18
          refine lv_iload C.1 C.2.1 dX11_sheet_21 (lv_at hl 0 rfl) ?_
          refine lv_lload_n C.1 C.2.1 dX11_sheet_23 rfl (lv_at hl 3 rfl) ?_
          refine lv_lload C.1 C.2.1 dX11_sheet_24 (lv_at hl 4 rfl) ?_
          refine lv_lload C.1 C.2.1 dX11_sheet_26 (lv_at hl 5 rfl) ?_
          refine lv_lload C.1 C.2.1 dX11_sheet_28 (lv_at hl 6 rfl) ?_
          refine g_calli M (g_runS (As := [.int (nI k), .long a, .long b, .long c9, .long d]) (rest := []) C M (x_hw l E σ Z k (by omega) a b c9 d) clX11_handWeight stX11_handWeight lk11_158 rfl ⟨Nat.le_of_ble_eq_true rfl, Nat.le_of_ble_eq_true rfl⟩ hl.1 rfl (Nat.le_of_ble_eq_true rfl) dX11_sheet_30 ⟨Nat.le_of_ble_eq_true rfl, Nat.le_of_ble_eq_true rfl⟩) (fun r4 u H locs hR M => ?_)
          refine W.widen (k := 0) (n := 0) (Nat.le_of_ble_eq_true rfl) (Nat.le_of_ble_eq_true rfl) ?_
          obtain ⟨rfl, rfl⟩ := hR
          have M : hM E A s H locs σ Z := M
          refine lv_iconst (v := 1) C.1 C.2.1 dX11_sheet_33 (by decide) ?_
          refine lv_bipush (v := 9) C.1 C.2.1 dX11_sheet_34 (by decide) ?_
          refine g_calli M (g_runS (As := [.int (cHw a b c9 d k), .int 1, .int 9]) (rest := []) C M (x_within l E σ Z (cHw a b c9 d k) 1 9) clX11_isWithin stX11_isWithin lk11_78 rfl ⟨Nat.le_of_ble_eq_true rfl, Nat.le_of_ble_eq_true rfl⟩ hl.1 rfl (Nat.le_of_ble_eq_true rfl) dX11_sheet_36 ⟨Nat.le_of_ble_eq_true rfl, Nat.le_of_ble_eq_true rfl⟩) (fun r5 u H locs hR M => ?_)
          refine W.widen (k := 0) (n := 0) (Nat.le_of_ble_eq_true rfl) (Nat.le_of_ble_eq_true rfl) ?_
          obtain ⟨rfl, rfl⟩ := hR
          have M : hM E A s H locs σ Z := M
          refine lv_if_ne (tgt := 44) C.1 C.2.1 dX11_sheet_39 (by decide) (fun c_39 => ?_) (fun c_39 => ?_)
          · skip
            have c_39 : inB (cHw a b c9 d k) 1 9 = true := bz_ne0.mp c_39
            refine lv_iinc (v := nI (k + 1)) (lv' := [(10, .int (nI (k + 1))), (0, .ref (hO E 0)), (1, .int (nI N)), (2, .long a), (4, .long b), (6, .long c9), (8, .long d)]) C.1 C.2.1 dX11_sheet_44 hl (k := 0) rfl (nI_succ _).symm (by decide) rfl (fun ls hl => ?_)
            refine lv_goto (tgt := 15) C.1 C.2.1 dX11_sheet_47 (by decide) ?_
            exact ih15 (k + 1) hk1 (fun q hq => by by_cases e9 : q = k; rw [e9]; exact c_39; exact hall q (by omega)) (by omega) _ _ _ M (lv_sub hl [0, 1, 2, 3, 4, 5, 6] rfl)
          · skip
            have c_39 : ¬ inB (cHw a b c9 d k) 1 9 = true := bz_0.mp c_39
            refine lv_iconst (v := 0) C.1 C.2.1 dX11_sheet_42 (by decide) ?_
            refine g_zret rfl C M hr hlk ?_ (Nat.le_of_ble_eq_true rfl) (Nat.le_of_ble_eq_true rfl) dX11_sheet_43
            exact Or.inr ⟨fun N9 h9 => c_39 (h9.2.2.2 k (by have := (nI_eq (by omega) (by have := h9.2.2.1; omega)).mp (hnN.symm.trans h9.1); omega)), rfl, rfl⟩
    have q6 : 0 = nI 0 := by rfl
    have hl : lv_has ls 11 [(10, .int (nI 0)), (0, .ref (hO E 0)), (1, .int (nI N)), (2, .long a), (4, .long b), (6, .long c9), (8, .long d)] := by
      rw [← q6]
      exact lv_sub hl [0, 1, 2, 3, 4, 5, 6] rfl
    exact L15 ((N - 0) + 1) 0 (Nat.zero_le _) (fun q hq => absurd hq (Nat.not_lt_zero q)) (Nat.lt_succ_self _) _ _ _ M hl
  · skip
    have c_7 : ¬ inB n 1 60 = true := bz_0.mp c_7
    refine lv_iconst (v := 0) C.1 C.2.1 dX11_sheet_10 (by decide) ?_
    refine g_zret rfl C M hr hlk ?_ (Nat.le_of_ble_eq_true rfl) (Nat.le_of_ble_eq_true rfl) dX11_sheet_11
    exact Or.inr ⟨fun N h9 => c_7 (by rw [h9.1]; exact in_of h9.2.1 h9.2.2.1), rfl, rfl⟩

def cShp (σ : hMem) (s9 hd : Nat) (t9 a b day o m9 : Int32) : hMem := sI (cCrw (sI (sI (sI (sI (sI (sI σ (19 + s9) 1 t9) (19 + s9) 2 a) (19 + s9) 3 b) (19 + s9) 4 day) (19 + s9) 5 o) (19 + s9) 6 m9) (27 + s9) (hA σ 11 0 0) hd) 0 13 (nI (s9 + 1))

set_option maxHeartbeats 4000000 in
set_option maxRecDepth 100000 in
theorem x_ship (l : Launch) (E : hEnv) (σ : hMem) (Z : va_W) (s9 hd : Nat) (hs : hI σ 0 13 = nI s9) (hs8 : s9 ≤ 8) (hh : hI σ 11 1 = nI hd) (hd60 : hd ≤ 60) (t9 a b day o m9 : Int32) : hMet l yX11_ship cX11_ship 10 (some .int) (2, 0, 0, 43) E σ Z [.ref (hO E 0), .int t9, .int a, .int b, .int day, .int o, .int m9] (hQi E (fun r u => (((¬ 8 ≤ nI s9) ∧ (¬ nI hd = 0) ∧ (inB t9 1 5000 = true) ∧ (inB a 0 15 = true) ∧ (inB b 0 15 = true) ∧ (inB o 0 100 = true) ∧ (inB m9 0 (100 - o) = true) ∧ (inB day 0 5000 = true)) ∧ r = nI s9 ∧ u = (cShp σ s9 hd t9 a b day o m9, Z)) ∨ (¬ ((¬ 8 ≤ nI s9) ∧ (¬ nI hd = 0) ∧ (inB t9 1 5000 = true) ∧ (inB a 0 15 = true) ∧ (inB b 0 15 = true) ∧ (inB o 0 100 = true) ∧ (inB m9 0 (100 - o) = true) ∧ (inB day 0 5000 = true)) ∧ r = -1 ∧ u = (σ, Z)))) := by
  refine hMet.of (by decide) (Nat.le_of_ble_eq_true rfl) (fun p e s m below meth c A ls C M hr hlk hl => ?_)
  have hl : lv_has ls 10 [(0, .ref (hO E 0)), (1, .int t9), (2, .int a), (3, .int b), (4, .int day), (5, .int o), (6, .int m9)] := hl
  generalize s.heap = H at M ⊢
  generalize ([] : List Loc) = locs at M ⊢
  refine lv_aload_n C.1 C.2.1 dX11_ship_0 rfl (lv_at hl 0 rfl) ?_
  refine g_getI C M 0 13 (by decide) rfl rfl (by decide) fl11_167 (v := nI s9) hs dX11_ship_1 ?_
  refine lv_bipush (v := 8) C.1 C.2.1 dX11_ship_4 (by decide) ?_
  refine lv_icmp_ge (tgt := 19) C.1 C.2.1 dX11_ship_6 (by decide) (fun c_6 => ?_) (fun c_6 => ?_)
  · skip
    refine lv_iconst (v := (-1)) C.1 C.2.1 dX11_ship_19 (by decide) ?_
    refine g_iret C M hr hlk ?_ (Nat.le_of_ble_eq_true rfl) (Nat.le_of_ble_eq_true rfl) dX11_ship_20
    exact Or.inr ⟨fun h9 => h9.1 c_6, rfl, rfl⟩
  · skip
    have hs7 : s9 < 8 := Nat.not_le.mp (fun q => c_6 ((nI_le9 (a := 8) (by decide) (by omega)).mpr q))
    refine lv_aload_n C.1 C.2.1 dX11_ship_9 rfl (lv_at hl 0 rfl) ?_
    refine g_getO C M 0 6 11 (by decide) rfl rfl (by decide) fl11_55 dX11_ship_10 ?_
    refine g_getI C M 11 1 (by decide) rfl rfl (by decide) fl11_170 (v := nI hd) hh dX11_ship_13 ?_
    refine lv_if_ne (tgt := 21) C.1 C.2.1 dX11_ship_16 (by decide) (fun c_16 => ?_) (fun c_16 => ?_)
    · skip
      refine lv_iload_n C.1 C.2.1 dX11_ship_21 rfl (lv_at hl 1 rfl) ?_
      refine lv_iconst (v := 1) C.1 C.2.1 dX11_ship_22 (by decide) ?_
      refine lv_sipush (v := 5000) C.1 C.2.1 dX11_ship_23 (by decide) ?_
      refine g_calli M (g_runS (As := [.int t9, .int 1, .int 5000]) (rest := []) C M (x_within l E σ Z t9 1 5000) clX11_isWithin stX11_isWithin lk11_78 rfl ⟨Nat.le_of_ble_eq_true rfl, Nat.le_of_ble_eq_true rfl⟩ hl.1 rfl (Nat.le_of_ble_eq_true rfl) dX11_ship_26 ⟨Nat.le_of_ble_eq_true rfl, Nat.le_of_ble_eq_true rfl⟩) (fun r1 u H locs hR M => ?_)
      refine W.widen (k := 0) (n := 0) (Nat.le_of_ble_eq_true rfl) (Nat.le_of_ble_eq_true rfl) ?_
      obtain ⟨rfl, rfl⟩ := hR
      have M : hM E A s H locs σ Z := M
      refine lv_if_eq (tgt := 50) C.1 C.2.1 dX11_ship_29 (by decide) (fun c_29 => ?_) (fun c_29 => ?_)
      · skip
        have c_29 : ¬ inB t9 1 5000 = true := bz_0.mp c_29
        refine lv_iconst (v := 0) C.1 C.2.1 dX11_ship_50 (by decide) ?_
        refine lv_istore (lv' := [(7, .int 0), (0, .ref (hO E 0)), (1, .int t9), (2, .int a), (3, .int b), (4, .int day), (5, .int o), (6, .int m9)]) C.1 C.2.1 dX11_ship_51 hl (by decide) rfl (fun ls hl => ?_)
        refine lv_iload C.1 C.2.1 dX11_ship_53 (lv_at hl 6 rfl) ?_
        refine lv_iconst (v := 0) C.1 C.2.1 dX11_ship_55 (by decide) ?_
        refine lv_bipush (v := 100) C.1 C.2.1 dX11_ship_56 (by decide) ?_
        refine g_calli M (g_runS (As := [.int o, .int 0, .int 100]) (rest := []) C M (x_within l E σ Z o 0 100) clX11_isWithin stX11_isWithin lk11_78 rfl ⟨Nat.le_of_ble_eq_true rfl, Nat.le_of_ble_eq_true rfl⟩ hl.1 rfl (Nat.le_of_ble_eq_true rfl) dX11_ship_58 ⟨Nat.le_of_ble_eq_true rfl, Nat.le_of_ble_eq_true rfl⟩) (fun r2 u H locs hR M => ?_)
        refine W.widen (k := 0) (n := 0) (Nat.le_of_ble_eq_true rfl) (Nat.le_of_ble_eq_true rfl) ?_
        obtain ⟨rfl, rfl⟩ := hR
        have M : hM E A s H locs σ Z := M
        refine lv_if_eq (tgt := 82) C.1 C.2.1 dX11_ship_61 (by decide) (fun c_61 => ?_) (fun c_61 => ?_)
        · skip
          have c_61 : ¬ inB o 0 100 = true := bz_0.mp c_61
          refine lv_iconst (v := 0) C.1 C.2.1 dX11_ship_82 (by decide) ?_
          refine lv_istore (lv' := [(8, .int 0), (7, .int 0), (0, .ref (hO E 0)), (1, .int t9), (2, .int a), (3, .int b), (4, .int day), (5, .int o), (6, .int m9)]) C.1 C.2.1 dX11_ship_83 hl (by decide) rfl (fun ls hl => ?_)
          refine lv_iload C.1 C.2.1 dX11_ship_85 (lv_at hl 1 rfl) ?_
          refine lv_if_eq (tgt := 103) C.1 C.2.1 dX11_ship_87 (by decide) (fun _ => ?_) (fun h9 => absurd h9 (by decide))
          refine lv_iconst (v := (-1)) C.1 C.2.1 dX11_ship_103 (by decide) ?_
          refine g_iret C M hr hlk ?_ (Nat.le_of_ble_eq_true rfl) (Nat.le_of_ble_eq_true rfl) dX11_ship_104
          exact Or.inr ⟨fun h9 => c_29 h9.2.2.1, rfl, rfl⟩
        · skip
          have c_61 : inB o 0 100 = true := bz_ne0.mp c_61
          refine lv_iload C.1 C.2.1 dX11_ship_64 (lv_at hl 7 rfl) ?_
          refine lv_iconst (v := 0) C.1 C.2.1 dX11_ship_66 (by decide) ?_
          refine lv_bipush (v := 100) C.1 C.2.1 dX11_ship_67 (by decide) ?_
          refine lv_iload C.1 C.2.1 dX11_ship_69 (lv_at hl 6 rfl) ?_
          refine lv_isub C.1 C.2.1 dX11_ship_71 ?_
          refine g_calli M (g_runS (As := [.int m9, .int 0, .int (100 - o)]) (rest := []) C M (x_within l E σ Z m9 0 (100 - o)) clX11_isWithin stX11_isWithin lk11_78 rfl ⟨Nat.le_of_ble_eq_true rfl, Nat.le_of_ble_eq_true rfl⟩ hl.1 rfl (Nat.le_of_ble_eq_true rfl) dX11_ship_72 ⟨Nat.le_of_ble_eq_true rfl, Nat.le_of_ble_eq_true rfl⟩) (fun r3 u H locs hR M => ?_)
          refine W.widen (k := 0) (n := 0) (Nat.le_of_ble_eq_true rfl) (Nat.le_of_ble_eq_true rfl) ?_
          obtain ⟨rfl, rfl⟩ := hR
          have M : hM E A s H locs σ Z := M
          refine lv_if_eq (tgt := 82) C.1 C.2.1 dX11_ship_75 (by decide) (fun c_75 => ?_) (fun c_75 => ?_)
          · skip
            have c_75 : ¬ inB m9 0 (100 - o) = true := bz_0.mp c_75
            refine lv_iconst (v := 0) C.1 C.2.1 dX11_ship_82 (by decide) ?_
            refine lv_istore (lv' := [(8, .int 0), (7, .int 0), (0, .ref (hO E 0)), (1, .int t9), (2, .int a), (3, .int b), (4, .int day), (5, .int o), (6, .int m9)]) C.1 C.2.1 dX11_ship_83 hl (by decide) rfl (fun ls hl => ?_)
            refine lv_iload C.1 C.2.1 dX11_ship_85 (lv_at hl 1 rfl) ?_
            refine lv_if_eq (tgt := 103) C.1 C.2.1 dX11_ship_87 (by decide) (fun _ => ?_) (fun h9 => absurd h9 (by decide))
            refine lv_iconst (v := (-1)) C.1 C.2.1 dX11_ship_103 (by decide) ?_
            refine g_iret C M hr hlk ?_ (Nat.le_of_ble_eq_true rfl) (Nat.le_of_ble_eq_true rfl) dX11_ship_104
            exact Or.inr ⟨fun h9 => c_29 h9.2.2.1, rfl, rfl⟩
          · skip
            have c_75 : inB m9 0 (100 - o) = true := bz_ne0.mp c_75
            refine lv_iconst (v := 1) C.1 C.2.1 dX11_ship_78 (by decide) ?_
            refine lv_goto (tgt := 83) C.1 C.2.1 dX11_ship_79 (by decide) ?_
            refine lv_istore (lv' := [(8, .int 1), (7, .int 0), (0, .ref (hO E 0)), (1, .int t9), (2, .int a), (3, .int b), (4, .int day), (5, .int o), (6, .int m9)]) C.1 C.2.1 dX11_ship_83 hl (by decide) rfl (fun ls hl => ?_)
            refine lv_iload C.1 C.2.1 dX11_ship_85 (lv_at hl 1 rfl) ?_
            refine lv_if_eq (tgt := 103) C.1 C.2.1 dX11_ship_87 (by decide) (fun _ => ?_) (fun h9 => absurd h9 (by decide))
            refine lv_iconst (v := (-1)) C.1 C.2.1 dX11_ship_103 (by decide) ?_
            refine g_iret C M hr hlk ?_ (Nat.le_of_ble_eq_true rfl) (Nat.le_of_ble_eq_true rfl) dX11_ship_104
            exact Or.inr ⟨fun h9 => c_29 h9.2.2.1, rfl, rfl⟩
      · skip
        have c_29 : inB t9 1 5000 = true := bz_ne0.mp c_29
        refine lv_iload_n C.1 C.2.1 dX11_ship_32 rfl (lv_at hl 2 rfl) ?_
        refine g_calli M (g_runS (As := [.int a]) (rest := []) C M (x_isThing l E σ Z a) clX11_isThing stX11_isThing lk11_86 rfl ⟨Nat.le_of_ble_eq_true rfl, Nat.le_of_ble_eq_true rfl⟩ hl.1 rfl (Nat.le_of_ble_eq_true rfl) dX11_ship_33 ⟨Nat.le_of_ble_eq_true rfl, Nat.le_of_ble_eq_true rfl⟩) (fun r4 u H locs hR M => ?_)
        refine W.widen (k := 0) (n := 0) (Nat.le_of_ble_eq_true rfl) (Nat.le_of_ble_eq_true rfl) ?_
        obtain ⟨rfl, rfl⟩ := hR
        have M : hM E A s H locs σ Z := M
        refine lv_if_eq (tgt := 50) C.1 C.2.1 dX11_ship_36 (by decide) (fun c_36 => ?_) (fun c_36 => ?_)
        · skip
          have c_36 : ¬ inB a 0 15 = true := bz_0.mp c_36
          refine lv_iconst (v := 0) C.1 C.2.1 dX11_ship_50 (by decide) ?_
          refine lv_istore (lv' := [(7, .int 0), (0, .ref (hO E 0)), (1, .int t9), (2, .int a), (3, .int b), (4, .int day), (5, .int o), (6, .int m9)]) C.1 C.2.1 dX11_ship_51 hl (by decide) rfl (fun ls hl => ?_)
          refine lv_iload C.1 C.2.1 dX11_ship_53 (lv_at hl 6 rfl) ?_
          refine lv_iconst (v := 0) C.1 C.2.1 dX11_ship_55 (by decide) ?_
          refine lv_bipush (v := 100) C.1 C.2.1 dX11_ship_56 (by decide) ?_
          refine g_calli M (g_runS (As := [.int o, .int 0, .int 100]) (rest := []) C M (x_within l E σ Z o 0 100) clX11_isWithin stX11_isWithin lk11_78 rfl ⟨Nat.le_of_ble_eq_true rfl, Nat.le_of_ble_eq_true rfl⟩ hl.1 rfl (Nat.le_of_ble_eq_true rfl) dX11_ship_58 ⟨Nat.le_of_ble_eq_true rfl, Nat.le_of_ble_eq_true rfl⟩) (fun r5 u H locs hR M => ?_)
          refine W.widen (k := 0) (n := 0) (Nat.le_of_ble_eq_true rfl) (Nat.le_of_ble_eq_true rfl) ?_
          obtain ⟨rfl, rfl⟩ := hR
          have M : hM E A s H locs σ Z := M
          refine lv_if_eq (tgt := 82) C.1 C.2.1 dX11_ship_61 (by decide) (fun c_61 => ?_) (fun c_61 => ?_)
          · skip
            have c_61 : ¬ inB o 0 100 = true := bz_0.mp c_61
            refine lv_iconst (v := 0) C.1 C.2.1 dX11_ship_82 (by decide) ?_
            refine lv_istore (lv' := [(8, .int 0), (7, .int 0), (0, .ref (hO E 0)), (1, .int t9), (2, .int a), (3, .int b), (4, .int day), (5, .int o), (6, .int m9)]) C.1 C.2.1 dX11_ship_83 hl (by decide) rfl (fun ls hl => ?_)
            refine lv_iload C.1 C.2.1 dX11_ship_85 (lv_at hl 1 rfl) ?_
            refine lv_if_eq (tgt := 103) C.1 C.2.1 dX11_ship_87 (by decide) (fun _ => ?_) (fun h9 => absurd h9 (by decide))
            refine lv_iconst (v := (-1)) C.1 C.2.1 dX11_ship_103 (by decide) ?_
            refine g_iret C M hr hlk ?_ (Nat.le_of_ble_eq_true rfl) (Nat.le_of_ble_eq_true rfl) dX11_ship_104
            exact Or.inr ⟨fun h9 => c_36 h9.2.2.2.1, rfl, rfl⟩
          · skip
            have c_61 : inB o 0 100 = true := bz_ne0.mp c_61
            refine lv_iload C.1 C.2.1 dX11_ship_64 (lv_at hl 7 rfl) ?_
            refine lv_iconst (v := 0) C.1 C.2.1 dX11_ship_66 (by decide) ?_
            refine lv_bipush (v := 100) C.1 C.2.1 dX11_ship_67 (by decide) ?_
            refine lv_iload C.1 C.2.1 dX11_ship_69 (lv_at hl 6 rfl) ?_
            refine lv_isub C.1 C.2.1 dX11_ship_71 ?_
            refine g_calli M (g_runS (As := [.int m9, .int 0, .int (100 - o)]) (rest := []) C M (x_within l E σ Z m9 0 (100 - o)) clX11_isWithin stX11_isWithin lk11_78 rfl ⟨Nat.le_of_ble_eq_true rfl, Nat.le_of_ble_eq_true rfl⟩ hl.1 rfl (Nat.le_of_ble_eq_true rfl) dX11_ship_72 ⟨Nat.le_of_ble_eq_true rfl, Nat.le_of_ble_eq_true rfl⟩) (fun r6 u H locs hR M => ?_)
            refine W.widen (k := 0) (n := 0) (Nat.le_of_ble_eq_true rfl) (Nat.le_of_ble_eq_true rfl) ?_
            obtain ⟨rfl, rfl⟩ := hR
            have M : hM E A s H locs σ Z := M
            refine lv_if_eq (tgt := 82) C.1 C.2.1 dX11_ship_75 (by decide) (fun c_75 => ?_) (fun c_75 => ?_)
            · skip
              have c_75 : ¬ inB m9 0 (100 - o) = true := bz_0.mp c_75
              refine lv_iconst (v := 0) C.1 C.2.1 dX11_ship_82 (by decide) ?_
              refine lv_istore (lv' := [(8, .int 0), (7, .int 0), (0, .ref (hO E 0)), (1, .int t9), (2, .int a), (3, .int b), (4, .int day), (5, .int o), (6, .int m9)]) C.1 C.2.1 dX11_ship_83 hl (by decide) rfl (fun ls hl => ?_)
              refine lv_iload C.1 C.2.1 dX11_ship_85 (lv_at hl 1 rfl) ?_
              refine lv_if_eq (tgt := 103) C.1 C.2.1 dX11_ship_87 (by decide) (fun _ => ?_) (fun h9 => absurd h9 (by decide))
              refine lv_iconst (v := (-1)) C.1 C.2.1 dX11_ship_103 (by decide) ?_
              refine g_iret C M hr hlk ?_ (Nat.le_of_ble_eq_true rfl) (Nat.le_of_ble_eq_true rfl) dX11_ship_104
              exact Or.inr ⟨fun h9 => c_36 h9.2.2.2.1, rfl, rfl⟩
            · skip
              have c_75 : inB m9 0 (100 - o) = true := bz_ne0.mp c_75
              refine lv_iconst (v := 1) C.1 C.2.1 dX11_ship_78 (by decide) ?_
              refine lv_goto (tgt := 83) C.1 C.2.1 dX11_ship_79 (by decide) ?_
              refine lv_istore (lv' := [(8, .int 1), (7, .int 0), (0, .ref (hO E 0)), (1, .int t9), (2, .int a), (3, .int b), (4, .int day), (5, .int o), (6, .int m9)]) C.1 C.2.1 dX11_ship_83 hl (by decide) rfl (fun ls hl => ?_)
              refine lv_iload C.1 C.2.1 dX11_ship_85 (lv_at hl 1 rfl) ?_
              refine lv_if_eq (tgt := 103) C.1 C.2.1 dX11_ship_87 (by decide) (fun _ => ?_) (fun h9 => absurd h9 (by decide))
              refine lv_iconst (v := (-1)) C.1 C.2.1 dX11_ship_103 (by decide) ?_
              refine g_iret C M hr hlk ?_ (Nat.le_of_ble_eq_true rfl) (Nat.le_of_ble_eq_true rfl) dX11_ship_104
              exact Or.inr ⟨fun h9 => c_36 h9.2.2.2.1, rfl, rfl⟩
        · skip
          have c_36 : inB a 0 15 = true := bz_ne0.mp c_36
          refine lv_iload_n C.1 C.2.1 dX11_ship_39 rfl (lv_at hl 3 rfl) ?_
          refine g_calli M (g_runS (As := [.int b]) (rest := []) C M (x_isThing l E σ Z b) clX11_isThing stX11_isThing lk11_86 rfl ⟨Nat.le_of_ble_eq_true rfl, Nat.le_of_ble_eq_true rfl⟩ hl.1 rfl (Nat.le_of_ble_eq_true rfl) dX11_ship_40 ⟨Nat.le_of_ble_eq_true rfl, Nat.le_of_ble_eq_true rfl⟩) (fun r7 u H locs hR M => ?_)
          refine W.widen (k := 0) (n := 0) (Nat.le_of_ble_eq_true rfl) (Nat.le_of_ble_eq_true rfl) ?_
          obtain ⟨rfl, rfl⟩ := hR
          have M : hM E A s H locs σ Z := M
          refine lv_if_eq (tgt := 50) C.1 C.2.1 dX11_ship_43 (by decide) (fun c_43 => ?_) (fun c_43 => ?_)
          · skip
            have c_43 : ¬ inB b 0 15 = true := bz_0.mp c_43
            refine lv_iconst (v := 0) C.1 C.2.1 dX11_ship_50 (by decide) ?_
            refine lv_istore (lv' := [(7, .int 0), (0, .ref (hO E 0)), (1, .int t9), (2, .int a), (3, .int b), (4, .int day), (5, .int o), (6, .int m9)]) C.1 C.2.1 dX11_ship_51 hl (by decide) rfl (fun ls hl => ?_)
            refine lv_iload C.1 C.2.1 dX11_ship_53 (lv_at hl 6 rfl) ?_
            refine lv_iconst (v := 0) C.1 C.2.1 dX11_ship_55 (by decide) ?_
            refine lv_bipush (v := 100) C.1 C.2.1 dX11_ship_56 (by decide) ?_
            refine g_calli M (g_runS (As := [.int o, .int 0, .int 100]) (rest := []) C M (x_within l E σ Z o 0 100) clX11_isWithin stX11_isWithin lk11_78 rfl ⟨Nat.le_of_ble_eq_true rfl, Nat.le_of_ble_eq_true rfl⟩ hl.1 rfl (Nat.le_of_ble_eq_true rfl) dX11_ship_58 ⟨Nat.le_of_ble_eq_true rfl, Nat.le_of_ble_eq_true rfl⟩) (fun r8 u H locs hR M => ?_)
            refine W.widen (k := 0) (n := 0) (Nat.le_of_ble_eq_true rfl) (Nat.le_of_ble_eq_true rfl) ?_
            obtain ⟨rfl, rfl⟩ := hR
            have M : hM E A s H locs σ Z := M
            refine lv_if_eq (tgt := 82) C.1 C.2.1 dX11_ship_61 (by decide) (fun c_61 => ?_) (fun c_61 => ?_)
            · skip
              have c_61 : ¬ inB o 0 100 = true := bz_0.mp c_61
              refine lv_iconst (v := 0) C.1 C.2.1 dX11_ship_82 (by decide) ?_
              refine lv_istore (lv' := [(8, .int 0), (7, .int 0), (0, .ref (hO E 0)), (1, .int t9), (2, .int a), (3, .int b), (4, .int day), (5, .int o), (6, .int m9)]) C.1 C.2.1 dX11_ship_83 hl (by decide) rfl (fun ls hl => ?_)
              refine lv_iload C.1 C.2.1 dX11_ship_85 (lv_at hl 1 rfl) ?_
              refine lv_if_eq (tgt := 103) C.1 C.2.1 dX11_ship_87 (by decide) (fun _ => ?_) (fun h9 => absurd h9 (by decide))
              refine lv_iconst (v := (-1)) C.1 C.2.1 dX11_ship_103 (by decide) ?_
              refine g_iret C M hr hlk ?_ (Nat.le_of_ble_eq_true rfl) (Nat.le_of_ble_eq_true rfl) dX11_ship_104
              exact Or.inr ⟨fun h9 => c_43 h9.2.2.2.2.1, rfl, rfl⟩
            · skip
              have c_61 : inB o 0 100 = true := bz_ne0.mp c_61
              refine lv_iload C.1 C.2.1 dX11_ship_64 (lv_at hl 7 rfl) ?_
              refine lv_iconst (v := 0) C.1 C.2.1 dX11_ship_66 (by decide) ?_
              refine lv_bipush (v := 100) C.1 C.2.1 dX11_ship_67 (by decide) ?_
              refine lv_iload C.1 C.2.1 dX11_ship_69 (lv_at hl 6 rfl) ?_
              refine lv_isub C.1 C.2.1 dX11_ship_71 ?_
              refine g_calli M (g_runS (As := [.int m9, .int 0, .int (100 - o)]) (rest := []) C M (x_within l E σ Z m9 0 (100 - o)) clX11_isWithin stX11_isWithin lk11_78 rfl ⟨Nat.le_of_ble_eq_true rfl, Nat.le_of_ble_eq_true rfl⟩ hl.1 rfl (Nat.le_of_ble_eq_true rfl) dX11_ship_72 ⟨Nat.le_of_ble_eq_true rfl, Nat.le_of_ble_eq_true rfl⟩) (fun r9 u H locs hR M => ?_)
              refine W.widen (k := 0) (n := 0) (Nat.le_of_ble_eq_true rfl) (Nat.le_of_ble_eq_true rfl) ?_
              obtain ⟨rfl, rfl⟩ := hR
              have M : hM E A s H locs σ Z := M
              refine lv_if_eq (tgt := 82) C.1 C.2.1 dX11_ship_75 (by decide) (fun c_75 => ?_) (fun c_75 => ?_)
              · skip
                have c_75 : ¬ inB m9 0 (100 - o) = true := bz_0.mp c_75
                refine lv_iconst (v := 0) C.1 C.2.1 dX11_ship_82 (by decide) ?_
                refine lv_istore (lv' := [(8, .int 0), (7, .int 0), (0, .ref (hO E 0)), (1, .int t9), (2, .int a), (3, .int b), (4, .int day), (5, .int o), (6, .int m9)]) C.1 C.2.1 dX11_ship_83 hl (by decide) rfl (fun ls hl => ?_)
                refine lv_iload C.1 C.2.1 dX11_ship_85 (lv_at hl 1 rfl) ?_
                refine lv_if_eq (tgt := 103) C.1 C.2.1 dX11_ship_87 (by decide) (fun _ => ?_) (fun h9 => absurd h9 (by decide))
                refine lv_iconst (v := (-1)) C.1 C.2.1 dX11_ship_103 (by decide) ?_
                refine g_iret C M hr hlk ?_ (Nat.le_of_ble_eq_true rfl) (Nat.le_of_ble_eq_true rfl) dX11_ship_104
                exact Or.inr ⟨fun h9 => c_43 h9.2.2.2.2.1, rfl, rfl⟩
              · skip
                have c_75 : inB m9 0 (100 - o) = true := bz_ne0.mp c_75
                refine lv_iconst (v := 1) C.1 C.2.1 dX11_ship_78 (by decide) ?_
                refine lv_goto (tgt := 83) C.1 C.2.1 dX11_ship_79 (by decide) ?_
                refine lv_istore (lv' := [(8, .int 1), (7, .int 0), (0, .ref (hO E 0)), (1, .int t9), (2, .int a), (3, .int b), (4, .int day), (5, .int o), (6, .int m9)]) C.1 C.2.1 dX11_ship_83 hl (by decide) rfl (fun ls hl => ?_)
                refine lv_iload C.1 C.2.1 dX11_ship_85 (lv_at hl 1 rfl) ?_
                refine lv_if_eq (tgt := 103) C.1 C.2.1 dX11_ship_87 (by decide) (fun _ => ?_) (fun h9 => absurd h9 (by decide))
                refine lv_iconst (v := (-1)) C.1 C.2.1 dX11_ship_103 (by decide) ?_
                refine g_iret C M hr hlk ?_ (Nat.le_of_ble_eq_true rfl) (Nat.le_of_ble_eq_true rfl) dX11_ship_104
                exact Or.inr ⟨fun h9 => c_43 h9.2.2.2.2.1, rfl, rfl⟩
          · skip
            have c_43 : inB b 0 15 = true := bz_ne0.mp c_43
            refine lv_iconst (v := 1) C.1 C.2.1 dX11_ship_46 (by decide) ?_
            refine lv_goto (tgt := 51) C.1 C.2.1 dX11_ship_47 (by decide) ?_
            refine lv_istore (lv' := [(7, .int 1), (0, .ref (hO E 0)), (1, .int t9), (2, .int a), (3, .int b), (4, .int day), (5, .int o), (6, .int m9)]) C.1 C.2.1 dX11_ship_51 hl (by decide) rfl (fun ls hl => ?_)
            refine lv_iload C.1 C.2.1 dX11_ship_53 (lv_at hl 6 rfl) ?_
            refine lv_iconst (v := 0) C.1 C.2.1 dX11_ship_55 (by decide) ?_
            refine lv_bipush (v := 100) C.1 C.2.1 dX11_ship_56 (by decide) ?_
            refine g_calli M (g_runS (As := [.int o, .int 0, .int 100]) (rest := []) C M (x_within l E σ Z o 0 100) clX11_isWithin stX11_isWithin lk11_78 rfl ⟨Nat.le_of_ble_eq_true rfl, Nat.le_of_ble_eq_true rfl⟩ hl.1 rfl (Nat.le_of_ble_eq_true rfl) dX11_ship_58 ⟨Nat.le_of_ble_eq_true rfl, Nat.le_of_ble_eq_true rfl⟩) (fun r10 u H locs hR M => ?_)
            refine W.widen (k := 0) (n := 0) (Nat.le_of_ble_eq_true rfl) (Nat.le_of_ble_eq_true rfl) ?_
            obtain ⟨rfl, rfl⟩ := hR
            have M : hM E A s H locs σ Z := M
            refine lv_if_eq (tgt := 82) C.1 C.2.1 dX11_ship_61 (by decide) (fun c_61 => ?_) (fun c_61 => ?_)
            · skip
              have c_61 : ¬ inB o 0 100 = true := bz_0.mp c_61
              refine lv_iconst (v := 0) C.1 C.2.1 dX11_ship_82 (by decide) ?_
              refine lv_istore (lv' := [(8, .int 0), (7, .int 1), (0, .ref (hO E 0)), (1, .int t9), (2, .int a), (3, .int b), (4, .int day), (5, .int o), (6, .int m9)]) C.1 C.2.1 dX11_ship_83 hl (by decide) rfl (fun ls hl => ?_)
              refine lv_iload C.1 C.2.1 dX11_ship_85 (lv_at hl 1 rfl) ?_
              refine lv_if_eq (tgt := 103) C.1 C.2.1 dX11_ship_87 (by decide) (fun h9 => absurd h9 (by decide)) (fun _ => ?_)
              refine lv_iload C.1 C.2.1 dX11_ship_90 (lv_at hl 0 rfl) ?_
              refine lv_if_eq (tgt := 103) C.1 C.2.1 dX11_ship_92 (by decide) (fun _ => ?_) (fun h9 => absurd h9 (by decide))
              refine lv_iconst (v := (-1)) C.1 C.2.1 dX11_ship_103 (by decide) ?_
              refine g_iret C M hr hlk ?_ (Nat.le_of_ble_eq_true rfl) (Nat.le_of_ble_eq_true rfl) dX11_ship_104
              exact Or.inr ⟨fun h9 => c_61 h9.2.2.2.2.2.1, rfl, rfl⟩
            · skip
              have c_61 : inB o 0 100 = true := bz_ne0.mp c_61
              refine lv_iload C.1 C.2.1 dX11_ship_64 (lv_at hl 7 rfl) ?_
              refine lv_iconst (v := 0) C.1 C.2.1 dX11_ship_66 (by decide) ?_
              refine lv_bipush (v := 100) C.1 C.2.1 dX11_ship_67 (by decide) ?_
              refine lv_iload C.1 C.2.1 dX11_ship_69 (lv_at hl 6 rfl) ?_
              refine lv_isub C.1 C.2.1 dX11_ship_71 ?_
              refine g_calli M (g_runS (As := [.int m9, .int 0, .int (100 - o)]) (rest := []) C M (x_within l E σ Z m9 0 (100 - o)) clX11_isWithin stX11_isWithin lk11_78 rfl ⟨Nat.le_of_ble_eq_true rfl, Nat.le_of_ble_eq_true rfl⟩ hl.1 rfl (Nat.le_of_ble_eq_true rfl) dX11_ship_72 ⟨Nat.le_of_ble_eq_true rfl, Nat.le_of_ble_eq_true rfl⟩) (fun r11 u H locs hR M => ?_)
              refine W.widen (k := 0) (n := 0) (Nat.le_of_ble_eq_true rfl) (Nat.le_of_ble_eq_true rfl) ?_
              obtain ⟨rfl, rfl⟩ := hR
              have M : hM E A s H locs σ Z := M
              refine lv_if_eq (tgt := 82) C.1 C.2.1 dX11_ship_75 (by decide) (fun c_75 => ?_) (fun c_75 => ?_)
              · skip
                have c_75 : ¬ inB m9 0 (100 - o) = true := bz_0.mp c_75
                refine lv_iconst (v := 0) C.1 C.2.1 dX11_ship_82 (by decide) ?_
                refine lv_istore (lv' := [(8, .int 0), (7, .int 1), (0, .ref (hO E 0)), (1, .int t9), (2, .int a), (3, .int b), (4, .int day), (5, .int o), (6, .int m9)]) C.1 C.2.1 dX11_ship_83 hl (by decide) rfl (fun ls hl => ?_)
                refine lv_iload C.1 C.2.1 dX11_ship_85 (lv_at hl 1 rfl) ?_
                refine lv_if_eq (tgt := 103) C.1 C.2.1 dX11_ship_87 (by decide) (fun h9 => absurd h9 (by decide)) (fun _ => ?_)
                refine lv_iload C.1 C.2.1 dX11_ship_90 (lv_at hl 0 rfl) ?_
                refine lv_if_eq (tgt := 103) C.1 C.2.1 dX11_ship_92 (by decide) (fun _ => ?_) (fun h9 => absurd h9 (by decide))
                refine lv_iconst (v := (-1)) C.1 C.2.1 dX11_ship_103 (by decide) ?_
                refine g_iret C M hr hlk ?_ (Nat.le_of_ble_eq_true rfl) (Nat.le_of_ble_eq_true rfl) dX11_ship_104
                exact Or.inr ⟨fun h9 => c_75 h9.2.2.2.2.2.2.1, rfl, rfl⟩
              · skip
                have c_75 : inB m9 0 (100 - o) = true := bz_ne0.mp c_75
                refine lv_iconst (v := 1) C.1 C.2.1 dX11_ship_78 (by decide) ?_
                refine lv_goto (tgt := 83) C.1 C.2.1 dX11_ship_79 (by decide) ?_
                refine lv_istore (lv' := [(8, .int 1), (7, .int 1), (0, .ref (hO E 0)), (1, .int t9), (2, .int a), (3, .int b), (4, .int day), (5, .int o), (6, .int m9)]) C.1 C.2.1 dX11_ship_83 hl (by decide) rfl (fun ls hl => ?_)
                refine lv_iload C.1 C.2.1 dX11_ship_85 (lv_at hl 1 rfl) ?_
                refine lv_if_eq (tgt := 103) C.1 C.2.1 dX11_ship_87 (by decide) (fun h9 => absurd h9 (by decide)) (fun _ => ?_)
                refine lv_iload C.1 C.2.1 dX11_ship_90 (lv_at hl 0 rfl) ?_
                refine lv_if_eq (tgt := 103) C.1 C.2.1 dX11_ship_92 (by decide) (fun h9 => absurd h9 (by decide)) (fun _ => ?_)
                refine lv_iload C.1 C.2.1 dX11_ship_95 (lv_at hl 6 rfl) ?_
                refine g_calli M (g_runS (As := [.int day]) (rest := []) C M (x_isDay l E σ Z day) clX11_isDay stX11_isDay lk11_119 rfl ⟨Nat.le_of_ble_eq_true rfl, Nat.le_of_ble_eq_true rfl⟩ hl.1 rfl (Nat.le_of_ble_eq_true rfl) dX11_ship_97 ⟨Nat.le_of_ble_eq_true rfl, Nat.le_of_ble_eq_true rfl⟩) (fun r12 u H locs hR M => ?_)
                refine W.widen (k := 0) (n := 0) (Nat.le_of_ble_eq_true rfl) (Nat.le_of_ble_eq_true rfl) ?_
                obtain ⟨rfl, rfl⟩ := hR
                have M : hM E A s H locs σ Z := M
                refine lv_if_ne (tgt := 105) C.1 C.2.1 dX11_ship_100 (by decide) (fun c_100 => ?_) (fun c_100 => ?_)
                · skip
                  have c_100 : inB day 0 5000 = true := bz_ne0.mp c_100
                  refine lv_aload_n C.1 C.2.1 dX11_ship_105 rfl (lv_at hl 2 rfl) ?_
                  refine g_getQ C M 0 7 (by decide) rfl rfl (by decide) fl11_61 dX11_ship_106 ?_
                  refine lv_aload_n C.1 C.2.1 dX11_ship_109 rfl (lv_at hl 2 rfl) ?_
                  refine g_getI C M 0 13 (by decide) rfl rfl (by decide) fl11_167 (v := nI s9) hs dX11_ship_110 ?_
                  refine g_aald7 C M 0 7 (by decide) rfl (by decide) s9 (nI_clamp (by omega)) (vp_in_nI (by omega) (by decide)) dX11_ship_113 ?_
                  refine lv_astore (lv' := [(9, .ref (hO E (19 + s9))), (8, .int 1), (7, .int 1), (0, .ref (hO E 0)), (1, .int t9), (2, .int a), (3, .int b), (4, .int day), (5, .int o), (6, .int m9)]) C.1 C.2.1 dX11_ship_114 hl (by decide) rfl (fun ls hl => ?_)
                  refine lv_aload C.1 C.2.1 dX11_ship_116 (lv_at hl 0 rfl) ?_
                  refine lv_iload_n C.1 C.2.1 dX11_ship_118 rfl (lv_at hl 4 rfl) ?_
                  refine g_putI C M (19 + s9) 1 (by omega) (by rw [lay19 (by omega)]; rfl) (by rw [ci19 (by omega)]; rfl) (by decide) fl11_173 rfl (by rw [ci19 (by omega)]; rfl) dX11_ship_119 (fun H locs M => ?_)
                  refine lv_aload C.1 C.2.1 dX11_ship_122 (lv_at hl 0 rfl) ?_
                  refine lv_iload_n C.1 C.2.1 dX11_ship_124 rfl (lv_at hl 5 rfl) ?_
                  refine g_putI C M (19 + s9) 2 (by omega) (by rw [lay19 (by omega)]; rfl) (by rw [ci19 (by omega)]; rfl) (by decide) fl11_176 rfl (by rw [ci19 (by omega)]; rfl) dX11_ship_125 (fun H locs M => ?_)
                  refine lv_aload C.1 C.2.1 dX11_ship_128 (lv_at hl 0 rfl) ?_
                  refine lv_iload_n C.1 C.2.1 dX11_ship_130 rfl (lv_at hl 6 rfl) ?_
                  refine g_putI C M (19 + s9) 3 (by omega) (by rw [lay19 (by omega)]; rfl) (by rw [ci19 (by omega)]; rfl) (by decide) fl11_179 rfl (by rw [ci19 (by omega)]; rfl) dX11_ship_131 (fun H locs M => ?_)
                  refine lv_aload C.1 C.2.1 dX11_ship_134 (lv_at hl 0 rfl) ?_
                  refine lv_iload C.1 C.2.1 dX11_ship_136 (lv_at hl 7 rfl) ?_
                  refine g_putI C M (19 + s9) 4 (by omega) (by rw [lay19 (by omega)]; rfl) (by rw [ci19 (by omega)]; rfl) (by decide) fl11_182 rfl (by rw [ci19 (by omega)]; rfl) dX11_ship_138 (fun H locs M => ?_)
                  refine lv_aload C.1 C.2.1 dX11_ship_141 (lv_at hl 0 rfl) ?_
                  refine lv_iload C.1 C.2.1 dX11_ship_143 (lv_at hl 8 rfl) ?_
                  refine g_putI C M (19 + s9) 5 (by omega) (by rw [lay19 (by omega)]; rfl) (by rw [ci19 (by omega)]; rfl) (by decide) fl11_185 rfl (by rw [ci19 (by omega)]; rfl) dX11_ship_145 (fun H locs M => ?_)
                  refine lv_aload C.1 C.2.1 dX11_ship_148 (lv_at hl 0 rfl) ?_
                  refine lv_iload C.1 C.2.1 dX11_ship_150 (lv_at hl 9 rfl) ?_
                  refine g_putI C M (19 + s9) 6 (by omega) (by rw [lay19 (by omega)]; rfl) (by rw [ci19 (by omega)]; rfl) (by decide) fl11_188 rfl (by rw [ci19 (by omega)]; rfl) dX11_ship_152 (fun H locs M => ?_)
                  refine lv_aload C.1 C.2.1 dX11_ship_155 (lv_at hl 0 rfl) ?_
                  refine g_getO C M (19 + s9) 0 (27 + s9) (by omega) (by rw [lay19 (by omega)]; rfl) (by rw [ci19 (by omega)]; rfl) (by decide) fl11_191 dX11_ship_157 ?_
                  refine lv_aload_n C.1 C.2.1 dX11_ship_160 rfl (lv_at hl 3 rfl) ?_
                  refine g_getO C M 0 6 11 (by decide) rfl rfl (by decide) fl11_55 dX11_ship_161 ?_
                  refine g_callv M (g_runV (As := [.ref (hO E 11)]) (rest := []) C M (27 + s9) (x_ccopy l E (sI (sI (sI (sI (sI (sI σ (19 + s9) 1 t9) (19 + s9) 2 a) (19 + s9) 3 b) (19 + s9) 4 day) (19 + s9) 5 o) (19 + s9) 6 m9) Z (27 + s9) (by omega) (lay27 (by omega)) (ci27 (by omega)) 11 (by decide) rfl rfl (by omega) hd (by rw [hI_sI, if_neg (by omega), hI_sI, if_neg (by omega), hI_sI, if_neg (by omega), hI_sI, if_neg (by omega), hI_sI, if_neg (by omega), hI_sI, if_neg (by omega)]; exact hh) hd60) clX2_copy ivX2_copy lk11_194 (by omega) (by rw [ci27 (by omega)]; rfl) rfl ⟨Nat.le_of_ble_eq_true rfl, Nat.le_of_ble_eq_true rfl⟩ hl.1 rfl (Nat.le_of_ble_eq_true rfl) dX11_ship_164 ⟨Nat.le_of_ble_eq_true rfl, Nat.le_of_ble_eq_true rfl⟩) (fun u H locs hR M => ?_)
                  refine W.widen (k := 0) (n := 0) (Nat.le_of_ble_eq_true rfl) (Nat.le_of_ble_eq_true rfl) ?_
                  subst hR
                  have M : hM E A s H locs (cCrw (sI (sI (sI (sI (sI (sI σ (19 + s9) 1 t9) (19 + s9) 2 a) (19 + s9) 3 b) (19 + s9) 4 day) (19 + s9) 5 o) (19 + s9) 6 m9) (27 + s9) (hA σ 11 0 0) hd) Z := M
                  refine lv_aload_n C.1 C.2.1 dX11_ship_167 rfl (lv_at hl 3 rfl) ?_
                  refine lv_dup C.1 C.2.1 dX11_ship_168 rfl ?_
                  refine g_getI C M 0 13 (by decide) rfl rfl (by decide) fl11_167 (v := nI s9) hs dX11_ship_169 ?_
                  refine lv_iconst (v := 1) C.1 C.2.1 dX11_ship_172 (by decide) ?_
                  refine lv_iadd C.1 C.2.1 dX11_ship_173 ?_
                  refine g_rei (v := nI (s9 + 1)) (nI_1 _) ?_
                  refine g_putI C M 0 13 (by decide) rfl rfl (by decide) fl11_167 rfl rfl dX11_ship_174 (fun H locs M => ?_)
                  refine lv_aload_n C.1 C.2.1 dX11_ship_177 rfl (lv_at hl 3 rfl) ?_
                  refine g_getI C M 0 13 (by decide) rfl rfl (by decide) fl11_167 (v := nI (s9 + 1)) rfl dX11_ship_178 ?_
                  refine lv_iconst (v := 1) C.1 C.2.1 dX11_ship_181 (by decide) ?_
                  refine lv_isub C.1 C.2.1 dX11_ship_182 ?_
                  refine g_rei (v := nI s9) (nI_pred _) ?_
                  refine g_iret C M hr hlk ?_ (Nat.le_of_ble_eq_true rfl) (Nat.le_of_ble_eq_true rfl) dX11_ship_183
                  exact Or.inl ⟨⟨c_6, c_16, c_29, c_36, c_43, c_61, c_75, c_100⟩, rfl, rfl⟩
                · skip
                  have c_100 : ¬ inB day 0 5000 = true := bz_0.mp c_100
                  refine lv_iconst (v := (-1)) C.1 C.2.1 dX11_ship_103 (by decide) ?_
                  refine g_iret C M hr hlk ?_ (Nat.le_of_ble_eq_true rfl) (Nat.le_of_ble_eq_true rfl) dX11_ship_104
                  exact Or.inr ⟨fun h9 => c_100 h9.2.2.2.2.2.2.2, rfl, rfl⟩
    · skip
      refine lv_iconst (v := (-1)) C.1 C.2.1 dX11_ship_19 (by decide) ?_
      refine g_iret C M hr hlk ?_ (Nat.le_of_ble_eq_true rfl) (Nat.le_of_ble_eq_true rfl) dX11_ship_20
      exact Or.inr ⟨fun h9 => h9.2.1 c_16, rfl, rfl⟩

def cLaw (σ : hMem) (nl : Nat) (W V : Nat → Int32) (pl wp : Nat) (td day : Int32) : hMem := sI (sA (sA (sI (kM σ (13 + nl) W V pl wp td 0) 9 1 0) 10 0 0 (upd (hA σ 10 0 0) nl day)) 10 1 0 (upd (hA σ 10 1 0) nl (hI σ 0 9))) 0 12 (nI (nl + 1))

theorem kM_A {σ : hMem} {j q k i : Nat} {W V : Nat → Int32} {pl wp : Nat} {td ft : Int32} (h : ¬ q = j) : hA (kM σ j W V pl wp td ft) q k i = hA σ q k i := by
  unfold kM tM vM
  rw [hA_sI, hA_sI, hA_sI, hA_sI, hA_sI, hA_sI, hA_sI, hA_sI, hA_sI, hA_sI, hA_sA, if_neg (fun z => h z.2.2)]

set_option maxHeartbeats 4000000 in
set_option maxRecDepth 100000 in
theorem x_law (l : Launch) (E : hEnv) (σ : hMem) (Z : va_W) (n : Nat) (hn : hI σ 9 1 = nI n) (hn3 : n ≤ 300) (nl : Nat) (hnl : hI σ 0 12 = nI nl) (hnl6 : nl ≤ 6) (L0 : Nat → Int32) (hL0 : ∀ i, i < 11 → L0 i = L0f i) (day : Int32) : hMet l yX11_law cX11_law 3 (some .int) (9, 0, 0, 199) E σ Z [.ref (hO E 0), .int day] (hQi E (fun r u => (((¬ 6 ≤ nI nl) ∧ (inB day 0 5000 = true)) ∧ ∃ W V pl wp td ft, rdR (lwR (hA σ 9 0 0) n L0) ft W V ∧ ((¬ ft = 0 ∧ r = -2 - ft ∧ u = (sI (kM σ (13 + nl) W V pl wp td ft) 9 1 0, Z)) ∨ (ft = 0 ∧ r = nI nl ∧ u = (cLaw σ nl W V pl wp td day, Z)))) ∨ (¬ ((¬ 6 ≤ nI nl) ∧ (inB day 0 5000 = true)) ∧ r = -1 ∧ u = (σ, Z)))) := by
  refine hMet.of (by decide) (Nat.le_of_ble_eq_true rfl) (fun p e s m below meth c A ls C M hr hlk hl => ?_)
  have hl : lv_has ls 3 [(0, .ref (hO E 0)), (1, .int day)] := hl
  generalize s.heap = H at M ⊢
  generalize ([] : List Loc) = locs at M ⊢
  refine lv_aload_n C.1 C.2.1 dX11_law_0 rfl (lv_at hl 0 rfl) ?_
  refine g_getI C M 0 12 (by decide) rfl rfl (by decide) fl11_147 (v := nI nl) hnl dX11_law_1 ?_
  refine lv_bipush (v := 6) C.1 C.2.1 dX11_law_4 (by decide) ?_
  refine lv_icmp_ge (tgt := 16) C.1 C.2.1 dX11_law_6 (by decide) (fun c_6 => ?_) (fun c_6 => ?_)
  · skip
    refine lv_iconst (v := (-1)) C.1 C.2.1 dX11_law_16 (by decide) ?_
    refine g_iret C M hr hlk ?_ (Nat.le_of_ble_eq_true rfl) (Nat.le_of_ble_eq_true rfl) dX11_law_17
    exact Or.inr ⟨fun h9 => h9.1 c_6, rfl, rfl⟩
  · skip
    have hn5 : nl < 6 := Nat.not_le.mp (fun q => c_6 ((nI_le9 (a := 6) (by decide) (by omega)).mpr q))
    refine lv_iload_n C.1 C.2.1 dX11_law_9 rfl (lv_at hl 1 rfl) ?_
    refine g_calli M (g_runS (As := [.int day]) (rest := []) C M (x_isDay l E σ Z day) clX11_isDay stX11_isDay lk11_119 rfl ⟨Nat.le_of_ble_eq_true rfl, Nat.le_of_ble_eq_true rfl⟩ hl.1 rfl (Nat.le_of_ble_eq_true rfl) dX11_law_10 ⟨Nat.le_of_ble_eq_true rfl, Nat.le_of_ble_eq_true rfl⟩) (fun r1 u H locs hR M => ?_)
    refine W.widen (k := 0) (n := 0) (Nat.le_of_ble_eq_true rfl) (Nat.le_of_ble_eq_true rfl) ?_
    obtain ⟨rfl, rfl⟩ := hR
    have M : hM E A s H locs σ Z := M
    refine lv_if_ne (tgt := 18) C.1 C.2.1 dX11_law_13 (by decide) (fun c_13 => ?_) (fun c_13 => ?_)
    · skip
      have c_13 : inB day 0 5000 = true := bz_ne0.mp c_13
      refine lv_aload_n C.1 C.2.1 dX11_law_18 rfl (lv_at hl 0 rfl) ?_
      refine g_getO C M 0 3 9 (by decide) rfl rfl (by decide) fl11_33 dX11_law_19 ?_
      refine lv_aload_n C.1 C.2.1 dX11_law_22 rfl (lv_at hl 0 rfl) ?_
      refine g_getQ C M 0 4 (by decide) rfl rfl (by decide) fl11_39 dX11_law_23 ?_
      refine lv_aload_n C.1 C.2.1 dX11_law_26 rfl (lv_at hl 0 rfl) ?_
      refine g_getI C M 0 12 (by decide) rfl rfl (by decide) fl11_147 (v := nI nl) hnl dX11_law_27 ?_
      refine g_aald7 C M 0 4 (by decide) rfl (by decide) nl (nI_clamp (by omega)) (vp_in_nI (by omega) (by decide)) dX11_law_30 ?_
      refine g_calli M (g_runV (As := [.ref (hO E (13 + nl))]) (rest := []) C M 9 (x_tread l E σ Z (13 + nl) (by omega) (lay13 (by omega)) (ci13 (by omega)) (by omega) n (hA σ 9 0 0) hn rfl hn3 L0 hL0) clX9_readInto ivX9_readInto lk11_150 (by decide) rfl rfl ⟨Nat.le_of_ble_eq_true rfl, Nat.le_of_ble_eq_true rfl⟩ hl.1 rfl (Nat.le_of_ble_eq_true rfl) dX11_law_31 ⟨Nat.le_of_ble_eq_true rfl, Nat.le_of_ble_eq_true rfl⟩) (fun r2 u H locs hR M => ?_)
      refine W.widen (k := 0) (n := 0) (Nat.le_of_ble_eq_true rfl) (Nat.le_of_ble_eq_true rfl) ?_
      obtain ⟨Wg, V, pl, wp, td, hu, hrd⟩ := hR
      subst hu
      have M : hM E A s H locs (kM σ (13 + nl) Wg V pl wp td r2) Z := M
      refine lv_istore_n (lv' := [(2, .int r2), (0, .ref (hO E 0)), (1, .int day)]) C.1 C.2.1 dX11_law_34 rfl hl (by decide) rfl (fun ls hl => ?_)
      refine lv_aload_n C.1 C.2.1 dX11_law_35 rfl (lv_at hl 1 rfl) ?_
      refine g_getO C M 0 3 9 (by decide) rfl rfl (by decide) fl11_33 dX11_law_36 ?_
      refine lv_iconst (v := 0) C.1 C.2.1 dX11_law_39 (by decide) ?_
      refine g_putI C M 9 1 (by decide) rfl rfl (by decide) fl11_141 rfl rfl dX11_law_40 (fun H locs M => ?_)
      refine lv_iload_n C.1 C.2.1 dX11_law_43 rfl (lv_at hl 0 rfl) ?_
      refine lv_if_eq (tgt := 52) C.1 C.2.1 dX11_law_44 (by decide) (fun c_44 => ?_) (fun c_44 => ?_)
      · skip
        subst c_44
        refine lv_aload_n C.1 C.2.1 dX11_law_52 rfl (lv_at hl 1 rfl) ?_
        refine g_getO C M 0 5 10 (by decide) rfl rfl (by decide) fl11_48 dX11_law_53 ?_
        refine lv_aload_n C.1 C.2.1 dX11_law_56 rfl (lv_at hl 1 rfl) ?_
        refine g_getI C M 0 12 (by decide) rfl rfl (by decide) fl11_147 (v := nI nl) hnl dX11_law_57 ?_
        refine lv_iload_n C.1 C.2.1 dX11_law_60 rfl (lv_at hl 2 rfl) ?_
        refine lv_aload_n C.1 C.2.1 dX11_law_61 rfl (lv_at hl 1 rfl) ?_
        refine g_getI C M 0 9 (by decide) rfl rfl (by decide) fl11_74 (v := hI (kM σ (13 + nl) Wg V pl wp td 0) 0 9) rfl dX11_law_62 ?_
        refine g_callv M (g_runV (As := [.int (nI nl), .int day, .int (hI (kM σ (13 + nl) Wg V pl wp td 0) 0 9)]) (rest := []) C M 10 (x_tset l E (sI (kM σ (13 + nl) Wg V pl wp td 0) 9 1 0) Z 10 6 (by decide) rfl rfl (by decide) (nI nl) nl (nI_clamp (by omega)) (vp_in_nI (by omega) (by decide)) day (hI (kM σ (13 + nl) Wg V pl wp td 0) 0 9)) clX10_set ivX10_set lk11_154 (by decide) rfl rfl ⟨Nat.le_of_ble_eq_true rfl, Nat.le_of_ble_eq_true rfl⟩ hl.1 rfl (Nat.le_of_ble_eq_true rfl) dX11_law_65 ⟨Nat.le_of_ble_eq_true rfl, Nat.le_of_ble_eq_true rfl⟩) (fun u H locs hR M => ?_)
        refine W.widen (k := 0) (n := 0) (Nat.le_of_ble_eq_true rfl) (Nat.le_of_ble_eq_true rfl) ?_
        subst hR
        have M : hM E A s H locs (sA (sA (sI (kM σ (13 + nl) Wg V pl wp td 0) 9 1 0) 10 0 0 (upd (hA (kM σ (13 + nl) Wg V pl wp td 0) 10 0 0) nl day)) 10 1 0 (upd (hA (kM σ (13 + nl) Wg V pl wp td 0) 10 1 0) nl (hI (kM σ (13 + nl) Wg V pl wp td 0) 0 9))) Z := M
        refine lv_aload_n C.1 C.2.1 dX11_law_68 rfl (lv_at hl 1 rfl) ?_
        refine lv_dup C.1 C.2.1 dX11_law_69 rfl ?_
        refine g_getI C M 0 12 (by decide) rfl rfl (by decide) fl11_147 (v := nI nl) hnl dX11_law_70 ?_
        refine lv_iconst (v := 1) C.1 C.2.1 dX11_law_73 (by decide) ?_
        refine lv_iadd C.1 C.2.1 dX11_law_74 ?_
        refine g_rei (v := nI (nl + 1)) (nI_1 _) ?_
        refine g_putI C M 0 12 (by decide) rfl rfl (by decide) fl11_147 rfl rfl dX11_law_75 (fun H locs M => ?_)
        refine lv_aload_n C.1 C.2.1 dX11_law_78 rfl (lv_at hl 1 rfl) ?_
        refine g_getI C M 0 12 (by decide) rfl rfl (by decide) fl11_147 (v := nI (nl + 1)) rfl dX11_law_79 ?_
        refine lv_iconst (v := 1) C.1 C.2.1 dX11_law_82 (by decide) ?_
        refine lv_isub C.1 C.2.1 dX11_law_83 ?_
        refine g_rei (v := nI nl) (nI_pred _) ?_
        refine g_iret C M hr hlk ?_ (Nat.le_of_ble_eq_true rfl) (Nat.le_of_ble_eq_true rfl) dX11_law_84
        exact Or.inl ⟨⟨c_6, c_13⟩, Wg, V, pl, wp, td, 0, hrd, Or.inr ⟨rfl, rfl, (by unfold cLaw; rw [kM_A (by omega), kM_A (by omega)]; rfl)⟩⟩
      · skip
        refine lv_bipush (v := (-2)) C.1 C.2.1 dX11_law_47 (by decide) ?_
        refine lv_iload_n C.1 C.2.1 dX11_law_49 rfl (lv_at hl 0 rfl) ?_
        refine lv_isub C.1 C.2.1 dX11_law_50 ?_
        refine g_iret C M hr hlk ?_ (Nat.le_of_ble_eq_true rfl) (Nat.le_of_ble_eq_true rfl) dX11_law_51
        exact Or.inl ⟨⟨c_6, c_13⟩, Wg, V, pl, wp, td, _, hrd, Or.inl ⟨c_44, rfl, rfl⟩⟩
    · skip
      have c_13 : ¬ inB day 0 5000 = true := bz_0.mp c_13
      refine lv_iconst (v := (-1)) C.1 C.2.1 dX11_law_16 (by decide) ?_
      refine g_iret C M hr hlk ?_ (Nat.le_of_ble_eq_true rfl) (Nat.le_of_ble_eq_true rfl) dX11_law_17
      exact Or.inr ⟨fun h9 => c_13 h9.2, rfl, rfl⟩
