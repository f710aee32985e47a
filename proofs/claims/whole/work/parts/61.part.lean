theorem lt_c {cl af la : Int32} (h1 : ∃ a, a ≤ 5000 ∧ cl = nI a) (h2 : ∃ a, a ≤ 5000 ∧ af = nI a) : (if ((if 0 < cl - af then cl - af else 0) / 30).toInt64 * la.toInt64 < 1000 then ((if 0 < cl - af then cl - af else 0) / 30).toInt64 * la.toInt64 else 1000) = if 1000 < ltF cl af la then 1000 else ltF cl af la := by
  have e : ((if 0 < cl - af then cl - af else 0) / 30).toInt64 * la.toInt64 = ltF cl af la := by
    unfold ltF
    obtain ⟨a, h1, rfl⟩ := h1
    obtain ⟨b, h2, rfl⟩ := h2
    by_cases h : nI a ≤ nI b
    · rw [if_pos h]
      rw [nI_leI (by omega) (by omega)] at h
      have hn : ¬ 0 < nI a - nI b := by
        rw [Int32.lt_iff_toInt_lt, pk_sub_toInt (by omega) (by omega)]
        have e0 : (0 : Int32).toInt = 0 := rfl
        rw [e0]
        omega
      rw [if_neg hn]
      show (0 : Int64) * la.toInt64 = 0
      simp
    · rw [if_neg h]
      rw [nI_leI (by omega) (by omega)] at h
      rw [nI_subN (by omega), if_pos (show (0 : Int32) < nI (a - b) from (nI_ltI (a := 0) (b := a - b) (by decide) (by omega)).mpr (by omega))]
  rw [e]
  generalize ltF cl af la = x
  by_cases h : x < 1000
  · rw [if_pos h, if_neg (fun q => l_irr x (Int64.lt_trans h q))]
  · rw [if_neg h]
    by_cases h2 : 1000 < x
    · rw [if_pos h2]
    · rw [if_neg h2]
      exact (Int64.le_antisymm (Int64.not_lt.mp h2) (Int64.not_lt.mp h)).symm

set_option maxHeartbeats 4000000 in
set_option maxRecDepth 100000 in
theorem x_plose (l : Launch) (E : hEnv) (σ : hMem) (Z : va_W) (ns : Nat) (AW G K : Int64) (P : Nat → Nat → Int64) (Q : Nat → Nat → Int32) (HT : Nat → Nat → Int64) (i9 : Nat) (hi9 : i9 < 8) (j : Nat) (hj : j < 44) (hL : hLay j = layLaw) (hC : hCi j = 5) (hjo : 13 ≤ j ∧ j < 35) (cl : Int32) (hcl : ∃ a, a ≤ 5000 ∧ cl = nI a) (haf : ∃ a, a ≤ 5000 ∧ hI σ j 6 = nI a) : hMet l yX6_loseLate cX6_loseLate 5 none (1, 0, 0, 18) E (cM σ ns AW G K P Q HT) Z [.ref (hO E (35 + i9)), .int cl, .ref (hO E j)] (hQv E (fun u => u = (cM σ ns AW G K (up2 (up2 P i9 5 (ls9 (P i9 4) cl (hI σ j 6) (hI σ j 5))) i9 4 (P i9 4 - (ls9 (P i9 4) cl (hI σ j 6) (hI σ j 5)))) Q HT, Z))) := by
  refine hMet.of (by decide) (Nat.le_of_ble_eq_true rfl) (fun p e s m below meth c A ls C M hr hlk hl => ?_)
  have hl : lv_has ls 5 [(0, .ref (hO E (35 + i9))), (1, .int cl), (2, .ref (hO E j))] := hl
  generalize s.heap = H at M ⊢
  generalize ([] : List Loc) = locs at M ⊢
  refine lv_iconst (v := 0) C.1 C.2.1 dX6_loseLate_0 (by decide) ?_
  refine lv_iload_n C.1 C.2.1 dX6_loseLate_1 rfl (lv_at hl 1 rfl) ?_
  refine lv_aload_n C.1 C.2.1 dX6_loseLate_2 rfl (lv_at hl 2 rfl) ?_
  refine g_getI C M j 6 hj (by rw [hL]; rfl) (by rw [hC]; rfl) (by decide) fl6_15 (v := hI σ j 6) (cM_Io (by omega) (by omega)) dX6_loseLate_3 ?_
  refine lv_isub C.1 C.2.1 dX6_loseLate_6 ?_
  refine g_mmax C hl.1 mlk6_21 (Nat.le_of_ble_eq_true rfl) (Nat.le_of_ble_eq_true rfl) (Nat.le_of_ble_eq_true rfl) (Nat.le_of_ble_eq_true rfl) dX6_loseLate_7 ?_
  refine lv_bipush (v := 30) C.1 C.2.1 dX6_loseLate_10 (by decide) ?_
  refine lv_idiv C.1 C.2.1 dX6_loseLate_12 (by decide) ?_
  refine lv_i2l C.1 C.2.1 dX6_loseLate_13 rfl ?_
  refine lv_lstore_n (lv' := [(3, .long (((if 0 < (cl - (hI σ j 6)) then cl - (hI σ j 6) else 0) / 30).toInt64)), (0, .ref (hO E (35 + i9))), (1, .int cl), (2, .ref (hO E j))]) C.1 C.2.1 dX6_loseLate_14 rfl hl (by decide) rfl (fun ls hl => ?_)
  refine lv_aload_n C.1 C.2.1 dX6_loseLate_15 rfl (lv_at hl 1 rfl) ?_
  refine lv_aload_n C.1 C.2.1 dX6_loseLate_16 rfl (lv_at hl 1 rfl) ?_
  refine g_getL C M (35 + i9) 4 (by omega) (by rw [lay35 (by omega)]; rfl) (by rw [ci35 (by omega)]; rfl) (by decide) fl6_27 (v := P i9 4) (cM_L (by omega)) dX6_loseLate_17 ?_
  refine lv_ldc2 (v := 1000) C.1 C.2.1 C.2.2.2.1 (C.2.2.2.2.1.1.use kc6_31 rfl) dX6_loseLate_20 ?_
  refine lv_lload_n C.1 C.2.1 dX6_loseLate_23 rfl (lv_at hl 0 rfl) ?_
  refine lv_aload_n C.1 C.2.1 dX6_loseLate_24 rfl (lv_at hl 3 rfl) ?_
  refine g_getI C M j 5 hj (by rw [hL]; rfl) (by rw [hC]; rfl) (by decide) fl6_33 (v := hI σ j 5) (cM_Io (by omega) (by omega)) dX6_loseLate_25 ?_
  refine lv_i2l C.1 C.2.1 dX6_loseLate_28 rfl ?_
  refine lv_lmul C.1 C.2.1 dX6_loseLate_29 ?_
  refine g_mminL C hl.1 mlk6_36 (Nat.le_of_ble_eq_true rfl) (Nat.le_of_ble_eq_true rfl) (Nat.le_of_ble_eq_true rfl) (Nat.le_of_ble_eq_true rfl) dX6_loseLate_30 ?_
  refine g_rel (v := (if 1000 < (ltF cl (hI σ j 6) (hI σ j 5)) then 1000 else (ltF cl (hI σ j 6) (hI σ j 5)))) (lt_c hcl haf) ?_
  refine lv_lmul C.1 C.2.1 dX6_loseLate_33 ?_
  refine lv_ldc2 (v := 1000) C.1 C.2.1 C.2.2.2.1 (C.2.2.2.2.1.1.use kc6_31 rfl) dX6_loseLate_34 ?_
  refine lv_ldiv C.1 C.2.1 dX6_loseLate_37 (by decide) ?_
  refine g_rel (v := (ls9 (P i9 4) cl (hI σ j 6) (hI σ j 5))) rfl ?_
  refine g_putL C M (35 + i9) 5 (by omega) (by rw [lay35 (by omega)]; rfl) (by rw [ci35 (by omega)]; rfl) (by decide) fl6_40 rfl (by rw [ci35 (by omega)]; rfl) dX6_loseLate_38 (fun H locs M => ?_)
  rw [cM_sL (by omega)] at M
  refine lv_aload_n C.1 C.2.1 dX6_loseLate_41 rfl (lv_at hl 1 rfl) ?_
  refine lv_dup C.1 C.2.1 dX6_loseLate_42 rfl ?_
  refine g_getL C M (35 + i9) 4 (by omega) (by rw [lay35 (by omega)]; rfl) (by rw [ci35 (by omega)]; rfl) (by decide) fl6_27 (v := P i9 4) ((cM_L (by omega)).trans (by simp [up2])) dX6_loseLate_43 ?_
  refine lv_aload_n C.1 C.2.1 dX6_loseLate_46 rfl (lv_at hl 1 rfl) ?_
  refine g_getL C M (35 + i9) 5 (by omega) (by rw [lay35 (by omega)]; rfl) (by rw [ci35 (by omega)]; rfl) (by decide) fl6_40 (v := (ls9 (P i9 4) cl (hI σ j 6) (hI σ j 5))) ((cM_L (by omega)).trans (by simp [up2])) dX6_loseLate_47 ?_
  refine lv_lsub C.1 C.2.1 dX6_loseLate_50 ?_
  refine g_putL C M (35 + i9) 4 (by omega) (by rw [lay35 (by omega)]; rfl) (by rw [ci35 (by omega)]; rfl) (by decide) fl6_27 rfl (by rw [ci35 (by omega)]; rfl) dX6_loseLate_51 (fun H locs M => ?_)
  rw [cM_sL (by omega)] at M
  refine g_vret C M hr hlk ?_ (Nat.le_of_ble_eq_true rfl) (Nat.le_of_ble_eq_true rfl) dX6_loseLate_54
  rfl

set_option maxHeartbeats 4000000 in
set_option maxRecDepth 100000 in
theorem x_phands (l : Launch) (E : hEnv) (σ : hMem) (Z : va_W) (ns : Nat) (AW G K : Int64) (P : Nat → Nat → Int64) (Q : Nat → Nat → Int32) (HT : Nat → Nat → Int64) (i9 : Nat) (hi9 : i9 < 8) (hd V : Nat) (hhd : hI σ (27 + i9) 1 = nI hd) (hd60 : hd ≤ 60) (hws : 0 < hI σ (27 + i9) 2) (hws0 : ¬ (hI σ (27 + i9) 2).toInt64 = 0) (hVd : V ≤ hd) (hV : subL (P i9 8) (hcF (P i9 8) (hA σ (27 + i9) 0 0) (hI σ (27 + i9) 2)) hd = lN V) : hMet l yX6_payHands cX6_payHands 5 none (0, 0, 0, 0) E (cM σ ns AW G K P Q HT) Z [.ref (hO E (35 + i9)), .ref (hO E (27 + i9))] (hQv E (fun u => u = ((cM σ ns AW G K P (u2 Q i9 9 (nI hd)) (preU (preU HT i9 (hcF (P i9 8) (hA σ (27 + i9) 0 0) (hI σ (27 + i9) 2)) hd) i9 (fun y => (hcF (P i9 8) (hA σ (27 + i9) 0 0) (hI σ (27 + i9) 2)) y + 1) V)), Z))) := by
  refine hMet.of (by decide) (Nat.le_of_ble_eq_true rfl) (fun p e s m below meth c A ls C M hr hlk hl => ?_)
  have hl : lv_has ls 5 [(0, .ref (hO E (35 + i9))), (1, .ref (hO E (27 + i9)))] := hl
  generalize s.heap = H at M ⊢
  generalize ([] : List Loc) = locs at M ⊢
  refine lv_aload_n C.1 C.2.1 dX6_payHands_0 rfl (lv_at hl 0 rfl) ?_
  refine lv_aload_n C.1 C.2.1 dX6_payHands_1 rfl (lv_at hl 1 rfl) ?_
  refine g_getI C M (27 + i9) 1 (by omega) (by rw [lay27 (by omega)]; rfl) (by rw [ci27 (by omega)]; rfl) (by decide) fl6_67 (v := nI hd) ((cM_Io (by omega) (by omega)).trans hhd) dX6_payHands_2 ?_
  refine g_putI C M (35 + i9) 9 (by omega) (by rw [lay35 (by omega)]; rfl) (by rw [ci35 (by omega)]; rfl) (by decide) fl6_72 rfl (by rw [ci35 (by omega)]; rfl) dX6_payHands_5 (fun H locs M => ?_)
  rw [cM_sI (by omega)] at M
  refine lv_aload_n C.1 C.2.1 dX6_payHands_8 rfl (lv_at hl 1 rfl) ?_
  refine g_getI C M (27 + i9) 2 (by omega) (by rw [lay27 (by omega)]; rfl) (by rw [ci27 (by omega)]; rfl) (by decide) fl6_73 (v := hI σ (27 + i9) 2) (cM_Io (by omega) (by omega)) dX6_payHands_9 ?_
  refine lv_if_gt (tgt := 16) C.1 C.2.1 dX6_payHands_12 (by decide) (fun c_12 => ?_) (fun c_12 => ?_)
  · skip
    refine lv_aload_n C.1 C.2.1 dX6_payHands_16 rfl (lv_at hl 0 rfl) ?_
    refine g_getL C M (35 + i9) 8 (by omega) (by rw [lay35 (by omega)]; rfl) (by rw [ci35 (by omega)]; rfl) (by decide) fl6_57 (v := P i9 8) (cM_L (by omega)) dX6_payHands_17 ?_
    refine lv_lstore_n (lv' := [(2, .long (P i9 8)), (0, .ref (hO E (35 + i9))), (1, .ref (hO E (27 + i9)))]) C.1 C.2.1 dX6_payHands_20 rfl hl (by decide) rfl (fun ls hl => ?_)
    refine lv_iconst (v := 0) C.1 C.2.1 dX6_payHands_21 (by decide) ?_
    refine lv_istore (lv' := [(4, .int 0), (2, .long (P i9 8)), (0, .ref (hO E (35 + i9))), (1, .ref (hO E (27 + i9)))]) C.1 C.2.1 dX6_payHands_22 hl (by decide) rfl (fun ls hl => ?_)
    have L24 : ∀ (n9 : Nat) (k : Nat), (k ≤ hd) → hd - k < n9 → ∀ (H : Heap) (locs : List Loc) (ls : Array Slot), hM E A s H locs (cM σ ns AW G K P (u2 Q i9 9 (nI hd)) (preU HT i9 (hcF (P i9 8) (hA σ (27 + i9) 0 0) (hI σ (27 + i9) 2)) k)) Z → lv_has ls 5 [(2, .long (subL (P i9 8) (hcF (P i9 8) (hA σ (27 + i9) 0 0) (hI σ (27 + i9) 2)) k)), (4, .int (nI k)), (0, .ref (hO E (35 + i9))), (1, .ref (hO E (27 + i9)))] → W p l e (hRm (0, 0, 0, 0)) s m [.ref (hO E (35 + i9)), .ref (hO E (27 + i9))].toArray below meth c H locs 0 0 (MQ below (hQv E (fun u => u = ((cM σ ns AW G K P (u2 Q i9 9 (nI hd)) (preU (preU HT i9 (hcF (P i9 8) (hA σ (27 + i9) 0 0) (hI σ (27 + i9) 2)) hd) i9 (fun y => (hcF (P i9 8) (hA σ (27 + i9) 0 0) (hI σ (27 + i9) 2)) y + 1) V)), Z)) A) [.ref (hO E (35 + i9)), .ref (hO E (27 + i9))].toArray s 0 0 A) (F0 m 24 ls []) := by
      intro n9
      induction n9 with
      | zero =>
        intro k hk hn9
        exact absurd hn9 (Nat.not_lt_zero _)
      | succ n9 ih24 =>
        intro k hk hn24 H locs ls M hl
        refine lv_iload C.1 C.2.1 dX6_payHands_24 (lv_at hl 1 rfl) ?_
        refine lv_aload_n C.1 C.2.1 dX6_payHands_26 rfl (lv_at hl 2 rfl) ?_
        refine g_getI C M (35 + i9) 9 (by omega) (by rw [lay35 (by omega)]; rfl) (by rw [ci35 (by omega)]; rfl) (by decide) fl6_72 (v := (nI hd)) ((cM_I (by omega)).trans (by simp [u2])) dX6_payHands_27 ?_
        refine lv_icmp_ge (tgt := 75) C.1 C.2.1 dX6_payHands_30 (by decide) (fun c_30 => ?_) (fun c_30 => ?_)
        · skip
          have hkn : k = hd := by have := ct_ge (n := hd) (k := k) c_30; omega
          have hl : lv_has ls 5 [(2, .long (subL (P i9 8) (hcF (P i9 8) (hA σ (27 + i9) 0 0) (hI σ (27 + i9) 2)) hd)), (4, .int (nI hd)), (0, .ref (hO E (35 + i9))), (1, .ref (hO E (27 + i9)))] := by first | exact hl | (rw [hkn] at hl; exact hl)
          have M : hM E A s H locs (cM σ ns AW G K P (u2 Q i9 9 (nI hd)) (preU HT i9 (hcF (P i9 8) (hA σ (27 + i9) 0 0) (hI σ (27 + i9) 2)) hd)) Z := by first | exact M | (rw [hkn] at M; exact M)
          refine lv_iconst (v := 0) C.1 C.2.1 dX6_payHands_75 (by decide) ?_
          refine lv_istore (lv' := [(4, .int 0), (2, .long (subL (P i9 8) (hcF (P i9 8) (hA σ (27 + i9) 0 0) (hI σ (27 + i9) 2)) hd)), (0, .ref (hO E (35 + i9))), (1, .ref (hO E (27 + i9)))]) C.1 C.2.1 dX6_payHands_76 hl (by decide) rfl (fun ls hl => ?_)
          have L78 : ∀ (n9 : Nat) (k : Nat), (k ≤ V) → V - k < n9 → ∀ (H : Heap) (locs : List Loc) (ls : Array Slot), hM E A s H locs (cM σ ns AW G K P (u2 Q i9 9 (nI hd)) (preU (preU HT i9 (hcF (P i9 8) (hA σ (27 + i9) 0 0) (hI σ (27 + i9) 2)) hd) i9 (fun y => (hcF (P i9 8) (hA σ (27 + i9) 0 0) (hI σ (27 + i9) 2)) y + 1) k)) Z → lv_has ls 5 [(2, .long (lN V)), (4, .int (nI k)), (0, .ref (hO E (35 + i9))), (1, .ref (hO E (27 + i9)))] → W p l e (hRm (0, 0, 0, 0)) s m [.ref (hO E (35 + i9)), .ref (hO E (27 + i9))].toArray below meth c H locs 0 0 (MQ below (hQv E (fun u => u = ((cM σ ns AW G K P (u2 Q i9 9 (nI hd)) (preU (preU HT i9 (hcF (P i9 8) (hA σ (27 + i9) 0 0) (hI σ (27 + i9) 2)) hd) i9 (fun y => (hcF (P i9 8) (hA σ (27 + i9) 0 0) (hI σ (27 + i9) 2)) y + 1) V)), Z)) A) [.ref (hO E (35 + i9)), .ref (hO E (27 + i9))].toArray s 0 0 A) (F0 m 78 ls []) := by
            intro n9
            induction n9 with
            | zero =>
              intro k hk hn9
              exact absurd hn9 (Nat.not_lt_zero _)
            | succ n9 ih78 =>
              intro k hk hn78 H locs ls M hl
              refine lv_iload C.1 C.2.1 dX6_payHands_78 (lv_at hl 1 rfl) ?_
              refine lv_aload_n C.1 C.2.1 dX6_payHands_80 rfl (lv_at hl 2 rfl) ?_
              refine g_getI C M (35 + i9) 9 (by omega) (by rw [lay35 (by omega)]; rfl) (by rw [ci35 (by omega)]; rfl) (by decide) fl6_72 (v := (nI hd)) ((cM_I (by omega)).trans (by simp [u2])) dX6_payHands_81 ?_
              refine lv_icmp_ge (tgt := 112) C.1 C.2.1 dX6_payHands_84 (by decide) (fun c_84 => ?_) (fun c_84 => ?_)
              · skip
                have hkV : k = V := by have := ct_ge (n := hd) (k := k) c_84; omega
                refine g_vret C M hr hlk ?_ (Nat.le_of_ble_eq_true rfl) (Nat.le_of_ble_eq_true rfl) dX6_payHands_112
                rw [hkV]
              · skip
                have hk1 : k < hd := ct_nge (n := hd) (k := k) c_84
                refine lv_iload C.1 C.2.1 dX6_payHands_87 (lv_at hl 1 rfl) ?_
                refine lv_i2l C.1 C.2.1 dX6_payHands_89 rfl ?_
                refine lv_lload_n C.1 C.2.1 dX6_payHands_90 rfl (lv_at hl 0 rfl) ?_
                refine W.lcmp C.1 C.2.1 dX6_payHands_91 ?_
                refine lv_if_ge (tgt := 112) C.1 C.2.1 dX6_payHands_92 (by decide) (fun c_92 => ?_) (fun c_92 => ?_)
                · skip
                  have c_92 : ¬ ((nI k).toInt64) < (lN V) := lc_ge0.mp c_92
                  have hkV : k = V := by have h9 : ¬ k < V := fun q => c_92 (by rw [nI_l (by omega)]; exact (pk_lLT (by omega) (by omega)).mpr q); omega
                  refine g_vret C M hr hlk ?_ (Nat.le_of_ble_eq_true rfl) (Nat.le_of_ble_eq_true rfl) dX6_payHands_112
                  rw [hkV]
                · skip
                  have c_92 : ((nI k).toInt64) < (lN V) := lc_ge1.mp c_92
                  have hkV : k < V := by rw [nI_l (by omega)] at c_92; exact (pk_lLT (by omega) (by omega)).mp c_92
                  refine lv_aload_n C.1 C.2.1 dX6_payHands_95 rfl (lv_at hl 2 rfl) ?_
                  refine g_getJ C M (35 + i9) 0 (by omega) (by rw [lay35 (by omega)]; rfl) (by rw [ci35 (by omega)]; rfl) (by decide) fl6_9 dX6_payHands_96 ?_
                  refine lv_iload C.1 C.2.1 dX6_payHands_99 (lv_at hl 1 rfl) ?_
                  refine lv_dup2_11 C.1 C.2.1 dX6_payHands_101 rfl rfl ?_
                  refine g_lald C M (35 + i9) 0 (by omega) (by rw [lay35 (by omega)]; rfl) k (nI_clamp (by omega)) (vp_in_nI (by omega) (by decide)) (v := (hcF (P i9 8) (hA σ (27 + i9) 0 0) (hI σ (27 + i9) 2)) k) ((congrFun (cM_B (by omega)) _).trans (by show (preU (preU HT i9 (hcF (P i9 8) (hA σ (27 + i9) 0 0) (hI σ (27 + i9) 2)) hd) i9 (fun y => (hcF (P i9 8) (hA σ (27 + i9) 0 0) (hI σ (27 + i9) 2)) y + 1) k) i9 k = _; rw [preU_ge (Nat.lt_irrefl k), preU_lt (by omega)])) dX6_payHands_102 ?_
                  refine lv_lconst (v := 1) C.1 C.2.1 dX6_payHands_103 (by decide) ?_
                  refine lv_ladd C.1 C.2.1 dX6_payHands_104 ?_
                  refine g_last C M (35 + i9) 0 (by omega) (by rw [lay35 (by omega)]; rfl) k (nI_clamp (by omega)) (vp_in_nI (by omega) (by decide)) dX6_payHands_105 (fun H locs M => ?_)
                  have M : hM E A s H locs (sB (cM σ ns AW G K P (u2 Q i9 9 (nI hd)) (preU (preU HT i9 (hcF (P i9 8) (hA σ (27 + i9) 0 0) (hI σ (27 + i9) 2)) hd) i9 (fun y => (hcF (P i9 8) (hA σ (27 + i9) 0 0) (hI σ (27 + i9) 2)) y + 1) k)) (35 + i9) 0 0 (vp_updL ((preU (preU HT i9 (hcF (P i9 8) (hA σ (27 + i9) 0 0) (hI σ (27 + i9) 2)) hd) i9 (fun y => (hcF (P i9 8) (hA σ (27 + i9) 0 0) (hI σ (27 + i9) 2)) y + 1) k) i9) k (((hcF (P i9 8) (hA σ (27 + i9) 0 0) (hI σ (27 + i9) 2)) k) + 1))) Z := by rw [cM_B (by omega)] at M; exact M
                  rw [cM_sB (by omega)] at M
                  refine lv_iinc (v := nI (k + 1)) (lv' := [(4, .int (nI (k + 1))), (2, .long (lN V)), (0, .ref (hO E (35 + i9))), (1, .ref (hO E (27 + i9)))]) C.1 C.2.1 dX6_payHands_106 hl (k := 1) rfl (nI_succ _).symm (by decide) rfl (fun ls hl => ?_)
                  refine lv_goto (tgt := 78) C.1 C.2.1 dX6_payHands_109 (by decide) ?_
                  have q1 : (cM σ ns AW G K P (u2 Q i9 9 (nI hd)) (up2 (preU (preU HT i9 (hcF (P i9 8) (hA σ (27 + i9) 0 0) (hI σ (27 + i9) 2)) hd) i9 (fun y => (hcF (P i9 8) (hA σ (27 + i9) 0 0) (hI σ (27 + i9) 2)) y + 1) k) i9 k (((hcF (P i9 8) (hA σ (27 + i9) 0 0) (hI σ (27 + i9) 2)) k) + 1))) = (cM σ ns AW G K P (u2 Q i9 9 (nI hd)) (preU (preU HT i9 (hcF (P i9 8) (hA σ (27 + i9) 0 0) (hI σ (27 + i9) 2)) hd) i9 (fun y => (hcF (P i9 8) (hA σ (27 + i9) 0 0) (hI σ (27 + i9) 2)) y + 1) (k + 1))) := by first | exact congrArg (fun h => cM σ ns AW G K P _ h) (preU_0 _ _ _) | exact congrArg (fun h => cM σ ns AW G K P _ h) (preU_s _ _ _ _)
                  rw [q1] at M
                  exact ih78 (k + 1) hkV (by omega) _ _ _ M (lv_sub hl [1, 0, 2, 3] rfl)
          have q2 : subL (P i9 8) (hcF (P i9 8) (hA σ (27 + i9) 0 0) (hI σ (27 + i9) 2)) hd = lN V := by first | rfl | exact hV
          have q3 : 0 = nI 0 := by first | rfl | exact hV
          have hl : lv_has ls 5 [(2, .long (lN V)), (4, .int (nI 0)), (0, .ref (hO E (35 + i9))), (1, .ref (hO E (27 + i9)))] := by
            rw [← q2, ← q3]
            exact lv_sub hl [1, 0, 2, 3] rfl
          have q4 : (cM σ ns AW G K P (u2 Q i9 9 (nI hd)) (preU HT i9 (hcF (P i9 8) (hA σ (27 + i9) 0 0) (hI σ (27 + i9) 2)) hd)) = (cM σ ns AW G K P (u2 Q i9 9 (nI hd)) (preU (preU HT i9 (hcF (P i9 8) (hA σ (27 + i9) 0 0) (hI σ (27 + i9) 2)) hd) i9 (fun y => (hcF (P i9 8) (hA σ (27 + i9) 0 0) (hI σ (27 + i9) 2)) y + 1) 0)) := by first | exact congrArg (fun h => cM σ ns AW G K P _ h) (preU_0 _ _ _) | exact congrArg (fun h => cM σ ns AW G K P _ h) (preU_s _ _ _ _)
          rw [q4] at M
          exact L78 ((V - 0) + 1) 0 (Nat.zero_le _) (Nat.lt_succ_self _) _ _ _ M hl
        · skip
          have hk1 : k < hd := ct_nge (n := hd) (k := k) c_30
          refine lv_aload_n C.1 C.2.1 dX6_payHands_33 rfl (lv_at hl 2 rfl) ?_
          refine g_getJ C M (35 + i9) 0 (by omega) (by rw [lay35 (by omega)]; rfl) (by rw [ci35 (by omega)]; rfl) (by decide) fl6_9 dX6_payHands_34 ?_
          refine lv_iload C.1 C.2.1 dX6_payHands_37 (lv_at hl 1 rfl) ?_
          refine lv_aload_n C.1 C.2.1 dX6_payHands_39 rfl (lv_at hl 2 rfl) ?_
          refine g_getL C M (35 + i9) 8 (by omega) (by rw [lay35 (by omega)]; rfl) (by rw [ci35 (by omega)]; rfl) (by decide) fl6_57 (v := P i9 8) (cM_L (by omega)) dX6_payHands_40 ?_
          refine lv_aload_n C.1 C.2.1 dX6_payHands_43 rfl (lv_at hl 3 rfl) ?_
          refine g_getA C M (27 + i9) 0 (by omega) (by rw [lay27 (by omega)]; rfl) (by rw [ci27 (by omega)]; rfl) (by decide) fl6_76 dX6_payHands_44 ?_
          refine lv_iload C.1 C.2.1 dX6_payHands_47 (lv_at hl 1 rfl) ?_
          refine g_iald C M (27 + i9) 0 (by omega) (by rw [lay27 (by omega)]; rfl) k (nI_clamp (by omega)) (vp_in_nI (by omega) (by decide)) (v := hA σ (27 + i9) 0 0 k) rfl dX6_payHands_49 ?_
          refine lv_i2l C.1 C.2.1 dX6_payHands_50 rfl ?_
          refine lv_lmul C.1 C.2.1 dX6_payHands_51 ?_
          refine lv_aload_n C.1 C.2.1 dX6_payHands_52 rfl (lv_at hl 3 rfl) ?_
          refine g_getI C M (27 + i9) 2 (by omega) (by rw [lay27 (by omega)]; rfl) (by rw [ci27 (by omega)]; rfl) (by decide) fl6_73 (v := hI σ (27 + i9) 2) (cM_Io (by omega) (by omega)) dX6_payHands_53 ?_
          refine lv_i2l C.1 C.2.1 dX6_payHands_56 rfl ?_
          refine lv_ldiv C.1 C.2.1 dX6_payHands_57 hws0 ?_
          refine g_last C M (35 + i9) 0 (by omega) (by rw [lay35 (by omega)]; rfl) k (nI_clamp (by omega)) (vp_in_nI (by omega) (by decide)) dX6_payHands_58 (fun H locs M => ?_)
          have M : hM E A s H locs (sB (cM σ ns AW G K P (u2 Q i9 9 (nI hd)) (preU HT i9 (hcF (P i9 8) (hA σ (27 + i9) 0 0) (hI σ (27 + i9) 2)) k)) (35 + i9) 0 0 (vp_updL ((preU HT i9 (hcF (P i9 8) (hA σ (27 + i9) 0 0) (hI σ (27 + i9) 2)) k) i9) k (((P i9 8) * ((hA σ (27 + i9) 0 0 k).toInt64)) / ((hI σ (27 + i9) 2).toInt64)))) Z := by rw [cM_B (by omega)] at M; exact M
          rw [cM_sB (by omega)] at M
          refine lv_lload_n C.1 C.2.1 dX6_payHands_59 rfl (lv_at hl 0 rfl) ?_
          refine lv_aload_n C.1 C.2.1 dX6_payHands_60 rfl (lv_at hl 2 rfl) ?_
          refine g_getJ C M (35 + i9) 0 (by omega) (by rw [lay35 (by omega)]; rfl) (by rw [ci35 (by omega)]; rfl) (by decide) fl6_9 dX6_payHands_61 ?_
          refine lv_iload C.1 C.2.1 dX6_payHands_64 (lv_at hl 1 rfl) ?_
          refine g_lald C M (35 + i9) 0 (by omega) (by rw [lay35 (by omega)]; rfl) k (nI_clamp (by omega)) (vp_in_nI (by omega) (by decide)) (v := (hcF (P i9 8) (hA σ (27 + i9) 0 0) (hI σ (27 + i9) 2)) k) ((congrFun (cM_B (by omega)) _).trans (by show (up2 (preU HT i9 (hcF (P i9 8) (hA σ (27 + i9) 0 0) (hI σ (27 + i9) 2)) k) i9 k (((P i9 8) * ((hA σ (27 + i9) 0 0 k).toInt64)) / ((hI σ (27 + i9) 2).toInt64))) i9 k = _; exact up2_s)) dX6_payHands_66 ?_
          refine lv_lsub C.1 C.2.1 dX6_payHands_67 ?_
          refine lv_lstore_n (lv' := [(2, .long ((subL (P i9 8) (hcF (P i9 8) (hA σ (27 + i9) 0 0) (hI σ (27 + i9) 2)) k) - ((hcF (P i9 8) (hA σ (27 + i9) 0 0) (hI σ (27 + i9) 2)) k))), (4, .int (nI k)), (0, .ref (hO E (35 + i9))), (1, .ref (hO E (27 + i9)))]) C.1 C.2.1 dX6_payHands_68 rfl hl (by decide) rfl (fun ls hl => ?_)
          refine lv_iinc (v := nI (k + 1)) (lv' := [(4, .int (nI (k + 1))), (2, .long ((subL (P i9 8) (hcF (P i9 8) (hA σ (27 + i9) 0 0) (hI σ (27 + i9) 2)) k) - ((hcF (P i9 8) (hA σ (27 + i9) 0 0) (hI σ (27 + i9) 2)) k))), (0, .ref (hO E (35 + i9))), (1, .ref (hO E (27 + i9)))]) C.1 C.2.1 dX6_payHands_69 hl (k := 1) rfl (nI_succ _).symm (by decide) rfl (fun ls hl => ?_)
          refine lv_goto (tgt := 24) C.1 C.2.1 dX6_payHands_72 (by decide) ?_
          have q5 : (subL (P i9 8) (hcF (P i9 8) (hA σ (27 + i9) 0 0) (hI σ (27 + i9) 2)) k) - ((hcF (P i9 8) (hA σ (27 + i9) 0 0) (hI σ (27 + i9) 2)) k) = subL (P i9 8) (hcF (P i9 8) (hA σ (27 + i9) 0 0) (hI σ (27 + i9) 2)) (k + 1) := by rfl
          have hl : lv_has ls 5 [(2, .long (subL (P i9 8) (hcF (P i9 8) (hA σ (27 + i9) 0 0) (hI σ (27 + i9) 2)) (k + 1))), (4, .int (nI (k + 1))), (0, .ref (hO E (35 + i9))), (1, .ref (hO E (27 + i9)))] := by
            rw [← q5]
            exact lv_sub hl [1, 0, 2, 3] rfl
          have q6 : (cM σ ns AW G K P (u2 Q i9 9 (nI hd)) (up2 (preU HT i9 (hcF (P i9 8) (hA σ (27 + i9) 0 0) (hI σ (27 + i9) 2)) k) i9 k (((P i9 8) * ((hA σ (27 + i9) 0 0 k).toInt64)) / ((hI σ (27 + i9) 2).toInt64)))) = (cM σ ns AW G K P (u2 Q i9 9 (nI hd)) (preU HT i9 (hcF (P i9 8) (hA σ (27 + i9) 0 0) (hI σ (27 + i9) 2)) (k + 1))) := by first | exact congrArg (fun h => cM σ ns AW G K P _ h) (preU_0 _ _ _) | exact congrArg (fun h => cM σ ns AW G K P _ h) (preU_s _ _ _ _)
          rw [q6] at M
          exact ih24 (k + 1) hk1 (by omega) _ _ _ M hl
    have q7 : P i9 8 = subL (P i9 8) (hcF (P i9 8) (hA σ (27 + i9) 0 0) (hI σ (27 + i9) 2)) 0 := by rfl
    have q8 : 0 = nI 0 := by rfl
    have hl : lv_has ls 5 [(2, .long (subL (P i9 8) (hcF (P i9 8) (hA σ (27 + i9) 0 0) (hI σ (27 + i9) 2)) 0)), (4, .int (nI 0)), (0, .ref (hO E (35 + i9))), (1, .ref (hO E (27 + i9)))] := by
      rw [← q7, ← q8]
      exact lv_sub hl [1, 0, 2, 3] rfl
    have q9 : (cM σ ns AW G K P (u2 Q i9 9 (nI hd)) HT) = (cM σ ns AW G K P (u2 Q i9 9 (nI hd)) (preU HT i9 (hcF (P i9 8) (hA σ (27 + i9) 0 0) (hI σ (27 + i9) 2)) 0)) := by first | exact congrArg (fun h => cM σ ns AW G K P _ h) (preU_0 _ _ _) | exact congrArg (fun h => cM σ ns AW G K P _ h) (preU_s _ _ _ _)
    rw [q9] at M
    exact L24 ((hd - 0) + 1) 0 (Nat.zero_le _) (Nat.lt_succ_self _) _ _ _ M hl
  · skip
    exact absurd hws c_12

set_option maxHeartbeats 4000000 in
set_option maxRecDepth 100000 in
theorem x_ppay (l : Launch) (E : hEnv) (σ : hMem) (Z : va_W) (ns : Nat) (AW G K : Int64) (P : Nat → Nat → Int64) (Q : Nat → Nat → Int32) (HT : Nat → Nat → Int64) (i9 : Nat) (hi9 : i9 < 8) (hd V : Nat) (hhd : hI σ (27 + i9) 1 = nI hd) (hd60 : hd ≤ 60) (hws : 0 < hI σ (27 + i9) 2) (hws0 : ¬ (hI σ (27 + i9) 2).toInt64 = 0) (hVd : V ≤ hd) (hV : subL (P i9 4 - (P i9 4 * (hI σ (19 + i9) 5).toInt64 / 100) - (P i9 4 * (hI σ (19 + i9) 6).toInt64 / 100)) (hcF (P i9 4 - (P i9 4 * (hI σ (19 + i9) 5).toInt64 / 100) - (P i9 4 * (hI σ (19 + i9) 6).toInt64 / 100)) (hA σ (27 + i9) 0 0) (hI σ (27 + i9) 2)) hd = lN V) : hMet l yX6_pay cX6_pay 2 none (1, 0, 0, 24) E (cM σ ns AW G K P Q HT) Z [.ref (hO E (35 + i9)), .ref (hO E (19 + i9))] (hQv E (fun u => u = (cM σ ns AW G K (up2 (up2 (up2 P i9 6 (P i9 4 * (hI σ (19 + i9) 5).toInt64 / 100)) i9 7 (P i9 4 * (hI σ (19 + i9) 6).toInt64 / 100)) i9 8 (P i9 4 - (P i9 4 * (hI σ (19 + i9) 5).toInt64 / 100) - (P i9 4 * (hI σ (19 + i9) 6).toInt64 / 100))) (u2 Q i9 9 (nI hd)) (preU (preU HT i9 (hcF (P i9 4 - (P i9 4 * (hI σ (19 + i9) 5).toInt64 / 100) - (P i9 4 * (hI σ (19 + i9) 6).toInt64 / 100)) (hA σ (27 + i9) 0 0) (hI σ (27 + i9) 2)) hd) i9 (fun y => (hcF (P i9 4 - (P i9 4 * (hI σ (19 + i9) 5).toInt64 / 100) - (P i9 4 * (hI σ (19 + i9) 6).toInt64 / 100)) (hA σ (27 + i9) 0 0) (hI σ (27 + i9) 2)) y + 1) V), Z))) := by
  refine hMet.of (by decide) (Nat.le_of_ble_eq_true rfl) (fun p e s m below meth c A ls C M hr hlk hl => ?_)
  have hl : lv_has ls 2 [(0, .ref (hO E (35 + i9))), (1, .ref (hO E (19 + i9)))] := hl
  generalize s.heap = H at M ⊢
  generalize ([] : List Loc) = locs at M ⊢
  refine lv_aload_n C.1 C.2.1 dX6_pay_0 rfl (lv_at hl 0 rfl) ?_
  refine lv_aload_n C.1 C.2.1 dX6_pay_1 rfl (lv_at hl 0 rfl) ?_
  refine g_getL C M (35 + i9) 4 (by omega) (by rw [lay35 (by omega)]; rfl) (by rw [ci35 (by omega)]; rfl) (by decide) fl6_27 (v := P i9 4) (cM_L (by omega)) dX6_pay_2 ?_
  refine lv_aload_n C.1 C.2.1 dX6_pay_5 rfl (lv_at hl 1 rfl) ?_
  refine g_getI C M (19 + i9) 5 (by omega) (by rw [lay19 (by omega)]; rfl) (by rw [ci19 (by omega)]; rfl) (by decide) fl6_43 (v := hI σ (19 + i9) 5) (cM_Io (by omega) (by omega)) dX6_pay_6 ?_
  refine lv_i2l C.1 C.2.1 dX6_pay_9 rfl ?_
  refine lv_lmul C.1 C.2.1 dX6_pay_10 ?_
  refine lv_ldc2 (v := 100) C.1 C.2.1 C.2.2.2.1 (C.2.2.2.2.1.1.use kc6_48 rfl) dX6_pay_11 ?_
  refine lv_ldiv C.1 C.2.1 dX6_pay_14 (by decide) ?_
  refine g_putL C M (35 + i9) 6 (by omega) (by rw [lay35 (by omega)]; rfl) (by rw [ci35 (by omega)]; rfl) (by decide) fl6_50 rfl (by rw [ci35 (by omega)]; rfl) dX6_pay_15 (fun H locs M => ?_)
  rw [cM_sL (by omega)] at M
  refine lv_aload_n C.1 C.2.1 dX6_pay_18 rfl (lv_at hl 0 rfl) ?_
  refine lv_aload_n C.1 C.2.1 dX6_pay_19 rfl (lv_at hl 0 rfl) ?_
  refine g_getL C M (35 + i9) 4 (by omega) (by rw [lay35 (by omega)]; rfl) (by rw [ci35 (by omega)]; rfl) (by decide) fl6_27 (v := P i9 4) ((cM_L (by omega)).trans (by simp [up2])) dX6_pay_20 ?_
  refine lv_aload_n C.1 C.2.1 dX6_pay_23 rfl (lv_at hl 1 rfl) ?_
  refine g_getI C M (19 + i9) 6 (by omega) (by rw [lay19 (by omega)]; rfl) (by rw [ci19 (by omega)]; rfl) (by decide) fl6_52 (v := hI σ (19 + i9) 6) (cM_Io (by omega) (by omega)) dX6_pay_24 ?_
  refine lv_i2l C.1 C.2.1 dX6_pay_27 rfl ?_
  refine lv_lmul C.1 C.2.1 dX6_pay_28 ?_
  refine lv_ldc2 (v := 100) C.1 C.2.1 C.2.2.2.1 (C.2.2.2.2.1.1.use kc6_48 rfl) dX6_pay_29 ?_
  refine lv_ldiv C.1 C.2.1 dX6_pay_32 (by decide) ?_
  refine g_putL C M (35 + i9) 7 (by omega) (by rw [lay35 (by omega)]; rfl) (by rw [ci35 (by omega)]; rfl) (by decide) fl6_55 rfl (by rw [ci35 (by omega)]; rfl) dX6_pay_33 (fun H locs M => ?_)
  rw [cM_sL (by omega)] at M
  refine lv_aload_n C.1 C.2.1 dX6_pay_36 rfl (lv_at hl 0 rfl) ?_
  refine lv_aload_n C.1 C.2.1 dX6_pay_37 rfl (lv_at hl 0 rfl) ?_
  refine g_getL C M (35 + i9) 4 (by omega) (by rw [lay35 (by omega)]; rfl) (by rw [ci35 (by omega)]; rfl) (by decide) fl6_27 (v := P i9 4) ((cM_L (by omega)).trans (by simp [up2])) dX6_pay_38 ?_
  refine lv_aload_n C.1 C.2.1 dX6_pay_41 rfl (lv_at hl 0 rfl) ?_
  refine g_getL C M (35 + i9) 6 (by omega) (by rw [lay35 (by omega)]; rfl) (by rw [ci35 (by omega)]; rfl) (by decide) fl6_50 (v := (((P i9 4) * ((hI σ (19 + i9) 5).toInt64)) / 100)) ((cM_L (by omega)).trans (by simp [up2])) dX6_pay_42 ?_
  refine lv_lsub C.1 C.2.1 dX6_pay_45 ?_
  refine lv_aload_n C.1 C.2.1 dX6_pay_46 rfl (lv_at hl 0 rfl) ?_
  refine g_getL C M (35 + i9) 7 (by omega) (by rw [lay35 (by omega)]; rfl) (by rw [ci35 (by omega)]; rfl) (by decide) fl6_55 (v := (((P i9 4) * ((hI σ (19 + i9) 6).toInt64)) / 100)) ((cM_L (by omega)).trans (by simp [up2])) dX6_pay_47 ?_
  refine lv_lsub C.1 C.2.1 dX6_pay_50 ?_
  refine g_putL C M (35 + i9) 8 (by omega) (by rw [lay35 (by omega)]; rfl) (by rw [ci35 (by omega)]; rfl) (by decide) fl6_57 rfl (by rw [ci35 (by omega)]; rfl) dX6_pay_51 (fun H locs M => ?_)
  rw [cM_sL (by omega)] at M
  refine lv_aload_n C.1 C.2.1 dX6_pay_54 rfl (lv_at hl 0 rfl) ?_
  refine lv_aload_n C.1 C.2.1 dX6_pay_55 rfl (lv_at hl 1 rfl) ?_
  refine g_getO C M (19 + i9) 0 (27 + i9) (by omega) (by rw [lay19 (by omega)]; rfl) (by rw [ci19 (by omega)]; rfl) (by decide) fl6_60 dX6_pay_56 ?_
  refine g_callv M (g_runV (As := [.ref (hO E (27 + i9))]) (rest := []) C M (35 + i9) (x_phands l E σ Z ns AW G K (up2 (up2 (up2 P i9 6 (((P i9 4) * ((hI σ (19 + i9) 5).toInt64)) / 100)) i9 7 (((P i9 4) * ((hI σ (19 + i9) 6).toInt64)) / 100)) i9 8 (((P i9 4) - (((P i9 4) * ((hI σ (19 + i9) 5).toInt64)) / 100)) - (((P i9 4) * ((hI σ (19 + i9) 6).toInt64)) / 100))) Q HT i9 hi9 hd V hhd hd60 hws hws0 hVd (by rw [show (up2 (up2 (up2 P i9 6 (((P i9 4) * ((hI σ (19 + i9) 5).toInt64)) / 100)) i9 7 (((P i9 4) * ((hI σ (19 + i9) 6).toInt64)) / 100)) i9 8 (((P i9 4) - (((P i9 4) * ((hI σ (19 + i9) 5).toInt64)) / 100)) - (((P i9 4) * ((hI σ (19 + i9) 6).toInt64)) / 100))) i9 8 = (P i9 4 - (P i9 4 * (hI σ (19 + i9) 5).toInt64 / 100) - (P i9 4 * (hI σ (19 + i9) 6).toInt64 / 100)) from up2_s]; exact hV)) clX6_payHands ivX6_payHands lk6_63 (by omega) (by rw [ci35 (by omega)]; rfl) rfl ⟨Nat.le_of_ble_eq_true rfl, Nat.le_of_ble_eq_true rfl⟩ hl.1 rfl (Nat.le_of_ble_eq_true rfl) dX6_pay_59 ⟨Nat.le_of_ble_eq_true rfl, Nat.le_of_ble_eq_true rfl⟩) (fun u H locs hR M => ?_)
  refine W.widen (k := 0) (n := 0) (Nat.le_of_ble_eq_true rfl) (Nat.le_of_ble_eq_true rfl) ?_
  rw [show (up2 (up2 (up2 P i9 6 (((P i9 4) * ((hI σ (19 + i9) 5).toInt64)) / 100)) i9 7 (((P i9 4) * ((hI σ (19 + i9) 6).toInt64)) / 100)) i9 8 (((P i9 4) - (((P i9 4) * ((hI σ (19 + i9) 5).toInt64)) / 100)) - (((P i9 4) * ((hI σ (19 + i9) 6).toInt64)) / 100))) i9 8 = (P i9 4 - (P i9 4 * (hI σ (19 + i9) 5).toInt64 / 100) - (P i9 4 * (hI σ (19 + i9) 6).toInt64 / 100)) from up2_s] at hR
  subst hR
  have M : hM E A s H locs (cM σ ns AW G K (up2 (up2 (up2 P i9 6 (((P i9 4) * ((hI σ (19 + i9) 5).toInt64)) / 100)) i9 7 (((P i9 4) * ((hI σ (19 + i9) 6).toInt64)) / 100)) i9 8 (((P i9 4) - (((P i9 4) * ((hI σ (19 + i9) 5).toInt64)) / 100)) - (((P i9 4) * ((hI σ (19 + i9) 6).toInt64)) / 100))) (u2 Q i9 9 (nI hd)) (preU (preU HT i9 (hcF (P i9 4 - (P i9 4 * (hI σ (19 + i9) 5).toInt64 / 100) - (P i9 4 * (hI σ (19 + i9) 6).toInt64 / 100)) (hA σ (27 + i9) 0 0) (hI σ (27 + i9) 2)) hd) i9 (fun y => (hcF (P i9 4 - (P i9 4 * (hI σ (19 + i9) 5).toInt64 / 100) - (P i9 4 * (hI σ (19 + i9) 6).toInt64 / 100)) (hA σ (27 + i9) 0 0) (hI σ (27 + i9) 2)) y + 1) V)) Z := M
  refine g_vret C M hr hlk ?_ (Nat.le_of_ble_eq_true rfl) (Nat.le_of_ble_eq_true rfl) dX6_pay_62
  rfl
