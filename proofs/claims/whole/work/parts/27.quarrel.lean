theorem nI_cm1 {c : Nat} (h : 1 ≤ c) : nI c + (-1) = nI (c - 1) := by
  obtain ⟨q, rfl⟩ : ∃ q, c = q + 1 := ⟨c - 1, by omega⟩
  exact pk_m1 q

set_option maxHeartbeats 4000000 in
set_option maxRecDepth 100000 in
theorem m_believed (l : Launch) (E : hEnv) (σ : hMem) (Z : va_W) (n : Nat) (hn : hI σ 43 3 = nI n) (hn40 : n ≤ 40) (hW : sayW σ n) (hlg : ∀ k, k < n → vp_in (hA σ 43 4 0 k) 6) (hi01 : ∀ k, hA σ 43 10 0 k = 0 ∨ hA σ 43 10 0 k = 1) (k : Int32) : hMet l yX12_believed cX12_believed 2 (some .int) (2, 1, 40, 47) E σ Z [.ref (hO E 43), .int k] (hQi E (fun r u => (inB k 0 (nI n - 1) = true ∧ ∃ IN F, u = (sIG σ IN F, Z) ∧ BelW σ n IN F ∧ r = bz (¬ IN k.toNatClampNeg = 0)) ∨ (¬ inB k 0 (nI n - 1) = true ∧ r = -1 ∧ u = (σ, Z)))) := by
  refine hMet.of (by decide) (Nat.le_of_ble_eq_true rfl) (fun p e s m below meth c A ls C M hr hlk hl => ?_)
  have hl : lv_has ls 2 [(0, .ref (hO E 43)), (1, .int k)] := hl
  generalize s.heap = H at M ⊢
  generalize ([] : List Loc) = locs at M ⊢
  refine lv_iload_n C.1 C.2.1 dX12_believed_0 rfl (lv_at hl 1 rfl) ?_
  refine lv_iconst (v := 0) C.1 C.2.1 dX12_believed_1 (by decide) ?_
  refine lv_aload_n C.1 C.2.1 dX12_believed_2 rfl (lv_at hl 0 rfl) ?_
  refine g_getI C M 43 3 (by decide) rfl rfl (by decide) fl12_135 (v := nI n) hn dX12_believed_3 ?_
  refine lv_iconst (v := 1) C.1 C.2.1 dX12_believed_6 (by decide) ?_
  refine lv_isub C.1 C.2.1 dX12_believed_7 ?_
  refine g_calli M (g_runS (As := [.int k, .int 0, .int ((nI n) - 1)]) (rest := []) C M (m_in l E σ Z k 0 ((nI n) - 1)) clX12_in stX12_in lk12_131 rfl ⟨Nat.le_of_ble_eq_true rfl, Nat.le_of_ble_eq_true rfl⟩ hl.1 rfl (Nat.le_of_ble_eq_true rfl) dX12_believed_8 ⟨Nat.le_of_ble_eq_true rfl, Nat.le_of_ble_eq_true rfl⟩) (fun r1 u H locs hR M => ?_)
  refine W.widen (k := 0) (n := 0) (Nat.le_of_ble_eq_true rfl) (Nat.le_of_ble_eq_true rfl) ?_
  obtain ⟨rfl, rfl⟩ := hR
  have M : hM E A s H locs σ Z := M
  refine lv_if_ne (tgt := 16) C.1 C.2.1 dX12_believed_11 (by decide) (fun c_11 => ?_) (fun c_11 => ?_)
  · skip
    have c_11 : inB k 0 ((nI n) - 1) = true := bz_ne0.mp c_11
    refine lv_aload_n C.1 C.2.1 dX12_believed_16 rfl (lv_at hl 0 rfl) ?_
    refine g_callv M (g_runV (As := []) (rest := []) C M 43 (m_believe l E σ Z n hn hn40 hW hlg hi01) clX12_believe ivX12_believe lk12_144 (by decide) rfl rfl ⟨Nat.le_of_ble_eq_true rfl, Nat.le_of_ble_eq_true rfl⟩ hl.1 rfl (Nat.le_of_ble_eq_true rfl) dX12_believed_17 ⟨Nat.le_of_ble_eq_true rfl, Nat.le_of_ble_eq_true rfl⟩) (fun u H locs hR M => ?_)
    refine W.widen (k := 1) (n := 40) (Nat.le_of_ble_eq_true rfl) (Nat.le_of_ble_eq_true rfl) ?_
    obtain ⟨IN, F, hu, hBel⟩ := hR
    subst hu
    have hBel : BelW σ n IN F := hBel
    have M : hM E A s H locs (sIG σ IN F) Z := M
    refine lv_aload_n C.1 C.2.1 dX12_believed_20 rfl (lv_at hl 0 rfl) ?_
    refine g_getA C M 43 10 (by decide) rfl rfl (by decide) fl12_33 dX12_believed_21 ?_
    refine lv_iload_n C.1 C.2.1 dX12_believed_24 rfl (lv_at hl 1 rfl) ?_
    refine g_zald C M 43 10 (by decide) rfl k.toNatClampNeg rfl (by exact vp_in_pre c_11 hn40 (by decide)) (v := IN k.toNatClampNeg) rfl dX12_believed_25 ?_
    refine lv_if_eq (tgt := 33) C.1 C.2.1 dX12_believed_26 (by decide) (fun c_26 => ?_) (fun c_26 => ?_)
    · skip
      refine lv_iconst (v := 0) C.1 C.2.1 dX12_believed_33 (by decide) ?_
      refine g_iret C M hr hlk ?_ (Nat.le_of_ble_eq_true rfl) (Nat.le_of_ble_eq_true rfl) dX12_believed_34
      exact Or.inl ⟨c_11, IN, F, rfl, hBel, by simp only [bz, c_11, c_26, not_false_eq_true, not_true_eq_false, and_self, and_true, true_and, and_false, false_and, or_true, true_or, or_false, false_or, Bool.false_eq_true, if_true, if_false, ↓reduceIte]⟩
    · skip
      refine lv_iconst (v := 1) C.1 C.2.1 dX12_believed_29 (by decide) ?_
      refine lv_goto (tgt := 34) C.1 C.2.1 dX12_believed_30 (by decide) ?_
      refine g_iret C M hr hlk ?_ (Nat.le_of_ble_eq_true rfl) (Nat.le_of_ble_eq_true rfl) dX12_believed_34
      exact Or.inl ⟨c_11, IN, F, rfl, hBel, by simp only [bz, c_11, c_26, not_false_eq_true, not_true_eq_false, and_self, and_true, true_and, and_false, false_and, or_true, true_or, or_false, false_or, Bool.false_eq_true, if_true, if_false, ↓reduceIte]⟩
  · skip
    have c_11 : ¬ inB k 0 ((nI n) - 1) = true := bz_0.mp c_11
    refine lv_iconst (v := (-1)) C.1 C.2.1 dX12_believed_14 (by decide) ?_
    refine g_iret C M hr hlk ?_ (Nat.le_of_ble_eq_true rfl) (Nat.le_of_ble_eq_true rfl) dX12_believed_15
    exact Or.inr ⟨c_11, rfl, rfl⟩

set_option maxHeartbeats 4000000 in
set_option maxRecDepth 100000 in
theorem m_spans (l : Launch) (E : hEnv) (σ : hMem) (Z : va_W) (n : Nat) (hn : hI σ 43 3 = nI n) (hn40 : n ≤ 40) (hW : sayW σ n) (hlg : ∀ k, k < n → vp_in (hA σ 43 4 0 k) 6) (hi01 : ∀ k, hA σ 43 10 0 k = 0 ∨ hA σ 43 10 0 k = 1) (a b w9 : Int32) : hMet l yX12_spans cX12_spans 6 (some .int) (2, 1, 40, 47) E σ Z [.ref (hO E 43), .int a, .int b, .int w9] (hQi E (fun r u => ((inB a 0 15 = true ∧ inB b 0 15 = true ∧ inB w9 0 1 = true) ∧ ∃ IN F, u = (sIG σ IN F, Z) ∧ BelW σ n IN F ∧ r = (if w9 = 0 then spN (F b.toNatClampNeg a.toNatClampNeg) else spO (F a.toNatClampNeg b.toNatClampNeg))) ∨ (¬ (inB a 0 15 = true ∧ inB b 0 15 = true ∧ inB w9 0 1 = true) ∧ r = -2147483648 ∧ u = (σ, Z)))) := by
  refine hMet.of (by decide) (Nat.le_of_ble_eq_true rfl) (fun p e s m below meth c A ls C M hr hlk hl => ?_)
  have hl : lv_has ls 6 [(0, .ref (hO E 43)), (1, .int a), (2, .int b), (3, .int w9)] := hl
  generalize s.heap = H at M ⊢
  generalize ([] : List Loc) = locs at M ⊢
  refine lv_iload_n C.1 C.2.1 dX12_spans_0 rfl (lv_at hl 1 rfl) ?_
  refine lv_iconst (v := 0) C.1 C.2.1 dX12_spans_1 (by decide) ?_
  refine lv_bipush (v := 15) C.1 C.2.1 dX12_spans_2 (by decide) ?_
  refine g_calli M (g_runS (As := [.int a, .int 0, .int 15]) (rest := []) C M (m_in l E σ Z a 0 15) clX12_in stX12_in lk12_131 rfl ⟨Nat.le_of_ble_eq_true rfl, Nat.le_of_ble_eq_true rfl⟩ hl.1 rfl (Nat.le_of_ble_eq_true rfl) dX12_spans_4 ⟨Nat.le_of_ble_eq_true rfl, Nat.le_of_ble_eq_true rfl⟩) (fun r1 u H locs hR M => ?_)
  refine W.widen (k := 0) (n := 0) (Nat.le_of_ble_eq_true rfl) (Nat.le_of_ble_eq_true rfl) ?_
  obtain ⟨rfl, rfl⟩ := hR
  have M : hM E A s H locs σ Z := M
  refine lv_if_eq (tgt := 29) C.1 C.2.1 dX12_spans_7 (by decide) (fun c_7 => ?_) (fun c_7 => ?_)
  · skip
    have c_7 : ¬ inB a 0 15 = true := bz_0.mp c_7
    refine lv_ldc (v := (-2147483648)) C.1 C.2.1 C.2.2.2.1 (C.2.2.2.2.1.1.use kc12_147 rfl) dX12_spans_29 ?_
    refine g_iret C M hr hlk ?_ (Nat.le_of_ble_eq_true rfl) (Nat.le_of_ble_eq_true rfl) dX12_spans_31
    refine Or.inr ⟨?_, rfl, rfl⟩; simp only [c_7, not_false_eq_true, not_true_eq_false, and_self, and_true, true_and, and_false, false_and, or_true, true_or, or_false, false_or, Bool.false_eq_true, if_true, if_false, ↓reduceIte]
  · skip
    have c_7 : inB a 0 15 = true := bz_ne0.mp c_7
    refine lv_iload_n C.1 C.2.1 dX12_spans_10 rfl (lv_at hl 2 rfl) ?_
    refine lv_iconst (v := 0) C.1 C.2.1 dX12_spans_11 (by decide) ?_
    refine lv_bipush (v := 15) C.1 C.2.1 dX12_spans_12 (by decide) ?_
    refine g_calli M (g_runS (As := [.int b, .int 0, .int 15]) (rest := []) C M (m_in l E σ Z b 0 15) clX12_in stX12_in lk12_131 rfl ⟨Nat.le_of_ble_eq_true rfl, Nat.le_of_ble_eq_true rfl⟩ hl.1 rfl (Nat.le_of_ble_eq_true rfl) dX12_spans_14 ⟨Nat.le_of_ble_eq_true rfl, Nat.le_of_ble_eq_true rfl⟩) (fun r2 u H locs hR M => ?_)
    refine W.widen (k := 0) (n := 0) (Nat.le_of_ble_eq_true rfl) (Nat.le_of_ble_eq_true rfl) ?_
    obtain ⟨rfl, rfl⟩ := hR
    have M : hM E A s H locs σ Z := M
    refine lv_if_eq (tgt := 29) C.1 C.2.1 dX12_spans_17 (by decide) (fun c_17 => ?_) (fun c_17 => ?_)
    · skip
      have c_17 : ¬ inB b 0 15 = true := bz_0.mp c_17
      refine lv_ldc (v := (-2147483648)) C.1 C.2.1 C.2.2.2.1 (C.2.2.2.2.1.1.use kc12_147 rfl) dX12_spans_29 ?_
      refine g_iret C M hr hlk ?_ (Nat.le_of_ble_eq_true rfl) (Nat.le_of_ble_eq_true rfl) dX12_spans_31
      refine Or.inr ⟨?_, rfl, rfl⟩; simp only [c_7, c_17, not_false_eq_true, not_true_eq_false, and_self, and_true, true_and, and_false, false_and, or_true, true_or, or_false, false_or, Bool.false_eq_true, if_true, if_false, ↓reduceIte]
    · skip
      have c_17 : inB b 0 15 = true := bz_ne0.mp c_17
      refine lv_iload_n C.1 C.2.1 dX12_spans_20 rfl (lv_at hl 3 rfl) ?_
      refine lv_iconst (v := 0) C.1 C.2.1 dX12_spans_21 (by decide) ?_
      refine lv_iconst (v := 1) C.1 C.2.1 dX12_spans_22 (by decide) ?_
      refine g_calli M (g_runS (As := [.int w9, .int 0, .int 1]) (rest := []) C M (m_in l E σ Z w9 0 1) clX12_in stX12_in lk12_131 rfl ⟨Nat.le_of_ble_eq_true rfl, Nat.le_of_ble_eq_true rfl⟩ hl.1 rfl (Nat.le_of_ble_eq_true rfl) dX12_spans_23 ⟨Nat.le_of_ble_eq_true rfl, Nat.le_of_ble_eq_true rfl⟩) (fun r3 u H locs hR M => ?_)
      refine W.widen (k := 0) (n := 0) (Nat.le_of_ble_eq_true rfl) (Nat.le_of_ble_eq_true rfl) ?_
      obtain ⟨rfl, rfl⟩ := hR
      have M : hM E A s H locs σ Z := M
      refine lv_if_ne (tgt := 32) C.1 C.2.1 dX12_spans_26 (by decide) (fun c_26 => ?_) (fun c_26 => ?_)
      · skip
        have c_26 : inB w9 0 1 = true := bz_ne0.mp c_26
        refine lv_aload_n C.1 C.2.1 dX12_spans_32 rfl (lv_at hl 0 rfl) ?_
        refine g_callv M (g_runV (As := []) (rest := []) C M 43 (m_believe l E σ Z n hn hn40 hW hlg hi01) clX12_believe ivX12_believe lk12_144 (by decide) rfl rfl ⟨Nat.le_of_ble_eq_true rfl, Nat.le_of_ble_eq_true rfl⟩ hl.1 rfl (Nat.le_of_ble_eq_true rfl) dX12_spans_33 ⟨Nat.le_of_ble_eq_true rfl, Nat.le_of_ble_eq_true rfl⟩) (fun u H locs hR M => ?_)
        refine W.widen (k := 1) (n := 40) (Nat.le_of_ble_eq_true rfl) (Nat.le_of_ble_eq_true rfl) ?_
        obtain ⟨IN, F, hu, hBel⟩ := hR
        subst hu
        have hBel : BelW σ n IN F := hBel
        have M : hM E A s H locs (sIG σ IN F) Z := M
        refine lv_iload_n C.1 C.2.1 dX12_spans_36 rfl (lv_at hl 3 rfl) ?_
        refine lv_if_ne (tgt := 51) C.1 C.2.1 dX12_spans_37 (by decide) (fun c_37 => ?_) (fun c_37 => ?_)
        · skip
          refine lv_aload_n C.1 C.2.1 dX12_spans_51 rfl (lv_at hl 0 rfl) ?_
          refine g_getJJ C M 43 9 (by decide) rfl rfl (by decide) fl12_30 dX12_spans_52 ?_
          refine lv_iload_n C.1 C.2.1 dX12_spans_55 rfl (lv_at hl 1 rfl) ?_
          refine g_aald6 C M 43 9 (by decide) rfl a.toNatClampNeg rfl (vp_in_B c_7 (by decide)) dX12_spans_56 ?_
          refine lv_iload_n C.1 C.2.1 dX12_spans_57 rfl (lv_at hl 2 rfl) ?_
          refine g_rlald C M 43 9 a.toNatClampNeg (by decide) rfl (vp_lt (vp_in_B c_7 (by decide))) (by decide) b.toNatClampNeg rfl (vp_in_B c_17 (by decide)) (v := F a.toNatClampNeg b.toNatClampNeg) rfl dX12_spans_58 ?_
          refine lv_lstore (lv' := [(4, .long (F a.toNatClampNeg b.toNatClampNeg)), (0, .ref (hO E 43)), (1, .int a), (2, .int b), (3, .int w9)]) C.1 C.2.1 dX12_spans_59 hl (by decide) rfl (fun ls hl => ?_)
          refine lv_lload C.1 C.2.1 dX12_spans_61 (lv_at hl 0 rfl) ?_
          refine lv_ldc2 (v := 1099511627776) C.1 C.2.1 C.2.2.2.1 (C.2.2.2.2.1.1.use kc12_138 rfl) dX12_spans_63 ?_
          refine W.lcmp C.1 C.2.1 dX12_spans_66 ?_
          refine lv_if_ne (tgt := 75) C.1 C.2.1 dX12_spans_67 (by decide) (fun c_67 => ?_) (fun c_67 => ?_)
          · skip
            have c_67 : ¬ (F a.toNatClampNeg b.toNatClampNeg) = 1099511627776 := lc_ne0.mp c_67
            refine lv_iload_n C.1 C.2.1 dX12_spans_75 rfl (lv_at hl 4 rfl) ?_
            refine lv_if_ne (tgt := 85) C.1 C.2.1 dX12_spans_76 (by decide) (fun c_76 => ?_) (fun c_76 => ?_)
            · skip
              refine lv_lload C.1 C.2.1 dX12_spans_85 (lv_at hl 0 rfl) ?_
              refine lv_l2i C.1 C.2.1 dX12_spans_87 rfl ?_
              refine g_iret C M hr hlk ?_ (Nat.le_of_ble_eq_true rfl) (Nat.le_of_ble_eq_true rfl) dX12_spans_88
              exact Or.inl ⟨⟨c_7, c_17, c_26⟩, IN, F, rfl, hBel, by simp only [spN, spO, c_7, c_17, c_26, c_37, c_67, c_76, not_false_eq_true, not_true_eq_false, and_self, and_true, true_and, and_false, false_and, or_true, true_or, or_false, false_or, Bool.false_eq_true, if_true, if_false, ↓reduceIte]⟩
            · skip
              refine lv_lload C.1 C.2.1 dX12_spans_79 (lv_at hl 0 rfl) ?_
              refine lv_lneg C.1 C.2.1 dX12_spans_81 ?_
              refine lv_goto (tgt := 87) C.1 C.2.1 dX12_spans_82 (by decide) ?_
              refine lv_l2i C.1 C.2.1 dX12_spans_87 rfl ?_
              refine g_iret C M hr hlk ?_ (Nat.le_of_ble_eq_true rfl) (Nat.le_of_ble_eq_true rfl) dX12_spans_88
              first | exact absurd c_76 c_37 | exact absurd c_37 c_76
          · skip
            have c_67 : (F a.toNatClampNeg b.toNatClampNeg) = 1099511627776 := lc_ne1.mp c_67
            refine lv_ldc (v := (-2147483648)) C.1 C.2.1 C.2.2.2.1 (C.2.2.2.2.1.1.use kc12_147 rfl) dX12_spans_70 ?_
            refine lv_goto (tgt := 88) C.1 C.2.1 dX12_spans_72 (by decide) ?_
            refine g_iret C M hr hlk ?_ (Nat.le_of_ble_eq_true rfl) (Nat.le_of_ble_eq_true rfl) dX12_spans_88
            exact Or.inl ⟨⟨c_7, c_17, c_26⟩, IN, F, rfl, hBel, by simp only [spN, spO, c_7, c_17, c_26, c_37, c_67, not_false_eq_true, not_true_eq_false, and_self, and_true, true_and, and_false, false_and, or_true, true_or, or_false, false_or, Bool.false_eq_true, if_true, if_false, ↓reduceIte]⟩
        · skip
          refine lv_aload_n C.1 C.2.1 dX12_spans_40 rfl (lv_at hl 0 rfl) ?_
          refine g_getJJ C M 43 9 (by decide) rfl rfl (by decide) fl12_30 dX12_spans_41 ?_
          refine lv_iload_n C.1 C.2.1 dX12_spans_44 rfl (lv_at hl 2 rfl) ?_
          refine g_aald6 C M 43 9 (by decide) rfl b.toNatClampNeg rfl (vp_in_B c_17 (by decide)) dX12_spans_45 ?_
          refine lv_iload_n C.1 C.2.1 dX12_spans_46 rfl (lv_at hl 1 rfl) ?_
          refine g_rlald C M 43 9 b.toNatClampNeg (by decide) rfl (vp_lt (vp_in_B c_17 (by decide))) (by decide) a.toNatClampNeg rfl (vp_in_B c_7 (by decide)) (v := F b.toNatClampNeg a.toNatClampNeg) rfl dX12_spans_47 ?_
          refine lv_goto (tgt := 59) C.1 C.2.1 dX12_spans_48 (by decide) ?_
          refine lv_lstore (lv' := [(4, .long (F b.toNatClampNeg a.toNatClampNeg)), (0, .ref (hO E 43)), (1, .int a), (2, .int b), (3, .int w9)]) C.1 C.2.1 dX12_spans_59 hl (by decide) rfl (fun ls hl => ?_)
          refine lv_lload C.1 C.2.1 dX12_spans_61 (lv_at hl 0 rfl) ?_
          refine lv_ldc2 (v := 1099511627776) C.1 C.2.1 C.2.2.2.1 (C.2.2.2.2.1.1.use kc12_138 rfl) dX12_spans_63 ?_
          refine W.lcmp C.1 C.2.1 dX12_spans_66 ?_
          refine lv_if_ne (tgt := 75) C.1 C.2.1 dX12_spans_67 (by decide) (fun c_67 => ?_) (fun c_67 => ?_)
          · skip
            have c_67 : ¬ (F b.toNatClampNeg a.toNatClampNeg) = 1099511627776 := lc_ne0.mp c_67
            refine lv_iload_n C.1 C.2.1 dX12_spans_75 rfl (lv_at hl 4 rfl) ?_
            refine lv_if_ne (tgt := 85) C.1 C.2.1 dX12_spans_76 (by decide) (fun c_76 => ?_) (fun c_76 => ?_)
            · skip
              refine lv_lload C.1 C.2.1 dX12_spans_85 (lv_at hl 0 rfl) ?_
              refine lv_l2i C.1 C.2.1 dX12_spans_87 rfl ?_
              refine g_iret C M hr hlk ?_ (Nat.le_of_ble_eq_true rfl) (Nat.le_of_ble_eq_true rfl) dX12_spans_88
              first | exact absurd c_76 c_37 | exact absurd c_37 c_76
            · skip
              refine lv_lload C.1 C.2.1 dX12_spans_79 (lv_at hl 0 rfl) ?_
              refine lv_lneg C.1 C.2.1 dX12_spans_81 ?_
              refine lv_goto (tgt := 87) C.1 C.2.1 dX12_spans_82 (by decide) ?_
              refine lv_l2i C.1 C.2.1 dX12_spans_87 rfl ?_
              refine g_iret C M hr hlk ?_ (Nat.le_of_ble_eq_true rfl) (Nat.le_of_ble_eq_true rfl) dX12_spans_88
              exact Or.inl ⟨⟨c_7, c_17, c_26⟩, IN, F, rfl, hBel, by simp only [spN, spO, c_7, c_17, c_26, c_37, c_67, c_76, not_false_eq_true, not_true_eq_false, and_self, and_true, true_and, and_false, false_and, or_true, true_or, or_false, false_or, Bool.false_eq_true, if_true, if_false, ↓reduceIte]⟩
          · skip
            have c_67 : (F b.toNatClampNeg a.toNatClampNeg) = 1099511627776 := lc_ne1.mp c_67
            refine lv_ldc (v := (-2147483648)) C.1 C.2.1 C.2.2.2.1 (C.2.2.2.2.1.1.use kc12_147 rfl) dX12_spans_70 ?_
            refine lv_goto (tgt := 88) C.1 C.2.1 dX12_spans_72 (by decide) ?_
            refine g_iret C M hr hlk ?_ (Nat.le_of_ble_eq_true rfl) (Nat.le_of_ble_eq_true rfl) dX12_spans_88
            exact Or.inl ⟨⟨c_7, c_17, c_26⟩, IN, F, rfl, hBel, by simp only [spN, spO, c_7, c_17, c_26, c_37, c_67, not_false_eq_true, not_true_eq_false, and_self, and_true, true_and, and_false, false_and, or_true, true_or, or_false, false_or, Bool.false_eq_true, if_true, if_false, ↓reduceIte]⟩
      · skip
        have c_26 : ¬ inB w9 0 1 = true := bz_0.mp c_26
        refine lv_ldc (v := (-2147483648)) C.1 C.2.1 C.2.2.2.1 (C.2.2.2.2.1.1.use kc12_147 rfl) dX12_spans_29 ?_
        refine g_iret C M hr hlk ?_ (Nat.le_of_ble_eq_true rfl) (Nat.le_of_ble_eq_true rfl) dX12_spans_31
        refine Or.inr ⟨?_, rfl, rfl⟩; simp only [c_7, c_17, c_26, not_false_eq_true, not_true_eq_false, and_self, and_true, true_and, and_false, false_and, or_true, true_or, or_false, false_or, Bool.false_eq_true, if_true, if_false, ↓reduceIte]

set_option maxHeartbeats 4000000 in
set_option maxRecDepth 100000 in
theorem m_quarrel (l : Launch) (E : hEnv) (σ : hMem) (Z : va_W) (n : Nat) (hn : hI σ 43 3 = nI n) (hn40 : n ≤ 40) (hW : sayW σ n) (hi01 : ∀ k, hA σ 43 10 0 k = 0 ∨ hA σ 43 10 0 k = 1) : hMet l yX12_quarrel cX12_quarrel 3 (some .int) (1, 0, 0, 23) E σ Z [.ref (hO E 43)] (hQi E (fun r u => ∃ IN F, u = (sIG σ IN F, Z) ∧ (∀ k, IN k = 0 ∨ IN k = 1) ∧ ((NoNeg (mEP σ n (fun _ => True)) ∧ r = 0) ∨ (¬ NoNeg (mEP σ n (fun _ => True)) ∧ ∃ c, c ≤ n ∧ r = nI c ∧ cnz IN n = c ∧ Qua n (mEP σ n) (fun k => ¬ IN k = 0))))) := by
  refine hMet.of (by decide) (Nat.le_of_ble_eq_true rfl) (fun p e s m below meth c A ls C M hr hlk hl => ?_)
  have hl : lv_has ls 3 [(0, .ref (hO E 43))] := hl
  generalize s.heap = H at M ⊢
  generalize ([] : List Loc) = locs at M ⊢
  have hq1 : ∀ j, j < n → (pre (fun j => bz (¬ nI n ≤ nI j)) (hA σ 43 10 0) 40) j = 1 := fun j hj => by rw [pre_lt (by omega)]; exact bz_t (nI_ge hj (by omega))
  have hq2 : ∀ j, (pre (fun j => bz (¬ nI n ≤ nI j)) (hA σ 43 10 0) 40) j = 0 ∨ (pre (fun j => bz (¬ nI n ≤ nI j)) (hA σ 43 10 0) 40) j = 1 := fun j => by unfold pre; split; exact bz_bit; exact hi01 j
  refine lv_iconst (v := 0) C.1 C.2.1 dX12_quarrel_0 (by decide) ?_
  refine lv_istore_n (lv' := [(1, .int 0), (0, .ref (hO E 43))]) C.1 C.2.1 dX12_quarrel_1 rfl hl (by decide) rfl (fun ls hl => ?_)
  have L2 : ∀ (n9 : Nat) (k : Nat), (k ≤ 40) → 40 - k < n9 → ∀ (H : Heap) (locs : List Loc) (ls : Array Slot), hM E A s H locs (sA σ 43 10 0 (pre (fun j => bz (¬ nI n ≤ nI j)) (hA σ 43 10 0) k)) Z → lv_has ls 3 [(1, .int (nI k)), (0, .ref (hO E 43))] → W p l e (hRm (1, 0, 0, 23)) s m [.ref (hO E 43)].toArray below meth c H locs 0 0 (MQ below (hQi E (fun r u => ∃ IN F, u = (sIG σ IN F, Z) ∧ (∀ k, IN k = 0 ∨ IN k = 1) ∧ ((NoNeg (mEP σ n (fun _ => True)) ∧ r = 0) ∨ (¬ NoNeg (mEP σ n (fun _ => True)) ∧ ∃ c, c ≤ n ∧ r = nI c ∧ cnz IN n = c ∧ Qua n (mEP σ n) (fun k => ¬ IN k = 0)))) A) [.ref (hO E 43)].toArray s 0 0 A) (F0 m 2 ls []) := by
    intro n9
    induction n9 with
    | zero =>
      intro k hk hn9
      exact absurd hn9 (Nat.not_lt_zero _)
    | succ n9 ih2 =>
      intro k hk hn2 H locs ls M hl
      refine lv_iload_n C.1 C.2.1 dX12_quarrel_2 rfl (lv_at hl 0 rfl) ?_
      refine lv_bipush (v := 40) C.1 C.2.1 dX12_quarrel_3 (by decide) ?_
      refine lv_icmp_ge (tgt := 33) C.1 C.2.1 dX12_quarrel_5 (by decide) (fun c_5 => ?_) (fun c_5 => ?_)
      · skip
        have hkn : k = 40 := by have := ct_ge (n := 40) (k := k) c_5; omega
        have hl : lv_has ls 3 [(1, .int (nI 40)), (0, .ref (hO E 43))] := by first | exact hl | (rw [hkn] at hl; exact hl)
        have M : hM E A s H locs (sA σ 43 10 0 (pre (fun j => bz (¬ nI n ≤ nI j)) (hA σ 43 10 0) 40)) Z := by first | exact M | (rw [hkn] at M; exact M)
        rw [sIG_of] at M
        refine lv_aload_n C.1 C.2.1 dX12_quarrel_33 rfl (lv_at hl 1 rfl) ?_
        refine g_calli M (g_runV (As := []) (rest := []) C M 43 (m_canBe l E (sIG σ (pre (fun j => bz (¬ nI n ≤ nI j)) (hA σ 43 10 0) 40) (hB σ 43 9)) Z n hn hn40 (sayW_IG hW _ _)) clX12_canBe ivX12_canBe lk12_140 (by decide) rfl rfl ⟨Nat.le_of_ble_eq_true rfl, Nat.le_of_ble_eq_true rfl⟩ hl.1 rfl (Nat.le_of_ble_eq_true rfl) dX12_quarrel_34 ⟨Nat.le_of_ble_eq_true rfl, Nat.le_of_ble_eq_true rfl⟩) (fun r1 u H locs hR M => ?_)
        refine W.widen (k := 0) (n := 0) (Nat.le_of_ble_eq_true rfl) (Nat.le_of_ble_eq_true rfl) ?_
        have hR : (r1 = 1 ∧ ∃ F8, u = (sIG σ (pre (fun j => bz (¬ nI n ≤ nI j)) (hA σ 43 10 0) 40) F8, Z) ∧ Km (sIG σ (pre (fun j => bz (¬ nI n ≤ nI j)) (hA σ 43 10 0) 40) (hB σ 43 9)) n 16 F8) ∨ (r1 = 0 ∧ (∃ F8, u = (sIG σ (pre (fun j => bz (¬ nI n ≤ nI j)) (hA σ 43 10 0) 40) F8, Z)) ∧ ¬ NoNeg (mEP σ n (fun k => ¬ (pre (fun j => bz (¬ nI n ≤ nI j)) (hA σ 43 10 0) 40) k = 0))) := by
          rcases hR with ⟨h1, F9, h2, h3⟩ | ⟨h1, ⟨F9, h2⟩, h3⟩
          · exact Or.inl ⟨h1, F9, by rw [h2, sIG_G], h3⟩
          · exact Or.inr ⟨h1, ⟨F9, by rw [h2, sIG_G]⟩, h3⟩
        obtain ⟨F34, hu, hRR⟩ : ∃ F9, u = (sIG σ (pre (fun j => bz (¬ nI n ≤ nI j)) (hA σ 43 10 0) 40) F9, Z) ∧ ((r1 = 1 ∧ Km (sIG σ (pre (fun j => bz (¬ nI n ≤ nI j)) (hA σ 43 10 0) 40) (hB σ 43 9)) n 16 F9) ∨ (r1 = 0 ∧ ¬ NoNeg (mEP σ n (fun k => ¬ (pre (fun j => bz (¬ nI n ≤ nI j)) (hA σ 43 10 0) 40) k = 0)))) := by
          rcases hR with ⟨h1, F9, h2, h3⟩ | ⟨h1, ⟨F9, h2⟩, h3⟩
          · exact ⟨F9, h2, Or.inl ⟨h1, h3⟩⟩
          · exact ⟨F9, h2, Or.inr ⟨h1, h3⟩⟩
        subst hu
        have M : hM E A s H locs (sIG σ (pre (fun j => bz (¬ nI n ≤ nI j)) (hA σ 43 10 0) 40) F34) Z := M
        have hR1 := hRR
        refine lv_if_eq (tgt := 42) C.1 C.2.1 dX12_quarrel_37 (by decide) (fun c_37 => ?_) (fun c_37 => ?_)
        · skip
          refine lv_aload_n C.1 C.2.1 dX12_quarrel_42 rfl (lv_at hl 1 rfl) ?_
          refine g_getI C M 43 3 (by decide) rfl rfl (by decide) fl12_135 (v := nI n) hn dX12_quarrel_43 ?_
          refine lv_istore_n (lv' := [(1, .int (nI n)), (0, .ref (hO E 43))]) C.1 C.2.1 dX12_quarrel_46 rfl hl (by decide) rfl (fun ls hl => ?_)
          refine lv_aload_n C.1 C.2.1 dX12_quarrel_47 rfl (lv_at hl 1 rfl) ?_
          refine g_getI C M 43 3 (by decide) rfl rfl (by decide) fl12_135 (v := nI n) hn dX12_quarrel_48 ?_
          refine lv_iconst (v := 1) C.1 C.2.1 dX12_quarrel_51 (by decide) ?_
          refine lv_isub C.1 C.2.1 dX12_quarrel_52 ?_
          refine lv_istore_n (lv' := [(2, .int ((nI n) - 1)), (1, .int (nI n)), (0, .ref (hO E 43))]) C.1 C.2.1 dX12_quarrel_53 rfl hl (by decide) rfl (fun ls hl => ?_)
          have L54 : ∀ (n9 : Nat) (k : Nat) (IN : Nat → Int32) (F : Nat → Nat → Int64) (c9 : Nat), (k ≤ n) → (c9 ≤ n) → (Qk σ n k IN c9) → k < n9 → ∀ (H : Heap) (locs : List Loc) (ls : Array Slot), hM E A s H locs (sIG σ IN F) Z → lv_has ls 3 [(2, .int (nI k - 1)), (1, .int (nI c9)), (0, .ref (hO E 43))] → W p l e (hRm (1, 0, 0, 23)) s m [.ref (hO E 43)].toArray below meth c H locs 0 0 (MQ below (hQi E (fun r u => ∃ IN F, u = (sIG σ IN F, Z) ∧ (∀ k, IN k = 0 ∨ IN k = 1) ∧ ((NoNeg (mEP σ n (fun _ => True)) ∧ r = 0) ∨ (¬ NoNeg (mEP σ n (fun _ => True)) ∧ ∃ c, c ≤ n ∧ r = nI c ∧ cnz IN n = c ∧ Qua n (mEP σ n) (fun k => ¬ IN k = 0)))) A) [.ref (hO E 43)].toArray s 0 0 A) (F0 m 54 ls []) := by
            intro n9
            induction n9 with
            | zero =>
              intro k IN F c9 hk hcn hQ hn9
              exact absurd hn9 (Nat.not_lt_zero _)
            | succ n9 ih54 =>
              intro k IN F c9 hk hcn hQ hn54 H locs ls M hl
              refine lv_iload_n C.1 C.2.1 dX12_quarrel_54 rfl (lv_at hl 0 rfl) ?_
              refine lv_if_lt (tgt := 91) C.1 C.2.1 dX12_quarrel_55 (by decide) (fun c_55 => ?_) (fun c_55 => ?_)
              · skip
                have hk0 : k = 0 := nI_neg (by omega) c_55
                refine lv_iload_n C.1 C.2.1 dX12_quarrel_91 rfl (lv_at hl 1 rfl) ?_
                refine g_iret C M hr hlk ?_ (Nat.le_of_ble_eq_true rfl) (Nat.le_of_ble_eq_true rfl) dX12_quarrel_92
                exact ⟨IN, F, rfl, hQ.2.2.1, Or.inr ⟨fun h9 => by rcases hR1 with ⟨h1, _⟩ | ⟨_, h2⟩; exact absurd (h1.symm.trans c_37) (by decide); exact h2 ((all_congr hq1).mpr h9), c9, hcn, rfl, hQ.2.2.2, by rw [hk0] at hQ; exact hQ.qua⟩⟩
              · skip
                obtain ⟨q9, rfl⟩ := nI_nneg c_55
                have hl : lv_has ls 3 [(2, .int (nI q9)), (1, .int (nI c9)), (0, .ref (hO E 43))] := by rw [nI_pred] at hl; exact hl
                refine lv_aload_n C.1 C.2.1 dX12_quarrel_58 rfl (lv_at hl 2 rfl) ?_
                refine g_getA C M 43 10 (by decide) rfl rfl (by decide) fl12_33 dX12_quarrel_59 ?_
                refine lv_iload_n C.1 C.2.1 dX12_quarrel_62 rfl (lv_at hl 0 rfl) ?_
                refine lv_iconst (v := 0) C.1 C.2.1 dX12_quarrel_63 (by decide) ?_
                refine g_zast C M 43 10 (by decide) rfl (Or.inl rfl) q9 (nI_clamp (by omega)) (vp_in_nI (by omega) (by decide)) dX12_quarrel_64 (fun H locs M => ?_)
                have M : hM E A s H locs (sA (sIG σ IN F) 43 10 0 (upd IN q9 0)) Z := M
                rw [sIG_put] at M
                refine lv_aload_n C.1 C.2.1 dX12_quarrel_65 rfl (lv_at hl 2 rfl) ?_
                refine g_calli M (g_runV (As := []) (rest := []) C M 43 (m_canBe l E (sIG σ (upd IN q9 0) F) Z n hn hn40 (sayW_IG hW _ _)) clX12_canBe ivX12_canBe lk12_140 (by decide) rfl rfl ⟨Nat.le_of_ble_eq_true rfl, Nat.le_of_ble_eq_true rfl⟩ hl.1 rfl (Nat.le_of_ble_eq_true rfl) dX12_quarrel_66 ⟨Nat.le_of_ble_eq_true rfl, Nat.le_of_ble_eq_true rfl⟩) (fun r2 u H locs hR M => ?_)
                refine W.widen (k := 0) (n := 0) (Nat.le_of_ble_eq_true rfl) (Nat.le_of_ble_eq_true rfl) ?_
                have hR : (r2 = 1 ∧ ∃ F8, u = (sIG σ (upd IN q9 0) F8, Z) ∧ Km (sIG σ (upd IN q9 0) F) n 16 F8) ∨ (r2 = 0 ∧ (∃ F8, u = (sIG σ (upd IN q9 0) F8, Z)) ∧ ¬ NoNeg (mEP σ n (fun k => ¬ (upd IN q9 0) k = 0))) := by
                  rcases hR with ⟨h1, F9, h2, h3⟩ | ⟨h1, ⟨F9, h2⟩, h3⟩
                  · exact Or.inl ⟨h1, F9, by rw [h2, sIG_G], h3⟩
                  · exact Or.inr ⟨h1, ⟨F9, by rw [h2, sIG_G]⟩, h3⟩
                obtain ⟨F66, hu, hRR⟩ : ∃ F9, u = (sIG σ (upd IN q9 0) F9, Z) ∧ ((r2 = 1 ∧ Km (sIG σ (upd IN q9 0) F) n 16 F9) ∨ (r2 = 0 ∧ ¬ NoNeg (mEP σ n (fun k => ¬ (upd IN q9 0) k = 0)))) := by
                  rcases hR with ⟨h1, F9, h2, h3⟩ | ⟨h1, ⟨F9, h2⟩, h3⟩
                  · exact ⟨F9, h2, Or.inl ⟨h1, h3⟩⟩
                  · exact ⟨F9, h2, Or.inr ⟨h1, h3⟩⟩
                subst hu
                have M : hM E A s H locs (sIG σ (upd IN q9 0) F66) Z := M
                refine lv_if_eq (tgt := 82) C.1 C.2.1 dX12_quarrel_69 (by decide) (fun c_69 => ?_) (fun c_69 => ?_)
                · skip
                  refine lv_iinc (v := nI c9 + (-1)) (lv' := [(1, .int (nI c9 + (-1))), (2, .int (nI q9)), (0, .ref (hO E 43))]) C.1 C.2.1 dX12_quarrel_82 hl (k := 1) rfl rfl (by decide) rfl (fun ls hl => ?_)
                  refine lv_iinc (v := nI q9 + (-1)) (lv' := [(2, .int (nI q9 + (-1))), (1, .int (nI c9 + (-1))), (0, .ref (hO E 43))]) C.1 C.2.1 dX12_quarrel_85 hl (k := 1) rfl rfl (by decide) rfl (fun ls hl => ?_)
                  refine lv_goto (tgt := 54) C.1 C.2.1 dX12_quarrel_88 (by decide) ?_
                  have hs := Qk.s (r := 0) hQ (by omega) (Or.inr ⟨rfl, by rcases hRR with ⟨h1, _⟩ | ⟨_, h2⟩; exact absurd (h1.symm.trans c_69) (by decide); exact h2⟩)
                  have hs1 : Qk σ n q9 (upd IN q9 0) (c9 - 1) := hs.1
                  have q3 : nI q9 + (-1) = nI q9 - 1 := by first | exact nI_m1k | exact nI_cm1 hs.2
                  have q4 : nI c9 + (-1) = nI (c9 - 1) := by first | exact nI_m1k | exact nI_cm1 hs.2
                  have hl : lv_has ls 3 [(2, .int (nI q9 - 1)), (1, .int (nI (c9 - 1))), (0, .ref (hO E 43))] := by
                    rw [← q3, ← q4]
                    exact lv_sub hl [0, 1, 2] rfl
                  exact ih54 q9 (upd IN q9 0) F66 (c9 - 1) (by omega) (by omega) hs1 (by omega) _ _ _ M hl
                · skip
                  refine lv_aload_n C.1 C.2.1 dX12_quarrel_72 rfl (lv_at hl 2 rfl) ?_
                  refine g_getA C M 43 10 (by decide) rfl rfl (by decide) fl12_33 dX12_quarrel_73 ?_
                  refine lv_iload_n C.1 C.2.1 dX12_quarrel_76 rfl (lv_at hl 0 rfl) ?_
                  refine lv_iconst (v := 1) C.1 C.2.1 dX12_quarrel_77 (by decide) ?_
                  refine g_zast C M 43 10 (by decide) rfl (Or.inr rfl) q9 (nI_clamp (by omega)) (vp_in_nI (by omega) (by decide)) dX12_quarrel_78 (fun H locs M => ?_)
                  have M : hM E A s H locs (sA (sIG σ (upd IN q9 0) F66) 43 10 0 (upd (upd IN q9 0) q9 1)) Z := M
                  rw [sIG_put] at M
                  refine lv_goto (tgt := 85) C.1 C.2.1 dX12_quarrel_79 (by decide) ?_
                  refine lv_iinc (v := nI q9 + (-1)) (lv' := [(2, .int (nI q9 + (-1))), (1, .int (nI c9)), (0, .ref (hO E 43))]) C.1 C.2.1 dX12_quarrel_85 hl (k := 0) rfl rfl (by decide) rfl (fun ls hl => ?_)
                  refine lv_goto (tgt := 54) C.1 C.2.1 dX12_quarrel_88 (by decide) ?_
                  have hII : upd (upd IN q9 0) q9 1 = upd IN q9 1 := by funext i; unfold upd; split <;> rfl
                  rw [hII] at M
                  have hs := Qk.s (r := 1) hQ (by omega) (Or.inl ⟨rfl, by rcases hRR with ⟨_, h2⟩ | ⟨h1, _⟩; exact pt_nn (mEd_in (sayW_IG hW (upd IN q9 0) F)) h2.1; exact absurd h1 c_69⟩)
                  have hs1 : Qk σ n q9 (upd IN q9 1) c9 := hs.1
                  have q5 : nI q9 + (-1) = nI q9 - 1 := by first | exact nI_m1k | exact nI_cm1 hs.2
                  have hl : lv_has ls 3 [(2, .int (nI q9 - 1)), (1, .int (nI c9)), (0, .ref (hO E 43))] := by
                    rw [← q5]
                    exact lv_sub hl [0, 1, 2] rfl
                  exact ih54 q9 (upd IN q9 1) F66 c9 (by omega) (by omega) hs1 (by omega) _ _ _ M hl
          have q6 : (nI n) - 1 = nI n - 1 := by rfl
          have hl : lv_has ls 3 [(2, .int (nI n - 1)), (1, .int (nI n)), (0, .ref (hO E 43))] := by
            rw [← q6]
            exact lv_sub hl [0, 1, 2] rfl
          exact L54 (n + 1) n (pre (fun j => bz (¬ nI n ≤ nI j)) (hA σ 43 10 0) 40) F34 n (Nat.le_refl _) (Nat.le_refl _) (Qk.z hq1 hq2) (Nat.lt_succ_self _) _ _ _ M hl
        · skip
          refine lv_iconst (v := 0) C.1 C.2.1 dX12_quarrel_40 (by decide) ?_
          refine g_iret C M hr hlk ?_ (Nat.le_of_ble_eq_true rfl) (Nat.le_of_ble_eq_true rfl) dX12_quarrel_41
          exact ⟨_, F34, rfl, hq2, Or.inl ⟨by rcases hRR with ⟨_, h2⟩ | ⟨h1, _⟩; exact (all_congr hq1).mp (pt_nn (mEd_in (sayW_IG hW (pre (fun j => bz (¬ nI n ≤ nI j)) (hA σ 43 10 0) 40) (hB σ 43 9))) h2.1); exact absurd h1 c_37, rfl⟩⟩
      · skip
        have hk1 : k < 40 := ct_nge (n := 40) (k := k) c_5
        refine lv_aload_n C.1 C.2.1 dX12_quarrel_8 rfl (lv_at hl 1 rfl) ?_
        refine g_getA C M 43 10 (by decide) rfl rfl (by decide) fl12_33 dX12_quarrel_9 ?_
        refine lv_iload_n C.1 C.2.1 dX12_quarrel_12 rfl (lv_at hl 0 rfl) ?_
        refine lv_iload_n C.1 C.2.1 dX12_quarrel_13 rfl (lv_at hl 0 rfl) ?_
        refine lv_aload_n C.1 C.2.1 dX12_quarrel_14 rfl (lv_at hl 1 rfl) ?_
        refine g_getI C M 43 3 (by decide) rfl rfl (by decide) fl12_135 (v := nI n) hn dX12_quarrel_15 ?_
        have J8 : ∀ (v7 : Int32) (ev7 : v7 = bz (¬ (nI n) ≤ (nI k))) (H : Heap) (locs : List Loc) (ls : Array Slot), hM E A s H locs (sA σ 43 10 0 (pre (fun j => bz (¬ nI n ≤ nI j)) (hA σ 43 10 0) k)) Z → lv_has ls 3 [(1, .int (nI k)), (0, .ref (hO E 43))] → W p l e (hRm (1, 0, 0, 23)) s m [.ref (hO E 43)].toArray below meth c H locs 0 0 (MQ below (hQi E (fun r u => ∃ IN F, u = (sIG σ IN F, Z) ∧ (∀ k, IN k = 0 ∨ IN k = 1) ∧ ((NoNeg (mEP σ n (fun _ => True)) ∧ r = 0) ∨ (¬ NoNeg (mEP σ n (fun _ => True)) ∧ ∃ c, c ≤ n ∧ r = nI c ∧ cnz IN n = c ∧ Qua n (mEP σ n) (fun k => ¬ IN k = 0)))) A) [.ref (hO E 43)].toArray s 0 0 A) (F0 m 26 ls [.int v7, .int (nI k), .ref (hR E 43 10 0)]) := by
          intro v7 ev7 H locs ls M hl
          subst ev7
          refine g_zast C M 43 10 (by decide) rfl bz_bit k (nI_clamp (by omega)) (vp_in_nI (by omega) (by decide)) dX12_quarrel_26 (fun H locs M => ?_)
          have M : hM E A s H locs (sA (sA σ 43 10 0 (pre (fun j => bz (¬ nI n ≤ nI j)) (hA σ 43 10 0) k)) 43 10 0 (upd (pre (fun j => bz (¬ nI n ≤ nI j)) (hA σ 43 10 0) k) k (bz (¬ (nI n) ≤ (nI k))))) Z := M
          refine lv_iinc (v := nI (k + 1)) (lv' := [(1, .int (nI (k + 1))), (0, .ref (hO E 43))]) C.1 C.2.1 dX12_quarrel_27 hl (k := 0) rfl (nI_succ _).symm (by decide) rfl (fun ls hl => ?_)
          refine lv_goto (tgt := 2) C.1 C.2.1 dX12_quarrel_30 (by decide) ?_
          have q9 : (sA (sA σ 43 10 0 (pre (fun j => bz (¬ nI n ≤ nI j)) (hA σ 43 10 0) k)) 43 10 0 (upd (pre (fun j => bz (¬ nI n ≤ nI j)) (hA σ 43 10 0) k) k (bz (¬ (nI n) ≤ (nI k))))) = (sA σ 43 10 0 (pre (fun j => bz (¬ nI n ≤ nI j)) (hA σ 43 10 0) (k + 1))) := by first | exact (sA_self _ _ _ _).trans (by rw [← pre_0]) | (rw [sA_sA]; exact congrArg _ (pre_s _ _ _))
          rw [q9] at M
          exact ih2 (k + 1) hk1 (by omega) _ _ _ M (lv_sub hl [0, 1] rfl)
        refine lv_icmp_ge (tgt := 25) C.1 C.2.1 dX12_quarrel_18 (by decide) (fun c_18 => ?_) (fun c_18 => ?_)
        · skip
          refine lv_iconst (v := 0) C.1 C.2.1 dX12_quarrel_25 (by decide) ?_
          exact J8 _ (by first | (simp only [bz, c_18, not_false_eq_true, not_true_eq_false, and_self, and_true, true_and, and_false, false_and, or_true, true_or, or_false, false_or, Bool.false_eq_true, if_true, if_false, ↓reduceIte]; done) | simp [bz, c_18]) _ _ _ M (lv_sub hl [0, 1] rfl)
        · skip
          refine lv_iconst (v := 1) C.1 C.2.1 dX12_quarrel_21 (by decide) ?_
          refine lv_goto (tgt := 26) C.1 C.2.1 dX12_quarrel_22 (by decide) ?_
          exact J8 _ (by first | (simp only [bz, c_18, not_false_eq_true, not_true_eq_false, and_self, and_true, true_and, and_false, false_and, or_true, true_or, or_false, false_or, Bool.false_eq_true, if_true, if_false, ↓reduceIte]; done) | simp [bz, c_18]) _ _ _ M (lv_sub hl [0, 1] rfl)
  have q10 : 0 = nI 0 := by rfl
  have hl : lv_has ls 3 [(1, .int (nI 0)), (0, .ref (hO E 43))] := by
    rw [← q10]
    exact lv_sub hl [0, 1] rfl
  have q11 : σ = (sA σ 43 10 0 (pre (fun j => bz (¬ nI n ≤ nI j)) (hA σ 43 10 0) 0)) := by first | exact (sA_self _ _ _ _).trans (by rw [← pre_0]) | (rw [sA_sA]; exact congrArg _ (pre_s _ _ _))
  rw [q11] at M
  exact L2 ((40 - 0) + 1) 0 (Nat.zero_le _) (Nat.lt_succ_self _) _ _ _ M hl
