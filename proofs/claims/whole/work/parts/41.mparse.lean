set_option maxHeartbeats 4000000 in
set_option maxRecDepth 100000 in
theorem m_isEnd (l : Launch) (E : hEnv) (σ : hMem) (Z : va_W) (x0 q : Nat) (ft : Int32) (L : Nat → Int32) (n : Nat) (hn : hI σ 43 31 = nI n) (hn3 : n ≤ 300) (hp : x0 ≤ n) : hMet l yX12_isEnd cX12_isEnd 1 (some .boolean) (0, 0, 0, 0) E (pM σ x0 q ft L) Z [.ref (hO E 43)] (hQi E (fun r u => r = bz (nI (sk (hA σ 43 30 0) n x0) = nI n) ∧ u = (pM σ (sk (hA σ 43 30 0) n x0) (sk (hA σ 43 30 0) n x0) ft L, Z))) := by
  refine hMet.of (by decide) (Nat.le_of_ble_eq_true rfl) (fun p e s m below meth c A ls C M hr hlk hl => ?_)
  have hl : lv_has ls 1 [(0, .ref (hO E 43))] := hl
  generalize s.heap = H at M ⊢
  generalize ([] : List Loc) = locs at M ⊢
  have L0 : ∀ (n9 : Nat) (x : Nat), (x ≤ n) → (sk (hA σ 43 30 0) n x = sk (hA σ 43 30 0) n x0) → n - x < n9 → ∀ (H : Heap) (locs : List Loc) (ls : Array Slot), hM E A s H locs (pM σ x q ft L) Z → lv_has ls 1 [(0, .ref (hO E 43))] → W p l e (hRm (0, 0, 0, 0)) s m [.ref (hO E 43)].toArray below meth c H locs 0 0 (MQ below (hQi E (fun r u => r = bz (nI (sk (hA σ 43 30 0) n x0) = nI n) ∧ u = (pM σ (sk (hA σ 43 30 0) n x0) (sk (hA σ 43 30 0) n x0) ft L, Z)) A) [.ref (hO E 43)].toArray s 0 0 A) (F0 m 0 ls []) := by
    intro n9
    induction n9 with
    | zero =>
      intro x hx hs hn9
      exact absurd hn9 (Nat.not_lt_zero _)
    | succ n9 ih0 =>
      intro x hx hs hn0 H locs ls M hl
      refine lv_aload_n C.1 C.2.1 dX12_isEnd_0 rfl (lv_at hl 0 rfl) ?_
      refine g_getI C M 43 32 (by decide) rfl rfl (by decide) fl12_176 (v := nI x) rfl dX12_isEnd_1 ?_
      refine lv_aload_n C.1 C.2.1 dX12_isEnd_4 rfl (lv_at hl 0 rfl) ?_
      refine g_getI C M 43 31 (by decide) rfl rfl (by decide) fl12_166 (v := nI n) hn dX12_isEnd_5 ?_
      refine lv_icmp_ge (tgt := 38) C.1 C.2.1 dX12_isEnd_8 (by decide) (fun c_8 => ?_) (fun c_8 => ?_)
      · skip
        have hxn : n ≤ x := ct_ge c_8
        refine lv_aload_n C.1 C.2.1 dX12_isEnd_38 rfl (lv_at hl 0 rfl) ?_
        refine lv_aload_n C.1 C.2.1 dX12_isEnd_39 rfl (lv_at hl 0 rfl) ?_
        refine g_getI C M 43 32 (by decide) rfl rfl (by decide) fl12_176 (v := nI x) rfl dX12_isEnd_40 ?_
        refine g_putI C M 43 33 (by decide) rfl rfl (by decide) fl12_179 rfl rfl dX12_isEnd_43 (fun H locs M => ?_)
        rw [pM_a] at M
        refine lv_aload_n C.1 C.2.1 dX12_isEnd_46 rfl (lv_at hl 0 rfl) ?_
        refine g_getI C M 43 32 (by decide) rfl rfl (by decide) fl12_176 (v := nI x) rfl dX12_isEnd_47 ?_
        refine lv_aload_n C.1 C.2.1 dX12_isEnd_50 rfl (lv_at hl 0 rfl) ?_
        refine g_getI C M 43 31 (by decide) rfl rfl (by decide) fl12_166 (v := nI n) hn dX12_isEnd_51 ?_
        have J2 : ∀ (v1 : Int32) (ev1 : v1 = bz ((nI x) = (nI n))) (H : Heap) (locs : List Loc) (ls : Array Slot), hM E A s H locs (pM σ x x ft L) Z → lv_has ls 1 [(0, .ref (hO E 43))] → W p l e (hRm (0, 0, 0, 0)) s m [.ref (hO E 43)].toArray below meth c H locs 0 0 (MQ below (hQi E (fun r u => r = bz (nI (sk (hA σ 43 30 0) n x0) = nI n) ∧ u = (pM σ (sk (hA σ 43 30 0) n x0) (sk (hA σ 43 30 0) n x0) ft L, Z)) A) [.ref (hO E 43)].toArray s 0 0 A) (F0 m 62 ls [.int v1]) := by
          intro v1 ev1 H locs ls M hl
          subst ev1
          refine g_zret bz_nar C M hr hlk ?_ (Nat.le_of_ble_eq_true rfl) (Nat.le_of_ble_eq_true rfl) dX12_isEnd_62
          have hsx : sk (hA σ 43 30 0) n x0 = x := hs.symm.trans (scn_n hxn); subst hsx; exact ⟨rfl, rfl⟩
        refine lv_icmp_ne (tgt := 61) C.1 C.2.1 dX12_isEnd_54 (by decide) (fun c_54 => ?_) (fun c_54 => ?_)
        · skip
          refine lv_iconst (v := 0) C.1 C.2.1 dX12_isEnd_61 (by decide) ?_
          exact J2 _ (by first | (simp only [bz, c_54, not_false_eq_true, not_true_eq_false, and_self, and_true, true_and, and_false, false_and, or_true, true_or, or_false, false_or, Bool.false_eq_true, if_true, if_false, ↓reduceIte]; done) | simp [bz, c_54]) _ _ _ M (lv_sub hl [0] rfl)
        · skip
          refine lv_iconst (v := 1) C.1 C.2.1 dX12_isEnd_57 (by decide) ?_
          refine lv_goto (tgt := 62) C.1 C.2.1 dX12_isEnd_58 (by decide) ?_
          exact J2 _ (by first | (simp only [bz, c_54, not_false_eq_true, not_true_eq_false, and_self, and_true, true_and, and_false, false_and, or_true, true_or, or_false, false_or, Bool.false_eq_true, if_true, if_false, ↓reduceIte]; done) | simp [bz, c_54]) _ _ _ M (lv_sub hl [0] rfl)
      · skip
        have hxn : x < n := ct_nge c_8
        refine lv_aload_n C.1 C.2.1 dX12_isEnd_11 rfl (lv_at hl 0 rfl) ?_
        refine g_getA C M 43 30 (by decide) rfl rfl (by decide) fl12_81 dX12_isEnd_12 ?_
        refine lv_aload_n C.1 C.2.1 dX12_isEnd_15 rfl (lv_at hl 0 rfl) ?_
        refine g_getI C M 43 32 (by decide) rfl rfl (by decide) fl12_176 (v := nI x) rfl dX12_isEnd_16 ?_
        refine g_bald C M 43 30 (by decide) rfl x (nI_clamp (by omega)) (vp_in_nI (by omega) (by decide)) (v := hA σ 43 30 0 x) rfl dX12_isEnd_19 ?_
        refine lv_bipush (v := 32) C.1 C.2.1 dX12_isEnd_20 (by decide) ?_
        refine lv_icmp_ne (tgt := 38) C.1 C.2.1 dX12_isEnd_22 (by decide) (fun c_22 => ?_) (fun c_22 => ?_)
        · skip
          refine lv_aload_n C.1 C.2.1 dX12_isEnd_38 rfl (lv_at hl 0 rfl) ?_
          refine lv_aload_n C.1 C.2.1 dX12_isEnd_39 rfl (lv_at hl 0 rfl) ?_
          refine g_getI C M 43 32 (by decide) rfl rfl (by decide) fl12_176 (v := nI x) rfl dX12_isEnd_40 ?_
          refine g_putI C M 43 33 (by decide) rfl rfl (by decide) fl12_179 rfl rfl dX12_isEnd_43 (fun H locs M => ?_)
          rw [pM_a] at M
          refine lv_aload_n C.1 C.2.1 dX12_isEnd_46 rfl (lv_at hl 0 rfl) ?_
          refine g_getI C M 43 32 (by decide) rfl rfl (by decide) fl12_176 (v := nI x) rfl dX12_isEnd_47 ?_
          refine lv_aload_n C.1 C.2.1 dX12_isEnd_50 rfl (lv_at hl 0 rfl) ?_
          refine g_getI C M 43 31 (by decide) rfl rfl (by decide) fl12_166 (v := nI n) hn dX12_isEnd_51 ?_
          have J4 : ∀ (v3 : Int32) (ev3 : v3 = bz ((nI x) = (nI n))) (H : Heap) (locs : List Loc) (ls : Array Slot), hM E A s H locs (pM σ x x ft L) Z → lv_has ls 1 [(0, .ref (hO E 43))] → W p l e (hRm (0, 0, 0, 0)) s m [.ref (hO E 43)].toArray below meth c H locs 0 0 (MQ below (hQi E (fun r u => r = bz (nI (sk (hA σ 43 30 0) n x0) = nI n) ∧ u = (pM σ (sk (hA σ 43 30 0) n x0) (sk (hA σ 43 30 0) n x0) ft L, Z)) A) [.ref (hO E 43)].toArray s 0 0 A) (F0 m 62 ls [.int v3]) := by
            intro v3 ev3 H locs ls M hl
            subst ev3
            refine g_zret bz_nar C M hr hlk ?_ (Nat.le_of_ble_eq_true rfl) (Nat.le_of_ble_eq_true rfl) dX12_isEnd_62
            have hsx : sk (hA σ 43 30 0) n x0 = x := hs.symm.trans (scn_x (fun h9 => c_22 (pB_iff.mp h9))); subst hsx; exact ⟨rfl, rfl⟩
          refine lv_icmp_ne (tgt := 61) C.1 C.2.1 dX12_isEnd_54 (by decide) (fun c_54 => ?_) (fun c_54 => ?_)
          · skip
            refine lv_iconst (v := 0) C.1 C.2.1 dX12_isEnd_61 (by decide) ?_
            exact J4 _ (by first | (simp only [bz, c_54, not_false_eq_true, not_true_eq_false, and_self, and_true, true_and, and_false, false_and, or_true, true_or, or_false, false_or, Bool.false_eq_true, if_true, if_false, ↓reduceIte]; done) | simp [bz, c_54]) _ _ _ M (lv_sub hl [0] rfl)
          · skip
            refine lv_iconst (v := 1) C.1 C.2.1 dX12_isEnd_57 (by decide) ?_
            refine lv_goto (tgt := 62) C.1 C.2.1 dX12_isEnd_58 (by decide) ?_
            exact J4 _ (by first | (simp only [bz, c_54, not_false_eq_true, not_true_eq_false, and_self, and_true, true_and, and_false, false_and, or_true, true_or, or_false, false_or, Bool.false_eq_true, if_true, if_false, ↓reduceIte]; done) | simp [bz, c_54]) _ _ _ M (lv_sub hl [0] rfl)
        · skip
          refine lv_aload_n C.1 C.2.1 dX12_isEnd_25 rfl (lv_at hl 0 rfl) ?_
          refine lv_dup C.1 C.2.1 dX12_isEnd_26 rfl ?_
          refine g_getI C M 43 32 (by decide) rfl rfl (by decide) fl12_176 (v := nI x) rfl dX12_isEnd_27 ?_
          refine lv_iconst (v := 1) C.1 C.2.1 dX12_isEnd_30 (by decide) ?_
          refine lv_iadd C.1 C.2.1 dX12_isEnd_31 ?_
          refine g_rei (v := nI (x + 1)) (nI_1 _) ?_
          refine g_putI C M 43 32 (by decide) rfl rfl (by decide) fl12_176 rfl rfl dX12_isEnd_32 (fun H locs M => ?_)
          rw [pM_b] at M
          refine lv_goto (tgt := 0) C.1 C.2.1 dX12_isEnd_35 (by decide) ?_
          exact ih0 (x + 1) hxn ((scn_s hxn (pB_iff.mpr c_22)).trans hs) (by omega) _ _ _ M (lv_sub hl [0] rfl)
  exact L0 ((n - x0) + 1) x0 hp rfl (Nat.lt_succ_self _) _ _ _ M (lv_sub hl [0] rfl)

set_option maxHeartbeats 4000000 in
set_option maxRecDepth 100000 in
theorem m_word (l : Launch) (E : hEnv) (σ : hMem) (Z : va_W) (x0 q : Nat) (ft : Int32) (L : Nat → Int32) (n : Nat) (hn : hI σ 43 31 = nI n) (hn3 : n ≤ 300) (hp : x0 ≤ n) : hMet l yX12_word cX12_word 1 none (1, 0, 0, 22) E (pM σ x0 q ft L) Z [.ref (hO E 43)] (hQv E (fun u => u = (pM σ (wd (hA σ 43 30 0) n (sk (hA σ 43 30 0) n x0)) (sk (hA σ 43 30 0) n x0) (if nI (wd (hA σ 43 30 0) n (sk (hA σ 43 30 0) n x0)) = nI (sk (hA σ 43 30 0) n x0) then ftl ft (1 + 4 * nI (sk (hA σ 43 30 0) n x0)) else ft) L, Z))) := by
  refine hMet.of (by decide) (Nat.le_of_ble_eq_true rfl) (fun p e s m below meth c A ls C M hr hlk hl => ?_)
  have hl : lv_has ls 1 [(0, .ref (hO E 43))] := hl
  generalize s.heap = H at M ⊢
  generalize ([] : List Loc) = locs at M ⊢
  refine lv_aload_n C.1 C.2.1 dX12_word_0 rfl (lv_at hl 0 rfl) ?_
  refine g_calli M (g_runV (As := []) (rest := []) C M 43 (m_isEnd l E σ Z x0 q ft L n hn hn3 hp) clX12_isEnd ivX12_isEnd lk12_182 (by decide) rfl rfl ⟨Nat.le_of_ble_eq_true rfl, Nat.le_of_ble_eq_true rfl⟩ hl.1 rfl (Nat.le_of_ble_eq_true rfl) dX12_word_1 ⟨Nat.le_of_ble_eq_true rfl, Nat.le_of_ble_eq_true rfl⟩) (fun r1 u H locs hR M => ?_)
  refine W.widen (k := 0) (n := 0) (Nat.le_of_ble_eq_true rfl) (Nat.le_of_ble_eq_true rfl) ?_
  obtain ⟨rfl, rfl⟩ := hR
  have M : hM E A s H locs (pM σ (sk (hA σ 43 30 0) n x0) (sk (hA σ 43 30 0) n x0) ft L) Z := M
  refine lv_pop C.1 C.2.1 dX12_word_4 rfl ?_
  have L5 : ∀ (n9 : Nat) (x : Nat), (x ≤ n) → (wd (hA σ 43 30 0) n x = wd (hA σ 43 30 0) n (sk (hA σ 43 30 0) n x0)) → n - x < n9 → ∀ (H : Heap) (locs : List Loc) (ls : Array Slot), hM E A s H locs (pM σ x (sk (hA σ 43 30 0) n x0) ft L) Z → lv_has ls 1 [(0, .ref (hO E 43))] → W p l e (hRm (1, 0, 0, 22)) s m [.ref (hO E 43)].toArray below meth c H locs 0 0 (MQ below (hQv E (fun u => u = (pM σ (wd (hA σ 43 30 0) n (sk (hA σ 43 30 0) n x0)) (sk (hA σ 43 30 0) n x0) (if nI (wd (hA σ 43 30 0) n (sk (hA σ 43 30 0) n x0)) = nI (sk (hA σ 43 30 0) n x0) then ftl ft (1 + 4 * nI (sk (hA σ 43 30 0) n x0)) else ft) L, Z)) A) [.ref (hO E 43)].toArray s 0 0 A) (F0 m 5 ls []) := by
    intro n9
    induction n9 with
    | zero =>
      intro x hx hs hn9
      exact absurd hn9 (Nat.not_lt_zero _)
    | succ n9 ih5 =>
      intro x hx hs hn5 H locs ls M hl
      refine lv_aload_n C.1 C.2.1 dX12_word_5 rfl (lv_at hl 0 rfl) ?_
      refine g_getI C M 43 32 (by decide) rfl rfl (by decide) fl12_176 (v := nI x) rfl dX12_word_6 ?_
      refine lv_aload_n C.1 C.2.1 dX12_word_9 rfl (lv_at hl 0 rfl) ?_
      refine g_getI C M 43 31 (by decide) rfl rfl (by decide) fl12_166 (v := nI n) hn dX12_word_10 ?_
      refine lv_icmp_ge (tgt := 57) C.1 C.2.1 dX12_word_13 (by decide) (fun c_13 => ?_) (fun c_13 => ?_)
      · skip
        have hxn : n ≤ x := ct_ge c_13
        refine lv_aload_n C.1 C.2.1 dX12_word_57 rfl (lv_at hl 0 rfl) ?_
        refine g_getI C M 43 32 (by decide) rfl rfl (by decide) fl12_176 (v := nI x) rfl dX12_word_58 ?_
        refine lv_aload_n C.1 C.2.1 dX12_word_61 rfl (lv_at hl 0 rfl) ?_
        refine g_getI C M 43 33 (by decide) rfl rfl (by decide) fl12_179 (v := nI (sk (hA σ 43 30 0) n x0)) rfl dX12_word_62 ?_
        refine lv_icmp_ne (tgt := 77) C.1 C.2.1 dX12_word_65 (by decide) (fun c_65 => ?_) (fun c_65 => ?_)
        · skip
          refine g_vret C M hr hlk ?_ (Nat.le_of_ble_eq_true rfl) (Nat.le_of_ble_eq_true rfl) dX12_word_77
          have hsx : wd (hA σ 43 30 0) n (sk (hA σ 43 30 0) n x0) = x := hs.symm.trans (scn_n hxn); subst hsx; simp only [c_65, if_true, if_false, ↓reduceIte]
        · skip
          refine lv_aload_n C.1 C.2.1 dX12_word_68 rfl (lv_at hl 0 rfl) ?_
          refine lv_iconst (v := 1) C.1 C.2.1 dX12_word_69 (by decide) ?_
          refine lv_aload_n C.1 C.2.1 dX12_word_70 rfl (lv_at hl 0 rfl) ?_
          refine g_getI C M 43 33 (by decide) rfl rfl (by decide) fl12_179 (v := nI (sk (hA σ 43 30 0) n x0)) rfl dX12_word_71 ?_
          refine g_callv M (g_runV (As := [.int 1, .int (nI (sk (hA σ 43 30 0) n x0))]) (rest := []) C M 43 (m_fails l E (pM σ x (sk (hA σ 43 30 0) n x0) ft L) Z 1 (nI (sk (hA σ 43 30 0) n x0))) clX12_fails ivX12_fails lk12_185 (by decide) rfl rfl ⟨Nat.le_of_ble_eq_true rfl, Nat.le_of_ble_eq_true rfl⟩ hl.1 rfl (Nat.le_of_ble_eq_true rfl) dX12_word_74 ⟨Nat.le_of_ble_eq_true rfl, Nat.le_of_ble_eq_true rfl⟩) (fun u H locs hR M => ?_)
          refine W.widen (k := 0) (n := 0) (Nat.le_of_ble_eq_true rfl) (Nat.le_of_ble_eq_true rfl) ?_
          rw [pM_fail] at hR
          subst hR
          have M : hM E A s H locs (pM σ x (sk (hA σ 43 30 0) n x0) (ftl ft (1 + 4 * (nI (sk (hA σ 43 30 0) n x0)))) L) Z := M
          refine g_vret C M hr hlk ?_ (Nat.le_of_ble_eq_true rfl) (Nat.le_of_ble_eq_true rfl) dX12_word_77
          have hsx : wd (hA σ 43 30 0) n (sk (hA σ 43 30 0) n x0) = x := hs.symm.trans (scn_n hxn); subst hsx; simp only [c_65, if_true, if_false, ↓reduceIte]
      · skip
        have hxn : x < n := ct_nge c_13
        refine lv_aload_n C.1 C.2.1 dX12_word_16 rfl (lv_at hl 0 rfl) ?_
        refine g_getA C M 43 30 (by decide) rfl rfl (by decide) fl12_81 dX12_word_17 ?_
        refine lv_aload_n C.1 C.2.1 dX12_word_20 rfl (lv_at hl 0 rfl) ?_
        refine g_getI C M 43 32 (by decide) rfl rfl (by decide) fl12_176 (v := nI x) rfl dX12_word_21 ?_
        refine g_bald C M 43 30 (by decide) rfl x (nI_clamp (by omega)) (vp_in_nI (by omega) (by decide)) (v := hA σ 43 30 0 x) rfl dX12_word_24 ?_
        refine lv_bipush (v := 97) C.1 C.2.1 dX12_word_25 (by decide) ?_
        refine lv_icmp_lt (tgt := 57) C.1 C.2.1 dX12_word_27 (by decide) (fun c_27 => ?_) (fun c_27 => ?_)
        · skip
          refine lv_aload_n C.1 C.2.1 dX12_word_57 rfl (lv_at hl 0 rfl) ?_
          refine g_getI C M 43 32 (by decide) rfl rfl (by decide) fl12_176 (v := nI x) rfl dX12_word_58 ?_
          refine lv_aload_n C.1 C.2.1 dX12_word_61 rfl (lv_at hl 0 rfl) ?_
          refine g_getI C M 43 33 (by decide) rfl rfl (by decide) fl12_179 (v := nI (sk (hA σ 43 30 0) n x0)) rfl dX12_word_62 ?_
          refine lv_icmp_ne (tgt := 77) C.1 C.2.1 dX12_word_65 (by decide) (fun c_65 => ?_) (fun c_65 => ?_)
          · skip
            refine g_vret C M hr hlk ?_ (Nat.le_of_ble_eq_true rfl) (Nat.le_of_ble_eq_true rfl) dX12_word_77
            have hsx : wd (hA σ 43 30 0) n (sk (hA σ 43 30 0) n x0) = x := hs.symm.trans (scn_x (P := fun c => inB c 97 122) (fun h9 => (inB_iff.mp h9).1 c_27)); subst hsx; simp only [c_65, if_true, if_false, ↓reduceIte]
          · skip
            refine lv_aload_n C.1 C.2.1 dX12_word_68 rfl (lv_at hl 0 rfl) ?_
            refine lv_iconst (v := 1) C.1 C.2.1 dX12_word_69 (by decide) ?_
            refine lv_aload_n C.1 C.2.1 dX12_word_70 rfl (lv_at hl 0 rfl) ?_
            refine g_getI C M 43 33 (by decide) rfl rfl (by decide) fl12_179 (v := nI (sk (hA σ 43 30 0) n x0)) rfl dX12_word_71 ?_
            refine g_callv M (g_runV (As := [.int 1, .int (nI (sk (hA σ 43 30 0) n x0))]) (rest := []) C M 43 (m_fails l E (pM σ x (sk (hA σ 43 30 0) n x0) ft L) Z 1 (nI (sk (hA σ 43 30 0) n x0))) clX12_fails ivX12_fails lk12_185 (by decide) rfl rfl ⟨Nat.le_of_ble_eq_true rfl, Nat.le_of_ble_eq_true rfl⟩ hl.1 rfl (Nat.le_of_ble_eq_true rfl) dX12_word_74 ⟨Nat.le_of_ble_eq_true rfl, Nat.le_of_ble_eq_true rfl⟩) (fun u H locs hR M => ?_)
            refine W.widen (k := 0) (n := 0) (Nat.le_of_ble_eq_true rfl) (Nat.le_of_ble_eq_true rfl) ?_
            rw [pM_fail] at hR
            subst hR
            have M : hM E A s H locs (pM σ x (sk (hA σ 43 30 0) n x0) (ftl ft (1 + 4 * (nI (sk (hA σ 43 30 0) n x0)))) L) Z := M
            refine g_vret C M hr hlk ?_ (Nat.le_of_ble_eq_true rfl) (Nat.le_of_ble_eq_true rfl) dX12_word_77
            have hsx : wd (hA σ 43 30 0) n (sk (hA σ 43 30 0) n x0) = x := hs.symm.trans (scn_x (P := fun c => inB c 97 122) (fun h9 => (inB_iff.mp h9).1 c_27)); subst hsx; simp only [c_65, if_true, if_false, ↓reduceIte]
        · skip
          refine lv_aload_n C.1 C.2.1 dX12_word_30 rfl (lv_at hl 0 rfl) ?_
          refine g_getA C M 43 30 (by decide) rfl rfl (by decide) fl12_81 dX12_word_31 ?_
          refine lv_aload_n C.1 C.2.1 dX12_word_34 rfl (lv_at hl 0 rfl) ?_
          refine g_getI C M 43 32 (by decide) rfl rfl (by decide) fl12_176 (v := nI x) rfl dX12_word_35 ?_
          refine g_bald C M 43 30 (by decide) rfl x (nI_clamp (by omega)) (vp_in_nI (by omega) (by decide)) (v := hA σ 43 30 0 x) rfl dX12_word_38 ?_
          refine lv_bipush (v := 122) C.1 C.2.1 dX12_word_39 (by decide) ?_
          refine lv_icmp_gt (tgt := 57) C.1 C.2.1 dX12_word_41 (by decide) (fun c_41 => ?_) (fun c_41 => ?_)
          · skip
            refine lv_aload_n C.1 C.2.1 dX12_word_57 rfl (lv_at hl 0 rfl) ?_
            refine g_getI C M 43 32 (by decide) rfl rfl (by decide) fl12_176 (v := nI x) rfl dX12_word_58 ?_
            refine lv_aload_n C.1 C.2.1 dX12_word_61 rfl (lv_at hl 0 rfl) ?_
            refine g_getI C M 43 33 (by decide) rfl rfl (by decide) fl12_179 (v := nI (sk (hA σ 43 30 0) n x0)) rfl dX12_word_62 ?_
            refine lv_icmp_ne (tgt := 77) C.1 C.2.1 dX12_word_65 (by decide) (fun c_65 => ?_) (fun c_65 => ?_)
            · skip
              refine g_vret C M hr hlk ?_ (Nat.le_of_ble_eq_true rfl) (Nat.le_of_ble_eq_true rfl) dX12_word_77
              have hsx : wd (hA σ 43 30 0) n (sk (hA σ 43 30 0) n x0) = x := hs.symm.trans (scn_x (P := fun c => inB c 97 122) (fun h9 => (inB_iff.mp h9).2 c_41)); subst hsx; simp only [c_65, if_true, if_false, ↓reduceIte]
            · skip
              refine lv_aload_n C.1 C.2.1 dX12_word_68 rfl (lv_at hl 0 rfl) ?_
              refine lv_iconst (v := 1) C.1 C.2.1 dX12_word_69 (by decide) ?_
              refine lv_aload_n C.1 C.2.1 dX12_word_70 rfl (lv_at hl 0 rfl) ?_
              refine g_getI C M 43 33 (by decide) rfl rfl (by decide) fl12_179 (v := nI (sk (hA σ 43 30 0) n x0)) rfl dX12_word_71 ?_
              refine g_callv M (g_runV (As := [.int 1, .int (nI (sk (hA σ 43 30 0) n x0))]) (rest := []) C M 43 (m_fails l E (pM σ x (sk (hA σ 43 30 0) n x0) ft L) Z 1 (nI (sk (hA σ 43 30 0) n x0))) clX12_fails ivX12_fails lk12_185 (by decide) rfl rfl ⟨Nat.le_of_ble_eq_true rfl, Nat.le_of_ble_eq_true rfl⟩ hl.1 rfl (Nat.le_of_ble_eq_true rfl) dX12_word_74 ⟨Nat.le_of_ble_eq_true rfl, Nat.le_of_ble_eq_true rfl⟩) (fun u H locs hR M => ?_)
              refine W.widen (k := 0) (n := 0) (Nat.le_of_ble_eq_true rfl) (Nat.le_of_ble_eq_true rfl) ?_
              rw [pM_fail] at hR
              subst hR
              have M : hM E A s H locs (pM σ x (sk (hA σ 43 30 0) n x0) (ftl ft (1 + 4 * (nI (sk (hA σ 43 30 0) n x0)))) L) Z := M
              refine g_vret C M hr hlk ?_ (Nat.le_of_ble_eq_true rfl) (Nat.le_of_ble_eq_true rfl) dX12_word_77
              have hsx : wd (hA σ 43 30 0) n (sk (hA σ 43 30 0) n x0) = x := hs.symm.trans (scn_x (P := fun c => inB c 97 122) (fun h9 => (inB_iff.mp h9).2 c_41)); subst hsx; simp only [c_65, if_true, if_false, ↓reduceIte]
          · skip
            refine lv_aload_n C.1 C.2.1 dX12_word_44 rfl (lv_at hl 0 rfl) ?_
            refine lv_dup C.1 C.2.1 dX12_word_45 rfl ?_
            refine g_getI C M 43 32 (by decide) rfl rfl (by decide) fl12_176 (v := nI x) rfl dX12_word_46 ?_
            refine lv_iconst (v := 1) C.1 C.2.1 dX12_word_49 (by decide) ?_
            refine lv_iadd C.1 C.2.1 dX12_word_50 ?_
            refine g_rei (v := nI (x + 1)) (nI_1 _) ?_
            refine g_putI C M 43 32 (by decide) rfl rfl (by decide) fl12_176 rfl rfl dX12_word_51 (fun H locs M => ?_)
            rw [pM_b] at M
            refine lv_goto (tgt := 5) C.1 C.2.1 dX12_word_54 (by decide) ?_
            exact ih5 (x + 1) hxn ((scn_s (P := fun c => inB c 97 122) hxn (inB_iff.mpr ⟨c_27, c_41⟩)).trans hs) (by omega) _ _ _ M (lv_sub hl [0] rfl)
  exact L5 ((n - (sk (hA σ 43 30 0) n x0)) + 1) (sk (hA σ 43 30 0) n x0) (scn_le hp) rfl (Nat.lt_succ_self _) _ _ _ M (lv_sub hl [0] rfl)

set_option maxHeartbeats 4000000 in
set_option maxRecDepth 100000 in
theorem m_is (l : Launch) (E : hEnv) (σ : hMem) (Z : va_W) (b a : Nat) (ft : Int32) (L : Nat → Int32) (hab : a ≤ b) (hb : b ≤ 300) (i : Nat) (hi : i < 20) : hMet l yX12_is cX12_is 4 (some .boolean) (4, 0, 0, 85) E (pM σ b a ft L) Z [.ref (hO E 43), .ref (E.2.2.2.1 i)] (hQi E (fun r u => r = bz (isT (hA σ 43 30 0) a b i) ∧ u = (pM σ b a ft L, Z))) := by
  refine hMet.of (by decide) (Nat.le_of_ble_eq_true rfl) (fun p e s m below meth c A ls C M hr hlk hl => ?_)
  have hl : lv_has ls 4 [(0, .ref (hO E 43)), (1, .ref (E.2.2.2.1 i))] := hl
  generalize s.heap = H at M ⊢
  generalize ([] : List Loc) = locs at M ⊢
  have hL34 := sLen_lt i hi
  refine lv_aload_n C.1 C.2.1 dX12_is_0 rfl (lv_at hl 0 rfl) ?_
  refine g_getI C M 43 32 (by decide) rfl rfl (by decide) fl12_176 (v := nI b) rfl dX12_is_1 ?_
  refine lv_aload_n C.1 C.2.1 dX12_is_4 rfl (lv_at hl 0 rfl) ?_
  refine g_getI C M 43 33 (by decide) rfl rfl (by decide) fl12_179 (v := nI a) rfl dX12_is_5 ?_
  refine lv_isub C.1 C.2.1 dX12_is_8 ?_
  refine g_rei (v := nI (b - a)) (nI_subN hab) ?_
  refine lv_aload_n C.1 C.2.1 dX12_is_9 rfl (lv_at hl 1 rfl) ?_
  refine g_calli M (g_runT (As := []) (rest := [.int (nI (b - a))]) C M i hi (s_length l E (pM σ b a ft L) Z i hi) clJ0_length_8abf5 ivJ0_length_8abf5 lk12_189 rfl rfl ⟨Nat.le_of_ble_eq_true rfl, Nat.le_of_ble_eq_true rfl⟩ hl.1 rfl (Nat.le_of_ble_eq_true rfl) dX12_is_10 ⟨Nat.le_of_ble_eq_true rfl, Nat.le_of_ble_eq_true rfl⟩) (fun r1 u H locs hR M => ?_)
  refine W.widen (k := 0) (n := 0) (Nat.le_of_ble_eq_true rfl) (Nat.le_of_ble_eq_true rfl) ?_
  obtain ⟨rfl, rfl⟩ := hR
  have M : hM E A s H locs (pM σ b a ft L) Z := M
  have J3 : ∀ (v2 : Int32) (ev2 : v2 = bz ((nI (b - a)) = (nI (sLen.getD i 0)))) (H : Heap) (locs : List Loc) (ls : Array Slot), hM E A s H locs (pM σ b a ft L) Z → lv_has ls 4 [(0, .ref (hO E 43)), (1, .ref (E.2.2.2.1 i))] → W p l e (hRm (4, 0, 0, 85)) s m [.ref (hO E 43), .ref (E.2.2.2.1 i)].toArray below meth c H locs 0 0 (MQ below (hQi E (fun r u => r = bz (isT (hA σ 43 30 0) a b i) ∧ u = (pM σ b a ft L, Z)) A) [.ref (hO E 43), .ref (E.2.2.2.1 i)].toArray s 0 0 A) (F0 m 21 ls [.int v2]) := by
    intro v2 ev2 H locs ls M hl
    subst ev2
    refine lv_istore_n (lv' := [(2, .int (bz ((nI (b - a)) = (nI (sLen.getD i 0))))), (0, .ref (hO E 43)), (1, .ref (E.2.2.2.1 i))]) C.1 C.2.1 dX12_is_21 rfl hl (by decide) rfl (fun ls hl => ?_)
    refine lv_iconst (v := 0) C.1 C.2.1 dX12_is_22 (by decide) ?_
    refine lv_istore_n (lv' := [(3, .int 0), (2, .int (bz ((nI (b - a)) = (nI (sLen.getD i 0))))), (0, .ref (hO E 43)), (1, .ref (E.2.2.2.1 i))]) C.1 C.2.1 dX12_is_23 rfl hl (by decide) rfl (fun ls hl => ?_)
    have L24 : ∀ (n9 : Nat) (k : Nat) (v : Int32), (k ≤ sLen.getD i 0) → (v = bz (b = a + sLen.getD i 0 ∧ ∀ j, j < k → (hA σ 43 30 0) (a + j) = chr i j)) → sLen.getD i 0 - k < n9 → ∀ (H : Heap) (locs : List Loc) (ls : Array Slot), hM E A s H locs (pM σ b a ft L) Z → lv_has ls 4 [(2, .int v), (3, .int (nI k)), (0, .ref (hO E 43)), (1, .ref (E.2.2.2.1 i))] → W p l e (hRm (4, 0, 0, 85)) s m [.ref (hO E 43), .ref (E.2.2.2.1 i)].toArray below meth c H locs 0 0 (MQ below (hQi E (fun r u => r = bz (isT (hA σ 43 30 0) a b i) ∧ u = (pM σ b a ft L, Z)) A) [.ref (hO E 43), .ref (E.2.2.2.1 i)].toArray s 0 0 A) (F0 m 24 ls []) := by
      intro n9
      induction n9 with
      | zero =>
        intro k v hk hv hn9
        exact absurd hn9 (Nat.not_lt_zero _)
      | succ n9 ih24 =>
        intro k v hk hv hn24 H locs ls M hl
        refine lv_iload_n C.1 C.2.1 dX12_is_24 rfl (lv_at hl 1 rfl) ?_
        refine lv_aload_n C.1 C.2.1 dX12_is_25 rfl (lv_at hl 3 rfl) ?_
        refine g_calli M (g_runT (As := []) (rest := [.int (nI k)]) C M i hi (s_length l E (pM σ b a ft L) Z i hi) clJ0_length_8abf5 ivJ0_length_8abf5 lk12_189 rfl rfl ⟨Nat.le_of_ble_eq_true rfl, Nat.le_of_ble_eq_true rfl⟩ hl.1 rfl (Nat.le_of_ble_eq_true rfl) dX12_is_26 ⟨Nat.le_of_ble_eq_true rfl, Nat.le_of_ble_eq_true rfl⟩) (fun r4 u H locs hR M => ?_)
        refine W.widen (k := 0) (n := 0) (Nat.le_of_ble_eq_true rfl) (Nat.le_of_ble_eq_true rfl) ?_
        obtain ⟨rfl, rfl⟩ := hR
        have M : hM E A s H locs (pM σ b a ft L) Z := M
        refine lv_icmp_ge (tgt := 67) C.1 C.2.1 dX12_is_29 (by decide) (fun c_29 => ?_) (fun c_29 => ?_)
        · skip
          have hkn : k = (sLen.getD i 0) := by have := ct_ge (n := (sLen.getD i 0)) (k := k) c_29; omega
          have hl : lv_has ls 4 [(2, .int v), (3, .int (nI (sLen.getD i 0))), (0, .ref (hO E 43)), (1, .ref (E.2.2.2.1 i))] := by first | exact hl | (rw [hkn] at hl; exact hl)
          have M : hM E A s H locs (pM σ b a ft L) Z := by first | exact M | (rw [hkn] at M; exact M)
          refine lv_iload_n C.1 C.2.1 dX12_is_67 rfl (lv_at hl 0 rfl) ?_
          refine g_zret (by rw [hv]; exact bz_nar) C M hr hlk ?_ (Nat.le_of_ble_eq_true rfl) (Nat.le_of_ble_eq_true rfl) dX12_is_68
          refine ⟨?_, rfl⟩; rw [hv, hkn]; exact bz_congr isT_iff.symm
        · skip
          have hk1 : k < (sLen.getD i 0) := ct_nge (n := (sLen.getD i 0)) (k := k) c_29
          refine lv_iload_n C.1 C.2.1 dX12_is_32 rfl (lv_at hl 0 rfl) ?_
          refine lv_if_eq (tgt := 67) C.1 C.2.1 dX12_is_33 (by decide) (fun c_33 => ?_) (fun c_33 => ?_)
          · skip
            refine lv_iload_n C.1 C.2.1 dX12_is_67 rfl (lv_at hl 0 rfl) ?_
            refine g_zret (by rw [hv]; exact bz_nar) C M hr hlk ?_ (Nat.le_of_ble_eq_true rfl) (Nat.le_of_ble_eq_true rfl) dX12_is_68
            refine ⟨?_, rfl⟩; rw [c_33]; exact (bz_f (fun h9 => (bz_0.mp (hv.symm.trans c_33)) ⟨(isT_iff.mp h9).1, fun j hj => (isT_iff.mp h9).2 j (by omega)⟩)).symm
          · skip
            have hP : b = a + sLen.getD i 0 ∧ ∀ j, j < k → (hA σ 43 30 0) (a + j) = chr i j := bz_ne0.mp (by rw [← hv]; exact c_33)
            have hPb := hP.1
            refine lv_aload_n C.1 C.2.1 dX12_is_36 rfl (lv_at hl 2 rfl) ?_
            refine g_getA C M 43 30 (by decide) rfl rfl (by decide) fl12_81 dX12_is_37 ?_
            refine lv_aload_n C.1 C.2.1 dX12_is_40 rfl (lv_at hl 2 rfl) ?_
            refine g_getI C M 43 33 (by decide) rfl rfl (by decide) fl12_179 (v := nI a) rfl dX12_is_41 ?_
            refine lv_iload_n C.1 C.2.1 dX12_is_44 rfl (lv_at hl 1 rfl) ?_
            refine lv_iadd C.1 C.2.1 dX12_is_45 ?_
            refine g_rei (v := nI (a + k)) (nI_add _ _) ?_
            refine g_bald C M 43 30 (by decide) rfl (a + k) (nI_clamp (by omega)) (vp_in_nI (by omega) (by decide)) (v := hA σ 43 30 0 (a + k)) rfl dX12_is_46 ?_
            refine lv_aload_n C.1 C.2.1 dX12_is_47 rfl (lv_at hl 3 rfl) ?_
            refine lv_iload_n C.1 C.2.1 dX12_is_48 rfl (lv_at hl 1 rfl) ?_
            refine g_calli M (g_runT (As := [.int (nI k)]) (rest := [.int (hA σ 43 30 0 (a + k))]) C M i hi (s_charAt l E (pM σ b a ft L) Z i hi k hk1) clJ0_charAt_5068e ivJ0_charAt_5068e lk12_194 rfl rfl ⟨Nat.le_of_ble_eq_true rfl, Nat.le_of_ble_eq_true rfl⟩ hl.1 rfl (Nat.le_of_ble_eq_true rfl) dX12_is_49 ⟨Nat.le_of_ble_eq_true rfl, Nat.le_of_ble_eq_true rfl⟩) (fun r5 u H locs hR M => ?_)
            refine W.widen (k := 0) (n := 0) (Nat.le_of_ble_eq_true rfl) (Nat.le_of_ble_eq_true rfl) ?_
            obtain ⟨rfl, rfl⟩ := hR
            have M : hM E A s H locs (pM σ b a ft L) Z := M
            have J7 : ∀ (v6 : Int32) (ev6 : v6 = bz ((hA σ 43 30 0 (a + k)) = (chr i k))) (H : Heap) (locs : List Loc) (ls : Array Slot), hM E A s H locs (pM σ b a ft L) Z → lv_has ls 4 [(2, .int v), (3, .int (nI k)), (0, .ref (hO E 43)), (1, .ref (E.2.2.2.1 i))] → W p l e (hRm (4, 0, 0, 85)) s m [.ref (hO E 43), .ref (E.2.2.2.1 i)].toArray below meth c H locs 0 0 (MQ below (hQi E (fun r u => r = bz (isT (hA σ 43 30 0) a b i) ∧ u = (pM σ b a ft L, Z)) A) [.ref (hO E 43), .ref (E.2.2.2.1 i)].toArray s 0 0 A) (F0 m 60 ls [.int v6]) := by
              intro v6 ev6 H locs ls M hl
              subst ev6
              refine lv_istore_n (lv' := [(2, .int (bz ((hA σ 43 30 0 (a + k)) = (chr i k)))), (3, .int (nI k)), (0, .ref (hO E 43)), (1, .ref (E.2.2.2.1 i))]) C.1 C.2.1 dX12_is_60 rfl hl (by decide) rfl (fun ls hl => ?_)
              refine lv_iinc (v := nI (k + 1)) (lv' := [(3, .int (nI (k + 1))), (2, .int (bz ((hA σ 43 30 0 (a + k)) = (chr i k)))), (0, .ref (hO E 43)), (1, .ref (E.2.2.2.1 i))]) C.1 C.2.1 dX12_is_61 hl (k := 1) rfl (nI_succ _).symm (by decide) rfl (fun ls hl => ?_)
              refine lv_goto (tgt := 24) C.1 C.2.1 dX12_is_64 (by decide) ?_
              exact ih24 (k + 1) (bz ((hA σ 43 30 0 (a + k)) = (chr i k))) hk1 (bz_congr ⟨fun h9 => ⟨hPb, fun j hj => by by_cases e9 : j = k; rw [e9]; exact h9; exact hP.2 j (by omega)⟩, fun h9 => h9.2 k (by omega)⟩) (by omega) _ _ _ M (lv_sub hl [1, 0, 2, 3] rfl)
            refine lv_icmp_ne (tgt := 59) C.1 C.2.1 dX12_is_52 (by decide) (fun c_52 => ?_) (fun c_52 => ?_)
            · skip
              refine lv_iconst (v := 0) C.1 C.2.1 dX12_is_59 (by decide) ?_
              exact J7 _ (by first | (simp only [bz, c_52, not_false_eq_true, not_true_eq_false, and_self, and_true, true_and, and_false, false_and, or_true, true_or, or_false, false_or, Bool.false_eq_true, if_true, if_false, ↓reduceIte]; done) | simp [bz, c_52]) _ _ _ M (lv_sub hl [0, 1, 2, 3] rfl)
            · skip
              refine lv_iconst (v := 1) C.1 C.2.1 dX12_is_55 (by decide) ?_
              refine lv_goto (tgt := 60) C.1 C.2.1 dX12_is_56 (by decide) ?_
              exact J7 _ (by first | (simp only [bz, c_52, not_false_eq_true, not_true_eq_false, and_self, and_true, true_and, and_false, false_and, or_true, true_or, or_false, false_or, Bool.false_eq_true, if_true, if_false, ↓reduceIte]; done) | simp [bz, c_52]) _ _ _ M (lv_sub hl [0, 1, 2, 3] rfl)
    have q8 : 0 = nI 0 := by rfl
    have hl : lv_has ls 4 [(2, .int (bz ((nI (b - a)) = (nI (sLen.getD i 0))))), (3, .int (nI 0)), (0, .ref (hO E 43)), (1, .ref (E.2.2.2.1 i))] := by
      rw [← q8]
      exact lv_sub hl [1, 0, 2, 3] rfl
    exact L24 ((sLen.getD i 0 - 0) + 1) 0 (bz ((nI (b - a)) = (nI (sLen.getD i 0)))) (Nat.zero_le _) (bz_congr ⟨fun h9 => ⟨by have := nI_inj' (by omega) (by omega) h9; omega, fun j hj => absurd hj (Nat.not_lt_zero j)⟩, fun h9 => by rw [h9.1]; congr 1; omega⟩) (Nat.lt_succ_self _) _ _ _ M hl
  refine lv_icmp_ne (tgt := 20) C.1 C.2.1 dX12_is_13 (by decide) (fun c_13 => ?_) (fun c_13 => ?_)
  · skip
    refine lv_iconst (v := 0) C.1 C.2.1 dX12_is_20 (by decide) ?_
    exact J3 _ (by first | (simp only [bz, c_13, not_false_eq_true, not_true_eq_false, and_self, and_true, true_and, and_false, false_and, or_true, true_or, or_false, false_or, Bool.false_eq_true, if_true, if_false, ↓reduceIte]; done) | simp [bz, c_13]) _ _ _ M (lv_sub hl [0, 1] rfl)
  · skip
    refine lv_iconst (v := 1) C.1 C.2.1 dX12_is_16 (by decide) ?_
    refine lv_goto (tgt := 21) C.1 C.2.1 dX12_is_17 (by decide) ?_
    exact J3 _ (by first | (simp only [bz, c_13, not_false_eq_true, not_true_eq_false, and_self, and_true, true_and, and_false, false_and, or_true, true_or, or_false, false_or, Bool.false_eq_true, if_true, if_false, ↓reduceIte]; done) | simp [bz, c_13]) _ _ _ M (lv_sub hl [0, 1] rfl)
