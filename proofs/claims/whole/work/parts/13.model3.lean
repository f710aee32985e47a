def mHw (a b c d : Int64) (k : Nat) : Int32 := ((if 16 ≤ nI k then (if 32 ≤ nI k then (if 48 ≤ nI k then d else c) else b) else a) >>> ((nI (4 * (k % 16))).toInt64 &&& 63) &&& 15).toInt32
def shtOk (n : Int32) (N : Nat) (w : Nat → Int32) : Prop := n = nI N ∧ 1 ≤ N ∧ N ≤ 60 ∧ ∀ k, k < N → inB (w k) 1 9 = true
def mSht (σ : hMem) (N : Nat) (w : Nat → Int32) : hMem := sI (sI (sA σ 43 37 0 (pre w (hA σ 43 37 0) N)) 43 36 (nI N)) 43 35 1

set_option maxHeartbeats 4000000 in
set_option maxRecDepth 100000 in
theorem m_sheet (l : Launch) (E : hEnv) (σ : hMem) (Z : va_W) (n : Int32) (a b c9 d : Int64) : hMet l yX12_sheet cX12_sheet 14 (some .boolean) (1, 1, 60, 22) E σ Z [.ref (hO E 43), .int n, .long a, .long b, .long c9, .long d] (hQi E (fun r u => (∃ N, shtOk n N (mHw a b c9 d) ∧ r = 1 ∧ u = (mSht σ N (mHw a b c9 d), Z)) ∨ ((∀ N, ¬ shtOk n N (mHw a b c9 d)) ∧ r = 0 ∧ u = (σ, Z)))) := by
  refine hMet.of (by decide) (Nat.le_of_ble_eq_true rfl) (fun p e s m below meth c A ls C M hr hlk hl => ?_)
  have hl : lv_has ls 14 [(0, .ref (hO E 43)), (1, .int n), (2, .long a), (4, .long b), (6, .long c9), (8, .long d)] := hl
  refine lv_iload_n C.1 C.2.1 dX12_sheet_0 rfl (lv_at hl 1 rfl) ?_
  refine lv_iconst (v := 1) C.1 C.2.1 dX12_sheet_1 (by decide) ?_
  refine lv_bipush (v := 60) C.1 C.2.1 dX12_sheet_2 (by decide) ?_
  refine g_calli M (g_runS (As := [.int n, .int 1, .int 60]) (rest := []) C M (m_in l E σ Z n 1 60) clX12_in stX12_in lk12_131 rfl ⟨Nat.le_of_ble_eq_true rfl, Nat.le_of_ble_eq_true rfl⟩ hl.1 rfl (Nat.le_of_ble_eq_true rfl) dX12_sheet_4 ⟨Nat.le_of_ble_eq_true rfl, Nat.le_of_ble_eq_true rfl⟩) (fun r1 u H locs hR M => ?_)
  refine W.widen (k := 0) (n := 0) (Nat.le_of_ble_eq_true rfl) (Nat.le_of_ble_eq_true rfl) ?_
  obtain ⟨rfl, rfl⟩ := hR
  have M : hM E A s H locs σ Z := M
  refine lv_if_ne (tgt := 12) C.1 C.2.1 dX12_sheet_7 (by decide) (fun c_7 => ?_) (fun c_7 => ?_)
  · skip
    have c_7 : inB n 1 60 = true := bz_ne0.mp c_7
    obtain ⟨N, hN1, hN60, hN⟩ := nI_in1 (lo := 1) c_7 (hi := 60) rfl (by decide) (by decide)
    have hl : lv_has ls 14 [(0, .ref (hO E 43)), (1, .int (nI N)), (2, .long a), (4, .long b), (6, .long c9), (8, .long d)] := by rw [← hN]; exact hl
    refine lv_bipush (v := 60) C.1 C.2.1 dX12_sheet_12 (by decide) ?_
    refine g_newi C M (k := 60) ac_int (by decide) (by decide) (by decide) (Nat.le_of_ble_eq_true rfl) (Nat.le_of_ble_eq_true rfl) dX12_sheet_14 (fun a2 H M => ?_)
    have M : hM E A s H locs σ (Z ++ [(a2, .inl (E.2.1 0, 60, .inl (fun _ => 0)))]) := M
    refine lv_astore (lv' := [(10, .ref a2), (0, .ref (hO E 43)), (1, .int (nI N)), (2, .long a), (4, .long b), (6, .long c9), (8, .long d)]) C.1 C.2.1 dX12_sheet_16 hl (by decide) rfl (fun ls hl => ?_)
    refine lv_iconst (v := 0) C.1 C.2.1 dX12_sheet_18 (by decide) ?_
    refine lv_istore (lv' := [(11, .int 0), (10, .ref a2), (0, .ref (hO E 43)), (1, .int (nI N)), (2, .long a), (4, .long b), (6, .long c9), (8, .long d)]) C.1 C.2.1 dX12_sheet_19 hl (by decide) rfl (fun ls hl => ?_)
    have L21 : ∀ (n9 : Nat) (k : Nat), (k ≤ N) → (∀ i, i < k → inB (mHw a b c9 d i) 1 9 = true) → N - k < n9 → ∀ (H : Heap) (locs : List Loc) (ls : Array Slot), hM E A s H locs σ (Z ++ [(a2, .inl (E.2.1 0, 60, .inl (pre (mHw a b c9 d) (fun _ => 0) k)))]) → lv_has ls 14 [(11, .int (nI k)), (0, .ref (hO E 43)), (1, .int (nI N)), (2, .long a), (4, .long b), (6, .long c9), (8, .long d), (10, .ref a2)] → W p l e (hRm (1, 1, 60, 22)) s m [.ref (hO E 43), .int n, .long a, .long b, .long c9, .long d].toArray below meth c H locs 1 60 (MQ below (hQi E (fun r u => (∃ N, shtOk n N (mHw a b c9 d) ∧ r = 1 ∧ u = (mSht σ N (mHw a b c9 d), Z)) ∨ ((∀ N, ¬ shtOk n N (mHw a b c9 d)) ∧ r = 0 ∧ u = (σ, Z))) A) [.ref (hO E 43), .int n, .long a, .long b, .long c9, .long d].toArray s 1 60 A) (F0 m 21 ls []) := by
      intro n9
      induction n9 with
      | zero =>
        intro k hk hw hn9
        exact absurd hn9 (Nat.not_lt_zero _)
      | succ n9 ih21 =>
        intro k hk hw hn21 H locs ls M hl
        refine lv_iload C.1 C.2.1 dX12_sheet_21 (lv_at hl 0 rfl) ?_
        refine lv_iload_n C.1 C.2.1 dX12_sheet_23 rfl (lv_at hl 2 rfl) ?_
        refine lv_icmp_ge (tgt := 108) C.1 C.2.1 dX12_sheet_24 (by decide) (fun c_24 => ?_) (fun c_24 => ?_)
        · skip
          have hkn : k = N := by have := ct_ge (n := N) (k := k) c_24; omega
          have hl : lv_has ls 14 [(11, .int (nI N)), (0, .ref (hO E 43)), (1, .int (nI N)), (2, .long a), (4, .long b), (6, .long c9), (8, .long d), (10, .ref a2)] := by first | exact hl | (rw [hkn] at hl; exact hl)
          have M : hM E A s H locs σ (Z ++ [(a2, .inl (E.2.1 0, 60, .inl (pre (mHw a b c9 d) (fun _ => 0) N)))]) := by first | exact M | (rw [hkn] at M; exact M)
          have hw9 : ∀ i, i < N → inB (mHw a b c9 d i) 1 9 = true := by rw [← hkn]; exact hw
          refine lv_iconst (v := 0) C.1 C.2.1 dX12_sheet_108 (by decide) ?_
          refine lv_istore (lv' := [(11, .int 0), (0, .ref (hO E 43)), (1, .int (nI N)), (2, .long a), (4, .long b), (6, .long c9), (8, .long d), (10, .ref a2)]) C.1 C.2.1 dX12_sheet_109 hl (by decide) rfl (fun ls hl => ?_)
          have L111 : ∀ (n9 : Nat) (k : Nat), (k ≤ N) → N - k < n9 → ∀ (H : Heap) (locs : List Loc) (ls : Array Slot), hM E A s H locs (sA σ 43 37 0 (pre (mHw a b c9 d) (hA σ 43 37 0) k)) (Z ++ [(a2, .inl (E.2.1 0, 60, .inl (pre (mHw a b c9 d) (fun _ => 0) N)))]) → lv_has ls 14 [(11, .int (nI k)), (0, .ref (hO E 43)), (1, .int (nI N)), (10, .ref a2)] → W p l e (hRm (1, 1, 60, 22)) s m [.ref (hO E 43), .int n, .long a, .long b, .long c9, .long d].toArray below meth c H locs 1 60 (MQ below (hQi E (fun r u => (∃ N, shtOk n N (mHw a b c9 d) ∧ r = 1 ∧ u = (mSht σ N (mHw a b c9 d), Z)) ∨ ((∀ N, ¬ shtOk n N (mHw a b c9 d)) ∧ r = 0 ∧ u = (σ, Z))) A) [.ref (hO E 43), .int n, .long a, .long b, .long c9, .long d].toArray s 1 60 A) (F0 m 111 ls []) := by
            intro n9
            induction n9 with
            | zero =>
              intro k hk hn9
              exact absurd hn9 (Nat.not_lt_zero _)
            | succ n9 ih111 =>
              intro k hk hn111 H locs ls M hl
              refine lv_iload C.1 C.2.1 dX12_sheet_111 (lv_at hl 0 rfl) ?_
              refine lv_iload_n C.1 C.2.1 dX12_sheet_113 rfl (lv_at hl 2 rfl) ?_
              refine lv_icmp_ge (tgt := 135) C.1 C.2.1 dX12_sheet_114 (by decide) (fun c_114 => ?_) (fun c_114 => ?_)
              · skip
                have hkn : k = N := by have := ct_ge (n := N) (k := k) c_114; omega
                have hl : lv_has ls 14 [(11, .int (nI N)), (0, .ref (hO E 43)), (1, .int (nI N)), (10, .ref a2)] := by first | exact hl | (rw [hkn] at hl; exact hl)
                have M : hM E A s H locs (sA σ 43 37 0 (pre (mHw a b c9 d) (hA σ 43 37 0) N)) (Z ++ [(a2, .inl (E.2.1 0, 60, .inl (pre (mHw a b c9 d) (fun _ => 0) N)))]) := by first | exact M | (rw [hkn] at M; exact M)
                refine lv_aload_n C.1 C.2.1 dX12_sheet_135 rfl (lv_at hl 1 rfl) ?_
                refine lv_iload_n C.1 C.2.1 dX12_sheet_136 rfl (lv_at hl 2 rfl) ?_
                refine g_putI C M 43 36 (by decide) rfl rfl (by decide) fl12_259 rfl rfl dX12_sheet_137 (fun H locs M => ?_)
                refine lv_aload_n C.1 C.2.1 dX12_sheet_140 rfl (lv_at hl 1 rfl) ?_
                refine lv_iconst (v := 1) C.1 C.2.1 dX12_sheet_141 (by decide) ?_
                refine g_putZ C M 43 35 (Or.inr rfl) (by decide) rfl rfl (by decide) fl12_262 rfl rfl dX12_sheet_142 (fun H locs M => ?_)
                refine lv_iconst (v := 1) C.1 C.2.1 dX12_sheet_145 (by decide) ?_
                refine g_zret rfl C M.drop hr hlk ?_ (Nat.le_of_ble_eq_true rfl) (Nat.le_of_ble_eq_true rfl) dX12_sheet_146
                exact Or.inl ⟨N, ⟨hN, hN1, hN60, hw9⟩, rfl, rfl⟩
              · skip
                have hk1 : k < N := ct_nge (n := N) (k := k) c_114
                refine lv_aload_n C.1 C.2.1 dX12_sheet_117 rfl (lv_at hl 1 rfl) ?_
                refine g_getA C M 43 37 (by decide) rfl rfl (by decide) fl12_85 dX12_sheet_118 ?_
                refine lv_iload C.1 C.2.1 dX12_sheet_121 (lv_at hl 0 rfl) ?_
                refine lv_aload C.1 C.2.1 dX12_sheet_123 (lv_at hl 3 rfl) ?_
                refine lv_iload C.1 C.2.1 dX12_sheet_125 (lv_at hl 0 rfl) ?_
                refine g_xiald C M Z.length zat0 k (nI_clamp (by omega)) (vp_in_nI (by omega) (by decide)) (v := (pre (mHw a b c9 d) (fun _ => 0) N) k) rfl dX12_sheet_127 ?_
                refine g_iast C M 43 37 (by decide) rfl k (nI_clamp (by omega)) (vp_in_nI (by omega) (by decide)) dX12_sheet_128 (fun H locs M => ?_)
                have M : hM E A s H locs (sA (sA σ 43 37 0 (pre (mHw a b c9 d) (hA σ 43 37 0) k)) 43 37 0 (upd (pre (mHw a b c9 d) (hA σ 43 37 0) k) k ((pre (mHw a b c9 d) (fun _ => 0) N) k))) (Z ++ [(a2, .inl (E.2.1 0, 60, .inl (pre (mHw a b c9 d) (fun _ => 0) N)))]) := M
                refine lv_iinc (v := nI (k + 1)) (lv' := [(11, .int (nI (k + 1))), (0, .ref (hO E 43)), (1, .int (nI N)), (10, .ref a2)]) C.1 C.2.1 dX12_sheet_129 hl (k := 0) rfl (nI_succ _).symm (by decide) rfl (fun ls hl => ?_)
                refine lv_goto (tgt := 111) C.1 C.2.1 dX12_sheet_132 (by decide) ?_
                have q3 : (sA (sA σ 43 37 0 (pre (mHw a b c9 d) (hA σ 43 37 0) k)) 43 37 0 (upd (pre (mHw a b c9 d) (hA σ 43 37 0) k) k ((pre (mHw a b c9 d) (fun _ => 0) N) k))) = (sA σ 43 37 0 (pre (mHw a b c9 d) (hA σ 43 37 0) (k + 1))) := by first | exact (sA_self _ _ _ _).trans (by rw [← pre_0]) | (rw [sA_sA, pre_lt hk1, pre_s])
                rw [q3] at M
                exact ih111 (k + 1) hk1 (by omega) _ _ _ M (lv_sub hl [0, 1, 2, 3] rfl)
          have q4 : 0 = nI 0 := by rfl
          have hl : lv_has ls 14 [(11, .int (nI 0)), (0, .ref (hO E 43)), (1, .int (nI N)), (10, .ref a2)] := by
            rw [← q4]
            exact lv_sub hl [0, 1, 2, 7] rfl
          have q5 : σ = (sA σ 43 37 0 (pre (mHw a b c9 d) (hA σ 43 37 0) 0)) := by first | exact (sA_self _ _ _ _).trans (by rw [← pre_0]) | (rw [sA_sA, pre_lt hk1, pre_s])
          rw [q5] at M
          exact L111 ((N - 0) + 1) 0 (Nat.zero_le _) (Nat.lt_succ_self _) _ _ _ M hl
        · skip
          have hk1 : k < N := ct_nge (n := N) (k := k) c_24
          refine lv_iload C.1 C.2.1 dX12_sheet_27 (lv_at hl 0 rfl) ?_
          refine lv_bipush (v := 16) C.1 C.2.1 dX12_sheet_29 (by decide) ?_
          have J7 : ∀ (v6 : Int64) (ev6 : v6 = (if 16 ≤ (nI k) then (if 32 ≤ (nI k) then (if 48 ≤ (nI k) then d else c9) else b) else a)) (H : Heap) (locs : List Loc) (ls : Array Slot), hM E A s H locs σ (Z ++ [(a2, .inl (E.2.1 0, 60, .inl (pre (mHw a b c9 d) (fun _ => 0) k)))]) → lv_has ls 14 [(11, .int (nI k)), (0, .ref (hO E 43)), (1, .int (nI N)), (2, .long a), (4, .long b), (6, .long c9), (8, .long d), (10, .ref a2)] → W p l e (hRm (1, 1, 60, 22)) s m [.ref (hO E 43), .int n, .long a, .long b, .long c9, .long d].toArray below meth c H locs 1 60 (MQ below (hQi E (fun r u => (∃ N, shtOk n N (mHw a b c9 d) ∧ r = 1 ∧ u = (mSht σ N (mHw a b c9 d), Z)) ∨ ((∀ N, ¬ shtOk n N (mHw a b c9 d)) ∧ r = 0 ∧ u = (σ, Z))) A) [.ref (hO E 43), .int n, .long a, .long b, .long c9, .long d].toArray s 1 60 A) (F0 m 64 ls [.long v6]) := by
            intro v6 ev6 H locs ls M hl
            subst ev6
            refine lv_lstore (lv' := [(12, .long (if 16 ≤ (nI k) then (if 32 ≤ (nI k) then (if 48 ≤ (nI k) then d else c9) else b) else a)), (11, .int (nI k)), (0, .ref (hO E 43)), (1, .int (nI N)), (2, .long a), (4, .long b), (6, .long c9), (8, .long d), (10, .ref a2)]) C.1 C.2.1 dX12_sheet_64 hl (by decide) rfl (fun ls hl => ?_)
            refine lv_aload C.1 C.2.1 dX12_sheet_66 (lv_at hl 8 rfl) ?_
            refine lv_iload C.1 C.2.1 dX12_sheet_68 (lv_at hl 1 rfl) ?_
            refine lv_lload C.1 C.2.1 dX12_sheet_70 (lv_at hl 0 rfl) ?_
            refine lv_iconst (v := 4) C.1 C.2.1 dX12_sheet_72 (by decide) ?_
            refine lv_iload C.1 C.2.1 dX12_sheet_73 (lv_at hl 1 rfl) ?_
            refine lv_bipush (v := 16) C.1 C.2.1 dX12_sheet_75 (by decide) ?_
            refine lv_irem C.1 C.2.1 dX12_sheet_77 (by decide) ?_
            refine g_rei (v := nI (k % 16)) (pk_rem (d := 16) (by omega) (by decide) (by decide)) ?_
            refine lv_imul C.1 C.2.1 dX12_sheet_78 ?_
            refine g_rei (v := nI (4 * (k % 16))) (pk_mul 4 _) ?_
            refine lv_lshr C.1 C.2.1 dX12_sheet_79 rfl ?_
            refine lv_ldc2 (v := 15) C.1 C.2.1 C.2.2.2.1 (C.2.2.2.2.1.1.use kc12_257 rfl) dX12_sheet_80 ?_
            refine lv_land C.1 C.2.1 dX12_sheet_83 ?_
            refine lv_l2i C.1 C.2.1 dX12_sheet_84 rfl ?_
            refine g_rei (v := mHw a b c9 d k) rfl ?_
            refine g_xiast C M Z.length zat0 k (nI_clamp (by omega)) (vp_in_nI (by omega) (by decide)) dX12_sheet_85 (fun H locs M => ?_)
            have M : hM E A s H locs σ (Z ++ [(a2, .inl (E.2.1 0, 60, .inl (upd (pre (mHw a b c9 d) (fun _ => 0) k) k (mHw a b c9 d k))))]) := by rw [zset0] at M; exact M
            refine lv_aload C.1 C.2.1 dX12_sheet_86 (lv_at hl 8 rfl) ?_
            refine lv_iload C.1 C.2.1 dX12_sheet_88 (lv_at hl 1 rfl) ?_
            refine g_xiald C M Z.length zat0 k (nI_clamp (by omega)) (vp_in_nI (by omega) (by decide)) (v := (mHw a b c9 d k)) pk_us dX12_sheet_90 ?_
            refine lv_iconst (v := 1) C.1 C.2.1 dX12_sheet_91 (by decide) ?_
            refine lv_bipush (v := 9) C.1 C.2.1 dX12_sheet_92 (by decide) ?_
            refine g_calli M (g_runS (As := [.int (mHw a b c9 d k), .int 1, .int 9]) (rest := []) C M (m_in l E σ (Z ++ [(a2, .inl (E.2.1 0, 60, .inl (upd (pre (mHw a b c9 d) (fun _ => 0) k) k (mHw a b c9 d k))))]) (mHw a b c9 d k) 1 9) clX12_in stX12_in lk12_131 rfl ⟨Nat.le_of_ble_eq_true rfl, Nat.le_of_ble_eq_true rfl⟩ hl.1 rfl (Nat.le_of_ble_eq_true rfl) dX12_sheet_94 ⟨Nat.le_of_ble_eq_true rfl, Nat.le_of_ble_eq_true rfl⟩) (fun r8 u H locs hR M => ?_)
            refine W.widen (k := 1) (n := 60) (Nat.le_of_ble_eq_true rfl) (Nat.le_of_ble_eq_true rfl) ?_
            obtain ⟨rfl, rfl⟩ := hR
            have M : hM E A s H locs σ (Z ++ [(a2, .inl (E.2.1 0, 60, .inl (upd (pre (mHw a b c9 d) (fun _ => 0) k) k (mHw a b c9 d k))))]) := M
            refine lv_if_ne (tgt := 102) C.1 C.2.1 dX12_sheet_97 (by decide) (fun c_97 => ?_) (fun c_97 => ?_)
            · skip
              have c_97 : inB (mHw a b c9 d k) 1 9 = true := bz_ne0.mp c_97
              refine lv_iinc (v := nI (k + 1)) (lv' := [(11, .int (nI (k + 1))), (12, .long (if 16 ≤ (nI k) then (if 32 ≤ (nI k) then (if 48 ≤ (nI k) then d else c9) else b) else a)), (0, .ref (hO E 43)), (1, .int (nI N)), (2, .long a), (4, .long b), (6, .long c9), (8, .long d), (10, .ref a2)]) C.1 C.2.1 dX12_sheet_102 hl (k := 1) rfl (nI_succ _).symm (by decide) rfl (fun ls hl => ?_)
              refine lv_goto (tgt := 21) C.1 C.2.1 dX12_sheet_105 (by decide) ?_
              have q9 : (upd (pre (mHw a b c9 d) (fun _ => 0) k) k (mHw a b c9 d k) : Nat → Int32) = pre (mHw a b c9 d) (fun _ => 0) (k + 1) := by first | exact pre_s _ _ _ | exact pre_0 _ _
              rw [q9] at M
              exact ih21 (k + 1) hk1 (fun i hi => by rcases Nat.lt_succ_iff_lt_or_eq.mp hi with h | h; exact hw i h; rw [h]; exact c_97) (by omega) _ _ _ M (lv_sub hl [0, 2, 3, 4, 5, 6, 7, 8] rfl)
            · skip
              have c_97 : ¬ inB (mHw a b c9 d k) 1 9 = true := bz_0.mp c_97
              refine lv_iconst (v := 0) C.1 C.2.1 dX12_sheet_100 (by decide) ?_
              refine g_zret rfl C M.drop hr hlk ?_ (Nat.le_of_ble_eq_true rfl) (Nat.le_of_ble_eq_true rfl) dX12_sheet_101
              exact Or.inr ⟨fun N9 hb => c_97 (hb.2.2.2 k (by have := (nI_eq (by omega) (by have := hb.2.2.1; omega)).mp (hN.symm.trans hb.1); omega)), rfl, rfl⟩
          refine lv_icmp_ge (tgt := 38) C.1 C.2.1 dX12_sheet_31 (by decide) (fun c_31 => ?_) (fun c_31 => ?_)
          · skip
            refine lv_iload C.1 C.2.1 dX12_sheet_38 (lv_at hl 0 rfl) ?_
            refine lv_bipush (v := 32) C.1 C.2.1 dX12_sheet_40 (by decide) ?_
            refine lv_icmp_ge (tgt := 50) C.1 C.2.1 dX12_sheet_42 (by decide) (fun c_42 => ?_) (fun c_42 => ?_)
            · skip
              refine lv_iload C.1 C.2.1 dX12_sheet_50 (lv_at hl 0 rfl) ?_
              refine lv_bipush (v := 48) C.1 C.2.1 dX12_sheet_52 (by decide) ?_
              refine lv_icmp_ge (tgt := 62) C.1 C.2.1 dX12_sheet_54 (by decide) (fun c_54 => ?_) (fun c_54 => ?_)
              · skip
                refine lv_lload C.1 C.2.1 dX12_sheet_62 (lv_at hl 6 rfl) ?_
                exact J7 _ (by first | (simp only [c_31, c_42, c_54, not_false_eq_true, not_true_eq_false, and_self, and_true, true_and, and_false, false_and, or_true, true_or, or_false, false_or, Bool.false_eq_true, if_true, if_false, ↓reduceIte]; done) | simp [c_31, c_42, c_54]) _ _ _ M (lv_sub hl [0, 1, 2, 3, 4, 5, 6, 7] rfl)
              · skip
                refine lv_lload C.1 C.2.1 dX12_sheet_57 (lv_at hl 5 rfl) ?_
                refine lv_goto (tgt := 64) C.1 C.2.1 dX12_sheet_59 (by decide) ?_
                exact J7 _ (by first | (simp only [c_31, c_42, c_54, not_false_eq_true, not_true_eq_false, and_self, and_true, true_and, and_false, false_and, or_true, true_or, or_false, false_or, Bool.false_eq_true, if_true, if_false, ↓reduceIte]; done) | simp [c_31, c_42, c_54]) _ _ _ M (lv_sub hl [0, 1, 2, 3, 4, 5, 6, 7] rfl)
            · skip
              refine lv_lload C.1 C.2.1 dX12_sheet_45 (lv_at hl 4 rfl) ?_
              refine lv_goto (tgt := 64) C.1 C.2.1 dX12_sheet_47 (by decide) ?_
              exact J7 _ (by first | (simp only [c_31, c_42, not_false_eq_true, not_true_eq_false, and_self, and_true, true_and, and_false, false_and, or_true, true_or, or_false, false_or, Bool.false_eq_true, if_true, if_false, ↓reduceIte]; done) | simp [c_31, c_42]) _ _ _ M (lv_sub hl [0, 1, 2, 3, 4, 5, 6, 7] rfl)
          · skip
            refine lv_lload_n C.1 C.2.1 dX12_sheet_34 rfl (lv_at hl 3 rfl) ?_
            refine lv_goto (tgt := 64) C.1 C.2.1 dX12_sheet_35 (by decide) ?_
            exact J7 _ (by first | (simp only [c_31, not_false_eq_true, not_true_eq_false, and_self, and_true, true_and, and_false, false_and, or_true, true_or, or_false, false_or, Bool.false_eq_true, if_true, if_false, ↓reduceIte]; done) | simp [c_31]) _ _ _ M (lv_sub hl [0, 1, 2, 3, 4, 5, 6, 7] rfl)
    have q10 : 0 = nI 0 := by rfl
    have hl : lv_has ls 14 [(11, .int (nI 0)), (0, .ref (hO E 43)), (1, .int (nI N)), (2, .long a), (4, .long b), (6, .long c9), (8, .long d), (10, .ref a2)] := by
      rw [← q10]
      exact lv_sub hl [0, 2, 3, 4, 5, 6, 7, 1] rfl
    have q11 : (fun _ => 0 : Nat → Int32) = pre (mHw a b c9 d) (fun _ => 0) 0 := by first | exact pre_s _ _ _ | exact pre_0 _ _
    rw [q11] at M
    exact L21 ((N - 0) + 1) 0 (Nat.zero_le _) (fun i hi => absurd hi (Nat.not_lt_zero _)) (Nat.lt_succ_self _) _ _ _ M hl
  · skip
    have c_7 : ¬ inB n 1 60 = true := bz_0.mp c_7
    refine lv_iconst (v := 0) C.1 C.2.1 dX12_sheet_10 (by decide) ?_
    refine g_zret rfl C M hr hlk ?_ (Nat.le_of_ble_eq_true rfl) (Nat.le_of_ble_eq_true rfl) dX12_sheet_11
    exact Or.inr ⟨fun N9 hb => c_7 (by rw [hb.1]; exact in_of hb.2.1 hb.2.2.1), rfl, rfl⟩
