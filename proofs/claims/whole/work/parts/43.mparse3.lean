set_option maxHeartbeats 4000000 in
set_option maxRecDepth 100000 in
theorem m_number (l : Launch) (E : hEnv) (σ : hMem) (Z : va_W) (x0 q : Nat) (L : Nat → Int32) (n : Nat) (hn : hI σ 43 31 = nI n) (hn3 : n ≤ 300) (hp : x0 ≤ n) (g : Int32) (hg : ¬ inB 1000000 0 g = true) : hMet l yX12_number cX12_number 4 (some .int) (1, 0, 0, 22) E (pM σ x0 q 0 L) Z [.ref (hO E 43), .int 0, .int g] (hQi E (fun r u => ∃ b a ft, u = (pM σ b a ft L, Z) ∧ nRel (hA σ 43 30 0) n x0 g b ft r)) := by
  refine hMet.of (by decide) (Nat.le_of_ble_eq_true rfl) (fun p e s m below meth c A ls C M hr hlk hl => ?_)
  have hl : lv_has ls 4 [(0, .ref (hO E 43)), (1, .int 0), (2, .int g)] := hl
  generalize s.heap = H at M ⊢
  generalize ([] : List Loc) = locs at M ⊢
  refine lv_aload_n C.1 C.2.1 dX12_number_0 rfl (lv_at hl 0 rfl) ?_
  refine g_getI C M 43 34 (by decide) rfl rfl (by decide) fl12_173 (v := 0) rfl dX12_number_1 ?_
  refine lv_if_le (tgt := 9) C.1 C.2.1 dX12_number_4 (by decide) (fun _ => ?_) (fun h9 => absurd h9 (by decide))
  refine lv_aload_n C.1 C.2.1 dX12_number_9 rfl (lv_at hl 0 rfl) ?_
  refine g_calli M (g_runV (As := []) (rest := []) C M 43 (m_isEnd l E σ Z x0 q 0 L n hn hn3 hp) clX12_isEnd ivX12_isEnd lk12_182 (by decide) rfl rfl ⟨Nat.le_of_ble_eq_true rfl, Nat.le_of_ble_eq_true rfl⟩ hl.1 rfl (Nat.le_of_ble_eq_true rfl) dX12_number_10 ⟨Nat.le_of_ble_eq_true rfl, Nat.le_of_ble_eq_true rfl⟩) (fun r1 u H locs hR M => ?_)
  refine W.widen (k := 0) (n := 0) (Nat.le_of_ble_eq_true rfl) (Nat.le_of_ble_eq_true rfl) ?_
  obtain ⟨rfl, rfl⟩ := hR
  have M : hM E A s H locs (pM σ (sk (hA σ 43 30 0) n x0) (sk (hA σ 43 30 0) n x0) 0 L) Z := M
  refine lv_pop C.1 C.2.1 dX12_number_13 rfl ?_
  refine lv_iconst (v := 0) C.1 C.2.1 dX12_number_14 (by decide) ?_
  refine lv_istore_n (lv' := [(3, .int 0), (0, .ref (hO E 43)), (1, .int 0), (2, .int g)]) C.1 C.2.1 dX12_number_15 rfl hl (by decide) rfl (fun ls hl => ?_)
  have L16 : ∀ (n9 : Nat) (k : Nat), ((sk (hA σ 43 30 0) n x0) + k ≤ n) → (dg (hA σ 43 30 0) n ((sk (hA σ 43 30 0) n x0) + k) = dg (hA σ 43 30 0) n (sk (hA σ 43 30 0) n x0)) → n - ((sk (hA σ 43 30 0) n x0) + k) < n9 → ∀ (H : Heap) (locs : List Loc) (ls : Array Slot), hM E A s H locs (pM σ ((sk (hA σ 43 30 0) n x0) + k) (sk (hA σ 43 30 0) n x0) 0 L) Z → lv_has ls 4 [(3, .int (mV (hA σ 43 30 0) (sk (hA σ 43 30 0) n x0) k)), (0, .ref (hO E 43)), (1, .int 0), (2, .int g)] → W p l e (hRm (1, 0, 0, 22)) s m [.ref (hO E 43), .int 0, .int g].toArray below meth c H locs 0 0 (MQ below (hQi E (fun r u => ∃ b a ft, u = (pM σ b a ft L, Z) ∧ nRel (hA σ 43 30 0) n x0 g b ft r) A) [.ref (hO E 43), .int 0, .int g].toArray s 0 0 A) (F0 m 16 ls []) := by
    intro n9
    induction n9 with
    | zero =>
      intro k hk hs hn9
      exact absurd hn9 (Nat.not_lt_zero _)
    | succ n9 ih16 =>
      intro k hk hs hn16 H locs ls M hl
      refine lv_aload_n C.1 C.2.1 dX12_number_16 rfl (lv_at hl 1 rfl) ?_
      refine g_getI C M 43 32 (by decide) rfl rfl (by decide) fl12_176 (v := nI ((sk (hA σ 43 30 0) n x0) + k)) rfl dX12_number_17 ?_
      refine lv_aload_n C.1 C.2.1 dX12_number_20 rfl (lv_at hl 1 rfl) ?_
      refine g_getI C M 43 31 (by decide) rfl rfl (by decide) fl12_166 (v := nI n) hn dX12_number_21 ?_
      refine lv_icmp_ge (tgt := 104) C.1 C.2.1 dX12_number_24 (by decide) (fun c_24 => ?_) (fun c_24 => ?_)
      · skip
        have hxn : n ≤ (sk (hA σ 43 30 0) n x0) + k := ct_ge c_24
        refine lv_aload_n C.1 C.2.1 dX12_number_104 rfl (lv_at hl 1 rfl) ?_
        refine g_getI C M 43 32 (by decide) rfl rfl (by decide) fl12_176 (v := nI ((sk (hA σ 43 30 0) n x0) + k)) rfl dX12_number_105 ?_
        refine lv_aload_n C.1 C.2.1 dX12_number_108 rfl (lv_at hl 1 rfl) ?_
        refine g_getI C M 43 33 (by decide) rfl rfl (by decide) fl12_179 (v := nI (sk (hA σ 43 30 0) n x0)) rfl dX12_number_109 ?_
        refine lv_icmp_ne (tgt := 127) C.1 C.2.1 dX12_number_112 (by decide) (fun c_112 => ?_) (fun c_112 => ?_)
        · skip
          refine lv_iload_n C.1 C.2.1 dX12_number_127 rfl (lv_at hl 0 rfl) ?_
          refine lv_iload_n C.1 C.2.1 dX12_number_128 rfl (lv_at hl 2 rfl) ?_
          refine lv_iload_n C.1 C.2.1 dX12_number_129 rfl (lv_at hl 3 rfl) ?_
          refine g_calli M (g_runS (As := [.int (mV (hA σ 43 30 0) (sk (hA σ 43 30 0) n x0) k), .int 0, .int g]) (rest := []) C M (m_in l E (pM σ ((sk (hA σ 43 30 0) n x0) + k) (sk (hA σ 43 30 0) n x0) 0 L) Z (mV (hA σ 43 30 0) (sk (hA σ 43 30 0) n x0) k) 0 g) clX12_in stX12_in lk12_131 rfl ⟨Nat.le_of_ble_eq_true rfl, Nat.le_of_ble_eq_true rfl⟩ hl.1 rfl (Nat.le_of_ble_eq_true rfl) dX12_number_130 ⟨Nat.le_of_ble_eq_true rfl, Nat.le_of_ble_eq_true rfl⟩) (fun r2 u H locs hR M => ?_)
          refine W.widen (k := 0) (n := 0) (Nat.le_of_ble_eq_true rfl) (Nat.le_of_ble_eq_true rfl) ?_
          obtain ⟨rfl, rfl⟩ := hR
          have M : hM E A s H locs (pM σ ((sk (hA σ 43 30 0) n x0) + k) (sk (hA σ 43 30 0) n x0) 0 L) Z := M
          refine lv_if_ne (tgt := 145) C.1 C.2.1 dX12_number_133 (by decide) (fun c_133 => ?_) (fun c_133 => ?_)
          · skip
            have c_133 : inB (mV (hA σ 43 30 0) (sk (hA σ 43 30 0) n x0) k) 0 g = true := bz_ne0.mp c_133
            refine lv_iload_n C.1 C.2.1 dX12_number_145 rfl (lv_at hl 0 rfl) ?_
            refine g_iret C M hr hlk ?_ (Nat.le_of_ble_eq_true rfl) (Nat.le_of_ble_eq_true rfl) dX12_number_146
            have hd : dg (hA σ 43 30 0) n (sk (hA σ 43 30 0) n x0) = (sk (hA σ 43 30 0) n x0) + k := hs.symm.trans (scn_n hxn); exact ⟨_, _, _, rfl, nRel_c hg hn3 hk hd c_112 c_133⟩
          · skip
            have c_133 : ¬ inB (mV (hA σ 43 30 0) (sk (hA σ 43 30 0) n x0) k) 0 g = true := bz_0.mp c_133
            refine lv_aload_n C.1 C.2.1 dX12_number_136 rfl (lv_at hl 1 rfl) ?_
            refine lv_iconst (v := 2) C.1 C.2.1 dX12_number_137 (by decide) ?_
            refine lv_aload_n C.1 C.2.1 dX12_number_138 rfl (lv_at hl 1 rfl) ?_
            refine g_getI C M 43 33 (by decide) rfl rfl (by decide) fl12_179 (v := nI (sk (hA σ 43 30 0) n x0)) rfl dX12_number_139 ?_
            refine g_callv M (g_runV (As := [.int 2, .int (nI (sk (hA σ 43 30 0) n x0))]) (rest := []) C M 43 (m_fails l E (pM σ ((sk (hA σ 43 30 0) n x0) + k) (sk (hA σ 43 30 0) n x0) 0 L) Z 2 (nI (sk (hA σ 43 30 0) n x0))) clX12_fails ivX12_fails lk12_185 (by decide) rfl rfl ⟨Nat.le_of_ble_eq_true rfl, Nat.le_of_ble_eq_true rfl⟩ hl.1 rfl (Nat.le_of_ble_eq_true rfl) dX12_number_142 ⟨Nat.le_of_ble_eq_true rfl, Nat.le_of_ble_eq_true rfl⟩) (fun u H locs hR M => ?_)
            refine W.widen (k := 0) (n := 0) (Nat.le_of_ble_eq_true rfl) (Nat.le_of_ble_eq_true rfl) ?_
            rw [pM_fail, ftl_0] at hR
            subst hR
            have M : hM E A s H locs (pM σ ((sk (hA σ 43 30 0) n x0) + k) (sk (hA σ 43 30 0) n x0) (2 + 4 * (nI (sk (hA σ 43 30 0) n x0))) L) Z := M
            refine lv_iload_n C.1 C.2.1 dX12_number_145 rfl (lv_at hl 0 rfl) ?_
            refine g_iret C M hr hlk ?_ (Nat.le_of_ble_eq_true rfl) (Nat.le_of_ble_eq_true rfl) dX12_number_146
            have hd : dg (hA σ 43 30 0) n (sk (hA σ 43 30 0) n x0) = (sk (hA σ 43 30 0) n x0) + k := hs.symm.trans (scn_n hxn); exact ⟨_, _, _, rfl, nRel_b hg hn3 hk hd c_112 c_133⟩
        · skip
          refine lv_aload_n C.1 C.2.1 dX12_number_115 rfl (lv_at hl 1 rfl) ?_
          refine lv_iconst (v := 1) C.1 C.2.1 dX12_number_116 (by decide) ?_
          refine lv_aload_n C.1 C.2.1 dX12_number_117 rfl (lv_at hl 1 rfl) ?_
          refine g_getI C M 43 33 (by decide) rfl rfl (by decide) fl12_179 (v := nI (sk (hA σ 43 30 0) n x0)) rfl dX12_number_118 ?_
          refine g_callv M (g_runV (As := [.int 1, .int (nI (sk (hA σ 43 30 0) n x0))]) (rest := []) C M 43 (m_fails l E (pM σ ((sk (hA σ 43 30 0) n x0) + k) (sk (hA σ 43 30 0) n x0) 0 L) Z 1 (nI (sk (hA σ 43 30 0) n x0))) clX12_fails ivX12_fails lk12_185 (by decide) rfl rfl ⟨Nat.le_of_ble_eq_true rfl, Nat.le_of_ble_eq_true rfl⟩ hl.1 rfl (Nat.le_of_ble_eq_true rfl) dX12_number_121 ⟨Nat.le_of_ble_eq_true rfl, Nat.le_of_ble_eq_true rfl⟩) (fun u H locs hR M => ?_)
          refine W.widen (k := 0) (n := 0) (Nat.le_of_ble_eq_true rfl) (Nat.le_of_ble_eq_true rfl) ?_
          rw [pM_fail, ftl_0] at hR
          subst hR
          have M : hM E A s H locs (pM σ ((sk (hA σ 43 30 0) n x0) + k) (sk (hA σ 43 30 0) n x0) (1 + 4 * (nI (sk (hA σ 43 30 0) n x0))) L) Z := M
          refine lv_goto (tgt := 145) C.1 C.2.1 dX12_number_124 (by decide) ?_
          refine lv_iload_n C.1 C.2.1 dX12_number_145 rfl (lv_at hl 0 rfl) ?_
          refine g_iret C M hr hlk ?_ (Nat.le_of_ble_eq_true rfl) (Nat.le_of_ble_eq_true rfl) dX12_number_146
          have hd : dg (hA σ 43 30 0) n (sk (hA σ 43 30 0) n x0) = (sk (hA σ 43 30 0) n x0) + k := hs.symm.trans (scn_n hxn); exact ⟨_, _, _, rfl, nRel_a hn3 hk hd c_112⟩
      · skip
        have hxn : (sk (hA σ 43 30 0) n x0) + k < n := ct_nge c_24
        refine lv_aload_n C.1 C.2.1 dX12_number_27 rfl (lv_at hl 1 rfl) ?_
        refine g_getA C M 43 30 (by decide) rfl rfl (by decide) fl12_81 dX12_number_28 ?_
        refine lv_aload_n C.1 C.2.1 dX12_number_31 rfl (lv_at hl 1 rfl) ?_
        refine g_getI C M 43 32 (by decide) rfl rfl (by decide) fl12_176 (v := nI ((sk (hA σ 43 30 0) n x0) + k)) rfl dX12_number_32 ?_
        refine g_bald C M 43 30 (by decide) rfl ((sk (hA σ 43 30 0) n x0) + k) (nI_clamp (by omega)) (vp_in_nI (by omega) (by decide)) (v := hA σ 43 30 0 ((sk (hA σ 43 30 0) n x0) + k)) rfl dX12_number_35 ?_
        refine lv_bipush (v := 48) C.1 C.2.1 dX12_number_36 (by decide) ?_
        refine lv_icmp_lt (tgt := 104) C.1 C.2.1 dX12_number_38 (by decide) (fun c_38 => ?_) (fun c_38 => ?_)
        · skip
          refine lv_aload_n C.1 C.2.1 dX12_number_104 rfl (lv_at hl 1 rfl) ?_
          refine g_getI C M 43 32 (by decide) rfl rfl (by decide) fl12_176 (v := nI ((sk (hA σ 43 30 0) n x0) + k)) rfl dX12_number_105 ?_
          refine lv_aload_n C.1 C.2.1 dX12_number_108 rfl (lv_at hl 1 rfl) ?_
          refine g_getI C M 43 33 (by decide) rfl rfl (by decide) fl12_179 (v := nI (sk (hA σ 43 30 0) n x0)) rfl dX12_number_109 ?_
          refine lv_icmp_ne (tgt := 127) C.1 C.2.1 dX12_number_112 (by decide) (fun c_112 => ?_) (fun c_112 => ?_)
          · skip
            refine lv_iload_n C.1 C.2.1 dX12_number_127 rfl (lv_at hl 0 rfl) ?_
            refine lv_iload_n C.1 C.2.1 dX12_number_128 rfl (lv_at hl 2 rfl) ?_
            refine lv_iload_n C.1 C.2.1 dX12_number_129 rfl (lv_at hl 3 rfl) ?_
            refine g_calli M (g_runS (As := [.int (mV (hA σ 43 30 0) (sk (hA σ 43 30 0) n x0) k), .int 0, .int g]) (rest := []) C M (m_in l E (pM σ ((sk (hA σ 43 30 0) n x0) + k) (sk (hA σ 43 30 0) n x0) 0 L) Z (mV (hA σ 43 30 0) (sk (hA σ 43 30 0) n x0) k) 0 g) clX12_in stX12_in lk12_131 rfl ⟨Nat.le_of_ble_eq_true rfl, Nat.le_of_ble_eq_true rfl⟩ hl.1 rfl (Nat.le_of_ble_eq_true rfl) dX12_number_130 ⟨Nat.le_of_ble_eq_true rfl, Nat.le_of_ble_eq_true rfl⟩) (fun r3 u H locs hR M => ?_)
            refine W.widen (k := 0) (n := 0) (Nat.le_of_ble_eq_true rfl) (Nat.le_of_ble_eq_true rfl) ?_
            obtain ⟨rfl, rfl⟩ := hR
            have M : hM E A s H locs (pM σ ((sk (hA σ 43 30 0) n x0) + k) (sk (hA σ 43 30 0) n x0) 0 L) Z := M
            refine lv_if_ne (tgt := 145) C.1 C.2.1 dX12_number_133 (by decide) (fun c_133 => ?_) (fun c_133 => ?_)
            · skip
              have c_133 : inB (mV (hA σ 43 30 0) (sk (hA σ 43 30 0) n x0) k) 0 g = true := bz_ne0.mp c_133
              refine lv_iload_n C.1 C.2.1 dX12_number_145 rfl (lv_at hl 0 rfl) ?_
              refine g_iret C M hr hlk ?_ (Nat.le_of_ble_eq_true rfl) (Nat.le_of_ble_eq_true rfl) dX12_number_146
              have hd : dg (hA σ 43 30 0) n (sk (hA σ 43 30 0) n x0) = (sk (hA σ 43 30 0) n x0) + k := hs.symm.trans (scn_x (P := fun c => inB c 48 57) (fun h9 => (inB_iff.mp h9).1 c_38)); exact ⟨_, _, _, rfl, nRel_c hg hn3 hk hd c_112 c_133⟩
            · skip
              have c_133 : ¬ inB (mV (hA σ 43 30 0) (sk (hA σ 43 30 0) n x0) k) 0 g = true := bz_0.mp c_133
              refine lv_aload_n C.1 C.2.1 dX12_number_136 rfl (lv_at hl 1 rfl) ?_
              refine lv_iconst (v := 2) C.1 C.2.1 dX12_number_137 (by decide) ?_
              refine lv_aload_n C.1 C.2.1 dX12_number_138 rfl (lv_at hl 1 rfl) ?_
              refine g_getI C M 43 33 (by decide) rfl rfl (by decide) fl12_179 (v := nI (sk (hA σ 43 30 0) n x0)) rfl dX12_number_139 ?_
              refine g_callv M (g_runV (As := [.int 2, .int (nI (sk (hA σ 43 30 0) n x0))]) (rest := []) C M 43 (m_fails l E (pM σ ((sk (hA σ 43 30 0) n x0) + k) (sk (hA σ 43 30 0) n x0) 0 L) Z 2 (nI (sk (hA σ 43 30 0) n x0))) clX12_fails ivX12_fails lk12_185 (by decide) rfl rfl ⟨Nat.le_of_ble_eq_true rfl, Nat.le_of_ble_eq_true rfl⟩ hl.1 rfl (Nat.le_of_ble_eq_true rfl) dX12_number_142 ⟨Nat.le_of_ble_eq_true rfl, Nat.le_of_ble_eq_true rfl⟩) (fun u H locs hR M => ?_)
              refine W.widen (k := 0) (n := 0) (Nat.le_of_ble_eq_true rfl) (Nat.le_of_ble_eq_true rfl) ?_
              rw [pM_fail, ftl_0] at hR
              subst hR
              have M : hM E A s H locs (pM σ ((sk (hA σ 43 30 0) n x0) + k) (sk (hA σ 43 30 0) n x0) (2 + 4 * (nI (sk (hA σ 43 30 0) n x0))) L) Z := M
              refine lv_iload_n C.1 C.2.1 dX12_number_145 rfl (lv_at hl 0 rfl) ?_
              refine g_iret C M hr hlk ?_ (Nat.le_of_ble_eq_true rfl) (Nat.le_of_ble_eq_true rfl) dX12_number_146
              have hd : dg (hA σ 43 30 0) n (sk (hA σ 43 30 0) n x0) = (sk (hA σ 43 30 0) n x0) + k := hs.symm.trans (scn_x (P := fun c => inB c 48 57) (fun h9 => (inB_iff.mp h9).1 c_38)); exact ⟨_, _, _, rfl, nRel_b hg hn3 hk hd c_112 c_133⟩
          · skip
            refine lv_aload_n C.1 C.2.1 dX12_number_115 rfl (lv_at hl 1 rfl) ?_
            refine lv_iconst (v := 1) C.1 C.2.1 dX12_number_116 (by decide) ?_
            refine lv_aload_n C.1 C.2.1 dX12_number_117 rfl (lv_at hl 1 rfl) ?_
            refine g_getI C M 43 33 (by decide) rfl rfl (by decide) fl12_179 (v := nI (sk (hA σ 43 30 0) n x0)) rfl dX12_number_118 ?_
            refine g_callv M (g_runV (As := [.int 1, .int (nI (sk (hA σ 43 30 0) n x0))]) (rest := []) C M 43 (m_fails l E (pM σ ((sk (hA σ 43 30 0) n x0) + k) (sk (hA σ 43 30 0) n x0) 0 L) Z 1 (nI (sk (hA σ 43 30 0) n x0))) clX12_fails ivX12_fails lk12_185 (by decide) rfl rfl ⟨Nat.le_of_ble_eq_true rfl, Nat.le_of_ble_eq_true rfl⟩ hl.1 rfl (Nat.le_of_ble_eq_true rfl) dX12_number_121 ⟨Nat.le_of_ble_eq_true rfl, Nat.le_of_ble_eq_true rfl⟩) (fun u H locs hR M => ?_)
            refine W.widen (k := 0) (n := 0) (Nat.le_of_ble_eq_true rfl) (Nat.le_of_ble_eq_true rfl) ?_
            rw [pM_fail, ftl_0] at hR
            subst hR
            have M : hM E A s H locs (pM σ ((sk (hA σ 43 30 0) n x0) + k) (sk (hA σ 43 30 0) n x0) (1 + 4 * (nI (sk (hA σ 43 30 0) n x0))) L) Z := M
            refine lv_goto (tgt := 145) C.1 C.2.1 dX12_number_124 (by decide) ?_
            refine lv_iload_n C.1 C.2.1 dX12_number_145 rfl (lv_at hl 0 rfl) ?_
            refine g_iret C M hr hlk ?_ (Nat.le_of_ble_eq_true rfl) (Nat.le_of_ble_eq_true rfl) dX12_number_146
            have hd : dg (hA σ 43 30 0) n (sk (hA σ 43 30 0) n x0) = (sk (hA σ 43 30 0) n x0) + k := hs.symm.trans (scn_x (P := fun c => inB c 48 57) (fun h9 => (inB_iff.mp h9).1 c_38)); exact ⟨_, _, _, rfl, nRel_a hn3 hk hd c_112⟩
        · skip
          refine lv_aload_n C.1 C.2.1 dX12_number_41 rfl (lv_at hl 1 rfl) ?_
          refine g_getA C M 43 30 (by decide) rfl rfl (by decide) fl12_81 dX12_number_42 ?_
          refine lv_aload_n C.1 C.2.1 dX12_number_45 rfl (lv_at hl 1 rfl) ?_
          refine g_getI C M 43 32 (by decide) rfl rfl (by decide) fl12_176 (v := nI ((sk (hA σ 43 30 0) n x0) + k)) rfl dX12_number_46 ?_
          refine g_bald C M 43 30 (by decide) rfl ((sk (hA σ 43 30 0) n x0) + k) (nI_clamp (by omega)) (vp_in_nI (by omega) (by decide)) (v := hA σ 43 30 0 ((sk (hA σ 43 30 0) n x0) + k)) rfl dX12_number_49 ?_
          refine lv_bipush (v := 57) C.1 C.2.1 dX12_number_50 (by decide) ?_
          refine lv_icmp_gt (tgt := 104) C.1 C.2.1 dX12_number_52 (by decide) (fun c_52 => ?_) (fun c_52 => ?_)
          · skip
            refine lv_aload_n C.1 C.2.1 dX12_number_104 rfl (lv_at hl 1 rfl) ?_
            refine g_getI C M 43 32 (by decide) rfl rfl (by decide) fl12_176 (v := nI ((sk (hA σ 43 30 0) n x0) + k)) rfl dX12_number_105 ?_
            refine lv_aload_n C.1 C.2.1 dX12_number_108 rfl (lv_at hl 1 rfl) ?_
            refine g_getI C M 43 33 (by decide) rfl rfl (by decide) fl12_179 (v := nI (sk (hA σ 43 30 0) n x0)) rfl dX12_number_109 ?_
            refine lv_icmp_ne (tgt := 127) C.1 C.2.1 dX12_number_112 (by decide) (fun c_112 => ?_) (fun c_112 => ?_)
            · skip
              refine lv_iload_n C.1 C.2.1 dX12_number_127 rfl (lv_at hl 0 rfl) ?_
              refine lv_iload_n C.1 C.2.1 dX12_number_128 rfl (lv_at hl 2 rfl) ?_
              refine lv_iload_n C.1 C.2.1 dX12_number_129 rfl (lv_at hl 3 rfl) ?_
              refine g_calli M (g_runS (As := [.int (mV (hA σ 43 30 0) (sk (hA σ 43 30 0) n x0) k), .int 0, .int g]) (rest := []) C M (m_in l E (pM σ ((sk (hA σ 43 30 0) n x0) + k) (sk (hA σ 43 30 0) n x0) 0 L) Z (mV (hA σ 43 30 0) (sk (hA σ 43 30 0) n x0) k) 0 g) clX12_in stX12_in lk12_131 rfl ⟨Nat.le_of_ble_eq_true rfl, Nat.le_of_ble_eq_true rfl⟩ hl.1 rfl (Nat.le_of_ble_eq_true rfl) dX12_number_130 ⟨Nat.le_of_ble_eq_true rfl, Nat.le_of_ble_eq_true rfl⟩) (fun r4 u H locs hR M => ?_)
              refine W.widen (k := 0) (n := 0) (Nat.le_of_ble_eq_true rfl) (Nat.le_of_ble_eq_true rfl) ?_
              obtain ⟨rfl, rfl⟩ := hR
              have M : hM E A s H locs (pM σ ((sk (hA σ 43 30 0) n x0) + k) (sk (hA σ 43 30 0) n x0) 0 L) Z := M
              refine lv_if_ne (tgt := 145) C.1 C.2.1 dX12_number_133 (by decide) (fun c_133 => ?_) (fun c_133 => ?_)
              · skip
                have c_133 : inB (mV (hA σ 43 30 0) (sk (hA σ 43 30 0) n x0) k) 0 g = true := bz_ne0.mp c_133
                refine lv_iload_n C.1 C.2.1 dX12_number_145 rfl (lv_at hl 0 rfl) ?_
                refine g_iret C M hr hlk ?_ (Nat.le_of_ble_eq_true rfl) (Nat.le_of_ble_eq_true rfl) dX12_number_146
                have hd : dg (hA σ 43 30 0) n (sk (hA σ 43 30 0) n x0) = (sk (hA σ 43 30 0) n x0) + k := hs.symm.trans (scn_x (P := fun c => inB c 48 57) (fun h9 => (inB_iff.mp h9).2 c_52)); exact ⟨_, _, _, rfl, nRel_c hg hn3 hk hd c_112 c_133⟩
              · skip
                have c_133 : ¬ inB (mV (hA σ 43 30 0) (sk (hA σ 43 30 0) n x0) k) 0 g = true := bz_0.mp c_133
                refine lv_aload_n C.1 C.2.1 dX12_number_136 rfl (lv_at hl 1 rfl) ?_
                refine lv_iconst (v := 2) C.1 C.2.1 dX12_number_137 (by decide) ?_
                refine lv_aload_n C.1 C.2.1 dX12_number_138 rfl (lv_at hl 1 rfl) ?_
                refine g_getI C M 43 33 (by decide) rfl rfl (by decide) fl12_179 (v := nI (sk (hA σ 43 30 0) n x0)) rfl dX12_number_139 ?_
                refine g_callv M (g_runV (As := [.int 2, .int (nI (sk (hA σ 43 30 0) n x0))]) (rest := []) C M 43 (m_fails l E (pM σ ((sk (hA σ 43 30 0) n x0) + k) (sk (hA σ 43 30 0) n x0) 0 L) Z 2 (nI (sk (hA σ 43 30 0) n x0))) clX12_fails ivX12_fails lk12_185 (by decide) rfl rfl ⟨Nat.le_of_ble_eq_true rfl, Nat.le_of_ble_eq_true rfl⟩ hl.1 rfl (Nat.le_of_ble_eq_true rfl) dX12_number_142 ⟨Nat.le_of_ble_eq_true rfl, Nat.le_of_ble_eq_true rfl⟩) (fun u H locs hR M => ?_)
                refine W.widen (k := 0) (n := 0) (Nat.le_of_ble_eq_true rfl) (Nat.le_of_ble_eq_true rfl) ?_
                rw [pM_fail, ftl_0] at hR
                subst hR
                have M : hM E A s H locs (pM σ ((sk (hA σ 43 30 0) n x0) + k) (sk (hA σ 43 30 0) n x0) (2 + 4 * (nI (sk (hA σ 43 30 0) n x0))) L) Z := M
                refine lv_iload_n C.1 C.2.1 dX12_number_145 rfl (lv_at hl 0 rfl) ?_
                refine g_iret C M hr hlk ?_ (Nat.le_of_ble_eq_true rfl) (Nat.le_of_ble_eq_true rfl) dX12_number_146
                have hd : dg (hA σ 43 30 0) n (sk (hA σ 43 30 0) n x0) = (sk (hA σ 43 30 0) n x0) + k := hs.symm.trans (scn_x (P := fun c => inB c 48 57) (fun h9 => (inB_iff.mp h9).2 c_52)); exact ⟨_, _, _, rfl, nRel_b hg hn3 hk hd c_112 c_133⟩
            · skip
              refine lv_aload_n C.1 C.2.1 dX12_number_115 rfl (lv_at hl 1 rfl) ?_
              refine lv_iconst (v := 1) C.1 C.2.1 dX12_number_116 (by decide) ?_
              refine lv_aload_n C.1 C.2.1 dX12_number_117 rfl (lv_at hl 1 rfl) ?_
              refine g_getI C M 43 33 (by decide) rfl rfl (by decide) fl12_179 (v := nI (sk (hA σ 43 30 0) n x0)) rfl dX12_number_118 ?_
              refine g_callv M (g_runV (As := [.int 1, .int (nI (sk (hA σ 43 30 0) n x0))]) (rest := []) C M 43 (m_fails l E (pM σ ((sk (hA σ 43 30 0) n x0) + k) (sk (hA σ 43 30 0) n x0) 0 L) Z 1 (nI (sk (hA σ 43 30 0) n x0))) clX12_fails ivX12_fails lk12_185 (by decide) rfl rfl ⟨Nat.le_of_ble_eq_true rfl, Nat.le_of_ble_eq_true rfl⟩ hl.1 rfl (Nat.le_of_ble_eq_true rfl) dX12_number_121 ⟨Nat.le_of_ble_eq_true rfl, Nat.le_of_ble_eq_true rfl⟩) (fun u H locs hR M => ?_)
              refine W.widen (k := 0) (n := 0) (Nat.le_of_ble_eq_true rfl) (Nat.le_of_ble_eq_true rfl) ?_
              rw [pM_fail, ftl_0] at hR
              subst hR
              have M : hM E A s H locs (pM σ ((sk (hA σ 43 30 0) n x0) + k) (sk (hA σ 43 30 0) n x0) (1 + 4 * (nI (sk (hA σ 43 30 0) n x0))) L) Z := M
              refine lv_goto (tgt := 145) C.1 C.2.1 dX12_number_124 (by decide) ?_
              refine lv_iload_n C.1 C.2.1 dX12_number_145 rfl (lv_at hl 0 rfl) ?_
              refine g_iret C M hr hlk ?_ (Nat.le_of_ble_eq_true rfl) (Nat.le_of_ble_eq_true rfl) dX12_number_146
              have hd : dg (hA σ 43 30 0) n (sk (hA σ 43 30 0) n x0) = (sk (hA σ 43 30 0) n x0) + k := hs.symm.trans (scn_x (P := fun c => inB c 48 57) (fun h9 => (inB_iff.mp h9).2 c_52)); exact ⟨_, _, _, rfl, nRel_a hn3 hk hd c_112⟩
          · skip
            refine lv_aload_n C.1 C.2.1 dX12_number_55 rfl (lv_at hl 1 rfl) ?_
            refine g_getI C M 43 32 (by decide) rfl rfl (by decide) fl12_176 (v := nI ((sk (hA σ 43 30 0) n x0) + k)) rfl dX12_number_56 ?_
            refine lv_aload_n C.1 C.2.1 dX12_number_59 rfl (lv_at hl 1 rfl) ?_
            refine g_getI C M 43 33 (by decide) rfl rfl (by decide) fl12_179 (v := nI (sk (hA σ 43 30 0) n x0)) rfl dX12_number_60 ?_
            refine lv_isub C.1 C.2.1 dX12_number_63 ?_
            refine g_rei (v := nI k) (nI_subS _ _) ?_
            refine lv_iconst (v := 4) C.1 C.2.1 dX12_number_64 (by decide) ?_
            refine lv_icmp_ge (tgt := 88) C.1 C.2.1 dX12_number_65 (by decide) (fun c_65 => ?_) (fun c_65 => ?_)
            · skip
              have hk4 : ¬ k < 4 := by have := (nI_le9 (a := 4) (c := k) (by omega) (by omega)).mp c_65; omega
              refine lv_ldc (v := 1000000) C.1 C.2.1 C.2.2.2.1 (C.2.2.2.2.1.1.use kc12_155 rfl) dX12_number_88 ?_
              refine lv_istore_n (lv' := [(3, .int 1000000), (0, .ref (hO E 43)), (1, .int 0), (2, .int g)]) C.1 C.2.1 dX12_number_90 rfl hl (by decide) rfl (fun ls hl => ?_)
              refine lv_aload_n C.1 C.2.1 dX12_number_91 rfl (lv_at hl 1 rfl) ?_
              refine lv_dup C.1 C.2.1 dX12_number_92 rfl ?_
              refine g_getI C M 43 32 (by decide) rfl rfl (by decide) fl12_176 (v := nI ((sk (hA σ 43 30 0) n x0) + k)) rfl dX12_number_93 ?_
              refine lv_iconst (v := 1) C.1 C.2.1 dX12_number_96 (by decide) ?_
              refine lv_iadd C.1 C.2.1 dX12_number_97 ?_
              refine g_rei (v := nI (((sk (hA σ 43 30 0) n x0) + k) + 1)) (nI_1 _) ?_
              refine g_putI C M 43 32 (by decide) rfl rfl (by decide) fl12_176 rfl rfl dX12_number_98 (fun H locs M => ?_)
              rw [pM_b] at M
              refine lv_goto (tgt := 16) C.1 C.2.1 dX12_number_101 (by decide) ?_
              have q5 : 1000000 = mV (hA σ 43 30 0) (sk (hA σ 43 30 0) n x0) (k + 1) := by first | rfl | (show _ = mV _ _ (k + 1); rw [mV]; first | rw [if_pos hk4] | rw [if_neg hk4])
              have hl : lv_has ls 4 [(3, .int (mV (hA σ 43 30 0) (sk (hA σ 43 30 0) n x0) (k + 1))), (0, .ref (hO E 43)), (1, .int 0), (2, .int g)] := by
                rw [← q5]
                exact lv_sub hl [0, 1, 2, 3] rfl
              have q6 : (pM σ (((sk (hA σ 43 30 0) n x0) + k) + 1) (sk (hA σ 43 30 0) n x0) 0 L) = (pM σ ((sk (hA σ 43 30 0) n x0) + (k + 1)) (sk (hA σ 43 30 0) n x0) 0 L) := by rfl
              rw [q6] at M
              exact ih16 (k + 1) hxn ((scn_s (P := fun c => inB c 48 57) hxn (inB_iff.mpr ⟨c_38, c_52⟩)).trans hs) (by omega) _ _ _ M hl
            · skip
              have hk4 : k < 4 := Nat.not_le.mp (fun h9 => c_65 ((nI_le9 (a := 4) (c := k) (by omega) (by omega)).mpr h9))
              refine lv_bipush (v := 10) C.1 C.2.1 dX12_number_68 (by decide) ?_
              refine lv_iload_n C.1 C.2.1 dX12_number_70 rfl (lv_at hl 0 rfl) ?_
              refine lv_imul C.1 C.2.1 dX12_number_71 ?_
              refine lv_aload_n C.1 C.2.1 dX12_number_72 rfl (lv_at hl 1 rfl) ?_
              refine g_getA C M 43 30 (by decide) rfl rfl (by decide) fl12_81 dX12_number_73 ?_
              refine lv_aload_n C.1 C.2.1 dX12_number_76 rfl (lv_at hl 1 rfl) ?_
              refine g_getI C M 43 32 (by decide) rfl rfl (by decide) fl12_176 (v := nI ((sk (hA σ 43 30 0) n x0) + k)) rfl dX12_number_77 ?_
              refine g_bald C M 43 30 (by decide) rfl ((sk (hA σ 43 30 0) n x0) + k) (nI_clamp (by omega)) (vp_in_nI (by omega) (by decide)) (v := hA σ 43 30 0 ((sk (hA σ 43 30 0) n x0) + k)) rfl dX12_number_80 ?_
              refine lv_iadd C.1 C.2.1 dX12_number_81 ?_
              refine lv_bipush (v := 48) C.1 C.2.1 dX12_number_82 (by decide) ?_
              refine lv_isub C.1 C.2.1 dX12_number_84 ?_
              refine lv_goto (tgt := 90) C.1 C.2.1 dX12_number_85 (by decide) ?_
              refine lv_istore_n (lv' := [(3, .int (((10 * (mV (hA σ 43 30 0) (sk (hA σ 43 30 0) n x0) k)) + (hA σ 43 30 0 ((sk (hA σ 43 30 0) n x0) + k))) - 48)), (0, .ref (hO E 43)), (1, .int 0), (2, .int g)]) C.1 C.2.1 dX12_number_90 rfl hl (by decide) rfl (fun ls hl => ?_)
              refine lv_aload_n C.1 C.2.1 dX12_number_91 rfl (lv_at hl 1 rfl) ?_
              refine lv_dup C.1 C.2.1 dX12_number_92 rfl ?_
              refine g_getI C M 43 32 (by decide) rfl rfl (by decide) fl12_176 (v := nI ((sk (hA σ 43 30 0) n x0) + k)) rfl dX12_number_93 ?_
              refine lv_iconst (v := 1) C.1 C.2.1 dX12_number_96 (by decide) ?_
              refine lv_iadd C.1 C.2.1 dX12_number_97 ?_
              refine g_rei (v := nI (((sk (hA σ 43 30 0) n x0) + k) + 1)) (nI_1 _) ?_
              refine g_putI C M 43 32 (by decide) rfl rfl (by decide) fl12_176 rfl rfl dX12_number_98 (fun H locs M => ?_)
              rw [pM_b] at M
              refine lv_goto (tgt := 16) C.1 C.2.1 dX12_number_101 (by decide) ?_
              have q7 : ((10 * (mV (hA σ 43 30 0) (sk (hA σ 43 30 0) n x0) k)) + (hA σ 43 30 0 ((sk (hA σ 43 30 0) n x0) + k))) - 48 = mV (hA σ 43 30 0) (sk (hA σ 43 30 0) n x0) (k + 1) := by first | rfl | (show _ = mV _ _ (k + 1); rw [mV]; first | rw [if_pos hk4] | rw [if_neg hk4])
              have hl : lv_has ls 4 [(3, .int (mV (hA σ 43 30 0) (sk (hA σ 43 30 0) n x0) (k + 1))), (0, .ref (hO E 43)), (1, .int 0), (2, .int g)] := by
                rw [← q7]
                exact lv_sub hl [0, 1, 2, 3] rfl
              have q8 : (pM σ (((sk (hA σ 43 30 0) n x0) + k) + 1) (sk (hA σ 43 30 0) n x0) 0 L) = (pM σ ((sk (hA σ 43 30 0) n x0) + (k + 1)) (sk (hA σ 43 30 0) n x0) 0 L) := by rfl
              rw [q8] at M
              exact ih16 (k + 1) hxn ((scn_s (P := fun c => inB c 48 57) hxn (inB_iff.mpr ⟨c_38, c_52⟩)).trans hs) (by omega) _ _ _ M hl
  have q9 : 0 = mV (hA σ 43 30 0) (sk (hA σ 43 30 0) n x0) 0 := by first | rfl | (show _ = mV _ _ (k + 1); rw [mV]; first | rw [if_pos hk4] | rw [if_neg hk4])
  have hl : lv_has ls 4 [(3, .int (mV (hA σ 43 30 0) (sk (hA σ 43 30 0) n x0) 0)), (0, .ref (hO E 43)), (1, .int 0), (2, .int g)] := by
    rw [← q9]
    exact lv_sub hl [0, 1, 2, 3] rfl
  have q10 : (pM σ (sk (hA σ 43 30 0) n x0) (sk (hA σ 43 30 0) n x0) 0 L) = (pM σ ((sk (hA σ 43 30 0) n x0) + 0) (sk (hA σ 43 30 0) n x0) 0 L) := by rfl
  rw [q10] at M
  exact L16 ((n - ((sk (hA σ 43 30 0) n x0) + 0)) + 1) 0 (scn_le hp) rfl (Nat.lt_succ_self _) _ _ _ M hl

set_option maxHeartbeats 4000000 in
set_option maxRecDepth 100000 in
theorem m_number1 (l : Launch) (E : hEnv) (σ : hMem) (Z : va_W) (x0 q : Nat) (ft : Int32) (L : Nat → Int32) (hft : 0 < ft) (g : Int32) : hMet l yX12_number cX12_number 4 (some .int) (0, 0, 0, 0) E (pM σ x0 q ft L) Z [.ref (hO E 43), .int 0, .int g] (hQi E (fun r u => r = 0 ∧ u = (pM σ x0 q ft L, Z))) := by
  refine hMet.of (by decide) (Nat.le_of_ble_eq_true rfl) (fun p e s m below meth c A ls C M hr hlk hl => ?_)
  have hl : lv_has ls 4 [(0, .ref (hO E 43)), (1, .int 0), (2, .int g)] := hl
  generalize s.heap = H at M ⊢
  generalize ([] : List Loc) = locs at M ⊢
  refine lv_aload_n C.1 C.2.1 dX12_number_0 rfl (lv_at hl 0 rfl) ?_
  refine g_getI C M 43 34 (by decide) rfl rfl (by decide) fl12_173 (v := ft) rfl dX12_number_1 ?_
  refine lv_if_le (tgt := 9) C.1 C.2.1 dX12_number_4 (by decide) (fun c_4 => ?_) (fun c_4 => ?_)
  · skip
    exact absurd hft (Int32.not_lt.mpr c_4)
  · skip
    refine lv_iconst (v := 0) C.1 C.2.1 dX12_number_7 (by decide) ?_
    refine g_iret C M hr hlk ?_ (Nat.le_of_ble_eq_true rfl) (Nat.le_of_ble_eq_true rfl) dX12_number_8
    exact ⟨rfl, rfl⟩
