theorem nI_nm1 {k : Nat} (hk : k < 4) : ¬ nI k = -1 := by
  rcases (show k = 0 ∨ k = 1 ∨ k = 2 ∨ k = 3 by omega) with rfl | rfl | rfl | rfl <;> decide

set_option maxHeartbeats 4000000 in
set_option maxRecDepth 100000 in
theorem m_clause (l : Launch) (E : hEnv) (σ : hMem) (Z : va_W) (x0 q : Nat) (L T : Nat → Int32) (a3 n : Nat) (hn : hI σ 43 31 = nI n) (hn3 : n ≤ 300) (hp : x0 ≤ n) : hMet l yX12_clause cX12_clause 4 none (6, 0, 0, 128) E (pM σ x0 q 0 L) (Z ++ [(a3, .inl (E.2.1 2, 11, .inl T))]) [.ref (hO E 43), .ref (hR E 43 29 6), .ref a3] (hQv E (fun u => ∃ b a ft L' T', u = (pM σ b a ft L', Z ++ [(a3, .inl (E.2.1 2, 11, .inl T'))]) ∧ cRel (hA σ 43 30 0) n x0 T L b ft L' T')) := by
  refine hMet.of (by decide) (Nat.le_of_ble_eq_true rfl) (fun p e s m below meth c A ls C M hr hlk hl => ?_)
  have hl : lv_has ls 4 [(0, .ref (hO E 43)), (1, .ref (hR E 43 29 6)), (2, .ref a3)] := hl
  generalize s.heap = H at M ⊢
  generalize ([] : List Loc) = locs at M ⊢
  have hS1 : (sk (hA σ 43 30 0) n x0) ≤ n := scn_le hp
  have hW1 : (wd (hA σ 43 30 0) n (sk (hA σ 43 30 0) n x0)) ≤ n := scn_le hS1
  have hS2 : (sk (hA σ 43 30 0) n (wd (hA σ 43 30 0) n (sk (hA σ 43 30 0) n x0))) ≤ n := scn_le hW1
  have hW2 : (wd (hA σ 43 30 0) n (sk (hA σ 43 30 0) n (wd (hA σ 43 30 0) n (sk (hA σ 43 30 0) n x0)))) ≤ n := scn_le hS2
  refine lv_aload_n C.1 C.2.1 dX12_clause_0 rfl (lv_at hl 0 rfl) ?_
  refine g_callv M (g_runV (As := []) (rest := []) C M 43 (m_word l E σ (Z ++ [(a3, .inl (E.2.1 2, 11, .inl T))]) x0 q 0 L n hn hn3 hp) clX12_word ivX12_word lk12_229 (by decide) rfl rfl ⟨Nat.le_of_ble_eq_true rfl, Nat.le_of_ble_eq_true rfl⟩ hl.1 rfl (Nat.le_of_ble_eq_true rfl) dX12_clause_1 ⟨Nat.le_of_ble_eq_true rfl, Nat.le_of_ble_eq_true rfl⟩) (fun u H locs hR M => ?_)
  refine W.widen (k := 0) (n := 0) (Nat.le_of_ble_eq_true rfl) (Nat.le_of_ble_eq_true rfl) ?_
  obtain ⟨ft1, hu, hw1⟩ := w_sp (by have := hW1; omega) (by have := hS1; omega) hR
  clear hR
  subst hu
  have M : hM E A s H locs (pM σ (wd (hA σ 43 30 0) n (sk (hA σ 43 30 0) n x0)) (sk (hA σ 43 30 0) n x0) ft1 L) (Z ++ [(a3, .inl (E.2.1 2, 11, .inl T))]) := M
  refine lv_aload_n C.1 C.2.1 dX12_clause_4 rfl (lv_at hl 0 rfl) ?_
  refine g_getI C M 43 34 (by decide) rfl rfl (by decide) fl12_173 (v := ft1) rfl dX12_clause_5 ?_
  refine lv_if_le (tgt := 12) C.1 C.2.1 dX12_clause_8 (by decide) (fun c_8 => ?_) (fun c_8 => ?_)
  · skip
    have hz1 : ft1 = 0 := hw1.elim (fun h9 => absurd (show (1 : Int32) + 4 * nI (sk (hA σ 43 30 0) n x0) ≤ 0 by rw [← h9.2]; exact c_8) (fc_nle (by decide) (by omega))) (fun h9 => h9.2)
    subst hz1
    refine lv_aload_n C.1 C.2.1 dX12_clause_12 rfl (lv_at hl 0 rfl) ?_
    refine va_ldcS (own := RX12) (tx := "weigh") (index := 232) (q := E.2.2.2.1 4) C.1 C.2.1 C.2.2.2.1 (tx_4 C) dX12_clause_13 ?_
    refine g_calli M (g_runV (As := [.ref (E.2.2.2.1 4)]) (rest := []) C M 43 (m_is l E σ (Z ++ [(a3, .inl (E.2.1 2, 11, .inl T))]) (wd (hA σ 43 30 0) n (sk (hA σ 43 30 0) n x0)) (sk (hA σ 43 30 0) n x0) 0 L (scn_ge _ _ _ _) (by have := hW1; omega) 4 (by decide)) clX12_is ivX12_is lk12_219 (by decide) rfl rfl ⟨Nat.le_of_ble_eq_true rfl, Nat.le_of_ble_eq_true rfl⟩ hl.1 rfl (Nat.le_of_ble_eq_true rfl) dX12_clause_15 ⟨Nat.le_of_ble_eq_true rfl, Nat.le_of_ble_eq_true rfl⟩) (fun r1 u H locs hR M => ?_)
    refine W.widen (k := 0) (n := 0) (Nat.le_of_ble_eq_true rfl) (Nat.le_of_ble_eq_true rfl) ?_
    obtain ⟨rfl, rfl⟩ := hR
    have M : hM E A s H locs (pM σ (wd (hA σ 43 30 0) n (sk (hA σ 43 30 0) n x0)) (sk (hA σ 43 30 0) n x0) 0 L) (Z ++ [(a3, .inl (E.2.1 2, 11, .inl T))]) := M
    refine lv_if_eq (tgt := 104) C.1 C.2.1 dX12_clause_18 (by decide) (fun c_18 => ?_) (fun c_18 => ?_)
    · skip
      have c_18 : ¬ isT (hA σ 43 30 0) (sk (hA σ 43 30 0) n x0) (wd (hA σ 43 30 0) n (sk (hA σ 43 30 0) n x0)) 4 := bz_0.mp c_18
      refine lv_iconst (v := 5) C.1 C.2.1 dX12_clause_104 (by decide) ?_
      refine lv_istore_n (lv' := [(3, .int 5), (0, .ref (hO E 43)), (1, .ref (hR E 43 29 6)), (2, .ref a3)]) C.1 C.2.1 dX12_clause_105 rfl hl (by decide) rfl (fun ls hl => ?_)
      have L106 : ∀ (n9 : Nat) (m9 : Nat), (m9 ≤ 5) → (∀ j, j < m9 → ¬ isT (hA σ 43 30 0) (sk (hA σ 43 30 0) n x0) (wd (hA σ 43 30 0) n (sk (hA σ 43 30 0) n x0)) (10 + j)) → 5 - m9 < n9 → ∀ (H : Heap) (locs : List Loc) (ls : Array Slot), hM E A s H locs (pM σ (wd (hA σ 43 30 0) n (sk (hA σ 43 30 0) n x0)) (sk (hA σ 43 30 0) n x0) 0 L) (Z ++ [(a3, .inl (E.2.1 2, 11, .inl T))]) → lv_has ls 4 [(3, .int (nI (5 + m9))), (0, .ref (hO E 43)), (1, .ref (hR E 43 29 6)), (2, .ref a3)] → W p l e (hRm (6, 0, 0, 128)) s m [.ref (hO E 43), .ref (hR E 43 29 6), .ref a3].toArray below meth c H locs 0 0 (MQ below (hQv E (fun u => ∃ b a ft L' T', u = (pM σ b a ft L', Z ++ [(a3, .inl (E.2.1 2, 11, .inl T'))]) ∧ cRel (hA σ 43 30 0) n x0 T L b ft L' T') A) [.ref (hO E 43), .ref (hR E 43 29 6), .ref a3].toArray s 0 0 A) (F0 m 106 ls []) := by
        intro n9
        induction n9 with
        | zero =>
          intro m9 hm hj hn9
          exact absurd hn9 (Nat.not_lt_zero _)
        | succ n9 ih106 =>
          intro m9 hm hj hn106 H locs ls M hl
          refine lv_iload_n C.1 C.2.1 dX12_clause_106 rfl (lv_at hl 0 rfl) ?_
          refine lv_bipush (v := 9) C.1 C.2.1 dX12_clause_107 (by decide) ?_
          refine lv_icmp_gt (tgt := 130) C.1 C.2.1 dX12_clause_109 (by decide) (fun c_109 => ?_) (fun c_109 => ?_)
          · skip
            have hm5 : m9 = 5 := by have := (nI_ltI (a := 9) (b := 5 + m9) (by omega) (by omega)).mp c_109; omega
            have hcl : clI (hA σ 43 30 0) (sk (hA σ 43 30 0) n x0) (wd (hA σ 43 30 0) n (sk (hA σ 43 30 0) n x0)) = 5 := cl_is (Nat.le_refl 5) (by rw [hm5] at hj; exact hj) (Or.inl rfl)
            refine lv_iload_n C.1 C.2.1 dX12_clause_130 rfl (lv_at hl 0 rfl) ?_
            refine lv_bipush (v := 9) C.1 C.2.1 dX12_clause_131 (by decide) ?_
            refine lv_icmp_le (tgt := 146) C.1 C.2.1 dX12_clause_133 (by decide) (fun c_133 => ?_) (fun c_133 => ?_)
            · skip
              exact absurd ((nI_le9 (a := 5 + m9) (c := 9) (by omega) (by omega)).mp c_133) (by omega)
            · skip
              refine lv_aload_n C.1 C.2.1 dX12_clause_136 rfl (lv_at hl 1 rfl) ?_
              refine lv_iconst (v := 1) C.1 C.2.1 dX12_clause_137 (by decide) ?_
              refine lv_aload_n C.1 C.2.1 dX12_clause_138 rfl (lv_at hl 1 rfl) ?_
              refine g_getI C M 43 33 (by decide) rfl rfl (by decide) fl12_179 (v := nI (sk (hA σ 43 30 0) n x0)) rfl dX12_clause_139 ?_
              refine g_callv M (g_runV (As := [.int 1, .int (nI (sk (hA σ 43 30 0) n x0))]) (rest := []) C M 43 (m_fails l E (pM σ (wd (hA σ 43 30 0) n (sk (hA σ 43 30 0) n x0)) (sk (hA σ 43 30 0) n x0) 0 L) (Z ++ [(a3, .inl (E.2.1 2, 11, .inl T))]) 1 (nI (sk (hA σ 43 30 0) n x0))) clX12_fails ivX12_fails lk12_185 (by decide) rfl rfl ⟨Nat.le_of_ble_eq_true rfl, Nat.le_of_ble_eq_true rfl⟩ hl.1 rfl (Nat.le_of_ble_eq_true rfl) dX12_clause_142 ⟨Nat.le_of_ble_eq_true rfl, Nat.le_of_ble_eq_true rfl⟩) (fun u H locs hR M => ?_)
              refine W.widen (k := 0) (n := 0) (Nat.le_of_ble_eq_true rfl) (Nat.le_of_ble_eq_true rfl) ?_
              rw [pM_fail, ftl_0] at hR
              subst hR
              have M : hM E A s H locs (pM σ (wd (hA σ 43 30 0) n (sk (hA σ 43 30 0) n x0)) (sk (hA σ 43 30 0) n x0) (1 + 4 * (nI (sk (hA σ 43 30 0) n x0))) L) (Z ++ [(a3, .inl (E.2.1 2, 11, .inl T))]) := M
              refine g_vret C M hr hlk ?_ (Nat.le_of_ble_eq_true rfl) (Nat.le_of_ble_eq_true rfl) dX12_clause_145
              exact ⟨_, _, _, _, _, rfl, hW1, Or.inl ⟨clP_c5 c_18 hcl, fc_pos (by decide) (by omega)⟩⟩
          · skip
            have hm1 : m9 < 5 := Nat.not_le.mp (fun h9 => c_109 ((nI_ltI (a := 9) (b := 5 + m9) (by omega) (by omega)).mpr (by omega)))
            refine lv_aload_n C.1 C.2.1 dX12_clause_112 rfl (lv_at hl 1 rfl) ?_
            refine lv_aload_n C.1 C.2.1 dX12_clause_113 rfl (lv_at hl 1 rfl) ?_
            refine lv_iload_n C.1 C.2.1 dX12_clause_114 rfl (lv_at hl 0 rfl) ?_
            refine g_callr M (g_runV (As := [.int (nI (5 + m9))]) (rest := [.ref (hO E 43)]) C M 43 (m_clauseOf l E (pM σ (wd (hA σ 43 30 0) n (sk (hA σ 43 30 0) n x0)) (sk (hA σ 43 30 0) n x0) 0 L) (Z ++ [(a3, .inl (E.2.1 2, 11, .inl T))]) m9 hm1) clX12_clauseOf ivX12_clauseOf lk12_242 (by decide) rfl rfl ⟨Nat.le_of_ble_eq_true rfl, Nat.le_of_ble_eq_true rfl⟩ hl.1 rfl (Nat.le_of_ble_eq_true rfl) dX12_clause_115 ⟨Nat.le_of_ble_eq_true rfl, Nat.le_of_ble_eq_true rfl⟩) (fun r2 u H locs hR M => ?_)
            refine W.widen (k := 0) (n := 0) (Nat.le_of_ble_eq_true rfl) (Nat.le_of_ble_eq_true rfl) ?_
            obtain ⟨rfl, rfl⟩ := hR
            have M : hM E A s H locs (pM σ (wd (hA σ 43 30 0) n (sk (hA σ 43 30 0) n x0)) (sk (hA σ 43 30 0) n x0) 0 L) (Z ++ [(a3, .inl (E.2.1 2, 11, .inl T))]) := M
            refine g_calli M (g_runV (As := [.ref (E.2.2.2.1 (10 + m9))]) (rest := []) C M 43 (m_is l E σ (Z ++ [(a3, .inl (E.2.1 2, 11, .inl T))]) (wd (hA σ 43 30 0) n (sk (hA σ 43 30 0) n x0)) (sk (hA σ 43 30 0) n x0) 0 L (scn_ge _ _ _ _) (by have := hW1; omega) (10 + m9) (by omega)) clX12_is ivX12_is lk12_219 (by decide) rfl rfl ⟨Nat.le_of_ble_eq_true rfl, Nat.le_of_ble_eq_true rfl⟩ hl.1 rfl (Nat.le_of_ble_eq_true rfl) dX12_clause_118 ⟨Nat.le_of_ble_eq_true rfl, Nat.le_of_ble_eq_true rfl⟩) (fun r3 u H locs hR M => ?_)
            refine W.widen (k := 0) (n := 0) (Nat.le_of_ble_eq_true rfl) (Nat.le_of_ble_eq_true rfl) ?_
            obtain ⟨rfl, rfl⟩ := hR
            have M : hM E A s H locs (pM σ (wd (hA σ 43 30 0) n (sk (hA σ 43 30 0) n x0)) (sk (hA σ 43 30 0) n x0) 0 L) (Z ++ [(a3, .inl (E.2.1 2, 11, .inl T))]) := M
            refine lv_if_ne (tgt := 130) C.1 C.2.1 dX12_clause_121 (by decide) (fun c_121 => ?_) (fun c_121 => ?_)
            · skip
              have c_121 : isT (hA σ 43 30 0) (sk (hA σ 43 30 0) n x0) (wd (hA σ 43 30 0) n (sk (hA σ 43 30 0) n x0)) (10 + m9) := bz_ne0.mp c_121
              have hcl : clI (hA σ 43 30 0) (sk (hA σ 43 30 0) n x0) (wd (hA σ 43 30 0) n (sk (hA σ 43 30 0) n x0)) = m9 := cl_is (by omega) hj (Or.inr c_121)
              refine lv_iload_n C.1 C.2.1 dX12_clause_130 rfl (lv_at hl 0 rfl) ?_
              refine lv_bipush (v := 9) C.1 C.2.1 dX12_clause_131 (by decide) ?_
              refine lv_icmp_le (tgt := 146) C.1 C.2.1 dX12_clause_133 (by decide) (fun c_133 => ?_) (fun c_133 => ?_)
              · skip
                refine lv_aload_n C.1 C.2.1 dX12_clause_146 rfl (lv_at hl 3 rfl) ?_
                refine lv_iload_n C.1 C.2.1 dX12_clause_147 rfl (lv_at hl 0 rfl) ?_
                refine g_xzald C M Z.length zat0 (5 + m9) (nI_clamp (by omega)) (vp_in_nI (by omega) (by decide)) (v := T (5 + m9)) rfl dX12_clause_148 ?_
                refine lv_if_eq (tgt := 162) C.1 C.2.1 dX12_clause_149 (by decide) (fun c_149 => ?_) (fun c_149 => ?_)
                · skip
                  refine lv_aload_n C.1 C.2.1 dX12_clause_162 rfl (lv_at hl 3 rfl) ?_
                  refine lv_iload_n C.1 C.2.1 dX12_clause_163 rfl (lv_at hl 0 rfl) ?_
                  refine lv_iconst (v := 1) C.1 C.2.1 dX12_clause_164 (by decide) ?_
                  refine g_xzast C M Z.length zat0 (Or.inr rfl) (5 + m9) (nI_clamp (by omega)) (vp_in_nI (by omega) (by decide)) dX12_clause_165 (fun H locs M => ?_)
                  have M : hM E A s H locs (pM σ (wd (hA σ 43 30 0) n (sk (hA σ 43 30 0) n x0)) (sk (hA σ 43 30 0) n x0) 0 L) (Z ++ [(a3, .inl (E.2.1 2, 11, .inl (upd T (5 + m9) 1)))]) := by rw [zset0] at M; exact M
                  refine lv_iload_n C.1 C.2.1 dX12_clause_166 rfl (lv_at hl 0 rfl) ?_
                  refine lv_bipush (v := 6) C.1 C.2.1 dX12_clause_167 (by decide) ?_
                  refine lv_icmp_ne (tgt := 202) C.1 C.2.1 dX12_clause_169 (by decide) (fun c_169 => ?_) (fun c_169 => ?_)
                  · skip
                    have hne1 : ¬ m9 = 1 := fun h9 => c_169 (by rw [h9]; rfl)
                    refine lv_aload_n C.1 C.2.1 dX12_clause_202 rfl (lv_at hl 2 rfl) ?_
                    refine lv_iload_n C.1 C.2.1 dX12_clause_203 rfl (lv_at hl 0 rfl) ?_
                    refine lv_aload_n C.1 C.2.1 dX12_clause_204 rfl (lv_at hl 1 rfl) ?_
                    refine lv_iconst (v := 0) C.1 C.2.1 dX12_clause_205 (by decide) ?_
                    refine lv_iload_n C.1 C.2.1 dX12_clause_206 rfl (lv_at hl 0 rfl) ?_
                    refine lv_iconst (v := 5) C.1 C.2.1 dX12_clause_207 (by decide) ?_
                    refine lv_icmp_ne (tgt := 217) C.1 C.2.1 dX12_clause_208 (by decide) (fun c_208 => ?_) (fun c_208 => ?_)
                    · skip
                      refine lv_iload_n C.1 C.2.1 dX12_clause_217 rfl (lv_at hl 0 rfl) ?_
                      refine lv_bipush (v := 8) C.1 C.2.1 dX12_clause_218 (by decide) ?_
                      refine lv_icmp_ne (tgt := 228) C.1 C.2.1 dX12_clause_220 (by decide) (fun c_220 => ?_) (fun c_220 => ?_)
                      · skip
                        refine lv_sipush (v := 1000) C.1 C.2.1 dX12_clause_228 (by decide) ?_
                        refine g_calli M (g_runV (As := [.int 0, .int 1000]) (rest := [.int (nI (5 + m9)), .ref (hR E 43 29 6)]) C M 43 (m_number l E σ (Z ++ [(a3, .inl (E.2.1 2, 11, .inl (upd T (5 + m9) 1)))]) (wd (hA σ 43 30 0) n (sk (hA σ 43 30 0) n x0)) (sk (hA σ 43 30 0) n x0) L n hn hn3 hW1 1000 (by decide)) clX12_number ivX12_number lk12_238 (by decide) rfl rfl ⟨Nat.le_of_ble_eq_true rfl, Nat.le_of_ble_eq_true rfl⟩ hl.1 rfl (Nat.le_of_ble_eq_true rfl) dX12_clause_231 ⟨Nat.le_of_ble_eq_true rfl, Nat.le_of_ble_eq_true rfl⟩) (fun r4 u H locs hR M => ?_)
                        refine W.widen (k := 0) (n := 0) (Nat.le_of_ble_eq_true rfl) (Nat.le_of_ble_eq_true rfl) ?_
                        obtain ⟨b231, a231, f231, hu, hN231⟩ := hR
                        subst hu
                        have M : hM E A s H locs (pM σ b231 a231 f231 L) (Z ++ [(a3, .inl (E.2.1 2, 11, .inl (upd T (5 + m9) 1)))]) := M
                        refine g_riast C M 43 29 6 (by decide) rfl (by decide) (by decide) (5 + m9) (nI_clamp (by omega)) (vp_in_nI (by omega) (by decide)) dX12_clause_234 (fun H locs M => ?_)
                        have M : hM E A s H locs (sA (pM σ b231 a231 f231 L) 43 29 6 (upd L (5 + m9) r4)) (Z ++ [(a3, .inl (E.2.1 2, 11, .inl (upd T (5 + m9) 1)))]) := M
                        rw [pM_L] at M
                        refine lv_iload_n C.1 C.2.1 dX12_clause_235 rfl (lv_at hl 0 rfl) ?_
                        refine lv_bipush (v := 9) C.1 C.2.1 dX12_clause_236 (by decide) ?_
                        refine lv_icmp_ne (tgt := 289) C.1 C.2.1 dX12_clause_238 (by decide) (fun c_238 => ?_) (fun c_238 => ?_)
                        · skip
                          have hne4 : ¬ 5 + m9 = 9 := fun h9 => c_238 (by rw [h9]; rfl)
                          refine g_vret C M hr hlk ?_ (Nat.le_of_ble_eq_true rfl) (Nat.le_of_ble_eq_true rfl) dX12_clause_289
                          have h9 := clV_n (T := T) (L := L) (show gMx (5 + m9) = 1000 by have := ct_ne (k := 5 + m9) 5 c_208; have := ct_ne (k := 5 + m9) 8 c_220; unfold gMx; rw [if_neg (by omega), if_neg (by omega)]) hne4 hN231.2; rw [← clP_v c_18 hcl hm1 hne1 c_149] at h9; exact ⟨_, _, _, _, _, rfl, hN231.1, h9⟩
                        · skip
                          have hm9 : m9 = 4 := by have := ct_eq (k := 5 + m9) 9 c_238; omega
                          subst hm9
                          refine lv_aload_n C.1 C.2.1 dX12_clause_241 rfl (lv_at hl 1 rfl) ?_
                          refine g_getI C M 43 34 (by decide) rfl rfl (by decide) fl12_173 (v := f231) rfl dX12_clause_242 ?_
                          refine lv_if_ne (tgt := 289) C.1 C.2.1 dX12_clause_245 (by decide) (fun c_245 => ?_) (fun c_245 => ?_)
                          · skip
                            refine g_vret C M hr hlk ?_ (Nat.le_of_ble_eq_true rfl) (Nat.le_of_ble_eq_true rfl) dX12_clause_289
                            have h9 := clV_f (T := T) (L := L) (show gMx (5 + 4) = 1000 from rfl) c_245 hN231.2; rw [← clP_v c_18 hcl (by decide) (by decide) c_149] at h9; exact ⟨_, _, _, _, _, rfl, hN231.1, Or.inl h9⟩
                          · skip
                            subst c_245
                            have hS3 : (sk (hA σ 43 30 0) n b231) ≤ n := scn_le hN231.1
                            have hW3 : (wd (hA σ 43 30 0) n (sk (hA σ 43 30 0) n b231)) ≤ n := scn_le hS3
                            refine lv_aload_n C.1 C.2.1 dX12_clause_248 rfl (lv_at hl 1 rfl) ?_
                            refine g_callv M (g_runV (As := []) (rest := []) C M 43 (m_word l E σ (Z ++ [(a3, .inl (E.2.1 2, 11, .inl (upd T (5 + 4) 1)))]) b231 a231 0 (upd L (5 + 4) r4) n hn hn3 hN231.1) clX12_word ivX12_word lk12_229 (by decide) rfl rfl ⟨Nat.le_of_ble_eq_true rfl, Nat.le_of_ble_eq_true rfl⟩ hl.1 rfl (Nat.le_of_ble_eq_true rfl) dX12_clause_249 ⟨Nat.le_of_ble_eq_true rfl, Nat.le_of_ble_eq_true rfl⟩) (fun u H locs hR M => ?_)
                            refine W.widen (k := 0) (n := 0) (Nat.le_of_ble_eq_true rfl) (Nat.le_of_ble_eq_true rfl) ?_
                            obtain ⟨ft249, hu, hw249⟩ := w_sp (by have := hW3; omega) (by have := hS3; omega) hR
                            clear hR
                            subst hu
                            have M : hM E A s H locs (pM σ (wd (hA σ 43 30 0) n (sk (hA σ 43 30 0) n b231)) (sk (hA σ 43 30 0) n b231) ft249 (upd L (5 + 4) r4)) (Z ++ [(a3, .inl (E.2.1 2, 11, .inl (upd T (5 + 4) 1)))]) := M
                            refine lv_aload_n C.1 C.2.1 dX12_clause_252 rfl (lv_at hl 1 rfl) ?_
                            refine g_getI C M 43 34 (by decide) rfl rfl (by decide) fl12_173 (v := ft249) rfl dX12_clause_253 ?_
                            refine lv_if_ne (tgt := 277) C.1 C.2.1 dX12_clause_256 (by decide) (fun c_256 => ?_) (fun c_256 => ?_)
                            · skip
                              refine lv_aload_n C.1 C.2.1 dX12_clause_277 rfl (lv_at hl 2 rfl) ?_
                              refine lv_bipush (v := 10) C.1 C.2.1 dX12_clause_278 (by decide) ?_
                              refine lv_aload_n C.1 C.2.1 dX12_clause_280 rfl (lv_at hl 1 rfl) ?_
                              refine lv_iconst (v := 0) C.1 C.2.1 dX12_clause_281 (by decide) ?_
                              refine lv_sipush (v := 5000) C.1 C.2.1 dX12_clause_282 (by decide) ?_
                              refine g_calli M (g_runV (As := [.int 0, .int 5000]) (rest := [.int 10, .ref (hR E 43 29 6)]) C M 43 (m_number1 l E σ (Z ++ [(a3, .inl (E.2.1 2, 11, .inl (upd T (5 + 4) 1)))]) (wd (hA σ 43 30 0) n (sk (hA σ 43 30 0) n b231)) (sk (hA σ 43 30 0) n b231) ft249 (upd L (5 + 4) r4) (by rcases hw249 with ⟨_, h9⟩ | ⟨_, h9⟩; rw [h9]; exact fc_pos (by decide) (by omega); exact absurd h9 c_256) 5000) clX12_number ivX12_number lk12_238 (by decide) rfl rfl ⟨Nat.le_of_ble_eq_true rfl, Nat.le_of_ble_eq_true rfl⟩ hl.1 rfl (Nat.le_of_ble_eq_true rfl) dX12_clause_285 ⟨Nat.le_of_ble_eq_true rfl, Nat.le_of_ble_eq_true rfl⟩) (fun r5 u H locs hR M => ?_)
                              refine W.widen (k := 0) (n := 0) (Nat.le_of_ble_eq_true rfl) (Nat.le_of_ble_eq_true rfl) ?_
                              obtain ⟨rfl, rfl⟩ := hR
                              have M : hM E A s H locs (pM σ (wd (hA σ 43 30 0) n (sk (hA σ 43 30 0) n b231)) (sk (hA σ 43 30 0) n b231) ft249 (upd L (5 + 4) r4)) (Z ++ [(a3, .inl (E.2.1 2, 11, .inl (upd T (5 + 4) 1)))]) := M
                              refine g_riast C M 43 29 6 (by decide) rfl (by decide) (by decide) 10 (by decide) (by rw [vp_in_iff]; decide) dX12_clause_288 (fun H locs M => ?_)
                              have M : hM E A s H locs (sA (pM σ (wd (hA σ 43 30 0) n (sk (hA σ 43 30 0) n b231)) (sk (hA σ 43 30 0) n b231) ft249 (upd L (5 + 4) r4)) 43 29 6 (upd (upd L (5 + 4) r4) 10 0)) (Z ++ [(a3, .inl (E.2.1 2, 11, .inl (upd T (5 + 4) 1)))]) := M
                              rw [pM_L] at M
                              refine g_vret C M hr hlk ?_ (Nat.le_of_ble_eq_true rfl) (Nat.le_of_ble_eq_true rfl) dX12_clause_289
                              have h19 : (wd (hA σ 43 30 0) n (sk (hA σ 43 30 0) n b231)) = (sk (hA σ 43 30 0) n b231) ∧ ft249 = 1 + 4 * nI (sk (hA σ 43 30 0) n b231) := hw249.elim id (fun h9 => absurd h9.2 c_256); refine ⟨_, _, _, _, _, rfl, hW3, Or.inl ⟨?_, by rw [h19.2]; exact fc_pos (by decide) (by omega)⟩⟩; rw [clP_v c_18 hcl (by decide) (by decide) c_149, clV_a hN231.2]; rw [clA_n (fun q => isT_ne (by decide) q h19.1), h19.2]
                            · skip
                              subst c_256
                              refine lv_aload_n C.1 C.2.1 dX12_clause_259 rfl (lv_at hl 1 rfl) ?_
                              refine va_ldcS (own := RX12) (tx := "after") (index := 248) (q := E.2.2.2.1 19) C.1 C.2.1 C.2.2.2.1 (tx_19 C) dX12_clause_260 ?_
                              refine g_calli M (g_runV (As := [.ref (E.2.2.2.1 19)]) (rest := []) C M 43 (m_is l E σ (Z ++ [(a3, .inl (E.2.1 2, 11, .inl (upd T (5 + 4) 1)))]) (wd (hA σ 43 30 0) n (sk (hA σ 43 30 0) n b231)) (sk (hA σ 43 30 0) n b231) 0 (upd L (5 + 4) r4) (scn_ge _ _ _ _) (by have := hW3; omega) 19 (by decide)) clX12_is ivX12_is lk12_219 (by decide) rfl rfl ⟨Nat.le_of_ble_eq_true rfl, Nat.le_of_ble_eq_true rfl⟩ hl.1 rfl (Nat.le_of_ble_eq_true rfl) dX12_clause_262 ⟨Nat.le_of_ble_eq_true rfl, Nat.le_of_ble_eq_true rfl⟩) (fun r6 u H locs hR M => ?_)
                              refine W.widen (k := 0) (n := 0) (Nat.le_of_ble_eq_true rfl) (Nat.le_of_ble_eq_true rfl) ?_
                              obtain ⟨rfl, rfl⟩ := hR
                              have M : hM E A s H locs (pM σ (wd (hA σ 43 30 0) n (sk (hA σ 43 30 0) n b231)) (sk (hA σ 43 30 0) n b231) 0 (upd L (5 + 4) r4)) (Z ++ [(a3, .inl (E.2.1 2, 11, .inl (upd T (5 + 4) 1)))]) := M
                              refine lv_if_ne (tgt := 277) C.1 C.2.1 dX12_clause_265 (by decide) (fun c_265 => ?_) (fun c_265 => ?_)
                              · skip
                                have c_265 : isT (hA σ 43 30 0) (sk (hA σ 43 30 0) n b231) (wd (hA σ 43 30 0) n (sk (hA σ 43 30 0) n b231)) 19 := bz_ne0.mp c_265
                                refine lv_aload_n C.1 C.2.1 dX12_clause_277 rfl (lv_at hl 2 rfl) ?_
                                refine lv_bipush (v := 10) C.1 C.2.1 dX12_clause_278 (by decide) ?_
                                refine lv_aload_n C.1 C.2.1 dX12_clause_280 rfl (lv_at hl 1 rfl) ?_
                                refine lv_iconst (v := 0) C.1 C.2.1 dX12_clause_281 (by decide) ?_
                                refine lv_sipush (v := 5000) C.1 C.2.1 dX12_clause_282 (by decide) ?_
                                refine g_calli M (g_runV (As := [.int 0, .int 5000]) (rest := [.int 10, .ref (hR E 43 29 6)]) C M 43 (m_number l E σ (Z ++ [(a3, .inl (E.2.1 2, 11, .inl (upd T (5 + 4) 1)))]) (wd (hA σ 43 30 0) n (sk (hA σ 43 30 0) n b231)) (sk (hA σ 43 30 0) n b231) (upd L (5 + 4) r4) n hn hn3 hW3 5000 (by decide)) clX12_number ivX12_number lk12_238 (by decide) rfl rfl ⟨Nat.le_of_ble_eq_true rfl, Nat.le_of_ble_eq_true rfl⟩ hl.1 rfl (Nat.le_of_ble_eq_true rfl) dX12_clause_285 ⟨Nat.le_of_ble_eq_true rfl, Nat.le_of_ble_eq_true rfl⟩) (fun r7 u H locs hR M => ?_)
                                refine W.widen (k := 0) (n := 0) (Nat.le_of_ble_eq_true rfl) (Nat.le_of_ble_eq_true rfl) ?_
                                obtain ⟨b285, a285, f285, hu, hN285⟩ := hR
                                subst hu
                                have M : hM E A s H locs (pM σ b285 a285 f285 (upd L (5 + 4) r4)) (Z ++ [(a3, .inl (E.2.1 2, 11, .inl (upd T (5 + 4) 1)))]) := M
                                refine g_riast C M 43 29 6 (by decide) rfl (by decide) (by decide) 10 (by decide) (by rw [vp_in_iff]; decide) dX12_clause_288 (fun H locs M => ?_)
                                have M : hM E A s H locs (sA (pM σ b285 a285 f285 (upd L (5 + 4) r4)) 43 29 6 (upd (upd L (5 + 4) r4) 10 r7)) (Z ++ [(a3, .inl (E.2.1 2, 11, .inl (upd T (5 + 4) 1)))]) := M
                                rw [pM_L] at M
                                refine g_vret C M hr hlk ?_ (Nat.le_of_ble_eq_true rfl) (Nat.le_of_ble_eq_true rfl) dX12_clause_289
                                refine ⟨_, _, _, _, _, rfl, hN285.1, ?_⟩; rw [clP_v c_18 hcl (by decide) (by decide) c_149, clV_a hN231.2]; exact clA_y c_265 hN285.2
                              · skip
                                have c_265 : ¬ isT (hA σ 43 30 0) (sk (hA σ 43 30 0) n b231) (wd (hA σ 43 30 0) n (sk (hA σ 43 30 0) n b231)) 19 := bz_0.mp c_265
                                refine lv_aload_n C.1 C.2.1 dX12_clause_268 rfl (lv_at hl 1 rfl) ?_
                                refine lv_iconst (v := 1) C.1 C.2.1 dX12_clause_269 (by decide) ?_
                                refine lv_aload_n C.1 C.2.1 dX12_clause_270 rfl (lv_at hl 1 rfl) ?_
                                refine g_getI C M 43 33 (by decide) rfl rfl (by decide) fl12_179 (v := nI (sk (hA σ 43 30 0) n b231)) rfl dX12_clause_271 ?_
                                refine g_callv M (g_runV (As := [.int 1, .int (nI (sk (hA σ 43 30 0) n b231))]) (rest := []) C M 43 (m_fails l E (pM σ (wd (hA σ 43 30 0) n (sk (hA σ 43 30 0) n b231)) (sk (hA σ 43 30 0) n b231) 0 (upd L (5 + 4) r4)) (Z ++ [(a3, .inl (E.2.1 2, 11, .inl (upd T (5 + 4) 1)))]) 1 (nI (sk (hA σ 43 30 0) n b231))) clX12_fails ivX12_fails lk12_185 (by decide) rfl rfl ⟨Nat.le_of_ble_eq_true rfl, Nat.le_of_ble_eq_true rfl⟩ hl.1 rfl (Nat.le_of_ble_eq_true rfl) dX12_clause_274 ⟨Nat.le_of_ble_eq_true rfl, Nat.le_of_ble_eq_true rfl⟩) (fun u H locs hR M => ?_)
                                refine W.widen (k := 0) (n := 0) (Nat.le_of_ble_eq_true rfl) (Nat.le_of_ble_eq_true rfl) ?_
                                rw [pM_fail, ftl_0] at hR
                                subst hR
                                have M : hM E A s H locs (pM σ (wd (hA σ 43 30 0) n (sk (hA σ 43 30 0) n b231)) (sk (hA σ 43 30 0) n b231) (1 + 4 * (nI (sk (hA σ 43 30 0) n b231))) (upd L (5 + 4) r4)) (Z ++ [(a3, .inl (E.2.1 2, 11, .inl (upd T (5 + 4) 1)))]) := M
                                refine lv_aload_n C.1 C.2.1 dX12_clause_277 rfl (lv_at hl 2 rfl) ?_
                                refine lv_bipush (v := 10) C.1 C.2.1 dX12_clause_278 (by decide) ?_
                                refine lv_aload_n C.1 C.2.1 dX12_clause_280 rfl (lv_at hl 1 rfl) ?_
                                refine lv_iconst (v := 0) C.1 C.2.1 dX12_clause_281 (by decide) ?_
                                refine lv_sipush (v := 5000) C.1 C.2.1 dX12_clause_282 (by decide) ?_
                                refine g_calli M (g_runV (As := [.int 0, .int 5000]) (rest := [.int 10, .ref (hR E 43 29 6)]) C M 43 (m_number1 l E σ (Z ++ [(a3, .inl (E.2.1 2, 11, .inl (upd T (5 + 4) 1)))]) (wd (hA σ 43 30 0) n (sk (hA σ 43 30 0) n b231)) (sk (hA σ 43 30 0) n b231) (1 + 4 * (nI (sk (hA σ 43 30 0) n b231))) (upd L (5 + 4) r4) (fc_pos (by decide) (by omega)) 5000) clX12_number ivX12_number lk12_238 (by decide) rfl rfl ⟨Nat.le_of_ble_eq_true rfl, Nat.le_of_ble_eq_true rfl⟩ hl.1 rfl (Nat.le_of_ble_eq_true rfl) dX12_clause_285 ⟨Nat.le_of_ble_eq_true rfl, Nat.le_of_ble_eq_true rfl⟩) (fun r8 u H locs hR M => ?_)
                                refine W.widen (k := 0) (n := 0) (Nat.le_of_ble_eq_true rfl) (Nat.le_of_ble_eq_true rfl) ?_
                                obtain ⟨rfl, rfl⟩ := hR
                                have M : hM E A s H locs (pM σ (wd (hA σ 43 30 0) n (sk (hA σ 43 30 0) n b231)) (sk (hA σ 43 30 0) n b231) (1 + 4 * (nI (sk (hA σ 43 30 0) n b231))) (upd L (5 + 4) r4)) (Z ++ [(a3, .inl (E.2.1 2, 11, .inl (upd T (5 + 4) 1)))]) := M
                                refine g_riast C M 43 29 6 (by decide) rfl (by decide) (by decide) 10 (by decide) (by rw [vp_in_iff]; decide) dX12_clause_288 (fun H locs M => ?_)
                                have M : hM E A s H locs (sA (pM σ (wd (hA σ 43 30 0) n (sk (hA σ 43 30 0) n b231)) (sk (hA σ 43 30 0) n b231) (1 + 4 * (nI (sk (hA σ 43 30 0) n b231))) (upd L (5 + 4) r4)) 43 29 6 (upd (upd L (5 + 4) r4) 10 0)) (Z ++ [(a3, .inl (E.2.1 2, 11, .inl (upd T (5 + 4) 1)))]) := M
                                rw [pM_L] at M
                                refine g_vret C M hr hlk ?_ (Nat.le_of_ble_eq_true rfl) (Nat.le_of_ble_eq_true rfl) dX12_clause_289
                                refine ⟨_, _, _, _, _, rfl, hW3, Or.inl ⟨?_, fc_pos (by decide) (by omega)⟩⟩; rw [clP_v c_18 hcl (by decide) (by decide) c_149, clV_a hN231.2]; rw [clA_n c_265]
                      · skip
                        refine lv_bipush (v := 100) C.1 C.2.1 dX12_clause_223 (by decide) ?_
                        refine lv_goto (tgt := 231) C.1 C.2.1 dX12_clause_225 (by decide) ?_
                        refine g_calli M (g_runV (As := [.int 0, .int 100]) (rest := [.int (nI (5 + m9)), .ref (hR E 43 29 6)]) C M 43 (m_number l E σ (Z ++ [(a3, .inl (E.2.1 2, 11, .inl (upd T (5 + m9) 1)))]) (wd (hA σ 43 30 0) n (sk (hA σ 43 30 0) n x0)) (sk (hA σ 43 30 0) n x0) L n hn hn3 hW1 100 (by decide)) clX12_number ivX12_number lk12_238 (by decide) rfl rfl ⟨Nat.le_of_ble_eq_true rfl, Nat.le_of_ble_eq_true rfl⟩ hl.1 rfl (Nat.le_of_ble_eq_true rfl) dX12_clause_231 ⟨Nat.le_of_ble_eq_true rfl, Nat.le_of_ble_eq_true rfl⟩) (fun r9 u H locs hR M => ?_)
                        refine W.widen (k := 0) (n := 0) (Nat.le_of_ble_eq_true rfl) (Nat.le_of_ble_eq_true rfl) ?_
                        obtain ⟨b231, a231, f231, hu, hN231⟩ := hR
                        subst hu
                        have M : hM E A s H locs (pM σ b231 a231 f231 L) (Z ++ [(a3, .inl (E.2.1 2, 11, .inl (upd T (5 + m9) 1)))]) := M
                        refine g_riast C M 43 29 6 (by decide) rfl (by decide) (by decide) (5 + m9) (nI_clamp (by omega)) (vp_in_nI (by omega) (by decide)) dX12_clause_234 (fun H locs M => ?_)
                        have M : hM E A s H locs (sA (pM σ b231 a231 f231 L) 43 29 6 (upd L (5 + m9) r9)) (Z ++ [(a3, .inl (E.2.1 2, 11, .inl (upd T (5 + m9) 1)))]) := M
                        rw [pM_L] at M
                        refine lv_iload_n C.1 C.2.1 dX12_clause_235 rfl (lv_at hl 0 rfl) ?_
                        refine lv_bipush (v := 9) C.1 C.2.1 dX12_clause_236 (by decide) ?_
                        refine lv_icmp_ne (tgt := 289) C.1 C.2.1 dX12_clause_238 (by decide) (fun c_238 => ?_) (fun c_238 => ?_)
                        · skip
                          have hne4 : ¬ 5 + m9 = 9 := fun h9 => c_238 (by rw [h9]; rfl)
                          refine g_vret C M hr hlk ?_ (Nat.le_of_ble_eq_true rfl) (Nat.le_of_ble_eq_true rfl) dX12_clause_289
                          have h9 := clV_n (T := T) (L := L) (show gMx (5 + m9) = 100 by rw [show m9 = 3 by have := ct_eq (k := 5 + m9) 8 c_220; omega]; rfl) hne4 hN231.2; rw [← clP_v c_18 hcl hm1 hne1 c_149] at h9; exact ⟨_, _, _, _, _, rfl, hN231.1, h9⟩
                        · skip
                          have hm9 : m9 = 4 := by have := ct_eq (k := 5 + m9) 9 c_238; omega
                          subst hm9
                          exact absurd c_220 (by decide)
                    · skip
                      refine lv_sipush (v := 9999) C.1 C.2.1 dX12_clause_211 (by decide) ?_
                      refine lv_goto (tgt := 231) C.1 C.2.1 dX12_clause_214 (by decide) ?_
                      refine g_calli M (g_runV (As := [.int 0, .int 9999]) (rest := [.int (nI (5 + m9)), .ref (hR E 43 29 6)]) C M 43 (m_number l E σ (Z ++ [(a3, .inl (E.2.1 2, 11, .inl (upd T (5 + m9) 1)))]) (wd (hA σ 43 30 0) n (sk (hA σ 43 30 0) n x0)) (sk (hA σ 43 30 0) n x0) L n hn hn3 hW1 9999 (by decide)) clX12_number ivX12_number lk12_238 (by decide) rfl rfl ⟨Nat.le_of_ble_eq_true rfl, Nat.le_of_ble_eq_true rfl⟩ hl.1 rfl (Nat.le_of_ble_eq_true rfl) dX12_clause_231 ⟨Nat.le_of_ble_eq_true rfl, Nat.le_of_ble_eq_true rfl⟩) (fun r10 u H locs hR M => ?_)
                      refine W.widen (k := 0) (n := 0) (Nat.le_of_ble_eq_true rfl) (Nat.le_of_ble_eq_true rfl) ?_
                      obtain ⟨b231, a231, f231, hu, hN231⟩ := hR
                      subst hu
                      have M : hM E A s H locs (pM σ b231 a231 f231 L) (Z ++ [(a3, .inl (E.2.1 2, 11, .inl (upd T (5 + m9) 1)))]) := M
                      refine g_riast C M 43 29 6 (by decide) rfl (by decide) (by decide) (5 + m9) (nI_clamp (by omega)) (vp_in_nI (by omega) (by decide)) dX12_clause_234 (fun H locs M => ?_)
                      have M : hM E A s H locs (sA (pM σ b231 a231 f231 L) 43 29 6 (upd L (5 + m9) r10)) (Z ++ [(a3, .inl (E.2.1 2, 11, .inl (upd T (5 + m9) 1)))]) := M
                      rw [pM_L] at M
                      refine lv_iload_n C.1 C.2.1 dX12_clause_235 rfl (lv_at hl 0 rfl) ?_
                      refine lv_bipush (v := 9) C.1 C.2.1 dX12_clause_236 (by decide) ?_
                      refine lv_icmp_ne (tgt := 289) C.1 C.2.1 dX12_clause_238 (by decide) (fun c_238 => ?_) (fun c_238 => ?_)
                      · skip
                        have hne4 : ¬ 5 + m9 = 9 := fun h9 => c_238 (by rw [h9]; rfl)
                        refine g_vret C M hr hlk ?_ (Nat.le_of_ble_eq_true rfl) (Nat.le_of_ble_eq_true rfl) dX12_clause_289
                        have h9 := clV_n (T := T) (L := L) (show gMx (5 + m9) = 9999 by rw [show m9 = 0 by have := ct_eq (k := 5 + m9) 5 c_208; omega]; rfl) hne4 hN231.2; rw [← clP_v c_18 hcl hm1 hne1 c_149] at h9; exact ⟨_, _, _, _, _, rfl, hN231.1, h9⟩
                      · skip
                        have hm9 : m9 = 4 := by have := ct_eq (k := 5 + m9) 9 c_238; omega
                        subst hm9
                        exact absurd c_208 (by decide)
                  · skip
                    have hm9 : m9 = 1 := by have := ct_eq (k := 5 + m9) 6 c_169; omega
                    subst hm9
                    refine lv_aload_n C.1 C.2.1 dX12_clause_172 rfl (lv_at hl 1 rfl) ?_
                    refine g_callv M (g_runV (As := []) (rest := []) C M 43 (m_word l E σ (Z ++ [(a3, .inl (E.2.1 2, 11, .inl (upd T (5 + 1) 1)))]) (wd (hA σ 43 30 0) n (sk (hA σ 43 30 0) n x0)) (sk (hA σ 43 30 0) n x0) 0 L n hn hn3 hW1) clX12_word ivX12_word lk12_229 (by decide) rfl rfl ⟨Nat.le_of_ble_eq_true rfl, Nat.le_of_ble_eq_true rfl⟩ hl.1 rfl (Nat.le_of_ble_eq_true rfl) dX12_clause_173 ⟨Nat.le_of_ble_eq_true rfl, Nat.le_of_ble_eq_true rfl⟩) (fun u H locs hR M => ?_)
                    refine W.widen (k := 0) (n := 0) (Nat.le_of_ble_eq_true rfl) (Nat.le_of_ble_eq_true rfl) ?_
                    obtain ⟨ft173, hu, hw173⟩ := w_sp (by have := hW2; omega) (by have := hS2; omega) hR
                    clear hR
                    subst hu
                    have M : hM E A s H locs (pM σ (wd (hA σ 43 30 0) n (sk (hA σ 43 30 0) n (wd (hA σ 43 30 0) n (sk (hA σ 43 30 0) n x0)))) (sk (hA σ 43 30 0) n (wd (hA σ 43 30 0) n (sk (hA σ 43 30 0) n x0))) ft173 L) (Z ++ [(a3, .inl (E.2.1 2, 11, .inl (upd T (5 + 1) 1)))]) := M
                    refine lv_aload_n C.1 C.2.1 dX12_clause_176 rfl (lv_at hl 2 rfl) ?_
                    refine lv_bipush (v := 6) C.1 C.2.1 dX12_clause_177 (by decide) ?_
                    refine lv_aload_n C.1 C.2.1 dX12_clause_179 rfl (lv_at hl 1 rfl) ?_
                    refine g_calli M (g_runV (As := []) (rest := [.int 6, .ref (hR E 43 29 6)]) C M 43 (m_gives l E σ (Z ++ [(a3, .inl (E.2.1 2, 11, .inl (upd T (5 + 1) 1)))]) (wd (hA σ 43 30 0) n (sk (hA σ 43 30 0) n (wd (hA σ 43 30 0) n (sk (hA σ 43 30 0) n x0)))) (sk (hA σ 43 30 0) n (wd (hA σ 43 30 0) n (sk (hA σ 43 30 0) n x0))) ft173 L (scn_ge _ _ _ _) (by have := hW2; omega)) clX12_gives ivX12_gives lk12_245 (by decide) rfl rfl ⟨Nat.le_of_ble_eq_true rfl, Nat.le_of_ble_eq_true rfl⟩ hl.1 rfl (Nat.le_of_ble_eq_true rfl) dX12_clause_180 ⟨Nat.le_of_ble_eq_true rfl, Nat.le_of_ble_eq_true rfl⟩) (fun r11 u H locs hR M => ?_)
                    refine W.widen (k := 0) (n := 0) (Nat.le_of_ble_eq_true rfl) (Nat.le_of_ble_eq_true rfl) ?_
                    obtain ⟨rfl, rfl⟩ := hR
                    have M : hM E A s H locs (pM σ (wd (hA σ 43 30 0) n (sk (hA σ 43 30 0) n (wd (hA σ 43 30 0) n (sk (hA σ 43 30 0) n x0)))) (sk (hA σ 43 30 0) n (wd (hA σ 43 30 0) n (sk (hA σ 43 30 0) n x0))) ft173 L) (Z ++ [(a3, .inl (E.2.1 2, 11, .inl (upd T (5 + 1) 1)))]) := M
                    refine g_riast C M 43 29 6 (by decide) rfl (by decide) (by decide) 6 (by decide) (by rw [vp_in_iff]; decide) dX12_clause_183 (fun H locs M => ?_)
                    have M : hM E A s H locs (sA (pM σ (wd (hA σ 43 30 0) n (sk (hA σ 43 30 0) n (wd (hA σ 43 30 0) n (sk (hA σ 43 30 0) n x0)))) (sk (hA σ 43 30 0) n (wd (hA σ 43 30 0) n (sk (hA σ 43 30 0) n x0))) ft173 L) 43 29 6 (upd L 6 (if gfI (hA σ 43 30 0) (sk (hA σ 43 30 0) n (wd (hA σ 43 30 0) n (sk (hA σ 43 30 0) n x0))) (wd (hA σ 43 30 0) n (sk (hA σ 43 30 0) n (wd (hA σ 43 30 0) n (sk (hA σ 43 30 0) n x0)))) = 4 then -1 else nI (gfI (hA σ 43 30 0) (sk (hA σ 43 30 0) n (wd (hA σ 43 30 0) n (sk (hA σ 43 30 0) n x0))) (wd (hA σ 43 30 0) n (sk (hA σ 43 30 0) n (wd (hA σ 43 30 0) n (sk (hA σ 43 30 0) n x0)))))))) (Z ++ [(a3, .inl (E.2.1 2, 11, .inl (upd T (5 + 1) 1)))]) := M
                    rw [pM_L] at M
                    refine lv_aload_n C.1 C.2.1 dX12_clause_184 rfl (lv_at hl 2 rfl) ?_
                    refine lv_bipush (v := 6) C.1 C.2.1 dX12_clause_185 (by decide) ?_
                    refine g_riald C M 43 29 6 (by decide) rfl (by decide) (by decide) 6 (by decide) (by rw [vp_in_iff]; decide) (v := (if gfI (hA σ 43 30 0) (sk (hA σ 43 30 0) n (wd (hA σ 43 30 0) n (sk (hA σ 43 30 0) n x0))) (wd (hA σ 43 30 0) n (sk (hA σ 43 30 0) n (wd (hA σ 43 30 0) n (sk (hA σ 43 30 0) n x0)))) = 4 then -1 else nI (gfI (hA σ 43 30 0) (sk (hA σ 43 30 0) n (wd (hA σ 43 30 0) n (sk (hA σ 43 30 0) n x0))) (wd (hA σ 43 30 0) n (sk (hA σ 43 30 0) n (wd (hA σ 43 30 0) n (sk (hA σ 43 30 0) n x0))))))) (show upd L 6 (if gfI (hA σ 43 30 0) (sk (hA σ 43 30 0) n (wd (hA σ 43 30 0) n (sk (hA σ 43 30 0) n x0))) (wd (hA σ 43 30 0) n (sk (hA σ 43 30 0) n (wd (hA σ 43 30 0) n (sk (hA σ 43 30 0) n x0)))) = 4 then -1 else nI (gfI (hA σ 43 30 0) (sk (hA σ 43 30 0) n (wd (hA σ 43 30 0) n (sk (hA σ 43 30 0) n x0))) (wd (hA σ 43 30 0) n (sk (hA σ 43 30 0) n (wd (hA σ 43 30 0) n (sk (hA σ 43 30 0) n x0)))))) 6 = _ from pk_us) dX12_clause_187 ?_
                    refine lv_iconst (v := (-1)) C.1 C.2.1 dX12_clause_188 (by decide) ?_
                    refine lv_icmp_ne (tgt := 201) C.1 C.2.1 dX12_clause_189 (by decide) (fun c_189 => ?_) (fun c_189 => ?_)
                    · skip
                      refine g_vret C M hr hlk ?_ (Nat.le_of_ble_eq_true rfl) (Nat.le_of_ble_eq_true rfl) dX12_clause_201
                      have hg4 : ¬ gfI (hA σ 43 30 0) (sk (hA σ 43 30 0) n (wd (hA σ 43 30 0) n (sk (hA σ 43 30 0) n x0))) (wd (hA σ 43 30 0) n (sk (hA σ 43 30 0) n (wd (hA σ 43 30 0) n (sk (hA σ 43 30 0) n x0)))) = 4 := fun h9 => c_189 (if_pos h9); refine ⟨_, _, _, _, _, rfl, hW2, Or.inr ⟨?_, hw173.elim (fun h9 => absurd h9.1 (gf_ne hg4)) (fun h9 => h9.2)⟩⟩; rw [clP_g c_18 hcl c_149]; unfold clG; rw [if_neg hg4, if_neg hg4]
                    · skip
                      refine lv_aload_n C.1 C.2.1 dX12_clause_192 rfl (lv_at hl 1 rfl) ?_
                      refine lv_iconst (v := 1) C.1 C.2.1 dX12_clause_193 (by decide) ?_
                      refine lv_aload_n C.1 C.2.1 dX12_clause_194 rfl (lv_at hl 1 rfl) ?_
                      refine g_getI C M 43 33 (by decide) rfl rfl (by decide) fl12_179 (v := nI (sk (hA σ 43 30 0) n (wd (hA σ 43 30 0) n (sk (hA σ 43 30 0) n x0)))) rfl dX12_clause_195 ?_
                      refine g_callv M (g_runV (As := [.int 1, .int (nI (sk (hA σ 43 30 0) n (wd (hA σ 43 30 0) n (sk (hA σ 43 30 0) n x0))))]) (rest := []) C M 43 (m_fails l E (pM σ (wd (hA σ 43 30 0) n (sk (hA σ 43 30 0) n (wd (hA σ 43 30 0) n (sk (hA σ 43 30 0) n x0)))) (sk (hA σ 43 30 0) n (wd (hA σ 43 30 0) n (sk (hA σ 43 30 0) n x0))) ft173 (upd L 6 (if gfI (hA σ 43 30 0) (sk (hA σ 43 30 0) n (wd (hA σ 43 30 0) n (sk (hA σ 43 30 0) n x0))) (wd (hA σ 43 30 0) n (sk (hA σ 43 30 0) n (wd (hA σ 43 30 0) n (sk (hA σ 43 30 0) n x0)))) = 4 then -1 else nI (gfI (hA σ 43 30 0) (sk (hA σ 43 30 0) n (wd (hA σ 43 30 0) n (sk (hA σ 43 30 0) n x0))) (wd (hA σ 43 30 0) n (sk (hA σ 43 30 0) n (wd (hA σ 43 30 0) n (sk (hA σ 43 30 0) n x0)))))))) (Z ++ [(a3, .inl (E.2.1 2, 11, .inl (upd T (5 + 1) 1)))]) 1 (nI (sk (hA σ 43 30 0) n (wd (hA σ 43 30 0) n (sk (hA σ 43 30 0) n x0))))) clX12_fails ivX12_fails lk12_185 (by decide) rfl rfl ⟨Nat.le_of_ble_eq_true rfl, Nat.le_of_ble_eq_true rfl⟩ hl.1 rfl (Nat.le_of_ble_eq_true rfl) dX12_clause_198 ⟨Nat.le_of_ble_eq_true rfl, Nat.le_of_ble_eq_true rfl⟩) (fun u H locs hR M => ?_)
                      refine W.widen (k := 0) (n := 0) (Nat.le_of_ble_eq_true rfl) (Nat.le_of_ble_eq_true rfl) ?_
                      rw [pM_fail, ftl_w hw173 (by omega)] at hR
                      subst hR
                      have M : hM E A s H locs (pM σ (wd (hA σ 43 30 0) n (sk (hA σ 43 30 0) n (wd (hA σ 43 30 0) n (sk (hA σ 43 30 0) n x0)))) (sk (hA σ 43 30 0) n (wd (hA σ 43 30 0) n (sk (hA σ 43 30 0) n x0))) (1 + 4 * (nI (sk (hA σ 43 30 0) n (wd (hA σ 43 30 0) n (sk (hA σ 43 30 0) n x0))))) (upd L 6 (if gfI (hA σ 43 30 0) (sk (hA σ 43 30 0) n (wd (hA σ 43 30 0) n (sk (hA σ 43 30 0) n x0))) (wd (hA σ 43 30 0) n (sk (hA σ 43 30 0) n (wd (hA σ 43 30 0) n (sk (hA σ 43 30 0) n x0)))) = 4 then -1 else nI (gfI (hA σ 43 30 0) (sk (hA σ 43 30 0) n (wd (hA σ 43 30 0) n (sk (hA σ 43 30 0) n x0))) (wd (hA σ 43 30 0) n (sk (hA σ 43 30 0) n (wd (hA σ 43 30 0) n (sk (hA σ 43 30 0) n x0)))))))) (Z ++ [(a3, .inl (E.2.1 2, 11, .inl (upd T (5 + 1) 1)))]) := M
                      refine g_vret C M hr hlk ?_ (Nat.le_of_ble_eq_true rfl) (Nat.le_of_ble_eq_true rfl) dX12_clause_201
                      have hg4 : gfI (hA σ 43 30 0) (sk (hA σ 43 30 0) n (wd (hA σ 43 30 0) n (sk (hA σ 43 30 0) n x0))) (wd (hA σ 43 30 0) n (sk (hA σ 43 30 0) n (wd (hA σ 43 30 0) n (sk (hA σ 43 30 0) n x0)))) = 4 := Classical.byContradiction (fun h9 => by rw [if_neg h9] at c_189; exact nI_nm1 (by have := gf_le (hA σ 43 30 0) (sk (hA σ 43 30 0) n (wd (hA σ 43 30 0) n (sk (hA σ 43 30 0) n x0))) (wd (hA σ 43 30 0) n (sk (hA σ 43 30 0) n (wd (hA σ 43 30 0) n (sk (hA σ 43 30 0) n x0)))); omega) c_189); refine ⟨_, _, _, _, _, rfl, hW2, Or.inl ⟨?_, fc_pos (by decide) (by omega)⟩⟩; rw [clP_g c_18 hcl c_149]; unfold clG; rw [if_pos hg4]
                · skip
                  refine lv_aload_n C.1 C.2.1 dX12_clause_152 rfl (lv_at hl 1 rfl) ?_
                  refine lv_iconst (v := 3) C.1 C.2.1 dX12_clause_153 (by decide) ?_
                  refine lv_aload_n C.1 C.2.1 dX12_clause_154 rfl (lv_at hl 1 rfl) ?_
                  refine g_getI C M 43 33 (by decide) rfl rfl (by decide) fl12_179 (v := nI (sk (hA σ 43 30 0) n x0)) rfl dX12_clause_155 ?_
                  refine g_callv M (g_runV (As := [.int 3, .int (nI (sk (hA σ 43 30 0) n x0))]) (rest := []) C M 43 (m_fails l E (pM σ (wd (hA σ 43 30 0) n (sk (hA σ 43 30 0) n x0)) (sk (hA σ 43 30 0) n x0) 0 L) (Z ++ [(a3, .inl (E.2.1 2, 11, .inl T))]) 3 (nI (sk (hA σ 43 30 0) n x0))) clX12_fails ivX12_fails lk12_185 (by decide) rfl rfl ⟨Nat.le_of_ble_eq_true rfl, Nat.le_of_ble_eq_true rfl⟩ hl.1 rfl (Nat.le_of_ble_eq_true rfl) dX12_clause_158 ⟨Nat.le_of_ble_eq_true rfl, Nat.le_of_ble_eq_true rfl⟩) (fun u H locs hR M => ?_)
                  refine W.widen (k := 0) (n := 0) (Nat.le_of_ble_eq_true rfl) (Nat.le_of_ble_eq_true rfl) ?_
                  rw [pM_fail, ftl_0] at hR
                  subst hR
                  have M : hM E A s H locs (pM σ (wd (hA σ 43 30 0) n (sk (hA σ 43 30 0) n x0)) (sk (hA σ 43 30 0) n x0) (3 + 4 * (nI (sk (hA σ 43 30 0) n x0))) L) (Z ++ [(a3, .inl (E.2.1 2, 11, .inl T))]) := M
                  refine g_vret C M hr hlk ?_ (Nat.le_of_ble_eq_true rfl) (Nat.le_of_ble_eq_true rfl) dX12_clause_161
                  exact ⟨_, _, _, _, _, rfl, hW1, Or.inl ⟨clP_c3 c_18 hcl hm1 c_149, fc_pos (by decide) (by omega)⟩⟩
              · skip
                exact absurd ((nI_le9 (a := 5 + m9) (c := 9) (by omega) (by omega)).mpr (by omega)) c_133
            · skip
              have c_121 : ¬ isT (hA σ 43 30 0) (sk (hA σ 43 30 0) n x0) (wd (hA σ 43 30 0) n (sk (hA σ 43 30 0) n x0)) (10 + m9) := bz_0.mp c_121
              refine lv_iinc (v := nI ((5 + m9) + 1)) (lv' := [(3, .int (nI ((5 + m9) + 1))), (0, .ref (hO E 43)), (1, .ref (hR E 43 29 6)), (2, .ref a3)]) C.1 C.2.1 dX12_clause_124 hl (k := 0) rfl (nI_succ _).symm (by decide) rfl (fun ls hl => ?_)
              refine lv_goto (tgt := 106) C.1 C.2.1 dX12_clause_127 (by decide) ?_
              have q12 : nI ((5 + m9) + 1) = nI (5 + (m9 + 1)) := by rfl
              have hl : lv_has ls 4 [(3, .int (nI (5 + (m9 + 1)))), (0, .ref (hO E 43)), (1, .ref (hR E 43 29 6)), (2, .ref a3)] := by
                rw [← q12]
                exact lv_sub hl [0, 1, 2, 3] rfl
              exact ih106 (m9 + 1) hm1 (fun j hj9 => by by_cases e9 : j = m9; rw [e9]; exact c_121; exact hj j (by omega)) (by omega) _ _ _ M hl
      have q13 : 5 = nI (5 + 0) := by rfl
      have hl : lv_has ls 4 [(3, .int (nI (5 + 0))), (0, .ref (hO E 43)), (1, .ref (hR E 43 29 6)), (2, .ref a3)] := by
        rw [← q13]
        exact lv_sub hl [0, 1, 2, 3] rfl
      exact L106 ((5 - 0) + 1) 0 (Nat.zero_le 5) (fun j hj => absurd hj (Nat.not_lt_zero j)) (Nat.lt_succ_self _) _ _ _ M hl
    · skip
      have c_18 : isT (hA σ 43 30 0) (sk (hA σ 43 30 0) n x0) (wd (hA σ 43 30 0) n (sk (hA σ 43 30 0) n x0)) 4 := bz_ne0.mp c_18
      refine lv_aload_n C.1 C.2.1 dX12_clause_21 rfl (lv_at hl 0 rfl) ?_
      refine g_callv M (g_runV (As := []) (rest := []) C M 43 (m_word l E σ (Z ++ [(a3, .inl (E.2.1 2, 11, .inl T))]) (wd (hA σ 43 30 0) n (sk (hA σ 43 30 0) n x0)) (sk (hA σ 43 30 0) n x0) 0 L n hn hn3 hW1) clX12_word ivX12_word lk12_229 (by decide) rfl rfl ⟨Nat.le_of_ble_eq_true rfl, Nat.le_of_ble_eq_true rfl⟩ hl.1 rfl (Nat.le_of_ble_eq_true rfl) dX12_clause_22 ⟨Nat.le_of_ble_eq_true rfl, Nat.le_of_ble_eq_true rfl⟩) (fun u H locs hR M => ?_)
      refine W.widen (k := 0) (n := 0) (Nat.le_of_ble_eq_true rfl) (Nat.le_of_ble_eq_true rfl) ?_
      obtain ⟨ft22, hu, hw22⟩ := w_sp (by have := hW2; omega) (by have := hS2; omega) hR
      clear hR
      subst hu
      have M : hM E A s H locs (pM σ (wd (hA σ 43 30 0) n (sk (hA σ 43 30 0) n (wd (hA σ 43 30 0) n (sk (hA σ 43 30 0) n x0)))) (sk (hA σ 43 30 0) n (wd (hA σ 43 30 0) n (sk (hA σ 43 30 0) n x0))) ft22 L) (Z ++ [(a3, .inl (E.2.1 2, 11, .inl T))]) := M
      refine lv_iconst (v := 0) C.1 C.2.1 dX12_clause_25 (by decide) ?_
      refine lv_istore_n (lv' := [(3, .int 0), (0, .ref (hO E 43)), (1, .ref (hR E 43 29 6)), (2, .ref a3)]) C.1 C.2.1 dX12_clause_26 rfl hl (by decide) rfl (fun ls hl => ?_)
      have L27 : ∀ (n9 : Nat) (m9 : Nat), (m9 ≤ 5) → (∀ j, j < m9 → ¬ isT (hA σ 43 30 0) (sk (hA σ 43 30 0) n (wd (hA σ 43 30 0) n (sk (hA σ 43 30 0) n x0))) (wd (hA σ 43 30 0) n (sk (hA σ 43 30 0) n (wd (hA σ 43 30 0) n (sk (hA σ 43 30 0) n x0)))) (5 + j)) → 5 - m9 < n9 → ∀ (H : Heap) (locs : List Loc) (ls : Array Slot), hM E A s H locs (pM σ (wd (hA σ 43 30 0) n (sk (hA σ 43 30 0) n (wd (hA σ 43 30 0) n (sk (hA σ 43 30 0) n x0)))) (sk (hA σ 43 30 0) n (wd (hA σ 43 30 0) n (sk (hA σ 43 30 0) n x0))) ft22 L) (Z ++ [(a3, .inl (E.2.1 2, 11, .inl T))]) → lv_has ls 4 [(3, .int (nI m9)), (0, .ref (hO E 43)), (1, .ref (hR E 43 29 6)), (2, .ref a3)] → W p l e (hRm (6, 0, 0, 128)) s m [.ref (hO E 43), .ref (hR E 43 29 6), .ref a3].toArray below meth c H locs 0 0 (MQ below (hQv E (fun u => ∃ b a ft L' T', u = (pM σ b a ft L', Z ++ [(a3, .inl (E.2.1 2, 11, .inl T'))]) ∧ cRel (hA σ 43 30 0) n x0 T L b ft L' T') A) [.ref (hO E 43), .ref (hR E 43 29 6), .ref a3].toArray s 0 0 A) (F0 m 27 ls []) := by
        intro n9
        induction n9 with
        | zero =>
          intro m9 hm hj hn9
          exact absurd hn9 (Nat.not_lt_zero _)
        | succ n9 ih27 =>
          intro m9 hm hj hn27 H locs ls M hl
          refine lv_iload_n C.1 C.2.1 dX12_clause_27 rfl (lv_at hl 0 rfl) ?_
          refine lv_iconst (v := 5) C.1 C.2.1 dX12_clause_28 (by decide) ?_
          refine lv_icmp_ge (tgt := 50) C.1 C.2.1 dX12_clause_29 (by decide) (fun c_29 => ?_) (fun c_29 => ?_)
          · skip
            have hm5 : m9 = 5 := by have := ct_ge (n := 5) (k := m9) c_29; omega
            have hmk : mkI (hA σ 43 30 0) (sk (hA σ 43 30 0) n (wd (hA σ 43 30 0) n (sk (hA σ 43 30 0) n x0))) (wd (hA σ 43 30 0) n (sk (hA σ 43 30 0) n (wd (hA σ 43 30 0) n (sk (hA σ 43 30 0) n x0)))) = 5 := mk_is (Nat.le_refl 5) (by rw [hm5] at hj; exact hj) (Or.inl rfl)
            refine lv_iload_n C.1 C.2.1 dX12_clause_50 rfl (lv_at hl 0 rfl) ?_
            refine lv_iconst (v := 5) C.1 C.2.1 dX12_clause_51 (by decide) ?_
            refine lv_icmp_ne (tgt := 67) C.1 C.2.1 dX12_clause_52 (by decide) (fun c_52 => ?_) (fun c_52 => ?_)
            · skip
              exact absurd (show nI m9 = 5 by rw [hm5]; rfl) c_52
            · skip
              refine lv_aload_n C.1 C.2.1 dX12_clause_55 rfl (lv_at hl 1 rfl) ?_
              refine lv_iconst (v := 1) C.1 C.2.1 dX12_clause_56 (by decide) ?_
              refine lv_aload_n C.1 C.2.1 dX12_clause_57 rfl (lv_at hl 1 rfl) ?_
              refine g_getI C M 43 33 (by decide) rfl rfl (by decide) fl12_179 (v := nI (sk (hA σ 43 30 0) n (wd (hA σ 43 30 0) n (sk (hA σ 43 30 0) n x0)))) rfl dX12_clause_58 ?_
              refine g_callv M (g_runV (As := [.int 1, .int (nI (sk (hA σ 43 30 0) n (wd (hA σ 43 30 0) n (sk (hA σ 43 30 0) n x0))))]) (rest := []) C M 43 (m_fails l E (pM σ (wd (hA σ 43 30 0) n (sk (hA σ 43 30 0) n (wd (hA σ 43 30 0) n (sk (hA σ 43 30 0) n x0)))) (sk (hA σ 43 30 0) n (wd (hA σ 43 30 0) n (sk (hA σ 43 30 0) n x0))) ft22 L) (Z ++ [(a3, .inl (E.2.1 2, 11, .inl T))]) 1 (nI (sk (hA σ 43 30 0) n (wd (hA σ 43 30 0) n (sk (hA σ 43 30 0) n x0))))) clX12_fails ivX12_fails lk12_185 (by decide) rfl rfl ⟨Nat.le_of_ble_eq_true rfl, Nat.le_of_ble_eq_true rfl⟩ hl.1 rfl (Nat.le_of_ble_eq_true rfl) dX12_clause_61 ⟨Nat.le_of_ble_eq_true rfl, Nat.le_of_ble_eq_true rfl⟩) (fun u H locs hR M => ?_)
              refine W.widen (k := 0) (n := 0) (Nat.le_of_ble_eq_true rfl) (Nat.le_of_ble_eq_true rfl) ?_
              rw [pM_fail, ftl_w hw22 (by omega)] at hR
              subst hR
              have M : hM E A s H locs (pM σ (wd (hA σ 43 30 0) n (sk (hA σ 43 30 0) n (wd (hA σ 43 30 0) n (sk (hA σ 43 30 0) n x0)))) (sk (hA σ 43 30 0) n (wd (hA σ 43 30 0) n (sk (hA σ 43 30 0) n x0))) (1 + 4 * (nI (sk (hA σ 43 30 0) n (wd (hA σ 43 30 0) n (sk (hA σ 43 30 0) n x0))))) L) (Z ++ [(a3, .inl (E.2.1 2, 11, .inl T))]) := M
              refine lv_goto (tgt := 82) C.1 C.2.1 dX12_clause_64 (by decide) ?_
              refine lv_aload_n C.1 C.2.1 dX12_clause_82 rfl (lv_at hl 1 rfl) ?_
              refine g_getI C M 43 34 (by decide) rfl rfl (by decide) fl12_173 (v := (1 + 4 * (nI (sk (hA σ 43 30 0) n (wd (hA σ 43 30 0) n (sk (hA σ 43 30 0) n x0)))))) rfl dX12_clause_83 ?_
              refine lv_if_ne (tgt := 103) C.1 C.2.1 dX12_clause_86 (by decide) (fun c_86 => ?_) (fun c_86 => ?_)
              · skip
                refine g_vret C M hr hlk ?_ (Nat.le_of_ble_eq_true rfl) (Nat.le_of_ble_eq_true rfl) dX12_clause_103
                exact ⟨_, _, _, _, _, rfl, hW2, Or.inl ⟨clP_w5 c_18 hmk, fc_pos (by decide) (by omega)⟩⟩
              · skip
                exact absurd c_86 (fc_ne (by decide) (by omega))
          · skip
            have hm1 : m9 < 5 := ct_nge (n := 5) (k := m9) c_29
            refine lv_aload_n C.1 C.2.1 dX12_clause_32 rfl (lv_at hl 1 rfl) ?_
            refine lv_aload_n C.1 C.2.1 dX12_clause_33 rfl (lv_at hl 1 rfl) ?_
            refine lv_iload_n C.1 C.2.1 dX12_clause_34 rfl (lv_at hl 0 rfl) ?_
            refine g_callr M (g_runV (As := [.int (nI m9)]) (rest := [.ref (hO E 43)]) C M 43 (m_markOf l E (pM σ (wd (hA σ 43 30 0) n (sk (hA σ 43 30 0) n (wd (hA σ 43 30 0) n (sk (hA σ 43 30 0) n x0)))) (sk (hA σ 43 30 0) n (wd (hA σ 43 30 0) n (sk (hA σ 43 30 0) n x0))) ft22 L) (Z ++ [(a3, .inl (E.2.1 2, 11, .inl T))]) m9 hm1) clX12_markOf ivX12_markOf lk12_234 (by decide) rfl rfl ⟨Nat.le_of_ble_eq_true rfl, Nat.le_of_ble_eq_true rfl⟩ hl.1 rfl (Nat.le_of_ble_eq_true rfl) dX12_clause_35 ⟨Nat.le_of_ble_eq_true rfl, Nat.le_of_ble_eq_true rfl⟩) (fun r14 u H locs hR M => ?_)
            refine W.widen (k := 0) (n := 0) (Nat.le_of_ble_eq_true rfl) (Nat.le_of_ble_eq_true rfl) ?_
            obtain ⟨rfl, rfl⟩ := hR
            have M : hM E A s H locs (pM σ (wd (hA σ 43 30 0) n (sk (hA σ 43 30 0) n (wd (hA σ 43 30 0) n (sk (hA σ 43 30 0) n x0)))) (sk (hA σ 43 30 0) n (wd (hA σ 43 30 0) n (sk (hA σ 43 30 0) n x0))) ft22 L) (Z ++ [(a3, .inl (E.2.1 2, 11, .inl T))]) := M
            refine g_calli M (g_runV (As := [.ref (E.2.2.2.1 (5 + m9))]) (rest := []) C M 43 (m_is l E σ (Z ++ [(a3, .inl (E.2.1 2, 11, .inl T))]) (wd (hA σ 43 30 0) n (sk (hA σ 43 30 0) n (wd (hA σ 43 30 0) n (sk (hA σ 43 30 0) n x0)))) (sk (hA σ 43 30 0) n (wd (hA σ 43 30 0) n (sk (hA σ 43 30 0) n x0))) ft22 L (scn_ge _ _ _ _) (by have := hW2; omega) (5 + m9) (by omega)) clX12_is ivX12_is lk12_219 (by decide) rfl rfl ⟨Nat.le_of_ble_eq_true rfl, Nat.le_of_ble_eq_true rfl⟩ hl.1 rfl (Nat.le_of_ble_eq_true rfl) dX12_clause_38 ⟨Nat.le_of_ble_eq_true rfl, Nat.le_of_ble_eq_true rfl⟩) (fun r15 u H locs hR M => ?_)
            refine W.widen (k := 0) (n := 0) (Nat.le_of_ble_eq_true rfl) (Nat.le_of_ble_eq_true rfl) ?_
            obtain ⟨rfl, rfl⟩ := hR
            have M : hM E A s H locs (pM σ (wd (hA σ 43 30 0) n (sk (hA σ 43 30 0) n (wd (hA σ 43 30 0) n (sk (hA σ 43 30 0) n x0)))) (sk (hA σ 43 30 0) n (wd (hA σ 43 30 0) n (sk (hA σ 43 30 0) n x0))) ft22 L) (Z ++ [(a3, .inl (E.2.1 2, 11, .inl T))]) := M
            refine lv_if_ne (tgt := 50) C.1 C.2.1 dX12_clause_41 (by decide) (fun c_41 => ?_) (fun c_41 => ?_)
            · skip
              have c_41 : isT (hA σ 43 30 0) (sk (hA σ 43 30 0) n (wd (hA σ 43 30 0) n (sk (hA σ 43 30 0) n x0))) (wd (hA σ 43 30 0) n (sk (hA σ 43 30 0) n (wd (hA σ 43 30 0) n (sk (hA σ 43 30 0) n x0)))) (5 + m9) := bz_ne0.mp c_41
              have hz22 : ft22 = 0 := hw22.elim (fun h9 => absurd h9.1 (isT_ne (by omega) c_41)) (fun h9 => h9.2)
              subst hz22
              have hmk : mkI (hA σ 43 30 0) (sk (hA σ 43 30 0) n (wd (hA σ 43 30 0) n (sk (hA σ 43 30 0) n x0))) (wd (hA σ 43 30 0) n (sk (hA σ 43 30 0) n (wd (hA σ 43 30 0) n (sk (hA σ 43 30 0) n x0)))) = m9 := mk_is (by omega) hj (Or.inr c_41)
              refine lv_iload_n C.1 C.2.1 dX12_clause_50 rfl (lv_at hl 0 rfl) ?_
              refine lv_iconst (v := 5) C.1 C.2.1 dX12_clause_51 (by decide) ?_
              refine lv_icmp_ne (tgt := 67) C.1 C.2.1 dX12_clause_52 (by decide) (fun c_52 => ?_) (fun c_52 => ?_)
              · skip
                refine lv_aload_n C.1 C.2.1 dX12_clause_67 rfl (lv_at hl 3 rfl) ?_
                refine lv_iload_n C.1 C.2.1 dX12_clause_68 rfl (lv_at hl 0 rfl) ?_
                refine g_xzald C M Z.length zat0 m9 (nI_clamp (by omega)) (vp_in_nI (by omega) (by decide)) (v := T m9) rfl dX12_clause_69 ?_
                refine lv_if_eq (tgt := 82) C.1 C.2.1 dX12_clause_70 (by decide) (fun c_70 => ?_) (fun c_70 => ?_)
                · skip
                  refine lv_aload_n C.1 C.2.1 dX12_clause_82 rfl (lv_at hl 1 rfl) ?_
                  refine g_getI C M 43 34 (by decide) rfl rfl (by decide) fl12_173 (v := 0) rfl dX12_clause_83 ?_
                  refine lv_if_ne (tgt := 103) C.1 C.2.1 dX12_clause_86 (by decide) (fun h9 => absurd h9 (by decide)) (fun _ => ?_)
                  refine lv_aload_n C.1 C.2.1 dX12_clause_89 rfl (lv_at hl 3 rfl) ?_
                  refine lv_iload_n C.1 C.2.1 dX12_clause_90 rfl (lv_at hl 0 rfl) ?_
                  refine lv_iconst (v := 1) C.1 C.2.1 dX12_clause_91 (by decide) ?_
                  refine g_xzast C M Z.length zat0 (Or.inr rfl) m9 (nI_clamp (by omega)) (vp_in_nI (by omega) (by decide)) dX12_clause_92 (fun H locs M => ?_)
                  have M : hM E A s H locs (pM σ (wd (hA σ 43 30 0) n (sk (hA σ 43 30 0) n (wd (hA σ 43 30 0) n (sk (hA σ 43 30 0) n x0)))) (sk (hA σ 43 30 0) n (wd (hA σ 43 30 0) n (sk (hA σ 43 30 0) n x0))) 0 L) (Z ++ [(a3, .inl (E.2.1 2, 11, .inl (upd T m9 1)))]) := by rw [zset0] at M; exact M
                  refine lv_aload_n C.1 C.2.1 dX12_clause_93 rfl (lv_at hl 2 rfl) ?_
                  refine lv_iload_n C.1 C.2.1 dX12_clause_94 rfl (lv_at hl 0 rfl) ?_
                  refine lv_aload_n C.1 C.2.1 dX12_clause_95 rfl (lv_at hl 1 rfl) ?_
                  refine lv_iconst (v := 0) C.1 C.2.1 dX12_clause_96 (by decide) ?_
                  refine lv_bipush (v := 99) C.1 C.2.1 dX12_clause_97 (by decide) ?_
                  refine g_calli M (g_runV (As := [.int 0, .int 99]) (rest := [.int (nI m9), .ref (hR E 43 29 6)]) C M 43 (m_number l E σ (Z ++ [(a3, .inl (E.2.1 2, 11, .inl (upd T m9 1)))]) (wd (hA σ 43 30 0) n (sk (hA σ 43 30 0) n (wd (hA σ 43 30 0) n (sk (hA σ 43 30 0) n x0)))) (sk (hA σ 43 30 0) n (wd (hA σ 43 30 0) n (sk (hA σ 43 30 0) n x0))) L n hn hn3 hW2 99 (by decide)) clX12_number ivX12_number lk12_238 (by decide) rfl rfl ⟨Nat.le_of_ble_eq_true rfl, Nat.le_of_ble_eq_true rfl⟩ hl.1 rfl (Nat.le_of_ble_eq_true rfl) dX12_clause_99 ⟨Nat.le_of_ble_eq_true rfl, Nat.le_of_ble_eq_true rfl⟩) (fun r16 u H locs hR M => ?_)
                  refine W.widen (k := 0) (n := 0) (Nat.le_of_ble_eq_true rfl) (Nat.le_of_ble_eq_true rfl) ?_
                  obtain ⟨b99, a99, f99, hu, hN99⟩ := hR
                  subst hu
                  have M : hM E A s H locs (pM σ b99 a99 f99 L) (Z ++ [(a3, .inl (E.2.1 2, 11, .inl (upd T m9 1)))]) := M
                  refine g_riast C M 43 29 6 (by decide) rfl (by decide) (by decide) m9 (nI_clamp (by omega)) (vp_in_nI (by omega) (by decide)) dX12_clause_102 (fun H locs M => ?_)
                  have M : hM E A s H locs (sA (pM σ b99 a99 f99 L) 43 29 6 (upd L m9 r16)) (Z ++ [(a3, .inl (E.2.1 2, 11, .inl (upd T m9 1)))]) := M
                  rw [pM_L] at M
                  refine g_vret C M hr hlk ?_ (Nat.le_of_ble_eq_true rfl) (Nat.le_of_ble_eq_true rfl) dX12_clause_103
                  exact ⟨_, _, _, _, _, rfl, hN99.1, clP_wn c_18 hmk hm1 c_70 hN99.2⟩
                · skip
                  refine lv_aload_n C.1 C.2.1 dX12_clause_73 rfl (lv_at hl 1 rfl) ?_
                  refine lv_iconst (v := 3) C.1 C.2.1 dX12_clause_74 (by decide) ?_
                  refine lv_aload_n C.1 C.2.1 dX12_clause_75 rfl (lv_at hl 1 rfl) ?_
                  refine g_getI C M 43 33 (by decide) rfl rfl (by decide) fl12_179 (v := nI (sk (hA σ 43 30 0) n (wd (hA σ 43 30 0) n (sk (hA σ 43 30 0) n x0)))) rfl dX12_clause_76 ?_
                  refine g_callv M (g_runV (As := [.int 3, .int (nI (sk (hA σ 43 30 0) n (wd (hA σ 43 30 0) n (sk (hA σ 43 30 0) n x0))))]) (rest := []) C M 43 (m_fails l E (pM σ (wd (hA σ 43 30 0) n (sk (hA σ 43 30 0) n (wd (hA σ 43 30 0) n (sk (hA σ 43 30 0) n x0)))) (sk (hA σ 43 30 0) n (wd (hA σ 43 30 0) n (sk (hA σ 43 30 0) n x0))) 0 L) (Z ++ [(a3, .inl (E.2.1 2, 11, .inl T))]) 3 (nI (sk (hA σ 43 30 0) n (wd (hA σ 43 30 0) n (sk (hA σ 43 30 0) n x0))))) clX12_fails ivX12_fails lk12_185 (by decide) rfl rfl ⟨Nat.le_of_ble_eq_true rfl, Nat.le_of_ble_eq_true rfl⟩ hl.1 rfl (Nat.le_of_ble_eq_true rfl) dX12_clause_79 ⟨Nat.le_of_ble_eq_true rfl, Nat.le_of_ble_eq_true rfl⟩) (fun u H locs hR M => ?_)
                  refine W.widen (k := 0) (n := 0) (Nat.le_of_ble_eq_true rfl) (Nat.le_of_ble_eq_true rfl) ?_
                  rw [pM_fail, ftl_0] at hR
                  subst hR
                  have M : hM E A s H locs (pM σ (wd (hA σ 43 30 0) n (sk (hA σ 43 30 0) n (wd (hA σ 43 30 0) n (sk (hA σ 43 30 0) n x0)))) (sk (hA σ 43 30 0) n (wd (hA σ 43 30 0) n (sk (hA σ 43 30 0) n x0))) (3 + 4 * (nI (sk (hA σ 43 30 0) n (wd (hA σ 43 30 0) n (sk (hA σ 43 30 0) n x0))))) L) (Z ++ [(a3, .inl (E.2.1 2, 11, .inl T))]) := M
                  refine lv_aload_n C.1 C.2.1 dX12_clause_82 rfl (lv_at hl 1 rfl) ?_
                  refine g_getI C M 43 34 (by decide) rfl rfl (by decide) fl12_173 (v := (3 + 4 * (nI (sk (hA σ 43 30 0) n (wd (hA σ 43 30 0) n (sk (hA σ 43 30 0) n x0)))))) rfl dX12_clause_83 ?_
                  refine lv_if_ne (tgt := 103) C.1 C.2.1 dX12_clause_86 (by decide) (fun c_86 => ?_) (fun c_86 => ?_)
                  · skip
                    refine g_vret C M hr hlk ?_ (Nat.le_of_ble_eq_true rfl) (Nat.le_of_ble_eq_true rfl) dX12_clause_103
                    exact ⟨_, _, _, _, _, rfl, hW2, Or.inl ⟨clP_w3 c_18 hmk hm1 c_70, fc_pos (by decide) (by omega)⟩⟩
                  · skip
                    exact absurd c_86 (fc_ne (by decide) (by omega))
              · skip
                exact absurd (ct_eq 5 c_52) (by omega)
            · skip
              have c_41 : ¬ isT (hA σ 43 30 0) (sk (hA σ 43 30 0) n (wd (hA σ 43 30 0) n (sk (hA σ 43 30 0) n x0))) (wd (hA σ 43 30 0) n (sk (hA σ 43 30 0) n (wd (hA σ 43 30 0) n (sk (hA σ 43 30 0) n x0)))) (5 + m9) := bz_0.mp c_41
              refine lv_iinc (v := nI (m9 + 1)) (lv' := [(3, .int (nI (m9 + 1))), (0, .ref (hO E 43)), (1, .ref (hR E 43 29 6)), (2, .ref a3)]) C.1 C.2.1 dX12_clause_44 hl (k := 0) rfl (nI_succ _).symm (by decide) rfl (fun ls hl => ?_)
              refine lv_goto (tgt := 27) C.1 C.2.1 dX12_clause_47 (by decide) ?_
              exact ih27 (m9 + 1) hm1 (fun j hj9 => by by_cases e9 : j = m9; rw [e9]; exact c_41; exact hj j (by omega)) (by omega) _ _ _ M (lv_sub hl [0, 1, 2, 3] rfl)
      have q17 : 0 = nI 0 := by rfl
      have hl : lv_has ls 4 [(3, .int (nI 0)), (0, .ref (hO E 43)), (1, .ref (hR E 43 29 6)), (2, .ref a3)] := by
        rw [← q17]
        exact lv_sub hl [0, 1, 2, 3] rfl
      exact L27 ((5 - 0) + 1) 0 (Nat.zero_le 5) (fun j hj => absurd hj (Nat.not_lt_zero j)) (Nat.lt_succ_self _) _ _ _ M hl
  · skip
    refine g_vret C M hr hlk ?_ (Nat.le_of_ble_eq_true rfl) (Nat.le_of_ble_eq_true rfl) dX12_clause_11
    rcases hw1 with ⟨h1, h2⟩ | ⟨_, h2⟩; exact ⟨_, _, _, _, _, rfl, hW1, Or.inl ⟨by rw [h2]; exact clP_e h1, by rw [h2]; exact fc_pos (by decide) (by omega)⟩⟩; rw [h2] at c_8; exact absurd (by decide) c_8
