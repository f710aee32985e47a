set_option maxHeartbeats 4000000 in
set_option maxRecDepth 100000 in
theorem m_believe (l : Launch) (E : hEnv) (σ : hMem) (Z : va_W) (n : Nat) (hn : hI σ 43 3 = nI n) (hn40 : n ≤ 40) (hW : sayW σ n) (hlg : ∀ k, k < n → vp_in (hA σ 43 4 0 k) 6) (hi01 : ∀ k, hA σ 43 10 0 k = 0 ∨ hA σ 43 10 0 k = 1) : hMet l yX12_believe cX12_believe 5 none (1, 1, 40, 23) E σ Z [.ref (hO E 43)] (hQv E (fun u => ∃ IN F, u = (sIG σ IN F, Z) ∧ Bel n (mTr σ) (mEP σ n) (fun k => ¬ IN k = 0) ∧ (∀ k, IN k = 0 ∨ IN k = 1) ∧ PT (mEP σ n (fun k => ¬ IN k = 0)) 16 (mX F) ∧ mBd F 655360000)) := by
  refine hMet.of (by decide) (Nat.le_of_ble_eq_true rfl) (fun p e s m below meth c A ls C M hr hlk hl => ?_)
  have hl : lv_has ls 5 [(0, .ref (hO E 43))] := hl
  generalize s.heap = H at M ⊢
  generalize ([] : List Loc) = locs at M ⊢
  refine lv_bipush (v := 40) C.1 C.2.1 dX12_believe_0 (by decide) ?_
  refine g_newz C M (k := 40) ac_boolean (by decide) (by decide) (by decide) (Nat.le_of_ble_eq_true rfl) (Nat.le_of_ble_eq_true rfl) dX12_believe_2 (fun a1 H M => ?_)
  have M : hM E A s H locs σ (Z ++ [(a1, .inl (E.2.1 2, 40, .inl (fun _ => 0)))]) := M
  refine lv_astore_n (lv' := [(1, .ref a1), (0, .ref (hO E 43))]) C.1 C.2.1 dX12_believe_4 rfl hl (by decide) rfl (fun ls hl => ?_)
  refine lv_iconst (v := 0) C.1 C.2.1 dX12_believe_5 (by decide) ?_
  refine lv_istore_n (lv' := [(2, .int 0), (1, .ref a1), (0, .ref (hO E 43))]) C.1 C.2.1 dX12_believe_6 rfl hl (by decide) rfl (fun ls hl => ?_)
  have L7 : ∀ (n9 : Nat) (k : Nat), (k ≤ 40) → 40 - k < n9 → ∀ (H : Heap) (locs : List Loc) (ls : Array Slot), hM E A s H locs (sA σ 43 10 0 (pre (fun _ => 0) (hA σ 43 10 0) k)) (Z ++ [(a1, .inl (E.2.1 2, 40, .inl (fun _ => 0)))]) → lv_has ls 5 [(2, .int (nI k)), (0, .ref (hO E 43)), (1, .ref a1)] → W p l e (hRm (1, 1, 40, 23)) s m [.ref (hO E 43)].toArray below meth c H locs 1 40 (MQ below (hQv E (fun u => ∃ IN F, u = (sIG σ IN F, Z) ∧ Bel n (mTr σ) (mEP σ n) (fun k => ¬ IN k = 0) ∧ (∀ k, IN k = 0 ∨ IN k = 1) ∧ PT (mEP σ n (fun k => ¬ IN k = 0)) 16 (mX F) ∧ mBd F 655360000) A) [.ref (hO E 43)].toArray s 1 40 A) (F0 m 7 ls []) := by
    intro n9
    induction n9 with
    | zero =>
      intro k hk hn9
      exact absurd hn9 (Nat.not_lt_zero _)
    | succ n9 ih7 =>
      intro k hk hn7 H locs ls M hl
      refine lv_iload_n C.1 C.2.1 dX12_believe_7 rfl (lv_at hl 0 rfl) ?_
      refine lv_bipush (v := 40) C.1 C.2.1 dX12_believe_8 (by decide) ?_
      refine lv_icmp_ge (tgt := 26) C.1 C.2.1 dX12_believe_10 (by decide) (fun c_10 => ?_) (fun c_10 => ?_)
      · skip
        have hkn : k = 40 := by have := ct_ge (n := 40) (k := k) c_10; omega
        have hl : lv_has ls 5 [(2, .int (nI 40)), (0, .ref (hO E 43)), (1, .ref a1)] := by first | exact hl | (rw [hkn] at hl; exact hl)
        have M : hM E A s H locs (sA σ 43 10 0 (pre (fun _ => 0) (hA σ 43 10 0) 40)) (Z ++ [(a1, .inl (E.2.1 2, 40, .inl (fun _ => 0)))]) := by first | exact M | (rw [hkn] at M; exact M)
        refine lv_iconst (v := 0) C.1 C.2.1 dX12_believe_26 (by decide) ?_
        refine lv_istore_n (lv' := [(2, .int 0), (0, .ref (hO E 43)), (1, .ref a1)]) C.1 C.2.1 dX12_believe_27 rfl hl (by decide) rfl (fun ls hl => ?_)
        have L28 : ∀ (n9 : Nat) (t : Nat) (g : Nat → Int32) (IN : Nat → Int32) (F : Nat → Nat → Int64), (t ≤ n) → (Tn σ n t (mTr σ) g IN) → n - t < n9 → ∀ (H : Heap) (locs : List Loc) (ls : Array Slot), hM E A s H locs (sIG σ IN F) (Z ++ [(a1, .inl (E.2.1 2, 40, .inl g))]) → lv_has ls 5 [(2, .int (nI t)), (0, .ref (hO E 43)), (1, .ref a1)] → W p l e (hRm (1, 1, 40, 23)) s m [.ref (hO E 43)].toArray below meth c H locs 1 40 (MQ below (hQv E (fun u => ∃ IN F, u = (sIG σ IN F, Z) ∧ Bel n (mTr σ) (mEP σ n) (fun k => ¬ IN k = 0) ∧ (∀ k, IN k = 0 ∨ IN k = 1) ∧ PT (mEP σ n (fun k => ¬ IN k = 0)) 16 (mX F) ∧ mBd F 655360000) A) [.ref (hO E 43)].toArray s 1 40 A) (F0 m 28 ls []) := by
          intro n9
          induction n9 with
          | zero =>
            intro t g IN F ht hT hn9
            exact absurd hn9 (Nat.not_lt_zero _)
          | succ n9 ih28 =>
            intro t g IN F ht hT hn28 H locs ls M hl
            refine lv_iload_n C.1 C.2.1 dX12_believe_28 rfl (lv_at hl 0 rfl) ?_
            refine lv_aload_n C.1 C.2.1 dX12_believe_29 rfl (lv_at hl 1 rfl) ?_
            refine g_getI C M 43 3 (by decide) rfl rfl (by decide) fl12_135 (v := nI n) hn dX12_believe_30 ?_
            refine lv_icmp_ge (tgt := 124) C.1 C.2.1 dX12_believe_33 (by decide) (fun c_33 => ?_) (fun c_33 => ?_)
            · skip
              have hkn : t = n := by have := ct_ge (n := n) (k := t) c_33; omega
              have hl : lv_has ls 5 [(2, .int (nI n)), (0, .ref (hO E 43)), (1, .ref a1)] := by first | exact hl | (rw [hkn] at hl; exact hl)
              have M : hM E A s H locs (sIG σ IN F) (Z ++ [(a1, .inl (E.2.1 2, 40, .inl g))]) := by first | exact M | (rw [hkn] at M; exact M)
              refine lv_aload_n C.1 C.2.1 dX12_believe_124 rfl (lv_at hl 1 rfl) ?_
              refine g_calli M (g_runV (As := []) (rest := []) C M 43 (m_canBe l E (sIG σ IN F) (Z ++ [(a1, .inl (E.2.1 2, 40, .inl g))]) n hn hn40 (sayW_IG hW _ _)) clX12_canBe ivX12_canBe lk12_140 (by decide) rfl rfl ⟨Nat.le_of_ble_eq_true rfl, Nat.le_of_ble_eq_true rfl⟩ hl.1 rfl (Nat.le_of_ble_eq_true rfl) dX12_believe_125 ⟨Nat.le_of_ble_eq_true rfl, Nat.le_of_ble_eq_true rfl⟩) (fun r2 u H locs hR M => ?_)
              refine W.widen (k := 1) (n := 40) (Nat.le_of_ble_eq_true rfl) (Nat.le_of_ble_eq_true rfl) ?_
              have hR : (r2 = 1 ∧ ∃ F8, u = (sIG σ IN F8, Z ++ [(a1, .inl (E.2.1 2, 40, .inl g))]) ∧ Km (sIG σ IN F) n 16 F8) ∨ (r2 = 0 ∧ (∃ F8, u = (sIG σ IN F8, Z ++ [(a1, .inl (E.2.1 2, 40, .inl g))])) ∧ ¬ NoNeg (mEP σ n (fun k => ¬ IN k = 0))) := by
                rcases hR with ⟨h1, F9, h2, h3⟩ | ⟨h1, ⟨F9, h2⟩, h3⟩
                · exact Or.inl ⟨h1, F9, by rw [h2, sIG_G], h3⟩
                · exact Or.inr ⟨h1, ⟨F9, by rw [h2, sIG_G]⟩, h3⟩
              obtain ⟨F125, hu, hRR⟩ : ∃ F9, u = (sIG σ IN F9, Z ++ [(a1, .inl (E.2.1 2, 40, .inl g))]) ∧ ((r2 = 1 ∧ Km (sIG σ IN F) n 16 F9) ∨ (r2 = 0 ∧ ¬ NoNeg (mEP σ n (fun k => ¬ IN k = 0)))) := by
                rcases hR with ⟨h1, F9, h2, h3⟩ | ⟨h1, ⟨F9, h2⟩, h3⟩
                · exact ⟨F9, h2, Or.inl ⟨h1, h3⟩⟩
                · exact ⟨F9, h2, Or.inr ⟨h1, h3⟩⟩
              subst hu
              have M : hM E A s H locs (sIG σ IN F125) (Z ++ [(a1, .inl (E.2.1 2, 40, .inl g))]) := M
              refine lv_pop C.1 C.2.1 dX12_believe_128 rfl ?_
              refine g_vret C M.drop hr hlk ?_ (Nat.le_of_ble_eq_true rfl) (Nat.le_of_ble_eq_true rfl) dX12_believe_129
              exact ⟨IN, F125, rfl, by rw [hkn] at hT; exact hT.bel, hT.2.2.2.2.2.1, by rcases hRR with ⟨_, h2⟩ | ⟨_, h2⟩; exact h2.1; exact absurd hT.2.2.2.2.1 h2, by rcases hRR with ⟨_, h2⟩ | ⟨_, h2⟩; exact h2.2; exact absurd hT.2.2.2.2.1 h2⟩
            · skip
              have ht1 : t < n := ct_nge (n := n) (k := t) c_33
              refine lv_iconst (v := (-1)) C.1 C.2.1 dX12_believe_36 (by decide) ?_
              refine lv_istore_n (lv' := [(3, .int (-1)), (2, .int (nI t)), (0, .ref (hO E 43)), (1, .ref a1)]) C.1 C.2.1 dX12_believe_37 rfl hl (by decide) rfl (fun ls hl => ?_)
              refine lv_iconst (v := 0) C.1 C.2.1 dX12_believe_38 (by decide) ?_
              refine lv_istore (lv' := [(4, .int 0), (3, .int (-1)), (2, .int (nI t)), (0, .ref (hO E 43)), (1, .ref a1)]) C.1 C.2.1 dX12_believe_39 hl (by decide) rfl (fun ls hl => ?_)
              have L41 : ∀ (n9 : Nat) (k : Nat), (k ≤ n) → n - k < n9 → ∀ (H : Heap) (locs : List Loc) (ls : Array Slot), hM E A s H locs (sIG σ IN F) (Z ++ [(a1, .inl (E.2.1 2, 40, .inl g))]) → lv_has ls 5 [(4, .int (nI k)), (3, .int (bst g (mTr σ) k)), (0, .ref (hO E 43)), (1, .ref a1), (2, .int (nI t))] → W p l e (hRm (1, 1, 40, 23)) s m [.ref (hO E 43)].toArray below meth c H locs 1 40 (MQ below (hQv E (fun u => ∃ IN F, u = (sIG σ IN F, Z) ∧ Bel n (mTr σ) (mEP σ n) (fun k => ¬ IN k = 0) ∧ (∀ k, IN k = 0 ∨ IN k = 1) ∧ PT (mEP σ n (fun k => ¬ IN k = 0)) 16 (mX F) ∧ mBd F 655360000) A) [.ref (hO E 43)].toArray s 1 40 A) (F0 m 41 ls []) := by
                intro n9
                induction n9 with
                | zero =>
                  intro k hk hn9
                  exact absurd hn9 (Nat.not_lt_zero _)
                | succ n9 ih41 =>
                  intro k hk hn41 H locs ls M hl
                  refine lv_iload C.1 C.2.1 dX12_believe_41 (lv_at hl 0 rfl) ?_
                  refine lv_aload_n C.1 C.2.1 dX12_believe_43 rfl (lv_at hl 2 rfl) ?_
                  refine g_getI C M 43 3 (by decide) rfl rfl (by decide) fl12_135 (v := nI n) hn dX12_believe_44 ?_
                  refine lv_icmp_ge (tgt := 97) C.1 C.2.1 dX12_believe_47 (by decide) (fun c_47 => ?_) (fun c_47 => ?_)
                  · skip
                    have hkn : k = n := by have := ct_ge (n := n) (k := k) c_47; omega
                    have hl : lv_has ls 5 [(4, .int (nI n)), (3, .int (bst g (mTr σ) n)), (0, .ref (hO E 43)), (1, .ref a1), (2, .int (nI t))] := by first | exact hl | (rw [hkn] at hl; exact hl)
                    have M : hM E A s H locs (sIG σ IN F) (Z ++ [(a1, .inl (E.2.1 2, 40, .inl g))]) := by first | exact M | (rw [hkn] at M; exact M)
                    obtain ⟨b, hb1, hbe, hgb, hbm⟩ : ∃ b, b < n ∧ bst g (mTr σ) n = nI b ∧ g b = 0 ∧ ∀ j, j < n → g j = 0 → ¬ bef (mTr σ) j b := by
                      rcases bst_spec g (mTr σ) n (by omega) with ⟨h1, h2⟩ | h1
                      · exact absurd (cnz_lt n h2) (by have := hT.1; omega)
                      · exact h1
                    have hl : lv_has ls 5 [(4, .int (nI n)), (3, .int (nI b)), (0, .ref (hO E 43)), (1, .ref a1), (2, .int (nI t))] := by rw [← hbe]; exact hl
                    refine lv_aload_n C.1 C.2.1 dX12_believe_97 rfl (lv_at hl 3 rfl) ?_
                    refine lv_iload_n C.1 C.2.1 dX12_believe_98 rfl (lv_at hl 1 rfl) ?_
                    refine lv_iconst (v := 1) C.1 C.2.1 dX12_believe_99 (by decide) ?_
                    refine g_xzast C M Z.length zat0 (Or.inr rfl) b (nI_clamp (by omega)) (vp_in_nI (by omega) (by decide)) dX12_believe_100 (fun H locs M => ?_)
                    have M : hM E A s H locs (sIG σ IN F) (Z ++ [(a1, .inl (E.2.1 2, 40, .inl (upd g b 1)))]) := by rw [zset0] at M; exact M
                    refine lv_aload_n C.1 C.2.1 dX12_believe_101 rfl (lv_at hl 2 rfl) ?_
                    refine g_getA C M 43 10 (by decide) rfl rfl (by decide) fl12_33 dX12_believe_102 ?_
                    refine lv_iload_n C.1 C.2.1 dX12_believe_105 rfl (lv_at hl 1 rfl) ?_
                    refine lv_iconst (v := 1) C.1 C.2.1 dX12_believe_106 (by decide) ?_
                    refine g_zast C M 43 10 (by decide) rfl (Or.inr rfl) b (nI_clamp (by omega)) (vp_in_nI (by omega) (by decide)) dX12_believe_107 (fun H locs M => ?_)
                    have M : hM E A s H locs (sA (sIG σ IN F) 43 10 0 (upd IN b 1)) (Z ++ [(a1, .inl (E.2.1 2, 40, .inl (upd g b 1)))]) := M
                    rw [sIG_put] at M
                    refine lv_aload_n C.1 C.2.1 dX12_believe_108 rfl (lv_at hl 2 rfl) ?_
                    refine g_getA C M 43 10 (by decide) rfl rfl (by decide) fl12_33 dX12_believe_109 ?_
                    refine lv_iload_n C.1 C.2.1 dX12_believe_112 rfl (lv_at hl 1 rfl) ?_
                    refine lv_aload_n C.1 C.2.1 dX12_believe_113 rfl (lv_at hl 2 rfl) ?_
                    refine g_calli M (g_runV (As := []) (rest := [.int (nI b), .ref (hR E 43 10 0)]) C M 43 (m_canBe l E (sIG σ (upd IN b 1) F) (Z ++ [(a1, .inl (E.2.1 2, 40, .inl (upd g b 1)))]) n hn hn40 (sayW_IG hW _ _)) clX12_canBe ivX12_canBe lk12_140 (by decide) rfl rfl ⟨Nat.le_of_ble_eq_true rfl, Nat.le_of_ble_eq_true rfl⟩ hl.1 rfl (Nat.le_of_ble_eq_true rfl) dX12_believe_114 ⟨Nat.le_of_ble_eq_true rfl, Nat.le_of_ble_eq_true rfl⟩) (fun r3 u H locs hR M => ?_)
                    refine W.widen (k := 1) (n := 40) (Nat.le_of_ble_eq_true rfl) (Nat.le_of_ble_eq_true rfl) ?_
                    have hR : (r3 = 1 ∧ ∃ F8, u = (sIG σ (upd IN b 1) F8, Z ++ [(a1, .inl (E.2.1 2, 40, .inl (upd g b 1)))]) ∧ Km (sIG σ (upd IN b 1) F) n 16 F8) ∨ (r3 = 0 ∧ (∃ F8, u = (sIG σ (upd IN b 1) F8, Z ++ [(a1, .inl (E.2.1 2, 40, .inl (upd g b 1)))])) ∧ ¬ NoNeg (mEP σ n (fun k => ¬ (upd IN b 1) k = 0))) := by
                      rcases hR with ⟨h1, F9, h2, h3⟩ | ⟨h1, ⟨F9, h2⟩, h3⟩
                      · exact Or.inl ⟨h1, F9, by rw [h2, sIG_G], h3⟩
                      · exact Or.inr ⟨h1, ⟨F9, by rw [h2, sIG_G]⟩, h3⟩
                    obtain ⟨F114, hu, hRR⟩ : ∃ F9, u = (sIG σ (upd IN b 1) F9, Z ++ [(a1, .inl (E.2.1 2, 40, .inl (upd g b 1)))]) ∧ ((r3 = 1 ∧ Km (sIG σ (upd IN b 1) F) n 16 F9) ∨ (r3 = 0 ∧ ¬ NoNeg (mEP σ n (fun k => ¬ (upd IN b 1) k = 0)))) := by
                      rcases hR with ⟨h1, F9, h2, h3⟩ | ⟨h1, ⟨F9, h2⟩, h3⟩
                      · exact ⟨F9, h2, Or.inl ⟨h1, h3⟩⟩
                      · exact ⟨F9, h2, Or.inr ⟨h1, h3⟩⟩
                    subst hu
                    have M : hM E A s H locs (sIG σ (upd IN b 1) F114) (Z ++ [(a1, .inl (E.2.1 2, 40, .inl (upd g b 1)))]) := M
                    refine g_zast C M 43 10 (by decide) rfl (by rcases hRR with ⟨h1, _⟩ | ⟨h1, _⟩; exact Or.inr h1; exact Or.inl h1) b (nI_clamp (by omega)) (vp_in_nI (by omega) (by decide)) dX12_believe_117 (fun H locs M => ?_)
                    have M : hM E A s H locs (sA (sIG σ (upd IN b 1) F114) 43 10 0 (upd (upd IN b 1) b r3)) (Z ++ [(a1, .inl (E.2.1 2, 40, .inl (upd g b 1)))]) := M
                    rw [sIG_put] at M
                    refine lv_iinc (v := nI (t + 1)) (lv' := [(2, .int (nI (t + 1))), (4, .int (nI n)), (3, .int (nI b)), (0, .ref (hO E 43)), (1, .ref a1)]) C.1 C.2.1 dX12_believe_118 hl (k := 4) rfl (nI_succ _).symm (by decide) rfl (fun ls hl => ?_)
                    refine lv_goto (tgt := 28) C.1 C.2.1 dX12_believe_121 (by decide) ?_
                    have hII : ∀ x : Int32, upd (upd IN b 1) b x = upd IN b x := fun x => by funext i; unfold upd; split <;> rfl
                    rw [hII] at M
                    exact ih28 (t + 1) (upd g b 1) (upd IN b r3) F114 ht1 (hT.s hb1 hgb hbm (hRR.elim (fun h9 => Or.inl ⟨h9.1, pt_nn (mEd_in (sayW_IG hW (upd IN b 1) F)) h9.2.1⟩) (fun h9 => Or.inr h9))) (by omega) _ _ _ M (lv_sub hl [0, 3, 4] rfl)
                  · skip
                    have hk1 : k < n := ct_nge (n := n) (k := k) c_47
                    refine lv_aload_n C.1 C.2.1 dX12_believe_50 rfl (lv_at hl 3 rfl) ?_
                    refine lv_iload C.1 C.2.1 dX12_believe_51 (lv_at hl 0 rfl) ?_
                    refine g_xzald C M Z.length zat0 k (nI_clamp (by omega)) (vp_in_nI (by omega) (by decide)) (v := g k) rfl dX12_believe_53 ?_
                    refine lv_if_ne (tgt := 91) C.1 C.2.1 dX12_believe_54 (by decide) (fun c_54 => ?_) (fun c_54 => ?_)
                    · skip
                      refine lv_iinc (v := nI (k + 1)) (lv' := [(4, .int (nI (k + 1))), (3, .int (bst g (mTr σ) k)), (0, .ref (hO E 43)), (1, .ref a1), (2, .int (nI t))]) C.1 C.2.1 dX12_believe_91 hl (k := 0) rfl (nI_succ _).symm (by decide) rfl (fun ls hl => ?_)
                      refine lv_goto (tgt := 41) C.1 C.2.1 dX12_believe_94 (by decide) ?_
                      have q4 : bst g (mTr σ) k = bst g (mTr σ) (k + 1) := by first | rfl | (simp only [bst, mTr, c_10, c_33, c_47, c_54, not_false_eq_true, not_true_eq_false, and_self, and_true, true_and, and_false, false_and, or_true, true_or, or_false, false_or, Bool.false_eq_true, if_true, if_false, ↓reduceIte])
                      have hl : lv_has ls 5 [(4, .int (nI (k + 1))), (3, .int (bst g (mTr σ) (k + 1))), (0, .ref (hO E 43)), (1, .ref a1), (2, .int (nI t))] := by
                        rw [← q4]
                        exact lv_sub hl [0, 1, 2, 3, 4] rfl
                      exact ih41 (k + 1) hk1 (by omega) _ _ _ M hl
                    · skip
                      refine lv_iload_n C.1 C.2.1 dX12_believe_57 rfl (lv_at hl 1 rfl) ?_
                      refine lv_iconst (v := (-1)) C.1 C.2.1 dX12_believe_58 (by decide) ?_
                      refine lv_icmp_eq (tgt := 88) C.1 C.2.1 dX12_believe_59 (by decide) (fun c_59 => ?_) (fun c_59 => ?_)
                      · skip
                        refine lv_iload C.1 C.2.1 dX12_believe_88 (lv_at hl 0 rfl) ?_
                        refine lv_istore_n (lv' := [(3, .int (nI k)), (4, .int (nI k)), (0, .ref (hO E 43)), (1, .ref a1), (2, .int (nI t))]) C.1 C.2.1 dX12_believe_90 rfl hl (by decide) rfl (fun ls hl => ?_)
                        refine lv_iinc (v := nI (k + 1)) (lv' := [(4, .int (nI (k + 1))), (3, .int (nI k)), (0, .ref (hO E 43)), (1, .ref a1), (2, .int (nI t))]) C.1 C.2.1 dX12_believe_91 hl (k := 1) rfl (nI_succ _).symm (by decide) rfl (fun ls hl => ?_)
                        refine lv_goto (tgt := 41) C.1 C.2.1 dX12_believe_94 (by decide) ?_
                        have q5 : nI k = bst g (mTr σ) (k + 1) := by first | rfl | (simp only [bst, mTr, c_10, c_33, c_47, c_54, c_59, not_false_eq_true, not_true_eq_false, and_self, and_true, true_and, and_false, false_and, or_true, true_or, or_false, false_or, Bool.false_eq_true, if_true, if_false, ↓reduceIte])
                        have hl : lv_has ls 5 [(4, .int (nI (k + 1))), (3, .int (bst g (mTr σ) (k + 1))), (0, .ref (hO E 43)), (1, .ref a1), (2, .int (nI t))] := by
                          rw [← q5]
                          exact lv_sub hl [0, 1, 2, 3, 4] rfl
                        exact ih41 (k + 1) hk1 (by omega) _ _ _ M hl
                      · skip
                        refine lv_aload_n C.1 C.2.1 dX12_believe_62 rfl (lv_at hl 2 rfl) ?_
                        refine g_getA C M 43 2 (by decide) rfl rfl (by decide) fl12_7 dX12_believe_63 ?_
                        refine lv_aload_n C.1 C.2.1 dX12_believe_66 rfl (lv_at hl 2 rfl) ?_
                        refine g_getA C M 43 4 (by decide) rfl rfl (by decide) fl12_13 dX12_believe_67 ?_
                        refine lv_iload C.1 C.2.1 dX12_believe_70 (lv_at hl 0 rfl) ?_
                        refine g_iald C M 43 4 (by decide) rfl k (nI_clamp (by omega)) (vp_in_nI (by omega) (by decide)) (v := hA σ 43 4 0 k) rfl dX12_believe_72 ?_
                        refine g_iald C M 43 2 (by decide) rfl ((hA σ 43 4 0 k).toNatClampNeg) rfl (hlg k hk1) (v := hA σ 43 2 0 ((hA σ 43 4 0 k).toNatClampNeg)) rfl dX12_believe_73 ?_
                        refine lv_aload_n C.1 C.2.1 dX12_believe_74 rfl (lv_at hl 2 rfl) ?_
                        refine g_getA C M 43 2 (by decide) rfl rfl (by decide) fl12_7 dX12_believe_75 ?_
                        refine lv_aload_n C.1 C.2.1 dX12_believe_78 rfl (lv_at hl 2 rfl) ?_
                        refine g_getA C M 43 4 (by decide) rfl rfl (by decide) fl12_13 dX12_believe_79 ?_
                        refine lv_iload_n C.1 C.2.1 dX12_believe_82 rfl (lv_at hl 1 rfl) ?_
                        refine g_iald C M 43 4 (by decide) rfl ((bst g (mTr σ) k).toNatClampNeg) rfl (vp_in_or (bst_in _ _ k) c_59 (by omega) (by decide)) (v := hA σ 43 4 0 ((bst g (mTr σ) k).toNatClampNeg)) rfl dX12_believe_83 ?_
                        refine g_iald C M 43 2 (by decide) rfl ((hA σ 43 4 0 ((bst g (mTr σ) k).toNatClampNeg)).toNatClampNeg) rfl (hlg _ (by rcases bst_in g (mTr σ) k with h | ⟨j9, h1, h2⟩; exact absurd h c_59; rw [h2, nI_clamp (by omega)]; omega)) (v := hA σ 43 2 0 ((hA σ 43 4 0 ((bst g (mTr σ) k).toNatClampNeg)).toNatClampNeg)) rfl dX12_believe_84 ?_
                        refine lv_icmp_le (tgt := 91) C.1 C.2.1 dX12_believe_85 (by decide) (fun c_85 => ?_) (fun c_85 => ?_)
                        · skip
                          refine lv_iinc (v := nI (k + 1)) (lv' := [(4, .int (nI (k + 1))), (3, .int (bst g (mTr σ) k)), (0, .ref (hO E 43)), (1, .ref a1), (2, .int (nI t))]) C.1 C.2.1 dX12_believe_91 hl (k := 0) rfl (nI_succ _).symm (by decide) rfl (fun ls hl => ?_)
                          refine lv_goto (tgt := 41) C.1 C.2.1 dX12_believe_94 (by decide) ?_
                          have q6 : bst g (mTr σ) k = bst g (mTr σ) (k + 1) := by first | rfl | (simp only [bst, mTr, c_10, c_33, c_47, c_54, c_59, c_85, not_false_eq_true, not_true_eq_false, and_self, and_true, true_and, and_false, false_and, or_true, true_or, or_false, false_or, Bool.false_eq_true, if_true, if_false, ↓reduceIte])
                          have hl : lv_has ls 5 [(4, .int (nI (k + 1))), (3, .int (bst g (mTr σ) (k + 1))), (0, .ref (hO E 43)), (1, .ref a1), (2, .int (nI t))] := by
                            rw [← q6]
                            exact lv_sub hl [0, 1, 2, 3, 4] rfl
                          exact ih41 (k + 1) hk1 (by omega) _ _ _ M hl
                        · skip
                          refine lv_iload C.1 C.2.1 dX12_believe_88 (lv_at hl 0 rfl) ?_
                          refine lv_istore_n (lv' := [(3, .int (nI k)), (4, .int (nI k)), (0, .ref (hO E 43)), (1, .ref a1), (2, .int (nI t))]) C.1 C.2.1 dX12_believe_90 rfl hl (by decide) rfl (fun ls hl => ?_)
                          refine lv_iinc (v := nI (k + 1)) (lv' := [(4, .int (nI (k + 1))), (3, .int (nI k)), (0, .ref (hO E 43)), (1, .ref a1), (2, .int (nI t))]) C.1 C.2.1 dX12_believe_91 hl (k := 1) rfl (nI_succ _).symm (by decide) rfl (fun ls hl => ?_)
                          refine lv_goto (tgt := 41) C.1 C.2.1 dX12_believe_94 (by decide) ?_
                          have q7 : nI k = bst g (mTr σ) (k + 1) := by first | rfl | (simp only [bst, mTr, c_10, c_33, c_47, c_54, c_59, c_85, not_false_eq_true, not_true_eq_false, and_self, and_true, true_and, and_false, false_and, or_true, true_or, or_false, false_or, Bool.false_eq_true, if_true, if_false, ↓reduceIte])
                          have hl : lv_has ls 5 [(4, .int (nI (k + 1))), (3, .int (bst g (mTr σ) (k + 1))), (0, .ref (hO E 43)), (1, .ref a1), (2, .int (nI t))] := by
                            rw [← q7]
                            exact lv_sub hl [0, 1, 2, 3, 4] rfl
                          exact ih41 (k + 1) hk1 (by omega) _ _ _ M hl
              have q8 : 0 = nI 0 := by first | rfl | (simp only [bst, mTr, c_10, c_33, not_false_eq_true, not_true_eq_false, and_self, and_true, true_and, and_false, false_and, or_true, true_or, or_false, false_or, Bool.false_eq_true, if_true, if_false, ↓reduceIte])
              have q9 : (-1) = bst g (mTr σ) 0 := by first | rfl | (simp only [bst, mTr, c_10, c_33, not_false_eq_true, not_true_eq_false, and_self, and_true, true_and, and_false, false_and, or_true, true_or, or_false, false_or, Bool.false_eq_true, if_true, if_false, ↓reduceIte])
              have hl : lv_has ls 5 [(4, .int (nI 0)), (3, .int (bst g (mTr σ) 0)), (0, .ref (hO E 43)), (1, .ref a1), (2, .int (nI t))] := by
                rw [← q8, ← q9]
                exact lv_sub hl [0, 1, 3, 4, 2] rfl
              exact L41 ((n - 0) + 1) 0 (Nat.zero_le _) (Nat.lt_succ_self _) _ _ _ M hl
        have q10 : 0 = nI 0 := by rfl
        have hl : lv_has ls 5 [(2, .int (nI 0)), (0, .ref (hO E 43)), (1, .ref a1)] := by
          rw [← q10]
          exact lv_sub hl [0, 1, 2] rfl
        have q11 : (sA σ 43 10 0 (pre (fun _ => 0) (hA σ 43 10 0) 40)) = (sIG σ (pre (fun _ => 0) (hA σ 43 10 0) 40) (hB σ 43 9)) := by first | exact sIG_of _ _ | (congr 1; funext i; unfold upd; split <;> rfl)
        rw [q11] at M
        exact L28 ((n - 0) + 1) 0 (fun _ => 0) (pre (fun _ => 0) (hA σ 43 10 0) 40) (hB σ 43 9) (Nat.zero_le _) (Tn.z σ n (mTr σ) _ hn40 hi01) (Nat.lt_succ_self _) _ _ _ M hl
      · skip
        have hk1 : k < 40 := ct_nge (n := 40) (k := k) c_10
        refine lv_aload_n C.1 C.2.1 dX12_believe_13 rfl (lv_at hl 1 rfl) ?_
        refine g_getA C M 43 10 (by decide) rfl rfl (by decide) fl12_33 dX12_believe_14 ?_
        refine lv_iload_n C.1 C.2.1 dX12_believe_17 rfl (lv_at hl 0 rfl) ?_
        refine lv_iconst (v := 0) C.1 C.2.1 dX12_believe_18 (by decide) ?_
        refine g_zast C M 43 10 (by decide) rfl (Or.inl rfl) k (nI_clamp (by omega)) (vp_in_nI (by omega) (by decide)) dX12_believe_19 (fun H locs M => ?_)
        have M : hM E A s H locs (sA (sA σ 43 10 0 (pre (fun _ => 0) (hA σ 43 10 0) k)) 43 10 0 (upd (pre (fun _ => 0) (hA σ 43 10 0) k) k 0)) (Z ++ [(a1, .inl (E.2.1 2, 40, .inl (fun _ => 0)))]) := M
        refine lv_iinc (v := nI (k + 1)) (lv' := [(2, .int (nI (k + 1))), (0, .ref (hO E 43)), (1, .ref a1)]) C.1 C.2.1 dX12_believe_20 hl (k := 0) rfl (nI_succ _).symm (by decide) rfl (fun ls hl => ?_)
        refine lv_goto (tgt := 7) C.1 C.2.1 dX12_believe_23 (by decide) ?_
        have q12 : (sA (sA σ 43 10 0 (pre (fun _ => 0) (hA σ 43 10 0) k)) 43 10 0 (upd (pre (fun _ => 0) (hA σ 43 10 0) k) k 0)) = (sA σ 43 10 0 (pre (fun _ => 0) (hA σ 43 10 0) (k + 1))) := by first | exact (sA_self _ _ _ _).trans (by rw [← pre_0]) | (rw [sA_sA]; exact congrArg _ (pre_s _ _ _))
        rw [q12] at M
        exact ih7 (k + 1) hk1 (by omega) _ _ _ M (lv_sub hl [0, 1, 2] rfl)
  have q13 : 0 = nI 0 := by rfl
  have hl : lv_has ls 5 [(2, .int (nI 0)), (0, .ref (hO E 43)), (1, .ref a1)] := by
    rw [← q13]
    exact lv_sub hl [0, 2, 1] rfl
  have q14 : σ = (sA σ 43 10 0 (pre (fun _ => 0) (hA σ 43 10 0) 0)) := by first | exact (sA_self _ _ _ _).trans (by rw [← pre_0]) | (rw [sA_sA]; exact congrArg _ (pre_s _ _ _))
  rw [q14] at M
  exact L7 ((40 - 0) + 1) 0 (Nat.zero_le _) (Nat.lt_succ_self _) _ _ _ M hl
