theorem nI_le9 {a c : Nat} (ha : a < 2 ^ 31) (hc : c < 2 ^ 31) : nI a ≤ nI c ↔ a ≤ c := by
  rw [Int32.le_iff_toInt_le, nI_toInt ha, nI_toInt hc]
  omega
theorem nI_le9n {c : Nat} (hc : c < 2 ^ 31) (h : ¬ (40 : Int32) ≤ nI c) : c < 40 := by
  have h2 : ¬ nI 40 ≤ nI c := h
  rw [nI_le9 (by decide) hc] at h2
  omega

set_option maxHeartbeats 4000000 in
set_option maxRecDepth 100000 in
theorem x_tftb (l : Launch) (E : hEnv) (σ : hMem) (Z : va_W) (n : Nat) (hn : hI σ 1 6 = nI n) (hn40 : n ≤ 40) (hW : csW σ n) (b : Nat) (hb : b ≤ n) : hMet l yX8_firstToBreak cX8_firstToBreak 3 (some .int) (3, 0, 0, 73) E σ Z [.ref (hO E 1), .int (nI b)] (hQi E (fun r u => ∃ f, u = (sA σ 3 0 0 f, Z) ∧ Ftb σ n b (fun j => ¬ hA σ 1 12 0 j = 0) r)) := by
  refine hMet.of (by decide) (Nat.le_of_ble_eq_true rfl) (fun p e s m below meth c A ls C M hr hlk hl => ?_)
  have hl : lv_has ls 3 [(0, .ref (hO E 1)), (1, .int (nI b))] := hl
  generalize s.heap = H at M ⊢
  generalize ([] : List Loc) = locs at M ⊢
  refine lv_aload_n C.1 C.2.1 dX8_firstToBreak_0 rfl (lv_at hl 0 rfl) ?_
  refine g_getO C M 1 11 3 (by decide) rfl rfl (by decide) fl8_41 dX8_firstToBreak_1 ?_
  refine g_callv M (g_runV (As := []) (rest := []) C M 3 (x_bclear l E σ Z 3 (by decide) rfl rfl) clX0_clear ivX0_clear lk8_87 (by decide) rfl rfl ⟨Nat.le_of_ble_eq_true rfl, Nat.le_of_ble_eq_true rfl⟩ hl.1 rfl (Nat.le_of_ble_eq_true rfl) dX8_firstToBreak_4 ⟨Nat.le_of_ble_eq_true rfl, Nat.le_of_ble_eq_true rfl⟩) (fun u H locs hR M => ?_)
  refine W.widen (k := 0) (n := 0) (Nat.le_of_ble_eq_true rfl) (Nat.le_of_ble_eq_true rfl) ?_
  subst hR
  have M : hM E A s H locs (sA σ 3 0 0 (bCl (hA σ 3 0 0) 16)) Z := M
  refine lv_iload_n C.1 C.2.1 dX8_firstToBreak_7 rfl (lv_at hl 1 rfl) ?_
  refine lv_istore_n (lv' := [(2, .int (nI b)), (0, .ref (hO E 1)), (1, .int (nI b))]) C.1 C.2.1 dX8_firstToBreak_8 rfl hl (by decide) rfl (fun ls hl => ?_)
  have L9 : ∀ (n9 : Nat) (i : Nat) (f : Nat → Int32), (i ≤ n) → (b ≤ i) → (PT (cEP σ n (fun j => b ≤ j ∧ j < i ∧ ¬ hA σ 1 12 0 j = 0)) 16 (cX f)) → n - i < n9 → ∀ (H : Heap) (locs : List Loc) (ls : Array Slot), hM E A s H locs (sA σ 3 0 0 f) Z → lv_has ls 3 [(2, .int (nI i)), (0, .ref (hO E 1)), (1, .int (nI b))] → W p l e (hRm (3, 0, 0, 73)) s m [.ref (hO E 1), .int (nI b)].toArray below meth c H locs 0 0 (MQ below (hQi E (fun r u => ∃ f, u = (sA σ 3 0 0 f, Z) ∧ Ftb σ n b (fun j => ¬ hA σ 1 12 0 j = 0) r) A) [.ref (hO E 1), .int (nI b)].toArray s 0 0 A) (F0 m 9 ls []) := by
    intro n9
    induction n9 with
    | zero =>
      intro i f hi hbi hP hn9
      exact absurd hn9 (Nat.not_lt_zero _)
    | succ n9 ih9 =>
      intro i f hi hbi hP hn9 H locs ls M hl
      refine lv_iload_n C.1 C.2.1 dX8_firstToBreak_9 rfl (lv_at hl 0 rfl) ?_
      refine lv_aload_n C.1 C.2.1 dX8_firstToBreak_10 rfl (lv_at hl 1 rfl) ?_
      refine g_getI C M 1 6 (by decide) rfl rfl (by decide) fl8_57 (v := nI n) hn dX8_firstToBreak_11 ?_
      refine lv_icmp_ge (tgt := 46) C.1 C.2.1 dX8_firstToBreak_14 (by decide) (fun c_14 => ?_) (fun c_14 => ?_)
      · skip
        have hkn : i = n := by have := ct_ge (n := n) (k := i) c_14; omega
        have hl : lv_has ls 3 [(2, .int (nI n)), (0, .ref (hO E 1)), (1, .int (nI b))] := by first | exact hl | (rw [hkn] at hl; exact hl)
        have M : hM E A s H locs (sA σ 3 0 0 f) Z := by first | exact M | (rw [hkn] at M; exact M)
        refine lv_iconst (v := 0) C.1 C.2.1 dX8_firstToBreak_46 (by decide) ?_
        refine lv_istore_n (lv' := [(2, .int 0), (0, .ref (hO E 1)), (1, .int (nI b))]) C.1 C.2.1 dX8_firstToBreak_47 rfl hl (by decide) rfl (fun ls hl => ?_)
        have L48 : ∀ (n9 : Nat) (x9 : Nat) (f : Nat → Int32), (x9 ≤ b) → (PT (cEP σ n (fun j => j < x9 ∨ (b ≤ j ∧ ¬ hA σ 1 12 0 j = 0))) 16 (cX f)) → b - x9 < n9 → ∀ (H : Heap) (locs : List Loc) (ls : Array Slot), hM E A s H locs (sA σ 3 0 0 f) Z → lv_has ls 3 [(2, .int (nI x9)), (0, .ref (hO E 1)), (1, .int (nI b))] → W p l e (hRm (3, 0, 0, 73)) s m [.ref (hO E 1), .int (nI b)].toArray below meth c H locs 0 0 (MQ below (hQi E (fun r u => ∃ f, u = (sA σ 3 0 0 f, Z) ∧ Ftb σ n b (fun j => ¬ hA σ 1 12 0 j = 0) r) A) [.ref (hO E 1), .int (nI b)].toArray s 0 0 A) (F0 m 48 ls []) := by
          intro n9
          induction n9 with
          | zero =>
            intro x9 f hx hP2 hn9
            exact absurd hn9 (Nat.not_lt_zero _)
          | succ n9 ih48 =>
            intro x9 f hx hP2 hn48 H locs ls M hl
            refine lv_iload_n C.1 C.2.1 dX8_firstToBreak_48 rfl (lv_at hl 0 rfl) ?_
            refine lv_iload_n C.1 C.2.1 dX8_firstToBreak_49 rfl (lv_at hl 2 rfl) ?_
            refine lv_icmp_ge (tgt := 73) C.1 C.2.1 dX8_firstToBreak_50 (by decide) (fun c_50 => ?_) (fun c_50 => ?_)
            · skip
              have hkn : x9 = b := by have := ct_ge (n := b) (k := x9) c_50; omega
              have hl : lv_has ls 3 [(2, .int (nI b)), (0, .ref (hO E 1)), (1, .int (nI b))] := by first | exact hl | (rw [hkn] at hl; exact hl)
              have M : hM E A s H locs (sA σ 3 0 0 f) Z := by first | exact M | (rw [hkn] at M; exact M)
              refine lv_iconst (v := (-1)) C.1 C.2.1 dX8_firstToBreak_73 (by decide) ?_
              refine g_iret C M hr hlk ?_ (Nat.le_of_ble_eq_true rfl) (Nat.le_of_ble_eq_true rfl) dX8_firstToBreak_74
              rw [hkn] at hP2; exact ⟨f, rfl, Or.inl ⟨rfl, Or.inr (pt_nn (cEP_in hW _) hP2)⟩⟩
            · skip
              have hx1 : x9 < b := ct_nge (n := b) (k := x9) c_50
              refine lv_aload_n C.1 C.2.1 dX8_firstToBreak_53 rfl (lv_at hl 1 rfl) ?_
              refine lv_aload_n C.1 C.2.1 dX8_firstToBreak_54 rfl (lv_at hl 1 rfl) ?_
              refine g_getO C M 1 11 3 (by decide) rfl rfl (by decide) fl8_41 dX8_firstToBreak_55 ?_
              refine lv_iload_n C.1 C.2.1 dX8_firstToBreak_58 rfl (lv_at hl 0 rfl) ?_
              refine g_calli M (g_runV (As := [.ref (hO E 3), .int (nI x9)]) (rest := []) C M 1 (x_ttakes l E (sA σ 3 0 0 f) Z 3 (by decide) rfl rfl n x9 (show x9 < n by omega) hn40 hW (cEP σ n (fun j => j < x9 ∨ (b ≤ j ∧ ¬ hA σ 1 12 0 j = 0))) (cEP_in hW _) (seedC hW _) hP2) clX8_takes ivX8_takes lk8_90 (by decide) rfl rfl ⟨Nat.le_of_ble_eq_true rfl, Nat.le_of_ble_eq_true rfl⟩ hl.1 rfl (Nat.le_of_ble_eq_true rfl) dX8_firstToBreak_59 ⟨Nat.le_of_ble_eq_true rfl, Nat.le_of_ble_eq_true rfl⟩) (fun r1 u H locs hR M => ?_)
              refine W.widen (k := 0) (n := 0) (Nat.le_of_ble_eq_true rfl) (Nat.le_of_ble_eq_true rfl) ?_
              obtain ⟨f1, hu, hRR⟩ : ∃ f1, u = (sA σ 3 0 0 f1, Z) ∧ ((r1 = 1 ∧ PT (cEP σ n (fun j => (fun j => j < x9 ∨ (b ≤ j ∧ ¬ hA σ 1 12 0 j = 0)) j ∨ j = x9)) 16 (cX f1)) ∨ (r1 = 0 ∧ f1 = f ∧ ¬ NoNeg (cEP σ n (fun j => (fun j => j < x9 ∨ (b ≤ j ∧ ¬ hA σ 1 12 0 j = 0)) j ∨ j = x9)))) := by
                rcases hR with ⟨h1, f9, h2, h3⟩ | ⟨h1, h2, h3⟩
                · exact ⟨f9, by rw [h2, sA_sA], Or.inl ⟨h1, h3.congr (Nat.le_refl _) (fun a b w => cEP_add (show x9 < n by omega) _ a b w) (fun a b w hw => cEP_in hW _ a b w ((cEP_add (show x9 < n by omega) _ a b w).mp hw)) (fun _ _ _ _ => rfl)⟩⟩
                · exact ⟨f, h2, Or.inr ⟨h1, rfl, fun hN => h3 ((NoNeg.congr (fun a b w => cEP_add (show x9 < n by omega) _ a b w)).mpr hN)⟩⟩
              subst hu
              have M : hM E A s H locs (sA σ 3 0 0 f1) Z := M
              refine lv_if_ne (tgt := 67) C.1 C.2.1 dX8_firstToBreak_62 (by decide) (fun c_62 => ?_) (fun c_62 => ?_)
              · skip
                refine lv_iinc (v := nI (x9 + 1)) (lv' := [(2, .int (nI (x9 + 1))), (0, .ref (hO E 1)), (1, .int (nI b))]) C.1 C.2.1 dX8_firstToBreak_67 hl (k := 0) rfl (nI_succ _).symm (by decide) rfl (fun ls hl => ?_)
                refine lv_goto (tgt := 48) C.1 C.2.1 dX8_firstToBreak_70 (by decide) ?_
                exact ih48 (x9 + 1) f1 hx1 (by rcases hRR with ⟨_, h2⟩ | ⟨h1, _⟩; exact h2.congr (Nat.le_refl _) (fun a b w => cEP_congr (fun j hj => ⟨fun q => q.elim (fun z => z.elim (fun y => Or.inl (by omega)) Or.inr) (fun z => Or.inl (by omega)), fun q => q.elim (fun z => by by_cases e : j = x9; exact Or.inr e; exact Or.inl (Or.inl (by omega))) (fun z => Or.inl (Or.inr z))⟩) a b w) (cEP_in hW _) (fun _ _ _ _ => rfl); exact absurd h1 c_62) (by omega) _ _ _ M (lv_sub hl [0, 1, 2] rfl)
              · skip
                refine lv_iload_n C.1 C.2.1 dX8_firstToBreak_65 rfl (lv_at hl 0 rfl) ?_
                refine g_iret C M hr hlk ?_ (Nat.le_of_ble_eq_true rfl) (Nat.le_of_ble_eq_true rfl) dX8_firstToBreak_66
                refine ⟨f1, rfl, Or.inr ⟨x9, hx1, rfl, pt_nn (cEP_in hW _) hP2, fun hN => ?_⟩⟩; rcases hRR with ⟨h1, _⟩ | ⟨_, _, h3⟩; exact absurd (h1.symm.trans c_62) (by decide); exact h3 (cEP_mono (fun j hj z => z.elim (fun y => y.elim (fun q => Or.inl (by omega)) Or.inr) (fun y => Or.inl (by omega))) hN)
        have q2 : 0 = nI 0 := by rfl
        have hl : lv_has ls 3 [(2, .int (nI 0)), (0, .ref (hO E 1)), (1, .int (nI b))] := by
          rw [← q2]
          exact lv_sub hl [0, 1, 2] rfl
        exact L48 ((b - 0) + 1) 0 f (Nat.zero_le b) (hP.congr (Nat.le_refl _) (fun a c w => cEP_congr (fun j hj => ⟨fun q => Or.inr ⟨q.1, q.2.2⟩, fun q => q.elim (fun z => absurd z (Nat.not_lt_zero j)) (fun z => ⟨z.1, by omega, z.2⟩)⟩) a c w) (cEP_in hW _) (fun _ _ _ _ => rfl)) (Nat.lt_succ_self _) _ _ _ M hl
      · skip
        have hi1 : i < n := ct_nge (n := n) (k := i) c_14
        refine lv_aload_n C.1 C.2.1 dX8_firstToBreak_17 rfl (lv_at hl 1 rfl) ?_
        refine g_getA C M 1 12 (by decide) rfl rfl (by decide) fl8_44 dX8_firstToBreak_18 ?_
        refine lv_iload_n C.1 C.2.1 dX8_firstToBreak_21 rfl (lv_at hl 0 rfl) ?_
        refine g_zald C M 1 12 (by decide) rfl i (nI_clamp (by omega)) (vp_in_nI (by omega) (by decide)) (v := hA σ 1 12 0 i) rfl dX8_firstToBreak_22 ?_
        refine lv_if_eq (tgt := 40) C.1 C.2.1 dX8_firstToBreak_23 (by decide) (fun c_23 => ?_) (fun c_23 => ?_)
        · skip
          refine lv_iinc (v := nI (i + 1)) (lv' := [(2, .int (nI (i + 1))), (0, .ref (hO E 1)), (1, .int (nI b))]) C.1 C.2.1 dX8_firstToBreak_40 hl (k := 0) rfl (nI_succ _).symm (by decide) rfl (fun ls hl => ?_)
          refine lv_goto (tgt := 9) C.1 C.2.1 dX8_firstToBreak_43 (by decide) ?_
          exact ih9 (i + 1) f hi1 (by omega) (hP.congr (Nat.le_refl _) (fun a b w => cEP_congr (fun j hj => ⟨fun q => ⟨q.1, by omega, q.2.2⟩, fun q => ⟨q.1, by by_cases e : j = i; rw [e] at q; exact absurd c_23 q.2.2; omega, q.2.2⟩⟩) a b w) (cEP_in hW _) (fun _ _ _ _ => rfl)) (by omega) _ _ _ M (lv_sub hl [0, 1, 2] rfl)
        · skip
          refine lv_aload_n C.1 C.2.1 dX8_firstToBreak_26 rfl (lv_at hl 1 rfl) ?_
          refine lv_aload_n C.1 C.2.1 dX8_firstToBreak_27 rfl (lv_at hl 1 rfl) ?_
          refine g_getO C M 1 11 3 (by decide) rfl rfl (by decide) fl8_41 dX8_firstToBreak_28 ?_
          refine lv_iload_n C.1 C.2.1 dX8_firstToBreak_31 rfl (lv_at hl 0 rfl) ?_
          refine g_calli M (g_runV (As := [.ref (hO E 3), .int (nI i)]) (rest := []) C M 1 (x_ttakes l E (sA σ 3 0 0 f) Z 3 (by decide) rfl rfl n i hi1 hn40 hW (cEP σ n (fun j => b ≤ j ∧ j < i ∧ ¬ hA σ 1 12 0 j = 0)) (cEP_in hW _) (seedC hW _) hP) clX8_takes ivX8_takes lk8_90 (by decide) rfl rfl ⟨Nat.le_of_ble_eq_true rfl, Nat.le_of_ble_eq_true rfl⟩ hl.1 rfl (Nat.le_of_ble_eq_true rfl) dX8_firstToBreak_32 ⟨Nat.le_of_ble_eq_true rfl, Nat.le_of_ble_eq_true rfl⟩) (fun r3 u H locs hR M => ?_)
          refine W.widen (k := 0) (n := 0) (Nat.le_of_ble_eq_true rfl) (Nat.le_of_ble_eq_true rfl) ?_
          obtain ⟨f1, hu, hRR⟩ : ∃ f1, u = (sA σ 3 0 0 f1, Z) ∧ ((r3 = 1 ∧ PT (cEP σ n (fun j => (fun j => b ≤ j ∧ j < i ∧ ¬ hA σ 1 12 0 j = 0) j ∨ j = i)) 16 (cX f1)) ∨ (r3 = 0 ∧ f1 = f ∧ ¬ NoNeg (cEP σ n (fun j => (fun j => b ≤ j ∧ j < i ∧ ¬ hA σ 1 12 0 j = 0) j ∨ j = i)))) := by
            rcases hR with ⟨h1, f9, h2, h3⟩ | ⟨h1, h2, h3⟩
            · exact ⟨f9, by rw [h2, sA_sA], Or.inl ⟨h1, h3.congr (Nat.le_refl _) (fun a b w => cEP_add hi1 _ a b w) (fun a b w hw => cEP_in hW _ a b w ((cEP_add hi1 _ a b w).mp hw)) (fun _ _ _ _ => rfl)⟩⟩
            · exact ⟨f, h2, Or.inr ⟨h1, rfl, fun hN => h3 ((NoNeg.congr (fun a b w => cEP_add hi1 _ a b w)).mpr hN)⟩⟩
          subst hu
          have M : hM E A s H locs (sA σ 3 0 0 f1) Z := M
          refine lv_if_ne (tgt := 40) C.1 C.2.1 dX8_firstToBreak_35 (by decide) (fun c_35 => ?_) (fun c_35 => ?_)
          · skip
            refine lv_iinc (v := nI (i + 1)) (lv' := [(2, .int (nI (i + 1))), (0, .ref (hO E 1)), (1, .int (nI b))]) C.1 C.2.1 dX8_firstToBreak_40 hl (k := 0) rfl (nI_succ _).symm (by decide) rfl (fun ls hl => ?_)
            refine lv_goto (tgt := 9) C.1 C.2.1 dX8_firstToBreak_43 (by decide) ?_
            exact ih9 (i + 1) f1 hi1 (by omega) (by rcases hRR with ⟨_, h2⟩ | ⟨h1, _⟩; exact h2.congr (Nat.le_refl _) (fun a b w => cEP_congr (fun j hj => ⟨fun q => q.elim (fun z => ⟨z.1, by omega, z.2.2⟩) (fun z => by rw [z]; exact ⟨by omega, by omega, c_23⟩), fun q => by by_cases e : j = i; exact Or.inr e; exact Or.inl ⟨q.1, by omega, q.2.2⟩⟩) a b w) (cEP_in hW _) (fun _ _ _ _ => rfl); exact absurd h1 c_35) (by omega) _ _ _ M (lv_sub hl [0, 1, 2] rfl)
          · skip
            refine lv_iconst (v := (-1)) C.1 C.2.1 dX8_firstToBreak_38 (by decide) ?_
            refine g_iret C M hr hlk ?_ (Nat.le_of_ble_eq_true rfl) (Nat.le_of_ble_eq_true rfl) dX8_firstToBreak_39
            refine ⟨f1, rfl, Or.inl ⟨rfl, Or.inl (fun hN => ?_)⟩⟩; rcases hRR with ⟨h1, _⟩ | ⟨_, _, h3⟩; exact absurd (h1.symm.trans c_35) (by decide); exact h3 (cEP_mono (fun j hj z => z.elim (fun y => ⟨y.1, y.2.2⟩) (fun y => by rw [y]; exact ⟨hbi, c_23⟩)) hN)
  exact L9 ((n - b) + 1) b (bCl (hA σ 3 0 0) 16) hb (Nat.le_refl b) (bCl_pt (fun a c w ⟨k, hk, hq, _⟩ => by omega)) (Nat.lt_succ_self _) _ _ _ M (lv_sub hl [0, 1, 2] rfl)

set_option maxHeartbeats 4000000 in
set_option maxRecDepth 100000 in
theorem x_tsq (l : Launch) (E : hEnv) (σ : hMem) (Z : va_W) (n : Nat) (hn : hI σ 1 6 = nI n) (hn40 : n ≤ 40) (hW : csW σ n) (hs01 : ∀ k, hA σ 1 12 0 k = 0 ∨ hA σ 1 12 0 k = 1) : hMet l yX8_settleQuarrel cX8_settleQuarrel 3 none (4, 0, 0, 95) E σ Z [.ref (hO E 1)] (hQv E (fun u => (¬ hI σ 1 14 = 0 ∧ u = (σ, Z)) ∨ (hI σ 1 14 = 0 ∧ ∃ g f c, u = (sI (qM σ g f c) 1 14 1, Z) ∧ c ≤ n ∧ cQu σ n g c))) := by
  refine hMet.of (by decide) (Nat.le_of_ble_eq_true rfl) (fun p e s m below meth c A ls C M hr hlk hl => ?_)
  have hl : lv_has ls 3 [(0, .ref (hO E 1))] := hl
  generalize s.heap = H at M ⊢
  generalize ([] : List Loc) = locs at M ⊢
  refine lv_aload_n C.1 C.2.1 dX8_settleQuarrel_0 rfl (lv_at hl 0 rfl) ?_
  refine g_getI C M 1 14 (by decide) rfl rfl (by decide) fl8_61 (v := hI σ 1 14) rfl dX8_settleQuarrel_1 ?_
  refine lv_if_eq (tgt := 8) C.1 C.2.1 dX8_settleQuarrel_4 (by decide) (fun c_4 => ?_) (fun c_4 => ?_)
  · skip
    refine lv_iconst (v := 0) C.1 C.2.1 dX8_settleQuarrel_8 (by decide) ?_
    refine lv_istore_n (lv' := [(1, .int 0), (0, .ref (hO E 1))]) C.1 C.2.1 dX8_settleQuarrel_9 rfl hl (by decide) rfl (fun ls hl => ?_)
    have L10 : ∀ (n9 : Nat) (i : Nat), (i ≤ n) → n - i < n9 → ∀ (H : Heap) (locs : List Loc) (ls : Array Slot), hM E A s H locs (sA σ 1 12 0 (pre (fun _ => 0) (hA σ 1 12 0) i)) Z → lv_has ls 3 [(1, .int (nI i)), (0, .ref (hO E 1))] → W p l e (hRm (4, 0, 0, 95)) s m [.ref (hO E 1)].toArray below meth c H locs 0 0 (MQ below (hQv E (fun u => (¬ hI σ 1 14 = 0 ∧ u = (σ, Z)) ∨ (hI σ 1 14 = 0 ∧ ∃ g f c, u = (sI (qM σ g f c) 1 14 1, Z) ∧ c ≤ n ∧ cQu σ n g c)) A) [.ref (hO E 1)].toArray s 0 0 A) (F0 m 10 ls []) := by
      intro n9
      induction n9 with
      | zero =>
        intro i hi hn9
        exact absurd hn9 (Nat.not_lt_zero _)
      | succ n9 ih10 =>
        intro i hi hn10 H locs ls M hl
        refine lv_iload_n C.1 C.2.1 dX8_settleQuarrel_10 rfl (lv_at hl 0 rfl) ?_
        refine lv_aload_n C.1 C.2.1 dX8_settleQuarrel_11 rfl (lv_at hl 1 rfl) ?_
        refine g_getI C M 1 6 (by decide) rfl rfl (by decide) fl8_57 (v := nI n) hn dX8_settleQuarrel_12 ?_
        refine lv_icmp_ge (tgt := 31) C.1 C.2.1 dX8_settleQuarrel_15 (by decide) (fun c_15 => ?_) (fun c_15 => ?_)
        · skip
          have hkn : i = n := by have := ct_ge (n := n) (k := i) c_15; omega
          have hl : lv_has ls 3 [(1, .int (nI n)), (0, .ref (hO E 1))] := by first | exact hl | (rw [hkn] at hl; exact hl)
          have M : hM E A s H locs (sA σ 1 12 0 (pre (fun _ => 0) (hA σ 1 12 0) n)) Z := by first | exact M | (rw [hkn] at M; exact M)
          refine lv_aload_n C.1 C.2.1 dX8_settleQuarrel_31 rfl (lv_at hl 1 rfl) ?_
          refine lv_iconst (v := 0) C.1 C.2.1 dX8_settleQuarrel_32 (by decide) ?_
          refine g_putI C M 1 13 (by decide) rfl rfl (by decide) fl8_84 rfl rfl dX8_settleQuarrel_33 (fun H locs M => ?_)
          rw [qM_0] at M
          refine lv_aload_n C.1 C.2.1 dX8_settleQuarrel_36 rfl (lv_at hl 1 rfl) ?_
          refine lv_aload_n C.1 C.2.1 dX8_settleQuarrel_37 rfl (lv_at hl 1 rfl) ?_
          refine g_getI C M 1 6 (by decide) rfl rfl (by decide) fl8_57 (v := nI n) hn dX8_settleQuarrel_38 ?_
          refine g_calli M (g_runV (As := [.int (nI n)]) (rest := []) C M 1 (x_tftb l E (qM σ (pre (fun _ => 0) (hA σ 1 12 0) n) (hA σ 3 0 0) 0) Z n hn hn40 hW n (Nat.le_refl n)) clX8_firstToBreak ivX8_firstToBreak lk8_94 (by decide) rfl rfl ⟨Nat.le_of_ble_eq_true rfl, Nat.le_of_ble_eq_true rfl⟩ hl.1 rfl (Nat.le_of_ble_eq_true rfl) dX8_settleQuarrel_41 ⟨Nat.le_of_ble_eq_true rfl, Nat.le_of_ble_eq_true rfl⟩) (fun r1 u H locs hR M => ?_)
          refine W.widen (k := 0) (n := 0) (Nat.le_of_ble_eq_true rfl) (Nat.le_of_ble_eq_true rfl) ?_
          obtain ⟨f1, hu, hF1⟩ := hR
          rw [qM_f] at hu
          subst hu
          have hF1 : Ftb σ n n (fun j => ¬ (pre (fun _ => 0) (hA σ 1 12 0) n) j = 0) r1 := hF1
          have M : hM E A s H locs (qM σ (pre (fun _ => 0) (hA σ 1 12 0) n) f1 0) Z := M
          refine lv_istore_n (lv' := [(1, .int r1), (0, .ref (hO E 1))]) C.1 C.2.1 dX8_settleQuarrel_44 rfl hl (by decide) rfl (fun ls hl => ?_)
          refine lv_iconst (v := 0) C.1 C.2.1 dX8_settleQuarrel_45 (by decide) ?_
          refine lv_istore_n (lv' := [(2, .int 0), (1, .int r1), (0, .ref (hO E 1))]) C.1 C.2.1 dX8_settleQuarrel_46 rfl hl (by decide) rfl (fun ls hl => ?_)
          have L47 : ∀ (n9 : Nat) (x : Int32) (g : Nat → Int32) (f : Nat → Int32) (c9 : Nat) (b : Nat), (Qc σ n b g c9) → (Ftb σ n b (fun j => ¬ g j = 0) x) → 40 - c9 < n9 → ∀ (H : Heap) (locs : List Loc) (ls : Array Slot), hM E A s H locs (qM σ g f c9) Z → lv_has ls 3 [(1, .int x), (2, .int (nI c9)), (0, .ref (hO E 1))] → W p l e (hRm (4, 0, 0, 95)) s m [.ref (hO E 1)].toArray below meth c H locs 0 0 (MQ below (hQv E (fun u => (¬ hI σ 1 14 = 0 ∧ u = (σ, Z)) ∨ (hI σ 1 14 = 0 ∧ ∃ g f c, u = (sI (qM σ g f c) 1 14 1, Z) ∧ c ≤ n ∧ cQu σ n g c)) A) [.ref (hO E 1)].toArray s 0 0 A) (F0 m 47 ls []) := by
            intro n9
            induction n9 with
            | zero =>
              intro x g f c9 b hQ hF hn9
              exact absurd hn9 (Nat.not_lt_zero _)
            | succ n9 ih47 =>
              intro x g f c9 b hQ hF hn47 H locs ls M hl
              refine lv_iload_n C.1 C.2.1 dX8_settleQuarrel_47 rfl (lv_at hl 1 rfl) ?_
              refine lv_bipush (v := 40) C.1 C.2.1 dX8_settleQuarrel_48 (by decide) ?_
              refine lv_icmp_ge (tgt := 86) C.1 C.2.1 dX8_settleQuarrel_50 (by decide) (fun c_50 => ?_) (fun c_50 => ?_)
              · skip
                have hc40 := (nI_le9 (by decide) (by have := hQ.2.2.2.2.2.1; omega)).mp c_50
                refine lv_aload_n C.1 C.2.1 dX8_settleQuarrel_86 rfl (lv_at hl 2 rfl) ?_
                refine lv_iconst (v := 1) C.1 C.2.1 dX8_settleQuarrel_87 (by decide) ?_
                refine g_putZ C M 1 14 (Or.inr rfl) (by decide) rfl rfl (by decide) fl8_61 rfl rfl dX8_settleQuarrel_88 (fun H locs M => ?_)
                refine g_vret C M hr hlk ?_ (Nat.le_of_ble_eq_true rfl) (Nat.le_of_ble_eq_true rfl) dX8_settleQuarrel_91
                exact Or.inr ⟨c_4, g, f, c9, rfl, by have := hQ.2.2.2.2.2.1; omega, hQ.end hn40 hF (Or.inl hc40)⟩
              · skip
                have hc40 : c9 < 40 := nI_le9n (by have := hQ.2.2.2.2.2.1; omega) c_50
                refine lv_iload_n C.1 C.2.1 dX8_settleQuarrel_53 rfl (lv_at hl 0 rfl) ?_
                refine lv_if_lt (tgt := 86) C.1 C.2.1 dX8_settleQuarrel_54 (by decide) (fun c_54 => ?_) (fun c_54 => ?_)
                · skip
                  refine lv_aload_n C.1 C.2.1 dX8_settleQuarrel_86 rfl (lv_at hl 2 rfl) ?_
                  refine lv_iconst (v := 1) C.1 C.2.1 dX8_settleQuarrel_87 (by decide) ?_
                  refine g_putZ C M 1 14 (Or.inr rfl) (by decide) rfl rfl (by decide) fl8_61 rfl rfl dX8_settleQuarrel_88 (fun H locs M => ?_)
                  refine g_vret C M hr hlk ?_ (Nat.le_of_ble_eq_true rfl) (Nat.le_of_ble_eq_true rfl) dX8_settleQuarrel_91
                  exact Or.inr ⟨c_4, g, f, c9, rfl, by have := hQ.2.2.2.2.2.1; omega, hQ.end hn40 hF (Or.inr c_54)⟩
                · skip
                  obtain ⟨i9, hi9, hx9, hN1, hN2⟩ : ∃ i, i < b ∧ x = nI i ∧ NoNeg (cEP σ n (fun j => j < i ∨ (b ≤ j ∧ ¬ g j = 0))) ∧ ¬ NoNeg (cEP σ n (fun j => j < i + 1 ∨ (b ≤ j ∧ ¬ g j = 0))) := by
                    rcases hF with ⟨hx, _⟩ | hF
                    · rw [hx] at c_54; exact absurd (by decide) c_54
                    · exact hF
                  subst hx9
                  have hbn := hQ.1
                  refine lv_aload_n C.1 C.2.1 dX8_settleQuarrel_57 rfl (lv_at hl 2 rfl) ?_
                  refine g_getA C M 1 12 (by decide) rfl rfl (by decide) fl8_44 dX8_settleQuarrel_58 ?_
                  refine lv_iload_n C.1 C.2.1 dX8_settleQuarrel_61 rfl (lv_at hl 0 rfl) ?_
                  refine lv_iconst (v := 1) C.1 C.2.1 dX8_settleQuarrel_62 (by decide) ?_
                  refine g_zast C M 1 12 (by decide) rfl (Or.inr rfl) i9 (nI_clamp (by omega)) (vp_in_nI (by omega) (by decide)) dX8_settleQuarrel_63 (fun H locs M => ?_)
                  have M : hM E A s H locs (sA (qM σ g f c9) 1 12 0 (upd g i9 1)) Z := M
                  rw [qM_g] at M
                  refine lv_aload_n C.1 C.2.1 dX8_settleQuarrel_64 rfl (lv_at hl 2 rfl) ?_
                  refine lv_dup C.1 C.2.1 dX8_settleQuarrel_65 rfl ?_
                  refine g_getI C M 1 13 (by decide) rfl rfl (by decide) fl8_84 (v := nI c9) rfl dX8_settleQuarrel_66 ?_
                  refine lv_iconst (v := 1) C.1 C.2.1 dX8_settleQuarrel_69 (by decide) ?_
                  refine lv_iadd C.1 C.2.1 dX8_settleQuarrel_70 ?_
                  refine g_rei (v := nI (c9 + 1)) (nI_1 _) ?_
                  refine g_putI C M 1 13 (by decide) rfl rfl (by decide) fl8_84 rfl rfl dX8_settleQuarrel_71 (fun H locs M => ?_)
                  have M : hM E A s H locs (sI (qM σ (upd g i9 1) f c9) 1 13 (nI (c9 + 1))) Z := M
                  rw [qM_c] at M
                  refine lv_aload_n C.1 C.2.1 dX8_settleQuarrel_74 rfl (lv_at hl 2 rfl) ?_
                  refine lv_iload_n C.1 C.2.1 dX8_settleQuarrel_75 rfl (lv_at hl 0 rfl) ?_
                  refine g_calli M (g_runV (As := [.int (nI i9)]) (rest := []) C M 1 (x_tftb l E (qM σ (upd g i9 1) f (c9 + 1)) Z n hn hn40 hW i9 (by omega)) clX8_firstToBreak ivX8_firstToBreak lk8_94 (by decide) rfl rfl ⟨Nat.le_of_ble_eq_true rfl, Nat.le_of_ble_eq_true rfl⟩ hl.1 rfl (Nat.le_of_ble_eq_true rfl) dX8_settleQuarrel_76 ⟨Nat.le_of_ble_eq_true rfl, Nat.le_of_ble_eq_true rfl⟩) (fun r2 u H locs hR M => ?_)
                  refine W.widen (k := 0) (n := 0) (Nat.le_of_ble_eq_true rfl) (Nat.le_of_ble_eq_true rfl) ?_
                  obtain ⟨f1, hu, hF1⟩ := hR
                  rw [qM_f] at hu
                  subst hu
                  have hF1 : Ftb σ n i9 (fun j => ¬ (upd g i9 1) j = 0) r2 := hF1
                  have M : hM E A s H locs (qM σ (upd g i9 1) f1 (c9 + 1)) Z := M
                  refine lv_istore_n (lv' := [(1, .int r2), (2, .int (nI c9)), (0, .ref (hO E 1))]) C.1 C.2.1 dX8_settleQuarrel_79 rfl hl (by decide) rfl (fun ls hl => ?_)
                  refine lv_iinc (v := nI (c9 + 1)) (lv' := [(2, .int (nI (c9 + 1))), (1, .int r2), (0, .ref (hO E 1))]) C.1 C.2.1 dX8_settleQuarrel_80 hl (k := 1) rfl (nI_succ _).symm (by decide) rfl (fun ls hl => ?_)
                  refine lv_goto (tgt := 47) C.1 C.2.1 dX8_settleQuarrel_83 (by decide) ?_
                  exact ih47 r2 (upd g i9 1) f1 (c9 + 1) i9 (hQ.s hi9 hN1 hN2) hF1 (by omega) _ _ _ M (lv_sub hl [1, 0, 2] rfl)
          have q3 : 0 = nI 0 := by rfl
          have hl : lv_has ls 3 [(1, .int r1), (2, .int (nI 0)), (0, .ref (hO E 1))] := by
            rw [← q3]
            exact lv_sub hl [1, 0, 2] rfl
          exact L47 ((40 - 0) + 1) r1 (pre (fun _ => 0) (hA σ 1 12 0) n) f1 0 n (Qc.z (fun k hk => pre_lt hk) (fun k => by unfold pre; split; exact Or.inl rfl; exact hs01 k)) hF1 (Nat.lt_succ_self _) _ _ _ M hl
        · skip
          have hi1 : i < n := ct_nge (n := n) (k := i) c_15
          refine lv_aload_n C.1 C.2.1 dX8_settleQuarrel_18 rfl (lv_at hl 1 rfl) ?_
          refine g_getA C M 1 12 (by decide) rfl rfl (by decide) fl8_44 dX8_settleQuarrel_19 ?_
          refine lv_iload_n C.1 C.2.1 dX8_settleQuarrel_22 rfl (lv_at hl 0 rfl) ?_
          refine lv_iconst (v := 0) C.1 C.2.1 dX8_settleQuarrel_23 (by decide) ?_
          refine g_zast C M 1 12 (by decide) rfl (Or.inl rfl) i (nI_clamp (by omega)) (vp_in_nI (by omega) (by decide)) dX8_settleQuarrel_24 (fun H locs M => ?_)
          have M : hM E A s H locs (sA (sA σ 1 12 0 (pre (fun _ => 0) (hA σ 1 12 0) i)) 1 12 0 (upd (pre (fun _ => 0) (hA σ 1 12 0) i) i 0)) Z := M
          refine lv_iinc (v := nI (i + 1)) (lv' := [(1, .int (nI (i + 1))), (0, .ref (hO E 1))]) C.1 C.2.1 dX8_settleQuarrel_25 hl (k := 0) rfl (nI_succ _).symm (by decide) rfl (fun ls hl => ?_)
          refine lv_goto (tgt := 10) C.1 C.2.1 dX8_settleQuarrel_28 (by decide) ?_
          have q4 : (sA (sA σ 1 12 0 (pre (fun _ => 0) (hA σ 1 12 0) i)) 1 12 0 (upd (pre (fun _ => 0) (hA σ 1 12 0) i) i 0)) = (sA σ 1 12 0 (pre (fun _ => 0) (hA σ 1 12 0) (i + 1))) := by first | exact (sA_self _ _ _ _).trans (by rw [← pre_0]) | (rw [sA_sA]; exact congrArg _ (pre_s _ _ _))
          rw [q4] at M
          exact ih10 (i + 1) hi1 (by omega) _ _ _ M (lv_sub hl [0, 1] rfl)
    have q5 : 0 = nI 0 := by rfl
    have hl : lv_has ls 3 [(1, .int (nI 0)), (0, .ref (hO E 1))] := by
      rw [← q5]
      exact lv_sub hl [0, 1] rfl
    have q6 : σ = (sA σ 1 12 0 (pre (fun _ => 0) (hA σ 1 12 0) 0)) := by first | exact (sA_self _ _ _ _).trans (by rw [← pre_0]) | (rw [sA_sA]; exact congrArg _ (pre_s _ _ _))
    rw [q6] at M
    exact L10 ((n - 0) + 1) 0 (Nat.zero_le _) (Nat.lt_succ_self _) _ _ _ M hl
  · skip
    refine g_vret C M hr hlk ?_ (Nat.le_of_ble_eq_true rfl) (Nat.le_of_ble_eq_true rfl) dX8_settleQuarrel_7
    exact Or.inl ⟨c_4, rfl⟩

theorem q_re {x y a : Int32} (h : x = y + a) : x = y + (-1) + (a + 1) := by
  rw [h, Int32.add_assoc y (-1) (a + 1), ← Int32.add_assoc (-1) a 1, Int32.add_comm (-1) a, Int32.add_assoc a (-1) 1]
  rw [show (-1 : Int32) + 1 = 0 from rfl, Int32.add_zero]

theorem Qtl.n {σ τ : hMem} {n : Nat} (h : Qtl σ n τ) (hn : hI σ 1 6 = nI n) : hI τ 1 6 = nI n := by
  obtain ⟨g, f, c, _, _, _, _, h | h⟩ := h
  · rw [h]; exact hn
  · rw [h]; exact hn

set_option maxHeartbeats 4000000 in
set_option maxRecDepth 100000 in
theorem x_tqsize (l : Launch) (E : hEnv) (σ : hMem) (Z : va_W) (n : Nat) (hn : hI σ 1 6 = nI n) (hn40 : n ≤ 40) (hW : csW σ n) (hs01 : ∀ k, hA σ 1 12 0 k = 0 ∨ hA σ 1 12 0 k = 1) (hqc : qcach σ n) : hMet l yX8_quarrelSize cX8_quarrelSize 1 (some .int) (5, 0, 0, 117) E σ Z [.ref (hO E 1)] (hQi E (fun r u => ∃ τ, u = (τ, Z) ∧ Qtl σ n τ ∧ r = hI τ 1 13)) := by
  refine hMet.of (by decide) (Nat.le_of_ble_eq_true rfl) (fun p e s m below meth c A ls C M hr hlk hl => ?_)
  have hl : lv_has ls 1 [(0, .ref (hO E 1))] := hl
  generalize s.heap = H at M ⊢
  generalize ([] : List Loc) = locs at M ⊢
  refine lv_aload_n C.1 C.2.1 dX8_quarrelSize_0 rfl (lv_at hl 0 rfl) ?_
  refine g_callv M (g_runV (As := []) (rest := []) C M 1 (x_tsq l E σ Z n hn hn40 hW hs01) clX8_settleQuarrel ivX8_settleQuarrel lk8_81 (by decide) rfl rfl ⟨Nat.le_of_ble_eq_true rfl, Nat.le_of_ble_eq_true rfl⟩ hl.1 rfl (Nat.le_of_ble_eq_true rfl) dX8_quarrelSize_1 ⟨Nat.le_of_ble_eq_true rfl, Nat.le_of_ble_eq_true rfl⟩) (fun u H locs hR M => ?_)
  refine W.widen (k := 0) (n := 0) (Nat.le_of_ble_eq_true rfl) (Nat.le_of_ble_eq_true rfl) ?_
  obtain ⟨τ, hu, hQtl⟩ := qtl_of hqc hR
  subst hu
  have hnτ : hI τ 1 6 = nI n := hQtl.n hn
  have M : hM E A s H locs τ Z := M
  refine lv_aload_n C.1 C.2.1 dX8_quarrelSize_4 rfl (lv_at hl 0 rfl) ?_
  refine g_getI C M 1 13 (by decide) rfl rfl (by decide) fl8_84 (v := hI τ 1 13) rfl dX8_quarrelSize_5 ?_
  refine g_iret C M hr hlk ?_ (Nat.le_of_ble_eq_true rfl) (Nat.le_of_ble_eq_true rfl) dX8_quarrelSize_8
  exact ⟨τ, rfl, hQtl, rfl⟩

set_option maxHeartbeats 4000000 in
set_option maxRecDepth 100000 in
theorem x_tqth (l : Launch) (E : hEnv) (σ : hMem) (Z : va_W) (n : Nat) (hn : hI σ 1 6 = nI n) (hn40 : n ≤ 40) (hW : csW σ n) (hs01 : ∀ k, hA σ 1 12 0 k = 0 ∨ hA σ 1 12 0 k = 1) (hqc : qcach σ n) (x : Int32) : hMet l yX8_quarrelling cX8_quarrelling 4 (some .int) (5, 0, 0, 117) E σ Z [.ref (hO E 1), .int x] (hQi E (fun r u => ∃ τ, u = (τ, Z) ∧ Qtl σ n τ ∧ Qth (hA τ 1 12 0) n x r)) := by
  refine hMet.of (by decide) (Nat.le_of_ble_eq_true rfl) (fun p e s m below meth c A ls C M hr hlk hl => ?_)
  have hl : lv_has ls 4 [(0, .ref (hO E 1)), (1, .int x)] := hl
  generalize s.heap = H at M ⊢
  generalize ([] : List Loc) = locs at M ⊢
  refine lv_aload_n C.1 C.2.1 dX8_quarrelling_0 rfl (lv_at hl 0 rfl) ?_
  refine g_callv M (g_runV (As := []) (rest := []) C M 1 (x_tsq l E σ Z n hn hn40 hW hs01) clX8_settleQuarrel ivX8_settleQuarrel lk8_81 (by decide) rfl rfl ⟨Nat.le_of_ble_eq_true rfl, Nat.le_of_ble_eq_true rfl⟩ hl.1 rfl (Nat.le_of_ble_eq_true rfl) dX8_quarrelling_1 ⟨Nat.le_of_ble_eq_true rfl, Nat.le_of_ble_eq_true rfl⟩) (fun u H locs hR M => ?_)
  refine W.widen (k := 0) (n := 0) (Nat.le_of_ble_eq_true rfl) (Nat.le_of_ble_eq_true rfl) ?_
  obtain ⟨τ, hu, hQtl⟩ := qtl_of hqc hR
  subst hu
  have hnτ : hI τ 1 6 = nI n := hQtl.n hn
  have M : hM E A s H locs τ Z := M
  refine lv_iconst (v := 0) C.1 C.2.1 dX8_quarrelling_4 (by decide) ?_
  refine lv_istore_n (lv' := [(2, .int 0), (0, .ref (hO E 1)), (1, .int x)]) C.1 C.2.1 dX8_quarrelling_5 rfl hl (by decide) rfl (fun ls hl => ?_)
  refine lv_iconst (v := 0) C.1 C.2.1 dX8_quarrelling_6 (by decide) ?_
  refine lv_istore_n (lv' := [(3, .int 0), (2, .int 0), (0, .ref (hO E 1)), (1, .int x)]) C.1 C.2.1 dX8_quarrelling_7 rfl hl (by decide) rfl (fun ls hl => ?_)
  have L8 : ∀ (n9 : Nat) (i : Nat), (i ≤ n) → (∀ z, z < i → ¬ hA τ 1 12 0 z = 0 → ¬ x = nI (cnz (hA τ 1 12 0) z)) → n - i < n9 → ∀ (H : Heap) (locs : List Loc) (ls : Array Slot), hM E A s H locs τ Z → lv_has ls 4 [(2, .int (nI (cnz (hA τ 1 12 0) i))), (3, .int (nI i)), (0, .ref (hO E 1)), (1, .int x)] → W p l e (hRm (5, 0, 0, 117)) s m [.ref (hO E 1), .int x].toArray below meth c H locs 0 0 (MQ below (hQi E (fun r u => ∃ τ, u = (τ, Z) ∧ Qtl σ n τ ∧ Qth (hA τ 1 12 0) n x r) A) [.ref (hO E 1), .int x].toArray s 0 0 A) (F0 m 8 ls []) := by
    intro n9
    induction n9 with
    | zero =>
      intro i hi hall hn9
      exact absurd hn9 (Nat.not_lt_zero _)
    | succ n9 ih8 =>
      intro i hi hall hn8 H locs ls M hl
      refine lv_iload_n C.1 C.2.1 dX8_quarrelling_8 rfl (lv_at hl 1 rfl) ?_
      refine lv_aload_n C.1 C.2.1 dX8_quarrelling_9 rfl (lv_at hl 2 rfl) ?_
      refine g_getI C M 1 6 (by decide) rfl rfl (by decide) fl8_57 (v := nI n) hnτ dX8_quarrelling_10 ?_
      refine lv_icmp_ge (tgt := 41) C.1 C.2.1 dX8_quarrelling_13 (by decide) (fun c_13 => ?_) (fun c_13 => ?_)
      · skip
        have hkn : i = n := by have := ct_ge (n := n) (k := i) c_13; omega
        have hl : lv_has ls 4 [(2, .int (nI (cnz (hA τ 1 12 0) n))), (3, .int (nI n)), (0, .ref (hO E 1)), (1, .int x)] := by first | exact hl | (rw [hkn] at hl; exact hl)
        have M : hM E A s H locs τ Z := by first | exact M | (rw [hkn] at M; exact M)
        refine lv_iconst (v := (-1)) C.1 C.2.1 dX8_quarrelling_41 (by decide) ?_
        refine g_iret C M hr hlk ?_ (Nat.le_of_ble_eq_true rfl) (Nat.le_of_ble_eq_true rfl) dX8_quarrelling_42
        exact ⟨τ, rfl, hQtl, Or.inr ⟨by rw [hkn] at hall; exact hall, rfl⟩⟩
      · skip
        have hi1 : i < n := ct_nge (n := n) (k := i) c_13
        refine lv_aload_n C.1 C.2.1 dX8_quarrelling_16 rfl (lv_at hl 2 rfl) ?_
        refine g_getA C M 1 12 (by decide) rfl rfl (by decide) fl8_44 dX8_quarrelling_17 ?_
        refine lv_iload_n C.1 C.2.1 dX8_quarrelling_20 rfl (lv_at hl 1 rfl) ?_
        refine g_zald C M 1 12 (by decide) rfl i (nI_clamp (by omega)) (vp_in_nI (by omega) (by decide)) (v := hA τ 1 12 0 i) rfl dX8_quarrelling_21 ?_
        refine lv_if_eq (tgt := 35) C.1 C.2.1 dX8_quarrelling_22 (by decide) (fun c_22 => ?_) (fun c_22 => ?_)
        · skip
          refine lv_iinc (v := nI (i + 1)) (lv' := [(3, .int (nI (i + 1))), (2, .int (nI (cnz (hA τ 1 12 0) i))), (0, .ref (hO E 1)), (1, .int x)]) C.1 C.2.1 dX8_quarrelling_35 hl (k := 1) rfl (nI_succ _).symm (by decide) rfl (fun ls hl => ?_)
          refine lv_goto (tgt := 8) C.1 C.2.1 dX8_quarrelling_38 (by decide) ?_
          have q1 : nI (cnz (hA τ 1 12 0) i) = nI (cnz (hA τ 1 12 0) (i + 1)) := by first | rfl | (show _ = nI (cnz (hA τ 1 12 0) i + (if hA τ 1 12 0 i = 0 then 0 else 1)); first | (rw [if_pos c_22]; rfl) | rw [if_neg c_22])
          have hl : lv_has ls 4 [(2, .int (nI (cnz (hA τ 1 12 0) (i + 1)))), (3, .int (nI (i + 1))), (0, .ref (hO E 1)), (1, .int x)] := by
            rw [← q1]
            exact lv_sub hl [1, 0, 2, 3] rfl
          exact ih8 (i + 1) hi1 (show ∀ z, z < i + 1 → ¬ hA τ 1 12 0 z = 0 → ¬ x = nI (cnz (hA τ 1 12 0) z) from fun z hz hg => by by_cases e : z = i; (rw [e] at hg ⊢; first | exact absurd c_22 hg | exact fun q => c_27 q.symm); exact hall z (by omega) hg) (by omega) _ _ _ M hl
        · skip
          refine lv_iload_n C.1 C.2.1 dX8_quarrelling_25 rfl (lv_at hl 0 rfl) ?_
          refine lv_iload_n C.1 C.2.1 dX8_quarrelling_26 rfl (lv_at hl 3 rfl) ?_
          refine lv_icmp_ne (tgt := 32) C.1 C.2.1 dX8_quarrelling_27 (by decide) (fun c_27 => ?_) (fun c_27 => ?_)
          · skip
            refine lv_iinc (v := nI ((cnz (hA τ 1 12 0) i) + 1)) (lv' := [(2, .int (nI ((cnz (hA τ 1 12 0) i) + 1))), (3, .int (nI i)), (0, .ref (hO E 1)), (1, .int x)]) C.1 C.2.1 dX8_quarrelling_32 hl (k := 0) rfl (nI_succ _).symm (by decide) rfl (fun ls hl => ?_)
            refine lv_iinc (v := nI (i + 1)) (lv' := [(3, .int (nI (i + 1))), (2, .int (nI ((cnz (hA τ 1 12 0) i) + 1))), (0, .ref (hO E 1)), (1, .int x)]) C.1 C.2.1 dX8_quarrelling_35 hl (k := 1) rfl (nI_succ _).symm (by decide) rfl (fun ls hl => ?_)
            refine lv_goto (tgt := 8) C.1 C.2.1 dX8_quarrelling_38 (by decide) ?_
            have q2 : nI ((cnz (hA τ 1 12 0) i) + 1) = nI (cnz (hA τ 1 12 0) (i + 1)) := by first | rfl | (show _ = nI (cnz (hA τ 1 12 0) i + (if hA τ 1 12 0 i = 0 then 0 else 1)); first | (rw [if_pos c_22]; rfl) | rw [if_neg c_22])
            have hl : lv_has ls 4 [(2, .int (nI (cnz (hA τ 1 12 0) (i + 1)))), (3, .int (nI (i + 1))), (0, .ref (hO E 1)), (1, .int x)] := by
              rw [← q2]
              exact lv_sub hl [1, 0, 2, 3] rfl
            exact ih8 (i + 1) hi1 (show ∀ z, z < i + 1 → ¬ hA τ 1 12 0 z = 0 → ¬ x = nI (cnz (hA τ 1 12 0) z) from fun z hz hg => by by_cases e : z = i; (rw [e] at hg ⊢; first | exact absurd c_22 hg | exact fun q => c_27 q.symm); exact hall z (by omega) hg) (by omega) _ _ _ M hl
          · skip
            refine lv_iload_n C.1 C.2.1 dX8_quarrelling_30 rfl (lv_at hl 1 rfl) ?_
            refine g_iret C M hr hlk ?_ (Nat.le_of_ble_eq_true rfl) (Nat.le_of_ble_eq_true rfl) dX8_quarrelling_31
            exact ⟨τ, rfl, hQtl, Or.inl ⟨i, hi1, c_22, c_27.symm, rfl⟩⟩
  have q3 : 0 = nI (cnz (hA τ 1 12 0) 0) := by first | rfl | (show _ = nI (cnz (hA τ 1 12 0) i + (if hA τ 1 12 0 i = 0 then 0 else 1)); first | (rw [if_pos c_22]; rfl) | rw [if_neg c_22])
  have q4 : 0 = nI 0 := by first | rfl | (show _ = nI (cnz (hA τ 1 12 0) i + (if hA τ 1 12 0 i = 0 then 0 else 1)); first | (rw [if_pos c_22]; rfl) | rw [if_neg c_22])
  have hl : lv_has ls 4 [(2, .int (nI (cnz (hA τ 1 12 0) 0))), (3, .int (nI 0)), (0, .ref (hO E 1)), (1, .int x)] := by
    rw [← q3, ← q4]
    exact lv_sub hl [1, 0, 2, 3] rfl
  exact L8 ((n - 0) + 1) 0 (Nat.zero_le _) (fun z hz => absurd hz (Nat.not_lt_zero z)) (Nat.lt_succ_self _) _ _ _ M hl
