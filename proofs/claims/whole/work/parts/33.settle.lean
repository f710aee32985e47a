set_option maxHeartbeats 4000000 in
set_option maxRecDepth 100000 in
theorem x_ttakes (l : Launch) (E : hEnv) (σ : hMem) (Z : va_W) (j : Nat) (hj : j < 44) (hL : hLay j = layBounds) (hC : hCi j = 0) (n i : Nat) (hi : i < n) (hn40 : n ≤ 40) (hW : csW σ n) (Ed : Nat → Nat → Int → Prop) (hE : EdIn Ed) (hs : Seed Ed) (hX : PT Ed 16 (cX (hA σ j 0 0))) : hMet l yX8_takes cX8_takes 3 (some .boolean) (2, 0, 0, 51) E σ Z [.ref (hO E 1), .ref (hO E j), .int (nI i)] (hQi E (fun r u => (r = 1 ∧ ∃ f, u = (sA σ j 0 0 f, Z) ∧ PT (EdS Ed (cFr σ i) (cTo σ i) (cLo σ i) (cHi σ i)) 16 (cX f)) ∨ (r = 0 ∧ u = (σ, Z) ∧ ¬ NoNeg (EdS Ed (cFr σ i) (cTo σ i) (cLo σ i) (cHi σ i))))) := by
  refine hMet.of (by decide) (Nat.le_of_ble_eq_true rfl) (fun p e s m below meth c A ls C M hr hlk hl => ?_)
  have hl : lv_has ls 3 [(0, .ref (hO E 1)), (1, .ref (hO E j)), (2, .int (nI i))] := hl
  generalize s.heap = H at M ⊢
  generalize ([] : List Loc) = locs at M ⊢
  refine lv_aload_n C.1 C.2.1 dX8_takes_0 rfl (lv_at hl 1 rfl) ?_
  refine lv_aload_n C.1 C.2.1 dX8_takes_1 rfl (lv_at hl 0 rfl) ?_
  refine g_getA C M 1 2 (by decide) rfl rfl (by decide) fl8_18 dX8_takes_2 ?_
  refine lv_iload_n C.1 C.2.1 dX8_takes_5 rfl (lv_at hl 2 rfl) ?_
  refine g_iald C M 1 2 (by decide) rfl i (nI_clamp (by omega)) (vp_in_nI (by omega) (by decide)) (v := nI (cFr σ i)) (cl_nI (hW i hi).1 (by decide)) dX8_takes_6 ?_
  refine lv_aload_n C.1 C.2.1 dX8_takes_7 rfl (lv_at hl 0 rfl) ?_
  refine g_getA C M 1 3 (by decide) rfl rfl (by decide) fl8_21 dX8_takes_8 ?_
  refine lv_iload_n C.1 C.2.1 dX8_takes_11 rfl (lv_at hl 2 rfl) ?_
  refine g_iald C M 1 3 (by decide) rfl i (nI_clamp (by omega)) (vp_in_nI (by omega) (by decide)) (v := nI (cTo σ i)) (cl_nI (hW i hi).2.1 (by decide)) dX8_takes_12 ?_
  refine lv_aload_n C.1 C.2.1 dX8_takes_13 rfl (lv_at hl 0 rfl) ?_
  refine g_getA C M 1 4 (by decide) rfl rfl (by decide) fl8_24 dX8_takes_14 ?_
  refine lv_iload_n C.1 C.2.1 dX8_takes_17 rfl (lv_at hl 2 rfl) ?_
  refine g_iald C M 1 4 (by decide) rfl i (nI_clamp (by omega)) (vp_in_nI (by omega) (by decide)) (v := hA σ 1 4 0 i) rfl dX8_takes_18 ?_
  refine lv_aload_n C.1 C.2.1 dX8_takes_19 rfl (lv_at hl 0 rfl) ?_
  refine g_getA C M 1 5 (by decide) rfl rfl (by decide) fl8_27 dX8_takes_20 ?_
  refine lv_iload_n C.1 C.2.1 dX8_takes_23 rfl (lv_at hl 2 rfl) ?_
  refine g_iald C M 1 5 (by decide) rfl i (nI_clamp (by omega)) (vp_in_nI (by omega) (by decide)) (v := hA σ 1 5 0 i) rfl dX8_takes_24 ?_
  refine g_calli M (g_runV (As := [.int (nI (cFr σ i)), .int (nI (cTo σ i)), .int (hA σ 1 4 0 i), .int (hA σ 1 5 0 i)]) (rest := []) C M j (x_bnarrow l E σ Z j hj hL hC (cFr σ i) (cTo σ i) (vp_lt (hW i hi).1) (vp_lt (hW i hi).2.1) (hW i hi).2.2.1 (hA σ 1 4 0 i) (hA σ 1 5 0 i) Ed hE hs hX (hW i hi).2.2.2.1 (hW i hi).2.2.2.2.1 (hW i hi).2.2.2.2.2) clX0_narrow ivX0_narrow lk8_98 hj (by rw [hC]; rfl) rfl ⟨Nat.le_of_ble_eq_true rfl, Nat.le_of_ble_eq_true rfl⟩ hl.1 rfl (Nat.le_of_ble_eq_true rfl) dX8_takes_25 ⟨Nat.le_of_ble_eq_true rfl, Nat.le_of_ble_eq_true rfl⟩) (fun r1 u H locs hR M => ?_)
  refine W.widen (k := 0) (n := 0) (Nat.le_of_ble_eq_true rfl) (Nat.le_of_ble_eq_true rfl) ?_
  refine g_zret (by rcases hR with ⟨h1, _⟩ | ⟨h1, _⟩ <;> rw [h1] <;> rfl) C M hr hlk ?_ (Nat.le_of_ble_eq_true rfl) (Nat.le_of_ble_eq_true rfl) dX8_takes_28
  exact hR

set_option maxHeartbeats 4000000 in
set_option maxRecDepth 100000 in
theorem x_tsettle (l : Launch) (E : hEnv) (σ : hMem) (Z : va_W) (n : Nat) (hn : hI σ 1 6 = nI n) (hn40 : n ≤ 40) (hW : csW σ n) (hlg : ∀ k, k < n → vp_in (hA σ 1 1 0 k) 6) (htr : ∀ k, k < n → 0 ≤ (cTr σ k).toInt ∧ (cTr σ k).toInt ≤ 9) (hg01 : ∀ k, hA σ 1 8 0 k = 0 ∨ hA σ 1 8 0 k = 1) : hMet l yX8_settleBelief cX8_settleBelief 3 none (3, 0, 0, 73) E σ Z [.ref (hO E 1)] (hQv E (fun u => (¬ hI σ 1 10 = 0 ∧ u = (σ, Z)) ∨ (hI σ 1 10 = 0 ∧ ∃ g f c, u = (sI (bM σ g f c) 1 10 1, Z) ∧ c ≤ n ∧ cBel σ n g f c))) := by
  refine hMet.of (by decide) (Nat.le_of_ble_eq_true rfl) (fun p e s m below meth c A ls C M hr hlk hl => ?_)
  have hl : lv_has ls 3 [(0, .ref (hO E 1))] := hl
  generalize s.heap = H at M ⊢
  generalize ([] : List Loc) = locs at M ⊢
  refine lv_aload_n C.1 C.2.1 dX8_settleBelief_0 rfl (lv_at hl 0 rfl) ?_
  refine g_getI C M 1 10 (by decide) rfl rfl (by decide) fl8_53 (v := hI σ 1 10) rfl dX8_settleBelief_1 ?_
  refine lv_if_eq (tgt := 8) C.1 C.2.1 dX8_settleBelief_4 (by decide) (fun c_4 => ?_) (fun c_4 => ?_)
  · skip
    refine lv_aload_n C.1 C.2.1 dX8_settleBelief_8 rfl (lv_at hl 0 rfl) ?_
    refine g_getO C M 1 7 2 (by decide) rfl rfl (by decide) fl8_33 dX8_settleBelief_9 ?_
    refine g_callv M (g_runV (As := []) (rest := []) C M 2 (x_bclear l E σ Z 2 (by decide) rfl rfl) clX0_clear ivX0_clear lk8_87 (by decide) rfl rfl ⟨Nat.le_of_ble_eq_true rfl, Nat.le_of_ble_eq_true rfl⟩ hl.1 rfl (Nat.le_of_ble_eq_true rfl) dX8_settleBelief_12 ⟨Nat.le_of_ble_eq_true rfl, Nat.le_of_ble_eq_true rfl⟩) (fun u H locs hR M => ?_)
    refine W.widen (k := 0) (n := 0) (Nat.le_of_ble_eq_true rfl) (Nat.le_of_ble_eq_true rfl) ?_
    subst hR
    have M : hM E A s H locs (sA σ 2 0 0 (bCl (hA σ 2 0 0) 16)) Z := M
    refine lv_aload_n C.1 C.2.1 dX8_settleBelief_15 rfl (lv_at hl 0 rfl) ?_
    refine lv_iconst (v := 0) C.1 C.2.1 dX8_settleBelief_16 (by decide) ?_
    refine g_putI C M 1 9 (by decide) rfl rfl (by decide) fl8_71 rfl rfl dX8_settleBelief_17 (fun H locs M => ?_)
    rw [bM_0] at M
    refine lv_bipush (v := 9) C.1 C.2.1 dX8_settleBelief_20 (by decide) ?_
    refine lv_istore_n (lv' := [(1, .int 9), (0, .ref (hO E 1))]) C.1 C.2.1 dX8_settleBelief_22 rfl hl (by decide) rfl (fun ls hl => ?_)
    have L23 : ∀ (n9 : Nat) (t : Nat) (g : Nat → Int32) (f : Nat → Int32) (c9 : Nat), (t ≤ 10) → (Cn σ n ((t : Nat) - 1 : Int) 0 g f c9) → t < n9 → ∀ (H : Heap) (locs : List Loc) (ls : Array Slot), hM E A s H locs (bM σ g f c9) Z → lv_has ls 3 [(1, .int (nI t - 1)), (0, .ref (hO E 1))] → W p l e (hRm (3, 0, 0, 73)) s m [.ref (hO E 1)].toArray below meth c H locs 0 0 (MQ below (hQv E (fun u => (¬ hI σ 1 10 = 0 ∧ u = (σ, Z)) ∨ (hI σ 1 10 = 0 ∧ ∃ g f c, u = (sI (bM σ g f c) 1 10 1, Z) ∧ c ≤ n ∧ cBel σ n g f c)) A) [.ref (hO E 1)].toArray s 0 0 A) (F0 m 23 ls []) := by
      intro n9
      induction n9 with
      | zero =>
        intro t g f c9 ht hCn hn9
        exact absurd hn9 (Nat.not_lt_zero _)
      | succ n9 ih23 =>
        intro t g f c9 ht hCn hn23 H locs ls M hl
        refine lv_iload_n C.1 C.2.1 dX8_settleBelief_23 rfl (lv_at hl 0 rfl) ?_
        refine lv_if_lt (tgt := 102) C.1 C.2.1 dX8_settleBelief_24 (by decide) (fun c_24 => ?_) (fun c_24 => ?_)
        · skip
          have ht0 : t = 0 := nI_neg (by omega) c_24
          refine lv_aload_n C.1 C.2.1 dX8_settleBelief_102 rfl (lv_at hl 1 rfl) ?_
          refine lv_iconst (v := 1) C.1 C.2.1 dX8_settleBelief_103 (by decide) ?_
          refine g_putZ C M 1 10 (Or.inr rfl) (by decide) rfl rfl (by decide) fl8_53 rfl rfl dX8_settleBelief_104 (fun H locs M => ?_)
          refine g_vret C M hr hlk ?_ (Nat.le_of_ble_eq_true rfl) (Nat.le_of_ble_eq_true rfl) dX8_settleBelief_107
          exact Or.inr ⟨c_4, g, f, c9, rfl, hCn.cle, Cn.end (by rw [ht0] at hCn; exact hCn) hW (fun k hk => (htr k hk).1)⟩
        · skip
          obtain ⟨q9, rfl⟩ := nI_nneg c_24
          have hl : lv_has ls 3 [(1, .int (nI q9)), (0, .ref (hO E 1))] := by rw [nI_pred] at hl; exact hl
          have hCn : Cn σ n (q9 : Int) 0 g f c9 := by
            have e9 : ((q9 + 1 : Nat) : Int) - 1 = (q9 : Int) := by omega
            rw [e9] at hCn
            exact hCn
          refine lv_iconst (v := 0) C.1 C.2.1 dX8_settleBelief_27 (by decide) ?_
          refine lv_istore_n (lv' := [(2, .int 0), (1, .int (nI q9)), (0, .ref (hO E 1))]) C.1 C.2.1 dX8_settleBelief_28 rfl hl (by decide) rfl (fun ls hl => ?_)
          have L29 : ∀ (n9 : Nat) (i : Nat) (g : Nat → Int32) (f : Nat → Int32) (c9 : Nat), (i ≤ n) → (Cn σ n (q9 : Int) i g f c9) → n - i < n9 → ∀ (H : Heap) (locs : List Loc) (ls : Array Slot), hM E A s H locs (bM σ g f c9) Z → lv_has ls 3 [(2, .int (nI i)), (0, .ref (hO E 1)), (1, .int (nI q9))] → W p l e (hRm (3, 0, 0, 73)) s m [.ref (hO E 1)].toArray below meth c H locs 0 0 (MQ below (hQv E (fun u => (¬ hI σ 1 10 = 0 ∧ u = (σ, Z)) ∨ (hI σ 1 10 = 0 ∧ ∃ g f c, u = (sI (bM σ g f c) 1 10 1, Z) ∧ c ≤ n ∧ cBel σ n g f c)) A) [.ref (hO E 1)].toArray s 0 0 A) (F0 m 29 ls []) := by
            intro n9
            induction n9 with
            | zero =>
              intro i g f c9 hi hCn hn9
              exact absurd hn9 (Nat.not_lt_zero _)
            | succ n9 ih29 =>
              intro i g f c9 hi hCn hn29 H locs ls M hl
              refine lv_iload_n C.1 C.2.1 dX8_settleBelief_29 rfl (lv_at hl 0 rfl) ?_
              refine lv_aload_n C.1 C.2.1 dX8_settleBelief_30 rfl (lv_at hl 1 rfl) ?_
              refine g_getI C M 1 6 (by decide) rfl rfl (by decide) fl8_57 (v := nI n) hn dX8_settleBelief_31 ?_
              refine lv_icmp_ge (tgt := 96) C.1 C.2.1 dX8_settleBelief_34 (by decide) (fun c_34 => ?_) (fun c_34 => ?_)
              · skip
                have hkn : i = n := by have := ct_ge (n := n) (k := i) c_34; omega
                have hl : lv_has ls 3 [(2, .int (nI n)), (0, .ref (hO E 1)), (1, .int (nI q9))] := by first | exact hl | (rw [hkn] at hl; exact hl)
                have M : hM E A s H locs (bM σ g f c9) Z := by first | exact M | (rw [hkn] at M; exact M)
                refine lv_iinc (v := nI q9 + (-1)) (lv' := [(1, .int (nI q9 + (-1))), (2, .int (nI n)), (0, .ref (hO E 1))]) C.1 C.2.1 dX8_settleBelief_96 hl (k := 2) rfl rfl (by decide) rfl (fun ls hl => ?_)
                refine lv_goto (tgt := 23) C.1 C.2.1 dX8_settleBelief_99 (by decide) ?_
                have q1 : nI q9 + (-1) = nI q9 - 1 := by exact nI_m1k
                have hl : lv_has ls 3 [(1, .int (nI q9 - 1)), (0, .ref (hO E 1))] := by
                  rw [← q1]
                  exact lv_sub hl [0, 2] rfl
                exact ih23 q9 g f c9 (by omega) (Cn.down (by rw [hkn] at hCn; exact hCn) hW) (by omega) _ _ _ M hl
              · skip
                have hi1 : i < n := ct_nge (n := n) (k := i) c_34
                refine lv_aload_n C.1 C.2.1 dX8_settleBelief_37 rfl (lv_at hl 1 rfl) ?_
                refine g_getA C M 1 0 (by decide) rfl rfl (by decide) fl8_9 dX8_settleBelief_38 ?_
                refine lv_aload_n C.1 C.2.1 dX8_settleBelief_41 rfl (lv_at hl 1 rfl) ?_
                refine g_getA C M 1 1 (by decide) rfl rfl (by decide) fl8_15 dX8_settleBelief_42 ?_
                refine lv_iload_n C.1 C.2.1 dX8_settleBelief_45 rfl (lv_at hl 0 rfl) ?_
                refine g_iald C M 1 1 (by decide) rfl i (nI_clamp (by omega)) (vp_in_nI (by omega) (by decide)) (v := hA σ 1 1 0 i) rfl dX8_settleBelief_46 ?_
                refine g_iald C M 1 0 (by decide) rfl ((hA σ 1 1 0 i).toNatClampNeg) rfl (hlg i hi1) (v := hA σ 1 0 0 ((hA σ 1 1 0 i).toNatClampNeg)) rfl dX8_settleBelief_47 ?_
                refine lv_iload_n C.1 C.2.1 dX8_settleBelief_48 rfl (lv_at hl 2 rfl) ?_
                refine lv_icmp_ne (tgt := 90) C.1 C.2.1 dX8_settleBelief_49 (by decide) (fun c_49 => ?_) (fun c_49 => ?_)
                · skip
                  refine lv_iinc (v := nI (i + 1)) (lv' := [(2, .int (nI (i + 1))), (0, .ref (hO E 1)), (1, .int (nI q9))]) C.1 C.2.1 dX8_settleBelief_90 hl (k := 0) rfl (nI_succ _).symm (by decide) rfl (fun ls hl => ?_)
                  refine lv_goto (tgt := 29) C.1 C.2.1 dX8_settleBelief_93 (by decide) ?_
                  exact ih29 (i + 1) g f c9 hi1 (hCn.skip hW (fun q => c_49 (by show cTr σ i = nI q9; rw [← Int32.toInt_inj, q]; exact (nI_toInt (by omega)).symm))) (by omega) _ _ _ M (lv_sub hl [0, 1, 2] rfl)
                · skip
                  refine lv_aload_n C.1 C.2.1 dX8_settleBelief_52 rfl (lv_at hl 1 rfl) ?_
                  refine g_getA C M 1 8 (by decide) rfl rfl (by decide) fl8_37 dX8_settleBelief_53 ?_
                  refine lv_iload_n C.1 C.2.1 dX8_settleBelief_56 rfl (lv_at hl 0 rfl) ?_
                  refine lv_aload_n C.1 C.2.1 dX8_settleBelief_57 rfl (lv_at hl 1 rfl) ?_
                  refine lv_aload_n C.1 C.2.1 dX8_settleBelief_58 rfl (lv_at hl 1 rfl) ?_
                  refine g_getO C M 1 7 2 (by decide) rfl rfl (by decide) fl8_33 dX8_settleBelief_59 ?_
                  refine lv_iload_n C.1 C.2.1 dX8_settleBelief_62 rfl (lv_at hl 0 rfl) ?_
                  refine g_calli M (g_runV (As := [.ref (hO E 2), .int (nI i)]) (rest := [.int (nI i), .ref (hR E 1 8 0)]) C M 1 (x_ttakes l E (bM σ g f c9) Z 2 (by decide) rfl rfl n i hi1 hn40 hW (cEP σ n (Pd σ q9 i g)) (cEP_in hW _) (seedC hW _) hCn.2.1) clX8_takes ivX8_takes lk8_90 (by decide) rfl rfl ⟨Nat.le_of_ble_eq_true rfl, Nat.le_of_ble_eq_true rfl⟩ hl.1 rfl (Nat.le_of_ble_eq_true rfl) dX8_settleBelief_63 ⟨Nat.le_of_ble_eq_true rfl, Nat.le_of_ble_eq_true rfl⟩) (fun r2 u H locs hR M => ?_)
                  refine W.widen (k := 0) (n := 0) (Nat.le_of_ble_eq_true rfl) (Nat.le_of_ble_eq_true rfl) ?_
                  obtain ⟨f1, hu, hRR⟩ : ∃ f1, u = (bM σ g f1 c9, Z) ∧ ((r2 = 1 ∧ PT (cEP σ n (fun j => Pd σ q9 i g j ∨ j = i)) 16 (cX f1)) ∨ (r2 = 0 ∧ f1 = f ∧ ¬ NoNeg (cEP σ n (fun j => Pd σ q9 i g j ∨ j = i)))) := by
                    rcases hR with ⟨h1, f9, h2, h3⟩ | ⟨h1, h2, h3⟩
                    · exact ⟨f9, by rw [h2, bM_f], Or.inl ⟨h1, h3.congr (Nat.le_refl _) (fun a b w => cEP_add hi1 _ a b w) (fun a b w hw => cEP_in hW _ a b w ((cEP_add hi1 _ a b w).mp hw)) (fun _ _ _ _ => rfl)⟩⟩
                    · exact ⟨f, h2, Or.inr ⟨h1, rfl, fun hN => h3 ((NoNeg.congr (fun a b w => cEP_add hi1 _ a b w)).mpr hN)⟩⟩
                  subst hu
                  have M : hM E A s H locs (bM σ g f1 c9) Z := M
                  refine g_zast C M 1 8 (by decide) rfl (by rcases hRR with ⟨h1, _⟩ | ⟨h1, _⟩; exact Or.inr h1; exact Or.inl h1) i (nI_clamp (by omega)) (vp_in_nI (by omega) (by decide)) dX8_settleBelief_66 (fun H locs M => ?_)
                  have M : hM E A s H locs (sA (bM σ g f1 c9) 1 8 0 (upd g i r2)) Z := M
                  rw [bM_g] at M
                  refine lv_aload_n C.1 C.2.1 dX8_settleBelief_67 rfl (lv_at hl 1 rfl) ?_
                  refine lv_dup C.1 C.2.1 dX8_settleBelief_68 rfl ?_
                  refine g_getI C M 1 9 (by decide) rfl rfl (by decide) fl8_71 (v := nI c9) rfl dX8_settleBelief_69 ?_
                  refine lv_aload_n C.1 C.2.1 dX8_settleBelief_72 rfl (lv_at hl 1 rfl) ?_
                  refine g_getA C M 1 8 (by decide) rfl rfl (by decide) fl8_37 dX8_settleBelief_73 ?_
                  refine lv_iload_n C.1 C.2.1 dX8_settleBelief_76 rfl (lv_at hl 0 rfl) ?_
                  refine g_zald C M 1 8 (by decide) rfl i (nI_clamp (by omega)) (vp_in_nI (by omega) (by decide)) (v := r2) pk_us dX8_settleBelief_77 ?_
                  refine lv_if_eq (tgt := 85) C.1 C.2.1 dX8_settleBelief_78 (by decide) (fun c_78 => ?_) (fun c_78 => ?_)
                  · skip
                    refine lv_iconst (v := 0) C.1 C.2.1 dX8_settleBelief_85 (by decide) ?_
                    refine lv_iadd C.1 C.2.1 dX8_settleBelief_86 ?_
                    refine g_rei (v := nI (c9 + 0)) (nI_add _ 0) ?_
                    refine g_putI C M 1 9 (by decide) rfl rfl (by decide) fl8_71 rfl rfl dX8_settleBelief_87 (fun H locs M => ?_)
                    have M : hM E A s H locs (sI (bM σ (upd g i r2) f1 c9) 1 9 (nI (c9 + 0))) Z := M
                    rw [bM_c] at M
                    refine lv_iinc (v := nI (i + 1)) (lv' := [(2, .int (nI (i + 1))), (0, .ref (hO E 1)), (1, .int (nI q9))]) C.1 C.2.1 dX8_settleBelief_90 hl (k := 0) rfl (nI_succ _).symm (by decide) rfl (fun ls hl => ?_)
                    refine lv_goto (tgt := 29) C.1 C.2.1 dX8_settleBelief_93 (by decide) ?_
                    exact ih29 (i + 1) (upd g i r2) f1 (c9 + 0) hi1 (by have h9 := hCn.s hi1 (by rw [show cTr σ i = nI q9 from c_49]; exact nI_toInt (by omega)) hW hRR; first | (rw [if_pos c_78] at h9; exact h9) | (rw [if_neg c_78] at h9; exact h9)) (by omega) _ _ _ M (lv_sub hl [0, 1, 2] rfl)
                  · skip
                    refine lv_iconst (v := 1) C.1 C.2.1 dX8_settleBelief_81 (by decide) ?_
                    refine lv_goto (tgt := 86) C.1 C.2.1 dX8_settleBelief_82 (by decide) ?_
                    refine lv_iadd C.1 C.2.1 dX8_settleBelief_86 ?_
                    refine g_rei (v := nI (c9 + 1)) (nI_1 _) ?_
                    refine g_putI C M 1 9 (by decide) rfl rfl (by decide) fl8_71 rfl rfl dX8_settleBelief_87 (fun H locs M => ?_)
                    have M : hM E A s H locs (sI (bM σ (upd g i r2) f1 c9) 1 9 (nI (c9 + 1))) Z := M
                    rw [bM_c] at M
                    refine lv_iinc (v := nI (i + 1)) (lv' := [(2, .int (nI (i + 1))), (0, .ref (hO E 1)), (1, .int (nI q9))]) C.1 C.2.1 dX8_settleBelief_90 hl (k := 0) rfl (nI_succ _).symm (by decide) rfl (fun ls hl => ?_)
                    refine lv_goto (tgt := 29) C.1 C.2.1 dX8_settleBelief_93 (by decide) ?_
                    exact ih29 (i + 1) (upd g i r2) f1 (c9 + 1) hi1 (by have h9 := hCn.s hi1 (by rw [show cTr σ i = nI q9 from c_49]; exact nI_toInt (by omega)) hW hRR; first | (rw [if_pos c_78] at h9; exact h9) | (rw [if_neg c_78] at h9; exact h9)) (by omega) _ _ _ M (lv_sub hl [0, 1, 2] rfl)
          have q3 : 0 = nI 0 := by rfl
          have hl : lv_has ls 3 [(2, .int (nI 0)), (0, .ref (hO E 1)), (1, .int (nI q9))] := by
            rw [← q3]
            exact lv_sub hl [0, 2, 1] rfl
          exact L29 ((n - 0) + 1) 0 g f c9 (Nat.zero_le _) hCn (Nat.lt_succ_self _) _ _ _ M hl
    have q4 : 9 = nI 10 - 1 := by decide
    have hl : lv_has ls 3 [(1, .int (nI 10 - 1)), (0, .ref (hO E 1))] := by
      rw [← q4]
      exact lv_sub hl [0, 1] rfl
    exact L23 (10 + 1) 10 (hA σ 1 8 0) (bCl (hA σ 2 0 0) 16) 0 (Nat.le_refl _) (Cn.z (fun k hk => (htr k hk).2) hg01) (Nat.lt_succ_self _) _ _ _ M hl
  · skip
    refine g_vret C M hr hlk ?_ (Nat.le_of_ble_eq_true rfl) (Nat.le_of_ble_eq_true rfl) dX8_settleBelief_7
    exact Or.inl ⟨c_4, rfl⟩
