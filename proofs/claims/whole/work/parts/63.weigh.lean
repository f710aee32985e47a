set_option maxHeartbeats 4000000 in
set_option maxRecDepth 100000 in
theorem x_weigh (l : Launch) (E : hEnv) (σ : hMem) (Z : va_W) (n : Nat) (hn : hI σ 1 6 = nI n) (hn40 : n ≤ 40) (hW : csW σ n) (hlg : ∀ k, k < n → vp_in (hA σ 1 1 0 k) 6) (htr : ∀ k, k < n → 0 ≤ (cTr σ k).toInt ∧ (cTr σ k).toInt ≤ 9) (hg01 : ∀ k, hA σ 1 8 0 k = 0 ∨ hA σ 1 8 0 k = 1) (hcach : cach σ n) (ns : Nat) (hns8 : ns ≤ 8) (hs : csh σ ns) : hMet l yX4_weighShips cX4_weighShips 5 none (5, 0, 0, 117) E σ Z [.ref (hO E 12), .ref (hR E 0 7 0), .int (nI ns), .ref (hO E 1)] (hQv E (fun u => ∃ Y P AW, u = (cM Y ns AW (hL σ 12 7) (hL σ 12 8) P (fun i b => hI σ (35 + i) b) (fun i => hB σ (35 + i) 0 0), Z) ∧ Stq σ n Y ∧ (∀ i, i < ns → wOk σ n P i) ∧ AW = sumL (fun i => P i 2) ns)) := by
  refine hMet.of (by decide) (Nat.le_of_ble_eq_true rfl) (fun p e s m below meth c A ls C M hr hlk hl => ?_)
  have hl : lv_has ls 5 [(0, .ref (hO E 12)), (1, .ref (hR E 0 7 0)), (2, .int (nI ns)), (3, .ref (hO E 1))] := hl
  generalize s.heap = H at M ⊢
  generalize ([] : List Loc) = locs at M ⊢
  refine lv_aload_n C.1 C.2.1 dX4_weighShips_0 rfl (lv_at hl 0 rfl) ?_
  refine lv_iload_n C.1 C.2.1 dX4_weighShips_1 rfl (lv_at hl 2 rfl) ?_
  refine g_putI C M 12 9 (by decide) rfl rfl (by decide) fl4_29 rfl rfl dX4_weighShips_2 (fun H locs M => ?_)
  refine lv_aload_n C.1 C.2.1 dX4_weighShips_5 rfl (lv_at hl 0 rfl) ?_
  refine lv_lconst (v := 0) C.1 C.2.1 dX4_weighShips_6 (by decide) ?_
  refine g_putL C M 12 10 (by decide) rfl rfl (by decide) fl4_32 rfl rfl dX4_weighShips_7 (fun H locs M => ?_)
  rw [cM_ini] at M
  refine lv_iconst (v := 0) C.1 C.2.1 dX4_weighShips_10 (by decide) ?_
  refine lv_istore (lv' := [(4, .int 0), (0, .ref (hO E 12)), (1, .ref (hR E 0 7 0)), (2, .int (nI ns)), (3, .ref (hO E 1))]) C.1 C.2.1 dX4_weighShips_11 hl (by decide) rfl (fun ls hl => ?_)
  have L13 : ∀ (n9 : Nat) (k : Nat) (Y : hMem) (P : Nat → Nat → Int64) (AW : Int64), (k ≤ ns) → (Stq σ n Y) → (∀ i, i < k → wOk σ n P i) → (AW = sumL (fun i => P i 2) k) → ns - k < n9 → ∀ (H : Heap) (locs : List Loc) (ls : Array Slot), hM E A s H locs (cM Y ns AW (hL σ 12 7) (hL σ 12 8) P (fun i b => hI σ (35 + i) b) (fun i => hB σ (35 + i) 0 0)) Z → lv_has ls 5 [(4, .int (nI k)), (0, .ref (hO E 12)), (1, .ref (hR E 0 7 0)), (2, .int (nI ns)), (3, .ref (hO E 1))] → W p l e (hRm (5, 0, 0, 117)) s m [.ref (hO E 12), .ref (hR E 0 7 0), .int (nI ns), .ref (hO E 1)].toArray below meth c H locs 0 0 (MQ below (hQv E (fun u => ∃ Y P AW, u = (cM Y ns AW (hL σ 12 7) (hL σ 12 8) P (fun i b => hI σ (35 + i) b) (fun i => hB σ (35 + i) 0 0), Z) ∧ Stq σ n Y ∧ (∀ i, i < ns → wOk σ n P i) ∧ AW = sumL (fun i => P i 2) ns) A) [.ref (hO E 12), .ref (hR E 0 7 0), .int (nI ns), .ref (hO E 1)].toArray s 0 0 A) (F0 m 13 ls []) := by
    intro n9
    induction n9 with
    | zero =>
      intro k Y P AW hk hY hP hAW hn9
      exact absurd hn9 (Nat.not_lt_zero _)
    | succ n9 ih13 =>
      intro k Y P AW hk hY hP hAW hn13 H locs ls M hl
      refine lv_iload C.1 C.2.1 dX4_weighShips_13 (lv_at hl 0 rfl) ?_
      refine lv_aload_n C.1 C.2.1 dX4_weighShips_15 rfl (lv_at hl 1 rfl) ?_
      refine g_getI C M 12 9 (by decide) rfl rfl (by decide) fl4_29 (v := nI ns) rfl dX4_weighShips_16 ?_
      refine lv_icmp_ge (tgt := 109) C.1 C.2.1 dX4_weighShips_19 (by decide) (fun c_19 => ?_) (fun c_19 => ?_)
      · skip
        have hkn : k = ns := by have := ct_ge (n := ns) (k := k) c_19; omega
        have hl : lv_has ls 5 [(4, .int (nI ns)), (0, .ref (hO E 12)), (1, .ref (hR E 0 7 0)), (2, .int (nI ns)), (3, .ref (hO E 1))] := by first | exact hl | (rw [hkn] at hl; exact hl)
        have M : hM E A s H locs (cM Y ns AW (hL σ 12 7) (hL σ 12 8) P (fun i b => hI σ (35 + i) b) (fun i => hB σ (35 + i) 0 0)) Z := by first | exact M | (rw [hkn] at M; exact M)
        refine g_vret C M hr hlk ?_ (Nat.le_of_ble_eq_true rfl) (Nat.le_of_ble_eq_true rfl) dX4_weighShips_109
        rw [hkn] at hP hAW; exact ⟨Y, P, AW, rfl, hY, hP, hAW⟩
      · skip
        have hk1 : k < ns := ct_nge (n := ns) (k := k) c_19
        have hYk := hY.ok hn hW hlg htr hg01 hcach
        refine lv_aload_n C.1 C.2.1 dX4_weighShips_22 rfl (lv_at hl 1 rfl) ?_
        refine g_getQ C M 12 2 (by decide) rfl rfl (by decide) fl4_20 dX4_weighShips_23 ?_
        refine lv_iload C.1 C.2.1 dX4_weighShips_26 (lv_at hl 0 rfl) ?_
        refine g_aald7 C M 12 2 (by decide) rfl (by decide) k (nI_clamp (by omega)) (vp_in_nI (by omega) (by decide)) dX4_weighShips_28 ?_
        refine lv_iconst (v := 0) C.1 C.2.1 dX4_weighShips_29 (by decide) ?_
        refine lv_aload_n C.1 C.2.1 dX4_weighShips_30 rfl (lv_at hl 4 rfl) ?_
        refine lv_aload_n C.1 C.2.1 dX4_weighShips_31 rfl (lv_at hl 2 rfl) ?_
        refine lv_iload C.1 C.2.1 dX4_weighShips_32 (lv_at hl 0 rfl) ?_
        refine g_aald7 C M 0 7 (by decide) rfl (by decide) k (nI_clamp (by omega)) (vp_in_nI (by omega) (by decide)) dX4_weighShips_34 ?_
        refine g_getI C M (19 + k) 2 (by omega) (by rw [lay19 (by omega)]; rfl) (by rw [ci19 (by omega)]; rfl) (by decide) fl4_36 (v := nI (caN σ k)) (((cM_Io (by omega) (by omega)).trans (hY.I (by omega))).trans (hs k hk1).2.1.1) dX4_weighShips_35 ?_
        refine lv_aload_n C.1 C.2.1 dX4_weighShips_38 rfl (lv_at hl 2 rfl) ?_
        refine lv_iload C.1 C.2.1 dX4_weighShips_39 (lv_at hl 0 rfl) ?_
        refine g_aald7 C M 0 7 (by decide) rfl (by decide) k (nI_clamp (by omega)) (vp_in_nI (by omega) (by decide)) dX4_weighShips_41 ?_
        refine g_getI C M (19 + k) 3 (by omega) (by rw [lay19 (by omega)]; rfl) (by rw [ci19 (by omega)]; rfl) (by decide) fl4_41 (v := nI (lfN σ k)) (((cM_Io (by omega) (by omega)).trans (hY.I (by omega))).trans (hs k hk1).2.2.1.1) dX4_weighShips_42 ?_
        refine g_calli M (g_runV (As := [.int (nI (caN σ k)), .int (nI (lfN σ k))]) (rest := [.int 0, .ref (hO E (35 + k))]) C M 1 (x_tleast l E (cM Y ns AW (hL σ 12 7) (hL σ 12 8) P (fun i b => hI σ (35 + i) b) (fun i => hB σ (35 + i) 0 0)) Z n hYk.1 hn40 hYk.2.1 hYk.2.2.1 hYk.2.2.2.1 hYk.2.2.2.2.1 hYk.2.2.2.2.2 (caN σ k) (lfN σ k) (hs k hk1).2.1.2 (hs k hk1).2.2.1.2) clX8_leastSpan ivX8_leastSpan lk4_44 (by decide) rfl rfl ⟨Nat.le_of_ble_eq_true rfl, Nat.le_of_ble_eq_true rfl⟩ hl.1 rfl (Nat.le_of_ble_eq_true rfl) dX4_weighShips_45 ⟨Nat.le_of_ble_eq_true rfl, Nat.le_of_ble_eq_true rfl⟩) (fun r1 u H locs hR M => ?_)
        refine W.widen (k := 0) (n := 0) (Nat.le_of_ble_eq_true rfl) (Nat.le_of_ble_eq_true rfl) ?_
        obtain ⟨τ, hu, hSt, hr9⟩ := hR
        obtain ⟨Y1, hτ, hSt1⟩ := stl_cM hSt
        subst hτ
        subst hu
        have hY1s : Stl σ n Y1 := hY.tr hSt1
        have hY1 : Stq σ n Y1 := Or.inr hY1s
        have hr9 : r1 = spC (hA Y1 2 0 0) (lfN σ k) (caN σ k) := hr9
        subst hr9
        have M : hM E A s H locs (cM Y1 ns AW (hL σ 12 7) (hL σ 12 8) P (fun i b => hI σ (35 + i) b) (fun i => hB σ (35 + i) 0 0)) Z := M
        refine g_mmax C hl.1 mlk4_50 (Nat.le_of_ble_eq_true rfl) (Nat.le_of_ble_eq_true rfl) (Nat.le_of_ble_eq_true rfl) (Nat.le_of_ble_eq_true rfl) dX4_weighShips_48 ?_
        refine lv_i2l C.1 C.2.1 dX4_weighShips_51 rfl ?_
        refine g_rel (v := (hrC (hA Y1 2 0 0) (lfN σ k) (caN σ k))) rfl ?_
        refine g_putL C M (35 + k) 1 (by omega) (by rw [lay35 (by omega)]; rfl) (by rw [ci35 (by omega)]; rfl) (by decide) fl4_55 rfl (by rw [ci35 (by omega)]; rfl) dX4_weighShips_52 (fun H locs M => ?_)
        rw [cM_sL (by omega)] at M
        refine lv_aload_n C.1 C.2.1 dX4_weighShips_55 rfl (lv_at hl 1 rfl) ?_
        refine g_getQ C M 12 2 (by decide) rfl rfl (by decide) fl4_20 dX4_weighShips_56 ?_
        refine lv_iload C.1 C.2.1 dX4_weighShips_59 (lv_at hl 0 rfl) ?_
        refine g_aald7 C M 12 2 (by decide) rfl (by decide) k (nI_clamp (by omega)) (vp_in_nI (by omega) (by decide)) dX4_weighShips_61 ?_
        refine lv_aload_n C.1 C.2.1 dX4_weighShips_62 rfl (lv_at hl 2 rfl) ?_
        refine lv_iload C.1 C.2.1 dX4_weighShips_63 (lv_at hl 0 rfl) ?_
        refine g_aald7 C M 0 7 (by decide) rfl (by decide) k (nI_clamp (by omega)) (vp_in_nI (by omega) (by decide)) dX4_weighShips_65 ?_
        refine g_getI C M (19 + k) 1 (by omega) (by rw [lay19 (by omega)]; rfl) (by rw [ci19 (by omega)]; rfl) (by decide) fl4_58 (v := hI σ (19 + k) 1) ((cM_Io (by omega) (by omega)).trans (hY1.I (by omega))) dX4_weighShips_66 ?_
        refine lv_i2l C.1 C.2.1 dX4_weighShips_69 rfl ?_
        refine lv_aload_n C.1 C.2.1 dX4_weighShips_70 rfl (lv_at hl 1 rfl) ?_
        refine g_getQ C M 12 2 (by decide) rfl rfl (by decide) fl4_20 dX4_weighShips_71 ?_
        refine lv_iload C.1 C.2.1 dX4_weighShips_74 (lv_at hl 0 rfl) ?_
        refine g_aald7 C M 12 2 (by decide) rfl (by decide) k (nI_clamp (by omega)) (vp_in_nI (by omega) (by decide)) dX4_weighShips_76 ?_
        refine g_getL C M (35 + k) 1 (by omega) (by rw [lay35 (by omega)]; rfl) (by rw [ci35 (by omega)]; rfl) (by decide) fl4_55 (v := (hrC (hA Y1 2 0 0) (lfN σ k) (caN σ k))) ((cM_L (by omega)).trans (by simp [up2])) dX4_weighShips_77 ?_
        refine lv_lmul C.1 C.2.1 dX4_weighShips_80 ?_
        refine g_putL C M (35 + k) 2 (by omega) (by rw [lay35 (by omega)]; rfl) (by rw [ci35 (by omega)]; rfl) (by decide) fl4_61 rfl (by rw [ci35 (by omega)]; rfl) dX4_weighShips_81 (fun H locs M => ?_)
        rw [cM_sL (by omega)] at M
        refine lv_aload_n C.1 C.2.1 dX4_weighShips_84 rfl (lv_at hl 1 rfl) ?_
        refine lv_dup C.1 C.2.1 dX4_weighShips_85 rfl ?_
        refine g_getL C M 12 10 (by decide) rfl rfl (by decide) fl4_32 (v := AW) rfl dX4_weighShips_86 ?_
        refine lv_aload_n C.1 C.2.1 dX4_weighShips_89 rfl (lv_at hl 1 rfl) ?_
        refine g_getQ C M 12 2 (by decide) rfl rfl (by decide) fl4_20 dX4_weighShips_90 ?_
        refine lv_iload C.1 C.2.1 dX4_weighShips_93 (lv_at hl 0 rfl) ?_
        refine g_aald7 C M 12 2 (by decide) rfl (by decide) k (nI_clamp (by omega)) (vp_in_nI (by omega) (by decide)) dX4_weighShips_95 ?_
        refine g_getL C M (35 + k) 2 (by omega) (by rw [lay35 (by omega)]; rfl) (by rw [ci35 (by omega)]; rfl) (by decide) fl4_61 (v := (((hI σ (19 + k) 1).toInt64) * (hrC (hA Y1 2 0 0) (lfN σ k) (caN σ k)))) ((cM_L (by omega)).trans (by simp [up2])) dX4_weighShips_96 ?_
        refine lv_ladd C.1 C.2.1 dX4_weighShips_99 ?_
        refine g_putL C M 12 10 (by decide) rfl rfl (by decide) fl4_32 rfl rfl dX4_weighShips_100 (fun H locs M => ?_)
        rw [cM_W] at M
        refine lv_iinc (v := nI (k + 1)) (lv' := [(4, .int (nI (k + 1))), (0, .ref (hO E 12)), (1, .ref (hR E 0 7 0)), (2, .int (nI ns)), (3, .ref (hO E 1))]) C.1 C.2.1 dX4_weighShips_103 hl (k := 0) rfl (nI_succ _).symm (by decide) rfl (fun ls hl => ?_)
        refine lv_goto (tgt := 13) C.1 C.2.1 dX4_weighShips_106 (by decide) ?_
        exact ih13 (k + 1) Y1 (up2 (up2 P k 1 (hrC (hA Y1 2 0 0) (lfN σ k) (caN σ k))) k 2 (((hI σ (19 + k) 1).toInt64) * (hrC (hA Y1 2 0 0) (lfN σ k) (caN σ k)))) (AW + (((hI σ (19 + k) 1).toInt64) * (hrC (hA Y1 2 0 0) (lfN σ k) (caN σ k)))) hk1 hY1 (wOk.s hW hs hk1 hY1s hP) (by rw [hAW]; show _ = sumL _ k + up2 _ k 2 _ k 2; rw [up2_s]; congr 1; exact sumL_congr k (fun i hi => by rw [up2_r (by omega), up2_r (by omega)])) (by omega) _ _ _ M (lv_sub hl [0, 1, 2, 3, 4] rfl)
  have q2 : 0 = nI 0 := by rfl
  have hl : lv_has ls 5 [(4, .int (nI 0)), (0, .ref (hO E 12)), (1, .ref (hR E 0 7 0)), (2, .int (nI ns)), (3, .ref (hO E 1))] := by
    rw [← q2]
    exact lv_sub hl [0, 1, 2, 3, 4] rfl
  exact L13 ((ns - 0) + 1) 0 σ (fun i b => hL σ (35 + i) b) 0 (Nat.zero_le _) (Or.inl rfl) (fun i hi => absurd hi (Nat.not_lt_zero i)) rfl (Nat.lt_succ_self _) _ _ _ M hl
