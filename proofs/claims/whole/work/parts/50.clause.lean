set_option maxHeartbeats 4000000 in
set_option maxRecDepth 100000 in
theorem x_tweight (l : Launch) (E : hEnv) (σ : hMem) (Z : va_W) (j : Nat) (hj : j < 44) (hL : hLay j = layLaw) (hC : hCi j = 5) (hj9 : j ≠ 9) (Wg V : Nat → Int32) (x0 w0 : Nat) (td : Int32) (n : Nat) (t : Nat → Int32) (hn : hI σ 9 1 = nI n) (ht : hA σ 9 0 0 = t) (hn3 : n ≤ 300) (hp : x0 ≤ n) (T L : Nat → Int32) (hbR : bitR T td) (hlR : lawR L Wg V) : hMet l yX9_readWeight cX9_readWeight 3 none (6, 0, 0, 133) E (kM σ j Wg V x0 w0 td 0) Z [.ref (hO E 9), .ref (hO E j)] (hQv E (fun u => ∃ W' pl wp td' ft', u = (kM σ j W' V pl wp td' ft', Z) ∧ pl ≤ n ∧ wkR (clW t n x0 T L) pl ft' td' W' V)) := by
  refine hMet.of (by decide) (Nat.le_of_ble_eq_true rfl) (fun p e s m below meth c A ls C M hr hlk hl => ?_)
  have hl : lv_has ls 3 [(0, .ref (hO E 9)), (1, .ref (hO E j))] := hl
  generalize s.heap = H at M ⊢
  generalize ([] : List Loc) = locs at M ⊢
  have hS1 : (sk t n x0) ≤ n := scn_le hp
  have hW1 : (wd t n (sk t n x0)) ≤ n := scn_le hS1
  have hS2 : sk t n (wd t n (sk t n x0)) ≤ n := scn_le hW1
  refine lv_aload_n C.1 C.2.1 dX9_readWeight_0 rfl (lv_at hl 0 rfl) ?_
  refine va_ldcS (own := RX9) (tx := "danger skill labour weather worth ") (index := 86) (q := E.2.2.2.1 1) C.1 C.2.1 C.2.2.2.1 (tx_1 C) dX9_readWeight_1 ?_
  refine g_calli M (g_runV (As := [.ref (E.2.2.2.1 1)]) (rest := []) C M 9 (x_tword l E (vM σ j Wg V) Z x0 w0 td 0 n t (vM_n hj9 hn) (vM_t hj9 ht) hn3 hp 1 (by decide)) clX9_readWord ivX9_readWord lk9_46 (by decide) rfl rfl ⟨Nat.le_of_ble_eq_true rfl, Nat.le_of_ble_eq_true rfl⟩ hl.1 rfl (Nat.le_of_ble_eq_true rfl) dX9_readWeight_3 ⟨Nat.le_of_ble_eq_true rfl, Nat.le_of_ble_eq_true rfl⟩) (fun r1 u H locs hR M => ?_)
  refine W.widen (k := 0) (n := 0) (Nat.le_of_ble_eq_true rfl) (Nat.le_of_ble_eq_true rfl) ?_
  obtain ⟨f3, hu, hw3⟩ := tw_sp (X := fun f => tM (vM σ j Wg V) (wd t n (sk t n x0)) (sk t n x0) td f) (nwT_1 t (sk t n x0) (wd t n (sk t n x0))) (mk_le _ _ _) (by decide) hR
  clear hR
  subst hu
  skip
  have M : hM E A s H locs (kM σ j Wg V (wd t n (sk t n x0)) (sk t n x0) td f3) Z := M
  refine lv_istore_n (lv' := [(2, .int r1), (0, .ref (hO E 9)), (1, .ref (hO E j))]) C.1 C.2.1 dX9_readWeight_6 rfl hl (by decide) rfl (fun ls hl => ?_)
  refine lv_iload_n C.1 C.2.1 dX9_readWeight_7 rfl (lv_at hl 0 rfl) ?_
  refine lv_if_ge (tgt := 12) C.1 C.2.1 dX9_readWeight_8 (by decide) (fun c_8 => ?_) (fun c_8 => ?_)
  · skip
    obtain ⟨m9, hmk, hm1, hr3, hf3⟩ : ∃ m, mkI t (sk t n x0) (wd t n (sk t n x0)) = m ∧ m < 5 ∧ r1 = nI m ∧ f3 = 0 := hw3.elim (fun q => absurd c_8 (by rw [q.2.1]; decide)) (fun q => ⟨_, rfl, q.1, q.2.1, q.2.2⟩)
    subst hr3
    subst hf3
    refine lv_aload_n C.1 C.2.1 dX9_readWeight_12 rfl (lv_at hl 1 rfl) ?_
    refine lv_bipush (v := 6) C.1 C.2.1 dX9_readWeight_13 (by decide) ?_
    refine lv_iload_n C.1 C.2.1 dX9_readWeight_15 rfl (lv_at hl 0 rfl) ?_
    refine lv_iadd C.1 C.2.1 dX9_readWeight_16 ?_
    refine g_rei (v := nI (6 + m9)) (nI_add 6 m9) ?_
    refine g_callv M (g_runV (As := [.int (nI (6 + m9))]) (rest := []) C M 9 (x_ttell l E (vM σ j Wg V) Z (wd t n (sk t n x0)) (sk t n x0) td 0 (nI (6 + m9))) clX9_tellOnce ivX9_tellOnce lk9_50 (by decide) rfl rfl ⟨Nat.le_of_ble_eq_true rfl, Nat.le_of_ble_eq_true rfl⟩ hl.1 rfl (Nat.le_of_ble_eq_true rfl) dX9_readWeight_17 ⟨Nat.le_of_ble_eq_true rfl, Nat.le_of_ble_eq_true rfl⟩) (fun u H locs hR M => ?_)
    refine W.widen (k := 0) (n := 0) (Nat.le_of_ble_eq_true rfl) (Nat.le_of_ble_eq_true rfl) ?_
    subst hR
    have M : hM E A s H locs (kM σ j Wg V (wd t n (sk t n x0)) (sk t n x0) (tdF td (nI (6 + m9))) (ttF td 0 (sk t n x0) (nI (6 + m9)))) Z := M
    refine lv_aload_n C.1 C.2.1 dX9_readWeight_20 rfl (lv_at hl 2 rfl) ?_
    refine g_getA C M j 0 hj (by rw [hL]; rfl) (by rw [hC]; rfl) (by decide) fl9_88 dX9_readWeight_21 ?_
    refine lv_iload_n C.1 C.2.1 dX9_readWeight_24 rfl (lv_at hl 0 rfl) ?_
    refine lv_aload_n C.1 C.2.1 dX9_readWeight_25 rfl (lv_at hl 1 rfl) ?_
    refine lv_bipush (v := 99) C.1 C.2.1 dX9_readWeight_26 (by decide) ?_
    refine g_calli M (g_runV (As := [.int 99]) (rest := [.int (nI m9), .ref (hR E j 0 0)]) C M 9 (x_tnum l E (vM σ j Wg V) Z (wd t n (sk t n x0)) (sk t n x0) (tdF td (nI (6 + m9))) (ttF td 0 (sk t n x0) (nI (6 + m9))) n t (vM_n hj9 hn) (vM_t hj9 ht) hn3 hW1 99) clX9_readNumber ivX9_readNumber lk9_57 (by decide) rfl rfl ⟨Nat.le_of_ble_eq_true rfl, Nat.le_of_ble_eq_true rfl⟩ hl.1 rfl (Nat.le_of_ble_eq_true rfl) dX9_readWeight_28 ⟨Nat.le_of_ble_eq_true rfl, Nat.le_of_ble_eq_true rfl⟩) (fun r2 u H locs hR M => ?_)
    refine W.widen (k := 0) (n := 0) (Nat.le_of_ble_eq_true rfl) (Nat.le_of_ble_eq_true rfl) ?_
    obtain ⟨rfl, rfl⟩ := hR
    have M : hM E A s H locs (kM σ j Wg V (dg t n (sk t n (wd t n (sk t n x0)))) (sk t n x0) (tdF td (nI (6 + m9))) (nmF t n (wd t n (sk t n x0)) 99 (ttF td 0 (sk t n x0) (nI (6 + m9))))) Z := M
    refine g_iast C M j 0 hj (by rw [hL]; rfl) m9 (nI_clamp (by omega)) (vp_in_nI (by omega) (by decide)) dX9_readWeight_31 (fun H locs M => ?_)
    have M : hM E A s H locs (sA (kM σ j Wg V (dg t n (sk t n (wd t n (sk t n x0)))) (sk t n x0) (tdF td (nI (6 + m9))) (nmF t n (wd t n (sk t n x0)) 99 (ttF td 0 (sk t n x0) (nI (6 + m9))))) j 0 0 (upd Wg m9 (cV t (sk t n (wd t n (sk t n x0))) ((dg t n (sk t n (wd t n (sk t n x0)))) - (sk t n (wd t n (sk t n x0))))))) Z := by rw [kM_row] at M; exact M
    rw [kM_W] at M
    refine g_vret C M hr hlk ?_ (Nat.le_of_ble_eq_true rfl) (Nat.le_of_ble_eq_true rfl) dX9_readWeight_32
    exact ⟨_, _, _, _, _, rfl, scn_le hS2, wk_2 hn3 hp hbR hlR hmk hm1⟩
  · skip
    have hq3 : mkI t (sk t n x0) (wd t n (sk t n x0)) = 5 ∧ f3 = 1 + 4 * nI (sk t n x0) := hw3.elim (fun q => ⟨q.1, q.2.2.trans (ftl_0 _)⟩) (fun q => absurd (by rw [q.2.1]; exact Int32.not_lt.mp (nI_pos (by omega))) c_8)
    obtain ⟨hmk, hf3⟩ := hq3
    subst hf3
    refine g_vret C M hr hlk ?_ (Nat.le_of_ble_eq_true rfl) (Nat.le_of_ble_eq_true rfl) dX9_readWeight_11
    exact ⟨_, _, _, _, _, rfl, hW1, wk_1 hn3 hp hmk⟩

set_option maxHeartbeats 4000000 in
set_option maxRecDepth 100000 in
theorem x_tclause (l : Launch) (E : hEnv) (σ : hMem) (Z : va_W) (j : Nat) (hj : j < 44) (hL : hLay j = layLaw) (hC : hCi j = 5) (hj9 : j ≠ 9) (Wg V : Nat → Int32) (x0 w0 : Nat) (td : Int32) (n : Nat) (t : Nat → Int32) (hn : hI σ 9 1 = nI n) (ht : hA σ 9 0 0 = t) (hn3 : n ≤ 300) (hp : x0 ≤ n) (T L : Nat → Int32) (hbR : bitR T td) (hlR : lawR L Wg V) : hMet l yX9_readClause cX9_readClause 3 none (7, 0, 0, 155) E (kM σ j Wg V x0 w0 td 0) Z [.ref (hO E 9), .ref (hO E j)] (hQv E (fun u => ∃ W' V' pl wp td' ft', u = (kM σ j W' V' pl wp td' ft', Z) ∧ kRel t n x0 T L pl ft' td' W' V')) := by
  refine hMet.of (by decide) (Nat.le_of_ble_eq_true rfl) (fun p e s m below meth c A ls C M hr hlk hl => ?_)
  have hl : lv_has ls 3 [(0, .ref (hO E 9)), (1, .ref (hO E j))] := hl
  generalize s.heap = H at M ⊢
  generalize ([] : List Loc) = locs at M ⊢
  have hS1 : (sk t n x0) ≤ n := scn_le hp
  have hW1 : (wd t n (sk t n x0)) ≤ n := scn_le hS1
  have hS2 : sk t n (wd t n (sk t n x0)) ≤ n := scn_le hW1
  refine lv_aload_n C.1 C.2.1 dX9_readClause_0 rfl (lv_at hl 0 rfl) ?_
  refine va_ldcS (own := RX9) (tx := "weigh like give else life late ") (index := 44) (q := E.2.2.2.1 0) C.1 C.2.1 C.2.2.2.1 (tx_0 C) dX9_readClause_1 ?_
  refine g_calli M (g_runV (As := [.ref (E.2.2.2.1 0)]) (rest := []) C M 9 (x_tword l E (vM σ j Wg V) Z x0 w0 td 0 n t (vM_n hj9 hn) (vM_t hj9 ht) hn3 hp 0 (by decide)) clX9_readWord ivX9_readWord lk9_46 (by decide) rfl rfl ⟨Nat.le_of_ble_eq_true rfl, Nat.le_of_ble_eq_true rfl⟩ hl.1 rfl (Nat.le_of_ble_eq_true rfl) dX9_readClause_3 ⟨Nat.le_of_ble_eq_true rfl, Nat.le_of_ble_eq_true rfl⟩) (fun r1 u H locs hR M => ?_)
  refine W.widen (k := 0) (n := 0) (Nat.le_of_ble_eq_true rfl) (Nat.le_of_ble_eq_true rfl) ?_
  obtain ⟨f3, hu, hw3⟩ := tw_sp (X := fun f => tM (vM σ j Wg V) (wd t n (sk t n x0)) (sk t n x0) td f) (nwT_0 t (sk t n x0) (wd t n (sk t n x0))) (c0_le _ _ _) (by decide) hR
  clear hR
  subst hu
  skip
  have M : hM E A s H locs (kM σ j Wg V (wd t n (sk t n x0)) (sk t n x0) td f3) Z := M
  refine lv_istore_n (lv' := [(2, .int r1), (0, .ref (hO E 9)), (1, .ref (hO E j))]) C.1 C.2.1 dX9_readClause_6 rfl hl (by decide) rfl (fun ls hl => ?_)
  refine lv_iload_n C.1 C.2.1 dX9_readClause_7 rfl (lv_at hl 0 rfl) ?_
  refine lv_if_eq (tgt := 16) C.1 C.2.1 dX9_readClause_8 (by decide) (fun c_8 => ?_) (fun c_8 => ?_)
  · skip
    obtain ⟨hc4, hf3⟩ : isT t (sk t n x0) (wd t n (sk t n x0)) 4 ∧ f3 = 0 := hw3.elim (fun q => absurd (q.2.1.symm.trans c_8) (by decide)) (fun q => ⟨c0_0 (ct_eq (k := c0I t (sk t n x0) (wd t n (sk t n x0))) 0 (q.2.1.symm.trans c_8)), q.2.2⟩)
    subst c_8
    subst hf3
    refine lv_iload_n C.1 C.2.1 dX9_readClause_16 rfl (lv_at hl 0 rfl) ?_
    refine lv_tableIn (off := 39) (tgt := 56) C.1 C.2.1 dX9_readClause_17 (by decide) (by decide) rfl (by decide) ?_
    refine lv_aload_n C.1 C.2.1 dX9_readClause_56 rfl (lv_at hl 1 rfl) ?_
    refine lv_aload_n C.1 C.2.1 dX9_readClause_57 rfl (lv_at hl 2 rfl) ?_
    refine g_callv M (g_runV (As := [.ref (hO E j)]) (rest := []) C M 9 (x_tweight l E σ Z j hj hL hC hj9 Wg V (wd t n (sk t n x0)) (sk t n x0) td n t hn ht hn3 hW1 T L hbR hlR) clX9_readWeight ivX9_readWeight lk9_54 (by decide) rfl rfl ⟨Nat.le_of_ble_eq_true rfl, Nat.le_of_ble_eq_true rfl⟩ hl.1 rfl (Nat.le_of_ble_eq_true rfl) dX9_readClause_58 ⟨Nat.le_of_ble_eq_true rfl, Nat.le_of_ble_eq_true rfl⟩) (fun u H locs hR M => ?_)
    refine W.widen (k := 0) (n := 0) (Nat.le_of_ble_eq_true rfl) (Nat.le_of_ble_eq_true rfl) ?_
    obtain ⟨W58, p58, w58, t58, f58, hu, hp58, hk58⟩ := hR
    subst hu
    have M : hM E A s H locs (kM σ j W58 V p58 w58 t58 f58) Z := M
    refine lv_goto (tgt := 150) C.1 C.2.1 dX9_readClause_61 (by decide) ?_
    have hple : p58 ≤ n := hp58
    have hpre : wkR (clP t n x0 T L) p58 f58 t58 W58 V := (show wkR _ _ _ _ _ _ by unfold clP; rw [if_pos hc4]; exact hk58)
    refine lv_aload_n C.1 C.2.1 dX9_readClause_150 rfl (lv_at hl 1 rfl) ?_
    refine g_callv M (g_runV (As := []) (rest := []) C M 9 (x_tsemi l E (vM σ j W58 V) Z p58 w58 t58 f58 n t (vM_n hj9 hn) (vM_t hj9 ht) hn3 hple) clX9_readSemicolon ivX9_readSemicolon lk9_83 (by decide) rfl rfl ⟨Nat.le_of_ble_eq_true rfl, Nat.le_of_ble_eq_true rfl⟩ hl.1 rfl (Nat.le_of_ble_eq_true rfl) dX9_readClause_151 ⟨Nat.le_of_ble_eq_true rfl, Nat.le_of_ble_eq_true rfl⟩) (fun u H locs hR M => ?_)
    refine W.widen (k := 0) (n := 0) (Nat.le_of_ble_eq_true rfl) (Nat.le_of_ble_eq_true rfl) ?_
    obtain ⟨p151, f151, hu, hk9⟩ := semi_k (X := fun p f => kM σ j W58 V p w58 t58 f) hn3 hple hpre hR
    clear hR
    subst hu
    have M : hM E A s H locs (kM σ j W58 V p151 w58 t58 f151) Z := M
    refine g_vret C M hr hlk ?_ (Nat.le_of_ble_eq_true rfl) (Nat.le_of_ble_eq_true rfl) dX9_readClause_154
    exact ⟨_, _, _, _, _, _, rfl, hk9⟩
  · skip
    refine lv_aload_n C.1 C.2.1 dX9_readClause_11 rfl (lv_at hl 1 rfl) ?_
    refine lv_iload_n C.1 C.2.1 dX9_readClause_12 rfl (lv_at hl 0 rfl) ?_
    refine g_callv M (g_runV (As := [.int r1]) (rest := []) C M 9 (x_ttell l E (vM σ j Wg V) Z (wd t n (sk t n x0)) (sk t n x0) td f3 r1) clX9_tellOnce ivX9_tellOnce lk9_50 (by decide) rfl rfl ⟨Nat.le_of_ble_eq_true rfl, Nat.le_of_ble_eq_true rfl⟩ hl.1 rfl (Nat.le_of_ble_eq_true rfl) dX9_readClause_13 ⟨Nat.le_of_ble_eq_true rfl, Nat.le_of_ble_eq_true rfl⟩) (fun u H locs hR M => ?_)
    refine W.widen (k := 0) (n := 0) (Nat.le_of_ble_eq_true rfl) (Nat.le_of_ble_eq_true rfl) ?_
    subst hR
    have M : hM E A s H locs (kM σ j Wg V (wd t n (sk t n x0)) (sk t n x0) (tdF td r1) (ttF td f3 (sk t n x0) r1)) Z := M
    refine lv_iload_n C.1 C.2.1 dX9_readClause_16 rfl (lv_at hl 0 rfl) ?_
    by_cases c_17_0 : r1 = 0
    · refine lv_tableIn (off := 39) (tgt := 56) C.1 C.2.1 dX9_readClause_17 (by rw [c_17_0]; decide) (by rw [c_17_0]; decide) (by rw [c_17_0]; rfl) (by decide) ?_
      exact absurd c_17_0 c_8
    by_cases c_17_1 : r1 = 1
    · refine lv_tableIn (off := 47) (tgt := 64) C.1 C.2.1 dX9_readClause_17 (by rw [c_17_1]; decide) (by rw [c_17_1]; decide) (by rw [c_17_1]; rfl) (by decide) ?_
      obtain ⟨hcc, hf3⟩ : (¬ isT t (sk t n x0) (wd t n (sk t n x0)) 4 ∧ clI t (sk t n x0) (wd t n (sk t n x0)) = 0) ∧ f3 = 0 := hw3.elim (fun q => absurd (q.2.1.symm.trans c_17_1) (by decide)) (fun q => ⟨c0_s (ct_eq (k := c0I t (sk t n x0) (wd t n (sk t n x0))) 1 (q.2.1.symm.trans c_17_1)), q.2.2⟩)
      subst c_17_1
      subst hf3
      refine lv_aload_n C.1 C.2.1 dX9_readClause_64 rfl (lv_at hl 2 rfl) ?_
      refine lv_aload_n C.1 C.2.1 dX9_readClause_65 rfl (lv_at hl 1 rfl) ?_
      refine lv_sipush (v := 9999) C.1 C.2.1 dX9_readClause_66 (by decide) ?_
      refine g_calli M (g_runV (As := [.int 9999]) (rest := [.ref (hO E j)]) C M 9 (x_tnum l E (vM σ j Wg V) Z (wd t n (sk t n x0)) (sk t n x0) (tdF td 1) (ttF td 0 (sk t n x0) 1) n t (vM_n hj9 hn) (vM_t hj9 ht) hn3 hW1 9999) clX9_readNumber ivX9_readNumber lk9_57 (by decide) rfl rfl ⟨Nat.le_of_ble_eq_true rfl, Nat.le_of_ble_eq_true rfl⟩ hl.1 rfl (Nat.le_of_ble_eq_true rfl) dX9_readClause_69 ⟨Nat.le_of_ble_eq_true rfl, Nat.le_of_ble_eq_true rfl⟩) (fun r2 u H locs hR M => ?_)
      refine W.widen (k := 0) (n := 0) (Nat.le_of_ble_eq_true rfl) (Nat.le_of_ble_eq_true rfl) ?_
      obtain ⟨rfl, rfl⟩ := hR
      have M : hM E A s H locs (kM σ j Wg V (dg t n (sk t n (wd t n (sk t n x0)))) (sk t n x0) (tdF td 1) (nmF t n (wd t n (sk t n x0)) 9999 (ttF td 0 (sk t n x0) 1))) Z := M
      refine g_putI C M j 1 hj (by rw [hL]; rfl) (by rw [hC]; rfl) (by decide) fl9_61 rfl (by rw [hC]; rfl) dX9_readClause_72 (fun H locs M => ?_)
      rw [kM_V1 hj9] at M
      refine lv_goto (tgt := 150) C.1 C.2.1 dX9_readClause_75 (by decide) ?_
      have hple : (dg t n (sk t n (wd t n (sk t n x0)))) ≤ n := scn_le hS2
      have hpre : wkR (clP t n x0 T L) (dg t n (sk t n (wd t n (sk t n x0)))) (nmF t n (wd t n (sk t n x0)) 9999 (ttF td 0 (sk t n x0) 1)) (tdF td 1) Wg (upd V 5 (cV t (sk t n (wd t n (sk t n x0))) ((dg t n (sk t n (wd t n (sk t n x0)))) - (sk t n (wd t n (sk t n x0)))))) := wk_v (m := 0) hn3 hp hbR hlR hcc.1 hcc.2 (by decide) (by decide) rfl
      refine lv_aload_n C.1 C.2.1 dX9_readClause_150 rfl (lv_at hl 1 rfl) ?_
      refine g_callv M (g_runV (As := []) (rest := []) C M 9 (x_tsemi l E (vM σ j Wg (upd V 5 (cV t (sk t n (wd t n (sk t n x0))) ((dg t n (sk t n (wd t n (sk t n x0)))) - (sk t n (wd t n (sk t n x0))))))) Z (dg t n (sk t n (wd t n (sk t n x0)))) (sk t n x0) (tdF td 1) (nmF t n (wd t n (sk t n x0)) 9999 (ttF td 0 (sk t n x0) 1)) n t (vM_n hj9 hn) (vM_t hj9 ht) hn3 hple) clX9_readSemicolon ivX9_readSemicolon lk9_83 (by decide) rfl rfl ⟨Nat.le_of_ble_eq_true rfl, Nat.le_of_ble_eq_true rfl⟩ hl.1 rfl (Nat.le_of_ble_eq_true rfl) dX9_readClause_151 ⟨Nat.le_of_ble_eq_true rfl, Nat.le_of_ble_eq_true rfl⟩) (fun u H locs hR M => ?_)
      refine W.widen (k := 0) (n := 0) (Nat.le_of_ble_eq_true rfl) (Nat.le_of_ble_eq_true rfl) ?_
      obtain ⟨p151, f151, hu, hk9⟩ := semi_k (X := fun p f => kM σ j Wg (upd V 5 (cV t (sk t n (wd t n (sk t n x0))) ((dg t n (sk t n (wd t n (sk t n x0)))) - (sk t n (wd t n (sk t n x0)))))) p (sk t n x0) (tdF td 1) f) hn3 hple hpre hR
      clear hR
      subst hu
      have M : hM E A s H locs (kM σ j Wg (upd V 5 (cV t (sk t n (wd t n (sk t n x0))) ((dg t n (sk t n (wd t n (sk t n x0)))) - (sk t n (wd t n (sk t n x0)))))) p151 (sk t n x0) (tdF td 1) f151) Z := M
      refine g_vret C M hr hlk ?_ (Nat.le_of_ble_eq_true rfl) (Nat.le_of_ble_eq_true rfl) dX9_readClause_154
      exact ⟨_, _, _, _, _, _, rfl, hk9⟩
    by_cases c_17_2 : r1 = 2
    · refine lv_tableIn (off := 61) (tgt := 78) C.1 C.2.1 dX9_readClause_17 (by rw [c_17_2]; decide) (by rw [c_17_2]; decide) (by rw [c_17_2]; rfl) (by decide) ?_
      obtain ⟨hcc, hf3⟩ : (¬ isT t (sk t n x0) (wd t n (sk t n x0)) 4 ∧ clI t (sk t n x0) (wd t n (sk t n x0)) = 1) ∧ f3 = 0 := hw3.elim (fun q => absurd (q.2.1.symm.trans c_17_2) (by decide)) (fun q => ⟨c0_s (ct_eq (k := c0I t (sk t n x0) (wd t n (sk t n x0))) 2 (q.2.1.symm.trans c_17_2)), q.2.2⟩)
      subst c_17_2
      subst hf3
      refine lv_aload_n C.1 C.2.1 dX9_readClause_78 rfl (lv_at hl 2 rfl) ?_
      refine lv_aload_n C.1 C.2.1 dX9_readClause_79 rfl (lv_at hl 1 rfl) ?_
      refine va_ldcS (own := RX9) (tx := "least middle greatest mean ") (index := 64) (q := E.2.2.2.1 2) C.1 C.2.1 C.2.2.2.1 (tx_2 C) dX9_readClause_80 ?_
      refine g_calli M (g_runV (As := [.ref (E.2.2.2.1 2)]) (rest := [.ref (hO E j)]) C M 9 (x_tword l E (vM σ j Wg V) Z (wd t n (sk t n x0)) (sk t n x0) (tdF td 2) (ttF td 0 (sk t n x0) 2) n t (vM_n hj9 hn) (vM_t hj9 ht) hn3 hW1 2 (by decide)) clX9_readWord ivX9_readWord lk9_46 (by decide) rfl rfl ⟨Nat.le_of_ble_eq_true rfl, Nat.le_of_ble_eq_true rfl⟩ hl.1 rfl (Nat.le_of_ble_eq_true rfl) dX9_readClause_82 ⟨Nat.le_of_ble_eq_true rfl, Nat.le_of_ble_eq_true rfl⟩) (fun r3 u H locs hR M => ?_)
      refine W.widen (k := 0) (n := 0) (Nat.le_of_ble_eq_true rfl) (Nat.le_of_ble_eq_true rfl) ?_
      obtain ⟨f82, hu, hw82⟩ := tw_sp (X := fun f => tM (vM σ j Wg V) (wd t n (sk t n (wd t n (sk t n x0)))) (sk t n (wd t n (sk t n x0))) (tdF td 2) f) (nwT_2 t (sk t n (wd t n (sk t n x0))) (wd t n (sk t n (wd t n (sk t n x0))))) (gf_le _ _ _) (by decide) hR
      clear hR
      subst hu
      skip
      have M : hM E A s H locs (kM σ j Wg V (wd t n (sk t n (wd t n (sk t n x0)))) (sk t n (wd t n (sk t n x0))) (tdF td 2) f82) Z := M
      refine g_putI C M j 2 hj (by rw [hL]; rfl) (by rw [hC]; rfl) (by decide) fl9_66 rfl (by rw [hC]; rfl) dX9_readClause_85 (fun H locs M => ?_)
      rw [kM_V2 hj9] at M
      refine lv_goto (tgt := 150) C.1 C.2.1 dX9_readClause_88 (by decide) ?_
      have hple : (wd t n (sk t n (wd t n (sk t n x0)))) ≤ n := scn_le hS2
      have hpre : wkR (clP t n x0 T L) (wd t n (sk t n (wd t n (sk t n x0)))) f82 (tdF td 2) Wg (upd V 6 r3) := wk_g hn3 hp hbR hlR hcc.1 hcc.2 hw82
      refine lv_aload_n C.1 C.2.1 dX9_readClause_150 rfl (lv_at hl 1 rfl) ?_
      refine g_callv M (g_runV (As := []) (rest := []) C M 9 (x_tsemi l E (vM σ j Wg (upd V 6 r3)) Z (wd t n (sk t n (wd t n (sk t n x0)))) (sk t n (wd t n (sk t n x0))) (tdF td 2) f82 n t (vM_n hj9 hn) (vM_t hj9 ht) hn3 hple) clX9_readSemicolon ivX9_readSemicolon lk9_83 (by decide) rfl rfl ⟨Nat.le_of_ble_eq_true rfl, Nat.le_of_ble_eq_true rfl⟩ hl.1 rfl (Nat.le_of_ble_eq_true rfl) dX9_readClause_151 ⟨Nat.le_of_ble_eq_true rfl, Nat.le_of_ble_eq_true rfl⟩) (fun u H locs hR M => ?_)
      refine W.widen (k := 0) (n := 0) (Nat.le_of_ble_eq_true rfl) (Nat.le_of_ble_eq_true rfl) ?_
      obtain ⟨p151, f151, hu, hk9⟩ := semi_k (X := fun p f => kM σ j Wg (upd V 6 r3) p (sk t n (wd t n (sk t n x0))) (tdF td 2) f) hn3 hple hpre hR
      clear hR
      subst hu
      have M : hM E A s H locs (kM σ j Wg (upd V 6 r3) p151 (sk t n (wd t n (sk t n x0))) (tdF td 2) f151) Z := M
      refine g_vret C M hr hlk ?_ (Nat.le_of_ble_eq_true rfl) (Nat.le_of_ble_eq_true rfl) dX9_readClause_154
      exact ⟨_, _, _, _, _, _, rfl, hk9⟩
    by_cases c_17_3 : r1 = 3
    · refine lv_tableIn (off := 74) (tgt := 91) C.1 C.2.1 dX9_readClause_17 (by rw [c_17_3]; decide) (by rw [c_17_3]; decide) (by rw [c_17_3]; rfl) (by decide) ?_
      obtain ⟨hcc, hf3⟩ : (¬ isT t (sk t n x0) (wd t n (sk t n x0)) 4 ∧ clI t (sk t n x0) (wd t n (sk t n x0)) = 2) ∧ f3 = 0 := hw3.elim (fun q => absurd (q.2.1.symm.trans c_17_3) (by decide)) (fun q => ⟨c0_s (ct_eq (k := c0I t (sk t n x0) (wd t n (sk t n x0))) 3 (q.2.1.symm.trans c_17_3)), q.2.2⟩)
      subst c_17_3
      subst hf3
      refine lv_aload_n C.1 C.2.1 dX9_readClause_91 rfl (lv_at hl 2 rfl) ?_
      refine lv_aload_n C.1 C.2.1 dX9_readClause_92 rfl (lv_at hl 1 rfl) ?_
      refine lv_sipush (v := 1000) C.1 C.2.1 dX9_readClause_93 (by decide) ?_
      refine g_calli M (g_runV (As := [.int 1000]) (rest := [.ref (hO E j)]) C M 9 (x_tnum l E (vM σ j Wg V) Z (wd t n (sk t n x0)) (sk t n x0) (tdF td 3) (ttF td 0 (sk t n x0) 3) n t (vM_n hj9 hn) (vM_t hj9 ht) hn3 hW1 1000) clX9_readNumber ivX9_readNumber lk9_57 (by decide) rfl rfl ⟨Nat.le_of_ble_eq_true rfl, Nat.le_of_ble_eq_true rfl⟩ hl.1 rfl (Nat.le_of_ble_eq_true rfl) dX9_readClause_96 ⟨Nat.le_of_ble_eq_true rfl, Nat.le_of_ble_eq_true rfl⟩) (fun r4 u H locs hR M => ?_)
      refine W.widen (k := 0) (n := 0) (Nat.le_of_ble_eq_true rfl) (Nat.le_of_ble_eq_true rfl) ?_
      obtain ⟨rfl, rfl⟩ := hR
      have M : hM E A s H locs (kM σ j Wg V (dg t n (sk t n (wd t n (sk t n x0)))) (sk t n x0) (tdF td 3) (nmF t n (wd t n (sk t n x0)) 1000 (ttF td 0 (sk t n x0) 3))) Z := M
      refine g_putI C M j 3 hj (by rw [hL]; rfl) (by rw [hC]; rfl) (by decide) fl9_69 rfl (by rw [hC]; rfl) dX9_readClause_99 (fun H locs M => ?_)
      rw [kM_V3 hj9] at M
      refine lv_goto (tgt := 150) C.1 C.2.1 dX9_readClause_102 (by decide) ?_
      have hple : (dg t n (sk t n (wd t n (sk t n x0)))) ≤ n := scn_le hS2
      have hpre : wkR (clP t n x0 T L) (dg t n (sk t n (wd t n (sk t n x0)))) (nmF t n (wd t n (sk t n x0)) 1000 (ttF td 0 (sk t n x0) 3)) (tdF td 3) Wg (upd V 7 (cV t (sk t n (wd t n (sk t n x0))) ((dg t n (sk t n (wd t n (sk t n x0)))) - (sk t n (wd t n (sk t n x0)))))) := wk_v (m := 2) hn3 hp hbR hlR hcc.1 hcc.2 (by decide) (by decide) rfl
      refine lv_aload_n C.1 C.2.1 dX9_readClause_150 rfl (lv_at hl 1 rfl) ?_
      refine g_callv M (g_runV (As := []) (rest := []) C M 9 (x_tsemi l E (vM σ j Wg (upd V 7 (cV t (sk t n (wd t n (sk t n x0))) ((dg t n (sk t n (wd t n (sk t n x0)))) - (sk t n (wd t n (sk t n x0))))))) Z (dg t n (sk t n (wd t n (sk t n x0)))) (sk t n x0) (tdF td 3) (nmF t n (wd t n (sk t n x0)) 1000 (ttF td 0 (sk t n x0) 3)) n t (vM_n hj9 hn) (vM_t hj9 ht) hn3 hple) clX9_readSemicolon ivX9_readSemicolon lk9_83 (by decide) rfl rfl ⟨Nat.le_of_ble_eq_true rfl, Nat.le_of_ble_eq_true rfl⟩ hl.1 rfl (Nat.le_of_ble_eq_true rfl) dX9_readClause_151 ⟨Nat.le_of_ble_eq_true rfl, Nat.le_of_ble_eq_true rfl⟩) (fun u H locs hR M => ?_)
      refine W.widen (k := 0) (n := 0) (Nat.le_of_ble_eq_true rfl) (Nat.le_of_ble_eq_true rfl) ?_
      obtain ⟨p151, f151, hu, hk9⟩ := semi_k (X := fun p f => kM σ j Wg (upd V 7 (cV t (sk t n (wd t n (sk t n x0))) ((dg t n (sk t n (wd t n (sk t n x0)))) - (sk t n (wd t n (sk t n x0)))))) p (sk t n x0) (tdF td 3) f) hn3 hple hpre hR
      clear hR
      subst hu
      have M : hM E A s H locs (kM σ j Wg (upd V 7 (cV t (sk t n (wd t n (sk t n x0))) ((dg t n (sk t n (wd t n (sk t n x0)))) - (sk t n (wd t n (sk t n x0)))))) p151 (sk t n x0) (tdF td 3) f151) Z := M
      refine g_vret C M hr hlk ?_ (Nat.le_of_ble_eq_true rfl) (Nat.le_of_ble_eq_true rfl) dX9_readClause_154
      exact ⟨_, _, _, _, _, _, rfl, hk9⟩
    by_cases c_17_4 : r1 = 4
    · refine lv_tableIn (off := 88) (tgt := 105) C.1 C.2.1 dX9_readClause_17 (by rw [c_17_4]; decide) (by rw [c_17_4]; decide) (by rw [c_17_4]; rfl) (by decide) ?_
      obtain ⟨hcc, hf3⟩ : (¬ isT t (sk t n x0) (wd t n (sk t n x0)) 4 ∧ clI t (sk t n x0) (wd t n (sk t n x0)) = 3) ∧ f3 = 0 := hw3.elim (fun q => absurd (q.2.1.symm.trans c_17_4) (by decide)) (fun q => ⟨c0_s (ct_eq (k := c0I t (sk t n x0) (wd t n (sk t n x0))) 4 (q.2.1.symm.trans c_17_4)), q.2.2⟩)
      subst c_17_4
      subst hf3
      refine lv_aload_n C.1 C.2.1 dX9_readClause_105 rfl (lv_at hl 2 rfl) ?_
      refine lv_aload_n C.1 C.2.1 dX9_readClause_106 rfl (lv_at hl 1 rfl) ?_
      refine lv_bipush (v := 100) C.1 C.2.1 dX9_readClause_107 (by decide) ?_
      refine g_calli M (g_runV (As := [.int 100]) (rest := [.ref (hO E j)]) C M 9 (x_tnum l E (vM σ j Wg V) Z (wd t n (sk t n x0)) (sk t n x0) (tdF td 4) (ttF td 0 (sk t n x0) 4) n t (vM_n hj9 hn) (vM_t hj9 ht) hn3 hW1 100) clX9_readNumber ivX9_readNumber lk9_57 (by decide) rfl rfl ⟨Nat.le_of_ble_eq_true rfl, Nat.le_of_ble_eq_true rfl⟩ hl.1 rfl (Nat.le_of_ble_eq_true rfl) dX9_readClause_109 ⟨Nat.le_of_ble_eq_true rfl, Nat.le_of_ble_eq_true rfl⟩) (fun r5 u H locs hR M => ?_)
      refine W.widen (k := 0) (n := 0) (Nat.le_of_ble_eq_true rfl) (Nat.le_of_ble_eq_true rfl) ?_
      obtain ⟨rfl, rfl⟩ := hR
      have M : hM E A s H locs (kM σ j Wg V (dg t n (sk t n (wd t n (sk t n x0)))) (sk t n x0) (tdF td 4) (nmF t n (wd t n (sk t n x0)) 100 (ttF td 0 (sk t n x0) 4))) Z := M
      refine g_putI C M j 4 hj (by rw [hL]; rfl) (by rw [hC]; rfl) (by decide) fl9_72 rfl (by rw [hC]; rfl) dX9_readClause_112 (fun H locs M => ?_)
      rw [kM_V4 hj9] at M
      refine lv_goto (tgt := 150) C.1 C.2.1 dX9_readClause_115 (by decide) ?_
      have hple : (dg t n (sk t n (wd t n (sk t n x0)))) ≤ n := scn_le hS2
      have hpre : wkR (clP t n x0 T L) (dg t n (sk t n (wd t n (sk t n x0)))) (nmF t n (wd t n (sk t n x0)) 100 (ttF td 0 (sk t n x0) 4)) (tdF td 4) Wg (upd V 8 (cV t (sk t n (wd t n (sk t n x0))) ((dg t n (sk t n (wd t n (sk t n x0)))) - (sk t n (wd t n (sk t n x0)))))) := wk_v (m := 3) hn3 hp hbR hlR hcc.1 hcc.2 (by decide) (by decide) rfl
      refine lv_aload_n C.1 C.2.1 dX9_readClause_150 rfl (lv_at hl 1 rfl) ?_
      refine g_callv M (g_runV (As := []) (rest := []) C M 9 (x_tsemi l E (vM σ j Wg (upd V 8 (cV t (sk t n (wd t n (sk t n x0))) ((dg t n (sk t n (wd t n (sk t n x0)))) - (sk t n (wd t n (sk t n x0))))))) Z (dg t n (sk t n (wd t n (sk t n x0)))) (sk t n x0) (tdF td 4) (nmF t n (wd t n (sk t n x0)) 100 (ttF td 0 (sk t n x0) 4)) n t (vM_n hj9 hn) (vM_t hj9 ht) hn3 hple) clX9_readSemicolon ivX9_readSemicolon lk9_83 (by decide) rfl rfl ⟨Nat.le_of_ble_eq_true rfl, Nat.le_of_ble_eq_true rfl⟩ hl.1 rfl (Nat.le_of_ble_eq_true rfl) dX9_readClause_151 ⟨Nat.le_of_ble_eq_true rfl, Nat.le_of_ble_eq_true rfl⟩) (fun u H locs hR M => ?_)
      refine W.widen (k := 0) (n := 0) (Nat.le_of_ble_eq_true rfl) (Nat.le_of_ble_eq_true rfl) ?_
      obtain ⟨p151, f151, hu, hk9⟩ := semi_k (X := fun p f => kM σ j Wg (upd V 8 (cV t (sk t n (wd t n (sk t n x0))) ((dg t n (sk t n (wd t n (sk t n x0)))) - (sk t n (wd t n (sk t n x0)))))) p (sk t n x0) (tdF td 4) f) hn3 hple hpre hR
      clear hR
      subst hu
      have M : hM E A s H locs (kM σ j Wg (upd V 8 (cV t (sk t n (wd t n (sk t n x0))) ((dg t n (sk t n (wd t n (sk t n x0)))) - (sk t n (wd t n (sk t n x0)))))) p151 (sk t n x0) (tdF td 4) f151) Z := M
      refine g_vret C M hr hlk ?_ (Nat.le_of_ble_eq_true rfl) (Nat.le_of_ble_eq_true rfl) dX9_readClause_154
      exact ⟨_, _, _, _, _, _, rfl, hk9⟩
    by_cases c_17_5 : r1 = 5
    · refine lv_tableIn (off := 101) (tgt := 118) C.1 C.2.1 dX9_readClause_17 (by rw [c_17_5]; decide) (by rw [c_17_5]; decide) (by rw [c_17_5]; rfl) (by decide) ?_
      obtain ⟨hcc, hf3⟩ : (¬ isT t (sk t n x0) (wd t n (sk t n x0)) 4 ∧ clI t (sk t n x0) (wd t n (sk t n x0)) = 4) ∧ f3 = 0 := hw3.elim (fun q => absurd (q.2.1.symm.trans c_17_5) (by decide)) (fun q => ⟨c0_s (ct_eq (k := c0I t (sk t n x0) (wd t n (sk t n x0))) 5 (q.2.1.symm.trans c_17_5)), q.2.2⟩)
      subst c_17_5
      subst hf3
      refine lv_aload_n C.1 C.2.1 dX9_readClause_118 rfl (lv_at hl 2 rfl) ?_
      refine lv_aload_n C.1 C.2.1 dX9_readClause_119 rfl (lv_at hl 1 rfl) ?_
      refine lv_sipush (v := 1000) C.1 C.2.1 dX9_readClause_120 (by decide) ?_
      refine g_calli M (g_runV (As := [.int 1000]) (rest := [.ref (hO E j)]) C M 9 (x_tnum l E (vM σ j Wg V) Z (wd t n (sk t n x0)) (sk t n x0) (tdF td 5) (ttF td 0 (sk t n x0) 5) n t (vM_n hj9 hn) (vM_t hj9 ht) hn3 hW1 1000) clX9_readNumber ivX9_readNumber lk9_57 (by decide) rfl rfl ⟨Nat.le_of_ble_eq_true rfl, Nat.le_of_ble_eq_true rfl⟩ hl.1 rfl (Nat.le_of_ble_eq_true rfl) dX9_readClause_123 ⟨Nat.le_of_ble_eq_true rfl, Nat.le_of_ble_eq_true rfl⟩) (fun r6 u H locs hR M => ?_)
      refine W.widen (k := 0) (n := 0) (Nat.le_of_ble_eq_true rfl) (Nat.le_of_ble_eq_true rfl) ?_
      obtain ⟨rfl, rfl⟩ := hR
      have M : hM E A s H locs (kM σ j Wg V (dg t n (sk t n (wd t n (sk t n x0)))) (sk t n x0) (tdF td 5) (nmF t n (wd t n (sk t n x0)) 1000 (ttF td 0 (sk t n x0) 5))) Z := M
      refine g_putI C M j 5 hj (by rw [hL]; rfl) (by rw [hC]; rfl) (by decide) fl9_75 rfl (by rw [hC]; rfl) dX9_readClause_126 (fun H locs M => ?_)
      rw [kM_V5 hj9] at M
      refine lv_aload_n C.1 C.2.1 dX9_readClause_129 rfl (lv_at hl 1 rfl) ?_
      refine va_ldcS (own := RX9) (tx := "after ") (index := 78) (q := E.2.2.2.1 3) C.1 C.2.1 C.2.2.2.1 (tx_3 C) dX9_readClause_130 ?_
      refine g_calli M (g_runV (As := [.ref (E.2.2.2.1 3)]) (rest := []) C M 9 (x_tword l E (vM σ j Wg (upd V 9 (cV t (sk t n (wd t n (sk t n x0))) ((dg t n (sk t n (wd t n (sk t n x0)))) - (sk t n (wd t n (sk t n x0))))))) Z (dg t n (sk t n (wd t n (sk t n x0)))) (sk t n x0) (tdF td 5) (nmF t n (wd t n (sk t n x0)) 1000 (ttF td 0 (sk t n x0) 5)) n t (vM_n hj9 hn) (vM_t hj9 ht) hn3 (scn_le hS2) 3 (by decide)) clX9_readWord ivX9_readWord lk9_46 (by decide) rfl rfl ⟨Nat.le_of_ble_eq_true rfl, Nat.le_of_ble_eq_true rfl⟩ hl.1 rfl (Nat.le_of_ble_eq_true rfl) dX9_readClause_132 ⟨Nat.le_of_ble_eq_true rfl, Nat.le_of_ble_eq_true rfl⟩) (fun r7 u H locs hR M => ?_)
      refine W.widen (k := 0) (n := 0) (Nat.le_of_ble_eq_true rfl) (Nat.le_of_ble_eq_true rfl) ?_
      obtain ⟨f132, hu, hw132⟩ := tw_sp (X := fun f => tM (vM σ j Wg (upd V 9 (cV t (sk t n (wd t n (sk t n x0))) ((dg t n (sk t n (wd t n (sk t n x0)))) - (sk t n (wd t n (sk t n x0))))))) (wd t n (sk t n (dg t n (sk t n (wd t n (sk t n x0)))))) (sk t n (dg t n (sk t n (wd t n (sk t n x0))))) (tdF td 5) f) (nwT_3 t (sk t n (dg t n (sk t n (wd t n (sk t n x0))))) (wd t n (sk t n (dg t n (sk t n (wd t n (sk t n x0))))))) (af_le _ _ _) (by decide) hR
      clear hR
      subst hu
      skip
      have M : hM E A s H locs (kM σ j Wg (upd V 9 (cV t (sk t n (wd t n (sk t n x0))) ((dg t n (sk t n (wd t n (sk t n x0)))) - (sk t n (wd t n (sk t n x0)))))) (wd t n (sk t n (dg t n (sk t n (wd t n (sk t n x0)))))) (sk t n (dg t n (sk t n (wd t n (sk t n x0))))) (tdF td 5) f132) Z := M
      refine lv_pop C.1 C.2.1 dX9_readClause_135 rfl ?_
      refine lv_aload_n C.1 C.2.1 dX9_readClause_136 rfl (lv_at hl 2 rfl) ?_
      refine lv_aload_n C.1 C.2.1 dX9_readClause_137 rfl (lv_at hl 1 rfl) ?_
      refine lv_sipush (v := 5000) C.1 C.2.1 dX9_readClause_138 (by decide) ?_
      refine g_calli M (g_runV (As := [.int 5000]) (rest := [.ref (hO E j)]) C M 9 (x_tnum l E (vM σ j Wg (upd V 9 (cV t (sk t n (wd t n (sk t n x0))) ((dg t n (sk t n (wd t n (sk t n x0)))) - (sk t n (wd t n (sk t n x0))))))) Z (wd t n (sk t n (dg t n (sk t n (wd t n (sk t n x0)))))) (sk t n (dg t n (sk t n (wd t n (sk t n x0))))) (tdF td 5) f132 n t (vM_n hj9 hn) (vM_t hj9 ht) hn3 (scn_le (scn_le (scn_le hS2))) 5000) clX9_readNumber ivX9_readNumber lk9_57 (by decide) rfl rfl ⟨Nat.le_of_ble_eq_true rfl, Nat.le_of_ble_eq_true rfl⟩ hl.1 rfl (Nat.le_of_ble_eq_true rfl) dX9_readClause_141 ⟨Nat.le_of_ble_eq_true rfl, Nat.le_of_ble_eq_true rfl⟩) (fun r8 u H locs hR M => ?_)
      refine W.widen (k := 0) (n := 0) (Nat.le_of_ble_eq_true rfl) (Nat.le_of_ble_eq_true rfl) ?_
      obtain ⟨rfl, rfl⟩ := hR
      have M : hM E A s H locs (kM σ j Wg (upd V 9 (cV t (sk t n (wd t n (sk t n x0))) ((dg t n (sk t n (wd t n (sk t n x0)))) - (sk t n (wd t n (sk t n x0)))))) (dg t n (sk t n (wd t n (sk t n (dg t n (sk t n (wd t n (sk t n x0)))))))) (sk t n (dg t n (sk t n (wd t n (sk t n x0))))) (tdF td 5) (nmF t n (wd t n (sk t n (dg t n (sk t n (wd t n (sk t n x0)))))) 5000 f132)) Z := M
      refine g_putI C M j 6 hj (by rw [hL]; rfl) (by rw [hC]; rfl) (by decide) fl9_80 rfl (by rw [hC]; rfl) dX9_readClause_144 (fun H locs M => ?_)
      rw [kM_V6 hj9] at M
      refine lv_goto (tgt := 150) C.1 C.2.1 dX9_readClause_147 (by decide) ?_
      have hple : (dg t n (sk t n (wd t n (sk t n (dg t n (sk t n (wd t n (sk t n x0)))))))) ≤ n := scn_le (scn_le (scn_le (scn_le (scn_le hS2))))
      have hpre : wkR (clP t n x0 T L) (dg t n (sk t n (wd t n (sk t n (dg t n (sk t n (wd t n (sk t n x0)))))))) (nmF t n (wd t n (sk t n (dg t n (sk t n (wd t n (sk t n x0)))))) 5000 f132) (tdF td 5) Wg (upd (upd V 9 (cV t (sk t n (wd t n (sk t n x0))) ((dg t n (sk t n (wd t n (sk t n x0)))) - (sk t n (wd t n (sk t n x0)))))) 10 (cV t (sk t n (wd t n (sk t n (dg t n (sk t n (wd t n (sk t n x0))))))) ((dg t n (sk t n (wd t n (sk t n (dg t n (sk t n (wd t n (sk t n x0)))))))) - (sk t n (wd t n (sk t n (dg t n (sk t n (wd t n (sk t n x0)))))))))) := wk_a hn3 hp hbR hlR hcc.1 hcc.2 rfl rfl rfl rfl hw132
      refine lv_aload_n C.1 C.2.1 dX9_readClause_150 rfl (lv_at hl 1 rfl) ?_
      refine g_callv M (g_runV (As := []) (rest := []) C M 9 (x_tsemi l E (vM σ j Wg (upd (upd V 9 (cV t (sk t n (wd t n (sk t n x0))) ((dg t n (sk t n (wd t n (sk t n x0)))) - (sk t n (wd t n (sk t n x0)))))) 10 (cV t (sk t n (wd t n (sk t n (dg t n (sk t n (wd t n (sk t n x0))))))) ((dg t n (sk t n (wd t n (sk t n (dg t n (sk t n (wd t n (sk t n x0)))))))) - (sk t n (wd t n (sk t n (dg t n (sk t n (wd t n (sk t n x0))))))))))) Z (dg t n (sk t n (wd t n (sk t n (dg t n (sk t n (wd t n (sk t n x0)))))))) (sk t n (dg t n (sk t n (wd t n (sk t n x0))))) (tdF td 5) (nmF t n (wd t n (sk t n (dg t n (sk t n (wd t n (sk t n x0)))))) 5000 f132) n t (vM_n hj9 hn) (vM_t hj9 ht) hn3 hple) clX9_readSemicolon ivX9_readSemicolon lk9_83 (by decide) rfl rfl ⟨Nat.le_of_ble_eq_true rfl, Nat.le_of_ble_eq_true rfl⟩ hl.1 rfl (Nat.le_of_ble_eq_true rfl) dX9_readClause_151 ⟨Nat.le_of_ble_eq_true rfl, Nat.le_of_ble_eq_true rfl⟩) (fun u H locs hR M => ?_)
      refine W.widen (k := 0) (n := 0) (Nat.le_of_ble_eq_true rfl) (Nat.le_of_ble_eq_true rfl) ?_
      obtain ⟨p151, f151, hu, hk9⟩ := semi_k (X := fun p f => kM σ j Wg (upd (upd V 9 (cV t (sk t n (wd t n (sk t n x0))) ((dg t n (sk t n (wd t n (sk t n x0)))) - (sk t n (wd t n (sk t n x0)))))) 10 (cV t (sk t n (wd t n (sk t n (dg t n (sk t n (wd t n (sk t n x0))))))) ((dg t n (sk t n (wd t n (sk t n (dg t n (sk t n (wd t n (sk t n x0)))))))) - (sk t n (wd t n (sk t n (dg t n (sk t n (wd t n (sk t n x0)))))))))) p (sk t n (dg t n (sk t n (wd t n (sk t n x0))))) (tdF td 5) f) hn3 hple hpre hR
      clear hR
      subst hu
      have M : hM E A s H locs (kM σ j Wg (upd (upd V 9 (cV t (sk t n (wd t n (sk t n x0))) ((dg t n (sk t n (wd t n (sk t n x0)))) - (sk t n (wd t n (sk t n x0)))))) 10 (cV t (sk t n (wd t n (sk t n (dg t n (sk t n (wd t n (sk t n x0))))))) ((dg t n (sk t n (wd t n (sk t n (dg t n (sk t n (wd t n (sk t n x0)))))))) - (sk t n (wd t n (sk t n (dg t n (sk t n (wd t n (sk t n x0)))))))))) p151 (sk t n (dg t n (sk t n (wd t n (sk t n x0))))) (tdF td 5) f151) Z := M
      refine g_vret C M hr hlk ?_ (Nat.le_of_ble_eq_true rfl) (Nat.le_of_ble_eq_true rfl) dX9_readClause_154
      exact ⟨_, _, _, _, _, _, rfl, hk9⟩
    refine lv_tableOut (tgt := 150) C.1 C.2.1 dX9_readClause_17 (tb_out r1 (by decide) (by decide) (fun k hk => by rcases (show k = 0 ∨ k = 1 ∨ k = 2 ∨ k = 3 ∨ k = 4 ∨ k = 5 by omega) with rfl | rfl | rfl | rfl | rfl | rfl <;> assumption)) (by decide) ?_
    have hdef : wkR (clP t n x0 T L) (wd t n (sk t n x0)) (ttF td f3 (sk t n x0) r1) (tdF td r1) Wg V := by
      rcases hw3 with ⟨h1, h2, h3⟩ | ⟨h1, h2, _⟩
      · obtain ⟨h4, h5⟩ := c0_s h1
        rw [h2, h3, ftl_0]
        refine Or.inl ⟨?_, fc_pos (by decide) (by omega)⟩
        exact clP_c5 h4 h5
      · exfalso
        rcases (show c0I t (sk t n x0) (wd t n (sk t n x0)) = 0 ∨ c0I t (sk t n x0) (wd t n (sk t n x0)) = 1 ∨ c0I t (sk t n x0) (wd t n (sk t n x0)) = 2 ∨ c0I t (sk t n x0) (wd t n (sk t n x0)) = 3 ∨ c0I t (sk t n x0) (wd t n (sk t n x0)) = 4 ∨ c0I t (sk t n x0) (wd t n (sk t n x0)) = 5 by omega) with h5 | h5 | h5 | h5 | h5 | h5
        · rw [h5] at h2; exact c_17_0 h2
        · rw [h5] at h2; exact c_17_1 h2
        · rw [h5] at h2; exact c_17_2 h2
        · rw [h5] at h2; exact c_17_3 h2
        · rw [h5] at h2; exact c_17_4 h2
        · rw [h5] at h2; exact c_17_5 h2
    have hple : (wd t n (sk t n x0)) ≤ n := hW1
    have hpre : wkR (clP t n x0 T L) (wd t n (sk t n x0)) (ttF td f3 (sk t n x0) r1) (tdF td r1) Wg V := hdef
    refine lv_aload_n C.1 C.2.1 dX9_readClause_150 rfl (lv_at hl 1 rfl) ?_
    refine g_callv M (g_runV (As := []) (rest := []) C M 9 (x_tsemi l E (vM σ j Wg V) Z (wd t n (sk t n x0)) (sk t n x0) (tdF td r1) (ttF td f3 (sk t n x0) r1) n t (vM_n hj9 hn) (vM_t hj9 ht) hn3 hple) clX9_readSemicolon ivX9_readSemicolon lk9_83 (by decide) rfl rfl ⟨Nat.le_of_ble_eq_true rfl, Nat.le_of_ble_eq_true rfl⟩ hl.1 rfl (Nat.le_of_ble_eq_true rfl) dX9_readClause_151 ⟨Nat.le_of_ble_eq_true rfl, Nat.le_of_ble_eq_true rfl⟩) (fun u H locs hR M => ?_)
    refine W.widen (k := 0) (n := 0) (Nat.le_of_ble_eq_true rfl) (Nat.le_of_ble_eq_true rfl) ?_
    obtain ⟨p151, f151, hu, hk9⟩ := semi_k (X := fun p f => kM σ j Wg V p (sk t n x0) (tdF td r1) f) hn3 hple hpre hR
    clear hR
    subst hu
    have M : hM E A s H locs (kM σ j Wg V p151 (sk t n x0) (tdF td r1) f151) Z := M
    refine g_vret C M hr hlk ?_ (Nat.le_of_ble_eq_true rfl) (Nat.le_of_ble_eq_true rfl) dX9_readClause_154
    exact ⟨_, _, _, _, _, _, rfl, hk9⟩
