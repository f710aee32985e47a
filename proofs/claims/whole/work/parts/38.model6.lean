theorem q_z {y a : Int32} (h : y + a = a) : y = 0 := by
  have h2 := congrArg (· + (-a)) h
  simp only [Int32.add_assoc, Int32.add_right_neg, Int32.add_zero] at h2
  exact h2
theorem inB_nI {x : Int32} {c k : Nat} (hc : c ≤ 40) (hk : k < c) (h : x = nI k) : inB x 0 (nI c - 1) = true := by
  obtain ⟨q, rfl⟩ : ∃ q, c = q + 1 := ⟨c - 1, by omega⟩
  rw [nI_pred, inB_iff, h]
  refine ⟨?_, ?_⟩
  · exact nI_pos (by omega)
  · rw [Int32.lt_iff_toInt_lt, nI_toInt (by omega), nI_toInt (by omega)]
    omega
theorem inB_em {x : Int32} (h : inB x 0 (0 - 1) = true) : False := by
  rw [inB_iff] at h
  obtain ⟨h1, h2⟩ := h
  rw [Int32.lt_iff_toInt_lt] at h1 h2
  have e1 : (0 : Int32).toInt = 0 := rfl
  have e2 : ((0 : Int32) - 1).toInt = -1 := rfl
  omega

set_option maxHeartbeats 4000000 in
set_option maxRecDepth 100000 in
theorem m_quarrels (l : Launch) (E : hEnv) (σ : hMem) (Z : va_W) (n : Nat) (hn : hI σ 43 3 = nI n) (hn40 : n ≤ 40) (hW : sayW σ n) (hi01 : ∀ k, hA σ 43 10 0 k = 0 ∨ hA σ 43 10 0 k = 1) (k : Int32) : hMet l yX12_quarrels cX12_quarrels 5 (some .int) (2, 0, 0, 45) E σ Z [.ref (hO E 43), .int k] (hQi E (fun r u => ∃ IN F, u = (sIG σ IN F, Z) ∧ (∀ k, IN k = 0 ∨ IN k = 1) ∧ ((NoNeg (mEP σ n (fun _ => True)) ∧ r = -1) ∨ (¬ NoNeg (mEP σ n (fun _ => True)) ∧ Qua n (mEP σ n) (fun k => ¬ IN k = 0) ∧ Qth IN n k r)))) := by
  refine hMet.of (by decide) (Nat.le_of_ble_eq_true rfl) (fun p e s m below meth c A ls C M hr hlk hl => ?_)
  have hl : lv_has ls 5 [(0, .ref (hO E 43)), (1, .int k)] := hl
  generalize s.heap = H at M ⊢
  generalize ([] : List Loc) = locs at M ⊢
  refine lv_aload_n C.1 C.2.1 dX12_quarrels_0 rfl (lv_at hl 0 rfl) ?_
  refine g_calli M (g_runV (As := []) (rest := []) C M 43 (m_quarrel l E σ Z n hn hn40 hW hi01) clX12_quarrel ivX12_quarrel lk12_148 (by decide) rfl rfl ⟨Nat.le_of_ble_eq_true rfl, Nat.le_of_ble_eq_true rfl⟩ hl.1 rfl (Nat.le_of_ble_eq_true rfl) dX12_quarrels_1 ⟨Nat.le_of_ble_eq_true rfl, Nat.le_of_ble_eq_true rfl⟩) (fun r1 u H locs hR M => ?_)
  refine W.widen (k := 0) (n := 0) (Nat.le_of_ble_eq_true rfl) (Nat.le_of_ble_eq_true rfl) ?_
  obtain ⟨IN, F, hu, hIN, hQQ⟩ := hR
  subst hu
  have M : hM E A s H locs (sIG σ IN F) Z := M
  refine lv_istore_n (lv' := [(2, .int r1), (0, .ref (hO E 43)), (1, .int k)]) C.1 C.2.1 dX12_quarrels_4 rfl hl (by decide) rfl (fun ls hl => ?_)
  refine lv_iload_n C.1 C.2.1 dX12_quarrels_5 rfl (lv_at hl 2 rfl) ?_
  refine lv_iconst (v := 0) C.1 C.2.1 dX12_quarrels_6 (by decide) ?_
  refine lv_iload_n C.1 C.2.1 dX12_quarrels_7 rfl (lv_at hl 0 rfl) ?_
  refine lv_iconst (v := 1) C.1 C.2.1 dX12_quarrels_8 (by decide) ?_
  refine lv_isub C.1 C.2.1 dX12_quarrels_9 ?_
  refine g_calli M (g_runS (As := [.int k, .int 0, .int (r1 - 1)]) (rest := []) C M (m_in l E (sIG σ IN F) Z k 0 (r1 - 1)) clX12_in stX12_in lk12_131 rfl ⟨Nat.le_of_ble_eq_true rfl, Nat.le_of_ble_eq_true rfl⟩ hl.1 rfl (Nat.le_of_ble_eq_true rfl) dX12_quarrels_10 ⟨Nat.le_of_ble_eq_true rfl, Nat.le_of_ble_eq_true rfl⟩) (fun r2 u H locs hR M => ?_)
  refine W.widen (k := 0) (n := 0) (Nat.le_of_ble_eq_true rfl) (Nat.le_of_ble_eq_true rfl) ?_
  obtain ⟨rfl, rfl⟩ := hR
  have M : hM E A s H locs (sIG σ IN F) Z := M
  refine lv_if_ne (tgt := 18) C.1 C.2.1 dX12_quarrels_13 (by decide) (fun c_13 => ?_) (fun c_13 => ?_)
  · skip
    have c_13 : inB k 0 (r1 - 1) = true := bz_ne0.mp c_13
    refine lv_iload_n C.1 C.2.1 dX12_quarrels_18 rfl (lv_at hl 2 rfl) ?_
    refine lv_istore_n (lv' := [(3, .int k), (2, .int r1), (0, .ref (hO E 43)), (1, .int k)]) C.1 C.2.1 dX12_quarrels_19 rfl hl (by decide) rfl (fun ls hl => ?_)
    refine lv_iconst (v := 0) C.1 C.2.1 dX12_quarrels_20 (by decide) ?_
    refine lv_istore (lv' := [(4, .int 0), (3, .int k), (2, .int r1), (0, .ref (hO E 43)), (1, .int k)]) C.1 C.2.1 dX12_quarrels_21 hl (by decide) rfl (fun ls hl => ?_)
    have L23 : ∀ (n9 : Nat) (i : Nat) (y : Int32), (i ≤ n) → (k = y + nI (cnz IN i)) → (∀ z, z < i → ¬ IN z = 0 → ¬ k = nI (cnz IN z)) → n - i < n9 → ∀ (H : Heap) (locs : List Loc) (ls : Array Slot), hM E A s H locs (sIG σ IN F) Z → lv_has ls 5 [(3, .int y), (4, .int (nI i)), (0, .ref (hO E 43)), (1, .int k), (2, .int r1)] → W p l e (hRm (2, 0, 0, 45)) s m [.ref (hO E 43), .int k].toArray below meth c H locs 0 0 (MQ below (hQi E (fun r u => ∃ IN F, u = (sIG σ IN F, Z) ∧ (∀ k, IN k = 0 ∨ IN k = 1) ∧ ((NoNeg (mEP σ n (fun _ => True)) ∧ r = -1) ∨ (¬ NoNeg (mEP σ n (fun _ => True)) ∧ Qua n (mEP σ n) (fun k => ¬ IN k = 0) ∧ Qth IN n k r))) A) [.ref (hO E 43), .int k].toArray s 0 0 A) (F0 m 23 ls []) := by
      intro n9
      induction n9 with
      | zero =>
        intro i y hi hk9 hall hn9
        exact absurd hn9 (Nat.not_lt_zero _)
      | succ n9 ih23 =>
        intro i y hi hk9 hall hn23 H locs ls M hl
        refine lv_iload C.1 C.2.1 dX12_quarrels_23 (lv_at hl 1 rfl) ?_
        refine lv_aload_n C.1 C.2.1 dX12_quarrels_25 rfl (lv_at hl 2 rfl) ?_
        refine g_getI C M 43 3 (by decide) rfl rfl (by decide) fl12_135 (v := nI n) hn dX12_quarrels_26 ?_
        refine lv_icmp_ge (tgt := 58) C.1 C.2.1 dX12_quarrels_29 (by decide) (fun c_29 => ?_) (fun c_29 => ?_)
        · skip
          have hkn : i = n := by have := ct_ge (n := n) (k := i) c_29; omega
          have hl : lv_has ls 5 [(3, .int y), (4, .int (nI n)), (0, .ref (hO E 43)), (1, .int k), (2, .int r1)] := by first | exact hl | (rw [hkn] at hl; exact hl)
          have M : hM E A s H locs (sIG σ IN F) Z := by first | exact M | (rw [hkn] at M; exact M)
          refine lv_iconst (v := (-1)) C.1 C.2.1 dX12_quarrels_58 (by decide) ?_
          refine g_iret C M hr hlk ?_ (Nat.le_of_ble_eq_true rfl) (Nat.le_of_ble_eq_true rfl) dX12_quarrels_59
          refine ⟨IN, F, rfl, hIN, hQQ.elim (fun h9 => Or.inl ⟨h9.1, rfl⟩) (fun ⟨h1, c, h2, h3, h4, h5⟩ => Or.inr ⟨h1, h5, Or.inr ⟨by rw [hkn] at hall; exact hall, rfl⟩⟩)⟩
        · skip
          have hi1 : i < n := ct_nge (n := n) (k := i) c_29
          refine lv_aload_n C.1 C.2.1 dX12_quarrels_32 rfl (lv_at hl 2 rfl) ?_
          refine g_getA C M 43 10 (by decide) rfl rfl (by decide) fl12_33 dX12_quarrels_33 ?_
          refine lv_iload C.1 C.2.1 dX12_quarrels_36 (lv_at hl 1 rfl) ?_
          refine g_zald C M 43 10 (by decide) rfl i (nI_clamp (by omega)) (vp_in_nI (by omega) (by decide)) (v := IN i) rfl dX12_quarrels_38 ?_
          refine lv_if_eq (tgt := 52) C.1 C.2.1 dX12_quarrels_39 (by decide) (fun c_39 => ?_) (fun c_39 => ?_)
          · skip
            refine lv_iinc (v := nI (i + 1)) (lv' := [(4, .int (nI (i + 1))), (3, .int y), (0, .ref (hO E 43)), (1, .int k), (2, .int r1)]) C.1 C.2.1 dX12_quarrels_52 hl (k := 1) rfl (nI_succ _).symm (by decide) rfl (fun ls hl => ?_)
            refine lv_goto (tgt := 23) C.1 C.2.1 dX12_quarrels_55 (by decide) ?_
            exact ih23 (i + 1) y hi1 (by show k = _ + nI (cnz IN i + (if IN i = 0 then 0 else 1)); rw [if_pos c_39]; exact hk9) (show ∀ z, z < i + 1 → ¬ IN z = 0 → ¬ k = nI (cnz IN z) from fun z hz hg => by by_cases e : z = i; (rw [e] at hg ⊢; first | exact absurd c_39 hg | exact fun q => c_43 (q_z (hk9.symm.trans q))); exact hall z (by omega) hg) (by omega) _ _ _ M (lv_sub hl [1, 0, 2, 3, 4] rfl)
          · skip
            refine lv_iload_n C.1 C.2.1 dX12_quarrels_42 rfl (lv_at hl 0 rfl) ?_
            refine lv_if_ne (tgt := 49) C.1 C.2.1 dX12_quarrels_43 (by decide) (fun c_43 => ?_) (fun c_43 => ?_)
            · skip
              refine lv_iinc (v := y + (-1)) (lv' := [(3, .int (y + (-1))), (4, .int (nI i)), (0, .ref (hO E 43)), (1, .int k), (2, .int r1)]) C.1 C.2.1 dX12_quarrels_49 hl (k := 0) rfl rfl (by decide) rfl (fun ls hl => ?_)
              refine lv_iinc (v := nI (i + 1)) (lv' := [(4, .int (nI (i + 1))), (3, .int (y + (-1))), (0, .ref (hO E 43)), (1, .int k), (2, .int r1)]) C.1 C.2.1 dX12_quarrels_52 hl (k := 1) rfl (nI_succ _).symm (by decide) rfl (fun ls hl => ?_)
              refine lv_goto (tgt := 23) C.1 C.2.1 dX12_quarrels_55 (by decide) ?_
              exact ih23 (i + 1) (y + (-1)) hi1 (by show k = _ + nI (cnz IN i + (if IN i = 0 then 0 else 1)); rw [if_neg c_39]; rw [nI_succ]; exact q_re hk9) (show ∀ z, z < i + 1 → ¬ IN z = 0 → ¬ k = nI (cnz IN z) from fun z hz hg => by by_cases e : z = i; (rw [e] at hg ⊢; first | exact absurd c_39 hg | exact fun q => c_43 (q_z (hk9.symm.trans q))); exact hall z (by omega) hg) (by omega) _ _ _ M (lv_sub hl [1, 0, 2, 3, 4] rfl)
            · skip
              refine lv_iload C.1 C.2.1 dX12_quarrels_46 (lv_at hl 1 rfl) ?_
              refine g_iret C M hr hlk ?_ (Nat.le_of_ble_eq_true rfl) (Nat.le_of_ble_eq_true rfl) dX12_quarrels_48
              refine ⟨IN, F, rfl, hIN, hQQ.elim (fun h9 => ?_) (fun ⟨h1, c, h2, h3, h4, h5⟩ => Or.inr ⟨h1, h5, Or.inl ⟨i, hi1, c_39, ?_, rfl⟩⟩)⟩; (rw [h9.2] at c_13; exact absurd (inB_em c_13) id); (rw [hk9, c_43, Int32.zero_add])
    have q3 : 0 = nI 0 := by rfl
    have hl : lv_has ls 5 [(3, .int k), (4, .int (nI 0)), (0, .ref (hO E 43)), (1, .int k), (2, .int r1)] := by
      rw [← q3]
      exact lv_sub hl [1, 0, 3, 4, 2] rfl
    exact L23 ((n - 0) + 1) 0 k (Nat.zero_le _) (show k = k + 0 from (Int32.add_zero k).symm) (fun z hz => absurd hz (Nat.not_lt_zero z)) (Nat.lt_succ_self _) _ _ _ M hl
  · skip
    have c_13 : ¬ inB k 0 (r1 - 1) = true := bz_0.mp c_13
    refine lv_iconst (v := (-1)) C.1 C.2.1 dX12_quarrels_16 (by decide) ?_
    refine g_iret C M hr hlk ?_ (Nat.le_of_ble_eq_true rfl) (Nat.le_of_ble_eq_true rfl) dX12_quarrels_17
    refine ⟨IN, F, rfl, hIN, hQQ.elim (fun h9 => Or.inl ⟨h9.1, rfl⟩) (fun ⟨h1, c, h2, h3, h4, h5⟩ => Or.inr ⟨h1, h5, Or.inr ⟨fun i hi hg hk => ?_, rfl⟩⟩)⟩; rw [h3] at c_13; exact c_13 (inB_nI (by omega) (by rw [← h4]; exact cnz_slt hi hg) hk)

def mCnt (σ : hMem) (n : Nat) (x : Int32) : Int32 := if x = 0 then hI σ 43 1 else if x = 1 then nI n else if x = 3 then hI σ 43 11 else if x = 4 then hI σ 43 17 else if x = 5 then hI σ 43 26 else if x = 6 then hI σ 43 38 else if x = 7 then hI σ 43 31 else -1

set_option maxHeartbeats 4000000 in
set_option maxRecDepth 100000 in
theorem m_count (l : Launch) (E : hEnv) (σ : hMem) (Z : va_W) (n : Nat) (hn : hI σ 43 3 = nI n) (hn40 : n ≤ 40) (hW : sayW σ n) (hlg : ∀ k, k < n → vp_in (hA σ 43 4 0 k) 6) (hi01 : ∀ k, hA σ 43 10 0 k = 0 ∨ hA σ 43 10 0 k = 1) (x : Int32) : hMet l yX12_count cX12_count 4 (some .int) (2, 1, 40, 47) E σ Z [.ref (hO E 43), .int x] (hQi E (fun r u => (x = 2 ∧ ∃ IN F, u = (sIG σ IN F, Z) ∧ BelW σ n IN F ∧ r = nI (cnz IN n)) ∨ (¬ x = 2 ∧ u = (σ, Z) ∧ r = mCnt σ n x))) := by
  refine hMet.of (by decide) (Nat.le_of_ble_eq_true rfl) (fun p e s m below meth c A ls C M hr hlk hl => ?_)
  have hl : lv_has ls 4 [(0, .ref (hO E 43)), (1, .int x)] := hl
  generalize s.heap = H at M ⊢
  generalize ([] : List Loc) = locs at M ⊢
  refine lv_iload_n C.1 C.2.1 dX12_count_0 rfl (lv_at hl 1 rfl) ?_
  by_cases c_1_0 : x = 0
  · refine lv_tableIn (off := 47) (tgt := 48) C.1 C.2.1 dX12_count_1 (by rw [c_1_0]; decide) (by rw [c_1_0]; decide) (by rw [c_1_0]; rfl) (by decide) ?_
    refine lv_aload_n C.1 C.2.1 dX12_count_48 rfl (lv_at hl 0 rfl) ?_
    refine g_getI C M 43 1 (by decide) rfl rfl (by decide) fl12_128 (v := hI σ 43 1) rfl dX12_count_49 ?_
    refine g_iret C M hr hlk ?_ (Nat.le_of_ble_eq_true rfl) (Nat.le_of_ble_eq_true rfl) dX12_count_52
    exact Or.inr ⟨by rw [c_1_0]; decide, rfl, by rw [c_1_0]; rfl⟩
  by_cases c_1_1 : x = 1
  · refine lv_tableIn (off := 52) (tgt := 53) C.1 C.2.1 dX12_count_1 (by rw [c_1_1]; decide) (by rw [c_1_1]; decide) (by rw [c_1_1]; rfl) (by decide) ?_
    refine lv_aload_n C.1 C.2.1 dX12_count_53 rfl (lv_at hl 0 rfl) ?_
    refine g_getI C M 43 3 (by decide) rfl rfl (by decide) fl12_135 (v := nI n) hn dX12_count_54 ?_
    refine g_iret C M hr hlk ?_ (Nat.le_of_ble_eq_true rfl) (Nat.le_of_ble_eq_true rfl) dX12_count_57
    exact Or.inr ⟨by rw [c_1_1]; decide, rfl, by rw [c_1_1]; rfl⟩
  by_cases c_1_2 : x = 2
  · refine lv_tableIn (off := 57) (tgt := 58) C.1 C.2.1 dX12_count_1 (by rw [c_1_2]; decide) (by rw [c_1_2]; decide) (by rw [c_1_2]; rfl) (by decide) ?_
    refine lv_aload_n C.1 C.2.1 dX12_count_58 rfl (lv_at hl 0 rfl) ?_
    refine g_callv M (g_runV (As := []) (rest := []) C M 43 (m_believe l E σ Z n hn hn40 hW hlg hi01) clX12_believe ivX12_believe lk12_144 (by decide) rfl rfl ⟨Nat.le_of_ble_eq_true rfl, Nat.le_of_ble_eq_true rfl⟩ hl.1 rfl (Nat.le_of_ble_eq_true rfl) dX12_count_59 ⟨Nat.le_of_ble_eq_true rfl, Nat.le_of_ble_eq_true rfl⟩) (fun u H locs hR M => ?_)
    refine W.widen (k := 1) (n := 40) (Nat.le_of_ble_eq_true rfl) (Nat.le_of_ble_eq_true rfl) ?_
    obtain ⟨IN, F, hu, hBel⟩ := hR
    subst hu
    have hBel : BelW σ n IN F := hBel
    have M : hM E A s H locs (sIG σ IN F) Z := M
    refine lv_iconst (v := 0) C.1 C.2.1 dX12_count_62 (by decide) ?_
    refine lv_istore_n (lv' := [(2, .int 0), (0, .ref (hO E 43)), (1, .int x)]) C.1 C.2.1 dX12_count_63 rfl hl (by decide) rfl (fun ls hl => ?_)
    refine lv_iconst (v := 0) C.1 C.2.1 dX12_count_64 (by decide) ?_
    refine lv_istore_n (lv' := [(3, .int 0), (2, .int 0), (0, .ref (hO E 43)), (1, .int x)]) C.1 C.2.1 dX12_count_65 rfl hl (by decide) rfl (fun ls hl => ?_)
    have L66 : ∀ (n9 : Nat) (k : Nat), (k ≤ n) → n - k < n9 → ∀ (H : Heap) (locs : List Loc) (ls : Array Slot), hM E A s H locs (sIG σ IN F) Z → lv_has ls 4 [(2, .int (nI (cnz IN k))), (3, .int (nI k)), (0, .ref (hO E 43))] → W p l e (hRm (2, 1, 40, 47)) s m [.ref (hO E 43), .int x].toArray below meth c H locs 1 40 (MQ below (hQi E (fun r u => (x = 2 ∧ ∃ IN F, u = (sIG σ IN F, Z) ∧ BelW σ n IN F ∧ r = nI (cnz IN n)) ∨ (¬ x = 2 ∧ u = (σ, Z) ∧ r = mCnt σ n x)) A) [.ref (hO E 43), .int x].toArray s 1 40 A) (F0 m 66 ls []) := by
      intro n9
      induction n9 with
      | zero =>
        intro k hk hn9
        exact absurd hn9 (Nat.not_lt_zero _)
      | succ n9 ih66 =>
        intro k hk hn66 H locs ls M hl
        refine lv_iload_n C.1 C.2.1 dX12_count_66 rfl (lv_at hl 1 rfl) ?_
        refine lv_aload_n C.1 C.2.1 dX12_count_67 rfl (lv_at hl 2 rfl) ?_
        refine g_getI C M 43 3 (by decide) rfl rfl (by decide) fl12_135 (v := nI n) hn dX12_count_68 ?_
        refine lv_icmp_ge (tgt := 97) C.1 C.2.1 dX12_count_71 (by decide) (fun c_71 => ?_) (fun c_71 => ?_)
        · skip
          have hkn : k = n := by have := ct_ge (n := n) (k := k) c_71; omega
          have hl : lv_has ls 4 [(2, .int (nI (cnz IN n))), (3, .int (nI n)), (0, .ref (hO E 43))] := by first | exact hl | (rw [hkn] at hl; exact hl)
          have M : hM E A s H locs (sIG σ IN F) Z := by first | exact M | (rw [hkn] at M; exact M)
          refine lv_iload_n C.1 C.2.1 dX12_count_97 rfl (lv_at hl 0 rfl) ?_
          refine g_iret C M hr hlk ?_ (Nat.le_of_ble_eq_true rfl) (Nat.le_of_ble_eq_true rfl) dX12_count_98
          exact Or.inl ⟨c_1_2, IN, F, rfl, hBel, rfl⟩
        · skip
          have hk1 : k < n := ct_nge (n := n) (k := k) c_71
          refine lv_iload_n C.1 C.2.1 dX12_count_74 rfl (lv_at hl 0 rfl) ?_
          refine lv_aload_n C.1 C.2.1 dX12_count_75 rfl (lv_at hl 2 rfl) ?_
          refine g_getA C M 43 10 (by decide) rfl rfl (by decide) fl12_33 dX12_count_76 ?_
          refine lv_iload_n C.1 C.2.1 dX12_count_79 rfl (lv_at hl 1 rfl) ?_
          refine g_zald C M 43 10 (by decide) rfl k (nI_clamp (by omega)) (vp_in_nI (by omega) (by decide)) (v := IN k) rfl dX12_count_80 ?_
          refine lv_if_eq (tgt := 88) C.1 C.2.1 dX12_count_81 (by decide) (fun c_81 => ?_) (fun c_81 => ?_)
          · skip
            refine lv_iconst (v := 0) C.1 C.2.1 dX12_count_88 (by decide) ?_
            refine lv_iadd C.1 C.2.1 dX12_count_89 ?_
            refine g_rei (v := nI ((cnz IN k) + 0)) (nI_add _ 0) ?_
            refine lv_istore_n (lv' := [(2, .int (nI ((cnz IN k) + 0))), (3, .int (nI k)), (0, .ref (hO E 43))]) C.1 C.2.1 dX12_count_90 rfl hl (by decide) rfl (fun ls hl => ?_)
            refine lv_iinc (v := nI (k + 1)) (lv' := [(3, .int (nI (k + 1))), (2, .int (nI ((cnz IN k) + 0))), (0, .ref (hO E 43))]) C.1 C.2.1 dX12_count_91 hl (k := 1) rfl (nI_succ _).symm (by decide) rfl (fun ls hl => ?_)
            refine lv_goto (tgt := 66) C.1 C.2.1 dX12_count_94 (by decide) ?_
            have q1 : nI ((cnz IN k) + 0) = nI (cnz IN (k + 1)) := by first | rfl | (show _ = nI (cnz IN k + (if IN k = 0 then 0 else 1)); first | rw [if_pos c_81] | rw [if_neg c_81])
            have hl : lv_has ls 4 [(2, .int (nI (cnz IN (k + 1)))), (3, .int (nI (k + 1))), (0, .ref (hO E 43))] := by
              rw [← q1]
              exact lv_sub hl [1, 0, 2] rfl
            exact ih66 (k + 1) hk1 (by omega) _ _ _ M hl
          · skip
            refine lv_iconst (v := 1) C.1 C.2.1 dX12_count_84 (by decide) ?_
            refine lv_goto (tgt := 89) C.1 C.2.1 dX12_count_85 (by decide) ?_
            refine lv_iadd C.1 C.2.1 dX12_count_89 ?_
            refine g_rei (v := nI ((cnz IN k) + 1)) (nI_1 _) ?_
            refine lv_istore_n (lv' := [(2, .int (nI ((cnz IN k) + 1))), (3, .int (nI k)), (0, .ref (hO E 43))]) C.1 C.2.1 dX12_count_90 rfl hl (by decide) rfl (fun ls hl => ?_)
            refine lv_iinc (v := nI (k + 1)) (lv' := [(3, .int (nI (k + 1))), (2, .int (nI ((cnz IN k) + 1))), (0, .ref (hO E 43))]) C.1 C.2.1 dX12_count_91 hl (k := 1) rfl (nI_succ _).symm (by decide) rfl (fun ls hl => ?_)
            refine lv_goto (tgt := 66) C.1 C.2.1 dX12_count_94 (by decide) ?_
            have q2 : nI ((cnz IN k) + 1) = nI (cnz IN (k + 1)) := by first | rfl | (show _ = nI (cnz IN k + (if IN k = 0 then 0 else 1)); first | rw [if_pos c_81] | rw [if_neg c_81])
            have hl : lv_has ls 4 [(2, .int (nI (cnz IN (k + 1)))), (3, .int (nI (k + 1))), (0, .ref (hO E 43))] := by
              rw [← q2]
              exact lv_sub hl [1, 0, 2] rfl
            exact ih66 (k + 1) hk1 (by omega) _ _ _ M hl
    have q3 : 0 = nI (cnz IN 0) := by first | rfl | (show _ = nI (cnz IN k + (if IN k = 0 then 0 else 1)); first | rw [if_pos c_81] | rw [if_neg c_81])
    have q4 : 0 = nI 0 := by first | rfl | (show _ = nI (cnz IN k + (if IN k = 0 then 0 else 1)); first | rw [if_pos c_81] | rw [if_neg c_81])
    have hl : lv_has ls 4 [(2, .int (nI (cnz IN 0))), (3, .int (nI 0)), (0, .ref (hO E 43))] := by
      rw [← q3, ← q4]
      exact lv_sub hl [1, 0, 2] rfl
    exact L66 ((n - 0) + 1) 0 (Nat.zero_le _) (Nat.lt_succ_self _) _ _ _ M hl
  by_cases c_1_3 : x = 3
  · refine lv_tableIn (off := 98) (tgt := 99) C.1 C.2.1 dX12_count_1 (by rw [c_1_3]; decide) (by rw [c_1_3]; decide) (by rw [c_1_3]; rfl) (by decide) ?_
    refine lv_aload_n C.1 C.2.1 dX12_count_99 rfl (lv_at hl 0 rfl) ?_
    refine g_getI C M 43 11 (by decide) rfl rfl (by decide) fl12_152 (v := hI σ 43 11) rfl dX12_count_100 ?_
    refine g_iret C M hr hlk ?_ (Nat.le_of_ble_eq_true rfl) (Nat.le_of_ble_eq_true rfl) dX12_count_103
    exact Or.inr ⟨by rw [c_1_3]; decide, rfl, by rw [c_1_3]; rfl⟩
  by_cases c_1_4 : x = 4
  · refine lv_tableIn (off := 103) (tgt := 104) C.1 C.2.1 dX12_count_1 (by rw [c_1_4]; decide) (by rw [c_1_4]; decide) (by rw [c_1_4]; rfl) (by decide) ?_
    refine lv_aload_n C.1 C.2.1 dX12_count_104 rfl (lv_at hl 0 rfl) ?_
    refine g_getI C M 43 17 (by decide) rfl rfl (by decide) fl12_156 (v := hI σ 43 17) rfl dX12_count_105 ?_
    refine g_iret C M hr hlk ?_ (Nat.le_of_ble_eq_true rfl) (Nat.le_of_ble_eq_true rfl) dX12_count_108
    exact Or.inr ⟨by rw [c_1_4]; decide, rfl, by rw [c_1_4]; rfl⟩
  by_cases c_1_5 : x = 5
  · refine lv_tableIn (off := 108) (tgt := 109) C.1 C.2.1 dX12_count_1 (by rw [c_1_5]; decide) (by rw [c_1_5]; decide) (by rw [c_1_5]; rfl) (by decide) ?_
    refine lv_aload_n C.1 C.2.1 dX12_count_109 rfl (lv_at hl 0 rfl) ?_
    refine g_getI C M 43 26 (by decide) rfl rfl (by decide) fl12_250 (v := hI σ 43 26) rfl dX12_count_110 ?_
    refine g_iret C M hr hlk ?_ (Nat.le_of_ble_eq_true rfl) (Nat.le_of_ble_eq_true rfl) dX12_count_113
    exact Or.inr ⟨by rw [c_1_5]; decide, rfl, by rw [c_1_5]; rfl⟩
  by_cases c_1_6 : x = 6
  · refine lv_tableIn (off := 113) (tgt := 114) C.1 C.2.1 dX12_count_1 (by rw [c_1_6]; decide) (by rw [c_1_6]; decide) (by rw [c_1_6]; rfl) (by decide) ?_
    refine lv_aload_n C.1 C.2.1 dX12_count_114 rfl (lv_at hl 0 rfl) ?_
    refine g_getI C M 43 38 (by decide) rfl rfl (by decide) fl12_266 (v := hI σ 43 38) rfl dX12_count_115 ?_
    refine g_iret C M hr hlk ?_ (Nat.le_of_ble_eq_true rfl) (Nat.le_of_ble_eq_true rfl) dX12_count_118
    exact Or.inr ⟨by rw [c_1_6]; decide, rfl, by rw [c_1_6]; rfl⟩
  by_cases c_1_7 : x = 7
  · refine lv_tableIn (off := 118) (tgt := 119) C.1 C.2.1 dX12_count_1 (by rw [c_1_7]; decide) (by rw [c_1_7]; decide) (by rw [c_1_7]; rfl) (by decide) ?_
    refine lv_aload_n C.1 C.2.1 dX12_count_119 rfl (lv_at hl 0 rfl) ?_
    refine g_getI C M 43 31 (by decide) rfl rfl (by decide) fl12_166 (v := hI σ 43 31) rfl dX12_count_120 ?_
    refine g_iret C M hr hlk ?_ (Nat.le_of_ble_eq_true rfl) (Nat.le_of_ble_eq_true rfl) dX12_count_123
    exact Or.inr ⟨by rw [c_1_7]; decide, rfl, by rw [c_1_7]; rfl⟩
  refine lv_tableOut (tgt := 124) C.1 C.2.1 dX12_count_1 (tb_out x (by decide) (by decide) (fun k hk => by rcases (show k = 0 ∨ k = 1 ∨ k = 2 ∨ k = 3 ∨ k = 4 ∨ k = 5 ∨ k = 6 ∨ k = 7 by omega) with rfl | rfl | rfl | rfl | rfl | rfl | rfl | rfl <;> assumption)) (by decide) ?_
  refine lv_iconst (v := (-1)) C.1 C.2.1 dX12_count_124 (by decide) ?_
  refine g_iret C M hr hlk ?_ (Nat.le_of_ble_eq_true rfl) (Nat.le_of_ble_eq_true rfl) dX12_count_125
  exact Or.inr ⟨c_1_2, rfl, by simp only [mCnt, c_1_0, c_1_1, c_1_2, c_1_3, c_1_4, c_1_5, c_1_6, c_1_7, not_false_eq_true, not_true_eq_false, and_self, and_true, true_and, and_false, false_and, or_true, true_or, or_false, false_or, Bool.false_eq_true, if_true, if_false, ↓reduceIte]⟩
