set_option maxHeartbeats 4000000 in
set_option maxRecDepth 100000 in
theorem m_mark0 (l : Launch) (E : hEnv) (σ : hMem) (Z : va_W) : hMet l yX12_markOf cX12_markOf 2 (some (.object "java/lang/String")) (0, 0, 0, 0) E σ Z [.ref (hO E 43), .int 0] (hQr E (fun r u => r = E.2.2.2.1 5 ∧ u = (σ, Z))) := by
  refine hMet.of (by decide) (Nat.le_of_ble_eq_true rfl) (fun p e s m below meth c A ls C M hr hlk hl => ?_)
  have hl : lv_has ls 2 [(0, .ref (hO E 43)), (1, .int 0)] := hl
  generalize s.heap = H at M ⊢
  generalize ([] : List Loc) = locs at M ⊢
  refine lv_iload_n C.1 C.2.1 dX12_markOf_0 rfl (lv_at hl 1 rfl) ?_
  refine lv_if_ne (tgt := 9) C.1 C.2.1 dX12_markOf_1 (by decide) (fun h9 => absurd h9 (by decide)) (fun _ => ?_)
  refine va_ldcS (own := RX12) (tx := "danger") (index := 198) (q := E.2.2.2.1 5) C.1 C.2.1 C.2.2.2.1 (tx_5 C) dX12_markOf_4 ?_
  refine lv_goto (tgt := 41) C.1 C.2.1 dX12_markOf_6 (by decide) ?_
  refine g_rret C M hr hlk ?_ (Nat.le_of_ble_eq_true rfl) (Nat.le_of_ble_eq_true rfl) dX12_markOf_41
  exact ⟨rfl, rfl⟩

set_option maxHeartbeats 4000000 in
set_option maxRecDepth 100000 in
theorem m_mark1 (l : Launch) (E : hEnv) (σ : hMem) (Z : va_W) : hMet l yX12_markOf cX12_markOf 2 (some (.object "java/lang/String")) (0, 0, 0, 0) E σ Z [.ref (hO E 43), .int 1] (hQr E (fun r u => r = E.2.2.2.1 6 ∧ u = (σ, Z))) := by
  refine hMet.of (by decide) (Nat.le_of_ble_eq_true rfl) (fun p e s m below meth c A ls C M hr hlk hl => ?_)
  have hl : lv_has ls 2 [(0, .ref (hO E 43)), (1, .int 1)] := hl
  generalize s.heap = H at M ⊢
  generalize ([] : List Loc) = locs at M ⊢
  refine lv_iload_n C.1 C.2.1 dX12_markOf_0 rfl (lv_at hl 1 rfl) ?_
  refine lv_if_ne (tgt := 9) C.1 C.2.1 dX12_markOf_1 (by decide) (fun _ => ?_) (fun h9 => absurd h9 (by decide))
  refine lv_iload_n C.1 C.2.1 dX12_markOf_9 rfl (lv_at hl 1 rfl) ?_
  refine lv_iconst (v := 1) C.1 C.2.1 dX12_markOf_10 (by decide) ?_
  refine lv_icmp_ne (tgt := 19) C.1 C.2.1 dX12_markOf_11 (by decide) (fun h9 => absurd h9 (by decide)) (fun _ => ?_)
  refine va_ldcS (own := RX12) (tx := "skill") (index := 200) (q := E.2.2.2.1 6) C.1 C.2.1 C.2.2.2.1 (tx_6 C) dX12_markOf_14 ?_
  refine lv_goto (tgt := 41) C.1 C.2.1 dX12_markOf_16 (by decide) ?_
  refine g_rret C M hr hlk ?_ (Nat.le_of_ble_eq_true rfl) (Nat.le_of_ble_eq_true rfl) dX12_markOf_41
  exact ⟨rfl, rfl⟩

set_option maxHeartbeats 4000000 in
set_option maxRecDepth 100000 in
theorem m_mark2 (l : Launch) (E : hEnv) (σ : hMem) (Z : va_W) : hMet l yX12_markOf cX12_markOf 2 (some (.object "java/lang/String")) (0, 0, 0, 0) E σ Z [.ref (hO E 43), .int 2] (hQr E (fun r u => r = E.2.2.2.1 7 ∧ u = (σ, Z))) := by
  refine hMet.of (by decide) (Nat.le_of_ble_eq_true rfl) (fun p e s m below meth c A ls C M hr hlk hl => ?_)
  have hl : lv_has ls 2 [(0, .ref (hO E 43)), (1, .int 2)] := hl
  generalize s.heap = H at M ⊢
  generalize ([] : List Loc) = locs at M ⊢
  refine lv_iload_n C.1 C.2.1 dX12_markOf_0 rfl (lv_at hl 1 rfl) ?_
  refine lv_if_ne (tgt := 9) C.1 C.2.1 dX12_markOf_1 (by decide) (fun _ => ?_) (fun h9 => absurd h9 (by decide))
  refine lv_iload_n C.1 C.2.1 dX12_markOf_9 rfl (lv_at hl 1 rfl) ?_
  refine lv_iconst (v := 1) C.1 C.2.1 dX12_markOf_10 (by decide) ?_
  refine lv_icmp_ne (tgt := 19) C.1 C.2.1 dX12_markOf_11 (by decide) (fun _ => ?_) (fun h9 => absurd h9 (by decide))
  refine lv_iload_n C.1 C.2.1 dX12_markOf_19 rfl (lv_at hl 1 rfl) ?_
  refine lv_iconst (v := 2) C.1 C.2.1 dX12_markOf_20 (by decide) ?_
  refine lv_icmp_ne (tgt := 29) C.1 C.2.1 dX12_markOf_21 (by decide) (fun h9 => absurd h9 (by decide)) (fun _ => ?_)
  refine va_ldcS (own := RX12) (tx := "labour") (index := 202) (q := E.2.2.2.1 7) C.1 C.2.1 C.2.2.2.1 (tx_7 C) dX12_markOf_24 ?_
  refine lv_goto (tgt := 41) C.1 C.2.1 dX12_markOf_26 (by decide) ?_
  refine g_rret C M hr hlk ?_ (Nat.le_of_ble_eq_true rfl) (Nat.le_of_ble_eq_true rfl) dX12_markOf_41
  exact ⟨rfl, rfl⟩

set_option maxHeartbeats 4000000 in
set_option maxRecDepth 100000 in
theorem m_mark3 (l : Launch) (E : hEnv) (σ : hMem) (Z : va_W) : hMet l yX12_markOf cX12_markOf 2 (some (.object "java/lang/String")) (0, 0, 0, 0) E σ Z [.ref (hO E 43), .int 3] (hQr E (fun r u => r = E.2.2.2.1 8 ∧ u = (σ, Z))) := by
  refine hMet.of (by decide) (Nat.le_of_ble_eq_true rfl) (fun p e s m below meth c A ls C M hr hlk hl => ?_)
  have hl : lv_has ls 2 [(0, .ref (hO E 43)), (1, .int 3)] := hl
  generalize s.heap = H at M ⊢
  generalize ([] : List Loc) = locs at M ⊢
  refine lv_iload_n C.1 C.2.1 dX12_markOf_0 rfl (lv_at hl 1 rfl) ?_
  refine lv_if_ne (tgt := 9) C.1 C.2.1 dX12_markOf_1 (by decide) (fun _ => ?_) (fun h9 => absurd h9 (by decide))
  refine lv_iload_n C.1 C.2.1 dX12_markOf_9 rfl (lv_at hl 1 rfl) ?_
  refine lv_iconst (v := 1) C.1 C.2.1 dX12_markOf_10 (by decide) ?_
  refine lv_icmp_ne (tgt := 19) C.1 C.2.1 dX12_markOf_11 (by decide) (fun _ => ?_) (fun h9 => absurd h9 (by decide))
  refine lv_iload_n C.1 C.2.1 dX12_markOf_19 rfl (lv_at hl 1 rfl) ?_
  refine lv_iconst (v := 2) C.1 C.2.1 dX12_markOf_20 (by decide) ?_
  refine lv_icmp_ne (tgt := 29) C.1 C.2.1 dX12_markOf_21 (by decide) (fun _ => ?_) (fun h9 => absurd h9 (by decide))
  refine lv_iload_n C.1 C.2.1 dX12_markOf_29 rfl (lv_at hl 1 rfl) ?_
  refine lv_iconst (v := 3) C.1 C.2.1 dX12_markOf_30 (by decide) ?_
  refine lv_icmp_ne (tgt := 39) C.1 C.2.1 dX12_markOf_31 (by decide) (fun h9 => absurd h9 (by decide)) (fun _ => ?_)
  refine va_ldcS (own := RX12) (tx := "weather") (index := 204) (q := E.2.2.2.1 8) C.1 C.2.1 C.2.2.2.1 (tx_8 C) dX12_markOf_34 ?_
  refine lv_goto (tgt := 41) C.1 C.2.1 dX12_markOf_36 (by decide) ?_
  refine g_rret C M hr hlk ?_ (Nat.le_of_ble_eq_true rfl) (Nat.le_of_ble_eq_true rfl) dX12_markOf_41
  exact ⟨rfl, rfl⟩

set_option maxHeartbeats 4000000 in
set_option maxRecDepth 100000 in
theorem m_mark4 (l : Launch) (E : hEnv) (σ : hMem) (Z : va_W) : hMet l yX12_markOf cX12_markOf 2 (some (.object "java/lang/String")) (0, 0, 0, 0) E σ Z [.ref (hO E 43), .int 4] (hQr E (fun r u => r = E.2.2.2.1 9 ∧ u = (σ, Z))) := by
  refine hMet.of (by decide) (Nat.le_of_ble_eq_true rfl) (fun p e s m below meth c A ls C M hr hlk hl => ?_)
  have hl : lv_has ls 2 [(0, .ref (hO E 43)), (1, .int 4)] := hl
  generalize s.heap = H at M ⊢
  generalize ([] : List Loc) = locs at M ⊢
  refine lv_iload_n C.1 C.2.1 dX12_markOf_0 rfl (lv_at hl 1 rfl) ?_
  refine lv_if_ne (tgt := 9) C.1 C.2.1 dX12_markOf_1 (by decide) (fun _ => ?_) (fun h9 => absurd h9 (by decide))
  refine lv_iload_n C.1 C.2.1 dX12_markOf_9 rfl (lv_at hl 1 rfl) ?_
  refine lv_iconst (v := 1) C.1 C.2.1 dX12_markOf_10 (by decide) ?_
  refine lv_icmp_ne (tgt := 19) C.1 C.2.1 dX12_markOf_11 (by decide) (fun _ => ?_) (fun h9 => absurd h9 (by decide))
  refine lv_iload_n C.1 C.2.1 dX12_markOf_19 rfl (lv_at hl 1 rfl) ?_
  refine lv_iconst (v := 2) C.1 C.2.1 dX12_markOf_20 (by decide) ?_
  refine lv_icmp_ne (tgt := 29) C.1 C.2.1 dX12_markOf_21 (by decide) (fun _ => ?_) (fun h9 => absurd h9 (by decide))
  refine lv_iload_n C.1 C.2.1 dX12_markOf_29 rfl (lv_at hl 1 rfl) ?_
  refine lv_iconst (v := 3) C.1 C.2.1 dX12_markOf_30 (by decide) ?_
  refine lv_icmp_ne (tgt := 39) C.1 C.2.1 dX12_markOf_31 (by decide) (fun _ => ?_) (fun h9 => absurd h9 (by decide))
  refine va_ldcS (own := RX12) (tx := "worth") (index := 206) (q := E.2.2.2.1 9) C.1 C.2.1 C.2.2.2.1 (tx_9 C) dX12_markOf_39 ?_
  refine g_rret C M hr hlk ?_ (Nat.le_of_ble_eq_true rfl) (Nat.le_of_ble_eq_true rfl) dX12_markOf_41
  exact ⟨rfl, rfl⟩

theorem m_markOf (l : Launch) (E : hEnv) (σ : hMem) (Z : va_W) (m : Nat) (hm : m < 5) : hMet l yX12_markOf cX12_markOf 2 (some (.object "java/lang/String")) (0, 0, 0, 0) E σ Z [.ref (hO E 43), .int (nI m)] (hQr E (fun r u => r = E.2.2.2.1 (5 + m) ∧ u = (σ, Z))) := by
  match m, hm with
  | 0, _ => exact m_mark0 l E σ Z
  | 1, _ => exact m_mark1 l E σ Z
  | 2, _ => exact m_mark2 l E σ Z
  | 3, _ => exact m_mark3 l E σ Z
  | 4, _ => exact m_mark4 l E σ Z

set_option maxHeartbeats 4000000 in
set_option maxRecDepth 100000 in
theorem m_clauseOf (l : Launch) (E : hEnv) (σ : hMem) (Z : va_W) (m9 : Nat) (hm : m9 < 5) : hMet l yX12_clauseOf cX12_clauseOf 2 (some (.object "java/lang/String")) (0, 0, 0, 0) E σ Z [.ref (hO E 43), .int (nI (5 + m9))] (hQr E (fun r u => r = E.2.2.2.1 (10 + m9) ∧ u = (σ, Z))) := by
  refine hMet.of (by decide) (Nat.le_of_ble_eq_true rfl) (fun p e s m below meth c A ls C M hr hlk hl => ?_)
  have hl : lv_has ls 2 [(0, .ref (hO E 43)), (1, .int (nI (5 + m9)))] := hl
  generalize s.heap = H at M ⊢
  generalize ([] : List Loc) = locs at M ⊢
  refine lv_iload_n C.1 C.2.1 dX12_clauseOf_0 rfl (lv_at hl 1 rfl) ?_
  by_cases c_1_0 : (nI (5 + m9)) = 5
  · refine lv_tableIn (off := 31) (tgt := 32) C.1 C.2.1 dX12_clauseOf_1 (by rw [c_1_0]; decide) (by rw [c_1_0]; decide) (by rw [c_1_0]; rfl) (by decide) ?_
    refine va_ldcS (own := RX12) (tx := "like") (index := 208) (q := E.2.2.2.1 10) C.1 C.2.1 C.2.2.2.1 (tx_10 C) dX12_clauseOf_32 ?_
    refine g_rret C M hr hlk ?_ (Nat.le_of_ble_eq_true rfl) (Nat.le_of_ble_eq_true rfl) dX12_clauseOf_34
    have h9 : m9 = 0 := (by have := ct_eq (k := 5 + m9) 5 c_1_0; omega); (subst h9; exact ⟨rfl, rfl⟩)
  by_cases c_1_1 : (nI (5 + m9)) = 6
  · refine lv_tableIn (off := 34) (tgt := 35) C.1 C.2.1 dX12_clauseOf_1 (by rw [c_1_1]; decide) (by rw [c_1_1]; decide) (by rw [c_1_1]; rfl) (by decide) ?_
    refine va_ldcS (own := RX12) (tx := "give") (index := 209) (q := E.2.2.2.1 11) C.1 C.2.1 C.2.2.2.1 (tx_11 C) dX12_clauseOf_35 ?_
    refine g_rret C M hr hlk ?_ (Nat.le_of_ble_eq_true rfl) (Nat.le_of_ble_eq_true rfl) dX12_clauseOf_37
    have h9 : m9 = 1 := (by have := ct_eq (k := 5 + m9) 6 c_1_1; omega); (subst h9; exact ⟨rfl, rfl⟩)
  by_cases c_1_2 : (nI (5 + m9)) = 7
  · refine lv_tableIn (off := 37) (tgt := 38) C.1 C.2.1 dX12_clauseOf_1 (by rw [c_1_2]; decide) (by rw [c_1_2]; decide) (by rw [c_1_2]; rfl) (by decide) ?_
    refine va_ldcS (own := RX12) (tx := "else") (index := 211) (q := E.2.2.2.1 12) C.1 C.2.1 C.2.2.2.1 (tx_12 C) dX12_clauseOf_38 ?_
    refine g_rret C M hr hlk ?_ (Nat.le_of_ble_eq_true rfl) (Nat.le_of_ble_eq_true rfl) dX12_clauseOf_40
    have h9 : m9 = 2 := (by have := ct_eq (k := 5 + m9) 7 c_1_2; omega); (subst h9; exact ⟨rfl, rfl⟩)
  by_cases c_1_3 : (nI (5 + m9)) = 8
  · refine lv_tableIn (off := 40) (tgt := 41) C.1 C.2.1 dX12_clauseOf_1 (by rw [c_1_3]; decide) (by rw [c_1_3]; decide) (by rw [c_1_3]; rfl) (by decide) ?_
    refine va_ldcS (own := RX12) (tx := "life") (index := 213) (q := E.2.2.2.1 13) C.1 C.2.1 C.2.2.2.1 (tx_13 C) dX12_clauseOf_41 ?_
    refine g_rret C M hr hlk ?_ (Nat.le_of_ble_eq_true rfl) (Nat.le_of_ble_eq_true rfl) dX12_clauseOf_43
    have h9 : m9 = 3 := (by have := ct_eq (k := 5 + m9) 8 c_1_3; omega); (subst h9; exact ⟨rfl, rfl⟩)
  refine lv_tableOut (tgt := 44) C.1 C.2.1 dX12_clauseOf_1 (tb_out (nI (5 + m9)) (by decide) (by decide) (fun k hk => by rcases (show k = 0 ∨ k = 1 ∨ k = 2 ∨ k = 3 by omega) with rfl | rfl | rfl | rfl <;> assumption)) (by decide) ?_
  refine va_ldcS (own := RX12) (tx := "late") (index := 215) (q := E.2.2.2.1 14) C.1 C.2.1 C.2.2.2.1 (tx_14 C) dX12_clauseOf_44 ?_
  refine g_rret C M hr hlk ?_ (Nat.le_of_ble_eq_true rfl) (Nat.le_of_ble_eq_true rfl) dX12_clauseOf_46
  have h9 : m9 = 4 := (by have := ct_ne (k := 5 + m9) 5 c_1_0; have := ct_ne (k := 5 + m9) 6 c_1_1; have := ct_ne (k := 5 + m9) 7 c_1_2; have := ct_ne (k := 5 + m9) 8 c_1_3; omega); (subst h9; exact ⟨rfl, rfl⟩)

set_option maxHeartbeats 4000000 in
set_option maxRecDepth 100000 in
theorem m_gives (l : Launch) (E : hEnv) (σ : hMem) (Z : va_W) (b a : Nat) (ft : Int32) (L : Nat → Int32) (hab : a ≤ b) (hb : b ≤ 300) : hMet l yX12_gives cX12_gives 1 (some .int) (5, 0, 0, 108) E (pM σ b a ft L) Z [.ref (hO E 43)] (hQi E (fun r u => r = (if gfI (hA σ 43 30 0) a b = 4 then -1 else nI (gfI (hA σ 43 30 0) a b)) ∧ u = (pM σ b a ft L, Z))) := by
  refine hMet.of (by decide) (Nat.le_of_ble_eq_true rfl) (fun p e s m below meth c A ls C M hr hlk hl => ?_)
  have hl : lv_has ls 1 [(0, .ref (hO E 43))] := hl
  generalize s.heap = H at M ⊢
  generalize ([] : List Loc) = locs at M ⊢
  refine lv_aload_n C.1 C.2.1 dX12_gives_0 rfl (lv_at hl 0 rfl) ?_
  refine va_ldcS (own := RX12) (tx := "least") (index := 217) (q := E.2.2.2.1 15) C.1 C.2.1 C.2.2.2.1 (tx_15 C) dX12_gives_1 ?_
  refine g_calli M (g_runV (As := [.ref (E.2.2.2.1 15)]) (rest := []) C M 43 (m_is l E σ Z b a ft L hab hb 15 (by decide)) clX12_is ivX12_is lk12_219 (by decide) rfl rfl ⟨Nat.le_of_ble_eq_true rfl, Nat.le_of_ble_eq_true rfl⟩ hl.1 rfl (Nat.le_of_ble_eq_true rfl) dX12_gives_3 ⟨Nat.le_of_ble_eq_true rfl, Nat.le_of_ble_eq_true rfl⟩) (fun r1 u H locs hR M => ?_)
  refine W.widen (k := 0) (n := 0) (Nat.le_of_ble_eq_true rfl) (Nat.le_of_ble_eq_true rfl) ?_
  obtain ⟨rfl, rfl⟩ := hR
  have M : hM E A s H locs (pM σ b a ft L) Z := M
  refine lv_if_eq (tgt := 13) C.1 C.2.1 dX12_gives_6 (by decide) (fun c_6 => ?_) (fun c_6 => ?_)
  · skip
    have c_6 : ¬ isT (hA σ 43 30 0) a b 15 := bz_0.mp c_6
    refine lv_aload_n C.1 C.2.1 dX12_gives_13 rfl (lv_at hl 0 rfl) ?_
    refine va_ldcS (own := RX12) (tx := "middle") (index := 223) (q := E.2.2.2.1 16) C.1 C.2.1 C.2.2.2.1 (tx_16 C) dX12_gives_14 ?_
    refine g_calli M (g_runV (As := [.ref (E.2.2.2.1 16)]) (rest := []) C M 43 (m_is l E σ Z b a ft L hab hb 16 (by decide)) clX12_is ivX12_is lk12_219 (by decide) rfl rfl ⟨Nat.le_of_ble_eq_true rfl, Nat.le_of_ble_eq_true rfl⟩ hl.1 rfl (Nat.le_of_ble_eq_true rfl) dX12_gives_16 ⟨Nat.le_of_ble_eq_true rfl, Nat.le_of_ble_eq_true rfl⟩) (fun r2 u H locs hR M => ?_)
    refine W.widen (k := 0) (n := 0) (Nat.le_of_ble_eq_true rfl) (Nat.le_of_ble_eq_true rfl) ?_
    obtain ⟨rfl, rfl⟩ := hR
    have M : hM E A s H locs (pM σ b a ft L) Z := M
    refine lv_if_eq (tgt := 26) C.1 C.2.1 dX12_gives_19 (by decide) (fun c_19 => ?_) (fun c_19 => ?_)
    · skip
      have c_19 : ¬ isT (hA σ 43 30 0) a b 16 := bz_0.mp c_19
      refine lv_aload_n C.1 C.2.1 dX12_gives_26 rfl (lv_at hl 0 rfl) ?_
      refine va_ldcS (own := RX12) (tx := "greatest") (index := 225) (q := E.2.2.2.1 17) C.1 C.2.1 C.2.2.2.1 (tx_17 C) dX12_gives_27 ?_
      refine g_calli M (g_runV (As := [.ref (E.2.2.2.1 17)]) (rest := []) C M 43 (m_is l E σ Z b a ft L hab hb 17 (by decide)) clX12_is ivX12_is lk12_219 (by decide) rfl rfl ⟨Nat.le_of_ble_eq_true rfl, Nat.le_of_ble_eq_true rfl⟩ hl.1 rfl (Nat.le_of_ble_eq_true rfl) dX12_gives_29 ⟨Nat.le_of_ble_eq_true rfl, Nat.le_of_ble_eq_true rfl⟩) (fun r3 u H locs hR M => ?_)
      refine W.widen (k := 0) (n := 0) (Nat.le_of_ble_eq_true rfl) (Nat.le_of_ble_eq_true rfl) ?_
      obtain ⟨rfl, rfl⟩ := hR
      have M : hM E A s H locs (pM σ b a ft L) Z := M
      refine lv_if_eq (tgt := 39) C.1 C.2.1 dX12_gives_32 (by decide) (fun c_32 => ?_) (fun c_32 => ?_)
      · skip
        have c_32 : ¬ isT (hA σ 43 30 0) a b 17 := bz_0.mp c_32
        refine lv_aload_n C.1 C.2.1 dX12_gives_39 rfl (lv_at hl 0 rfl) ?_
        refine va_ldcS (own := RX12) (tx := "mean") (index := 227) (q := E.2.2.2.1 18) C.1 C.2.1 C.2.2.2.1 (tx_18 C) dX12_gives_40 ?_
        refine g_calli M (g_runV (As := [.ref (E.2.2.2.1 18)]) (rest := []) C M 43 (m_is l E σ Z b a ft L hab hb 18 (by decide)) clX12_is ivX12_is lk12_219 (by decide) rfl rfl ⟨Nat.le_of_ble_eq_true rfl, Nat.le_of_ble_eq_true rfl⟩ hl.1 rfl (Nat.le_of_ble_eq_true rfl) dX12_gives_42 ⟨Nat.le_of_ble_eq_true rfl, Nat.le_of_ble_eq_true rfl⟩) (fun r4 u H locs hR M => ?_)
        refine W.widen (k := 0) (n := 0) (Nat.le_of_ble_eq_true rfl) (Nat.le_of_ble_eq_true rfl) ?_
        obtain ⟨rfl, rfl⟩ := hR
        have M : hM E A s H locs (pM σ b a ft L) Z := M
        refine lv_if_eq (tgt := 52) C.1 C.2.1 dX12_gives_45 (by decide) (fun c_45 => ?_) (fun c_45 => ?_)
        · skip
          have c_45 : ¬ isT (hA σ 43 30 0) a b 18 := bz_0.mp c_45
          refine lv_iconst (v := (-1)) C.1 C.2.1 dX12_gives_52 (by decide) ?_
          refine g_iret C M hr hlk ?_ (Nat.le_of_ble_eq_true rfl) (Nat.le_of_ble_eq_true rfl) dX12_gives_53
          have h9 : gfI (hA σ 43 30 0) a b = 4 := gf_is (by decide) (fun j hj => by rcases (show j = 0 ∨ j = 1 ∨ j = 2 ∨ j = 3 by omega) with rfl | rfl | rfl | rfl; exact c_6; exact c_19; exact c_32; exact c_45) (Or.inl rfl); exact ⟨by rw [h9]; rfl, rfl⟩
        · skip
          have c_45 : isT (hA σ 43 30 0) a b 18 := bz_ne0.mp c_45
          refine lv_iconst (v := 3) C.1 C.2.1 dX12_gives_48 (by decide) ?_
          refine lv_goto (tgt := 53) C.1 C.2.1 dX12_gives_49 (by decide) ?_
          refine g_iret C M hr hlk ?_ (Nat.le_of_ble_eq_true rfl) (Nat.le_of_ble_eq_true rfl) dX12_gives_53
          have h9 : gfI (hA σ 43 30 0) a b = 3 := gf_is (by decide) (fun j hj => by rcases (show j = 0 ∨ j = 1 ∨ j = 2 by omega) with rfl | rfl | rfl; exact c_6; exact c_19; exact c_32) (Or.inr c_45); exact ⟨by rw [h9]; rfl, rfl⟩
      · skip
        have c_32 : isT (hA σ 43 30 0) a b 17 := bz_ne0.mp c_32
        refine lv_iconst (v := 2) C.1 C.2.1 dX12_gives_35 (by decide) ?_
        refine lv_goto (tgt := 53) C.1 C.2.1 dX12_gives_36 (by decide) ?_
        refine g_iret C M hr hlk ?_ (Nat.le_of_ble_eq_true rfl) (Nat.le_of_ble_eq_true rfl) dX12_gives_53
        have h9 : gfI (hA σ 43 30 0) a b = 2 := gf_is (by decide) (fun j hj => by rcases (show j = 0 ∨ j = 1 by omega) with rfl | rfl; exact c_6; exact c_19) (Or.inr c_32); exact ⟨by rw [h9]; rfl, rfl⟩
    · skip
      have c_19 : isT (hA σ 43 30 0) a b 16 := bz_ne0.mp c_19
      refine lv_iconst (v := 1) C.1 C.2.1 dX12_gives_22 (by decide) ?_
      refine lv_goto (tgt := 53) C.1 C.2.1 dX12_gives_23 (by decide) ?_
      refine g_iret C M hr hlk ?_ (Nat.le_of_ble_eq_true rfl) (Nat.le_of_ble_eq_true rfl) dX12_gives_53
      have h9 : gfI (hA σ 43 30 0) a b = 1 := gf_is (by decide) (fun j hj => by rcases (show j = 0 by omega) with rfl; exact c_6) (Or.inr c_19); exact ⟨by rw [h9]; rfl, rfl⟩
  · skip
    have c_6 : isT (hA σ 43 30 0) a b 15 := bz_ne0.mp c_6
    refine lv_iconst (v := 0) C.1 C.2.1 dX12_gives_9 (by decide) ?_
    refine lv_goto (tgt := 53) C.1 C.2.1 dX12_gives_10 (by decide) ?_
    refine g_iret C M hr hlk ?_ (Nat.le_of_ble_eq_true rfl) (Nat.le_of_ble_eq_true rfl) dX12_gives_53
    have h9 : gfI (hA σ 43 30 0) a b = 0 := gf_is (by decide) (fun j hj => absurd hj (Nat.not_lt_zero j)) (Or.inr c_6); exact ⟨by rw [h9]; rfl, rfl⟩
