set_option maxHeartbeats 4000000 in
set_option maxRecDepth 100000 in
theorem x_clock (l : Launch) (E : hEnv) (σ : hMem) (Z : va_W) (day : Int32) : hMet l yX11_clock cX11_clock 2 (some .boolean) (1, 0, 0, 22) E σ Z [.ref (hO E 0), .int day] (hQi E (fun r u => (((inB day (hI σ 0 9) 5000 = true)) ∧ r = 1 ∧ u = (sI σ 0 9 day, Z)) ∨ (¬ ((inB day (hI σ 0 9) 5000 = true)) ∧ r = 0 ∧ u = (σ, Z)))) := by
  refine hMet.of (by decide) (Nat.le_of_ble_eq_true rfl) (fun p e s m below meth c A ls C M hr hlk hl => ?_)
  have hl : lv_has ls 2 [(0, .ref (hO E 0)), (1, .int day)] := hl
  generalize s.heap = H at M ⊢
  generalize ([] : List Loc) = locs at M ⊢
  refine lv_iload_n C.1 C.2.1 dX11_clock_0 rfl (lv_at hl 1 rfl) ?_
  refine lv_aload_n C.1 C.2.1 dX11_clock_1 rfl (lv_at hl 0 rfl) ?_
  refine g_getI C M 0 9 (by decide) rfl rfl (by decide) fl11_74 (v := hI σ 0 9) rfl dX11_clock_2 ?_
  refine lv_sipush (v := 5000) C.1 C.2.1 dX11_clock_5 (by decide) ?_
  refine g_calli M (g_runS (As := [.int day, .int (hI σ 0 9), .int 5000]) (rest := []) C M (x_within l E σ Z day (hI σ 0 9) 5000) clX11_isWithin stX11_isWithin lk11_78 rfl ⟨Nat.le_of_ble_eq_true rfl, Nat.le_of_ble_eq_true rfl⟩ hl.1 rfl (Nat.le_of_ble_eq_true rfl) dX11_clock_8 ⟨Nat.le_of_ble_eq_true rfl, Nat.le_of_ble_eq_true rfl⟩) (fun r1 u H locs hR M => ?_)
  refine W.widen (k := 0) (n := 0) (Nat.le_of_ble_eq_true rfl) (Nat.le_of_ble_eq_true rfl) ?_
  obtain ⟨rfl, rfl⟩ := hR
  have M : hM E A s H locs σ Z := M
  refine lv_if_ne (tgt := 16) C.1 C.2.1 dX11_clock_11 (by decide) (fun c_11 => ?_) (fun c_11 => ?_)
  · skip
    have c_11 : inB day (hI σ 0 9) 5000 = true := bz_ne0.mp c_11
    refine lv_aload_n C.1 C.2.1 dX11_clock_16 rfl (lv_at hl 0 rfl) ?_
    refine lv_iload_n C.1 C.2.1 dX11_clock_17 rfl (lv_at hl 1 rfl) ?_
    refine g_putI C M 0 9 (by decide) rfl rfl (by decide) fl11_74 rfl rfl dX11_clock_18 (fun H locs M => ?_)
    refine lv_iconst (v := 1) C.1 C.2.1 dX11_clock_21 (by decide) ?_
    refine g_zret rfl C M hr hlk ?_ (Nat.le_of_ble_eq_true rfl) (Nat.le_of_ble_eq_true rfl) dX11_clock_22
    exact Or.inl ⟨c_11, rfl, rfl⟩
  · skip
    have c_11 : ¬ inB day (hI σ 0 9) 5000 = true := bz_0.mp c_11
    refine lv_iconst (v := 0) C.1 C.2.1 dX11_clock_14 (by decide) ?_
    refine g_zret rfl C M hr hlk ?_ (Nat.le_of_ble_eq_true rfl) (Nat.le_of_ble_eq_true rfl) dX11_clock_15
    exact Or.inr ⟨fun h9 => c_11 h9, rfl, rfl⟩

set_option maxHeartbeats 4000000 in
set_option maxRecDepth 100000 in
theorem x_trust (l : Launch) (E : hEnv) (σ : hMem) (Z : va_W) (k v : Int32) : hMet l yX11_trust cX11_trust 3 (some .int) (1, 0, 0, 23) E σ Z [.ref (hO E 0), .int k, .int v] (hQi E (fun r u => (((inB k 0 5 = true) ∧ (inB v 0 9 = true)) ∧ r = hA σ 1 0 0 k.toNatClampNeg ∧ u = (sI (sA σ 1 0 0 (upd (hA σ 1 0 0) k.toNatClampNeg v)) 1 10 (bz ((¬ hI σ 1 10 = 0) ∧ (hA σ 1 0 0 k.toNatClampNeg = v))), Z)) ∨ (¬ ((inB k 0 5 = true) ∧ (inB v 0 9 = true)) ∧ r = -1 ∧ u = (σ, Z)))) := by
  refine hMet.of (by decide) (Nat.le_of_ble_eq_true rfl) (fun p e s m below meth c A ls C M hr hlk hl => ?_)
  have hl : lv_has ls 3 [(0, .ref (hO E 0)), (1, .int k), (2, .int v)] := hl
  generalize s.heap = H at M ⊢
  generalize ([] : List Loc) = locs at M ⊢
  refine lv_iload_n C.1 C.2.1 dX11_trust_0 rfl (lv_at hl 1 rfl) ?_
  refine lv_iconst (v := 0) C.1 C.2.1 dX11_trust_1 (by decide) ?_
  refine lv_iconst (v := 5) C.1 C.2.1 dX11_trust_2 (by decide) ?_
  refine g_calli M (g_runS (As := [.int k, .int 0, .int 5]) (rest := []) C M (x_within l E σ Z k 0 5) clX11_isWithin stX11_isWithin lk11_78 rfl ⟨Nat.le_of_ble_eq_true rfl, Nat.le_of_ble_eq_true rfl⟩ hl.1 rfl (Nat.le_of_ble_eq_true rfl) dX11_trust_3 ⟨Nat.le_of_ble_eq_true rfl, Nat.le_of_ble_eq_true rfl⟩) (fun r1 u H locs hR M => ?_)
  refine W.widen (k := 0) (n := 0) (Nat.le_of_ble_eq_true rfl) (Nat.le_of_ble_eq_true rfl) ?_
  obtain ⟨rfl, rfl⟩ := hR
  have M : hM E A s H locs σ Z := M
  refine lv_if_eq (tgt := 19) C.1 C.2.1 dX11_trust_6 (by decide) (fun c_6 => ?_) (fun c_6 => ?_)
  · skip
    have c_6 : ¬ inB k 0 5 = true := bz_0.mp c_6
    refine lv_iconst (v := (-1)) C.1 C.2.1 dX11_trust_19 (by decide) ?_
    refine g_iret C M hr hlk ?_ (Nat.le_of_ble_eq_true rfl) (Nat.le_of_ble_eq_true rfl) dX11_trust_20
    exact Or.inr ⟨fun h9 => c_6 h9.1, rfl, rfl⟩
  · skip
    have c_6 : inB k 0 5 = true := bz_ne0.mp c_6
    refine lv_iload_n C.1 C.2.1 dX11_trust_9 rfl (lv_at hl 2 rfl) ?_
    refine lv_iconst (v := 0) C.1 C.2.1 dX11_trust_10 (by decide) ?_
    refine lv_bipush (v := 9) C.1 C.2.1 dX11_trust_11 (by decide) ?_
    refine g_calli M (g_runS (As := [.int v, .int 0, .int 9]) (rest := []) C M (x_within l E σ Z v 0 9) clX11_isWithin stX11_isWithin lk11_78 rfl ⟨Nat.le_of_ble_eq_true rfl, Nat.le_of_ble_eq_true rfl⟩ hl.1 rfl (Nat.le_of_ble_eq_true rfl) dX11_trust_13 ⟨Nat.le_of_ble_eq_true rfl, Nat.le_of_ble_eq_true rfl⟩) (fun r2 u H locs hR M => ?_)
    refine W.widen (k := 0) (n := 0) (Nat.le_of_ble_eq_true rfl) (Nat.le_of_ble_eq_true rfl) ?_
    obtain ⟨rfl, rfl⟩ := hR
    have M : hM E A s H locs σ Z := M
    refine lv_if_ne (tgt := 21) C.1 C.2.1 dX11_trust_16 (by decide) (fun c_16 => ?_) (fun c_16 => ?_)
    · skip
      have c_16 : inB v 0 9 = true := bz_ne0.mp c_16
      refine lv_aload_n C.1 C.2.1 dX11_trust_21 rfl (lv_at hl 0 rfl) ?_
      refine g_getO C M 0 0 1 (by decide) rfl rfl (by decide) fl11_10 dX11_trust_22 ?_
      refine lv_iload_n C.1 C.2.1 dX11_trust_25 rfl (lv_at hl 1 rfl) ?_
      refine lv_iload_n C.1 C.2.1 dX11_trust_26 rfl (lv_at hl 2 rfl) ?_
      refine g_calli M (g_runV (As := [.int k, .int v]) (rest := []) C M 1 (x_ttrust l E σ Z k v (vp_in_B c_6 (by decide))) clX8_setTrust ivX8_setTrust lk11_82 (by decide) rfl rfl ⟨Nat.le_of_ble_eq_true rfl, Nat.le_of_ble_eq_true rfl⟩ hl.1 rfl (Nat.le_of_ble_eq_true rfl) dX11_trust_27 ⟨Nat.le_of_ble_eq_true rfl, Nat.le_of_ble_eq_true rfl⟩) (fun r3 u H locs hR M => ?_)
      refine W.widen (k := 0) (n := 0) (Nat.le_of_ble_eq_true rfl) (Nat.le_of_ble_eq_true rfl) ?_
      obtain ⟨rfl, rfl⟩ := hR
      have M : hM E A s H locs (sI (sA σ 1 0 0 (upd (hA σ 1 0 0) k.toNatClampNeg v)) 1 10 (bz ((¬ hI σ 1 10 = 0) ∧ (hA σ 1 0 0 k.toNatClampNeg = v)))) Z := M
      refine g_iret C M hr hlk ?_ (Nat.le_of_ble_eq_true rfl) (Nat.le_of_ble_eq_true rfl) dX11_trust_30
      exact Or.inl ⟨⟨c_6, c_16⟩, rfl, rfl⟩
    · skip
      have c_16 : ¬ inB v 0 9 = true := bz_0.mp c_16
      refine lv_iconst (v := (-1)) C.1 C.2.1 dX11_trust_19 (by decide) ?_
      refine g_iret C M hr hlk ?_ (Nat.le_of_ble_eq_true rfl) (Nat.le_of_ble_eq_true rfl) dX11_trust_20
      exact Or.inr ⟨fun h9 => c_16 h9.2, rfl, rfl⟩

set_option maxHeartbeats 4000000 in
set_option maxRecDepth 100000 in
theorem x_says (l : Launch) (E : hEnv) (σ : hMem) (Z : va_W) (n : Nat) (hn : hI σ 1 6 = nI n) (hn40 : n ≤ 40) (l9 a b low high : Int32) : hMet l yX11_says cX11_says 8 (some .int) (2, 0, 0, 42) E σ Z [.ref (hO E 0), .int l9, .int a, .int b, .int low, .int high] (hQi E (fun r u => (((inB l9 0 5 = true) ∧ (inB a 0 15 = true) ∧ (inB b 0 15 = true) ∧ (¬ a = b) ∧ (¬ high < low) ∧ (¬ low < (-10000)) ∧ (¬ 10000 < high)) ∧ r = (if nI n < 40 then nI n else -1) ∧ u = ((if nI n < 40 then cSay σ n l9 a b low high else σ), Z)) ∨ (¬ ((inB l9 0 5 = true) ∧ (inB a 0 15 = true) ∧ (inB b 0 15 = true) ∧ (¬ a = b) ∧ (¬ high < low) ∧ (¬ low < (-10000)) ∧ (¬ 10000 < high)) ∧ r = -1 ∧ u = (σ, Z)))) := by
  refine hMet.of (by decide) (Nat.le_of_ble_eq_true rfl) (fun p e s m below meth c A ls C M hr hlk hl => ?_)
  have hl : lv_has ls 8 [(0, .ref (hO E 0)), (1, .int l9), (2, .int a), (3, .int b), (4, .int low), (5, .int high)] := hl
  generalize s.heap = H at M ⊢
  generalize ([] : List Loc) = locs at M ⊢
  refine lv_iload_n C.1 C.2.1 dX11_says_0 rfl (lv_at hl 1 rfl) ?_
  refine lv_iconst (v := 0) C.1 C.2.1 dX11_says_1 (by decide) ?_
  refine lv_iconst (v := 5) C.1 C.2.1 dX11_says_2 (by decide) ?_
  refine g_calli M (g_runS (As := [.int l9, .int 0, .int 5]) (rest := []) C M (x_within l E σ Z l9 0 5) clX11_isWithin stX11_isWithin lk11_78 rfl ⟨Nat.le_of_ble_eq_true rfl, Nat.le_of_ble_eq_true rfl⟩ hl.1 rfl (Nat.le_of_ble_eq_true rfl) dX11_says_3 ⟨Nat.le_of_ble_eq_true rfl, Nat.le_of_ble_eq_true rfl⟩) (fun r1 u H locs hR M => ?_)
  refine W.widen (k := 0) (n := 0) (Nat.le_of_ble_eq_true rfl) (Nat.le_of_ble_eq_true rfl) ?_
  obtain ⟨rfl, rfl⟩ := hR
  have M : hM E A s H locs σ Z := M
  refine lv_if_eq (tgt := 32) C.1 C.2.1 dX11_says_6 (by decide) (fun c_6 => ?_) (fun c_6 => ?_)
  · skip
    have c_6 : ¬ inB l9 0 5 = true := bz_0.mp c_6
    refine lv_iconst (v := 0) C.1 C.2.1 dX11_says_32 (by decide) ?_
    refine lv_istore (lv' := [(6, .int 0), (0, .ref (hO E 0)), (1, .int l9), (2, .int a), (3, .int b), (4, .int low), (5, .int high)]) C.1 C.2.1 dX11_says_33 hl (by decide) rfl (fun ls hl => ?_)
    refine lv_iload C.1 C.2.1 dX11_says_35 (lv_at hl 5 rfl) ?_
    refine lv_iload C.1 C.2.1 dX11_says_37 (lv_at hl 6 rfl) ?_
    refine lv_icmp_gt (tgt := 62) C.1 C.2.1 dX11_says_39 (by decide) (fun c_39 => ?_) (fun c_39 => ?_)
    · skip
      refine lv_iconst (v := 0) C.1 C.2.1 dX11_says_62 (by decide) ?_
      refine lv_istore (lv' := [(7, .int 0), (6, .int 0), (0, .ref (hO E 0)), (1, .int l9), (2, .int a), (3, .int b), (4, .int low), (5, .int high)]) C.1 C.2.1 dX11_says_63 hl (by decide) rfl (fun ls hl => ?_)
      refine lv_iload C.1 C.2.1 dX11_says_65 (lv_at hl 1 rfl) ?_
      refine lv_if_eq (tgt := 75) C.1 C.2.1 dX11_says_67 (by decide) (fun _ => ?_) (fun h9 => absurd h9 (by decide))
      refine lv_iconst (v := (-1)) C.1 C.2.1 dX11_says_75 (by decide) ?_
      refine g_iret C M hr hlk ?_ (Nat.le_of_ble_eq_true rfl) (Nat.le_of_ble_eq_true rfl) dX11_says_76
      exact Or.inr ⟨fun h9 => c_6 h9.1, rfl, rfl⟩
    · skip
      refine lv_iload C.1 C.2.1 dX11_says_42 (lv_at hl 5 rfl) ?_
      refine lv_sipush (v := (-10000)) C.1 C.2.1 dX11_says_44 (by decide) ?_
      refine lv_icmp_lt (tgt := 62) C.1 C.2.1 dX11_says_47 (by decide) (fun c_47 => ?_) (fun c_47 => ?_)
      · skip
        refine lv_iconst (v := 0) C.1 C.2.1 dX11_says_62 (by decide) ?_
        refine lv_istore (lv' := [(7, .int 0), (6, .int 0), (0, .ref (hO E 0)), (1, .int l9), (2, .int a), (3, .int b), (4, .int low), (5, .int high)]) C.1 C.2.1 dX11_says_63 hl (by decide) rfl (fun ls hl => ?_)
        refine lv_iload C.1 C.2.1 dX11_says_65 (lv_at hl 1 rfl) ?_
        refine lv_if_eq (tgt := 75) C.1 C.2.1 dX11_says_67 (by decide) (fun _ => ?_) (fun h9 => absurd h9 (by decide))
        refine lv_iconst (v := (-1)) C.1 C.2.1 dX11_says_75 (by decide) ?_
        refine g_iret C M hr hlk ?_ (Nat.le_of_ble_eq_true rfl) (Nat.le_of_ble_eq_true rfl) dX11_says_76
        exact Or.inr ⟨fun h9 => c_6 h9.1, rfl, rfl⟩
      · skip
        refine lv_iload C.1 C.2.1 dX11_says_50 (lv_at hl 6 rfl) ?_
        refine lv_sipush (v := 10000) C.1 C.2.1 dX11_says_52 (by decide) ?_
        refine lv_icmp_gt (tgt := 62) C.1 C.2.1 dX11_says_55 (by decide) (fun c_55 => ?_) (fun c_55 => ?_)
        · skip
          refine lv_iconst (v := 0) C.1 C.2.1 dX11_says_62 (by decide) ?_
          refine lv_istore (lv' := [(7, .int 0), (6, .int 0), (0, .ref (hO E 0)), (1, .int l9), (2, .int a), (3, .int b), (4, .int low), (5, .int high)]) C.1 C.2.1 dX11_says_63 hl (by decide) rfl (fun ls hl => ?_)
          refine lv_iload C.1 C.2.1 dX11_says_65 (lv_at hl 1 rfl) ?_
          refine lv_if_eq (tgt := 75) C.1 C.2.1 dX11_says_67 (by decide) (fun _ => ?_) (fun h9 => absurd h9 (by decide))
          refine lv_iconst (v := (-1)) C.1 C.2.1 dX11_says_75 (by decide) ?_
          refine g_iret C M hr hlk ?_ (Nat.le_of_ble_eq_true rfl) (Nat.le_of_ble_eq_true rfl) dX11_says_76
          exact Or.inr ⟨fun h9 => c_6 h9.1, rfl, rfl⟩
        · skip
          refine lv_iconst (v := 1) C.1 C.2.1 dX11_says_58 (by decide) ?_
          refine lv_goto (tgt := 63) C.1 C.2.1 dX11_says_59 (by decide) ?_
          refine lv_istore (lv' := [(7, .int 1), (6, .int 0), (0, .ref (hO E 0)), (1, .int l9), (2, .int a), (3, .int b), (4, .int low), (5, .int high)]) C.1 C.2.1 dX11_says_63 hl (by decide) rfl (fun ls hl => ?_)
          refine lv_iload C.1 C.2.1 dX11_says_65 (lv_at hl 1 rfl) ?_
          refine lv_if_eq (tgt := 75) C.1 C.2.1 dX11_says_67 (by decide) (fun _ => ?_) (fun h9 => absurd h9 (by decide))
          refine lv_iconst (v := (-1)) C.1 C.2.1 dX11_says_75 (by decide) ?_
          refine g_iret C M hr hlk ?_ (Nat.le_of_ble_eq_true rfl) (Nat.le_of_ble_eq_true rfl) dX11_says_76
          exact Or.inr ⟨fun h9 => c_6 h9.1, rfl, rfl⟩
  · skip
    have c_6 : inB l9 0 5 = true := bz_ne0.mp c_6
    refine lv_iload_n C.1 C.2.1 dX11_says_9 rfl (lv_at hl 2 rfl) ?_
    refine g_calli M (g_runS (As := [.int a]) (rest := []) C M (x_isThing l E σ Z a) clX11_isThing stX11_isThing lk11_86 rfl ⟨Nat.le_of_ble_eq_true rfl, Nat.le_of_ble_eq_true rfl⟩ hl.1 rfl (Nat.le_of_ble_eq_true rfl) dX11_says_10 ⟨Nat.le_of_ble_eq_true rfl, Nat.le_of_ble_eq_true rfl⟩) (fun r2 u H locs hR M => ?_)
    refine W.widen (k := 0) (n := 0) (Nat.le_of_ble_eq_true rfl) (Nat.le_of_ble_eq_true rfl) ?_
    obtain ⟨rfl, rfl⟩ := hR
    have M : hM E A s H locs σ Z := M
    refine lv_if_eq (tgt := 32) C.1 C.2.1 dX11_says_13 (by decide) (fun c_13 => ?_) (fun c_13 => ?_)
    · skip
      have c_13 : ¬ inB a 0 15 = true := bz_0.mp c_13
      refine lv_iconst (v := 0) C.1 C.2.1 dX11_says_32 (by decide) ?_
      refine lv_istore (lv' := [(6, .int 0), (0, .ref (hO E 0)), (1, .int l9), (2, .int a), (3, .int b), (4, .int low), (5, .int high)]) C.1 C.2.1 dX11_says_33 hl (by decide) rfl (fun ls hl => ?_)
      refine lv_iload C.1 C.2.1 dX11_says_35 (lv_at hl 5 rfl) ?_
      refine lv_iload C.1 C.2.1 dX11_says_37 (lv_at hl 6 rfl) ?_
      refine lv_icmp_gt (tgt := 62) C.1 C.2.1 dX11_says_39 (by decide) (fun c_39 => ?_) (fun c_39 => ?_)
      · skip
        refine lv_iconst (v := 0) C.1 C.2.1 dX11_says_62 (by decide) ?_
        refine lv_istore (lv' := [(7, .int 0), (6, .int 0), (0, .ref (hO E 0)), (1, .int l9), (2, .int a), (3, .int b), (4, .int low), (5, .int high)]) C.1 C.2.1 dX11_says_63 hl (by decide) rfl (fun ls hl => ?_)
        refine lv_iload C.1 C.2.1 dX11_says_65 (lv_at hl 1 rfl) ?_
        refine lv_if_eq (tgt := 75) C.1 C.2.1 dX11_says_67 (by decide) (fun _ => ?_) (fun h9 => absurd h9 (by decide))
        refine lv_iconst (v := (-1)) C.1 C.2.1 dX11_says_75 (by decide) ?_
        refine g_iret C M hr hlk ?_ (Nat.le_of_ble_eq_true rfl) (Nat.le_of_ble_eq_true rfl) dX11_says_76
        exact Or.inr ⟨fun h9 => c_13 h9.2.1, rfl, rfl⟩
      · skip
        refine lv_iload C.1 C.2.1 dX11_says_42 (lv_at hl 5 rfl) ?_
        refine lv_sipush (v := (-10000)) C.1 C.2.1 dX11_says_44 (by decide) ?_
        refine lv_icmp_lt (tgt := 62) C.1 C.2.1 dX11_says_47 (by decide) (fun c_47 => ?_) (fun c_47 => ?_)
        · skip
          refine lv_iconst (v := 0) C.1 C.2.1 dX11_says_62 (by decide) ?_
          refine lv_istore (lv' := [(7, .int 0), (6, .int 0), (0, .ref (hO E 0)), (1, .int l9), (2, .int a), (3, .int b), (4, .int low), (5, .int high)]) C.1 C.2.1 dX11_says_63 hl (by decide) rfl (fun ls hl => ?_)
          refine lv_iload C.1 C.2.1 dX11_says_65 (lv_at hl 1 rfl) ?_
          refine lv_if_eq (tgt := 75) C.1 C.2.1 dX11_says_67 (by decide) (fun _ => ?_) (fun h9 => absurd h9 (by decide))
          refine lv_iconst (v := (-1)) C.1 C.2.1 dX11_says_75 (by decide) ?_
          refine g_iret C M hr hlk ?_ (Nat.le_of_ble_eq_true rfl) (Nat.le_of_ble_eq_true rfl) dX11_says_76
          exact Or.inr ⟨fun h9 => c_13 h9.2.1, rfl, rfl⟩
        · skip
          refine lv_iload C.1 C.2.1 dX11_says_50 (lv_at hl 6 rfl) ?_
          refine lv_sipush (v := 10000) C.1 C.2.1 dX11_says_52 (by decide) ?_
          refine lv_icmp_gt (tgt := 62) C.1 C.2.1 dX11_says_55 (by decide) (fun c_55 => ?_) (fun c_55 => ?_)
          · skip
            refine lv_iconst (v := 0) C.1 C.2.1 dX11_says_62 (by decide) ?_
            refine lv_istore (lv' := [(7, .int 0), (6, .int 0), (0, .ref (hO E 0)), (1, .int l9), (2, .int a), (3, .int b), (4, .int low), (5, .int high)]) C.1 C.2.1 dX11_says_63 hl (by decide) rfl (fun ls hl => ?_)
            refine lv_iload C.1 C.2.1 dX11_says_65 (lv_at hl 1 rfl) ?_
            refine lv_if_eq (tgt := 75) C.1 C.2.1 dX11_says_67 (by decide) (fun _ => ?_) (fun h9 => absurd h9 (by decide))
            refine lv_iconst (v := (-1)) C.1 C.2.1 dX11_says_75 (by decide) ?_
            refine g_iret C M hr hlk ?_ (Nat.le_of_ble_eq_true rfl) (Nat.le_of_ble_eq_true rfl) dX11_says_76
            exact Or.inr ⟨fun h9 => c_13 h9.2.1, rfl, rfl⟩
          · skip
            refine lv_iconst (v := 1) C.1 C.2.1 dX11_says_58 (by decide) ?_
            refine lv_goto (tgt := 63) C.1 C.2.1 dX11_says_59 (by decide) ?_
            refine lv_istore (lv' := [(7, .int 1), (6, .int 0), (0, .ref (hO E 0)), (1, .int l9), (2, .int a), (3, .int b), (4, .int low), (5, .int high)]) C.1 C.2.1 dX11_says_63 hl (by decide) rfl (fun ls hl => ?_)
            refine lv_iload C.1 C.2.1 dX11_says_65 (lv_at hl 1 rfl) ?_
            refine lv_if_eq (tgt := 75) C.1 C.2.1 dX11_says_67 (by decide) (fun _ => ?_) (fun h9 => absurd h9 (by decide))
            refine lv_iconst (v := (-1)) C.1 C.2.1 dX11_says_75 (by decide) ?_
            refine g_iret C M hr hlk ?_ (Nat.le_of_ble_eq_true rfl) (Nat.le_of_ble_eq_true rfl) dX11_says_76
            exact Or.inr ⟨fun h9 => c_13 h9.2.1, rfl, rfl⟩
    · skip
      have c_13 : inB a 0 15 = true := bz_ne0.mp c_13
      refine lv_iload_n C.1 C.2.1 dX11_says_16 rfl (lv_at hl 3 rfl) ?_
      refine g_calli M (g_runS (As := [.int b]) (rest := []) C M (x_isThing l E σ Z b) clX11_isThing stX11_isThing lk11_86 rfl ⟨Nat.le_of_ble_eq_true rfl, Nat.le_of_ble_eq_true rfl⟩ hl.1 rfl (Nat.le_of_ble_eq_true rfl) dX11_says_17 ⟨Nat.le_of_ble_eq_true rfl, Nat.le_of_ble_eq_true rfl⟩) (fun r3 u H locs hR M => ?_)
      refine W.widen (k := 0) (n := 0) (Nat.le_of_ble_eq_true rfl) (Nat.le_of_ble_eq_true rfl) ?_
      obtain ⟨rfl, rfl⟩ := hR
      have M : hM E A s H locs σ Z := M
      refine lv_if_eq (tgt := 32) C.1 C.2.1 dX11_says_20 (by decide) (fun c_20 => ?_) (fun c_20 => ?_)
      · skip
        have c_20 : ¬ inB b 0 15 = true := bz_0.mp c_20
        refine lv_iconst (v := 0) C.1 C.2.1 dX11_says_32 (by decide) ?_
        refine lv_istore (lv' := [(6, .int 0), (0, .ref (hO E 0)), (1, .int l9), (2, .int a), (3, .int b), (4, .int low), (5, .int high)]) C.1 C.2.1 dX11_says_33 hl (by decide) rfl (fun ls hl => ?_)
        refine lv_iload C.1 C.2.1 dX11_says_35 (lv_at hl 5 rfl) ?_
        refine lv_iload C.1 C.2.1 dX11_says_37 (lv_at hl 6 rfl) ?_
        refine lv_icmp_gt (tgt := 62) C.1 C.2.1 dX11_says_39 (by decide) (fun c_39 => ?_) (fun c_39 => ?_)
        · skip
          refine lv_iconst (v := 0) C.1 C.2.1 dX11_says_62 (by decide) ?_
          refine lv_istore (lv' := [(7, .int 0), (6, .int 0), (0, .ref (hO E 0)), (1, .int l9), (2, .int a), (3, .int b), (4, .int low), (5, .int high)]) C.1 C.2.1 dX11_says_63 hl (by decide) rfl (fun ls hl => ?_)
          refine lv_iload C.1 C.2.1 dX11_says_65 (lv_at hl 1 rfl) ?_
          refine lv_if_eq (tgt := 75) C.1 C.2.1 dX11_says_67 (by decide) (fun _ => ?_) (fun h9 => absurd h9 (by decide))
          refine lv_iconst (v := (-1)) C.1 C.2.1 dX11_says_75 (by decide) ?_
          refine g_iret C M hr hlk ?_ (Nat.le_of_ble_eq_true rfl) (Nat.le_of_ble_eq_true rfl) dX11_says_76
          exact Or.inr ⟨fun h9 => c_20 h9.2.2.1, rfl, rfl⟩
        · skip
          refine lv_iload C.1 C.2.1 dX11_says_42 (lv_at hl 5 rfl) ?_
          refine lv_sipush (v := (-10000)) C.1 C.2.1 dX11_says_44 (by decide) ?_
          refine lv_icmp_lt (tgt := 62) C.1 C.2.1 dX11_says_47 (by decide) (fun c_47 => ?_) (fun c_47 => ?_)
          · skip
            refine lv_iconst (v := 0) C.1 C.2.1 dX11_says_62 (by decide) ?_
            refine lv_istore (lv' := [(7, .int 0), (6, .int 0), (0, .ref (hO E 0)), (1, .int l9), (2, .int a), (3, .int b), (4, .int low), (5, .int high)]) C.1 C.2.1 dX11_says_63 hl (by decide) rfl (fun ls hl => ?_)
            refine lv_iload C.1 C.2.1 dX11_says_65 (lv_at hl 1 rfl) ?_
            refine lv_if_eq (tgt := 75) C.1 C.2.1 dX11_says_67 (by decide) (fun _ => ?_) (fun h9 => absurd h9 (by decide))
            refine lv_iconst (v := (-1)) C.1 C.2.1 dX11_says_75 (by decide) ?_
            refine g_iret C M hr hlk ?_ (Nat.le_of_ble_eq_true rfl) (Nat.le_of_ble_eq_true rfl) dX11_says_76
            exact Or.inr ⟨fun h9 => c_20 h9.2.2.1, rfl, rfl⟩
          · skip
            refine lv_iload C.1 C.2.1 dX11_says_50 (lv_at hl 6 rfl) ?_
            refine lv_sipush (v := 10000) C.1 C.2.1 dX11_says_52 (by decide) ?_
            refine lv_icmp_gt (tgt := 62) C.1 C.2.1 dX11_says_55 (by decide) (fun c_55 => ?_) (fun c_55 => ?_)
            · skip
              refine lv_iconst (v := 0) C.1 C.2.1 dX11_says_62 (by decide) ?_
              refine lv_istore (lv' := [(7, .int 0), (6, .int 0), (0, .ref (hO E 0)), (1, .int l9), (2, .int a), (3, .int b), (4, .int low), (5, .int high)]) C.1 C.2.1 dX11_says_63 hl (by decide) rfl (fun ls hl => ?_)
              refine lv_iload C.1 C.2.1 dX11_says_65 (lv_at hl 1 rfl) ?_
              refine lv_if_eq (tgt := 75) C.1 C.2.1 dX11_says_67 (by decide) (fun _ => ?_) (fun h9 => absurd h9 (by decide))
              refine lv_iconst (v := (-1)) C.1 C.2.1 dX11_says_75 (by decide) ?_
              refine g_iret C M hr hlk ?_ (Nat.le_of_ble_eq_true rfl) (Nat.le_of_ble_eq_true rfl) dX11_says_76
              exact Or.inr ⟨fun h9 => c_20 h9.2.2.1, rfl, rfl⟩
            · skip
              refine lv_iconst (v := 1) C.1 C.2.1 dX11_says_58 (by decide) ?_
              refine lv_goto (tgt := 63) C.1 C.2.1 dX11_says_59 (by decide) ?_
              refine lv_istore (lv' := [(7, .int 1), (6, .int 0), (0, .ref (hO E 0)), (1, .int l9), (2, .int a), (3, .int b), (4, .int low), (5, .int high)]) C.1 C.2.1 dX11_says_63 hl (by decide) rfl (fun ls hl => ?_)
              refine lv_iload C.1 C.2.1 dX11_says_65 (lv_at hl 1 rfl) ?_
              refine lv_if_eq (tgt := 75) C.1 C.2.1 dX11_says_67 (by decide) (fun _ => ?_) (fun h9 => absurd h9 (by decide))
              refine lv_iconst (v := (-1)) C.1 C.2.1 dX11_says_75 (by decide) ?_
              refine g_iret C M hr hlk ?_ (Nat.le_of_ble_eq_true rfl) (Nat.le_of_ble_eq_true rfl) dX11_says_76
              exact Or.inr ⟨fun h9 => c_20 h9.2.2.1, rfl, rfl⟩
      · skip
        have c_20 : inB b 0 15 = true := bz_ne0.mp c_20
        refine lv_iload_n C.1 C.2.1 dX11_says_23 rfl (lv_at hl 2 rfl) ?_
        refine lv_iload_n C.1 C.2.1 dX11_says_24 rfl (lv_at hl 3 rfl) ?_
        refine lv_icmp_eq (tgt := 32) C.1 C.2.1 dX11_says_25 (by decide) (fun c_25 => ?_) (fun c_25 => ?_)
        · skip
          refine lv_iconst (v := 0) C.1 C.2.1 dX11_says_32 (by decide) ?_
          refine lv_istore (lv' := [(6, .int 0), (0, .ref (hO E 0)), (1, .int l9), (2, .int a), (3, .int b), (4, .int low), (5, .int high)]) C.1 C.2.1 dX11_says_33 hl (by decide) rfl (fun ls hl => ?_)
          refine lv_iload C.1 C.2.1 dX11_says_35 (lv_at hl 5 rfl) ?_
          refine lv_iload C.1 C.2.1 dX11_says_37 (lv_at hl 6 rfl) ?_
          refine lv_icmp_gt (tgt := 62) C.1 C.2.1 dX11_says_39 (by decide) (fun c_39 => ?_) (fun c_39 => ?_)
          · skip
            refine lv_iconst (v := 0) C.1 C.2.1 dX11_says_62 (by decide) ?_
            refine lv_istore (lv' := [(7, .int 0), (6, .int 0), (0, .ref (hO E 0)), (1, .int l9), (2, .int a), (3, .int b), (4, .int low), (5, .int high)]) C.1 C.2.1 dX11_says_63 hl (by decide) rfl (fun ls hl => ?_)
            refine lv_iload C.1 C.2.1 dX11_says_65 (lv_at hl 1 rfl) ?_
            refine lv_if_eq (tgt := 75) C.1 C.2.1 dX11_says_67 (by decide) (fun _ => ?_) (fun h9 => absurd h9 (by decide))
            refine lv_iconst (v := (-1)) C.1 C.2.1 dX11_says_75 (by decide) ?_
            refine g_iret C M hr hlk ?_ (Nat.le_of_ble_eq_true rfl) (Nat.le_of_ble_eq_true rfl) dX11_says_76
            exact Or.inr ⟨fun h9 => h9.2.2.2.1 c_25, rfl, rfl⟩
          · skip
            refine lv_iload C.1 C.2.1 dX11_says_42 (lv_at hl 5 rfl) ?_
            refine lv_sipush (v := (-10000)) C.1 C.2.1 dX11_says_44 (by decide) ?_
            refine lv_icmp_lt (tgt := 62) C.1 C.2.1 dX11_says_47 (by decide) (fun c_47 => ?_) (fun c_47 => ?_)
            · skip
              refine lv_iconst (v := 0) C.1 C.2.1 dX11_says_62 (by decide) ?_
              refine lv_istore (lv' := [(7, .int 0), (6, .int 0), (0, .ref (hO E 0)), (1, .int l9), (2, .int a), (3, .int b), (4, .int low), (5, .int high)]) C.1 C.2.1 dX11_says_63 hl (by decide) rfl (fun ls hl => ?_)
              refine lv_iload C.1 C.2.1 dX11_says_65 (lv_at hl 1 rfl) ?_
              refine lv_if_eq (tgt := 75) C.1 C.2.1 dX11_says_67 (by decide) (fun _ => ?_) (fun h9 => absurd h9 (by decide))
              refine lv_iconst (v := (-1)) C.1 C.2.1 dX11_says_75 (by decide) ?_
              refine g_iret C M hr hlk ?_ (Nat.le_of_ble_eq_true rfl) (Nat.le_of_ble_eq_true rfl) dX11_says_76
              exact Or.inr ⟨fun h9 => h9.2.2.2.1 c_25, rfl, rfl⟩
            · skip
              refine lv_iload C.1 C.2.1 dX11_says_50 (lv_at hl 6 rfl) ?_
              refine lv_sipush (v := 10000) C.1 C.2.1 dX11_says_52 (by decide) ?_
              refine lv_icmp_gt (tgt := 62) C.1 C.2.1 dX11_says_55 (by decide) (fun c_55 => ?_) (fun c_55 => ?_)
              · skip
                refine lv_iconst (v := 0) C.1 C.2.1 dX11_says_62 (by decide) ?_
                refine lv_istore (lv' := [(7, .int 0), (6, .int 0), (0, .ref (hO E 0)), (1, .int l9), (2, .int a), (3, .int b), (4, .int low), (5, .int high)]) C.1 C.2.1 dX11_says_63 hl (by decide) rfl (fun ls hl => ?_)
                refine lv_iload C.1 C.2.1 dX11_says_65 (lv_at hl 1 rfl) ?_
                refine lv_if_eq (tgt := 75) C.1 C.2.1 dX11_says_67 (by decide) (fun _ => ?_) (fun h9 => absurd h9 (by decide))
                refine lv_iconst (v := (-1)) C.1 C.2.1 dX11_says_75 (by decide) ?_
                refine g_iret C M hr hlk ?_ (Nat.le_of_ble_eq_true rfl) (Nat.le_of_ble_eq_true rfl) dX11_says_76
                exact Or.inr ⟨fun h9 => h9.2.2.2.1 c_25, rfl, rfl⟩
              · skip
                refine lv_iconst (v := 1) C.1 C.2.1 dX11_says_58 (by decide) ?_
                refine lv_goto (tgt := 63) C.1 C.2.1 dX11_says_59 (by decide) ?_
                refine lv_istore (lv' := [(7, .int 1), (6, .int 0), (0, .ref (hO E 0)), (1, .int l9), (2, .int a), (3, .int b), (4, .int low), (5, .int high)]) C.1 C.2.1 dX11_says_63 hl (by decide) rfl (fun ls hl => ?_)
                refine lv_iload C.1 C.2.1 dX11_says_65 (lv_at hl 1 rfl) ?_
                refine lv_if_eq (tgt := 75) C.1 C.2.1 dX11_says_67 (by decide) (fun _ => ?_) (fun h9 => absurd h9 (by decide))
                refine lv_iconst (v := (-1)) C.1 C.2.1 dX11_says_75 (by decide) ?_
                refine g_iret C M hr hlk ?_ (Nat.le_of_ble_eq_true rfl) (Nat.le_of_ble_eq_true rfl) dX11_says_76
                exact Or.inr ⟨fun h9 => h9.2.2.2.1 c_25, rfl, rfl⟩
        · skip
          refine lv_iconst (v := 1) C.1 C.2.1 dX11_says_28 (by decide) ?_
          refine lv_goto (tgt := 33) C.1 C.2.1 dX11_says_29 (by decide) ?_
          refine lv_istore (lv' := [(6, .int 1), (0, .ref (hO E 0)), (1, .int l9), (2, .int a), (3, .int b), (4, .int low), (5, .int high)]) C.1 C.2.1 dX11_says_33 hl (by decide) rfl (fun ls hl => ?_)
          refine lv_iload C.1 C.2.1 dX11_says_35 (lv_at hl 5 rfl) ?_
          refine lv_iload C.1 C.2.1 dX11_says_37 (lv_at hl 6 rfl) ?_
          refine lv_icmp_gt (tgt := 62) C.1 C.2.1 dX11_says_39 (by decide) (fun c_39 => ?_) (fun c_39 => ?_)
          · skip
            refine lv_iconst (v := 0) C.1 C.2.1 dX11_says_62 (by decide) ?_
            refine lv_istore (lv' := [(7, .int 0), (6, .int 1), (0, .ref (hO E 0)), (1, .int l9), (2, .int a), (3, .int b), (4, .int low), (5, .int high)]) C.1 C.2.1 dX11_says_63 hl (by decide) rfl (fun ls hl => ?_)
            refine lv_iload C.1 C.2.1 dX11_says_65 (lv_at hl 1 rfl) ?_
            refine lv_if_eq (tgt := 75) C.1 C.2.1 dX11_says_67 (by decide) (fun h9 => absurd h9 (by decide)) (fun _ => ?_)
            refine lv_iload C.1 C.2.1 dX11_says_70 (lv_at hl 0 rfl) ?_
            refine lv_if_ne (tgt := 77) C.1 C.2.1 dX11_says_72 (by decide) (fun h9 => absurd h9 (by decide)) (fun _ => ?_)
            refine lv_iconst (v := (-1)) C.1 C.2.1 dX11_says_75 (by decide) ?_
            refine g_iret C M hr hlk ?_ (Nat.le_of_ble_eq_true rfl) (Nat.le_of_ble_eq_true rfl) dX11_says_76
            exact Or.inr ⟨fun h9 => h9.2.2.2.2.1 c_39, rfl, rfl⟩
          · skip
            refine lv_iload C.1 C.2.1 dX11_says_42 (lv_at hl 5 rfl) ?_
            refine lv_sipush (v := (-10000)) C.1 C.2.1 dX11_says_44 (by decide) ?_
            refine lv_icmp_lt (tgt := 62) C.1 C.2.1 dX11_says_47 (by decide) (fun c_47 => ?_) (fun c_47 => ?_)
            · skip
              refine lv_iconst (v := 0) C.1 C.2.1 dX11_says_62 (by decide) ?_
              refine lv_istore (lv' := [(7, .int 0), (6, .int 1), (0, .ref (hO E 0)), (1, .int l9), (2, .int a), (3, .int b), (4, .int low), (5, .int high)]) C.1 C.2.1 dX11_says_63 hl (by decide) rfl (fun ls hl => ?_)
              refine lv_iload C.1 C.2.1 dX11_says_65 (lv_at hl 1 rfl) ?_
              refine lv_if_eq (tgt := 75) C.1 C.2.1 dX11_says_67 (by decide) (fun h9 => absurd h9 (by decide)) (fun _ => ?_)
              refine lv_iload C.1 C.2.1 dX11_says_70 (lv_at hl 0 rfl) ?_
              refine lv_if_ne (tgt := 77) C.1 C.2.1 dX11_says_72 (by decide) (fun h9 => absurd h9 (by decide)) (fun _ => ?_)
              refine lv_iconst (v := (-1)) C.1 C.2.1 dX11_says_75 (by decide) ?_
              refine g_iret C M hr hlk ?_ (Nat.le_of_ble_eq_true rfl) (Nat.le_of_ble_eq_true rfl) dX11_says_76
              exact Or.inr ⟨fun h9 => h9.2.2.2.2.2.1 c_47, rfl, rfl⟩
            · skip
              refine lv_iload C.1 C.2.1 dX11_says_50 (lv_at hl 6 rfl) ?_
              refine lv_sipush (v := 10000) C.1 C.2.1 dX11_says_52 (by decide) ?_
              refine lv_icmp_gt (tgt := 62) C.1 C.2.1 dX11_says_55 (by decide) (fun c_55 => ?_) (fun c_55 => ?_)
              · skip
                refine lv_iconst (v := 0) C.1 C.2.1 dX11_says_62 (by decide) ?_
                refine lv_istore (lv' := [(7, .int 0), (6, .int 1), (0, .ref (hO E 0)), (1, .int l9), (2, .int a), (3, .int b), (4, .int low), (5, .int high)]) C.1 C.2.1 dX11_says_63 hl (by decide) rfl (fun ls hl => ?_)
                refine lv_iload C.1 C.2.1 dX11_says_65 (lv_at hl 1 rfl) ?_
                refine lv_if_eq (tgt := 75) C.1 C.2.1 dX11_says_67 (by decide) (fun h9 => absurd h9 (by decide)) (fun _ => ?_)
                refine lv_iload C.1 C.2.1 dX11_says_70 (lv_at hl 0 rfl) ?_
                refine lv_if_ne (tgt := 77) C.1 C.2.1 dX11_says_72 (by decide) (fun h9 => absurd h9 (by decide)) (fun _ => ?_)
                refine lv_iconst (v := (-1)) C.1 C.2.1 dX11_says_75 (by decide) ?_
                refine g_iret C M hr hlk ?_ (Nat.le_of_ble_eq_true rfl) (Nat.le_of_ble_eq_true rfl) dX11_says_76
                exact Or.inr ⟨fun h9 => h9.2.2.2.2.2.2 c_55, rfl, rfl⟩
              · skip
                refine lv_iconst (v := 1) C.1 C.2.1 dX11_says_58 (by decide) ?_
                refine lv_goto (tgt := 63) C.1 C.2.1 dX11_says_59 (by decide) ?_
                refine lv_istore (lv' := [(7, .int 1), (6, .int 1), (0, .ref (hO E 0)), (1, .int l9), (2, .int a), (3, .int b), (4, .int low), (5, .int high)]) C.1 C.2.1 dX11_says_63 hl (by decide) rfl (fun ls hl => ?_)
                refine lv_iload C.1 C.2.1 dX11_says_65 (lv_at hl 1 rfl) ?_
                refine lv_if_eq (tgt := 75) C.1 C.2.1 dX11_says_67 (by decide) (fun h9 => absurd h9 (by decide)) (fun _ => ?_)
                refine lv_iload C.1 C.2.1 dX11_says_70 (lv_at hl 0 rfl) ?_
                refine lv_if_ne (tgt := 77) C.1 C.2.1 dX11_says_72 (by decide) (fun _ => ?_) (fun h9 => absurd h9 (by decide))
                refine lv_aload_n C.1 C.2.1 dX11_says_77 rfl (lv_at hl 2 rfl) ?_
                refine g_getO C M 0 0 1 (by decide) rfl rfl (by decide) fl11_10 dX11_says_78 ?_
                refine lv_iload_n C.1 C.2.1 dX11_says_81 rfl (lv_at hl 3 rfl) ?_
                refine lv_iload_n C.1 C.2.1 dX11_says_82 rfl (lv_at hl 4 rfl) ?_
                refine lv_iload_n C.1 C.2.1 dX11_says_83 rfl (lv_at hl 5 rfl) ?_
                refine lv_iload C.1 C.2.1 dX11_says_84 (lv_at hl 6 rfl) ?_
                refine lv_iload C.1 C.2.1 dX11_says_86 (lv_at hl 7 rfl) ?_
                refine g_calli M (g_runV (As := [.int l9, .int a, .int b, .int low, .int high]) (rest := []) C M 1 (x_tadd l E σ Z n hn hn40 l9 a b low high) clX8_add ivX8_add lk11_90 (by decide) rfl rfl ⟨Nat.le_of_ble_eq_true rfl, Nat.le_of_ble_eq_true rfl⟩ hl.1 rfl (Nat.le_of_ble_eq_true rfl) dX11_says_88 ⟨Nat.le_of_ble_eq_true rfl, Nat.le_of_ble_eq_true rfl⟩) (fun r4 u H locs hR M => ?_)
                refine W.widen (k := 0) (n := 0) (Nat.le_of_ble_eq_true rfl) (Nat.le_of_ble_eq_true rfl) ?_
                obtain ⟨rfl, rfl⟩ := hR
                have M : hM E A s H locs (if nI n < 40 then cSay σ n l9 a b low high else σ) Z := M
                refine g_iret C M hr hlk ?_ (Nat.le_of_ble_eq_true rfl) (Nat.le_of_ble_eq_true rfl) dX11_says_91
                exact Or.inl ⟨⟨c_6, c_13, c_20, c_25, c_39, c_47, c_55⟩, rfl, rfl⟩

set_option maxHeartbeats 4000000 in
set_option maxRecDepth 100000 in
theorem x_believed (l : Launch) (E : hEnv) (σ : hMem) (Z : va_W) (n : Nat) (hn : hI σ 1 6 = nI n) (hn40 : n ≤ 40) (hW : csW σ n) (hlg : ∀ k, k < n → vp_in (hA σ 1 1 0 k) 6) (htr : ∀ k, k < n → 0 ≤ (cTr σ k).toInt ∧ (cTr σ k).toInt ≤ 9) (hg01 : ∀ k, hA σ 1 8 0 k = 0 ∨ hA σ 1 8 0 k = 1) (hcach : cach σ n) (x : Int32) : hMet l yX11_believed cX11_believed 2 (some .int) (5, 0, 0, 116) E σ Z [.ref (hO E 0), .int x] (hQi E (fun r u => (((inB x 0 (nI n - 1) = true)) ∧ ∃ τ, u = (τ, Z) ∧ Stl σ n τ ∧ r = bz (¬ hA τ 1 8 0 x.toNatClampNeg = 0)) ∨ (¬ ((inB x 0 (nI n - 1) = true)) ∧ r = -1 ∧ u = (σ, Z)))) := by
  refine hMet.of (by decide) (Nat.le_of_ble_eq_true rfl) (fun p e s m below meth c A ls C M hr hlk hl => ?_)
  have hl : lv_has ls 2 [(0, .ref (hO E 0)), (1, .int x)] := hl
  generalize s.heap = H at M ⊢
  generalize ([] : List Loc) = locs at M ⊢
  refine lv_aload_n C.1 C.2.1 dX11_believed_0 rfl (lv_at hl 0 rfl) ?_
  refine g_getO C M 0 0 1 (by decide) rfl rfl (by decide) fl11_10 dX11_believed_1 ?_
  refine lv_iload_n C.1 C.2.1 dX11_believed_4 rfl (lv_at hl 1 rfl) ?_
  refine g_calli M (g_runV (As := [.int x]) (rest := []) C M 1 (x_thas l E σ Z n hn x) clX8_has ivX8_has lk11_94 (by decide) rfl rfl ⟨Nat.le_of_ble_eq_true rfl, Nat.le_of_ble_eq_true rfl⟩ hl.1 rfl (Nat.le_of_ble_eq_true rfl) dX11_believed_5 ⟨Nat.le_of_ble_eq_true rfl, Nat.le_of_ble_eq_true rfl⟩) (fun r1 u H locs hR M => ?_)
  refine W.widen (k := 0) (n := 0) (Nat.le_of_ble_eq_true rfl) (Nat.le_of_ble_eq_true rfl) ?_
  obtain ⟨rfl, rfl⟩ := hR
  have M : hM E A s H locs σ Z := M
  refine lv_if_ne (tgt := 13) C.1 C.2.1 dX11_believed_8 (by decide) (fun c_8 => ?_) (fun c_8 => ?_)
  · skip
    have c_8 : inB x 0 (nI n - 1) = true := bz_ne0.mp c_8
    refine lv_aload_n C.1 C.2.1 dX11_believed_13 rfl (lv_at hl 0 rfl) ?_
    refine g_getO C M 0 0 1 (by decide) rfl rfl (by decide) fl11_10 dX11_believed_14 ?_
    refine lv_iload_n C.1 C.2.1 dX11_believed_17 rfl (lv_at hl 1 rfl) ?_
    refine g_calli M (g_runV (As := [.int x]) (rest := []) C M 1 (x_tbelieves l E σ Z n hn hn40 hW hlg htr hg01 hcach x (vp_in_pre c_8 hn40 (by decide))) clX8_believes ivX8_believes lk11_97 (by decide) rfl rfl ⟨Nat.le_of_ble_eq_true rfl, Nat.le_of_ble_eq_true rfl⟩ hl.1 rfl (Nat.le_of_ble_eq_true rfl) dX11_believed_18 ⟨Nat.le_of_ble_eq_true rfl, Nat.le_of_ble_eq_true rfl⟩) (fun r2 u H locs hR M => ?_)
    refine W.widen (k := 0) (n := 0) (Nat.le_of_ble_eq_true rfl) (Nat.le_of_ble_eq_true rfl) ?_
    obtain ⟨τ, hu, hSt, hr9⟩ := hR
    subst hu
    subst hr9
    have M : hM E A s H locs τ Z := M
    refine lv_if_eq (tgt := 28) C.1 C.2.1 dX11_believed_21 (by decide) (fun c_21 => ?_) (fun c_21 => ?_)
    · skip
      refine lv_iconst (v := 0) C.1 C.2.1 dX11_believed_28 (by decide) ?_
      refine g_iret C M hr hlk ?_ (Nat.le_of_ble_eq_true rfl) (Nat.le_of_ble_eq_true rfl) dX11_believed_29
      exact Or.inl ⟨c_8, τ, rfl, hSt, (bz_f (fun h9 => h9 c_21)).symm⟩
    · skip
      refine lv_iconst (v := 1) C.1 C.2.1 dX11_believed_24 (by decide) ?_
      refine lv_goto (tgt := 29) C.1 C.2.1 dX11_believed_25 (by decide) ?_
      refine g_iret C M hr hlk ?_ (Nat.le_of_ble_eq_true rfl) (Nat.le_of_ble_eq_true rfl) dX11_believed_29
      exact Or.inl ⟨c_8, τ, rfl, hSt, (bz_t c_21).symm⟩
  · skip
    have c_8 : ¬ inB x 0 (nI n - 1) = true := bz_0.mp c_8
    refine lv_iconst (v := (-1)) C.1 C.2.1 dX11_believed_11 (by decide) ?_
    refine g_iret C M hr hlk ?_ (Nat.le_of_ble_eq_true rfl) (Nat.le_of_ble_eq_true rfl) dX11_believed_12
    exact Or.inr ⟨fun h9 => c_8 h9, rfl, rfl⟩

def spG (f : Nat → Int32) (a b : Nat) : Int32 := if f (a * 16 + b) = 2147483647 then -2147483648 else f (a * 16 + b)

set_option maxHeartbeats 4000000 in
set_option maxRecDepth 100000 in
theorem x_spans (l : Launch) (E : hEnv) (σ : hMem) (Z : va_W) (n : Nat) (hn : hI σ 1 6 = nI n) (hn40 : n ≤ 40) (hW : csW σ n) (hlg : ∀ k, k < n → vp_in (hA σ 1 1 0 k) 6) (htr : ∀ k, k < n → 0 ≤ (cTr σ k).toInt ∧ (cTr σ k).toInt ≤ 9) (hg01 : ∀ k, hA σ 1 8 0 k = 0 ∨ hA σ 1 8 0 k = 1) (hcach : cach σ n) (xa xb x : Int32) : hMet l yX11_spans cX11_spans 4 (some .int) (5, 0, 0, 117) E σ Z [.ref (hO E 0), .int xa, .int xb, .int x] (hQi E (fun r u => (((inB xa 0 15 = true) ∧ (inB xb 0 15 = true) ∧ (inB x 0 1 = true)) ∧ ∃ τ, u = (τ, Z) ∧ Stl σ n τ ∧ r = if x = 0 then spC (hA τ 2 0 0) xb.toNatClampNeg xa.toNatClampNeg else spG (hA τ 2 0 0) xa.toNatClampNeg xb.toNatClampNeg) ∨ (¬ ((inB xa 0 15 = true) ∧ (inB xb 0 15 = true) ∧ (inB x 0 1 = true)) ∧ r = -2147483648 ∧ u = (σ, Z)))) := by
  refine hMet.of (by decide) (Nat.le_of_ble_eq_true rfl) (fun p e s m below meth c A ls C M hr hlk hl => ?_)
  have hl : lv_has ls 4 [(0, .ref (hO E 0)), (1, .int xa), (2, .int xb), (3, .int x)] := hl
  generalize s.heap = H at M ⊢
  generalize ([] : List Loc) = locs at M ⊢
  refine lv_iload_n C.1 C.2.1 dX11_spans_0 rfl (lv_at hl 1 rfl) ?_
  refine g_calli M (g_runS (As := [.int xa]) (rest := []) C M (x_isThing l E σ Z xa) clX11_isThing stX11_isThing lk11_86 rfl ⟨Nat.le_of_ble_eq_true rfl, Nat.le_of_ble_eq_true rfl⟩ hl.1 rfl (Nat.le_of_ble_eq_true rfl) dX11_spans_1 ⟨Nat.le_of_ble_eq_true rfl, Nat.le_of_ble_eq_true rfl⟩) (fun r1 u H locs hR M => ?_)
  refine W.widen (k := 0) (n := 0) (Nat.le_of_ble_eq_true rfl) (Nat.le_of_ble_eq_true rfl) ?_
  obtain ⟨rfl, rfl⟩ := hR
  have M : hM E A s H locs σ Z := M
  refine lv_if_eq (tgt := 23) C.1 C.2.1 dX11_spans_4 (by decide) (fun c_4 => ?_) (fun c_4 => ?_)
  · skip
    have c_4 : ¬ inB xa 0 15 = true := bz_0.mp c_4
    refine lv_ldc (v := (-2147483648)) C.1 C.2.1 C.2.2.2.1 (C.2.2.2.2.1.1.use kc11_100 rfl) dX11_spans_23 ?_
    refine g_iret C M hr hlk ?_ (Nat.le_of_ble_eq_true rfl) (Nat.le_of_ble_eq_true rfl) dX11_spans_25
    exact Or.inr ⟨fun h9 => c_4 h9.1, rfl, rfl⟩
  · skip
    have c_4 : inB xa 0 15 = true := bz_ne0.mp c_4
    obtain ⟨a9, _, ha9, rfl⟩ := nI_in1 (lo := 0) (hi := 15) c_4 rfl (by decide) (by decide)
    refine lv_iload_n C.1 C.2.1 dX11_spans_7 rfl (lv_at hl 2 rfl) ?_
    refine g_calli M (g_runS (As := [.int xb]) (rest := []) C M (x_isThing l E σ Z xb) clX11_isThing stX11_isThing lk11_86 rfl ⟨Nat.le_of_ble_eq_true rfl, Nat.le_of_ble_eq_true rfl⟩ hl.1 rfl (Nat.le_of_ble_eq_true rfl) dX11_spans_8 ⟨Nat.le_of_ble_eq_true rfl, Nat.le_of_ble_eq_true rfl⟩) (fun r2 u H locs hR M => ?_)
    refine W.widen (k := 0) (n := 0) (Nat.le_of_ble_eq_true rfl) (Nat.le_of_ble_eq_true rfl) ?_
    obtain ⟨rfl, rfl⟩ := hR
    have M : hM E A s H locs σ Z := M
    refine lv_if_eq (tgt := 23) C.1 C.2.1 dX11_spans_11 (by decide) (fun c_11 => ?_) (fun c_11 => ?_)
    · skip
      have c_11 : ¬ inB xb 0 15 = true := bz_0.mp c_11
      refine lv_ldc (v := (-2147483648)) C.1 C.2.1 C.2.2.2.1 (C.2.2.2.2.1.1.use kc11_100 rfl) dX11_spans_23 ?_
      refine g_iret C M hr hlk ?_ (Nat.le_of_ble_eq_true rfl) (Nat.le_of_ble_eq_true rfl) dX11_spans_25
      exact Or.inr ⟨fun h9 => c_11 h9.2.1, rfl, rfl⟩
    · skip
      have c_11 : inB xb 0 15 = true := bz_ne0.mp c_11
      obtain ⟨b9, _, hb9, rfl⟩ := nI_in1 (lo := 0) (hi := 15) c_11 rfl (by decide) (by decide)
      refine lv_iload_n C.1 C.2.1 dX11_spans_14 rfl (lv_at hl 3 rfl) ?_
      refine lv_iconst (v := 0) C.1 C.2.1 dX11_spans_15 (by decide) ?_
      refine lv_iconst (v := 1) C.1 C.2.1 dX11_spans_16 (by decide) ?_
      refine g_calli M (g_runS (As := [.int x, .int 0, .int 1]) (rest := []) C M (x_within l E σ Z x 0 1) clX11_isWithin stX11_isWithin lk11_78 rfl ⟨Nat.le_of_ble_eq_true rfl, Nat.le_of_ble_eq_true rfl⟩ hl.1 rfl (Nat.le_of_ble_eq_true rfl) dX11_spans_17 ⟨Nat.le_of_ble_eq_true rfl, Nat.le_of_ble_eq_true rfl⟩) (fun r3 u H locs hR M => ?_)
      refine W.widen (k := 0) (n := 0) (Nat.le_of_ble_eq_true rfl) (Nat.le_of_ble_eq_true rfl) ?_
      obtain ⟨rfl, rfl⟩ := hR
      have M : hM E A s H locs σ Z := M
      refine lv_if_ne (tgt := 26) C.1 C.2.1 dX11_spans_20 (by decide) (fun c_20 => ?_) (fun c_20 => ?_)
      · skip
        have c_20 : inB x 0 1 = true := bz_ne0.mp c_20
        refine lv_iload_n C.1 C.2.1 dX11_spans_26 rfl (lv_at hl 3 rfl) ?_
        refine lv_if_ne (tgt := 42) C.1 C.2.1 dX11_spans_27 (by decide) (fun c_27 => ?_) (fun c_27 => ?_)
        · skip
          refine lv_aload_n C.1 C.2.1 dX11_spans_42 rfl (lv_at hl 0 rfl) ?_
          refine g_getO C M 0 0 1 (by decide) rfl rfl (by decide) fl11_10 dX11_spans_43 ?_
          refine lv_iload_n C.1 C.2.1 dX11_spans_46 rfl (lv_at hl 1 rfl) ?_
          refine lv_iload_n C.1 C.2.1 dX11_spans_47 rfl (lv_at hl 2 rfl) ?_
          refine g_calli M (g_runV (As := [.int (nI a9), .int (nI b9)]) (rest := []) C M 1 (x_tgreat l E σ Z n hn hn40 hW hlg htr hg01 hcach a9 b9 (by omega) (by omega)) clX8_greatestSpan ivX8_greatestSpan lk11_104 (by decide) rfl rfl ⟨Nat.le_of_ble_eq_true rfl, Nat.le_of_ble_eq_true rfl⟩ hl.1 rfl (Nat.le_of_ble_eq_true rfl) dX11_spans_48 ⟨Nat.le_of_ble_eq_true rfl, Nat.le_of_ble_eq_true rfl⟩) (fun r4 u H locs hR M => ?_)
          refine W.widen (k := 0) (n := 0) (Nat.le_of_ble_eq_true rfl) (Nat.le_of_ble_eq_true rfl) ?_
          obtain ⟨τ, hu, hSt, hr9⟩ := hR
          subst hu
          replace hr9 : r4 = spG (hA τ 2 0 0) a9 b9 := hr9
          subst hr9
          have M : hM E A s H locs τ Z := M
          refine g_iret C M hr hlk ?_ (Nat.le_of_ble_eq_true rfl) (Nat.le_of_ble_eq_true rfl) dX11_spans_51
          exact Or.inl ⟨⟨c_4, c_11, c_20⟩, τ, rfl, hSt, (by rw [if_neg c_27, nI_clamp (by omega), nI_clamp (by omega)])⟩
        · skip
          refine lv_aload_n C.1 C.2.1 dX11_spans_30 rfl (lv_at hl 0 rfl) ?_
          refine g_getO C M 0 0 1 (by decide) rfl rfl (by decide) fl11_10 dX11_spans_31 ?_
          refine lv_iload_n C.1 C.2.1 dX11_spans_34 rfl (lv_at hl 1 rfl) ?_
          refine lv_iload_n C.1 C.2.1 dX11_spans_35 rfl (lv_at hl 2 rfl) ?_
          refine g_calli M (g_runV (As := [.int (nI a9), .int (nI b9)]) (rest := []) C M 1 (x_tleast l E σ Z n hn hn40 hW hlg htr hg01 hcach a9 b9 (by omega) (by omega)) clX8_leastSpan ivX8_leastSpan lk11_101 (by decide) rfl rfl ⟨Nat.le_of_ble_eq_true rfl, Nat.le_of_ble_eq_true rfl⟩ hl.1 rfl (Nat.le_of_ble_eq_true rfl) dX11_spans_36 ⟨Nat.le_of_ble_eq_true rfl, Nat.le_of_ble_eq_true rfl⟩) (fun r5 u H locs hR M => ?_)
          refine W.widen (k := 0) (n := 0) (Nat.le_of_ble_eq_true rfl) (Nat.le_of_ble_eq_true rfl) ?_
          obtain ⟨τ, hu, hSt, hr9⟩ := hR
          subst hu
          replace hr9 : r5 = spC (hA τ 2 0 0) b9 a9 := hr9
          subst hr9
          have M : hM E A s H locs τ Z := M
          refine lv_goto (tgt := 51) C.1 C.2.1 dX11_spans_39 (by decide) ?_
          refine g_iret C M hr hlk ?_ (Nat.le_of_ble_eq_true rfl) (Nat.le_of_ble_eq_true rfl) dX11_spans_51
          exact Or.inl ⟨⟨c_4, c_11, c_20⟩, τ, rfl, hSt, (by rw [if_pos c_27, nI_clamp (by omega), nI_clamp (by omega)])⟩
      · skip
        have c_20 : ¬ inB x 0 1 = true := bz_0.mp c_20
        refine lv_ldc (v := (-2147483648)) C.1 C.2.1 C.2.2.2.1 (C.2.2.2.2.1.1.use kc11_100 rfl) dX11_spans_23 ?_
        refine g_iret C M hr hlk ?_ (Nat.le_of_ble_eq_true rfl) (Nat.le_of_ble_eq_true rfl) dX11_spans_25
        exact Or.inr ⟨fun h9 => c_20 h9.2.2, rfl, rfl⟩

set_option maxHeartbeats 4000000 in
set_option maxRecDepth 100000 in
theorem x_quarrel (l : Launch) (E : hEnv) (σ : hMem) (Z : va_W) (n : Nat) (hn : hI σ 1 6 = nI n) (hn40 : n ≤ 40) (hW : csW σ n) (hs01 : ∀ k, hA σ 1 12 0 k = 0 ∨ hA σ 1 12 0 k = 1) (hqc : qcach σ n) : hMet l yX11_quarrel cX11_quarrel 1 (some .int) (6, 0, 0, 137) E σ Z [.ref (hO E 0)] (hQi E (fun r u => ∃ τ, u = (τ, Z) ∧ Qtl σ n τ ∧ r = hI τ 1 13)) := by
  refine hMet.of (by decide) (Nat.le_of_ble_eq_true rfl) (fun p e s m below meth c A ls C M hr hlk hl => ?_)
  have hl : lv_has ls 1 [(0, .ref (hO E 0))] := hl
  generalize s.heap = H at M ⊢
  generalize ([] : List Loc) = locs at M ⊢
  refine lv_aload_n C.1 C.2.1 dX11_quarrel_0 rfl (lv_at hl 0 rfl) ?_
  refine g_getO C M 0 0 1 (by decide) rfl rfl (by decide) fl11_10 dX11_quarrel_1 ?_
  refine g_calli M (g_runV (As := []) (rest := []) C M 1 (x_tqsize l E σ Z n hn hn40 hW hs01 hqc) clX8_quarrelSize ivX8_quarrelSize lk11_107 (by decide) rfl rfl ⟨Nat.le_of_ble_eq_true rfl, Nat.le_of_ble_eq_true rfl⟩ hl.1 rfl (Nat.le_of_ble_eq_true rfl) dX11_quarrel_4 ⟨Nat.le_of_ble_eq_true rfl, Nat.le_of_ble_eq_true rfl⟩) (fun r1 u H locs hR M => ?_)
  refine W.widen (k := 0) (n := 0) (Nat.le_of_ble_eq_true rfl) (Nat.le_of_ble_eq_true rfl) ?_
  obtain ⟨τ, hu, hSt, hr9⟩ := hR
  subst hu
  subst hr9
  have M : hM E A s H locs τ Z := M
  refine g_iret C M hr hlk ?_ (Nat.le_of_ble_eq_true rfl) (Nat.le_of_ble_eq_true rfl) dX11_quarrel_7
  exact ⟨τ, rfl, hSt, rfl⟩

set_option maxHeartbeats 4000000 in
set_option maxRecDepth 100000 in
theorem x_quarrels (l : Launch) (E : hEnv) (σ : hMem) (Z : va_W) (n : Nat) (hn : hI σ 1 6 = nI n) (hn40 : n ≤ 40) (hW : csW σ n) (hs01 : ∀ k, hA σ 1 12 0 k = 0 ∨ hA σ 1 12 0 k = 1) (hqc : qcach σ n) (x : Int32) : hMet l yX11_quarrels cX11_quarrels 2 (some .int) (6, 0, 0, 140) E σ Z [.ref (hO E 0), .int x] (hQi E (fun r u => ∃ τ, u = (τ, Z) ∧ Qtl σ n τ ∧ Qth (hA τ 1 12 0) n x r)) := by
  refine hMet.of (by decide) (Nat.le_of_ble_eq_true rfl) (fun p e s m below meth c A ls C M hr hlk hl => ?_)
  have hl : lv_has ls 2 [(0, .ref (hO E 0)), (1, .int x)] := hl
  generalize s.heap = H at M ⊢
  generalize ([] : List Loc) = locs at M ⊢
  refine lv_aload_n C.1 C.2.1 dX11_quarrels_0 rfl (lv_at hl 0 rfl) ?_
  refine g_getO C M 0 0 1 (by decide) rfl rfl (by decide) fl11_10 dX11_quarrels_1 ?_
  refine lv_iload_n C.1 C.2.1 dX11_quarrels_4 rfl (lv_at hl 1 rfl) ?_
  refine g_calli M (g_runV (As := [.int x]) (rest := []) C M 1 (x_tqth l E σ Z n hn hn40 hW hs01 hqc x) clX8_quarrelling ivX8_quarrelling lk11_111 (by decide) rfl rfl ⟨Nat.le_of_ble_eq_true rfl, Nat.le_of_ble_eq_true rfl⟩ hl.1 rfl (Nat.le_of_ble_eq_true rfl) dX11_quarrels_5 ⟨Nat.le_of_ble_eq_true rfl, Nat.le_of_ble_eq_true rfl⟩) (fun r1 u H locs hR M => ?_)
  refine W.widen (k := 0) (n := 0) (Nat.le_of_ble_eq_true rfl) (Nat.le_of_ble_eq_true rfl) ?_
  obtain ⟨τ, hu, hSt, hr9⟩ := hR
  subst hu
  have M : hM E A s H locs τ Z := M
  refine g_iret C M hr hlk ?_ (Nat.le_of_ble_eq_true rfl) (Nat.le_of_ble_eq_true rfl) dX11_quarrels_8
  exact ⟨τ, rfl, hSt, hr9⟩

set_option maxHeartbeats 4000000 in
set_option maxRecDepth 100000 in
theorem x_value (l : Launch) (E : hEnv) (σ : hMem) (Z : va_W) (n : Nat) (hn : hI σ 4 3 = nI n) (hn60 : n ≤ 60) (g c9 r9 day : Int32) : hMet l yX11_value cX11_value 6 (some .int) (2, 0, 0, 47) E σ Z [.ref (hO E 0), .int g, .int c9, .int r9, .int day] (hQi E (fun r u => (((inB c9 0 1000000 = true) ∧ (inB r9 0 1000000 = true) ∧ (inB g 0 9 = true) ∧ (inB day 0 5000 = true)) ∧ r = (if nI n < 60 then nI (n + 1) else -1) ∧ u = ((if nI n < 60 then cGad σ n g (if 0 < c9 - r9 then c9 - r9 else 0) day (hI σ 0 9) else σ), Z)) ∨ (¬ ((inB c9 0 1000000 = true) ∧ (inB r9 0 1000000 = true) ∧ (inB g 0 9 = true) ∧ (inB day 0 5000 = true)) ∧ r = -1 ∧ u = (σ, Z)))) := by
  refine hMet.of (by decide) (Nat.le_of_ble_eq_true rfl) (fun p e s m below meth c A ls C M hr hlk hl => ?_)
  have hl : lv_has ls 6 [(0, .ref (hO E 0)), (1, .int g), (2, .int c9), (3, .int r9), (4, .int day)] := hl
  generalize s.heap = H at M ⊢
  generalize ([] : List Loc) = locs at M ⊢
  refine lv_iload_n C.1 C.2.1 dX11_value_0 rfl (lv_at hl 2 rfl) ?_
  refine lv_iconst (v := 0) C.1 C.2.1 dX11_value_1 (by decide) ?_
  refine lv_ldc (v := 1000000) C.1 C.2.1 C.2.2.2.1 (C.2.2.2.2.1.1.use kc11_115 rfl) dX11_value_2 ?_
  refine g_calli M (g_runS (As := [.int c9, .int 0, .int 1000000]) (rest := []) C M (x_within l E σ Z c9 0 1000000) clX11_isWithin stX11_isWithin lk11_78 rfl ⟨Nat.le_of_ble_eq_true rfl, Nat.le_of_ble_eq_true rfl⟩ hl.1 rfl (Nat.le_of_ble_eq_true rfl) dX11_value_4 ⟨Nat.le_of_ble_eq_true rfl, Nat.le_of_ble_eq_true rfl⟩) (fun r1 u H locs hR M => ?_)
  refine W.widen (k := 0) (n := 0) (Nat.le_of_ble_eq_true rfl) (Nat.le_of_ble_eq_true rfl) ?_
  obtain ⟨rfl, rfl⟩ := hR
  have M : hM E A s H locs σ Z := M
  refine lv_if_eq (tgt := 24) C.1 C.2.1 dX11_value_7 (by decide) (fun c_7 => ?_) (fun c_7 => ?_)
  · skip
    have c_7 : ¬ inB c9 0 1000000 = true := bz_0.mp c_7
    refine lv_iconst (v := 0) C.1 C.2.1 dX11_value_24 (by decide) ?_
    refine lv_istore (lv' := [(5, .int 0), (0, .ref (hO E 0)), (1, .int g), (2, .int c9), (3, .int r9), (4, .int day)]) C.1 C.2.1 dX11_value_25 hl (by decide) rfl (fun ls hl => ?_)
    refine lv_iload_n C.1 C.2.1 dX11_value_27 rfl (lv_at hl 2 rfl) ?_
    refine g_calli M (g_runS (As := [.int g]) (rest := []) C M (x_isGood l E σ Z g) clX11_isGood stX11_isGood lk11_116 rfl ⟨Nat.le_of_ble_eq_true rfl, Nat.le_of_ble_eq_true rfl⟩ hl.1 rfl (Nat.le_of_ble_eq_true rfl) dX11_value_28 ⟨Nat.le_of_ble_eq_true rfl, Nat.le_of_ble_eq_true rfl⟩) (fun r2 u H locs hR M => ?_)
    refine W.widen (k := 0) (n := 0) (Nat.le_of_ble_eq_true rfl) (Nat.le_of_ble_eq_true rfl) ?_
    obtain ⟨rfl, rfl⟩ := hR
    have M : hM E A s H locs σ Z := M
    refine lv_if_eq (tgt := 47) C.1 C.2.1 dX11_value_31 (by decide) (fun c_31 => ?_) (fun c_31 => ?_)
    · skip
      have c_31 : ¬ inB g 0 9 = true := bz_0.mp c_31
      refine lv_iconst (v := (-1)) C.1 C.2.1 dX11_value_47 (by decide) ?_
      refine g_iret C M hr hlk ?_ (Nat.le_of_ble_eq_true rfl) (Nat.le_of_ble_eq_true rfl) dX11_value_48
      exact Or.inr ⟨fun h9 => c_7 h9.1, rfl, rfl⟩
    · skip
      have c_31 : inB g 0 9 = true := bz_ne0.mp c_31
      refine lv_iload C.1 C.2.1 dX11_value_34 (lv_at hl 0 rfl) ?_
      refine lv_if_eq (tgt := 47) C.1 C.2.1 dX11_value_36 (by decide) (fun _ => ?_) (fun h9 => absurd h9 (by decide))
      refine lv_iconst (v := (-1)) C.1 C.2.1 dX11_value_47 (by decide) ?_
      refine g_iret C M hr hlk ?_ (Nat.le_of_ble_eq_true rfl) (Nat.le_of_ble_eq_true rfl) dX11_value_48
      exact Or.inr ⟨fun h9 => c_7 h9.1, rfl, rfl⟩
  · skip
    have c_7 : inB c9 0 1000000 = true := bz_ne0.mp c_7
    refine lv_iload_n C.1 C.2.1 dX11_value_10 rfl (lv_at hl 3 rfl) ?_
    refine lv_iconst (v := 0) C.1 C.2.1 dX11_value_11 (by decide) ?_
    refine lv_ldc (v := 1000000) C.1 C.2.1 C.2.2.2.1 (C.2.2.2.2.1.1.use kc11_115 rfl) dX11_value_12 ?_
    refine g_calli M (g_runS (As := [.int r9, .int 0, .int 1000000]) (rest := []) C M (x_within l E σ Z r9 0 1000000) clX11_isWithin stX11_isWithin lk11_78 rfl ⟨Nat.le_of_ble_eq_true rfl, Nat.le_of_ble_eq_true rfl⟩ hl.1 rfl (Nat.le_of_ble_eq_true rfl) dX11_value_14 ⟨Nat.le_of_ble_eq_true rfl, Nat.le_of_ble_eq_true rfl⟩) (fun r3 u H locs hR M => ?_)
    refine W.widen (k := 0) (n := 0) (Nat.le_of_ble_eq_true rfl) (Nat.le_of_ble_eq_true rfl) ?_
    obtain ⟨rfl, rfl⟩ := hR
    have M : hM E A s H locs σ Z := M
    refine lv_if_eq (tgt := 24) C.1 C.2.1 dX11_value_17 (by decide) (fun c_17 => ?_) (fun c_17 => ?_)
    · skip
      have c_17 : ¬ inB r9 0 1000000 = true := bz_0.mp c_17
      refine lv_iconst (v := 0) C.1 C.2.1 dX11_value_24 (by decide) ?_
      refine lv_istore (lv' := [(5, .int 0), (0, .ref (hO E 0)), (1, .int g), (2, .int c9), (3, .int r9), (4, .int day)]) C.1 C.2.1 dX11_value_25 hl (by decide) rfl (fun ls hl => ?_)
      refine lv_iload_n C.1 C.2.1 dX11_value_27 rfl (lv_at hl 2 rfl) ?_
      refine g_calli M (g_runS (As := [.int g]) (rest := []) C M (x_isGood l E σ Z g) clX11_isGood stX11_isGood lk11_116 rfl ⟨Nat.le_of_ble_eq_true rfl, Nat.le_of_ble_eq_true rfl⟩ hl.1 rfl (Nat.le_of_ble_eq_true rfl) dX11_value_28 ⟨Nat.le_of_ble_eq_true rfl, Nat.le_of_ble_eq_true rfl⟩) (fun r4 u H locs hR M => ?_)
      refine W.widen (k := 0) (n := 0) (Nat.le_of_ble_eq_true rfl) (Nat.le_of_ble_eq_true rfl) ?_
      obtain ⟨rfl, rfl⟩ := hR
      have M : hM E A s H locs σ Z := M
      refine lv_if_eq (tgt := 47) C.1 C.2.1 dX11_value_31 (by decide) (fun c_31 => ?_) (fun c_31 => ?_)
      · skip
        have c_31 : ¬ inB g 0 9 = true := bz_0.mp c_31
        refine lv_iconst (v := (-1)) C.1 C.2.1 dX11_value_47 (by decide) ?_
        refine g_iret C M hr hlk ?_ (Nat.le_of_ble_eq_true rfl) (Nat.le_of_ble_eq_true rfl) dX11_value_48
        exact Or.inr ⟨fun h9 => c_17 h9.2.1, rfl, rfl⟩
      · skip
        have c_31 : inB g 0 9 = true := bz_ne0.mp c_31
        refine lv_iload C.1 C.2.1 dX11_value_34 (lv_at hl 0 rfl) ?_
        refine lv_if_eq (tgt := 47) C.1 C.2.1 dX11_value_36 (by decide) (fun _ => ?_) (fun h9 => absurd h9 (by decide))
        refine lv_iconst (v := (-1)) C.1 C.2.1 dX11_value_47 (by decide) ?_
        refine g_iret C M hr hlk ?_ (Nat.le_of_ble_eq_true rfl) (Nat.le_of_ble_eq_true rfl) dX11_value_48
        exact Or.inr ⟨fun h9 => c_17 h9.2.1, rfl, rfl⟩
    · skip
      have c_17 : inB r9 0 1000000 = true := bz_ne0.mp c_17
      refine lv_iconst (v := 1) C.1 C.2.1 dX11_value_20 (by decide) ?_
      refine lv_goto (tgt := 25) C.1 C.2.1 dX11_value_21 (by decide) ?_
      refine lv_istore (lv' := [(5, .int 1), (0, .ref (hO E 0)), (1, .int g), (2, .int c9), (3, .int r9), (4, .int day)]) C.1 C.2.1 dX11_value_25 hl (by decide) rfl (fun ls hl => ?_)
      refine lv_iload_n C.1 C.2.1 dX11_value_27 rfl (lv_at hl 2 rfl) ?_
      refine g_calli M (g_runS (As := [.int g]) (rest := []) C M (x_isGood l E σ Z g) clX11_isGood stX11_isGood lk11_116 rfl ⟨Nat.le_of_ble_eq_true rfl, Nat.le_of_ble_eq_true rfl⟩ hl.1 rfl (Nat.le_of_ble_eq_true rfl) dX11_value_28 ⟨Nat.le_of_ble_eq_true rfl, Nat.le_of_ble_eq_true rfl⟩) (fun r5 u H locs hR M => ?_)
      refine W.widen (k := 0) (n := 0) (Nat.le_of_ble_eq_true rfl) (Nat.le_of_ble_eq_true rfl) ?_
      obtain ⟨rfl, rfl⟩ := hR
      have M : hM E A s H locs σ Z := M
      refine lv_if_eq (tgt := 47) C.1 C.2.1 dX11_value_31 (by decide) (fun c_31 => ?_) (fun c_31 => ?_)
      · skip
        have c_31 : ¬ inB g 0 9 = true := bz_0.mp c_31
        refine lv_iconst (v := (-1)) C.1 C.2.1 dX11_value_47 (by decide) ?_
        refine g_iret C M hr hlk ?_ (Nat.le_of_ble_eq_true rfl) (Nat.le_of_ble_eq_true rfl) dX11_value_48
        exact Or.inr ⟨fun h9 => c_31 h9.2.2.1, rfl, rfl⟩
      · skip
        have c_31 : inB g 0 9 = true := bz_ne0.mp c_31
        refine lv_iload C.1 C.2.1 dX11_value_34 (lv_at hl 0 rfl) ?_
        refine lv_if_eq (tgt := 47) C.1 C.2.1 dX11_value_36 (by decide) (fun h9 => absurd h9 (by decide)) (fun _ => ?_)
        refine lv_iload C.1 C.2.1 dX11_value_39 (lv_at hl 5 rfl) ?_
        refine g_calli M (g_runS (As := [.int day]) (rest := []) C M (x_isDay l E σ Z day) clX11_isDay stX11_isDay lk11_119 rfl ⟨Nat.le_of_ble_eq_true rfl, Nat.le_of_ble_eq_true rfl⟩ hl.1 rfl (Nat.le_of_ble_eq_true rfl) dX11_value_41 ⟨Nat.le_of_ble_eq_true rfl, Nat.le_of_ble_eq_true rfl⟩) (fun r6 u H locs hR M => ?_)
        refine W.widen (k := 0) (n := 0) (Nat.le_of_ble_eq_true rfl) (Nat.le_of_ble_eq_true rfl) ?_
        obtain ⟨rfl, rfl⟩ := hR
        have M : hM E A s H locs σ Z := M
        refine lv_if_ne (tgt := 49) C.1 C.2.1 dX11_value_44 (by decide) (fun c_44 => ?_) (fun c_44 => ?_)
        · skip
          have c_44 : inB day 0 5000 = true := bz_ne0.mp c_44
          refine lv_aload_n C.1 C.2.1 dX11_value_49 rfl (lv_at hl 1 rfl) ?_
          refine g_getO C M 0 1 4 (by decide) rfl rfl (by decide) fl11_19 dX11_value_50 ?_
          refine lv_iload_n C.1 C.2.1 dX11_value_53 rfl (lv_at hl 2 rfl) ?_
          refine lv_iconst (v := 0) C.1 C.2.1 dX11_value_54 (by decide) ?_
          refine lv_iload_n C.1 C.2.1 dX11_value_55 rfl (lv_at hl 3 rfl) ?_
          refine lv_iload_n C.1 C.2.1 dX11_value_56 rfl (lv_at hl 4 rfl) ?_
          refine lv_isub C.1 C.2.1 dX11_value_57 ?_
          refine g_mmax C hl.1 mlk11_122 (Nat.le_of_ble_eq_true rfl) (Nat.le_of_ble_eq_true rfl) (Nat.le_of_ble_eq_true rfl) (Nat.le_of_ble_eq_true rfl) dX11_value_58 ?_
          refine lv_iload C.1 C.2.1 dX11_value_61 (lv_at hl 5 rfl) ?_
          refine lv_aload_n C.1 C.2.1 dX11_value_63 rfl (lv_at hl 1 rfl) ?_
          refine g_getI C M 0 9 (by decide) rfl rfl (by decide) fl11_74 (v := hI σ 0 9) rfl dX11_value_64 ?_
          refine g_calli M (g_runV (As := [.int g, .int (if 0 < (c9 - r9) then c9 - r9 else 0), .int day, .int (hI σ 0 9)]) (rest := []) C M 4 (x_gadd l E σ Z n hn hn60 g (if 0 < c9 - r9 then c9 - r9 else 0) day (hI σ 0 9)) clX3_add ivX3_add lk11_127 (by decide) rfl rfl ⟨Nat.le_of_ble_eq_true rfl, Nat.le_of_ble_eq_true rfl⟩ hl.1 rfl (Nat.le_of_ble_eq_true rfl) dX11_value_67 ⟨Nat.le_of_ble_eq_true rfl, Nat.le_of_ble_eq_true rfl⟩) (fun r7 u H locs hR M => ?_)
          refine W.widen (k := 0) (n := 0) (Nat.le_of_ble_eq_true rfl) (Nat.le_of_ble_eq_true rfl) ?_
          obtain ⟨rfl, rfl⟩ := hR
          have M : hM E A s H locs (if nI n < 60 then cGad σ n g (if 0 < c9 - r9 then c9 - r9 else 0) day (hI σ 0 9) else σ) Z := M
          refine g_iret C M hr hlk ?_ (Nat.le_of_ble_eq_true rfl) (Nat.le_of_ble_eq_true rfl) dX11_value_70
          exact Or.inl ⟨⟨c_7, c_17, c_31, c_44⟩, rfl, rfl⟩
        · skip
          have c_44 : ¬ inB day 0 5000 = true := bz_0.mp c_44
          refine lv_iconst (v := (-1)) C.1 C.2.1 dX11_value_47 (by decide) ?_
          refine g_iret C M hr hlk ?_ (Nat.le_of_ble_eq_true rfl) (Nat.le_of_ble_eq_true rfl) dX11_value_48
          exact Or.inr ⟨fun h9 => c_44 h9.2.2.2, rfl, rfl⟩

set_option maxHeartbeats 4000000 in
set_option maxRecDepth 100000 in
theorem x_earlier (l : Launch) (E : hEnv) (σ : hMem) (Z : va_W) (n : Nat) (hn : hI σ 6 4 = nI n) (hn40 : n ≤ 40) (m9 a day : Int32) : hMet l yX11_earlier cX11_earlier 4 (some .int) (2, 0, 0, 47) E σ Z [.ref (hO E 0), .int m9, .int a, .int day] (hQi E (fun r u => (((inB m9 0 99999 = true) ∧ (inB a 0 1000 = true) ∧ (inB day 0 5000 = true)) ∧ r = (if nI n < 40 then nI n else -1) ∧ u = ((if nI n < 40 then cCad σ n m9 a day (hI σ 0 9) else σ), Z)) ∨ (¬ ((inB m9 0 99999 = true) ∧ (inB a 0 1000 = true) ∧ (inB day 0 5000 = true)) ∧ r = -1 ∧ u = (σ, Z)))) := by
  refine hMet.of (by decide) (Nat.le_of_ble_eq_true rfl) (fun p e s m below meth c A ls C M hr hlk hl => ?_)
  have hl : lv_has ls 4 [(0, .ref (hO E 0)), (1, .int m9), (2, .int a), (3, .int day)] := hl
  generalize s.heap = H at M ⊢
  generalize ([] : List Loc) = locs at M ⊢
  refine lv_iload_n C.1 C.2.1 dX11_earlier_0 rfl (lv_at hl 1 rfl) ?_
  refine lv_iconst (v := 0) C.1 C.2.1 dX11_earlier_1 (by decide) ?_
  refine lv_ldc (v := 99999) C.1 C.2.1 C.2.2.2.1 (C.2.2.2.2.1.1.use kc11_130 rfl) dX11_earlier_2 ?_
  refine g_calli M (g_runS (As := [.int m9, .int 0, .int 99999]) (rest := []) C M (x_within l E σ Z m9 0 99999) clX11_isWithin stX11_isWithin lk11_78 rfl ⟨Nat.le_of_ble_eq_true rfl, Nat.le_of_ble_eq_true rfl⟩ hl.1 rfl (Nat.le_of_ble_eq_true rfl) dX11_earlier_4 ⟨Nat.le_of_ble_eq_true rfl, Nat.le_of_ble_eq_true rfl⟩) (fun r1 u H locs hR M => ?_)
  refine W.widen (k := 0) (n := 0) (Nat.le_of_ble_eq_true rfl) (Nat.le_of_ble_eq_true rfl) ?_
  obtain ⟨rfl, rfl⟩ := hR
  have M : hM E A s H locs σ Z := M
  refine lv_if_eq (tgt := 28) C.1 C.2.1 dX11_earlier_7 (by decide) (fun c_7 => ?_) (fun c_7 => ?_)
  · skip
    have c_7 : ¬ inB m9 0 99999 = true := bz_0.mp c_7
    refine lv_iconst (v := (-1)) C.1 C.2.1 dX11_earlier_28 (by decide) ?_
    refine g_iret C M hr hlk ?_ (Nat.le_of_ble_eq_true rfl) (Nat.le_of_ble_eq_true rfl) dX11_earlier_29
    exact Or.inr ⟨fun h9 => c_7 h9.1, rfl, rfl⟩
  · skip
    have c_7 : inB m9 0 99999 = true := bz_ne0.mp c_7
    refine lv_iload_n C.1 C.2.1 dX11_earlier_10 rfl (lv_at hl 2 rfl) ?_
    refine lv_iconst (v := 0) C.1 C.2.1 dX11_earlier_11 (by decide) ?_
    refine lv_sipush (v := 1000) C.1 C.2.1 dX11_earlier_12 (by decide) ?_
    refine g_calli M (g_runS (As := [.int a, .int 0, .int 1000]) (rest := []) C M (x_within l E σ Z a 0 1000) clX11_isWithin stX11_isWithin lk11_78 rfl ⟨Nat.le_of_ble_eq_true rfl, Nat.le_of_ble_eq_true rfl⟩ hl.1 rfl (Nat.le_of_ble_eq_true rfl) dX11_earlier_15 ⟨Nat.le_of_ble_eq_true rfl, Nat.le_of_ble_eq_true rfl⟩) (fun r2 u H locs hR M => ?_)
    refine W.widen (k := 0) (n := 0) (Nat.le_of_ble_eq_true rfl) (Nat.le_of_ble_eq_true rfl) ?_
    obtain ⟨rfl, rfl⟩ := hR
    have M : hM E A s H locs σ Z := M
    refine lv_if_eq (tgt := 28) C.1 C.2.1 dX11_earlier_18 (by decide) (fun c_18 => ?_) (fun c_18 => ?_)
    · skip
      have c_18 : ¬ inB a 0 1000 = true := bz_0.mp c_18
      refine lv_iconst (v := (-1)) C.1 C.2.1 dX11_earlier_28 (by decide) ?_
      refine g_iret C M hr hlk ?_ (Nat.le_of_ble_eq_true rfl) (Nat.le_of_ble_eq_true rfl) dX11_earlier_29
      exact Or.inr ⟨fun h9 => c_18 h9.2.1, rfl, rfl⟩
    · skip
      have c_18 : inB a 0 1000 = true := bz_ne0.mp c_18
      refine lv_iload_n C.1 C.2.1 dX11_earlier_21 rfl (lv_at hl 3 rfl) ?_
      refine g_calli M (g_runS (As := [.int day]) (rest := []) C M (x_isDay l E σ Z day) clX11_isDay stX11_isDay lk11_119 rfl ⟨Nat.le_of_ble_eq_true rfl, Nat.le_of_ble_eq_true rfl⟩ hl.1 rfl (Nat.le_of_ble_eq_true rfl) dX11_earlier_22 ⟨Nat.le_of_ble_eq_true rfl, Nat.le_of_ble_eq_true rfl⟩) (fun r3 u H locs hR M => ?_)
      refine W.widen (k := 0) (n := 0) (Nat.le_of_ble_eq_true rfl) (Nat.le_of_ble_eq_true rfl) ?_
      obtain ⟨rfl, rfl⟩ := hR
      have M : hM E A s H locs σ Z := M
      refine lv_if_ne (tgt := 30) C.1 C.2.1 dX11_earlier_25 (by decide) (fun c_25 => ?_) (fun c_25 => ?_)
      · skip
        have c_25 : inB day 0 5000 = true := bz_ne0.mp c_25
        refine lv_aload_n C.1 C.2.1 dX11_earlier_30 rfl (lv_at hl 0 rfl) ?_
        refine g_getO C M 0 2 6 (by decide) rfl rfl (by decide) fl11_26 dX11_earlier_31 ?_
        refine lv_iload_n C.1 C.2.1 dX11_earlier_34 rfl (lv_at hl 1 rfl) ?_
        refine lv_iload_n C.1 C.2.1 dX11_earlier_35 rfl (lv_at hl 2 rfl) ?_
        refine lv_iload_n C.1 C.2.1 dX11_earlier_36 rfl (lv_at hl 3 rfl) ?_
        refine lv_aload_n C.1 C.2.1 dX11_earlier_37 rfl (lv_at hl 0 rfl) ?_
        refine g_getI C M 0 9 (by decide) rfl rfl (by decide) fl11_74 (v := hI σ 0 9) rfl dX11_earlier_38 ?_
        refine g_calli M (g_runV (As := [.int m9, .int a, .int day, .int (hI σ 0 9)]) (rest := []) C M 6 (x_csadd l E σ Z n hn hn40 m9 a day (hI σ 0 9)) clX1_add ivX1_add lk11_131 (by decide) rfl rfl ⟨Nat.le_of_ble_eq_true rfl, Nat.le_of_ble_eq_true rfl⟩ hl.1 rfl (Nat.le_of_ble_eq_true rfl) dX11_earlier_41 ⟨Nat.le_of_ble_eq_true rfl, Nat.le_of_ble_eq_true rfl⟩) (fun r4 u H locs hR M => ?_)
        refine W.widen (k := 0) (n := 0) (Nat.le_of_ble_eq_true rfl) (Nat.le_of_ble_eq_true rfl) ?_
        obtain ⟨rfl, rfl⟩ := hR
        have M : hM E A s H locs (if nI n < 40 then cCad σ n m9 a day (hI σ 0 9) else σ) Z := M
        refine g_iret C M hr hlk ?_ (Nat.le_of_ble_eq_true rfl) (Nat.le_of_ble_eq_true rfl) dX11_earlier_44
        exact Or.inl ⟨⟨c_7, c_18, c_25⟩, rfl, rfl⟩
      · skip
        have c_25 : ¬ inB day 0 5000 = true := bz_0.mp c_25
        refine lv_iconst (v := (-1)) C.1 C.2.1 dX11_earlier_28 (by decide) ?_
        refine g_iret C M hr hlk ?_ (Nat.le_of_ble_eq_true rfl) (Nat.le_of_ble_eq_true rfl) dX11_earlier_29
        exact Or.inr ⟨fun h9 => c_25 h9.2.2, rfl, rfl⟩

set_option maxHeartbeats 4000000 in
set_option maxRecDepth 100000 in
theorem x_overrule (l : Launch) (E : hEnv) (σ : hMem) (Z : va_W) (n : Nat) (hn : hI σ 6 4 = nI n) (hn40 : n ≤ 40) (k day : Int32) : hMet l yX11_overrule cX11_overrule 3 (some .boolean) (2, 0, 0, 46) E σ Z [.ref (hO E 0), .int k, .int day] (hQi E (fun r u => ((inB day 0 5000 = true ∧ inB k 0 (nI n - 1) = true ∧ hA σ 8 0 0 k.toNatClampNeg = 5001) ∧ r = 1 ∧ u = (cOvr σ k.toNatClampNeg day (hI σ 0 9), Z)) ∨ (¬ (inB day 0 5000 = true ∧ inB k 0 (nI n - 1) = true ∧ hA σ 8 0 0 k.toNatClampNeg = 5001) ∧ r = 0 ∧ u = (σ, Z)))) := by
  refine hMet.of (by decide) (Nat.le_of_ble_eq_true rfl) (fun p e s m below meth c A ls C M hr hlk hl => ?_)
  have hl : lv_has ls 3 [(0, .ref (hO E 0)), (1, .int k), (2, .int day)] := hl
  generalize s.heap = H at M ⊢
  generalize ([] : List Loc) = locs at M ⊢
  refine lv_iload_n C.1 C.2.1 dX11_overrule_0 rfl (lv_at hl 2 rfl) ?_
  refine g_calli M (g_runS (As := [.int day]) (rest := []) C M (x_isDay l E σ Z day) clX11_isDay stX11_isDay lk11_119 rfl ⟨Nat.le_of_ble_eq_true rfl, Nat.le_of_ble_eq_true rfl⟩ hl.1 rfl (Nat.le_of_ble_eq_true rfl) dX11_overrule_1 ⟨Nat.le_of_ble_eq_true rfl, Nat.le_of_ble_eq_true rfl⟩) (fun r1 u H locs hR M => ?_)
  refine W.widen (k := 0) (n := 0) (Nat.le_of_ble_eq_true rfl) (Nat.le_of_ble_eq_true rfl) ?_
  obtain ⟨rfl, rfl⟩ := hR
  have M : hM E A s H locs σ Z := M
  refine lv_if_eq (tgt := 27) C.1 C.2.1 dX11_overrule_4 (by decide) (fun c_4 => ?_) (fun c_4 => ?_)
  · skip
    have c_4 : ¬ inB day 0 5000 = true := bz_0.mp c_4
    refine lv_iconst (v := 0) C.1 C.2.1 dX11_overrule_27 (by decide) ?_
    refine g_zret rfl C M hr hlk ?_ (Nat.le_of_ble_eq_true rfl) (Nat.le_of_ble_eq_true rfl) dX11_overrule_28
    exact Or.inr ⟨fun h9 => c_4 h9.1, rfl, rfl⟩
  · skip
    have c_4 : inB day 0 5000 = true := bz_ne0.mp c_4
    refine lv_aload_n C.1 C.2.1 dX11_overrule_7 rfl (lv_at hl 0 rfl) ?_
    refine g_getO C M 0 2 6 (by decide) rfl rfl (by decide) fl11_26 dX11_overrule_8 ?_
    refine lv_iload_n C.1 C.2.1 dX11_overrule_11 rfl (lv_at hl 1 rfl) ?_
    refine lv_iload_n C.1 C.2.1 dX11_overrule_12 rfl (lv_at hl 2 rfl) ?_
    refine lv_aload_n C.1 C.2.1 dX11_overrule_13 rfl (lv_at hl 0 rfl) ?_
    refine g_getI C M 0 9 (by decide) rfl rfl (by decide) fl11_74 (v := hI σ 0 9) rfl dX11_overrule_14 ?_
    refine g_calli M (g_runV (As := [.int k, .int day, .int (hI σ 0 9)]) (rest := []) C M 6 (x_csover l E σ Z n hn hn40 k day (hI σ 0 9)) clX1_setOverruled ivX1_setOverruled lk11_132 (by decide) rfl rfl ⟨Nat.le_of_ble_eq_true rfl, Nat.le_of_ble_eq_true rfl⟩ hl.1 rfl (Nat.le_of_ble_eq_true rfl) dX11_overrule_17 ⟨Nat.le_of_ble_eq_true rfl, Nat.le_of_ble_eq_true rfl⟩) (fun r2 u H locs hR M => ?_)
    refine W.widen (k := 0) (n := 0) (Nat.le_of_ble_eq_true rfl) (Nat.le_of_ble_eq_true rfl) ?_
    obtain ⟨rfl, rfl⟩ := hR
    have M : hM E A s H locs (if inB k 0 (nI n - 1) = true ∧ hA σ 8 0 0 k.toNatClampNeg = 5001 then cOvr σ k.toNatClampNeg day (hI σ 0 9) else σ) Z := M
    refine lv_if_eq (tgt := 27) C.1 C.2.1 dX11_overrule_20 (by decide) (fun c_20 => ?_) (fun c_20 => ?_)
    · skip
      have c_20 : ¬ (inB k 0 (nI n - 1) = true ∧ hA σ 8 0 0 k.toNatClampNeg = 5001) := bz_0.mp c_20
      refine lv_iconst (v := 0) C.1 C.2.1 dX11_overrule_27 (by decide) ?_
      refine g_zret rfl C M hr hlk ?_ (Nat.le_of_ble_eq_true rfl) (Nat.le_of_ble_eq_true rfl) dX11_overrule_28
      exact Or.inr ⟨fun h9 => c_20 h9.2, rfl, by rw [if_neg c_20]⟩
    · skip
      have c_20 : (inB k 0 (nI n - 1) = true ∧ hA σ 8 0 0 k.toNatClampNeg = 5001) := bz_ne0.mp c_20
      refine lv_iconst (v := 1) C.1 C.2.1 dX11_overrule_23 (by decide) ?_
      refine lv_goto (tgt := 28) C.1 C.2.1 dX11_overrule_24 (by decide) ?_
      refine g_zret rfl C M hr hlk ?_ (Nat.le_of_ble_eq_true rfl) (Nat.le_of_ble_eq_true rfl) dX11_overrule_28
      exact Or.inl ⟨⟨c_4, c_20⟩, rfl, by rw [if_pos c_20]⟩

set_option maxHeartbeats 4000000 in
set_option maxRecDepth 100000 in
theorem x_suit (l : Launch) (E : hEnv) (σ : hMem) (Z : va_W) (m9 l9 : Int32) : hMet l yX11_suit cX11_suit 3 (some .boolean) (1, 0, 0, 22) E σ Z [.ref (hO E 0), .int m9, .int l9] (hQi E (fun r u => (((inB m9 0 99999 = true) ∧ (inB l9 0 99 = true)) ∧ r = 1 ∧ u = (sI (sI σ 0 10 m9) 0 11 l9, Z)) ∨ (¬ ((inB m9 0 99999 = true) ∧ (inB l9 0 99 = true)) ∧ r = 0 ∧ u = (σ, Z)))) := by
  refine hMet.of (by decide) (Nat.le_of_ble_eq_true rfl) (fun p e s m below meth c A ls C M hr hlk hl => ?_)
  have hl : lv_has ls 3 [(0, .ref (hO E 0)), (1, .int m9), (2, .int l9)] := hl
  generalize s.heap = H at M ⊢
  generalize ([] : List Loc) = locs at M ⊢
  refine lv_iload_n C.1 C.2.1 dX11_suit_0 rfl (lv_at hl 1 rfl) ?_
  refine lv_iconst (v := 0) C.1 C.2.1 dX11_suit_1 (by decide) ?_
  refine lv_ldc (v := 99999) C.1 C.2.1 C.2.2.2.1 (C.2.2.2.2.1.1.use kc11_130 rfl) dX11_suit_2 ?_
  refine g_calli M (g_runS (As := [.int m9, .int 0, .int 99999]) (rest := []) C M (x_within l E σ Z m9 0 99999) clX11_isWithin stX11_isWithin lk11_78 rfl ⟨Nat.le_of_ble_eq_true rfl, Nat.le_of_ble_eq_true rfl⟩ hl.1 rfl (Nat.le_of_ble_eq_true rfl) dX11_suit_4 ⟨Nat.le_of_ble_eq_true rfl, Nat.le_of_ble_eq_true rfl⟩) (fun r1 u H locs hR M => ?_)
  refine W.widen (k := 0) (n := 0) (Nat.le_of_ble_eq_true rfl) (Nat.le_of_ble_eq_true rfl) ?_
  obtain ⟨rfl, rfl⟩ := hR
  have M : hM E A s H locs σ Z := M
  refine lv_if_eq (tgt := 20) C.1 C.2.1 dX11_suit_7 (by decide) (fun c_7 => ?_) (fun c_7 => ?_)
  · skip
    have c_7 : ¬ inB m9 0 99999 = true := bz_0.mp c_7
    refine lv_iconst (v := 0) C.1 C.2.1 dX11_suit_20 (by decide) ?_
    refine g_zret rfl C M hr hlk ?_ (Nat.le_of_ble_eq_true rfl) (Nat.le_of_ble_eq_true rfl) dX11_suit_21
    exact Or.inr ⟨fun h9 => c_7 h9.1, rfl, rfl⟩
  · skip
    have c_7 : inB m9 0 99999 = true := bz_ne0.mp c_7
    refine lv_iload_n C.1 C.2.1 dX11_suit_10 rfl (lv_at hl 2 rfl) ?_
    refine lv_iconst (v := 0) C.1 C.2.1 dX11_suit_11 (by decide) ?_
    refine lv_bipush (v := 99) C.1 C.2.1 dX11_suit_12 (by decide) ?_
    refine g_calli M (g_runS (As := [.int l9, .int 0, .int 99]) (rest := []) C M (x_within l E σ Z l9 0 99) clX11_isWithin stX11_isWithin lk11_78 rfl ⟨Nat.le_of_ble_eq_true rfl, Nat.le_of_ble_eq_true rfl⟩ hl.1 rfl (Nat.le_of_ble_eq_true rfl) dX11_suit_14 ⟨Nat.le_of_ble_eq_true rfl, Nat.le_of_ble_eq_true rfl⟩) (fun r2 u H locs hR M => ?_)
    refine W.widen (k := 0) (n := 0) (Nat.le_of_ble_eq_true rfl) (Nat.le_of_ble_eq_true rfl) ?_
    obtain ⟨rfl, rfl⟩ := hR
    have M : hM E A s H locs σ Z := M
    refine lv_if_ne (tgt := 22) C.1 C.2.1 dX11_suit_17 (by decide) (fun c_17 => ?_) (fun c_17 => ?_)
    · skip
      have c_17 : inB l9 0 99 = true := bz_ne0.mp c_17
      refine lv_aload_n C.1 C.2.1 dX11_suit_22 rfl (lv_at hl 0 rfl) ?_
      refine lv_iload_n C.1 C.2.1 dX11_suit_23 rfl (lv_at hl 1 rfl) ?_
      refine g_putI C M 0 10 (by decide) rfl rfl (by decide) fl11_135 rfl rfl dX11_suit_24 (fun H locs M => ?_)
      refine lv_aload_n C.1 C.2.1 dX11_suit_27 rfl (lv_at hl 0 rfl) ?_
      refine lv_iload_n C.1 C.2.1 dX11_suit_28 rfl (lv_at hl 2 rfl) ?_
      refine g_putI C M 0 11 (by decide) rfl rfl (by decide) fl11_138 rfl rfl dX11_suit_29 (fun H locs M => ?_)
      refine lv_iconst (v := 1) C.1 C.2.1 dX11_suit_32 (by decide) ?_
      refine g_zret rfl C M hr hlk ?_ (Nat.le_of_ble_eq_true rfl) (Nat.le_of_ble_eq_true rfl) dX11_suit_33
      exact Or.inl ⟨⟨c_7, c_17⟩, rfl, rfl⟩
    · skip
      have c_17 : ¬ inB l9 0 99 = true := bz_0.mp c_17
      refine lv_iconst (v := 0) C.1 C.2.1 dX11_suit_20 (by decide) ?_
      refine g_zret rfl C M hr hlk ?_ (Nat.le_of_ble_eq_true rfl) (Nat.le_of_ble_eq_true rfl) dX11_suit_21
      exact Or.inr ⟨fun h9 => c_17 h9.2, rfl, rfl⟩

def cFeed (σ : hMem) (t : Nat) (a b c d e : Int32) : hMem := cPut (cPut (cPut (cPut (cPut σ t a) (t + 4) b) (t + 4 + 4) c) (t + 4 + 4 + 4) d) (t + 4 + 4 + 4 + 4) e

set_option maxHeartbeats 4000000 in
set_option maxRecDepth 100000 in
theorem x_feed (l : Launch) (E : hEnv) (σ : hMem) (Z : va_W) (t : Nat) (ht : hI σ 9 1 = nI t) (ht3 : t ≤ 300) (a9 b9 c9 d9 e9 : Int32) : hMet l yX11_feed cX11_feed 6 (some .int) (1, 0, 0, 22) E σ Z [.ref (hO E 0), .int a9, .int b9, .int c9, .int d9, .int e9] (hQi E (fun r u => r = (if t + 20 ≤ 300 then nI (t + 20) else -1) ∧ u = (if t + 20 ≤ 300 then cFeed σ t a9 b9 c9 d9 e9 else σ, Z))) := by
  refine hMet.of (by decide) (Nat.le_of_ble_eq_true rfl) (fun p e s m below meth c A ls C M hr hlk hl => ?_)
  have hl : lv_has ls 6 [(0, .ref (hO E 0)), (1, .int a9), (2, .int b9), (3, .int c9), (4, .int d9), (5, .int e9)] := hl
  generalize s.heap = H at M ⊢
  generalize ([] : List Loc) = locs at M ⊢
  refine lv_aload_n C.1 C.2.1 dX11_feed_0 rfl (lv_at hl 0 rfl) ?_
  refine g_getO C M 0 3 9 (by decide) rfl rfl (by decide) fl11_33 dX11_feed_1 ?_
  refine g_getI C M 9 1 (by decide) rfl rfl (by decide) fl11_141 (v := nI t) ht dX11_feed_4 ?_
  refine lv_sipush (v := 280) C.1 C.2.1 dX11_feed_7 (by decide) ?_
  refine lv_icmp_le (tgt := 15) C.1 C.2.1 dX11_feed_10 (by decide) (fun c_10 => ?_) (fun c_10 => ?_)
  · skip
    have h20 : t + 20 ≤ 300 := by have := (nI_le9 (a := t) (c := 280) (by omega) (by omega)).mp c_10; omega
    refine lv_aload_n C.1 C.2.1 dX11_feed_15 rfl (lv_at hl 0 rfl) ?_
    refine g_getO C M 0 3 9 (by decide) rfl rfl (by decide) fl11_33 dX11_feed_16 ?_
    refine lv_iload_n C.1 C.2.1 dX11_feed_19 rfl (lv_at hl 1 rfl) ?_
    refine g_callv M (g_runV (As := [.int a9]) (rest := []) C M 9 (x_tapp l E σ Z t ht (by omega) a9) clX9_append ivX9_append lk11_144 (by decide) rfl rfl ⟨Nat.le_of_ble_eq_true rfl, Nat.le_of_ble_eq_true rfl⟩ hl.1 rfl (Nat.le_of_ble_eq_true rfl) dX11_feed_20 ⟨Nat.le_of_ble_eq_true rfl, Nat.le_of_ble_eq_true rfl⟩) (fun u H locs hR M => ?_)
    refine W.widen (k := 0) (n := 0) (Nat.le_of_ble_eq_true rfl) (Nat.le_of_ble_eq_true rfl) ?_
    subst hR
    have M : hM E A s H locs (cPut σ t a9) Z := M
    refine lv_aload_n C.1 C.2.1 dX11_feed_23 rfl (lv_at hl 0 rfl) ?_
    refine g_getO C M 0 3 9 (by decide) rfl rfl (by decide) fl11_33 dX11_feed_24 ?_
    refine lv_iload_n C.1 C.2.1 dX11_feed_27 rfl (lv_at hl 2 rfl) ?_
    refine g_callv M (g_runV (As := [.int b9]) (rest := []) C M 9 (x_tapp l E (cPut σ t a9) Z (t + 4) (cPut_t _ _ _) (by omega) b9) clX9_append ivX9_append lk11_144 (by decide) rfl rfl ⟨Nat.le_of_ble_eq_true rfl, Nat.le_of_ble_eq_true rfl⟩ hl.1 rfl (Nat.le_of_ble_eq_true rfl) dX11_feed_28 ⟨Nat.le_of_ble_eq_true rfl, Nat.le_of_ble_eq_true rfl⟩) (fun u H locs hR M => ?_)
    refine W.widen (k := 0) (n := 0) (Nat.le_of_ble_eq_true rfl) (Nat.le_of_ble_eq_true rfl) ?_
    subst hR
    have M : hM E A s H locs (cPut (cPut σ t a9) (t + 4) b9) Z := M
    refine lv_aload_n C.1 C.2.1 dX11_feed_31 rfl (lv_at hl 0 rfl) ?_
    refine g_getO C M 0 3 9 (by decide) rfl rfl (by decide) fl11_33 dX11_feed_32 ?_
    refine lv_iload_n C.1 C.2.1 dX11_feed_35 rfl (lv_at hl 3 rfl) ?_
    refine g_callv M (g_runV (As := [.int c9]) (rest := []) C M 9 (x_tapp l E (cPut (cPut σ t a9) (t + 4) b9) Z (t + 4 + 4) (cPut_t _ _ _) (by omega) c9) clX9_append ivX9_append lk11_144 (by decide) rfl rfl ⟨Nat.le_of_ble_eq_true rfl, Nat.le_of_ble_eq_true rfl⟩ hl.1 rfl (Nat.le_of_ble_eq_true rfl) dX11_feed_36 ⟨Nat.le_of_ble_eq_true rfl, Nat.le_of_ble_eq_true rfl⟩) (fun u H locs hR M => ?_)
    refine W.widen (k := 0) (n := 0) (Nat.le_of_ble_eq_true rfl) (Nat.le_of_ble_eq_true rfl) ?_
    subst hR
    have M : hM E A s H locs (cPut (cPut (cPut σ t a9) (t + 4) b9) (t + 4 + 4) c9) Z := M
    refine lv_aload_n C.1 C.2.1 dX11_feed_39 rfl (lv_at hl 0 rfl) ?_
    refine g_getO C M 0 3 9 (by decide) rfl rfl (by decide) fl11_33 dX11_feed_40 ?_
    refine lv_iload C.1 C.2.1 dX11_feed_43 (lv_at hl 4 rfl) ?_
    refine g_callv M (g_runV (As := [.int d9]) (rest := []) C M 9 (x_tapp l E (cPut (cPut (cPut σ t a9) (t + 4) b9) (t + 4 + 4) c9) Z (t + 4 + 4 + 4) (cPut_t _ _ _) (by omega) d9) clX9_append ivX9_append lk11_144 (by decide) rfl rfl ⟨Nat.le_of_ble_eq_true rfl, Nat.le_of_ble_eq_true rfl⟩ hl.1 rfl (Nat.le_of_ble_eq_true rfl) dX11_feed_45 ⟨Nat.le_of_ble_eq_true rfl, Nat.le_of_ble_eq_true rfl⟩) (fun u H locs hR M => ?_)
    refine W.widen (k := 0) (n := 0) (Nat.le_of_ble_eq_true rfl) (Nat.le_of_ble_eq_true rfl) ?_
    subst hR
    have M : hM E A s H locs (cPut (cPut (cPut (cPut σ t a9) (t + 4) b9) (t + 4 + 4) c9) (t + 4 + 4 + 4) d9) Z := M
    refine lv_aload_n C.1 C.2.1 dX11_feed_48 rfl (lv_at hl 0 rfl) ?_
    refine g_getO C M 0 3 9 (by decide) rfl rfl (by decide) fl11_33 dX11_feed_49 ?_
    refine lv_iload C.1 C.2.1 dX11_feed_52 (lv_at hl 5 rfl) ?_
    refine g_callv M (g_runV (As := [.int e9]) (rest := []) C M 9 (x_tapp l E (cPut (cPut (cPut (cPut σ t a9) (t + 4) b9) (t + 4 + 4) c9) (t + 4 + 4 + 4) d9) Z (t + 4 + 4 + 4 + 4) (cPut_t _ _ _) (by omega) e9) clX9_append ivX9_append lk11_144 (by decide) rfl rfl ⟨Nat.le_of_ble_eq_true rfl, Nat.le_of_ble_eq_true rfl⟩ hl.1 rfl (Nat.le_of_ble_eq_true rfl) dX11_feed_54 ⟨Nat.le_of_ble_eq_true rfl, Nat.le_of_ble_eq_true rfl⟩) (fun u H locs hR M => ?_)
    refine W.widen (k := 0) (n := 0) (Nat.le_of_ble_eq_true rfl) (Nat.le_of_ble_eq_true rfl) ?_
    subst hR
    have M : hM E A s H locs (cPut (cPut (cPut (cPut (cPut σ t a9) (t + 4) b9) (t + 4 + 4) c9) (t + 4 + 4 + 4) d9) (t + 4 + 4 + 4 + 4) e9) Z := M
    refine lv_aload_n C.1 C.2.1 dX11_feed_57 rfl (lv_at hl 0 rfl) ?_
    refine g_getO C M 0 3 9 (by decide) rfl rfl (by decide) fl11_33 dX11_feed_58 ?_
    refine g_getI C M 9 1 (by decide) rfl rfl (by decide) fl11_141 (v := nI (t + 20)) (cPut_t _ _ _) dX11_feed_61 ?_
    refine g_iret C M hr hlk ?_ (Nat.le_of_ble_eq_true rfl) (Nat.le_of_ble_eq_true rfl) dX11_feed_64
    rw [if_pos h20, if_pos h20]; exact ⟨rfl, rfl⟩
  · skip
    have h20 : ¬ t + 20 ≤ 300 := fun q => c_10 ((nI_le9 (a := t) (c := 280) (by omega) (by omega)).mpr (by omega))
    refine lv_iconst (v := (-1)) C.1 C.2.1 dX11_feed_13 (by decide) ?_
    refine g_iret C M hr hlk ?_ (Nat.le_of_ble_eq_true rfl) (Nat.le_of_ble_eq_true rfl) dX11_feed_14
    rw [if_neg h20, if_neg h20]; exact ⟨rfl, rfl⟩

set_option maxHeartbeats 4000000 in
set_option maxRecDepth 100000 in
theorem x_end (l : Launch) (E : hEnv) (σ : hMem) (Z : va_W) (k : Int32) : hMet l yX11_end cX11_end 2 (some .int) (1, 0, 0, 22) E σ Z [.ref (hO E 0), .int k] (hQi E (fun r u => (((inB k 0 (hI σ 9 1) = true)) ∧ r = k ∧ u = (sI σ 9 1 k, Z)) ∨ (¬ ((inB k 0 (hI σ 9 1) = true)) ∧ r = -1 ∧ u = (σ, Z)))) := by
  refine hMet.of (by decide) (Nat.le_of_ble_eq_true rfl) (fun p e s m below meth c A ls C M hr hlk hl => ?_)
  have hl : lv_has ls 2 [(0, .ref (hO E 0)), (1, .int k)] := hl
  generalize s.heap = H at M ⊢
  generalize ([] : List Loc) = locs at M ⊢
  refine lv_iload_n C.1 C.2.1 dX11_end_0 rfl (lv_at hl 1 rfl) ?_
  refine lv_iconst (v := 0) C.1 C.2.1 dX11_end_1 (by decide) ?_
  refine lv_aload_n C.1 C.2.1 dX11_end_2 rfl (lv_at hl 0 rfl) ?_
  refine g_getO C M 0 3 9 (by decide) rfl rfl (by decide) fl11_33 dX11_end_3 ?_
  refine g_getI C M 9 1 (by decide) rfl rfl (by decide) fl11_141 (v := hI σ 9 1) rfl dX11_end_6 ?_
  refine g_calli M (g_runS (As := [.int k, .int 0, .int (hI σ 9 1)]) (rest := []) C M (x_within l E σ Z k 0 (hI σ 9 1)) clX11_isWithin stX11_isWithin lk11_78 rfl ⟨Nat.le_of_ble_eq_true rfl, Nat.le_of_ble_eq_true rfl⟩ hl.1 rfl (Nat.le_of_ble_eq_true rfl) dX11_end_9 ⟨Nat.le_of_ble_eq_true rfl, Nat.le_of_ble_eq_true rfl⟩) (fun r1 u H locs hR M => ?_)
  refine W.widen (k := 0) (n := 0) (Nat.le_of_ble_eq_true rfl) (Nat.le_of_ble_eq_true rfl) ?_
  obtain ⟨rfl, rfl⟩ := hR
  have M : hM E A s H locs σ Z := M
  refine lv_if_ne (tgt := 17) C.1 C.2.1 dX11_end_12 (by decide) (fun c_12 => ?_) (fun c_12 => ?_)
  · skip
    have c_12 : inB k 0 (hI σ 9 1) = true := bz_ne0.mp c_12
    refine lv_aload_n C.1 C.2.1 dX11_end_17 rfl (lv_at hl 0 rfl) ?_
    refine g_getO C M 0 3 9 (by decide) rfl rfl (by decide) fl11_33 dX11_end_18 ?_
    refine lv_iload_n C.1 C.2.1 dX11_end_21 rfl (lv_at hl 1 rfl) ?_
    refine g_putI C M 9 1 (by decide) rfl rfl (by decide) fl11_141 rfl rfl dX11_end_22 (fun H locs M => ?_)
    refine lv_iload_n C.1 C.2.1 dX11_end_25 rfl (lv_at hl 1 rfl) ?_
    refine g_iret C M hr hlk ?_ (Nat.le_of_ble_eq_true rfl) (Nat.le_of_ble_eq_true rfl) dX11_end_26
    exact Or.inl ⟨c_12, rfl, rfl⟩
  · skip
    have c_12 : ¬ inB k 0 (hI σ 9 1) = true := bz_0.mp c_12
    refine lv_iconst (v := (-1)) C.1 C.2.1 dX11_end_15 (by decide) ?_
    refine g_iret C M hr hlk ?_ (Nat.le_of_ble_eq_true rfl) (Nat.le_of_ble_eq_true rfl) dX11_end_16
    exact Or.inr ⟨fun h9 => c_12 h9, rfl, rfl⟩

set_option maxHeartbeats 4000000 in
set_option maxRecDepth 100000 in
theorem x_saved (l : Launch) (E : hEnv) (σ : hMem) (Z : va_W) (n : Nat) (hn : hI σ 4 3 = nI n) (hn60 : n ≤ 60) (g known day : Int32) : hMet l yX11_saved cX11_saved 4 (some .int) (2, 0, 0, 49) E σ Z [.ref (hO E 0), .int g, .int known, .int day] (hQi E (fun r u => (((inB g 0 9 = true) ∧ (inB known 0 5000 = true) ∧ (inB day 0 5000 = true)) ∧ r = cWo σ n g known day ∧ u = (σ, Z)) ∨ (¬ ((inB g 0 9 = true) ∧ (inB known 0 5000 = true) ∧ (inB day 0 5000 = true)) ∧ r = -1 ∧ u = (σ, Z)))) := by
  refine hMet.of (by decide) (Nat.le_of_ble_eq_true rfl) (fun p e s m below meth c A ls C M hr hlk hl => ?_)
  have hl : lv_has ls 4 [(0, .ref (hO E 0)), (1, .int g), (2, .int known), (3, .int day)] := hl
  generalize s.heap = H at M ⊢
  generalize ([] : List Loc) = locs at M ⊢
  refine lv_iload_n C.1 C.2.1 dX11_saved_0 rfl (lv_at hl 1 rfl) ?_
  refine g_calli M (g_runS (As := [.int g]) (rest := []) C M (x_isGood l E σ Z g) clX11_isGood stX11_isGood lk11_116 rfl ⟨Nat.le_of_ble_eq_true rfl, Nat.le_of_ble_eq_true rfl⟩ hl.1 rfl (Nat.le_of_ble_eq_true rfl) dX11_saved_1 ⟨Nat.le_of_ble_eq_true rfl, Nat.le_of_ble_eq_true rfl⟩) (fun r1 u H locs hR M => ?_)
  refine W.widen (k := 0) (n := 0) (Nat.le_of_ble_eq_true rfl) (Nat.le_of_ble_eq_true rfl) ?_
  obtain ⟨rfl, rfl⟩ := hR
  have M : hM E A s H locs σ Z := M
  refine lv_if_eq (tgt := 21) C.1 C.2.1 dX11_saved_4 (by decide) (fun c_4 => ?_) (fun c_4 => ?_)
  · skip
    have c_4 : ¬ inB g 0 9 = true := bz_0.mp c_4
    refine lv_iconst (v := (-1)) C.1 C.2.1 dX11_saved_21 (by decide) ?_
    refine g_iret C M hr hlk ?_ (Nat.le_of_ble_eq_true rfl) (Nat.le_of_ble_eq_true rfl) dX11_saved_22
    exact Or.inr ⟨fun h9 => c_4 h9.1, rfl, rfl⟩
  · skip
    have c_4 : inB g 0 9 = true := bz_ne0.mp c_4
    refine lv_iload_n C.1 C.2.1 dX11_saved_7 rfl (lv_at hl 2 rfl) ?_
    refine g_calli M (g_runS (As := [.int known]) (rest := []) C M (x_isDay l E σ Z known) clX11_isDay stX11_isDay lk11_119 rfl ⟨Nat.le_of_ble_eq_true rfl, Nat.le_of_ble_eq_true rfl⟩ hl.1 rfl (Nat.le_of_ble_eq_true rfl) dX11_saved_8 ⟨Nat.le_of_ble_eq_true rfl, Nat.le_of_ble_eq_true rfl⟩) (fun r2 u H locs hR M => ?_)
    refine W.widen (k := 0) (n := 0) (Nat.le_of_ble_eq_true rfl) (Nat.le_of_ble_eq_true rfl) ?_
    obtain ⟨rfl, rfl⟩ := hR
    have M : hM E A s H locs σ Z := M
    refine lv_if_eq (tgt := 21) C.1 C.2.1 dX11_saved_11 (by decide) (fun c_11 => ?_) (fun c_11 => ?_)
    · skip
      have c_11 : ¬ inB known 0 5000 = true := bz_0.mp c_11
      refine lv_iconst (v := (-1)) C.1 C.2.1 dX11_saved_21 (by decide) ?_
      refine g_iret C M hr hlk ?_ (Nat.le_of_ble_eq_true rfl) (Nat.le_of_ble_eq_true rfl) dX11_saved_22
      exact Or.inr ⟨fun h9 => c_11 h9.2.1, rfl, rfl⟩
    · skip
      have c_11 : inB known 0 5000 = true := bz_ne0.mp c_11
      refine lv_iload_n C.1 C.2.1 dX11_saved_14 rfl (lv_at hl 3 rfl) ?_
      refine g_calli M (g_runS (As := [.int day]) (rest := []) C M (x_isDay l E σ Z day) clX11_isDay stX11_isDay lk11_119 rfl ⟨Nat.le_of_ble_eq_true rfl, Nat.le_of_ble_eq_true rfl⟩ hl.1 rfl (Nat.le_of_ble_eq_true rfl) dX11_saved_15 ⟨Nat.le_of_ble_eq_true rfl, Nat.le_of_ble_eq_true rfl⟩) (fun r3 u H locs hR M => ?_)
      refine W.widen (k := 0) (n := 0) (Nat.le_of_ble_eq_true rfl) (Nat.le_of_ble_eq_true rfl) ?_
      obtain ⟨rfl, rfl⟩ := hR
      have M : hM E A s H locs σ Z := M
      refine lv_if_ne (tgt := 23) C.1 C.2.1 dX11_saved_18 (by decide) (fun c_18 => ?_) (fun c_18 => ?_)
      · skip
        have c_18 : inB day 0 5000 = true := bz_ne0.mp c_18
        refine lv_aload_n C.1 C.2.1 dX11_saved_23 rfl (lv_at hl 0 rfl) ?_
        refine g_getO C M 0 1 4 (by decide) rfl rfl (by decide) fl11_19 dX11_saved_24 ?_
        refine lv_iload_n C.1 C.2.1 dX11_saved_27 rfl (lv_at hl 1 rfl) ?_
        refine lv_iload_n C.1 C.2.1 dX11_saved_28 rfl (lv_at hl 2 rfl) ?_
        refine lv_iload_n C.1 C.2.1 dX11_saved_29 rfl (lv_at hl 3 rfl) ?_
        refine g_calli M (g_runV (As := [.int g, .int known, .int day]) (rest := []) C M 4 (x_gwo l E σ Z n hn hn60 g known day) clX3_worthOf ivX3_worthOf lk11_287 (by decide) rfl rfl ⟨Nat.le_of_ble_eq_true rfl, Nat.le_of_ble_eq_true rfl⟩ hl.1 rfl (Nat.le_of_ble_eq_true rfl) dX11_saved_30 ⟨Nat.le_of_ble_eq_true rfl, Nat.le_of_ble_eq_true rfl⟩) (fun r4 u H locs hR M => ?_)
        refine W.widen (k := 0) (n := 0) (Nat.le_of_ble_eq_true rfl) (Nat.le_of_ble_eq_true rfl) ?_
        obtain ⟨rfl, rfl⟩ := hR
        have M : hM E A s H locs σ Z := M
        refine g_iret C M hr hlk ?_ (Nat.le_of_ble_eq_true rfl) (Nat.le_of_ble_eq_true rfl) dX11_saved_33
        exact Or.inl ⟨⟨c_4, c_11, c_18⟩, rfl, rfl⟩
      · skip
        have c_18 : ¬ inB day 0 5000 = true := bz_0.mp c_18
        refine lv_iconst (v := (-1)) C.1 C.2.1 dX11_saved_21 (by decide) ?_
        refine g_iret C M hr hlk ?_ (Nat.le_of_ble_eq_true rfl) (Nat.le_of_ble_eq_true rfl) dX11_saved_22
        exact Or.inr ⟨fun h9 => c_18 h9.2.2, rfl, rfl⟩

def cJdd (σ : hMem) (w : Int32) : Int64 := if hI σ 12 3 < 0 then -1 else if w = 0 then (hI σ 12 3).toInt64 else if w = 1 then (hI σ 12 4).toInt64 else if w = 2 then (hI σ 12 5).toInt64 else if w = 3 then hL σ 12 6 else if w = 4 then hL σ 12 7 else if w = 5 then hL σ 12 8 else -1

set_option maxHeartbeats 4000000 in
set_option maxRecDepth 100000 in
theorem x_judged (l : Launch) (E : hEnv) (σ : hMem) (Z : va_W) (x : Int32) : hMet l yX11_judged cX11_judged 2 (some .long) (0, 0, 0, 0) E σ Z [.ref (hO E 0), .int x] (hQl E (fun r u => r = cJdd σ x ∧ u = (σ, Z))) := by
  refine hMet.of (by decide) (Nat.le_of_ble_eq_true rfl) (fun p e s m below meth c A ls C M hr hlk hl => ?_)
  have hl : lv_has ls 2 [(0, .ref (hO E 0)), (1, .int x)] := hl
  generalize s.heap = H at M ⊢
  generalize ([] : List Loc) = locs at M ⊢
  refine lv_aload_n C.1 C.2.1 dX11_judged_0 rfl (lv_at hl 0 rfl) ?_
  refine g_getO C M 0 8 12 (by decide) rfl rfl (by decide) fl11_68 dX11_judged_1 ?_
  refine g_getI C M 12 3 (by decide) rfl rfl (by decide) fl11_202 (v := hI σ 12 3) rfl dX11_judged_4 ?_
  refine lv_if_ge (tgt := 14) C.1 C.2.1 dX11_judged_7 (by decide) (fun c_7 => ?_) (fun c_7 => ?_)
  · skip
    refine lv_iload_n C.1 C.2.1 dX11_judged_14 rfl (lv_at hl 1 rfl) ?_
    by_cases c_15_0 : x = 0
    · refine lv_tableIn (off := 37) (tgt := 52) C.1 C.2.1 dX11_judged_15 (by rw [c_15_0]; decide) (by rw [c_15_0]; decide) (by rw [c_15_0]; rfl) (by decide) ?_
      refine lv_aload_n C.1 C.2.1 dX11_judged_52 rfl (lv_at hl 0 rfl) ?_
      refine g_getO C M 0 8 12 (by decide) rfl rfl (by decide) fl11_68 dX11_judged_53 ?_
      refine g_getI C M 12 3 (by decide) rfl rfl (by decide) fl11_202 (v := hI σ 12 3) rfl dX11_judged_56 ?_
      refine lv_i2l C.1 C.2.1 dX11_judged_59 rfl ?_
      refine g_lret C M hr hlk ?_ (Nat.le_of_ble_eq_true rfl) (Nat.le_of_ble_eq_true rfl) dX11_judged_60
      refine ⟨?_, rfl⟩; unfold cJdd; rw [if_neg (Int32.not_lt.mpr c_7)]; simp [c_15_0]
    by_cases c_15_1 : x = 1
    · refine lv_tableIn (off := 46) (tgt := 61) C.1 C.2.1 dX11_judged_15 (by rw [c_15_1]; decide) (by rw [c_15_1]; decide) (by rw [c_15_1]; rfl) (by decide) ?_
      refine lv_aload_n C.1 C.2.1 dX11_judged_61 rfl (lv_at hl 0 rfl) ?_
      refine g_getO C M 0 8 12 (by decide) rfl rfl (by decide) fl11_68 dX11_judged_62 ?_
      refine g_getI C M 12 4 (by decide) rfl rfl (by decide) fl11_213 (v := hI σ 12 4) rfl dX11_judged_65 ?_
      refine lv_i2l C.1 C.2.1 dX11_judged_68 rfl ?_
      refine g_lret C M hr hlk ?_ (Nat.le_of_ble_eq_true rfl) (Nat.le_of_ble_eq_true rfl) dX11_judged_69
      refine ⟨?_, rfl⟩; unfold cJdd; rw [if_neg (Int32.not_lt.mpr c_7)]; simp [c_15_0, c_15_1]
    by_cases c_15_2 : x = 2
    · refine lv_tableIn (off := 55) (tgt := 70) C.1 C.2.1 dX11_judged_15 (by rw [c_15_2]; decide) (by rw [c_15_2]; decide) (by rw [c_15_2]; rfl) (by decide) ?_
      refine lv_aload_n C.1 C.2.1 dX11_judged_70 rfl (lv_at hl 0 rfl) ?_
      refine g_getO C M 0 8 12 (by decide) rfl rfl (by decide) fl11_68 dX11_judged_71 ?_
      refine g_getI C M 12 5 (by decide) rfl rfl (by decide) fl11_227 (v := hI σ 12 5) rfl dX11_judged_74 ?_
      refine lv_i2l C.1 C.2.1 dX11_judged_77 rfl ?_
      refine g_lret C M hr hlk ?_ (Nat.le_of_ble_eq_true rfl) (Nat.le_of_ble_eq_true rfl) dX11_judged_78
      refine ⟨?_, rfl⟩; unfold cJdd; rw [if_neg (Int32.not_lt.mpr c_7)]; simp [c_15_0, c_15_1, c_15_2]
    by_cases c_15_3 : x = 3
    · refine lv_tableIn (off := 64) (tgt := 79) C.1 C.2.1 dX11_judged_15 (by rw [c_15_3]; decide) (by rw [c_15_3]; decide) (by rw [c_15_3]; rfl) (by decide) ?_
      refine lv_aload_n C.1 C.2.1 dX11_judged_79 rfl (lv_at hl 0 rfl) ?_
      refine g_getO C M 0 8 12 (by decide) rfl rfl (by decide) fl11_68 dX11_judged_80 ?_
      refine g_getL C M 12 6 (by decide) rfl rfl (by decide) fl11_234 (v := hL σ 12 6) rfl dX11_judged_83 ?_
      refine g_lret C M hr hlk ?_ (Nat.le_of_ble_eq_true rfl) (Nat.le_of_ble_eq_true rfl) dX11_judged_86
      refine ⟨?_, rfl⟩; unfold cJdd; rw [if_neg (Int32.not_lt.mpr c_7)]; simp [c_15_0, c_15_1, c_15_2, c_15_3]
    by_cases c_15_4 : x = 4
    · refine lv_tableIn (off := 72) (tgt := 87) C.1 C.2.1 dX11_judged_15 (by rw [c_15_4]; decide) (by rw [c_15_4]; decide) (by rw [c_15_4]; rfl) (by decide) ?_
      refine lv_aload_n C.1 C.2.1 dX11_judged_87 rfl (lv_at hl 0 rfl) ?_
      refine g_getO C M 0 8 12 (by decide) rfl rfl (by decide) fl11_68 dX11_judged_88 ?_
      refine g_getL C M 12 7 (by decide) rfl rfl (by decide) fl11_251 (v := hL σ 12 7) rfl dX11_judged_91 ?_
      refine g_lret C M hr hlk ?_ (Nat.le_of_ble_eq_true rfl) (Nat.le_of_ble_eq_true rfl) dX11_judged_94
      refine ⟨?_, rfl⟩; unfold cJdd; rw [if_neg (Int32.not_lt.mpr c_7)]; simp [c_15_0, c_15_1, c_15_2, c_15_3, c_15_4]
    by_cases c_15_5 : x = 5
    · refine lv_tableIn (off := 80) (tgt := 95) C.1 C.2.1 dX11_judged_15 (by rw [c_15_5]; decide) (by rw [c_15_5]; decide) (by rw [c_15_5]; rfl) (by decide) ?_
      refine lv_aload_n C.1 C.2.1 dX11_judged_95 rfl (lv_at hl 0 rfl) ?_
      refine g_getO C M 0 8 12 (by decide) rfl rfl (by decide) fl11_68 dX11_judged_96 ?_
      refine g_getL C M 12 8 (by decide) rfl rfl (by decide) fl11_254 (v := hL σ 12 8) rfl dX11_judged_99 ?_
      refine g_lret C M hr hlk ?_ (Nat.le_of_ble_eq_true rfl) (Nat.le_of_ble_eq_true rfl) dX11_judged_102
      refine ⟨?_, rfl⟩; unfold cJdd; rw [if_neg (Int32.not_lt.mpr c_7)]; simp [c_15_0, c_15_1, c_15_2, c_15_3, c_15_4, c_15_5]
    refine lv_tableOut (tgt := 103) C.1 C.2.1 dX11_judged_15 (tb_out x (by decide) (by decide) (fun k hk => by rcases (show k = 0 ∨ k = 1 ∨ k = 2 ∨ k = 3 ∨ k = 4 ∨ k = 5 by omega) with rfl | rfl | rfl | rfl | rfl | rfl <;> assumption)) (by decide) ?_
    refine lv_ldc2 (v := (-1)) C.1 C.2.1 C.2.2.2.1 (C.2.2.2.2.1.1.use kc11_249 rfl) dX11_judged_103 ?_
    refine g_lret C M hr hlk ?_ (Nat.le_of_ble_eq_true rfl) (Nat.le_of_ble_eq_true rfl) dX11_judged_106
    refine ⟨?_, rfl⟩; unfold cJdd; rw [if_neg (Int32.not_lt.mpr c_7)]; simp [c_15_0, c_15_1, c_15_2, c_15_3, c_15_4, c_15_5]
  · skip
    refine lv_ldc2 (v := (-1)) C.1 C.2.1 C.2.2.2.1 (C.2.2.2.2.1.1.use kc11_249 rfl) dX11_judged_10 ?_
    refine g_lret C M hr hlk ?_ (Nat.le_of_ble_eq_true rfl) (Nat.le_of_ble_eq_true rfl) dX11_judged_13
    exact ⟨by unfold cJdd; rw [if_pos (Int32.not_le.mp c_7)], rfl⟩

set_option maxHeartbeats 4000000 in
set_option maxRecDepth 100000 in
theorem x_like (l : Launch) (E : hEnv) (σ : hMem) (Z : va_W) (n : Nat) (hn : hI σ 12 4 = nI n) (hn40 : n ≤ 40) (k : Int32) : hMet l yX11_like cX11_like 2 (some .int) (1, 0, 0, 22) E σ Z [.ref (hO E 0), .int k] (hQi E (fun r u => (inB k 0 (nI n - 1) = true ∧ r = hA σ 12 0 0 k.toNatClampNeg ∧ u = (σ, Z)) ∨ (¬ (inB k 0 (nI n - 1) = true) ∧ r = -1 ∧ u = (σ, Z)))) := by
  refine hMet.of (by decide) (Nat.le_of_ble_eq_true rfl) (fun p e s m below meth c A ls C M hr hlk hl => ?_)
  have hl : lv_has ls 2 [(0, .ref (hO E 0)), (1, .int k)] := hl
  generalize s.heap = H at M ⊢
  generalize ([] : List Loc) = locs at M ⊢
  refine lv_iload_n C.1 C.2.1 dX11_like_0 rfl (lv_at hl 1 rfl) ?_
  refine lv_iconst (v := 0) C.1 C.2.1 dX11_like_1 (by decide) ?_
  refine lv_aload_n C.1 C.2.1 dX11_like_2 rfl (lv_at hl 0 rfl) ?_
  refine g_getO C M 0 8 12 (by decide) rfl rfl (by decide) fl11_68 dX11_like_3 ?_
  refine g_getI C M 12 4 (by decide) rfl rfl (by decide) fl11_213 (v := nI n) hn dX11_like_6 ?_
  refine lv_iconst (v := 1) C.1 C.2.1 dX11_like_9 (by decide) ?_
  refine lv_isub C.1 C.2.1 dX11_like_10 ?_
  refine g_calli M (g_runS (As := [.int k, .int 0, .int ((nI n) - 1)]) (rest := []) C M (x_within l E σ Z k 0 ((nI n) - 1)) clX11_isWithin stX11_isWithin lk11_78 rfl ⟨Nat.le_of_ble_eq_true rfl, Nat.le_of_ble_eq_true rfl⟩ hl.1 rfl (Nat.le_of_ble_eq_true rfl) dX11_like_11 ⟨Nat.le_of_ble_eq_true rfl, Nat.le_of_ble_eq_true rfl⟩) (fun r1 u H locs hR M => ?_)
  refine W.widen (k := 0) (n := 0) (Nat.le_of_ble_eq_true rfl) (Nat.le_of_ble_eq_true rfl) ?_
  obtain ⟨rfl, rfl⟩ := hR
  have M : hM E A s H locs σ Z := M
  refine lv_if_eq (tgt := 29) C.1 C.2.1 dX11_like_14 (by decide) (fun c_14 => ?_) (fun c_14 => ?_)
  · skip
    have c_14 : ¬ inB k 0 ((nI n) - 1) = true := bz_0.mp c_14
    refine lv_iconst (v := (-1)) C.1 C.2.1 dX11_like_29 (by decide) ?_
    refine g_iret C M hr hlk ?_ (Nat.le_of_ble_eq_true rfl) (Nat.le_of_ble_eq_true rfl) dX11_like_30
    exact Or.inr ⟨fun h9 => c_14 h9, rfl, rfl⟩
  · skip
    have c_14 : inB k 0 ((nI n) - 1) = true := bz_ne0.mp c_14
    refine lv_aload_n C.1 C.2.1 dX11_like_17 rfl (lv_at hl 0 rfl) ?_
    refine g_getO C M 0 8 12 (by decide) rfl rfl (by decide) fl11_68 dX11_like_18 ?_
    refine g_getA C M 12 0 (by decide) rfl rfl (by decide) fl11_205 dX11_like_21 ?_
    refine lv_iload_n C.1 C.2.1 dX11_like_24 rfl (lv_at hl 1 rfl) ?_
    refine g_iald C M 12 0 (by decide) rfl k.toNatClampNeg rfl (by exact vp_in_pre c_14 hn40 (by decide)) (v := hA σ 12 0 0 k.toNatClampNeg) rfl dX11_like_25 ?_
    refine lv_goto (tgt := 30) C.1 C.2.1 dX11_like_26 (by decide) ?_
    refine g_iret C M hr hlk ?_ (Nat.le_of_ble_eq_true rfl) (Nat.le_of_ble_eq_true rfl) dX11_like_30
    exact Or.inl ⟨c_14, rfl, rfl⟩

def cShr (σ : hMem) (k : Nat) (w : Int32) : Int64 := if w = 0 then hL σ (35 + k) 1 else if w = 1 then hL σ (35 + k) 2 else if w = 2 then hL σ (35 + k) 4 else if w = 3 then hL σ (35 + k) 6 else if w = 4 then hL σ (35 + k) 7 else if w = 5 then hL σ (35 + k) 8 else if w = 6 then hL σ (35 + k) 5 else -1

set_option maxHeartbeats 4000000 in
set_option maxRecDepth 100000 in
theorem x_share (l : Launch) (E : hEnv) (σ : hMem) (Z : va_W) (n : Nat) (hn : hI σ 12 9 = nI n) (hn8 : n ≤ 8) (k x : Int32) : hMet l yX11_share cX11_share 4 (some .long) (1, 0, 0, 22) E σ Z [.ref (hO E 0), .int k, .int x] (hQl E (fun r u => (inB k 0 (nI n - 1) = true ∧ r = cShr σ k.toNatClampNeg x ∧ u = (σ, Z)) ∨ (¬ (inB k 0 (nI n - 1) = true) ∧ r = -1 ∧ u = (σ, Z)))) := by
  refine hMet.of (by decide) (Nat.le_of_ble_eq_true rfl) (fun p e s m below meth c A ls C M hr hlk hl => ?_)
  have hl : lv_has ls 4 [(0, .ref (hO E 0)), (1, .int k), (2, .int x)] := hl
  generalize s.heap = H at M ⊢
  generalize ([] : List Loc) = locs at M ⊢
  refine lv_iload_n C.1 C.2.1 dX11_share_0 rfl (lv_at hl 1 rfl) ?_
  refine lv_iconst (v := 0) C.1 C.2.1 dX11_share_1 (by decide) ?_
  refine lv_aload_n C.1 C.2.1 dX11_share_2 rfl (lv_at hl 0 rfl) ?_
  refine g_getO C M 0 8 12 (by decide) rfl rfl (by decide) fl11_68 dX11_share_3 ?_
  refine g_getI C M 12 9 (by decide) rfl rfl (by decide) fl11_257 (v := nI n) hn dX11_share_6 ?_
  refine lv_iconst (v := 1) C.1 C.2.1 dX11_share_9 (by decide) ?_
  refine lv_isub C.1 C.2.1 dX11_share_10 ?_
  refine g_calli M (g_runS (As := [.int k, .int 0, .int ((nI n) - 1)]) (rest := []) C M (x_within l E σ Z k 0 ((nI n) - 1)) clX11_isWithin stX11_isWithin lk11_78 rfl ⟨Nat.le_of_ble_eq_true rfl, Nat.le_of_ble_eq_true rfl⟩ hl.1 rfl (Nat.le_of_ble_eq_true rfl) dX11_share_11 ⟨Nat.le_of_ble_eq_true rfl, Nat.le_of_ble_eq_true rfl⟩) (fun r1 u H locs hR M => ?_)
  refine W.widen (k := 0) (n := 0) (Nat.le_of_ble_eq_true rfl) (Nat.le_of_ble_eq_true rfl) ?_
  obtain ⟨rfl, rfl⟩ := hR
  have M : hM E A s H locs σ Z := M
  refine lv_if_ne (tgt := 21) C.1 C.2.1 dX11_share_14 (by decide) (fun c_14 => ?_) (fun c_14 => ?_)
  · skip
    have c_14 : inB k 0 ((nI n) - 1) = true := bz_ne0.mp c_14
    have hk8 := vp_lt (vp_in_pre c_14 hn8 (by decide))
    refine lv_aload_n C.1 C.2.1 dX11_share_21 rfl (lv_at hl 0 rfl) ?_
    refine g_getO C M 0 8 12 (by decide) rfl rfl (by decide) fl11_68 dX11_share_22 ?_
    refine g_getQ C M 12 2 (by decide) rfl rfl (by decide) fl11_258 dX11_share_25 ?_
    refine lv_iload_n C.1 C.2.1 dX11_share_28 rfl (lv_at hl 1 rfl) ?_
    refine g_aald7 C M 12 2 (by decide) rfl (by decide) k.toNatClampNeg rfl (vp_in_pre c_14 hn8 (by decide)) dX11_share_29 ?_
    refine lv_astore_n (lv' := [(3, .ref (hO E (35 + k.toNatClampNeg))), (0, .ref (hO E 0)), (1, .int k), (2, .int x)]) C.1 C.2.1 dX11_share_30 rfl hl (by decide) rfl (fun ls hl => ?_)
    refine lv_iload_n C.1 C.2.1 dX11_share_31 rfl (lv_at hl 3 rfl) ?_
    by_cases c_32_0 : x = 0
    · refine lv_tableIn (off := 44) (tgt := 76) C.1 C.2.1 dX11_share_32 (by rw [c_32_0]; decide) (by rw [c_32_0]; decide) (by rw [c_32_0]; rfl) (by decide) ?_
      refine lv_aload_n C.1 C.2.1 dX11_share_76 rfl (lv_at hl 0 rfl) ?_
      refine g_getL C M (35 + k.toNatClampNeg) 1 (by omega) (by rw [lay35 (by omega)]; rfl) (by rw [ci35 (by omega)]; rfl) (by decide) fl11_262 (v := hL σ (35 + k.toNatClampNeg) 1) rfl dX11_share_77 ?_
      refine g_lret C M hr hlk ?_ (Nat.le_of_ble_eq_true rfl) (Nat.le_of_ble_eq_true rfl) dX11_share_80
      refine Or.inl ⟨c_14, ?_, rfl⟩; simp [cShr, c_32_0]
    by_cases c_32_1 : x = 1
    · refine lv_tableIn (off := 49) (tgt := 81) C.1 C.2.1 dX11_share_32 (by rw [c_32_1]; decide) (by rw [c_32_1]; decide) (by rw [c_32_1]; rfl) (by decide) ?_
      refine lv_aload_n C.1 C.2.1 dX11_share_81 rfl (lv_at hl 0 rfl) ?_
      refine g_getL C M (35 + k.toNatClampNeg) 2 (by omega) (by rw [lay35 (by omega)]; rfl) (by rw [ci35 (by omega)]; rfl) (by decide) fl11_267 (v := hL σ (35 + k.toNatClampNeg) 2) rfl dX11_share_82 ?_
      refine g_lret C M hr hlk ?_ (Nat.le_of_ble_eq_true rfl) (Nat.le_of_ble_eq_true rfl) dX11_share_85
      refine Or.inl ⟨c_14, ?_, rfl⟩; simp [cShr, c_32_0, c_32_1]
    by_cases c_32_2 : x = 2
    · refine lv_tableIn (off := 54) (tgt := 86) C.1 C.2.1 dX11_share_32 (by rw [c_32_2]; decide) (by rw [c_32_2]; decide) (by rw [c_32_2]; rfl) (by decide) ?_
      refine lv_aload_n C.1 C.2.1 dX11_share_86 rfl (lv_at hl 0 rfl) ?_
      refine g_getL C M (35 + k.toNatClampNeg) 4 (by omega) (by rw [lay35 (by omega)]; rfl) (by rw [ci35 (by omega)]; rfl) (by decide) fl11_270 (v := hL σ (35 + k.toNatClampNeg) 4) rfl dX11_share_87 ?_
      refine g_lret C M hr hlk ?_ (Nat.le_of_ble_eq_true rfl) (Nat.le_of_ble_eq_true rfl) dX11_share_90
      refine Or.inl ⟨c_14, ?_, rfl⟩; simp [cShr, c_32_0, c_32_1, c_32_2]
    by_cases c_32_3 : x = 3
    · refine lv_tableIn (off := 59) (tgt := 91) C.1 C.2.1 dX11_share_32 (by rw [c_32_3]; decide) (by rw [c_32_3]; decide) (by rw [c_32_3]; rfl) (by decide) ?_
      refine lv_aload_n C.1 C.2.1 dX11_share_91 rfl (lv_at hl 0 rfl) ?_
      refine g_getL C M (35 + k.toNatClampNeg) 6 (by omega) (by rw [lay35 (by omega)]; rfl) (by rw [ci35 (by omega)]; rfl) (by decide) fl11_273 (v := hL σ (35 + k.toNatClampNeg) 6) rfl dX11_share_92 ?_
      refine g_lret C M hr hlk ?_ (Nat.le_of_ble_eq_true rfl) (Nat.le_of_ble_eq_true rfl) dX11_share_95
      refine Or.inl ⟨c_14, ?_, rfl⟩; simp [cShr, c_32_0, c_32_1, c_32_2, c_32_3]
    by_cases c_32_4 : x = 4
    · refine lv_tableIn (off := 64) (tgt := 96) C.1 C.2.1 dX11_share_32 (by rw [c_32_4]; decide) (by rw [c_32_4]; decide) (by rw [c_32_4]; rfl) (by decide) ?_
      refine lv_aload_n C.1 C.2.1 dX11_share_96 rfl (lv_at hl 0 rfl) ?_
      refine g_getL C M (35 + k.toNatClampNeg) 7 (by omega) (by rw [lay35 (by omega)]; rfl) (by rw [ci35 (by omega)]; rfl) (by decide) fl11_275 (v := hL σ (35 + k.toNatClampNeg) 7) rfl dX11_share_97 ?_
      refine g_lret C M hr hlk ?_ (Nat.le_of_ble_eq_true rfl) (Nat.le_of_ble_eq_true rfl) dX11_share_100
      refine Or.inl ⟨c_14, ?_, rfl⟩; simp [cShr, c_32_0, c_32_1, c_32_2, c_32_3, c_32_4]
    by_cases c_32_5 : x = 5
    · refine lv_tableIn (off := 69) (tgt := 101) C.1 C.2.1 dX11_share_32 (by rw [c_32_5]; decide) (by rw [c_32_5]; decide) (by rw [c_32_5]; rfl) (by decide) ?_
      refine lv_aload_n C.1 C.2.1 dX11_share_101 rfl (lv_at hl 0 rfl) ?_
      refine g_getL C M (35 + k.toNatClampNeg) 8 (by omega) (by rw [lay35 (by omega)]; rfl) (by rw [ci35 (by omega)]; rfl) (by decide) fl11_277 (v := hL σ (35 + k.toNatClampNeg) 8) rfl dX11_share_102 ?_
      refine g_lret C M hr hlk ?_ (Nat.le_of_ble_eq_true rfl) (Nat.le_of_ble_eq_true rfl) dX11_share_105
      refine Or.inl ⟨c_14, ?_, rfl⟩; simp [cShr, c_32_0, c_32_1, c_32_2, c_32_3, c_32_4, c_32_5]
    by_cases c_32_6 : x = 6
    · refine lv_tableIn (off := 74) (tgt := 106) C.1 C.2.1 dX11_share_32 (by rw [c_32_6]; decide) (by rw [c_32_6]; decide) (by rw [c_32_6]; rfl) (by decide) ?_
      refine lv_aload_n C.1 C.2.1 dX11_share_106 rfl (lv_at hl 0 rfl) ?_
      refine g_getL C M (35 + k.toNatClampNeg) 5 (by omega) (by rw [lay35 (by omega)]; rfl) (by rw [ci35 (by omega)]; rfl) (by decide) fl11_279 (v := hL σ (35 + k.toNatClampNeg) 5) rfl dX11_share_107 ?_
      refine g_lret C M hr hlk ?_ (Nat.le_of_ble_eq_true rfl) (Nat.le_of_ble_eq_true rfl) dX11_share_110
      refine Or.inl ⟨c_14, ?_, rfl⟩; simp [cShr, c_32_0, c_32_1, c_32_2, c_32_3, c_32_4, c_32_5, c_32_6]
    refine lv_tableOut (tgt := 111) C.1 C.2.1 dX11_share_32 (tb_out x (by decide) (by decide) (fun k hk => by rcases (show k = 0 ∨ k = 1 ∨ k = 2 ∨ k = 3 ∨ k = 4 ∨ k = 5 ∨ k = 6 by omega) with rfl | rfl | rfl | rfl | rfl | rfl | rfl <;> assumption)) (by decide) ?_
    refine lv_ldc2 (v := (-1)) C.1 C.2.1 C.2.2.2.1 (C.2.2.2.2.1.1.use kc11_249 rfl) dX11_share_111 ?_
    refine g_lret C M hr hlk ?_ (Nat.le_of_ble_eq_true rfl) (Nat.le_of_ble_eq_true rfl) dX11_share_114
    refine Or.inl ⟨c_14, ?_, rfl⟩; simp [cShr, c_32_0, c_32_1, c_32_2, c_32_3, c_32_4, c_32_5, c_32_6]
  · skip
    have c_14 : ¬ inB k 0 ((nI n) - 1) = true := bz_0.mp c_14
    refine lv_ldc2 (v := (-1)) C.1 C.2.1 C.2.2.2.1 (C.2.2.2.2.1.1.use kc11_249 rfl) dX11_share_17 ?_
    refine g_lret C M hr hlk ?_ (Nat.le_of_ble_eq_true rfl) (Nat.le_of_ble_eq_true rfl) dX11_share_20
    exact Or.inr ⟨fun h9 => c_14 h9, rfl, rfl⟩

set_option maxHeartbeats 4000000 in
set_option maxRecDepth 100000 in
theorem x_hand (l : Launch) (E : hEnv) (σ : hMem) (Z : va_W) (n : Nat) (hn : hI σ 12 9 = nI n) (hn8 : n ≤ 8) (hh : ∀ i, i < n → ∃ q, q ≤ 60 ∧ hI σ (35 + i) 9 = nI q) (k x : Int32) : hMet l yX11_hand cX11_hand 4 (some .long) (1, 0, 0, 22) E σ Z [.ref (hO E 0), .int k, .int x] (hQl E (fun r u => ((inB k 0 (nI n - 1) = true ∧ inB x 0 (hI σ (35 + k.toNatClampNeg) 9 - 1) = true) ∧ r = hB σ (35 + k.toNatClampNeg) 0 0 x.toNatClampNeg ∧ u = (σ, Z)) ∨ (¬ (inB k 0 (nI n - 1) = true ∧ inB x 0 (hI σ (35 + k.toNatClampNeg) 9 - 1) = true) ∧ r = -1 ∧ u = (σ, Z)))) := by
  refine hMet.of (by decide) (Nat.le_of_ble_eq_true rfl) (fun p e s m below meth c A ls C M hr hlk hl => ?_)
  have hl : lv_has ls 4 [(0, .ref (hO E 0)), (1, .int k), (2, .int x)] := hl
  generalize s.heap = H at M ⊢
  generalize ([] : List Loc) = locs at M ⊢
  refine lv_iload_n C.1 C.2.1 dX11_hand_0 rfl (lv_at hl 1 rfl) ?_
  refine lv_iconst (v := 0) C.1 C.2.1 dX11_hand_1 (by decide) ?_
  refine lv_aload_n C.1 C.2.1 dX11_hand_2 rfl (lv_at hl 0 rfl) ?_
  refine g_getO C M 0 8 12 (by decide) rfl rfl (by decide) fl11_68 dX11_hand_3 ?_
  refine g_getI C M 12 9 (by decide) rfl rfl (by decide) fl11_257 (v := nI n) hn dX11_hand_6 ?_
  refine lv_iconst (v := 1) C.1 C.2.1 dX11_hand_9 (by decide) ?_
  refine lv_isub C.1 C.2.1 dX11_hand_10 ?_
  refine g_calli M (g_runS (As := [.int k, .int 0, .int ((nI n) - 1)]) (rest := []) C M (x_within l E σ Z k 0 ((nI n) - 1)) clX11_isWithin stX11_isWithin lk11_78 rfl ⟨Nat.le_of_ble_eq_true rfl, Nat.le_of_ble_eq_true rfl⟩ hl.1 rfl (Nat.le_of_ble_eq_true rfl) dX11_hand_11 ⟨Nat.le_of_ble_eq_true rfl, Nat.le_of_ble_eq_true rfl⟩) (fun r1 u H locs hR M => ?_)
  refine W.widen (k := 0) (n := 0) (Nat.le_of_ble_eq_true rfl) (Nat.le_of_ble_eq_true rfl) ?_
  obtain ⟨rfl, rfl⟩ := hR
  have M : hM E A s H locs σ Z := M
  refine lv_if_ne (tgt := 21) C.1 C.2.1 dX11_hand_14 (by decide) (fun c_14 => ?_) (fun c_14 => ?_)
  · skip
    have c_14 : inB k 0 ((nI n) - 1) = true := bz_ne0.mp c_14
    have hk8 := vp_lt (vp_in_pre c_14 hn8 (by decide))
    refine lv_aload_n C.1 C.2.1 dX11_hand_21 rfl (lv_at hl 0 rfl) ?_
    refine g_getO C M 0 8 12 (by decide) rfl rfl (by decide) fl11_68 dX11_hand_22 ?_
    refine g_getQ C M 12 2 (by decide) rfl rfl (by decide) fl11_258 dX11_hand_25 ?_
    refine lv_iload_n C.1 C.2.1 dX11_hand_28 rfl (lv_at hl 1 rfl) ?_
    refine g_aald7 C M 12 2 (by decide) rfl (by decide) k.toNatClampNeg rfl (vp_in_pre c_14 hn8 (by decide)) dX11_hand_29 ?_
    refine lv_astore_n (lv' := [(3, .ref (hO E (35 + k.toNatClampNeg))), (0, .ref (hO E 0)), (1, .int k), (2, .int x)]) C.1 C.2.1 dX11_hand_30 rfl hl (by decide) rfl (fun ls hl => ?_)
    refine lv_iload_n C.1 C.2.1 dX11_hand_31 rfl (lv_at hl 3 rfl) ?_
    refine lv_iconst (v := 0) C.1 C.2.1 dX11_hand_32 (by decide) ?_
    refine lv_aload_n C.1 C.2.1 dX11_hand_33 rfl (lv_at hl 0 rfl) ?_
    refine g_getI C M (35 + k.toNatClampNeg) 9 (by omega) (by rw [lay35 (by omega)]; rfl) (by rw [ci35 (by omega)]; rfl) (by decide) fl11_282 (v := hI σ (35 + k.toNatClampNeg) 9) rfl dX11_hand_34 ?_
    refine lv_iconst (v := 1) C.1 C.2.1 dX11_hand_37 (by decide) ?_
    refine lv_isub C.1 C.2.1 dX11_hand_38 ?_
    refine g_calli M (g_runS (As := [.int x, .int 0, .int ((hI σ (35 + k.toNatClampNeg) 9) - 1)]) (rest := []) C M (x_within l E σ Z x 0 ((hI σ (35 + k.toNatClampNeg) 9) - 1)) clX11_isWithin stX11_isWithin lk11_78 rfl ⟨Nat.le_of_ble_eq_true rfl, Nat.le_of_ble_eq_true rfl⟩ hl.1 rfl (Nat.le_of_ble_eq_true rfl) dX11_hand_39 ⟨Nat.le_of_ble_eq_true rfl, Nat.le_of_ble_eq_true rfl⟩) (fun r2 u H locs hR M => ?_)
    refine W.widen (k := 0) (n := 0) (Nat.le_of_ble_eq_true rfl) (Nat.le_of_ble_eq_true rfl) ?_
    obtain ⟨rfl, rfl⟩ := hR
    have M : hM E A s H locs σ Z := M
    refine lv_if_eq (tgt := 54) C.1 C.2.1 dX11_hand_42 (by decide) (fun c_42 => ?_) (fun c_42 => ?_)
    · skip
      have c_42 : ¬ inB x 0 ((hI σ (35 + k.toNatClampNeg) 9) - 1) = true := bz_0.mp c_42
      refine lv_ldc2 (v := (-1)) C.1 C.2.1 C.2.2.2.1 (C.2.2.2.2.1.1.use kc11_249 rfl) dX11_hand_54 ?_
      refine g_lret C M hr hlk ?_ (Nat.le_of_ble_eq_true rfl) (Nat.le_of_ble_eq_true rfl) dX11_hand_57
      exact Or.inr ⟨fun h9 => c_42 h9.2, rfl, rfl⟩
    · skip
      have c_42 : inB x 0 ((hI σ (35 + k.toNatClampNeg) 9) - 1) = true := bz_ne0.mp c_42
      refine lv_aload_n C.1 C.2.1 dX11_hand_45 rfl (lv_at hl 0 rfl) ?_
      refine g_getJ C M (35 + k.toNatClampNeg) 0 (by omega) (by rw [lay35 (by omega)]; rfl) (by rw [ci35 (by omega)]; rfl) (by decide) fl11_283 dX11_hand_46 ?_
      refine lv_iload_n C.1 C.2.1 dX11_hand_49 rfl (lv_at hl 3 rfl) ?_
      refine g_lald C M (35 + k.toNatClampNeg) 0 (by omega) (by rw [lay35 (by omega)]; rfl) x.toNatClampNeg rfl (by obtain ⟨q, h1, h2⟩ := hh _ (pre_lt18 c_14 (by omega)); rw [h2] at c_42; exact vp_in_pre c_42 h1 (by decide)) (v := hB σ (35 + k.toNatClampNeg) 0 0 x.toNatClampNeg) rfl dX11_hand_50 ?_
      refine lv_goto (tgt := 57) C.1 C.2.1 dX11_hand_51 (by decide) ?_
      refine g_lret C M hr hlk ?_ (Nat.le_of_ble_eq_true rfl) (Nat.le_of_ble_eq_true rfl) dX11_hand_57
      exact Or.inl ⟨⟨c_14, c_42⟩, rfl, rfl⟩
  · skip
    have c_14 : ¬ inB k 0 ((nI n) - 1) = true := bz_0.mp c_14
    refine lv_ldc2 (v := (-1)) C.1 C.2.1 C.2.2.2.1 (C.2.2.2.2.1.1.use kc11_249 rfl) dX11_hand_17 ?_
    refine g_lret C M hr hlk ?_ (Nat.le_of_ble_eq_true rfl) (Nat.le_of_ble_eq_true rfl) dX11_hand_20
    exact Or.inr ⟨fun h9 => c_14 h9.1, rfl, rfl⟩

def cCnt (σ : hMem) (x : Int32) : Int32 := if x = 0 then hI σ 0 9 else if x = 1 then hI σ 1 6 else if x = 3 then hI σ 4 3 else if x = 4 then hI σ 6 4 else if x = 5 then hI σ 0 12 else if x = 6 then hI σ 0 13 else if x = 7 then hI σ 9 1 else -1

set_option maxHeartbeats 4000000 in
set_option maxRecDepth 100000 in
theorem x_count (l : Launch) (E : hEnv) (σ : hMem) (Z : va_W) (n : Nat) (hn : hI σ 1 6 = nI n) (hn40 : n ≤ 40) (hW : csW σ n) (hlg : ∀ k, k < n → vp_in (hA σ 1 1 0 k) 6) (htr : ∀ k, k < n → 0 ≤ (cTr σ k).toInt ∧ (cTr σ k).toInt ≤ 9) (hg01 : ∀ k, hA σ 1 8 0 k = 0 ∨ hA σ 1 8 0 k = 1) (hcach : cach σ n) (x : Int32) : hMet l yX11_count cX11_count 2 (some .int) (5, 0, 0, 115) E σ Z [.ref (hO E 0), .int x] (hQi E (fun r u => (x = 2 ∧ ∃ τ, u = (τ, Z) ∧ Stl σ n τ ∧ r = hI τ 1 9) ∨ (¬ x = 2 ∧ u = (σ, Z) ∧ r = cCnt σ x))) := by
  refine hMet.of (by decide) (Nat.le_of_ble_eq_true rfl) (fun p e s m below meth c A ls C M hr hlk hl => ?_)
  have hl : lv_has ls 2 [(0, .ref (hO E 0)), (1, .int x)] := hl
  generalize s.heap = H at M ⊢
  generalize ([] : List Loc) = locs at M ⊢
  refine lv_iload_n C.1 C.2.1 dX11_count_0 rfl (lv_at hl 1 rfl) ?_
  by_cases c_1_0 : x = 0
  · refine lv_tableIn (off := 47) (tgt := 48) C.1 C.2.1 dX11_count_1 (by rw [c_1_0]; decide) (by rw [c_1_0]; decide) (by rw [c_1_0]; rfl) (by decide) ?_
    refine lv_aload_n C.1 C.2.1 dX11_count_48 rfl (lv_at hl 0 rfl) ?_
    refine g_getI C M 0 9 (by decide) rfl rfl (by decide) fl11_74 (v := hI σ 0 9) rfl dX11_count_49 ?_
    refine g_iret C M hr hlk ?_ (Nat.le_of_ble_eq_true rfl) (Nat.le_of_ble_eq_true rfl) dX11_count_52
    exact Or.inr ⟨by rw [c_1_0]; decide, rfl, by rw [c_1_0]; rfl⟩
  by_cases c_1_1 : x = 1
  · refine lv_tableIn (off := 52) (tgt := 53) C.1 C.2.1 dX11_count_1 (by rw [c_1_1]; decide) (by rw [c_1_1]; decide) (by rw [c_1_1]; rfl) (by decide) ?_
    refine lv_aload_n C.1 C.2.1 dX11_count_53 rfl (lv_at hl 0 rfl) ?_
    refine g_getO C M 0 0 1 (by decide) rfl rfl (by decide) fl11_10 dX11_count_54 ?_
    refine g_getI C M 1 6 (by decide) rfl rfl (by decide) fl11_290 (v := hI σ 1 6) rfl dX11_count_57 ?_
    refine g_iret C M hr hlk ?_ (Nat.le_of_ble_eq_true rfl) (Nat.le_of_ble_eq_true rfl) dX11_count_60
    exact Or.inr ⟨by rw [c_1_1]; decide, rfl, by rw [c_1_1]; rfl⟩
  by_cases c_1_2 : x = 2
  · refine lv_tableIn (off := 60) (tgt := 61) C.1 C.2.1 dX11_count_1 (by rw [c_1_2]; decide) (by rw [c_1_2]; decide) (by rw [c_1_2]; rfl) (by decide) ?_
    refine lv_aload_n C.1 C.2.1 dX11_count_61 rfl (lv_at hl 0 rfl) ?_
    refine g_getO C M 0 0 1 (by decide) rfl rfl (by decide) fl11_10 dX11_count_62 ?_
    refine g_calli M (g_runV (As := []) (rest := []) C M 1 (x_thow l E σ Z n hn hn40 hW hlg htr hg01 hcach) clX8_howManyBelieved ivX8_howManyBelieved lk11_293 (by decide) rfl rfl ⟨Nat.le_of_ble_eq_true rfl, Nat.le_of_ble_eq_true rfl⟩ hl.1 rfl (Nat.le_of_ble_eq_true rfl) dX11_count_65 ⟨Nat.le_of_ble_eq_true rfl, Nat.le_of_ble_eq_true rfl⟩) (fun r1 u H locs hR M => ?_)
    refine W.widen (k := 0) (n := 0) (Nat.le_of_ble_eq_true rfl) (Nat.le_of_ble_eq_true rfl) ?_
    obtain ⟨τ, hu, hSt, hr9⟩ := hR
    subst hu
    subst hr9
    have M : hM E A s H locs τ Z := M
    refine g_iret C M hr hlk ?_ (Nat.le_of_ble_eq_true rfl) (Nat.le_of_ble_eq_true rfl) dX11_count_68
    exact Or.inl ⟨c_1_2, τ, rfl, hSt, rfl⟩
  by_cases c_1_3 : x = 3
  · refine lv_tableIn (off := 68) (tgt := 69) C.1 C.2.1 dX11_count_1 (by rw [c_1_3]; decide) (by rw [c_1_3]; decide) (by rw [c_1_3]; rfl) (by decide) ?_
    refine lv_aload_n C.1 C.2.1 dX11_count_69 rfl (lv_at hl 0 rfl) ?_
    refine g_getO C M 0 1 4 (by decide) rfl rfl (by decide) fl11_19 dX11_count_70 ?_
    refine g_getI C M 4 3 (by decide) rfl rfl (by decide) fl11_296 (v := hI σ 4 3) rfl dX11_count_73 ?_
    refine g_iret C M hr hlk ?_ (Nat.le_of_ble_eq_true rfl) (Nat.le_of_ble_eq_true rfl) dX11_count_76
    exact Or.inr ⟨by rw [c_1_3]; decide, rfl, by rw [c_1_3]; rfl⟩
  by_cases c_1_4 : x = 4
  · refine lv_tableIn (off := 76) (tgt := 77) C.1 C.2.1 dX11_count_1 (by rw [c_1_4]; decide) (by rw [c_1_4]; decide) (by rw [c_1_4]; rfl) (by decide) ?_
    refine lv_aload_n C.1 C.2.1 dX11_count_77 rfl (lv_at hl 0 rfl) ?_
    refine g_getO C M 0 2 6 (by decide) rfl rfl (by decide) fl11_26 dX11_count_78 ?_
    refine g_getI C M 6 4 (by decide) rfl rfl (by decide) fl11_297 (v := hI σ 6 4) rfl dX11_count_81 ?_
    refine g_iret C M hr hlk ?_ (Nat.le_of_ble_eq_true rfl) (Nat.le_of_ble_eq_true rfl) dX11_count_84
    exact Or.inr ⟨by rw [c_1_4]; decide, rfl, by rw [c_1_4]; rfl⟩
  by_cases c_1_5 : x = 5
  · refine lv_tableIn (off := 84) (tgt := 85) C.1 C.2.1 dX11_count_1 (by rw [c_1_5]; decide) (by rw [c_1_5]; decide) (by rw [c_1_5]; rfl) (by decide) ?_
    refine lv_aload_n C.1 C.2.1 dX11_count_85 rfl (lv_at hl 0 rfl) ?_
    refine g_getI C M 0 12 (by decide) rfl rfl (by decide) fl11_147 (v := hI σ 0 12) rfl dX11_count_86 ?_
    refine g_iret C M hr hlk ?_ (Nat.le_of_ble_eq_true rfl) (Nat.le_of_ble_eq_true rfl) dX11_count_89
    exact Or.inr ⟨by rw [c_1_5]; decide, rfl, by rw [c_1_5]; rfl⟩
  by_cases c_1_6 : x = 6
  · refine lv_tableIn (off := 89) (tgt := 90) C.1 C.2.1 dX11_count_1 (by rw [c_1_6]; decide) (by rw [c_1_6]; decide) (by rw [c_1_6]; rfl) (by decide) ?_
    refine lv_aload_n C.1 C.2.1 dX11_count_90 rfl (lv_at hl 0 rfl) ?_
    refine g_getI C M 0 13 (by decide) rfl rfl (by decide) fl11_167 (v := hI σ 0 13) rfl dX11_count_91 ?_
    refine g_iret C M hr hlk ?_ (Nat.le_of_ble_eq_true rfl) (Nat.le_of_ble_eq_true rfl) dX11_count_94
    exact Or.inr ⟨by rw [c_1_6]; decide, rfl, by rw [c_1_6]; rfl⟩
  by_cases c_1_7 : x = 7
  · refine lv_tableIn (off := 94) (tgt := 95) C.1 C.2.1 dX11_count_1 (by rw [c_1_7]; decide) (by rw [c_1_7]; decide) (by rw [c_1_7]; rfl) (by decide) ?_
    refine lv_aload_n C.1 C.2.1 dX11_count_95 rfl (lv_at hl 0 rfl) ?_
    refine g_getO C M 0 3 9 (by decide) rfl rfl (by decide) fl11_33 dX11_count_96 ?_
    refine g_getI C M 9 1 (by decide) rfl rfl (by decide) fl11_141 (v := hI σ 9 1) rfl dX11_count_99 ?_
    refine g_iret C M hr hlk ?_ (Nat.le_of_ble_eq_true rfl) (Nat.le_of_ble_eq_true rfl) dX11_count_102
    exact Or.inr ⟨by rw [c_1_7]; decide, rfl, by rw [c_1_7]; rfl⟩
  refine lv_tableOut (tgt := 103) C.1 C.2.1 dX11_count_1 (tb_out x (by decide) (by decide) (fun k hk => by rcases (show k = 0 ∨ k = 1 ∨ k = 2 ∨ k = 3 ∨ k = 4 ∨ k = 5 ∨ k = 6 ∨ k = 7 by omega) with rfl | rfl | rfl | rfl | rfl | rfl | rfl | rfl <;> assumption)) (by decide) ?_
  refine lv_iconst (v := (-1)) C.1 C.2.1 dX11_count_103 (by decide) ?_
  refine g_iret C M hr hlk ?_ (Nat.le_of_ble_eq_true rfl) (Nat.le_of_ble_eq_true rfl) dX11_count_104
  exact Or.inr ⟨c_1_2, rfl, by simp only [cCnt, c_1_0, c_1_1, c_1_2, c_1_3, c_1_4, c_1_5, c_1_6, c_1_7, not_false_eq_true, not_true_eq_false, and_self, and_true, true_and, and_false, false_and, or_true, true_or, or_false, false_or, Bool.false_eq_true, if_true, if_false, ↓reduceIte]⟩
