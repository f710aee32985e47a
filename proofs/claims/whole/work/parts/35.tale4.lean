set_option maxHeartbeats 4000000 in
set_option maxRecDepth 100000 in
theorem x_tbelieves (l : Launch) (E : hEnv) (σ : hMem) (Z : va_W) (n : Nat) (hn : hI σ 1 6 = nI n) (hn40 : n ≤ 40) (hW : csW σ n) (hlg : ∀ k, k < n → vp_in (hA σ 1 1 0 k) 6) (htr : ∀ k, k < n → 0 ≤ (cTr σ k).toInt ∧ (cTr σ k).toInt ≤ 9) (hg01 : ∀ k, hA σ 1 8 0 k = 0 ∨ hA σ 1 8 0 k = 1) (hcach : cach σ n) (x : Int32) (hx : vp_in x 40) : hMet l yX8_believes cX8_believes 2 (some .boolean) (4, 0, 0, 95) E σ Z [.ref (hO E 1), .int x] (hQi E (fun r u => ∃ τ, u = (τ, Z) ∧ Stl σ n τ ∧ r = hA τ 1 8 0 x.toNatClampNeg)) := by
  refine hMet.of (by decide) (Nat.le_of_ble_eq_true rfl) (fun p e s m below meth c A ls C M hr hlk hl => ?_)
  have hl : lv_has ls 2 [(0, .ref (hO E 1)), (1, .int x)] := hl
  generalize s.heap = H at M ⊢
  generalize ([] : List Loc) = locs at M ⊢
  refine lv_aload_n C.1 C.2.1 dX8_believes_0 rfl (lv_at hl 0 rfl) ?_
  refine g_callv M (g_runV (As := []) (rest := []) C M 1 (x_tsettle l E σ Z n hn hn40 hW hlg htr hg01) clX8_settleBelief ivX8_settleBelief lk8_68 (by decide) rfl rfl ⟨Nat.le_of_ble_eq_true rfl, Nat.le_of_ble_eq_true rfl⟩ hl.1 rfl (Nat.le_of_ble_eq_true rfl) dX8_believes_1 ⟨Nat.le_of_ble_eq_true rfl, Nat.le_of_ble_eq_true rfl⟩) (fun u H locs hR M => ?_)
  refine W.widen (k := 0) (n := 0) (Nat.le_of_ble_eq_true rfl) (Nat.le_of_ble_eq_true rfl) ?_
  obtain ⟨τ, hu, hStl⟩ := stl_of hcach hR
  subst hu
  have M : hM E A s H locs τ Z := M
  refine lv_aload_n C.1 C.2.1 dX8_believes_4 rfl (lv_at hl 0 rfl) ?_
  refine g_getA C M 1 8 (by decide) rfl rfl (by decide) fl8_37 dX8_believes_5 ?_
  refine lv_iload_n C.1 C.2.1 dX8_believes_8 rfl (lv_at hl 1 rfl) ?_
  refine g_zald C M 1 8 (by decide) rfl x.toNatClampNeg rfl (by exact hx) (v := hA τ 1 8 0 x.toNatClampNeg) rfl dX8_believes_9 ?_
  refine g_zret (by rcases hStl.bit x.toNatClampNeg with h | h <;> rw [h] <;> rfl) C M hr hlk ?_ (Nat.le_of_ble_eq_true rfl) (Nat.le_of_ble_eq_true rfl) dX8_believes_10
  exact ⟨τ, rfl, hStl, rfl⟩

set_option maxHeartbeats 4000000 in
set_option maxRecDepth 100000 in
theorem x_thow (l : Launch) (E : hEnv) (σ : hMem) (Z : va_W) (n : Nat) (hn : hI σ 1 6 = nI n) (hn40 : n ≤ 40) (hW : csW σ n) (hlg : ∀ k, k < n → vp_in (hA σ 1 1 0 k) 6) (htr : ∀ k, k < n → 0 ≤ (cTr σ k).toInt ∧ (cTr σ k).toInt ≤ 9) (hg01 : ∀ k, hA σ 1 8 0 k = 0 ∨ hA σ 1 8 0 k = 1) (hcach : cach σ n) : hMet l yX8_howManyBelieved cX8_howManyBelieved 1 (some .int) (4, 0, 0, 95) E σ Z [.ref (hO E 1)] (hQi E (fun r u => ∃ τ, u = (τ, Z) ∧ Stl σ n τ ∧ r = hI τ 1 9)) := by
  refine hMet.of (by decide) (Nat.le_of_ble_eq_true rfl) (fun p e s m below meth c A ls C M hr hlk hl => ?_)
  have hl : lv_has ls 1 [(0, .ref (hO E 1))] := hl
  generalize s.heap = H at M ⊢
  generalize ([] : List Loc) = locs at M ⊢
  refine lv_aload_n C.1 C.2.1 dX8_howManyBelieved_0 rfl (lv_at hl 0 rfl) ?_
  refine g_callv M (g_runV (As := []) (rest := []) C M 1 (x_tsettle l E σ Z n hn hn40 hW hlg htr hg01) clX8_settleBelief ivX8_settleBelief lk8_68 (by decide) rfl rfl ⟨Nat.le_of_ble_eq_true rfl, Nat.le_of_ble_eq_true rfl⟩ hl.1 rfl (Nat.le_of_ble_eq_true rfl) dX8_howManyBelieved_1 ⟨Nat.le_of_ble_eq_true rfl, Nat.le_of_ble_eq_true rfl⟩) (fun u H locs hR M => ?_)
  refine W.widen (k := 0) (n := 0) (Nat.le_of_ble_eq_true rfl) (Nat.le_of_ble_eq_true rfl) ?_
  obtain ⟨τ, hu, hStl⟩ := stl_of hcach hR
  subst hu
  have M : hM E A s H locs τ Z := M
  refine lv_aload_n C.1 C.2.1 dX8_howManyBelieved_4 rfl (lv_at hl 0 rfl) ?_
  refine g_getI C M 1 9 (by decide) rfl rfl (by decide) fl8_71 (v := hI τ 1 9) rfl dX8_howManyBelieved_5 ?_
  refine g_iret C M hr hlk ?_ (Nat.le_of_ble_eq_true rfl) (Nat.le_of_ble_eq_true rfl) dX8_howManyBelieved_8
  exact ⟨τ, rfl, hStl, rfl⟩

set_option maxHeartbeats 4000000 in
set_option maxRecDepth 100000 in
theorem x_tleast (l : Launch) (E : hEnv) (σ : hMem) (Z : va_W) (n : Nat) (hn : hI σ 1 6 = nI n) (hn40 : n ≤ 40) (hW : csW σ n) (hlg : ∀ k, k < n → vp_in (hA σ 1 1 0 k) 6) (htr : ∀ k, k < n → 0 ≤ (cTr σ k).toInt ∧ (cTr σ k).toInt ≤ 9) (hg01 : ∀ k, hA σ 1 8 0 k = 0 ∨ hA σ 1 8 0 k = 1) (hcach : cach σ n) (a b : Nat) (ha : a < 16) (hb : b < 16) : hMet l yX8_leastSpan cX8_leastSpan 3 (some .int) (4, 0, 0, 95) E σ Z [.ref (hO E 1), .int (nI a), .int (nI b)] (hQi E (fun r u => ∃ τ, u = (τ, Z) ∧ Stl σ n τ ∧ r = if hA τ 2 0 0 (b * 16 + a) = 2147483647 then -2147483648 else -(hA τ 2 0 0 (b * 16 + a)))) := by
  refine hMet.of (by decide) (Nat.le_of_ble_eq_true rfl) (fun p e s m below meth c A ls C M hr hlk hl => ?_)
  have hl : lv_has ls 3 [(0, .ref (hO E 1)), (1, .int (nI a)), (2, .int (nI b))] := hl
  generalize s.heap = H at M ⊢
  generalize ([] : List Loc) = locs at M ⊢
  refine lv_aload_n C.1 C.2.1 dX8_leastSpan_0 rfl (lv_at hl 0 rfl) ?_
  refine g_callv M (g_runV (As := []) (rest := []) C M 1 (x_tsettle l E σ Z n hn hn40 hW hlg htr hg01) clX8_settleBelief ivX8_settleBelief lk8_68 (by decide) rfl rfl ⟨Nat.le_of_ble_eq_true rfl, Nat.le_of_ble_eq_true rfl⟩ hl.1 rfl (Nat.le_of_ble_eq_true rfl) dX8_leastSpan_1 ⟨Nat.le_of_ble_eq_true rfl, Nat.le_of_ble_eq_true rfl⟩) (fun u H locs hR M => ?_)
  refine W.widen (k := 0) (n := 0) (Nat.le_of_ble_eq_true rfl) (Nat.le_of_ble_eq_true rfl) ?_
  obtain ⟨τ, hu, hStl⟩ := stl_of hcach hR
  subst hu
  have M : hM E A s H locs τ Z := M
  refine lv_aload_n C.1 C.2.1 dX8_leastSpan_4 rfl (lv_at hl 0 rfl) ?_
  refine g_getO C M 1 7 2 (by decide) rfl rfl (by decide) fl8_33 dX8_leastSpan_5 ?_
  refine lv_iload_n C.1 C.2.1 dX8_leastSpan_8 rfl (lv_at hl 1 rfl) ?_
  refine lv_iload_n C.1 C.2.1 dX8_leastSpan_9 rfl (lv_at hl 2 rfl) ?_
  refine g_calli M (g_runV (As := [.int (nI a), .int (nI b)]) (rest := []) C M 2 (x_bleast l E τ Z 2 (by decide) rfl rfl a b ha hb) clX0_least ivX0_least lk8_74 (by decide) rfl rfl ⟨Nat.le_of_ble_eq_true rfl, Nat.le_of_ble_eq_true rfl⟩ hl.1 rfl (Nat.le_of_ble_eq_true rfl) dX8_leastSpan_10 ⟨Nat.le_of_ble_eq_true rfl, Nat.le_of_ble_eq_true rfl⟩) (fun r1 u H locs hR M => ?_)
  refine W.widen (k := 0) (n := 0) (Nat.le_of_ble_eq_true rfl) (Nat.le_of_ble_eq_true rfl) ?_
  obtain ⟨rfl, rfl⟩ := hR
  have M : hM E A s H locs τ Z := M
  refine g_iret C M hr hlk ?_ (Nat.le_of_ble_eq_true rfl) (Nat.le_of_ble_eq_true rfl) dX8_leastSpan_13
  exact ⟨τ, rfl, hStl, rfl⟩

set_option maxHeartbeats 4000000 in
set_option maxRecDepth 100000 in
theorem x_tgreat (l : Launch) (E : hEnv) (σ : hMem) (Z : va_W) (n : Nat) (hn : hI σ 1 6 = nI n) (hn40 : n ≤ 40) (hW : csW σ n) (hlg : ∀ k, k < n → vp_in (hA σ 1 1 0 k) 6) (htr : ∀ k, k < n → 0 ≤ (cTr σ k).toInt ∧ (cTr σ k).toInt ≤ 9) (hg01 : ∀ k, hA σ 1 8 0 k = 0 ∨ hA σ 1 8 0 k = 1) (hcach : cach σ n) (a b : Nat) (ha : a < 16) (hb : b < 16) : hMet l yX8_greatestSpan cX8_greatestSpan 3 (some .int) (4, 0, 0, 95) E σ Z [.ref (hO E 1), .int (nI a), .int (nI b)] (hQi E (fun r u => ∃ τ, u = (τ, Z) ∧ Stl σ n τ ∧ r = if hA τ 2 0 0 (a * 16 + b) = 2147483647 then -2147483648 else hA τ 2 0 0 (a * 16 + b))) := by
  refine hMet.of (by decide) (Nat.le_of_ble_eq_true rfl) (fun p e s m below meth c A ls C M hr hlk hl => ?_)
  have hl : lv_has ls 3 [(0, .ref (hO E 1)), (1, .int (nI a)), (2, .int (nI b))] := hl
  generalize s.heap = H at M ⊢
  generalize ([] : List Loc) = locs at M ⊢
  refine lv_aload_n C.1 C.2.1 dX8_greatestSpan_0 rfl (lv_at hl 0 rfl) ?_
  refine g_callv M (g_runV (As := []) (rest := []) C M 1 (x_tsettle l E σ Z n hn hn40 hW hlg htr hg01) clX8_settleBelief ivX8_settleBelief lk8_68 (by decide) rfl rfl ⟨Nat.le_of_ble_eq_true rfl, Nat.le_of_ble_eq_true rfl⟩ hl.1 rfl (Nat.le_of_ble_eq_true rfl) dX8_greatestSpan_1 ⟨Nat.le_of_ble_eq_true rfl, Nat.le_of_ble_eq_true rfl⟩) (fun u H locs hR M => ?_)
  refine W.widen (k := 0) (n := 0) (Nat.le_of_ble_eq_true rfl) (Nat.le_of_ble_eq_true rfl) ?_
  obtain ⟨τ, hu, hStl⟩ := stl_of hcach hR
  subst hu
  have M : hM E A s H locs τ Z := M
  refine lv_aload_n C.1 C.2.1 dX8_greatestSpan_4 rfl (lv_at hl 0 rfl) ?_
  refine g_getO C M 1 7 2 (by decide) rfl rfl (by decide) fl8_33 dX8_greatestSpan_5 ?_
  refine lv_iload_n C.1 C.2.1 dX8_greatestSpan_8 rfl (lv_at hl 1 rfl) ?_
  refine lv_iload_n C.1 C.2.1 dX8_greatestSpan_9 rfl (lv_at hl 2 rfl) ?_
  refine g_calli M (g_runV (As := [.int (nI a), .int (nI b)]) (rest := []) C M 2 (x_bgreat l E τ Z 2 (by decide) rfl rfl a b ha hb) clX0_greatest ivX0_greatest lk8_78 (by decide) rfl rfl ⟨Nat.le_of_ble_eq_true rfl, Nat.le_of_ble_eq_true rfl⟩ hl.1 rfl (Nat.le_of_ble_eq_true rfl) dX8_greatestSpan_10 ⟨Nat.le_of_ble_eq_true rfl, Nat.le_of_ble_eq_true rfl⟩) (fun r1 u H locs hR M => ?_)
  refine W.widen (k := 0) (n := 0) (Nat.le_of_ble_eq_true rfl) (Nat.le_of_ble_eq_true rfl) ?_
  obtain ⟨rfl, rfl⟩ := hR
  have M : hM E A s H locs τ Z := M
  refine g_iret C M hr hlk ?_ (Nat.le_of_ble_eq_true rfl) (Nat.le_of_ble_eq_true rfl) dX8_greatestSpan_13
  exact ⟨τ, rfl, hStl, rfl⟩

set_option maxHeartbeats 4000000 in
set_option maxRecDepth 100000 in
theorem x_ttrust (l : Launch) (E : hEnv) (σ : hMem) (Z : va_W) (x v : Int32) (hx : vp_in x 6) : hMet l yX8_setTrust cX8_setTrust 4 (some .int) (0, 0, 0, 0) E σ Z [.ref (hO E 1), .int x, .int v] (hQi E (fun r u => r = hA σ 1 0 0 x.toNatClampNeg ∧ u = (sI (sA σ 1 0 0 (upd (hA σ 1 0 0) x.toNatClampNeg v)) 1 10 (bz ((¬ hI σ 1 10 = 0) ∧ (hA σ 1 0 0 x.toNatClampNeg = v))), Z))) := by
  refine hMet.of (by decide) (Nat.le_of_ble_eq_true rfl) (fun p e s m below meth c A ls C M hr hlk hl => ?_)
  have hl : lv_has ls 4 [(0, .ref (hO E 1)), (1, .int x), (2, .int v)] := hl
  generalize s.heap = H at M ⊢
  generalize ([] : List Loc) = locs at M ⊢
  refine lv_aload_n C.1 C.2.1 dX8_setTrust_0 rfl (lv_at hl 0 rfl) ?_
  refine g_getA C M 1 0 (by decide) rfl rfl (by decide) fl8_9 dX8_setTrust_1 ?_
  refine lv_iload_n C.1 C.2.1 dX8_setTrust_4 rfl (lv_at hl 1 rfl) ?_
  refine g_iald C M 1 0 (by decide) rfl x.toNatClampNeg rfl (by exact hx) (v := hA σ 1 0 0 x.toNatClampNeg) rfl dX8_setTrust_5 ?_
  refine lv_istore_n (lv' := [(3, .int (hA σ 1 0 0 x.toNatClampNeg)), (0, .ref (hO E 1)), (1, .int x), (2, .int v)]) C.1 C.2.1 dX8_setTrust_6 rfl hl (by decide) rfl (fun ls hl => ?_)
  refine lv_aload_n C.1 C.2.1 dX8_setTrust_7 rfl (lv_at hl 1 rfl) ?_
  refine g_getA C M 1 0 (by decide) rfl rfl (by decide) fl8_9 dX8_setTrust_8 ?_
  refine lv_iload_n C.1 C.2.1 dX8_setTrust_11 rfl (lv_at hl 2 rfl) ?_
  refine lv_iload_n C.1 C.2.1 dX8_setTrust_12 rfl (lv_at hl 3 rfl) ?_
  refine g_iast C M 1 0 (by decide) rfl x.toNatClampNeg rfl (by exact hx) dX8_setTrust_13 (fun H locs M => ?_)
  have M : hM E A s H locs (sA σ 1 0 0 (upd (hA σ 1 0 0) x.toNatClampNeg v)) Z := M
  refine lv_aload_n C.1 C.2.1 dX8_setTrust_14 rfl (lv_at hl 1 rfl) ?_
  refine lv_aload_n C.1 C.2.1 dX8_setTrust_15 rfl (lv_at hl 1 rfl) ?_
  refine g_getI C M 1 10 (by decide) rfl rfl (by decide) fl8_53 (v := hI σ 1 10) rfl dX8_setTrust_16 ?_
  have J2 : ∀ (v1 : Int32) (ev1 : v1 = bz ((¬ (hI σ 1 10) = 0) ∧ ((hA σ 1 0 0 x.toNatClampNeg) = v))) (H : Heap) (locs : List Loc) (ls : Array Slot), hM E A s H locs (sA σ 1 0 0 (upd (hA σ 1 0 0) x.toNatClampNeg v)) Z → lv_has ls 4 [(3, .int (hA σ 1 0 0 x.toNatClampNeg)), (0, .ref (hO E 1)), (1, .int x), (2, .int v)] → W p l e (hRm (0, 0, 0, 0)) s m [.ref (hO E 1), .int x, .int v].toArray below meth c H locs 0 0 (MQ below (hQi E (fun r u => r = hA σ 1 0 0 x.toNatClampNeg ∧ u = (sI (sA σ 1 0 0 (upd (hA σ 1 0 0) x.toNatClampNeg v)) 1 10 (bz ((¬ hI σ 1 10 = 0) ∧ (hA σ 1 0 0 x.toNatClampNeg = v))), Z)) A) [.ref (hO E 1), .int x, .int v].toArray s 0 0 A) (F0 m 32 ls [.int v1, .ref (hO E 1)]) := by
    intro v1 ev1 H locs ls M hl
    subst ev1
    refine g_putZ C M 1 10 bz_bit (by decide) rfl rfl (by decide) fl8_53 rfl rfl dX8_setTrust_32 (fun H locs M => ?_)
    refine lv_iload_n C.1 C.2.1 dX8_setTrust_35 rfl (lv_at hl 0 rfl) ?_
    refine g_iret C M hr hlk ?_ (Nat.le_of_ble_eq_true rfl) (Nat.le_of_ble_eq_true rfl) dX8_setTrust_36
    exact ⟨rfl, rfl⟩
  refine lv_if_eq (tgt := 31) C.1 C.2.1 dX8_setTrust_19 (by decide) (fun c_19 => ?_) (fun c_19 => ?_)
  · skip
    refine lv_iconst (v := 0) C.1 C.2.1 dX8_setTrust_31 (by decide) ?_
    exact J2 _ (by first | (simp only [bz, c_19, not_false_eq_true, not_true_eq_false, and_self, and_true, true_and, and_false, false_and, or_true, true_or, or_false, false_or, Bool.false_eq_true, if_true, if_false, ↓reduceIte]; done) | simp [bz, c_19]) _ _ _ M (lv_sub hl [0, 1, 2, 3] rfl)
  · skip
    refine lv_iload_n C.1 C.2.1 dX8_setTrust_22 rfl (lv_at hl 0 rfl) ?_
    refine lv_iload_n C.1 C.2.1 dX8_setTrust_23 rfl (lv_at hl 3 rfl) ?_
    refine lv_icmp_ne (tgt := 31) C.1 C.2.1 dX8_setTrust_24 (by decide) (fun c_24 => ?_) (fun c_24 => ?_)
    · skip
      refine lv_iconst (v := 0) C.1 C.2.1 dX8_setTrust_31 (by decide) ?_
      exact J2 _ (by first | (simp only [bz, c_19, c_24, not_false_eq_true, not_true_eq_false, and_self, and_true, true_and, and_false, false_and, or_true, true_or, or_false, false_or, Bool.false_eq_true, if_true, if_false, ↓reduceIte]; done) | simp [bz, c_19, c_24]) _ _ _ M (lv_sub hl [0, 1, 2, 3] rfl)
    · skip
      refine lv_iconst (v := 1) C.1 C.2.1 dX8_setTrust_27 (by decide) ?_
      refine lv_goto (tgt := 32) C.1 C.2.1 dX8_setTrust_28 (by decide) ?_
      exact J2 _ (by first | (simp only [bz, c_19, c_24, not_false_eq_true, not_true_eq_false, and_self, and_true, true_and, and_false, false_and, or_true, true_or, or_false, false_or, Bool.false_eq_true, if_true, if_false, ↓reduceIte]; done) | simp [bz, c_19, c_24]) _ _ _ M (lv_sub hl [0, 1, 2, 3] rfl)

def cSay (σ : hMem) (n : Nat) (l a b low high : Int32) : hMem := sI (sI (sI (sA (sA (sA (sA (sA σ 1 1 0 (upd (hA σ 1 1 0) n l)) 1 2 0 (upd (hA σ 1 2 0) n a)) 1 3 0 (upd (hA σ 1 3 0) n b)) 1 4 0 (upd (hA σ 1 4 0) n low)) 1 5 0 (upd (hA σ 1 5 0) n high)) 1 6 (nI (n + 1))) 1 10 0) 1 14 0

set_option maxHeartbeats 4000000 in
set_option maxRecDepth 100000 in
theorem x_tadd (l : Launch) (E : hEnv) (σ : hMem) (Z : va_W) (n : Nat) (hn : hI σ 1 6 = nI n) (hn40 : n ≤ 40) (l9 a b low high : Int32) : hMet l yX8_add cX8_add 6 (some .int) (0, 0, 0, 0) E σ Z [.ref (hO E 1), .int l9, .int a, .int b, .int low, .int high] (hQi E (fun r u => r = (if nI n < 40 then nI n else -1) ∧ u = (if nI n < 40 then cSay σ n l9 a b low high else σ, Z))) := by
  refine hMet.of (by decide) (Nat.le_of_ble_eq_true rfl) (fun p e s m below meth c A ls C M hr hlk hl => ?_)
  have hl : lv_has ls 6 [(0, .ref (hO E 1)), (1, .int l9), (2, .int a), (3, .int b), (4, .int low), (5, .int high)] := hl
  generalize s.heap = H at M ⊢
  generalize ([] : List Loc) = locs at M ⊢
  refine lv_aload_n C.1 C.2.1 dX8_add_0 rfl (lv_at hl 0 rfl) ?_
  refine g_getI C M 1 6 (by decide) rfl rfl (by decide) fl8_57 (v := nI n) hn dX8_add_1 ?_
  refine lv_bipush (v := 40) C.1 C.2.1 dX8_add_4 (by decide) ?_
  refine lv_icmp_lt (tgt := 11) C.1 C.2.1 dX8_add_6 (by decide) (fun c_6 => ?_) (fun c_6 => ?_)
  · skip
    have hlt : n < 40 := (nI_ltI (by omega) (by decide)).mp c_6
    refine lv_aload_n C.1 C.2.1 dX8_add_11 rfl (lv_at hl 0 rfl) ?_
    refine g_getA C M 1 1 (by decide) rfl rfl (by decide) fl8_15 dX8_add_12 ?_
    refine lv_aload_n C.1 C.2.1 dX8_add_15 rfl (lv_at hl 0 rfl) ?_
    refine g_getI C M 1 6 (by decide) rfl rfl (by decide) fl8_57 (v := nI n) hn dX8_add_16 ?_
    refine lv_iload_n C.1 C.2.1 dX8_add_19 rfl (lv_at hl 1 rfl) ?_
    refine g_iast C M 1 1 (by decide) rfl n (nI_clamp (by omega)) (vp_in_nI (by omega) (by decide)) dX8_add_20 (fun H locs M => ?_)
    have M : hM E A s H locs (sA σ 1 1 0 (upd (hA σ 1 1 0) n l9)) Z := M
    refine lv_aload_n C.1 C.2.1 dX8_add_21 rfl (lv_at hl 0 rfl) ?_
    refine g_getA C M 1 2 (by decide) rfl rfl (by decide) fl8_18 dX8_add_22 ?_
    refine lv_aload_n C.1 C.2.1 dX8_add_25 rfl (lv_at hl 0 rfl) ?_
    refine g_getI C M 1 6 (by decide) rfl rfl (by decide) fl8_57 (v := nI n) hn dX8_add_26 ?_
    refine lv_iload_n C.1 C.2.1 dX8_add_29 rfl (lv_at hl 2 rfl) ?_
    refine g_iast C M 1 2 (by decide) rfl n (nI_clamp (by omega)) (vp_in_nI (by omega) (by decide)) dX8_add_30 (fun H locs M => ?_)
    have M : hM E A s H locs (sA (sA σ 1 1 0 (upd (hA σ 1 1 0) n l9)) 1 2 0 (upd (hA σ 1 2 0) n a)) Z := M
    refine lv_aload_n C.1 C.2.1 dX8_add_31 rfl (lv_at hl 0 rfl) ?_
    refine g_getA C M 1 3 (by decide) rfl rfl (by decide) fl8_21 dX8_add_32 ?_
    refine lv_aload_n C.1 C.2.1 dX8_add_35 rfl (lv_at hl 0 rfl) ?_
    refine g_getI C M 1 6 (by decide) rfl rfl (by decide) fl8_57 (v := nI n) hn dX8_add_36 ?_
    refine lv_iload_n C.1 C.2.1 dX8_add_39 rfl (lv_at hl 3 rfl) ?_
    refine g_iast C M 1 3 (by decide) rfl n (nI_clamp (by omega)) (vp_in_nI (by omega) (by decide)) dX8_add_40 (fun H locs M => ?_)
    have M : hM E A s H locs (sA (sA (sA σ 1 1 0 (upd (hA σ 1 1 0) n l9)) 1 2 0 (upd (hA σ 1 2 0) n a)) 1 3 0 (upd (hA σ 1 3 0) n b)) Z := M
    refine lv_aload_n C.1 C.2.1 dX8_add_41 rfl (lv_at hl 0 rfl) ?_
    refine g_getA C M 1 4 (by decide) rfl rfl (by decide) fl8_24 dX8_add_42 ?_
    refine lv_aload_n C.1 C.2.1 dX8_add_45 rfl (lv_at hl 0 rfl) ?_
    refine g_getI C M 1 6 (by decide) rfl rfl (by decide) fl8_57 (v := nI n) hn dX8_add_46 ?_
    refine lv_iload C.1 C.2.1 dX8_add_49 (lv_at hl 4 rfl) ?_
    refine g_iast C M 1 4 (by decide) rfl n (nI_clamp (by omega)) (vp_in_nI (by omega) (by decide)) dX8_add_51 (fun H locs M => ?_)
    have M : hM E A s H locs (sA (sA (sA (sA σ 1 1 0 (upd (hA σ 1 1 0) n l9)) 1 2 0 (upd (hA σ 1 2 0) n a)) 1 3 0 (upd (hA σ 1 3 0) n b)) 1 4 0 (upd (hA σ 1 4 0) n low)) Z := M
    refine lv_aload_n C.1 C.2.1 dX8_add_52 rfl (lv_at hl 0 rfl) ?_
    refine g_getA C M 1 5 (by decide) rfl rfl (by decide) fl8_27 dX8_add_53 ?_
    refine lv_aload_n C.1 C.2.1 dX8_add_56 rfl (lv_at hl 0 rfl) ?_
    refine g_getI C M 1 6 (by decide) rfl rfl (by decide) fl8_57 (v := nI n) hn dX8_add_57 ?_
    refine lv_iload C.1 C.2.1 dX8_add_60 (lv_at hl 5 rfl) ?_
    refine g_iast C M 1 5 (by decide) rfl n (nI_clamp (by omega)) (vp_in_nI (by omega) (by decide)) dX8_add_62 (fun H locs M => ?_)
    have M : hM E A s H locs (sA (sA (sA (sA (sA σ 1 1 0 (upd (hA σ 1 1 0) n l9)) 1 2 0 (upd (hA σ 1 2 0) n a)) 1 3 0 (upd (hA σ 1 3 0) n b)) 1 4 0 (upd (hA σ 1 4 0) n low)) 1 5 0 (upd (hA σ 1 5 0) n high)) Z := M
    refine lv_aload_n C.1 C.2.1 dX8_add_63 rfl (lv_at hl 0 rfl) ?_
    refine lv_dup C.1 C.2.1 dX8_add_64 rfl ?_
    refine g_getI C M 1 6 (by decide) rfl rfl (by decide) fl8_57 (v := nI n) hn dX8_add_65 ?_
    refine lv_iconst (v := 1) C.1 C.2.1 dX8_add_68 (by decide) ?_
    refine lv_iadd C.1 C.2.1 dX8_add_69 ?_
    refine g_rei (v := nI (n + 1)) (nI_1 _) ?_
    refine g_putI C M 1 6 (by decide) rfl rfl (by decide) fl8_57 rfl rfl dX8_add_70 (fun H locs M => ?_)
    refine lv_aload_n C.1 C.2.1 dX8_add_73 rfl (lv_at hl 0 rfl) ?_
    refine lv_iconst (v := 0) C.1 C.2.1 dX8_add_74 (by decide) ?_
    refine g_putZ C M 1 10 (Or.inl rfl) (by decide) rfl rfl (by decide) fl8_53 rfl rfl dX8_add_75 (fun H locs M => ?_)
    refine lv_aload_n C.1 C.2.1 dX8_add_78 rfl (lv_at hl 0 rfl) ?_
    refine lv_iconst (v := 0) C.1 C.2.1 dX8_add_79 (by decide) ?_
    refine g_putZ C M 1 14 (Or.inl rfl) (by decide) rfl rfl (by decide) fl8_61 rfl rfl dX8_add_80 (fun H locs M => ?_)
    refine lv_aload_n C.1 C.2.1 dX8_add_83 rfl (lv_at hl 0 rfl) ?_
    refine g_getI C M 1 6 (by decide) rfl rfl (by decide) fl8_57 (v := nI (n + 1)) rfl dX8_add_84 ?_
    refine lv_iconst (v := 1) C.1 C.2.1 dX8_add_87 (by decide) ?_
    refine lv_isub C.1 C.2.1 dX8_add_88 ?_
    refine g_rei (v := nI n) (nI_pred _) ?_
    refine g_iret C M hr hlk ?_ (Nat.le_of_ble_eq_true rfl) (Nat.le_of_ble_eq_true rfl) dX8_add_89
    simp only [cSay, c_6, not_false_eq_true, not_true_eq_false, and_self, and_true, true_and, and_false, false_and, or_true, true_or, or_false, false_or, Bool.false_eq_true, if_true, if_false, ↓reduceIte]
  · skip
    refine lv_iconst (v := (-1)) C.1 C.2.1 dX8_add_9 (by decide) ?_
    refine g_iret C M hr hlk ?_ (Nat.le_of_ble_eq_true rfl) (Nat.le_of_ble_eq_true rfl) dX8_add_10
    simp only [cSay, c_6, not_false_eq_true, not_true_eq_false, and_self, and_true, true_and, and_false, false_and, or_true, true_or, or_false, false_or, Bool.false_eq_true, if_true, if_false, ↓reduceIte]

set_option maxHeartbeats 4000000 in
set_option maxRecDepth 100000 in
theorem x_thas (l : Launch) (E : hEnv) (σ : hMem) (Z : va_W) (n : Nat) (hn : hI σ 1 6 = nI n) (x : Int32) : hMet l yX8_has cX8_has 2 (some .boolean) (1, 0, 0, 22) E σ Z [.ref (hO E 1), .int x] (hQi E (fun r u => r = bz (inB x 0 (nI n - 1) = true) ∧ u = (σ, Z))) := by
  refine hMet.of (by decide) (Nat.le_of_ble_eq_true rfl) (fun p e s m below meth c A ls C M hr hlk hl => ?_)
  have hl : lv_has ls 2 [(0, .ref (hO E 1)), (1, .int x)] := hl
  generalize s.heap = H at M ⊢
  generalize ([] : List Loc) = locs at M ⊢
  refine lv_iload_n C.1 C.2.1 dX8_has_0 rfl (lv_at hl 1 rfl) ?_
  refine lv_iconst (v := 0) C.1 C.2.1 dX8_has_1 (by decide) ?_
  refine lv_aload_n C.1 C.2.1 dX8_has_2 rfl (lv_at hl 0 rfl) ?_
  refine g_getI C M 1 6 (by decide) rfl rfl (by decide) fl8_57 (v := nI n) hn dX8_has_3 ?_
  refine lv_iconst (v := 1) C.1 C.2.1 dX8_has_6 (by decide) ?_
  refine lv_isub C.1 C.2.1 dX8_has_7 ?_
  refine g_calli M (g_runS (As := [.int x, .int 0, .int ((nI n) - 1)]) (rest := []) C M (x_within l E σ Z x 0 ((nI n) - 1)) clX11_isWithin stX11_isWithin lk8_64 rfl ⟨Nat.le_of_ble_eq_true rfl, Nat.le_of_ble_eq_true rfl⟩ hl.1 rfl (Nat.le_of_ble_eq_true rfl) dX8_has_8 ⟨Nat.le_of_ble_eq_true rfl, Nat.le_of_ble_eq_true rfl⟩) (fun r1 u H locs hR M => ?_)
  refine W.widen (k := 0) (n := 0) (Nat.le_of_ble_eq_true rfl) (Nat.le_of_ble_eq_true rfl) ?_
  obtain ⟨rfl, rfl⟩ := hR
  have M : hM E A s H locs σ Z := M
  refine g_zret bz_nar C M hr hlk ?_ (Nat.le_of_ble_eq_true rfl) (Nat.le_of_ble_eq_true rfl) dX8_has_11
  exact ⟨rfl, rfl⟩
