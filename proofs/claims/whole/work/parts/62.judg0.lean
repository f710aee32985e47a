set_option maxHeartbeats 4000000 in
set_option maxRecDepth 100000 in
theorem x_great (l : Launch) (E : hEnv) (σ : hMem) (Z : va_W) (ns : Nat) (AW G K : Int64) (P : Nat → Nat → Int64) (Q : Nat → Nat → Int32) (HT : Nat → Nat → Int64) (hns0 : 0 < ns) (hns8 : ns ≤ 8) : hMet l yX4_greatestRest cX4_greatestRest 3 (some .int) (0, 0, 0, 0) E (cM σ ns AW G K P Q HT) Z [.ref (hO E 12)] (hQi E (fun r u => r = nI (gr (fun i => P i 3) ns) ∧ u = (cM σ ns AW G K P Q HT, Z))) := by
  refine hMet.of (by decide) (Nat.le_of_ble_eq_true rfl) (fun p e s m below meth c A ls C M hr hlk hl => ?_)
  have hl : lv_has ls 3 [(0, .ref (hO E 12))] := hl
  generalize s.heap = H at M ⊢
  generalize ([] : List Loc) = locs at M ⊢
  refine lv_iconst (v := 0) C.1 C.2.1 dX4_greatestRest_0 (by decide) ?_
  refine lv_istore_n (lv' := [(1, .int 0), (0, .ref (hO E 12))]) C.1 C.2.1 dX4_greatestRest_1 rfl hl (by decide) rfl (fun ls hl => ?_)
  refine lv_iconst (v := 1) C.1 C.2.1 dX4_greatestRest_2 (by decide) ?_
  refine lv_istore_n (lv' := [(2, .int 1), (1, .int 0), (0, .ref (hO E 12))]) C.1 C.2.1 dX4_greatestRest_3 rfl hl (by decide) rfl (fun ls hl => ?_)
  have L4 : ∀ (n9 : Nat) (k : Nat), (k ≤ ns) → (1 ≤ k) → ns - k < n9 → ∀ (H : Heap) (locs : List Loc) (ls : Array Slot), hM E A s H locs (cM σ ns AW G K P Q HT) Z → lv_has ls 3 [(1, .int (nI (gr (fun i => P i 3) k))), (2, .int (nI k)), (0, .ref (hO E 12))] → W p l e (hRm (0, 0, 0, 0)) s m [.ref (hO E 12)].toArray below meth c H locs 0 0 (MQ below (hQi E (fun r u => r = nI (gr (fun i => P i 3) ns) ∧ u = (cM σ ns AW G K P Q HT, Z)) A) [.ref (hO E 12)].toArray s 0 0 A) (F0 m 4 ls []) := by
    intro n9
    induction n9 with
    | zero =>
      intro k hk hk0 hn9
      exact absurd hn9 (Nat.not_lt_zero _)
    | succ n9 ih4 =>
      intro k hk hk0 hn4 H locs ls M hl
      refine lv_iload_n C.1 C.2.1 dX4_greatestRest_4 rfl (lv_at hl 1 rfl) ?_
      refine lv_aload_n C.1 C.2.1 dX4_greatestRest_5 rfl (lv_at hl 2 rfl) ?_
      refine g_getI C M 12 9 (by decide) rfl rfl (by decide) fl4_29 (v := nI ns) rfl dX4_greatestRest_6 ?_
      refine lv_icmp_ge (tgt := 42) C.1 C.2.1 dX4_greatestRest_9 (by decide) (fun c_9 => ?_) (fun c_9 => ?_)
      · skip
        have hkn : k = ns := by have := ct_ge (n := ns) (k := k) c_9; omega
        have hl : lv_has ls 3 [(1, .int (nI (gr (fun i => P i 3) ns))), (2, .int (nI ns)), (0, .ref (hO E 12))] := by first | exact hl | (rw [hkn] at hl; exact hl)
        have M : hM E A s H locs (cM σ ns AW G K P Q HT) Z := by first | exact M | (rw [hkn] at M; exact M)
        refine lv_iload_n C.1 C.2.1 dX4_greatestRest_42 rfl (lv_at hl 0 rfl) ?_
        refine g_iret C M hr hlk ?_ (Nat.le_of_ble_eq_true rfl) (Nat.le_of_ble_eq_true rfl) dX4_greatestRest_43
        exact ⟨rfl, rfl⟩
      · skip
        have hk1 : k < ns := ct_nge (n := ns) (k := k) c_9
        have hgr := gr_lt (fun i => P i 3) k (by omega)
        refine lv_aload_n C.1 C.2.1 dX4_greatestRest_12 rfl (lv_at hl 2 rfl) ?_
        refine g_getQ C M 12 2 (by decide) rfl rfl (by decide) fl4_20 dX4_greatestRest_13 ?_
        refine lv_iload_n C.1 C.2.1 dX4_greatestRest_16 rfl (lv_at hl 1 rfl) ?_
        refine g_aald7 C M 12 2 (by decide) rfl (by decide) k (nI_clamp (by omega)) (vp_in_nI (by omega) (by decide)) dX4_greatestRest_17 ?_
        refine g_getL C M (35 + k) 3 (by omega) (by rw [lay35 (by omega)]; rfl) (by rw [ci35 (by omega)]; rfl) (by decide) fl4_78 (v := P k 3) (cM_L (by omega)) dX4_greatestRest_18 ?_
        refine lv_aload_n C.1 C.2.1 dX4_greatestRest_21 rfl (lv_at hl 2 rfl) ?_
        refine g_getQ C M 12 2 (by decide) rfl rfl (by decide) fl4_20 dX4_greatestRest_22 ?_
        refine lv_iload_n C.1 C.2.1 dX4_greatestRest_25 rfl (lv_at hl 0 rfl) ?_
        refine g_aald7 C M 12 2 (by decide) rfl (by decide) (gr (fun i => P i 3) k) (nI_clamp (by omega)) (vp_in_nI (by omega) (by decide)) dX4_greatestRest_26 ?_
        refine g_getL C M (35 + (gr (fun i => P i 3) k)) 3 (by omega) (by rw [lay35 (by omega)]; rfl) (by rw [ci35 (by omega)]; rfl) (by decide) fl4_78 (v := P (gr (fun i => P i 3) k) 3) (cM_L (by omega)) dX4_greatestRest_27 ?_
        refine W.lcmp C.1 C.2.1 dX4_greatestRest_30 ?_
        refine lv_if_le (tgt := 36) C.1 C.2.1 dX4_greatestRest_31 (by decide) (fun c_31 => ?_) (fun c_31 => ?_)
        · skip
          have c_31 : ¬ (P (gr (fun i => P i 3) k) 3) < (P k 3) := lc_le0.mp c_31
          refine lv_iinc (v := nI (k + 1)) (lv' := [(2, .int (nI (k + 1))), (1, .int (nI (gr (fun i => P i 3) k))), (0, .ref (hO E 12))]) C.1 C.2.1 dX4_greatestRest_36 hl (k := 1) rfl (nI_succ _).symm (by decide) rfl (fun ls hl => ?_)
          refine lv_goto (tgt := 4) C.1 C.2.1 dX4_greatestRest_39 (by decide) ?_
          have q1 : nI (gr (fun i => P i 3) k) = nI (gr (fun i => P i 3) (k + 1)) := by first | rfl | (show _ = nI (if P (gr (fun i => P i 3) k) 3 < P k 3 then k else gr (fun i => P i 3) k); first | rw [if_pos c_31] | rw [if_neg c_31])
          have hl : lv_has ls 3 [(1, .int (nI (gr (fun i => P i 3) (k + 1)))), (2, .int (nI (k + 1))), (0, .ref (hO E 12))] := by
            rw [← q1]
            exact lv_sub hl [1, 0, 2] rfl
          exact ih4 (k + 1) hk1 (by omega) (by omega) _ _ _ M hl
        · skip
          have c_31 : (P (gr (fun i => P i 3) k) 3) < (P k 3) := lc_le1.mp c_31
          refine lv_iload_n C.1 C.2.1 dX4_greatestRest_34 rfl (lv_at hl 1 rfl) ?_
          refine lv_istore_n (lv' := [(1, .int (nI k)), (2, .int (nI k)), (0, .ref (hO E 12))]) C.1 C.2.1 dX4_greatestRest_35 rfl hl (by decide) rfl (fun ls hl => ?_)
          refine lv_iinc (v := nI (k + 1)) (lv' := [(2, .int (nI (k + 1))), (1, .int (nI k)), (0, .ref (hO E 12))]) C.1 C.2.1 dX4_greatestRest_36 hl (k := 1) rfl (nI_succ _).symm (by decide) rfl (fun ls hl => ?_)
          refine lv_goto (tgt := 4) C.1 C.2.1 dX4_greatestRest_39 (by decide) ?_
          have q2 : nI k = nI (gr (fun i => P i 3) (k + 1)) := by first | rfl | (show _ = nI (if P (gr (fun i => P i 3) k) 3 < P k 3 then k else gr (fun i => P i 3) k); first | rw [if_pos c_31] | rw [if_neg c_31])
          have hl : lv_has ls 3 [(1, .int (nI (gr (fun i => P i 3) (k + 1)))), (2, .int (nI (k + 1))), (0, .ref (hO E 12))] := by
            rw [← q2]
            exact lv_sub hl [1, 0, 2] rfl
          exact ih4 (k + 1) hk1 (by omega) (by omega) _ _ _ M hl
  have q3 : 0 = nI (gr (fun i => P i 3) 1) := by first | rfl | (show (0 : Int32) = nI (if _ then 0 else 0); split <;> rfl)
  have q4 : 1 = nI 1 := by first | rfl | (show (0 : Int32) = nI (if _ then 0 else 0); split <;> rfl)
  have hl : lv_has ls 3 [(1, .int (nI (gr (fun i => P i 3) 1))), (2, .int (nI 1)), (0, .ref (hO E 12))] := by
    rw [← q3, ← q4]
    exact lv_sub hl [1, 0, 2] rfl
  exact L4 ((ns - 1) + 1) 1 hns0 (Nat.le_refl 1) (Nat.lt_succ_self _) _ _ _ M hl

theorem gr_congr {r r' : Nat → Int64} : ∀ n, (∀ i, i < n → r i = r' i) → gr r n = gr r' n
  | 0, _ => rfl
  | n + 1, h => by
    have ih := gr_congr n (fun i hi => h i (by omega))
    unfold gr
    by_cases h0 : n = 0
    · subst h0
      rw [show gr r 0 = 0 from rfl, show gr r' 0 = 0 from rfl, if_neg (l_irr _), if_neg (l_irr _)]
    · rw [ih, h n (by omega), h (gr r' n) (by have := gr_lt r' n (by omega); omega)]
theorem sumL_congr {f g : Nat → Int64} : ∀ n, (∀ i, i < n → f i = g i) → sumL f n = sumL g n
  | 0, _ => rfl
  | n + 1, h => by
    show sumL f n + f n = sumL g n + g n
    rw [sumL_congr n (fun i hi => h i (by omega)), h n (by omega)]
/-- belief is settled in Y, or it is as it was -/
def Stq (σ : hMem) (n : Nat) (Y : hMem) : Prop := Y = σ ∨ Stl σ n Y
theorem Stq.fm {σ Y : hMem} {n : Nat} (h : Stq σ n Y) : Y = σ ∨ ∃ g f c, c ≤ n ∧ cBel σ n g f c ∧ Y = sI (bM σ g f c) 1 10 1 := by
  rcases h with h | ⟨g, f, c, h1, h2, h3, h4, h5, h6 | h6⟩
  · exact Or.inl h
  · exact Or.inl h6
  · exact Or.inr ⟨g, f, c, h1, h2, h6⟩
theorem Stq.I {σ Y : hMem} {n j k : Nat} (h : Stq σ n Y) (hj : ¬ j = 1) : hI Y j k = hI σ j k := by
  rcases h.fm with h | ⟨g, f, c, _, _, h⟩
  · rw [h]
  · rw [h, hI_sI, if_neg (fun q => hj q.2)]
    show hI (sI (sA (sA σ 2 0 0 f) 1 8 0 g) 1 9 (nI c)) j k = _
    rw [hI_sI, if_neg (fun q => hj q.2)]
    rfl
theorem Stq.ok {σ Y : hMem} {n : Nat} (h : Stq σ n Y) (hn : hI σ 1 6 = nI n) (hW : csW σ n) (hlg : ∀ k, k < n → vp_in (hA σ 1 1 0 k) 6) (htr : ∀ k, k < n → 0 ≤ (cTr σ k).toInt ∧ (cTr σ k).toInt ≤ 9) (hg01 : ∀ k, hA σ 1 8 0 k = 0 ∨ hA σ 1 8 0 k = 1) (hc : cach σ n) : hI Y 1 6 = nI n ∧ csW Y n ∧ (∀ k, k < n → vp_in (hA Y 1 1 0 k) 6) ∧ (∀ k, k < n → 0 ≤ (cTr Y k).toInt ∧ (cTr Y k).toInt ≤ 9) ∧ (∀ k, hA Y 1 8 0 k = 0 ∨ hA Y 1 8 0 k = 1) ∧ cach Y n := by
  rcases h.fm with h | ⟨g, f, c, h1, h2, h⟩
  · rw [h]; exact ⟨hn, hW, hlg, htr, hg01, hc⟩
  · subst h
    exact ⟨hn, hW, hlg, htr, fun k => h2.2.2.2 k, fun _ => ⟨c, h1, rfl, h2⟩⟩
theorem Stq.tr {σ Y Y' : hMem} {n : Nat} (h : Stq σ n Y) (h' : Stl Y n Y') : Stl σ n Y' := by
  rcases h.fm with h | ⟨g, f, c, h1, h2, h⟩
  · rw [h] at h'; exact h'
  · subst h
    obtain ⟨g', f', c', a1, a2, a3, a4, a5, a6 | a6⟩ := h'
    · subst a6
      exact ⟨g, f, c, h1, h2, rfl, rfl, rfl, Or.inr rfl⟩
    · refine ⟨g', f', c', a1, a2, a3, a4, a5, Or.inr ?_⟩
      rw [a6]
      have e : bM (sI (bM σ g f c) 1 10 1) g' f' c' = sI (bM σ g' f' c') 1 10 1 := by
        have e1 : sA (sA (sA (sA σ 2 0 0 f) 1 8 0 g) 2 0 0 f') 1 8 0 g' = sA (sA σ 2 0 0 f') 1 8 0 g' := by
          unfold sA
          congr 1; congr 1; congr 1
          funext x y z
          by_cases q1 : y = 0 ∧ z = 0 ∧ x = 2
          · simp [q1]
          · by_cases q2 : y = 8 ∧ z = 0 ∧ x = 1
            · simp [q1, q2]
            · simp [q1, q2]
        show sI (sI (sI (sA (sA (sA (sA σ 2 0 0 f) 1 8 0 g) 2 0 0 f') 1 8 0 g') 1 9 (nI c)) 1 10 1) 1 9 (nI c') = _
        rw [e1, sI_sI_c _ 1 9 1 10 _ _ (by decide), sI_sI]
        rfl
      rw [e, sI_sI]
theorem stl_cM {Y τ : hMem} {n ns : Nat} {AW G K : Int64} {P : Nat → Nat → Int64} {Q : Nat → Nat → Int32} {HT : Nat → Nat → Int64} (h : Stl (cM Y ns AW G K P Q HT) n τ) : ∃ Y', τ = cM Y' ns AW G K P Q HT ∧ Stl Y n Y' := by
  obtain ⟨g, f, c, h1, h2, h3, h4, h5, h6 | h6⟩ := h
  · subst h6
    exact ⟨Y, rfl, g, f, c, h1, h2, h3, h4, h5, Or.inl rfl⟩
  · refine ⟨sI (bM Y g f c) 1 10 1, ?_, g, f, c, h1, h2, rfl, rfl, rfl, Or.inr rfl⟩
    rw [h6]
    show sI (sI (sA (sA (cM Y ns AW G K P Q HT) 2 0 0 f) 1 8 0 g) 1 9 (nI c)) 1 10 1 = _
    have e1 : sA (sA (cM Y ns AW G K P Q HT) 2 0 0 f) 1 8 0 g = cM (sA (sA Y 2 0 0 f) 1 8 0 g) ns AW G K P Q HT := rfl
    rw [e1]
    unfold cM
    rw [jM_sIo (by decide), jM_sIo (by decide)]
    show jM (sL (sL (sL (sI (sI (sI (sA (sA Y 2 0 0 f) 1 8 0 g) 12 9 (nI ns)) 1 9 (nI c)) 1 10 1) 12 10 AW) 12 7 G) 12 8 K) P Q HT = _
    rw [sI_sI_c _ 1 9 12 9 _ _ (by decide), sI_sI_c _ 1 10 12 9 _ _ (by decide)]
    rfl
def spC (f : Nat → Int32) (b a : Nat) : Int32 := if f (b * 16 + a) = 2147483647 then -2147483648 else -(f (b * 16 + a))
def hrC (f : Nat → Int32) (b a : Nat) : Int64 := (if 0 < spC f b a then spC f b a else 0).toInt64
theorem cEP_sym (σ : hMem) (n : Nat) (P : Nat → Prop) : ∀ a b w, cEP σ n P a b w → ∃ w', cEP σ n P b a w' := by
  rintro a b w ⟨k, h1, h2, h | h⟩
  · exact ⟨-(cLo σ k), k, h1, h2, Or.inr ⟨h.2.1, h.1, rfl⟩⟩
  · exact ⟨cHi σ k, k, h1, h2, Or.inl ⟨h.2.1, h.1, rfl⟩⟩
theorem cEP_bd {σ : hMem} {n : Nat} (hW : csW σ n) (P : Nat → Prop) : ∀ a b w, cEP σ n P a b w → w ≤ 10000 := by
  rintro a b w ⟨k, h1, h2, h | h⟩
  · have := (hW k h1).2.2.2.2.2
    omega
  · have := (hW k h1).2.2.2.1
    omega
theorem hrC_N {σ : hMem} {n : Nat} {g f : Nat → Int32} {c : Nat} (hW : csW σ n) (h : cBel σ n g f c) {a b : Nat} (ha : a < 16) (hb : b < 16) : ∃ x, x ≤ 150000 ∧ hrC f b a = lN x := by
  unfold hrC spC
  by_cases e : f (b * 16 + a) = 2147483647
  · rw [if_pos e]
    exact ⟨0, by decide, rfl⟩
  · rw [if_neg e]
    have hx : cX f b a = some (f (b * 16 + a)).toInt := cE_some.mpr ⟨e, rfl⟩
    have h1 := pt_dn (cEP_in hW _) h.2.1 (cEP_bd hW _) (cEP_sym σ n _) hb ha hx
    have h2 := pt_up (cEP_in hW _) h.2.1 (cEP_bd hW _) hb ha hx
    generalize f (b * 16 + a) = v at *
    have hneg : (-v).toInt = -(v.toInt) := by
      rw [Int32.toInt_neg]
      exact Int.bmod_eq_of_le (by omega) (by omega)
    by_cases e2 : 0 < -v
    · rw [if_pos e2]
      rw [Int32.lt_iff_toInt_lt, hneg] at e2
      have e0 : (0 : Int32).toInt = 0 := rfl
      rw [e0] at e2
      have : -v = nI (-(v.toInt)).toNat := by
        apply Int32.toInt_inj.mp
        rw [hneg, nI_toInt (by omega)]
        omega
      rw [this, nI_l (by omega)]
      exact ⟨_, by omega, rfl⟩
    · rw [if_neg e2]
      exact ⟨0, by decide, rfl⟩
theorem cBel_f {σ : hMem} {n : Nat} {g f g' f' : Nat → Int32} {c c' : Nat} (hW : csW σ n) (h : cBel σ n g f c) (h' : cBel σ n g' f' c') {a b : Nat} (ha : a < 16) (hb : b < 16) : f (b * 16 + a) = f' (b * 16 + a) := by
  have hP := Bel.uniq (fun A B hAB => NoNeg.congr (fun a b w => cEP_congr hAB a b w)) h.1 h'.1
  have h2 : PT (cEP σ n (fun k => ¬ g k = 0)) 16 (cX f') := h'.2.1.congr (Nat.le_refl _) (fun a b w => cEP_congr (fun j hj => (hP j hj).symm) a b w) (cEP_in hW _) (fun _ _ _ _ => rfl)
  have h3 := pt_uniq (cEP_in hW _) h.2.1 h2 hb ha
  unfold cX at h3
  by_cases e : f (b * 16 + a) = 2147483647
  · have e1 := cE_none.mpr e
    rw [e1] at h3
    rw [e, cE_none.mp h3.symm]
  · have e1 : cE (f (b * 16 + a)) = some (f (b * 16 + a)).toInt := cE_some.mpr ⟨e, rfl⟩
    rw [e1] at h3
    exact (Int32.toInt_inj.mp (cE_some.mp h3.symm).2).symm
def caN (σ : hMem) (i : Nat) : Nat := (hI σ (19 + i) 2).toNatClampNeg
def lfN (σ : hMem) (i : Nat) : Nat := (hI σ (19 + i) 3).toNatClampNeg
/-- the class's ships as they were told -/
def csh (σ : hMem) (ns : Nat) : Prop := ∀ i, i < ns → (∃ t, t ≤ 5000 ∧ hI σ (19 + i) 1 = nI t) ∧ (hI σ (19 + i) 2 = nI (caN σ i) ∧ caN σ i < 16) ∧ (hI σ (19 + i) 3 = nI (lfN σ i) ∧ lfN σ i < 16) ∧ (∃ a, a ≤ 5000 ∧ hI σ (19 + i) 4 = nI a) ∧ (∃ o m, o + m ≤ 100 ∧ hI σ (19 + i) 5 = nI o ∧ hI σ (19 + i) 6 = nI m) ∧ ∃ q, 0 < q ∧ q ≤ 60 ∧ hI σ (27 + i) 1 = nI q ∧ hI σ (27 + i) 2 = sumI (hA σ (27 + i) 0 0) q ∧ ∀ y, y < q → ∃ z, 1 ≤ z ∧ z ≤ 9 ∧ hA σ (27 + i) 0 0 y = nI z
def wOk (σ : hMem) (n : Nat) (P : Nat → Nat → Int64) (i : Nat) : Prop := (∃ x, x ≤ 150000 ∧ P i 1 = lN x) ∧ P i 2 = (hI σ (19 + i) 1).toInt64 * P i 1 ∧ ∀ g f c, cBel σ n g f c → P i 1 = hrC f (lfN σ i) (caN σ i)
theorem wOk.s {σ Y : hMem} {n k : Nat} {P : Nat → Nat → Int64} {ns : Nat} (hW : csW σ n) (hs : csh σ ns) (hk : k < ns) (hY : Stl σ n Y) (h : ∀ i, i < k → wOk σ n P i) : ∀ i, i < k + 1 → wOk σ n (up2 (up2 P k 1 (hrC (hA Y 2 0 0) (lfN σ k) (caN σ k))) k 2 ((hI σ (19 + k) 1).toInt64 * hrC (hA Y 2 0 0) (lfN σ k) (caN σ k))) i := by
  intro i hi
  by_cases e : i = k
  · subst e
    obtain ⟨g, f, c, _, h2, _, h4, _⟩ := hY
    obtain ⟨_, ⟨_, ha⟩, ⟨_, hb⟩, _⟩ := hs i hk
    have e1 : up2 (up2 P i 1 (hrC (hA Y 2 0 0) (lfN σ i) (caN σ i))) i 2 ((hI σ (19 + i) 1).toInt64 * hrC (hA Y 2 0 0) (lfN σ i) (caN σ i)) i 1 = hrC (hA Y 2 0 0) (lfN σ i) (caN σ i) := by rw [up2_c (by decide), up2_s]
    refine ⟨?_, ?_, ?_⟩
    · rw [e1, h4]
      exact hrC_N hW h2 ha hb
    · rw [e1, up2_s]
    · intro g' f' c' h'
      rw [e1, h4]
      unfold hrC spC
      rw [cBel_f hW h2 h' ha hb]
  · obtain ⟨a, b, c⟩ := h i (by omega)
    unfold wOk
    rw [up2_c (by decide), up2_r e, up2_r e, up2_r e]
    exact ⟨a, b, c⟩
