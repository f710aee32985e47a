/-- those of the first k that count: how many, and the row of their numbers over f -/
def lkF (ok : Nat → Prop) [DecidablePred ok] (f : Nat → Int32) : Nat → Nat × (Nat → Int32)
  | 0 => (0, f)
  | k + 1 => if ok k then ((lkF ok f k).1 + 1, upd (lkF ok f k).2 (lkF ok f k).1 (nI k)) else lkF ok f k
theorem lkF_le (ok : Nat → Prop) [DecidablePred ok] (f : Nat → Int32) : ∀ k, (lkF ok f k).1 ≤ k
  | 0 => Nat.le_refl 0
  | k + 1 => by
    have := lkF_le ok f k
    unfold lkF
    split
    · exact Nat.succ_le_succ this
    · omega

set_option maxHeartbeats 4000000 in
set_option maxRecDepth 100000 in
theorem x_csfind (l : Launch) (E : hEnv) (σ : hMem) (Z : va_W) (j : Nat) (hj : j < 44) (hL : hLay j = layLaw) (hC : hCi j = 5) (hj12 : j ≠ 12) (n : Nat) (hn : hI σ 6 4 = nI n) (hn40 : n ≤ 40) (sm known day : Int32) : hMet l yX1_findLike cX1_findLike 9 (some .int) (2, 0, 0, 41) E σ Z [.ref (hO E 6), .ref (hO E j), .int sm, .int known, .int day, .ref (hR E 12 0 0)] (hQi E (fun r u => r = nI (lkF (fun i => (((¬ known < hA σ 7 1 0 i) ∧ (¬ day < hA σ 7 0 0 i)) ∧ (¬ ((¬ known < hA σ 8 1 0 i) ∧ (¬ day < hA σ 8 0 0 i)))) ∧ ¬ hI σ j 1 < cDist (hA σ 6 0 0 i) sm (hA σ j 0 0)) (hA σ 12 0 0) n).1 ∧ u = (sA σ 12 0 0 (lkF (fun i => (((¬ known < hA σ 7 1 0 i) ∧ (¬ day < hA σ 7 0 0 i)) ∧ (¬ ((¬ known < hA σ 8 1 0 i) ∧ (¬ day < hA σ 8 0 0 i)))) ∧ ¬ hI σ j 1 < cDist (hA σ 6 0 0 i) sm (hA σ j 0 0)) (hA σ 12 0 0) n).2, Z))) := by
  refine hMet.of (by decide) (Nat.le_of_ble_eq_true rfl) (fun p e s m below meth c A ls C M hr hlk hl => ?_)
  have hl : lv_has ls 9 [(0, .ref (hO E 6)), (1, .ref (hO E j)), (2, .int sm), (3, .int known), (4, .int day), (5, .ref (hR E 12 0 0))] := hl
  refine lv_iconst (v := 0) C.1 C.2.1 dX1_findLike_0 (by decide) ?_
  refine lv_istore (lv' := [(6, .int 0), (0, .ref (hO E 6)), (1, .ref (hO E j)), (2, .int sm), (3, .int known), (4, .int day), (5, .ref (hR E 12 0 0))]) C.1 C.2.1 dX1_findLike_1 hl (by decide) rfl (fun ls hl => ?_)
  refine lv_iconst (v := 0) C.1 C.2.1 dX1_findLike_3 (by decide) ?_
  refine lv_istore (lv' := [(7, .int 0), (6, .int 0), (0, .ref (hO E 6)), (1, .ref (hO E j)), (2, .int sm), (3, .int known), (4, .int day), (5, .ref (hR E 12 0 0))]) C.1 C.2.1 dX1_findLike_4 hl (by decide) rfl (fun ls hl => ?_)
  have L6 : ∀ (n9 : Nat) (k : Nat), (k ≤ n) → n - k < n9 → ∀ (H : Heap) (locs : List Loc) (ls : Array Slot), hM E A s H locs (sA σ 12 0 0 ((lkF (fun i => (((¬ known < hA σ 7 1 0 i) ∧ (¬ day < hA σ 7 0 0 i)) ∧ (¬ ((¬ known < hA σ 8 1 0 i) ∧ (¬ day < hA σ 8 0 0 i)))) ∧ ¬ hI σ j 1 < cDist (hA σ 6 0 0 i) sm (hA σ j 0 0)) (hA σ 12 0 0) k).2)) Z → lv_has ls 9 [(7, .int (nI k)), (6, .int (nI (lkF (fun i => (((¬ known < hA σ 7 1 0 i) ∧ (¬ day < hA σ 7 0 0 i)) ∧ (¬ ((¬ known < hA σ 8 1 0 i) ∧ (¬ day < hA σ 8 0 0 i)))) ∧ ¬ hI σ j 1 < cDist (hA σ 6 0 0 i) sm (hA σ j 0 0)) (hA σ 12 0 0) k).1)), (0, .ref (hO E 6)), (1, .ref (hO E j)), (2, .int sm), (3, .int known), (4, .int day), (5, .ref (hR E 12 0 0))] → W p l e (hRm (2, 0, 0, 41)) s m [.ref (hO E 6), .ref (hO E j), .int sm, .int known, .int day, .ref (hR E 12 0 0)].toArray below meth c H locs 0 0 (MQ below (hQi E (fun r u => r = nI (lkF (fun i => (((¬ known < hA σ 7 1 0 i) ∧ (¬ day < hA σ 7 0 0 i)) ∧ (¬ ((¬ known < hA σ 8 1 0 i) ∧ (¬ day < hA σ 8 0 0 i)))) ∧ ¬ hI σ j 1 < cDist (hA σ 6 0 0 i) sm (hA σ j 0 0)) (hA σ 12 0 0) n).1 ∧ u = (sA σ 12 0 0 (lkF (fun i => (((¬ known < hA σ 7 1 0 i) ∧ (¬ day < hA σ 7 0 0 i)) ∧ (¬ ((¬ known < hA σ 8 1 0 i) ∧ (¬ day < hA σ 8 0 0 i)))) ∧ ¬ hI σ j 1 < cDist (hA σ 6 0 0 i) sm (hA σ j 0 0)) (hA σ 12 0 0) n).2, Z)) A) [.ref (hO E 6), .ref (hO E j), .int sm, .int known, .int day, .ref (hR E 12 0 0)].toArray s 0 0 A) (F0 m 6 ls []) := by
    intro n9
    induction n9 with
    | zero =>
      intro k hk hn9
      exact absurd hn9 (Nat.not_lt_zero _)
    | succ n9 ih6 =>
      intro k hk hn6 H locs ls M hl
      refine lv_iload C.1 C.2.1 dX1_findLike_6 (lv_at hl 0 rfl) ?_
      refine lv_aload_n C.1 C.2.1 dX1_findLike_8 rfl (lv_at hl 2 rfl) ?_
      refine g_getI C M 6 4 (by decide) rfl rfl (by decide) fl1_30 (v := nI n) hn dX1_findLike_9 ?_
      refine lv_icmp_ge (tgt := 100) C.1 C.2.1 dX1_findLike_12 (by decide) (fun c_12 => ?_) (fun c_12 => ?_)
      · skip
        have hkn : k = n := by have := ct_ge (n := n) (k := k) c_12; omega
        have hl : lv_has ls 9 [(7, .int (nI n)), (6, .int (nI (lkF (fun i => (((¬ known < hA σ 7 1 0 i) ∧ (¬ day < hA σ 7 0 0 i)) ∧ (¬ ((¬ known < hA σ 8 1 0 i) ∧ (¬ day < hA σ 8 0 0 i)))) ∧ ¬ hI σ j 1 < cDist (hA σ 6 0 0 i) sm (hA σ j 0 0)) (hA σ 12 0 0) n).1)), (0, .ref (hO E 6)), (1, .ref (hO E j)), (2, .int sm), (3, .int known), (4, .int day), (5, .ref (hR E 12 0 0))] := by first | exact hl | (rw [hkn] at hl; exact hl)
        have M : hM E A s H locs (sA σ 12 0 0 ((lkF (fun i => (((¬ known < hA σ 7 1 0 i) ∧ (¬ day < hA σ 7 0 0 i)) ∧ (¬ ((¬ known < hA σ 8 1 0 i) ∧ (¬ day < hA σ 8 0 0 i)))) ∧ ¬ hI σ j 1 < cDist (hA σ 6 0 0 i) sm (hA σ j 0 0)) (hA σ 12 0 0) n).2)) Z := by first | exact M | (rw [hkn] at M; exact M)
        refine lv_iload C.1 C.2.1 dX1_findLike_100 (lv_at hl 1 rfl) ?_
        refine g_iret C M hr hlk ?_ (Nat.le_of_ble_eq_true rfl) (Nat.le_of_ble_eq_true rfl) dX1_findLike_102
        exact ⟨rfl, rfl⟩
      · skip
        have hk1 : k < n := ct_nge (n := n) (k := k) c_12
        have hle := lkF_le (fun i => (((¬ known < hA σ 7 1 0 i) ∧ (¬ day < hA σ 7 0 0 i)) ∧ (¬ ((¬ known < hA σ 8 1 0 i) ∧ (¬ day < hA σ 8 0 0 i)))) ∧ ¬ hI σ j 1 < cDist (hA σ 6 0 0 i) sm (hA σ j 0 0)) (hA σ 12 0 0) k
        refine lv_iload C.1 C.2.1 dX1_findLike_15 (lv_at hl 1 rfl) ?_
        refine lv_aload C.1 C.2.1 dX1_findLike_17 (lv_at hl 7 rfl) ?_
        refine g_alen C M 12 0 (by decide) rfl (by decide) dX1_findLike_19 ?_
        refine lv_icmp_ge (tgt := 100) C.1 C.2.1 dX1_findLike_20 (by decide) (fun c_20 => ?_) (fun c_20 => ?_)
        · skip
          exact absurd (ct_ge (n := 40) (k := (lkF (fun i => (((¬ known < hA σ 7 1 0 i) ∧ (¬ day < hA σ 7 0 0 i)) ∧ (¬ ((¬ known < hA σ 8 1 0 i) ∧ (¬ day < hA σ 8 0 0 i)))) ∧ ¬ hI σ j 1 < cDist (hA σ 6 0 0 i) sm (hA σ j 0 0)) (hA σ 12 0 0) k).1) c_20 (by omega) (by omega)) (by omega)
        · skip
          refine lv_aload_n C.1 C.2.1 dX1_findLike_23 rfl (lv_at hl 2 rfl) ?_
          refine g_getO C M 6 2 7 (by decide) rfl rfl (by decide) fl1_23 dX1_findLike_24 ?_
          refine lv_iload C.1 C.2.1 dX1_findLike_27 (lv_at hl 0 rfl) ?_
          refine lv_iload_n C.1 C.2.1 dX1_findLike_29 rfl (lv_at hl 5 rfl) ?_
          refine lv_iload C.1 C.2.1 dX1_findLike_30 (lv_at hl 6 rfl) ?_
          refine g_calli M (g_runV (As := [.int (nI k), .int known, .int day]) (rest := []) C M 7 (x_tholds l E (sA σ 12 0 0 ((lkF (fun i => (((¬ known < hA σ 7 1 0 i) ∧ (¬ day < hA σ 7 0 0 i)) ∧ (¬ ((¬ known < hA σ 8 1 0 i) ∧ (¬ day < hA σ 8 0 0 i)))) ∧ ¬ hI σ j 1 < cDist (hA σ 6 0 0 i) sm (hA σ j 0 0)) (hA σ 12 0 0) k).2)) Z 7 40 (by decide) rfl rfl (by decide) (nI k) k (nI_clamp (by omega)) (vp_in_nI (by omega) (by decide)) known day) clX10_holds ivX10_holds lk1_46 (by decide) rfl rfl ⟨Nat.le_of_ble_eq_true rfl, Nat.le_of_ble_eq_true rfl⟩ hl.1 rfl (Nat.le_of_ble_eq_true rfl) dX1_findLike_32 ⟨Nat.le_of_ble_eq_true rfl, Nat.le_of_ble_eq_true rfl⟩) (fun r1 u H locs hR M => ?_)
          refine W.widen (k := 0) (n := 0) (Nat.le_of_ble_eq_true rfl) (Nat.le_of_ble_eq_true rfl) ?_
          obtain ⟨rfl, rfl⟩ := hR
          have M : hM E A s H locs (sA σ 12 0 0 ((lkF (fun i => (((¬ known < hA σ 7 1 0 i) ∧ (¬ day < hA σ 7 0 0 i)) ∧ (¬ ((¬ known < hA σ 8 1 0 i) ∧ (¬ day < hA σ 8 0 0 i)))) ∧ ¬ hI σ j 1 < cDist (hA σ 6 0 0 i) sm (hA σ j 0 0)) (hA σ 12 0 0) k).2)) Z := M
          have J3 : ∀ (v2 : Int32) (ev2 : v2 = bz ((((¬ known < hA σ 7 1 0 k) ∧ (¬ day < hA σ 7 0 0 k))) ∧ (¬ ((¬ known < hA σ 8 1 0 k) ∧ (¬ day < hA σ 8 0 0 k))))) (H : Heap) (locs : List Loc) (ls : Array Slot), hM E A s H locs (sA σ 12 0 0 ((lkF (fun i => (((¬ known < hA σ 7 1 0 i) ∧ (¬ day < hA σ 7 0 0 i)) ∧ (¬ ((¬ known < hA σ 8 1 0 i) ∧ (¬ day < hA σ 8 0 0 i)))) ∧ ¬ hI σ j 1 < cDist (hA σ 6 0 0 i) sm (hA σ j 0 0)) (hA σ 12 0 0) k).2)) Z → lv_has ls 9 [(7, .int (nI k)), (6, .int (nI (lkF (fun i => (((¬ known < hA σ 7 1 0 i) ∧ (¬ day < hA σ 7 0 0 i)) ∧ (¬ ((¬ known < hA σ 8 1 0 i) ∧ (¬ day < hA σ 8 0 0 i)))) ∧ ¬ hI σ j 1 < cDist (hA σ 6 0 0 i) sm (hA σ j 0 0)) (hA σ 12 0 0) k).1)), (0, .ref (hO E 6)), (1, .ref (hO E j)), (2, .int sm), (3, .int known), (4, .int day), (5, .ref (hR E 12 0 0))] → W p l e (hRm (2, 0, 0, 41)) s m [.ref (hO E 6), .ref (hO E j), .int sm, .int known, .int day, .ref (hR E 12 0 0)].toArray below meth c H locs 0 0 (MQ below (hQi E (fun r u => r = nI (lkF (fun i => (((¬ known < hA σ 7 1 0 i) ∧ (¬ day < hA σ 7 0 0 i)) ∧ (¬ ((¬ known < hA σ 8 1 0 i) ∧ (¬ day < hA σ 8 0 0 i)))) ∧ ¬ hI σ j 1 < cDist (hA σ 6 0 0 i) sm (hA σ j 0 0)) (hA σ 12 0 0) n).1 ∧ u = (sA σ 12 0 0 (lkF (fun i => (((¬ known < hA σ 7 1 0 i) ∧ (¬ day < hA σ 7 0 0 i)) ∧ (¬ ((¬ known < hA σ 8 1 0 i) ∧ (¬ day < hA σ 8 0 0 i)))) ∧ ¬ hI σ j 1 < cDist (hA σ 6 0 0 i) sm (hA σ j 0 0)) (hA σ 12 0 0) n).2, Z)) A) [.ref (hO E 6), .ref (hO E j), .int sm, .int known, .int day, .ref (hR E 12 0 0)].toArray s 0 0 A) (F0 m 58 ls [.int v2]) := by
            intro v2 ev2 H locs ls M hl
            subst ev2
            refine lv_istore (lv' := [(8, .int (bz ((((¬ known < hA σ 7 1 0 k) ∧ (¬ day < hA σ 7 0 0 k))) ∧ (¬ ((¬ known < hA σ 8 1 0 k) ∧ (¬ day < hA σ 8 0 0 k)))))), (7, .int (nI k)), (6, .int (nI (lkF (fun i => (((¬ known < hA σ 7 1 0 i) ∧ (¬ day < hA σ 7 0 0 i)) ∧ (¬ ((¬ known < hA σ 8 1 0 i) ∧ (¬ day < hA σ 8 0 0 i)))) ∧ ¬ hI σ j 1 < cDist (hA σ 6 0 0 i) sm (hA σ j 0 0)) (hA σ 12 0 0) k).1)), (0, .ref (hO E 6)), (1, .ref (hO E j)), (2, .int sm), (3, .int known), (4, .int day), (5, .ref (hR E 12 0 0))]) C.1 C.2.1 dX1_findLike_58 hl (by decide) rfl (fun ls hl => ?_)
            refine lv_iload C.1 C.2.1 dX1_findLike_60 (lv_at hl 0 rfl) ?_
            refine lv_if_eq (tgt := 94) C.1 C.2.1 dX1_findLike_62 (by decide) (fun c_62 => ?_) (fun c_62 => ?_)
            · skip
              have c_62 : ¬ ((((¬ known < hA σ 7 1 0 k) ∧ (¬ day < hA σ 7 0 0 k))) ∧ (¬ ((¬ known < hA σ 8 1 0 k) ∧ (¬ day < hA σ 8 0 0 k)))) := bz_0.mp c_62
              refine lv_iinc (v := nI (k + 1)) (lv' := [(7, .int (nI (k + 1))), (8, .int (bz ((((¬ known < hA σ 7 1 0 k) ∧ (¬ day < hA σ 7 0 0 k))) ∧ (¬ ((¬ known < hA σ 8 1 0 k) ∧ (¬ day < hA σ 8 0 0 k)))))), (6, .int (nI (lkF (fun i => (((¬ known < hA σ 7 1 0 i) ∧ (¬ day < hA σ 7 0 0 i)) ∧ (¬ ((¬ known < hA σ 8 1 0 i) ∧ (¬ day < hA σ 8 0 0 i)))) ∧ ¬ hI σ j 1 < cDist (hA σ 6 0 0 i) sm (hA σ j 0 0)) (hA σ 12 0 0) k).1)), (0, .ref (hO E 6)), (1, .ref (hO E j)), (2, .int sm), (3, .int known), (4, .int day), (5, .ref (hR E 12 0 0))]) C.1 C.2.1 dX1_findLike_94 hl (k := 1) rfl (nI_succ _).symm (by decide) rfl (fun ls hl => ?_)
              refine lv_goto (tgt := 6) C.1 C.2.1 dX1_findLike_97 (by decide) ?_
              have q4 : nI (lkF (fun i => (((¬ known < hA σ 7 1 0 i) ∧ (¬ day < hA σ 7 0 0 i)) ∧ (¬ ((¬ known < hA σ 8 1 0 i) ∧ (¬ day < hA σ 8 0 0 i)))) ∧ ¬ hI σ j 1 < cDist (hA σ 6 0 0 i) sm (hA σ j 0 0)) (hA σ 12 0 0) k).1 = nI (lkF (fun i => (((¬ known < hA σ 7 1 0 i) ∧ (¬ day < hA σ 7 0 0 i)) ∧ (¬ ((¬ known < hA σ 8 1 0 i) ∧ (¬ day < hA σ 8 0 0 i)))) ∧ ¬ hI σ j 1 < cDist (hA σ 6 0 0 i) sm (hA σ j 0 0)) (hA σ 12 0 0) (k + 1)).1 := by first | rfl | simp only [lkF, c_12, c_20, c_62, not_false_eq_true, not_true_eq_false, and_self, and_true, true_and, and_false, false_and, or_true, true_or, or_false, false_or, Bool.false_eq_true, if_true, if_false, ↓reduceIte]
              have hl : lv_has ls 9 [(7, .int (nI (k + 1))), (6, .int (nI (lkF (fun i => (((¬ known < hA σ 7 1 0 i) ∧ (¬ day < hA σ 7 0 0 i)) ∧ (¬ ((¬ known < hA σ 8 1 0 i) ∧ (¬ day < hA σ 8 0 0 i)))) ∧ ¬ hI σ j 1 < cDist (hA σ 6 0 0 i) sm (hA σ j 0 0)) (hA σ 12 0 0) (k + 1)).1)), (0, .ref (hO E 6)), (1, .ref (hO E j)), (2, .int sm), (3, .int known), (4, .int day), (5, .ref (hR E 12 0 0))] := by
                rw [← q4]
                exact lv_sub hl [0, 2, 3, 4, 5, 6, 7, 8] rfl
              have q5 : (sA σ 12 0 0 ((lkF (fun i => (((¬ known < hA σ 7 1 0 i) ∧ (¬ day < hA σ 7 0 0 i)) ∧ (¬ ((¬ known < hA σ 8 1 0 i) ∧ (¬ day < hA σ 8 0 0 i)))) ∧ ¬ hI σ j 1 < cDist (hA σ 6 0 0 i) sm (hA σ j 0 0)) (hA σ 12 0 0) k).2)) = (sA σ 12 0 0 ((lkF (fun i => (((¬ known < hA σ 7 1 0 i) ∧ (¬ day < hA σ 7 0 0 i)) ∧ (¬ ((¬ known < hA σ 8 1 0 i) ∧ (¬ day < hA σ 8 0 0 i)))) ∧ ¬ hI σ j 1 < cDist (hA σ 6 0 0 i) sm (hA σ j 0 0)) (hA σ 12 0 0) (k + 1)).2)) := by first | exact sA_self _ _ _ _ | (simp only [sA_sA, lkF, c_12, c_20, c_62, not_false_eq_true, not_true_eq_false, and_self, and_true, true_and, and_false, false_and, or_true, true_or, or_false, false_or, Bool.false_eq_true, if_true, if_false, ↓reduceIte])
              rw [q5] at M
              exact ih6 (k + 1) hk1 (by omega) _ _ _ M hl
            · skip
              have c_62 : ((((¬ known < hA σ 7 1 0 k) ∧ (¬ day < hA σ 7 0 0 k))) ∧ (¬ ((¬ known < hA σ 8 1 0 k) ∧ (¬ day < hA σ 8 0 0 k)))) := bz_ne0.mp c_62
              refine lv_aload_n C.1 C.2.1 dX1_findLike_65 rfl (lv_at hl 4 rfl) ?_
              refine lv_aload_n C.1 C.2.1 dX1_findLike_66 rfl (lv_at hl 3 rfl) ?_
              refine g_getA C M 6 0 (by decide) rfl rfl (by decide) fl1_9 dX1_findLike_67 ?_
              refine lv_iload C.1 C.2.1 dX1_findLike_70 (lv_at hl 1 rfl) ?_
              refine g_iald C M 6 0 (by decide) rfl k (nI_clamp (by omega)) (vp_in_nI (by omega) (by decide)) (v := hA σ 6 0 0 k) rfl dX1_findLike_72 ?_
              refine lv_iload_n C.1 C.2.1 dX1_findLike_73 rfl (lv_at hl 5 rfl) ?_
              refine g_calli M (g_runV (As := [.int (hA σ 6 0 0 k), .int sm]) (rest := []) C M j (x_ldist l E (sA σ 12 0 0 ((lkF (fun i => (((¬ known < hA σ 7 1 0 i) ∧ (¬ day < hA σ 7 0 0 i)) ∧ (¬ ((¬ known < hA σ 8 1 0 i) ∧ (¬ day < hA σ 8 0 0 i)))) ∧ ¬ hI σ j 1 < cDist (hA σ 6 0 0 i) sm (hA σ j 0 0)) (hA σ 12 0 0) k).2)) Z j hj hL hC (hA σ 6 0 0 k) sm) clX5_distance ivX5_distance lk1_49 hj (by rw [hC]; rfl) rfl ⟨Nat.le_of_ble_eq_true rfl, Nat.le_of_ble_eq_true rfl⟩ hl.1 rfl (Nat.le_of_ble_eq_true rfl) dX1_findLike_74 ⟨Nat.le_of_ble_eq_true rfl, Nat.le_of_ble_eq_true rfl⟩) (fun r6 u H locs hR M => ?_)
              refine W.widen (k := 0) (n := 0) (Nat.le_of_ble_eq_true rfl) (Nat.le_of_ble_eq_true rfl) ?_
              rw [hA_sA, if_neg (fun h => hj12 h.2.2)] at hR
              obtain ⟨rfl, rfl⟩ := hR
              have M : hM E A s H locs (sA σ 12 0 0 ((lkF (fun i => (((¬ known < hA σ 7 1 0 i) ∧ (¬ day < hA σ 7 0 0 i)) ∧ (¬ ((¬ known < hA σ 8 1 0 i) ∧ (¬ day < hA σ 8 0 0 i)))) ∧ ¬ hI σ j 1 < cDist (hA σ 6 0 0 i) sm (hA σ j 0 0)) (hA σ 12 0 0) k).2)) Z := M
              refine lv_aload_n C.1 C.2.1 dX1_findLike_77 rfl (lv_at hl 4 rfl) ?_
              refine g_getI C M j 1 hj (by rw [hL]; rfl) (by rw [hC]; rfl) (by decide) fl1_55 (v := hI σ j 1) rfl dX1_findLike_78 ?_
              refine lv_icmp_gt (tgt := 94) C.1 C.2.1 dX1_findLike_81 (by decide) (fun c_81 => ?_) (fun c_81 => ?_)
              · skip
                refine lv_iinc (v := nI (k + 1)) (lv' := [(7, .int (nI (k + 1))), (8, .int (bz ((((¬ known < hA σ 7 1 0 k) ∧ (¬ day < hA σ 7 0 0 k))) ∧ (¬ ((¬ known < hA σ 8 1 0 k) ∧ (¬ day < hA σ 8 0 0 k)))))), (6, .int (nI (lkF (fun i => (((¬ known < hA σ 7 1 0 i) ∧ (¬ day < hA σ 7 0 0 i)) ∧ (¬ ((¬ known < hA σ 8 1 0 i) ∧ (¬ day < hA σ 8 0 0 i)))) ∧ ¬ hI σ j 1 < cDist (hA σ 6 0 0 i) sm (hA σ j 0 0)) (hA σ 12 0 0) k).1)), (0, .ref (hO E 6)), (1, .ref (hO E j)), (2, .int sm), (3, .int known), (4, .int day), (5, .ref (hR E 12 0 0))]) C.1 C.2.1 dX1_findLike_94 hl (k := 1) rfl (nI_succ _).symm (by decide) rfl (fun ls hl => ?_)
                refine lv_goto (tgt := 6) C.1 C.2.1 dX1_findLike_97 (by decide) ?_
                have q7 : nI (lkF (fun i => (((¬ known < hA σ 7 1 0 i) ∧ (¬ day < hA σ 7 0 0 i)) ∧ (¬ ((¬ known < hA σ 8 1 0 i) ∧ (¬ day < hA σ 8 0 0 i)))) ∧ ¬ hI σ j 1 < cDist (hA σ 6 0 0 i) sm (hA σ j 0 0)) (hA σ 12 0 0) k).1 = nI (lkF (fun i => (((¬ known < hA σ 7 1 0 i) ∧ (¬ day < hA σ 7 0 0 i)) ∧ (¬ ((¬ known < hA σ 8 1 0 i) ∧ (¬ day < hA σ 8 0 0 i)))) ∧ ¬ hI σ j 1 < cDist (hA σ 6 0 0 i) sm (hA σ j 0 0)) (hA σ 12 0 0) (k + 1)).1 := by first | rfl | simp only [lkF, c_12, c_20, c_62, c_81, not_false_eq_true, not_true_eq_false, and_self, and_true, true_and, and_false, false_and, or_true, true_or, or_false, false_or, Bool.false_eq_true, if_true, if_false, ↓reduceIte]
                have hl : lv_has ls 9 [(7, .int (nI (k + 1))), (6, .int (nI (lkF (fun i => (((¬ known < hA σ 7 1 0 i) ∧ (¬ day < hA σ 7 0 0 i)) ∧ (¬ ((¬ known < hA σ 8 1 0 i) ∧ (¬ day < hA σ 8 0 0 i)))) ∧ ¬ hI σ j 1 < cDist (hA σ 6 0 0 i) sm (hA σ j 0 0)) (hA σ 12 0 0) (k + 1)).1)), (0, .ref (hO E 6)), (1, .ref (hO E j)), (2, .int sm), (3, .int known), (4, .int day), (5, .ref (hR E 12 0 0))] := by
                  rw [← q7]
                  exact lv_sub hl [0, 2, 3, 4, 5, 6, 7, 8] rfl
                have q8 : (sA σ 12 0 0 ((lkF (fun i => (((¬ known < hA σ 7 1 0 i) ∧ (¬ day < hA σ 7 0 0 i)) ∧ (¬ ((¬ known < hA σ 8 1 0 i) ∧ (¬ day < hA σ 8 0 0 i)))) ∧ ¬ hI σ j 1 < cDist (hA σ 6 0 0 i) sm (hA σ j 0 0)) (hA σ 12 0 0) k).2)) = (sA σ 12 0 0 ((lkF (fun i => (((¬ known < hA σ 7 1 0 i) ∧ (¬ day < hA σ 7 0 0 i)) ∧ (¬ ((¬ known < hA σ 8 1 0 i) ∧ (¬ day < hA σ 8 0 0 i)))) ∧ ¬ hI σ j 1 < cDist (hA σ 6 0 0 i) sm (hA σ j 0 0)) (hA σ 12 0 0) (k + 1)).2)) := by first | exact sA_self _ _ _ _ | (simp only [sA_sA, lkF, c_12, c_20, c_62, c_81, not_false_eq_true, not_true_eq_false, and_self, and_true, true_and, and_false, false_and, or_true, true_or, or_false, false_or, Bool.false_eq_true, if_true, if_false, ↓reduceIte])
                rw [q8] at M
                exact ih6 (k + 1) hk1 (by omega) _ _ _ M hl
              · skip
                refine lv_aload C.1 C.2.1 dX1_findLike_84 (lv_at hl 8 rfl) ?_
                refine lv_iload C.1 C.2.1 dX1_findLike_86 (lv_at hl 2 rfl) ?_
                refine lv_iload C.1 C.2.1 dX1_findLike_88 (lv_at hl 1 rfl) ?_
                refine g_iast C M 12 0 (by decide) rfl ((lkF (fun i => (((¬ known < hA σ 7 1 0 i) ∧ (¬ day < hA σ 7 0 0 i)) ∧ (¬ ((¬ known < hA σ 8 1 0 i) ∧ (¬ day < hA σ 8 0 0 i)))) ∧ ¬ hI σ j 1 < cDist (hA σ 6 0 0 i) sm (hA σ j 0 0)) (hA σ 12 0 0) k).1) (nI_clamp (by omega)) (vp_in_nI (by omega) (by decide)) dX1_findLike_90 (fun H locs M => ?_)
                have M : hM E A s H locs (sA (sA σ 12 0 0 ((lkF (fun i => (((¬ known < hA σ 7 1 0 i) ∧ (¬ day < hA σ 7 0 0 i)) ∧ (¬ ((¬ known < hA σ 8 1 0 i) ∧ (¬ day < hA σ 8 0 0 i)))) ∧ ¬ hI σ j 1 < cDist (hA σ 6 0 0 i) sm (hA σ j 0 0)) (hA σ 12 0 0) k).2)) 12 0 0 (upd ((lkF (fun i => (((¬ known < hA σ 7 1 0 i) ∧ (¬ day < hA σ 7 0 0 i)) ∧ (¬ ((¬ known < hA σ 8 1 0 i) ∧ (¬ day < hA σ 8 0 0 i)))) ∧ ¬ hI σ j 1 < cDist (hA σ 6 0 0 i) sm (hA σ j 0 0)) (hA σ 12 0 0) k).2) ((lkF (fun i => (((¬ known < hA σ 7 1 0 i) ∧ (¬ day < hA σ 7 0 0 i)) ∧ (¬ ((¬ known < hA σ 8 1 0 i) ∧ (¬ day < hA σ 8 0 0 i)))) ∧ ¬ hI σ j 1 < cDist (hA σ 6 0 0 i) sm (hA σ j 0 0)) (hA σ 12 0 0) k).1) (nI k))) Z := M
                refine lv_iinc (v := nI ((lkF (fun i => (((¬ known < hA σ 7 1 0 i) ∧ (¬ day < hA σ 7 0 0 i)) ∧ (¬ ((¬ known < hA σ 8 1 0 i) ∧ (¬ day < hA σ 8 0 0 i)))) ∧ ¬ hI σ j 1 < cDist (hA σ 6 0 0 i) sm (hA σ j 0 0)) (hA σ 12 0 0) k).1 + 1)) (lv' := [(6, .int (nI ((lkF (fun i => (((¬ known < hA σ 7 1 0 i) ∧ (¬ day < hA σ 7 0 0 i)) ∧ (¬ ((¬ known < hA σ 8 1 0 i) ∧ (¬ day < hA σ 8 0 0 i)))) ∧ ¬ hI σ j 1 < cDist (hA σ 6 0 0 i) sm (hA σ j 0 0)) (hA σ 12 0 0) k).1 + 1))), (8, .int (bz ((((¬ known < hA σ 7 1 0 k) ∧ (¬ day < hA σ 7 0 0 k))) ∧ (¬ ((¬ known < hA σ 8 1 0 k) ∧ (¬ day < hA σ 8 0 0 k)))))), (7, .int (nI k)), (0, .ref (hO E 6)), (1, .ref (hO E j)), (2, .int sm), (3, .int known), (4, .int day), (5, .ref (hR E 12 0 0))]) C.1 C.2.1 dX1_findLike_91 hl (k := 2) rfl (nI_succ _).symm (by decide) rfl (fun ls hl => ?_)
                refine lv_iinc (v := nI (k + 1)) (lv' := [(7, .int (nI (k + 1))), (6, .int (nI ((lkF (fun i => (((¬ known < hA σ 7 1 0 i) ∧ (¬ day < hA σ 7 0 0 i)) ∧ (¬ ((¬ known < hA σ 8 1 0 i) ∧ (¬ day < hA σ 8 0 0 i)))) ∧ ¬ hI σ j 1 < cDist (hA σ 6 0 0 i) sm (hA σ j 0 0)) (hA σ 12 0 0) k).1 + 1))), (8, .int (bz ((((¬ known < hA σ 7 1 0 k) ∧ (¬ day < hA σ 7 0 0 k))) ∧ (¬ ((¬ known < hA σ 8 1 0 k) ∧ (¬ day < hA σ 8 0 0 k)))))), (0, .ref (hO E 6)), (1, .ref (hO E j)), (2, .int sm), (3, .int known), (4, .int day), (5, .ref (hR E 12 0 0))]) C.1 C.2.1 dX1_findLike_94 hl (k := 2) rfl (nI_succ _).symm (by decide) rfl (fun ls hl => ?_)
                refine lv_goto (tgt := 6) C.1 C.2.1 dX1_findLike_97 (by decide) ?_
                have q9 : nI ((lkF (fun i => (((¬ known < hA σ 7 1 0 i) ∧ (¬ day < hA σ 7 0 0 i)) ∧ (¬ ((¬ known < hA σ 8 1 0 i) ∧ (¬ day < hA σ 8 0 0 i)))) ∧ ¬ hI σ j 1 < cDist (hA σ 6 0 0 i) sm (hA σ j 0 0)) (hA σ 12 0 0) k).1 + 1) = nI (lkF (fun i => (((¬ known < hA σ 7 1 0 i) ∧ (¬ day < hA σ 7 0 0 i)) ∧ (¬ ((¬ known < hA σ 8 1 0 i) ∧ (¬ day < hA σ 8 0 0 i)))) ∧ ¬ hI σ j 1 < cDist (hA σ 6 0 0 i) sm (hA σ j 0 0)) (hA σ 12 0 0) (k + 1)).1 := by first | rfl | simp only [lkF, c_12, c_20, c_62, c_81, not_false_eq_true, not_true_eq_false, and_self, and_true, true_and, and_false, false_and, or_true, true_or, or_false, false_or, Bool.false_eq_true, if_true, if_false, ↓reduceIte]
                have hl : lv_has ls 9 [(7, .int (nI (k + 1))), (6, .int (nI (lkF (fun i => (((¬ known < hA σ 7 1 0 i) ∧ (¬ day < hA σ 7 0 0 i)) ∧ (¬ ((¬ known < hA σ 8 1 0 i) ∧ (¬ day < hA σ 8 0 0 i)))) ∧ ¬ hI σ j 1 < cDist (hA σ 6 0 0 i) sm (hA σ j 0 0)) (hA σ 12 0 0) (k + 1)).1)), (0, .ref (hO E 6)), (1, .ref (hO E j)), (2, .int sm), (3, .int known), (4, .int day), (5, .ref (hR E 12 0 0))] := by
                  rw [← q9]
                  exact lv_sub hl [0, 1, 3, 4, 5, 6, 7, 8] rfl
                have q10 : (sA (sA σ 12 0 0 ((lkF (fun i => (((¬ known < hA σ 7 1 0 i) ∧ (¬ day < hA σ 7 0 0 i)) ∧ (¬ ((¬ known < hA σ 8 1 0 i) ∧ (¬ day < hA σ 8 0 0 i)))) ∧ ¬ hI σ j 1 < cDist (hA σ 6 0 0 i) sm (hA σ j 0 0)) (hA σ 12 0 0) k).2)) 12 0 0 (upd ((lkF (fun i => (((¬ known < hA σ 7 1 0 i) ∧ (¬ day < hA σ 7 0 0 i)) ∧ (¬ ((¬ known < hA σ 8 1 0 i) ∧ (¬ day < hA σ 8 0 0 i)))) ∧ ¬ hI σ j 1 < cDist (hA σ 6 0 0 i) sm (hA σ j 0 0)) (hA σ 12 0 0) k).2) ((lkF (fun i => (((¬ known < hA σ 7 1 0 i) ∧ (¬ day < hA σ 7 0 0 i)) ∧ (¬ ((¬ known < hA σ 8 1 0 i) ∧ (¬ day < hA σ 8 0 0 i)))) ∧ ¬ hI σ j 1 < cDist (hA σ 6 0 0 i) sm (hA σ j 0 0)) (hA σ 12 0 0) k).1) (nI k))) = (sA σ 12 0 0 ((lkF (fun i => (((¬ known < hA σ 7 1 0 i) ∧ (¬ day < hA σ 7 0 0 i)) ∧ (¬ ((¬ known < hA σ 8 1 0 i) ∧ (¬ day < hA σ 8 0 0 i)))) ∧ ¬ hI σ j 1 < cDist (hA σ 6 0 0 i) sm (hA σ j 0 0)) (hA σ 12 0 0) (k + 1)).2)) := by first | exact sA_self _ _ _ _ | (simp only [sA_sA, lkF, c_12, c_20, c_62, c_81, not_false_eq_true, not_true_eq_false, and_self, and_true, true_and, and_false, false_and, or_true, true_or, or_false, false_or, Bool.false_eq_true, if_true, if_false, ↓reduceIte])
                rw [q10] at M
                exact ih6 (k + 1) hk1 (by omega) _ _ _ M hl
          refine lv_if_eq (tgt := 57) C.1 C.2.1 dX1_findLike_35 (by decide) (fun c_35 => ?_) (fun c_35 => ?_)
          · skip
            have c_35 : ¬ ((¬ known < hA σ 7 1 0 k) ∧ (¬ day < hA σ 7 0 0 k)) := bz_0.mp c_35
            refine lv_iconst (v := 0) C.1 C.2.1 dX1_findLike_57 (by decide) ?_
            exact J3 _ (by first | (simp only [bz, c_35, not_false_eq_true, not_true_eq_false, and_self, and_true, true_and, and_false, false_and, or_true, true_or, or_false, false_or, Bool.false_eq_true, if_true, if_false, ↓reduceIte]; done) | simp [bz, c_35]) _ _ _ M (lv_sub hl [0, 1, 2, 3, 4, 5, 6, 7] rfl)
          · skip
            have c_35 : ((¬ known < hA σ 7 1 0 k) ∧ (¬ day < hA σ 7 0 0 k)) := bz_ne0.mp c_35
            refine lv_aload_n C.1 C.2.1 dX1_findLike_38 rfl (lv_at hl 2 rfl) ?_
            refine g_getO C M 6 3 8 (by decide) rfl rfl (by decide) fl1_27 dX1_findLike_39 ?_
            refine lv_iload C.1 C.2.1 dX1_findLike_42 (lv_at hl 0 rfl) ?_
            refine lv_iload_n C.1 C.2.1 dX1_findLike_44 rfl (lv_at hl 5 rfl) ?_
            refine lv_iload C.1 C.2.1 dX1_findLike_45 (lv_at hl 6 rfl) ?_
            refine g_calli M (g_runV (As := [.int (nI k), .int known, .int day]) (rest := []) C M 8 (x_tholds l E (sA σ 12 0 0 ((lkF (fun i => (((¬ known < hA σ 7 1 0 i) ∧ (¬ day < hA σ 7 0 0 i)) ∧ (¬ ((¬ known < hA σ 8 1 0 i) ∧ (¬ day < hA σ 8 0 0 i)))) ∧ ¬ hI σ j 1 < cDist (hA σ 6 0 0 i) sm (hA σ j 0 0)) (hA σ 12 0 0) k).2)) Z 8 40 (by decide) rfl rfl (by decide) (nI k) k (nI_clamp (by omega)) (vp_in_nI (by omega) (by decide)) known day) clX10_holds ivX10_holds lk1_46 (by decide) rfl rfl ⟨Nat.le_of_ble_eq_true rfl, Nat.le_of_ble_eq_true rfl⟩ hl.1 rfl (Nat.le_of_ble_eq_true rfl) dX1_findLike_47 ⟨Nat.le_of_ble_eq_true rfl, Nat.le_of_ble_eq_true rfl⟩) (fun r11 u H locs hR M => ?_)
            refine W.widen (k := 0) (n := 0) (Nat.le_of_ble_eq_true rfl) (Nat.le_of_ble_eq_true rfl) ?_
            obtain ⟨rfl, rfl⟩ := hR
            have M : hM E A s H locs (sA σ 12 0 0 ((lkF (fun i => (((¬ known < hA σ 7 1 0 i) ∧ (¬ day < hA σ 7 0 0 i)) ∧ (¬ ((¬ known < hA σ 8 1 0 i) ∧ (¬ day < hA σ 8 0 0 i)))) ∧ ¬ hI σ j 1 < cDist (hA σ 6 0 0 i) sm (hA σ j 0 0)) (hA σ 12 0 0) k).2)) Z := M
            refine lv_if_ne (tgt := 57) C.1 C.2.1 dX1_findLike_50 (by decide) (fun c_50 => ?_) (fun c_50 => ?_)
            · skip
              have c_50 : ((¬ known < hA σ 8 1 0 k) ∧ (¬ day < hA σ 8 0 0 k)) := bz_ne0.mp c_50
              refine lv_iconst (v := 0) C.1 C.2.1 dX1_findLike_57 (by decide) ?_
              exact J3 _ (by first | (simp only [bz, c_35, c_50, not_false_eq_true, not_true_eq_false, and_self, and_true, true_and, and_false, false_and, or_true, true_or, or_false, false_or, Bool.false_eq_true, if_true, if_false, ↓reduceIte]; done) | simp [bz, c_35, c_50]) _ _ _ M (lv_sub hl [0, 1, 2, 3, 4, 5, 6, 7] rfl)
            · skip
              have c_50 : ¬ ((¬ known < hA σ 8 1 0 k) ∧ (¬ day < hA σ 8 0 0 k)) := bz_0.mp c_50
              refine lv_iconst (v := 1) C.1 C.2.1 dX1_findLike_53 (by decide) ?_
              refine lv_goto (tgt := 58) C.1 C.2.1 dX1_findLike_54 (by decide) ?_
              exact J3 _ (by first | (simp only [bz, c_35, c_50, not_false_eq_true, not_true_eq_false, and_self, and_true, true_and, and_false, false_and, or_true, true_or, or_false, false_or, Bool.false_eq_true, if_true, if_false, ↓reduceIte]; done) | simp [bz, c_35, c_50]) _ _ _ M (lv_sub hl [0, 1, 2, 3, 4, 5, 6, 7] rfl)
  have q12 : 0 = nI 0 := by first | rfl | simp only [lkF, not_false_eq_true, not_true_eq_false, and_self, and_true, true_and, and_false, false_and, or_true, true_or, or_false, false_or, Bool.false_eq_true, if_true, if_false, ↓reduceIte]
  have q13 : 0 = nI (lkF (fun i => (((¬ known < hA σ 7 1 0 i) ∧ (¬ day < hA σ 7 0 0 i)) ∧ (¬ ((¬ known < hA σ 8 1 0 i) ∧ (¬ day < hA σ 8 0 0 i)))) ∧ ¬ hI σ j 1 < cDist (hA σ 6 0 0 i) sm (hA σ j 0 0)) (hA σ 12 0 0) 0).1 := by first | rfl | simp only [lkF, not_false_eq_true, not_true_eq_false, and_self, and_true, true_and, and_false, false_and, or_true, true_or, or_false, false_or, Bool.false_eq_true, if_true, if_false, ↓reduceIte]
  have hl : lv_has ls 9 [(7, .int (nI 0)), (6, .int (nI (lkF (fun i => (((¬ known < hA σ 7 1 0 i) ∧ (¬ day < hA σ 7 0 0 i)) ∧ (¬ ((¬ known < hA σ 8 1 0 i) ∧ (¬ day < hA σ 8 0 0 i)))) ∧ ¬ hI σ j 1 < cDist (hA σ 6 0 0 i) sm (hA σ j 0 0)) (hA σ 12 0 0) 0).1)), (0, .ref (hO E 6)), (1, .ref (hO E j)), (2, .int sm), (3, .int known), (4, .int day), (5, .ref (hR E 12 0 0))] := by
    rw [← q12, ← q13]
    exact lv_sub hl [0, 1, 2, 3, 4, 5, 6, 7] rfl
  have q14 : σ = (sA σ 12 0 0 ((lkF (fun i => (((¬ known < hA σ 7 1 0 i) ∧ (¬ day < hA σ 7 0 0 i)) ∧ (¬ ((¬ known < hA σ 8 1 0 i) ∧ (¬ day < hA σ 8 0 0 i)))) ∧ ¬ hI σ j 1 < cDist (hA σ 6 0 0 i) sm (hA σ j 0 0)) (hA σ 12 0 0) 0).2)) := by first | exact sA_self _ _ _ _ | (simp only [sA_sA, lkF, not_false_eq_true, not_true_eq_false, and_self, and_true, true_and, and_false, false_and, or_true, true_or, or_false, false_or, Bool.false_eq_true, if_true, if_false, ↓reduceIte])
  rw [q14] at M
  exact L6 ((n - 0) + 1) 0 (Nat.zero_le _) (Nat.lt_succ_self _) _ _ _ M hl
