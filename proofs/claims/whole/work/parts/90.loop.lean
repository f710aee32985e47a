/-! The law's loop. -/
section LOOP
variable {p : Program} {l : Launch} {e : Env} {s : State} {m : MethodId} {args : Array Value} {below : List Frame} {meth : Method} {c : Code} {Q : State → Prop}
variable {E : hEnv} {A : Nat → Prop} {Z : va_W} {b L : Nat} {xs : Nat → Int32}
theorem len10 {L i : Nat} (hL : L ≤ 5120) (hi : i ≤ L) : (nI L - 10 < nI i) ↔ L < i + 10 := by
  rw [Int32.lt_iff_toInt_lt, Int32.toInt_sub, nI_toInt (by omega), nI_toInt (by omega), show (10 : Int32).toInt = 10 from rfl]
  rw [Int.bmod_eq_of_le (by omega) (by omega)]
  omega
set_option maxHeartbeats 1000000 in
theorem law_loop (C : hC E A p s m c cL_law 4 R_law) (hX : va_X b L xs s s.heap) (hb : b < s.heap.size) (hbA : ¬ A b) (hL : L ≤ 5120) (kend : ∀ (H1 : Heap) (locs1 : List Loc) (ls1 : Array Slot) (σ1 : hMem), hM E A s H1 locs1 σ1 Z → W p l e room_1 s m args below meth c H1 locs1 600000 7302250 Q (F0 m 1118 ls1 [])) : ∀ (n9 k : Nat), L - 10 * k < n9 → 10 * k ≤ L → ∀ (H : Heap) (locs : List Loc) (ls : Array Slot) (σ : hMem), hM E A s H locs σ Z → Rel σ → lv_has ls 4 (LV E b (10 * k)) → W p l e room_1 s m args below meth c H locs (178 + 3 * k) (5729 + 88 * k) Q (F0 m 18 ls []) := by
  intro n9
  induction n9 with
  | zero =>
    intro k h
    exact absurd h (Nat.not_lt_zero _)
  | succ n9 ih =>
    intro k hn hk H locs ls σ M hR hl
    refine lv_iload_n C.1 C.2.1 dL_law_18 rfl (lv_at hl 3 rfl) ?_
    refine lv_aload_n C.1 C.2.1 dL_law_19 rfl (lv_at hl 0 rfl) ?_
    refine va_slen C.1 C.2.1 hX hb hbA M.2.2.1 dL_law_20 ?_
    refine lv_bipush (v := 10) C.1 C.2.1 dL_law_21 (by decide) ?_
    refine lv_isub C.1 C.2.1 dL_law_23 ?_
    refine lv_icmp_gt (tgt := 1118) C.1 C.2.1 dL_law_24 (by decide) (fun q => ?_) (fun q => ?_)
    · exact W.widen (k := 600000) (n := 7302250) (by omega) (by omega) (kend H locs ls σ M)
    · have q' : ¬ (nI L - 10 < nI (10 * k)) := q
      rw [len10 hL hk] at q'
      have hi : 10 * k + 10 ≤ L := by omega
      have X : lX A s b L xs (10 * k) := ⟨hX, hb, hbA, hL, hi⟩
      have hc : 178 + 3 * k + 3 ≤ 600000 := by omega
      have hs : 5729 + 88 * k + 88 ≤ 7302250 := by omega
      have kk : ∀ (H1 : Heap) (locs1 : List Loc) (σ1 : hMem), hM E A s H1 locs1 σ1 Z → Rel σ1 → W p l e room_1 s m args below meth c H1 locs1 (178 + 3 * k + 3) (5729 + 88 * k + 88) Q (F0 m 1112 ls []) := by
        intro H1 locs1 σ1 M1 hR1
        refine lv_iinc (v := nI (10 * k + 10)) (lv' := [(3, .int (nI (10 * k + 10))), (0, .ref b), (1, .ref (hO E 0)), (2, .ref (hO E 43))]) C.1 C.2.1 dL_law_1112 hl (k := 3) rfl (by rw [← nI_add]; rfl) (by decide) rfl (fun ls hl => ?_)
        refine lv_goto (tgt := 18) C.1 C.2.1 dL_law_1115 (by decide) ?_
        have hl2 : lv_has ls 4 (LV E b (10 * (k + 1))) := lv_sub hl [1, 2, 3, 0] rfl
        have r := ih (k + 1) (by omega) (by omega) H1 locs1 ls σ1 M1 hR1 hl2
        exact W.widen (by omega) (by omega) r
      refine lv_aload_n C.1 C.2.1 dL_law_27 rfl (lv_at hl 0 rfl) ?_
      refine lv_iload_n C.1 C.2.1 dL_law_28 rfl (lv_at hl 3 rfl) ?_
      refine va_sld C.1 C.2.1 hX hb hbA M.2.2.1 (vp_in_nI (by omega) (by omega)) dL_law_29 ?_
      refine lv_bipush (v := 31) C.1 C.2.1 dL_law_30 (by decide) ?_
      refine lv_iand C.1 C.2.1 dL_law_32 ?_
      generalize xs (nI (10 * k)).toNatClampNeg = w
      obtain ⟨j, hj, ej⟩ := pk_andE w (m := 31) 5 (by decide)
      have ej : w &&& 31 = nI j := ej
      rw [ej]
      have hj : j < 32 := hj
      by_cases h23 : 23 ≤ j
      · refine lv_tableOut (tgt := 1112) C.1 C.2.1 dL_law_33 (Or.inr (by rw [nI_toInt (by omega)]; omega)) (by decide) ?_
        exact W.widen (by omega) (by omega) (kk H locs σ M hR)
      · rcases (show j = 0 ∨ j = 1 ∨ j = 2 ∨ j = 3 ∨ j = 4 ∨ j = 5 ∨ j = 6 ∨ j = 7 ∨ j = 8 ∨ j = 9 ∨ j = 10 ∨ j = 11 ∨ j = 12 ∨ j = 13 ∨ j = 14 ∨ j = 15 ∨ j = 16 ∨ j = 17 ∨ j = 18 ∨ j = 19 ∨ j = 20 ∨ j = 21 ∨ j = 22 by omega) with rfl | rfl | rfl | rfl | rfl | rfl | rfl | rfl | rfl | rfl | rfl | rfl | rfl | rfl | rfl | rfl | rfl | rfl | rfl | rfl | rfl | rfl | rfl
        · exact lv_tableIn (tgt := 140) C.1 C.2.1 dL_law_33 (by decide) (by decide) (off := 107) (by decide) (by decide) (arm_clock C M X hl hR hc hs kk)
        · exact lv_tableIn (tgt := 163) C.1 C.2.1 dL_law_33 (by decide) (by decide) (off := 130) (by decide) (by decide) (arm_trust C M X hl hR hc hs kk)
        · exact lv_tableIn (tgt := 196) C.1 C.2.1 dL_law_33 (by decide) (by decide) (off := 163) (by decide) (by decide) (arm_says C M X hl hR hc hs kk)
        · exact lv_tableIn (tgt := 259) C.1 C.2.1 dL_law_33 (by decide) (by decide) (off := 226) (by decide) (by decide) (arm_believed C M X hl hR hc hs kk)
        · exact lv_tableIn (tgt := 282) C.1 C.2.1 dL_law_33 (by decide) (by decide) (off := 249) (by decide) (by decide) (arm_spans C M X hl hR hc hs kk)
        · exact lv_tableIn (tgt := 325) C.1 C.2.1 dL_law_33 (by decide) (by decide) (off := 292) (by decide) (by decide) (arm_quarrel C M X hl hR hc hs kk)
        · exact lv_tableIn (tgt := 338) C.1 C.2.1 dL_law_33 (by decide) (by decide) (off := 305) (by decide) (by decide) (arm_quarrels C M X hl hR hc hs kk)
        · exact lv_tableIn (tgt := 361) C.1 C.2.1 dL_law_33 (by decide) (by decide) (off := 328) (by decide) (by decide) (arm_value C M X hl hR hc hs kk)
        · exact lv_tableIn (tgt := 414) C.1 C.2.1 dL_law_33 (by decide) (by decide) (off := 381) (by decide) (by decide) (arm_earlier C M X hl hR hc hs kk)
        · exact lv_tableIn (tgt := 457) C.1 C.2.1 dL_law_33 (by decide) (by decide) (off := 424) (by decide) (by decide) (arm_overrule C M X hl hR hc hs kk)
        · exact lv_tableIn (tgt := 490) C.1 C.2.1 dL_law_33 (by decide) (by decide) (off := 457) (by decide) (by decide) (arm_suit C M X hl hR hc hs kk)
        · exact lv_tableIn (tgt := 523) C.1 C.2.1 dL_law_33 (by decide) (by decide) (off := 490) (by decide) (by decide) (arm_feed C M X hl hR hc hs kk)
        · exact lv_tableIn (tgt := 586) C.1 C.2.1 dL_law_33 (by decide) (by decide) (off := 553) (by decide) (by decide) (arm_end C M X hl hR hc hs kk)
        · exact lv_tableIn (tgt := 609) C.1 C.2.1 dL_law_33 (by decide) (by decide) (off := 576) (by decide) (by decide) (arm_law C M X hl hR hc hs kk)
        · exact lv_tableIn (tgt := 632) C.1 C.2.1 dL_law_33 (by decide) (by decide) (off := 599) (by decide) (by decide) (arm_sheet C M X hl hR hc hs kk)
        · exact lv_tableIn (tgt := 823) C.1 C.2.1 dL_law_33 (by decide) (by decide) (off := 790) (by decide) (by decide) (arm_ship C M X hl hR hc hs kk)
        · exact lv_tableIn (tgt := 898) C.1 C.2.1 dL_law_33 (by decide) (by decide) (off := 865) (by decide) (by decide) (arm_judge C M X hl hR hc hs kk)
        · exact lv_tableIn (tgt := 931) C.1 C.2.1 dL_law_33 (by decide) (by decide) (off := 898) (by decide) (by decide) (arm_judged C M X hl hR hc hs kk)
        · exact lv_tableIn (tgt := 955) C.1 C.2.1 dL_law_33 (by decide) (by decide) (off := 922) (by decide) (by decide) (arm_like C M X hl hR hc hs kk)
        · exact lv_tableIn (tgt := 978) C.1 C.2.1 dL_law_33 (by decide) (by decide) (off := 945) (by decide) (by decide) (arm_share C M X hl hR hc hs kk)
        · exact lv_tableIn (tgt := 1012) C.1 C.2.1 dL_law_33 (by decide) (by decide) (off := 979) (by decide) (by decide) (arm_hand C M X hl hR hc hs kk)
        · exact lv_tableIn (tgt := 1046) C.1 C.2.1 dL_law_33 (by decide) (by decide) (off := 1013) (by decide) (by decide) (arm_saved C M X hl hR hc hs kk)
        · exact lv_tableIn (tgt := 1089) C.1 C.2.1 dL_law_33 (by decide) (by decide) (off := 1056) (by decide) (by decide) (arm_count C M X hl hR hc hs kk)
end LOOP
