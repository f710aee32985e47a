def mRat (σ : hMem) (n ro : Nat) : Int32 := if nI n = 0 then hA σ 43 29 ro 7 else if hA σ 43 29 ro 6 = 0 then srt (fun _ => 0) (fun i => hA σ 43 19 0 (hA σ 43 52 0 i).toNatClampNeg) n 0 else if hA σ 43 29 ro 6 = 1 then srt (fun _ => 0) (fun i => hA σ 43 19 0 (hA σ 43 52 0 i).toNatClampNeg) n ((n - 1) / 2) else if hA σ 43 29 ro 6 = 2 then srt (fun _ => 0) (fun i => hA σ 43 19 0 (hA σ 43 52 0 i).toNatClampNeg) n (n - 1) else sumI (fun i => hA σ 43 19 0 (hA σ 43 52 0 i).toNatClampNeg) n / nI n

set_option maxHeartbeats 4000000 in
set_option maxRecDepth 100000 in
theorem m_rated (l : Launch) (E : hEnv) (σ : hMem) (Z : va_W) (n ro : Nat) (hro : ro < 7) (hn : hI σ 43 49 = nI n) (hn40 : n ≤ 40) (hlik : ∀ i, i < n → vp_in (hA σ 43 52 0 i) 40) : hMet l yX12_rated cX12_rated 7 (some .int) (0, 1, 40, 0) E σ Z [.ref (hO E 43), .ref (hR E 43 29 ro)] (hQi E (fun r u => r = mRat σ n ro ∧ u = (σ, Z))) := by
  refine hMet.of (by decide) (Nat.le_of_ble_eq_true rfl) (fun p e s m below meth c A ls C M hr hlk hl => ?_)
  have hl : lv_has ls 7 [(0, .ref (hO E 43)), (1, .ref (hR E 43 29 ro))] := hl
  generalize s.heap = H at M ⊢
  generalize ([] : List Loc) = locs at M ⊢
  refine lv_aload_n C.1 C.2.1 dX12_rated_0 rfl (lv_at hl 0 rfl) ?_
  refine g_getI C M 43 49 (by decide) rfl rfl (by decide) fl12_269 (v := nI n) hn dX12_rated_1 ?_
  refine lv_if_ne (tgt := 12) C.1 C.2.1 dX12_rated_4 (by decide) (fun c_4 => ?_) (fun c_4 => ?_)
  · skip
    have hn0 : 0 < n := by have := ct_ne 0 c_4; omega
    refine lv_bipush (v := 40) C.1 C.2.1 dX12_rated_12 (by decide) ?_
    refine g_newi C M (k := 40) ac_int (by decide) (by decide) (by decide) (Nat.le_of_ble_eq_true rfl) (Nat.le_of_ble_eq_true rfl) dX12_rated_14 (fun a1 H M => ?_)
    have M : hM E A s H locs σ (Z ++ [(a1, .inl (E.2.1 0, 40, .inl (fun _ => 0)))]) := M
    refine lv_astore_n (lv' := [(2, .ref a1), (0, .ref (hO E 43)), (1, .ref (hR E 43 29 ro))]) C.1 C.2.1 dX12_rated_16 rfl hl (by decide) rfl (fun ls hl => ?_)
    refine lv_iconst (v := 0) C.1 C.2.1 dX12_rated_17 (by decide) ?_
    refine lv_istore_n (lv' := [(3, .int 0), (2, .ref a1), (0, .ref (hO E 43)), (1, .ref (hR E 43 29 ro))]) C.1 C.2.1 dX12_rated_18 rfl hl (by decide) rfl (fun ls hl => ?_)
    refine lv_iconst (v := 0) C.1 C.2.1 dX12_rated_19 (by decide) ?_
    refine lv_istore (lv' := [(4, .int 0), (3, .int 0), (2, .ref a1), (0, .ref (hO E 43)), (1, .ref (hR E 43 29 ro))]) C.1 C.2.1 dX12_rated_20 hl (by decide) rfl (fun ls hl => ?_)
    have L22 : ∀ (n9 : Nat) (k : Nat), (k ≤ n) → n - k < n9 → ∀ (H : Heap) (locs : List Loc) (ls : Array Slot), hM E A s H locs σ (Z ++ [(a1, .inl (E.2.1 0, 40, .inl (srt (fun _ => 0) (fun i => hA σ 43 19 0 (hA σ 43 52 0 i).toNatClampNeg) k)))]) → lv_has ls 7 [(4, .int (nI k)), (3, .int (sumI (fun i => hA σ 43 19 0 (hA σ 43 52 0 i).toNatClampNeg) k)), (0, .ref (hO E 43)), (1, .ref (hR E 43 29 ro)), (2, .ref a1)] → W p l e (hRm (0, 1, 40, 0)) s m [.ref (hO E 43), .ref (hR E 43 29 ro)].toArray below meth c H locs 1 40 (MQ below (hQi E (fun r u => r = mRat σ n ro ∧ u = (σ, Z)) A) [.ref (hO E 43), .ref (hR E 43 29 ro)].toArray s 1 40 A) (F0 m 22 ls []) := by
      intro n9
      induction n9 with
      | zero =>
        intro k hk hn9
        exact absurd hn9 (Nat.not_lt_zero _)
      | succ n9 ih22 =>
        intro k hk hn22 H locs ls M hl
        refine lv_iload C.1 C.2.1 dX12_rated_22 (lv_at hl 0 rfl) ?_
        refine lv_aload_n C.1 C.2.1 dX12_rated_24 rfl (lv_at hl 2 rfl) ?_
        refine g_getI C M 43 49 (by decide) rfl rfl (by decide) fl12_269 (v := nI n) hn dX12_rated_25 ?_
        refine lv_icmp_ge (tgt := 98) C.1 C.2.1 dX12_rated_28 (by decide) (fun c_28 => ?_) (fun c_28 => ?_)
        · skip
          have hkn : k = n := by have := ct_ge (n := n) (k := k) c_28; omega
          have hl : lv_has ls 7 [(4, .int (nI n)), (3, .int (sumI (fun i => hA σ 43 19 0 (hA σ 43 52 0 i).toNatClampNeg) n)), (0, .ref (hO E 43)), (1, .ref (hR E 43 29 ro)), (2, .ref a1)] := by first | exact hl | (rw [hkn] at hl; exact hl)
          have M : hM E A s H locs σ (Z ++ [(a1, .inl (E.2.1 0, 40, .inl (srt (fun _ => 0) (fun i => hA σ 43 19 0 (hA σ 43 52 0 i).toNatClampNeg) n)))]) := by first | exact M | (rw [hkn] at M; exact M)
          refine lv_aload_n C.1 C.2.1 dX12_rated_98 rfl (lv_at hl 3 rfl) ?_
          refine lv_bipush (v := 6) C.1 C.2.1 dX12_rated_99 (by decide) ?_
          refine g_riald C M 43 29 ro (by decide) rfl (by omega) (by decide) 6 (by decide) (by rw [vp_in_iff]; decide) (v := hA σ 43 29 ro 6) rfl dX12_rated_101 ?_
          refine lv_if_ne (tgt := 111) C.1 C.2.1 dX12_rated_102 (by decide) (fun c_102 => ?_) (fun c_102 => ?_)
          · skip
            refine lv_aload_n C.1 C.2.1 dX12_rated_111 rfl (lv_at hl 3 rfl) ?_
            refine lv_bipush (v := 6) C.1 C.2.1 dX12_rated_112 (by decide) ?_
            refine g_riald C M 43 29 ro (by decide) rfl (by omega) (by decide) 6 (by decide) (by rw [vp_in_iff]; decide) (v := hA σ 43 29 ro 6) rfl dX12_rated_114 ?_
            refine lv_iconst (v := 1) C.1 C.2.1 dX12_rated_115 (by decide) ?_
            refine lv_icmp_ne (tgt := 132) C.1 C.2.1 dX12_rated_116 (by decide) (fun c_116 => ?_) (fun c_116 => ?_)
            · skip
              refine lv_aload_n C.1 C.2.1 dX12_rated_132 rfl (lv_at hl 3 rfl) ?_
              refine lv_bipush (v := 6) C.1 C.2.1 dX12_rated_133 (by decide) ?_
              refine g_riald C M 43 29 ro (by decide) rfl (by omega) (by decide) 6 (by decide) (by rw [vp_in_iff]; decide) (v := hA σ 43 29 ro 6) rfl dX12_rated_135 ?_
              refine lv_iconst (v := 2) C.1 C.2.1 dX12_rated_136 (by decide) ?_
              refine lv_icmp_ne (tgt := 151) C.1 C.2.1 dX12_rated_137 (by decide) (fun c_137 => ?_) (fun c_137 => ?_)
              · skip
                refine lv_iload_n C.1 C.2.1 dX12_rated_151 rfl (lv_at hl 1 rfl) ?_
                refine lv_aload_n C.1 C.2.1 dX12_rated_152 rfl (lv_at hl 2 rfl) ?_
                refine g_getI C M 43 49 (by decide) rfl rfl (by decide) fl12_269 (v := nI n) hn dX12_rated_153 ?_
                refine lv_idiv C.1 C.2.1 dX12_rated_156 c_4 ?_
                refine g_iret C M.drop hr hlk ?_ (Nat.le_of_ble_eq_true rfl) (Nat.le_of_ble_eq_true rfl) dX12_rated_157
                first | (simp only [mRat, c_4, c_28, c_102, c_116, c_137, not_false_eq_true, not_true_eq_false, and_self, and_true, true_and, and_false, false_and, or_true, true_or, or_false, false_or, Bool.false_eq_true, if_true, if_false, ↓reduceIte]; done) | simp [mRat, c_4, c_28, c_102, c_116, c_137]
              · skip
                refine lv_aload_n C.1 C.2.1 dX12_rated_140 rfl (lv_at hl 4 rfl) ?_
                refine lv_aload_n C.1 C.2.1 dX12_rated_141 rfl (lv_at hl 2 rfl) ?_
                refine g_getI C M 43 49 (by decide) rfl rfl (by decide) fl12_269 (v := nI n) hn dX12_rated_142 ?_
                refine lv_iconst (v := 1) C.1 C.2.1 dX12_rated_145 (by decide) ?_
                refine lv_isub C.1 C.2.1 dX12_rated_146 ?_
                refine g_rei (v := nI (n - 1)) (nI_m1 hn0) ?_
                refine g_xiald C M Z.length zat0 (n - 1) (nI_clamp (by omega)) (vp_in_nI (by omega) (by decide)) (v := (srt (fun _ => 0) (fun i => hA σ 43 19 0 (hA σ 43 52 0 i).toNatClampNeg) n) (n - 1)) rfl dX12_rated_147 ?_
                refine lv_goto (tgt := 157) C.1 C.2.1 dX12_rated_148 (by decide) ?_
                refine g_iret C M.drop hr hlk ?_ (Nat.le_of_ble_eq_true rfl) (Nat.le_of_ble_eq_true rfl) dX12_rated_157
                first | (simp only [mRat, c_4, c_28, c_102, c_116, c_137, not_false_eq_true, not_true_eq_false, and_self, and_true, true_and, and_false, false_and, or_true, true_or, or_false, false_or, Bool.false_eq_true, if_true, if_false, ↓reduceIte]; done) | simp [mRat, c_4, c_28, c_102, c_116, c_137]
            · skip
              refine lv_aload_n C.1 C.2.1 dX12_rated_119 rfl (lv_at hl 4 rfl) ?_
              refine lv_aload_n C.1 C.2.1 dX12_rated_120 rfl (lv_at hl 2 rfl) ?_
              refine g_getI C M 43 49 (by decide) rfl rfl (by decide) fl12_269 (v := nI n) hn dX12_rated_121 ?_
              refine lv_iconst (v := 1) C.1 C.2.1 dX12_rated_124 (by decide) ?_
              refine lv_isub C.1 C.2.1 dX12_rated_125 ?_
              refine g_rei (v := nI (n - 1)) (nI_m1 hn0) ?_
              refine lv_iconst (v := 2) C.1 C.2.1 dX12_rated_126 (by decide) ?_
              refine lv_idiv C.1 C.2.1 dX12_rated_127 (by decide) ?_
              refine g_rei (v := nI ((n - 1) / 2)) (pk_div (d := 2) (by omega) (by decide) (by decide)) ?_
              refine g_xiald C M Z.length zat0 ((n - 1) / 2) (nI_clamp (by omega)) (vp_in_nI (by omega) (by decide)) (v := (srt (fun _ => 0) (fun i => hA σ 43 19 0 (hA σ 43 52 0 i).toNatClampNeg) n) ((n - 1) / 2)) rfl dX12_rated_128 ?_
              refine lv_goto (tgt := 157) C.1 C.2.1 dX12_rated_129 (by decide) ?_
              refine g_iret C M.drop hr hlk ?_ (Nat.le_of_ble_eq_true rfl) (Nat.le_of_ble_eq_true rfl) dX12_rated_157
              first | (simp only [mRat, c_4, c_28, c_102, c_116, not_false_eq_true, not_true_eq_false, and_self, and_true, true_and, and_false, false_and, or_true, true_or, or_false, false_or, Bool.false_eq_true, if_true, if_false, ↓reduceIte]; done) | simp [mRat, c_4, c_28, c_102, c_116]
          · skip
            refine lv_aload_n C.1 C.2.1 dX12_rated_105 rfl (lv_at hl 4 rfl) ?_
            refine lv_iconst (v := 0) C.1 C.2.1 dX12_rated_106 (by decide) ?_
            refine g_xiald C M Z.length zat0 0 (by decide) (by rw [vp_in_iff]; decide) (v := (srt (fun _ => 0) (fun i => hA σ 43 19 0 (hA σ 43 52 0 i).toNatClampNeg) n) 0) rfl dX12_rated_107 ?_
            refine lv_goto (tgt := 157) C.1 C.2.1 dX12_rated_108 (by decide) ?_
            refine g_iret C M.drop hr hlk ?_ (Nat.le_of_ble_eq_true rfl) (Nat.le_of_ble_eq_true rfl) dX12_rated_157
            first | (simp only [mRat, c_4, c_28, c_102, not_false_eq_true, not_true_eq_false, and_self, and_true, true_and, and_false, false_and, or_true, true_or, or_false, false_or, Bool.false_eq_true, if_true, if_false, ↓reduceIte]; done) | simp [mRat, c_4, c_28, c_102]
        · skip
          have hk1 : k < n := ct_nge (n := n) (k := k) c_28
          refine lv_aload_n C.1 C.2.1 dX12_rated_31 rfl (lv_at hl 2 rfl) ?_
          refine g_getA C M 43 19 (by decide) rfl rfl (by decide) fl12_55 dX12_rated_32 ?_
          refine lv_aload_n C.1 C.2.1 dX12_rated_35 rfl (lv_at hl 2 rfl) ?_
          refine g_getA C M 43 52 (by decide) rfl rfl (by decide) fl12_112 dX12_rated_36 ?_
          refine lv_iload C.1 C.2.1 dX12_rated_39 (lv_at hl 0 rfl) ?_
          refine g_iald C M 43 52 (by decide) rfl k (nI_clamp (by omega)) (vp_in_nI (by omega) (by decide)) (v := hA σ 43 52 0 k) rfl dX12_rated_41 ?_
          refine g_iald C M 43 19 (by decide) rfl ((hA σ 43 52 0 k).toNatClampNeg) rfl (hlik k hk1) (v := hA σ 43 19 0 ((hA σ 43 52 0 k).toNatClampNeg)) rfl dX12_rated_42 ?_
          refine lv_istore (lv' := [(5, .int (hA σ 43 19 0 ((hA σ 43 52 0 k).toNatClampNeg))), (4, .int (nI k)), (3, .int (sumI (fun i => hA σ 43 19 0 (hA σ 43 52 0 i).toNatClampNeg) k)), (0, .ref (hO E 43)), (1, .ref (hR E 43 29 ro)), (2, .ref a1)]) C.1 C.2.1 dX12_rated_43 hl (by decide) rfl (fun ls hl => ?_)
          refine lv_iload_n C.1 C.2.1 dX12_rated_45 rfl (lv_at hl 2 rfl) ?_
          refine lv_iload C.1 C.2.1 dX12_rated_46 (lv_at hl 0 rfl) ?_
          refine lv_iadd C.1 C.2.1 dX12_rated_48 ?_
          refine lv_istore_n (lv' := [(3, .int ((sumI (fun i => hA σ 43 19 0 (hA σ 43 52 0 i).toNatClampNeg) k) + (hA σ 43 19 0 ((hA σ 43 52 0 k).toNatClampNeg)))), (5, .int (hA σ 43 19 0 ((hA σ 43 52 0 k).toNatClampNeg))), (4, .int (nI k)), (0, .ref (hO E 43)), (1, .ref (hR E 43 29 ro)), (2, .ref a1)]) C.1 C.2.1 dX12_rated_49 rfl hl (by decide) rfl (fun ls hl => ?_)
          refine lv_iload C.1 C.2.1 dX12_rated_50 (lv_at hl 2 rfl) ?_
          refine lv_istore (lv' := [(6, .int (nI k)), (3, .int ((sumI (fun i => hA σ 43 19 0 (hA σ 43 52 0 i).toNatClampNeg) k) + (hA σ 43 19 0 ((hA σ 43 52 0 k).toNatClampNeg)))), (5, .int (hA σ 43 19 0 ((hA σ 43 52 0 k).toNatClampNeg))), (4, .int (nI k)), (0, .ref (hO E 43)), (1, .ref (hR E 43 29 ro)), (2, .ref a1)]) C.1 C.2.1 dX12_rated_52 hl (by decide) rfl (fun ls hl => ?_)
          have L54 : ∀ (n9 : Nat) (z : Nat) (f : Nat → Int32), (z ≤ k) → (ins f (hA σ 43 19 0 (hA σ 43 52 0 k).toNatClampNeg) z = srt (fun _ => 0) (fun i => hA σ 43 19 0 (hA σ 43 52 0 i).toNatClampNeg) (k + 1)) → z < n9 → ∀ (H : Heap) (locs : List Loc) (ls : Array Slot), hM E A s H locs σ (Z ++ [(a1, .inl (E.2.1 0, 40, .inl f))]) → lv_has ls 7 [(6, .int (nI z)), (0, .ref (hO E 43)), (1, .ref (hR E 43 29 ro)), (2, .ref a1), (3, .int ((sumI (fun i => hA σ 43 19 0 (hA σ 43 52 0 i).toNatClampNeg) k) + (hA σ 43 19 0 ((hA σ 43 52 0 k).toNatClampNeg)))), (4, .int (nI k)), (5, .int (hA σ 43 19 0 ((hA σ 43 52 0 k).toNatClampNeg)))] → W p l e (hRm (0, 1, 40, 0)) s m [.ref (hO E 43), .ref (hR E 43 29 ro)].toArray below meth c H locs 1 40 (MQ below (hQi E (fun r u => r = mRat σ n ro ∧ u = (σ, Z)) A) [.ref (hO E 43), .ref (hR E 43 29 ro)].toArray s 1 40 A) (F0 m 54 ls []) := by
            intro n9
            induction n9 with
            | zero =>
              intro z f hi hf hn9
              exact absurd hn9 (Nat.not_lt_zero _)
            | succ n9 ih54 =>
              intro z f hi hf hn54 H locs ls M hl
              refine lv_iload C.1 C.2.1 dX12_rated_54 (lv_at hl 0 rfl) ?_
              refine lv_if_le (tgt := 86) C.1 C.2.1 dX12_rated_56 (by decide) (fun c_56 => ?_) (fun c_56 => ?_)
              · skip
                have hi0 : z = 0 := by have := ct_ge (n := z) (k := 0) c_56; omega
                have he9 : upd f z (hA σ 43 19 0 (hA σ 43 52 0 k).toNatClampNeg) = srt (fun _ => 0) (fun i => hA σ 43 19 0 (hA σ 43 52 0 i).toNatClampNeg) (k + 1) := by rw [← hf, hi0]; rfl
                refine lv_aload_n C.1 C.2.1 dX12_rated_86 rfl (lv_at hl 3 rfl) ?_
                refine lv_iload C.1 C.2.1 dX12_rated_87 (lv_at hl 0 rfl) ?_
                refine lv_iload C.1 C.2.1 dX12_rated_89 (lv_at hl 6 rfl) ?_
                refine g_xiast C M Z.length zat0 z (nI_clamp (by omega)) (vp_in_nI (by omega) (by decide)) dX12_rated_91 (fun H locs M => ?_)
                have M : hM E A s H locs σ (Z ++ [(a1, .inl (E.2.1 0, 40, .inl (upd f z (hA σ 43 19 0 ((hA σ 43 52 0 k).toNatClampNeg)))))]) := by rw [zset0] at M; exact M
                refine lv_iinc (v := nI (k + 1)) (lv' := [(4, .int (nI (k + 1))), (6, .int (nI z)), (0, .ref (hO E 43)), (1, .ref (hR E 43 29 ro)), (2, .ref a1), (3, .int ((sumI (fun i => hA σ 43 19 0 (hA σ 43 52 0 i).toNatClampNeg) k) + (hA σ 43 19 0 ((hA σ 43 52 0 k).toNatClampNeg)))), (5, .int (hA σ 43 19 0 ((hA σ 43 52 0 k).toNatClampNeg)))]) C.1 C.2.1 dX12_rated_92 hl (k := 5) rfl (nI_succ _).symm (by decide) rfl (fun ls hl => ?_)
                refine lv_goto (tgt := 22) C.1 C.2.1 dX12_rated_95 (by decide) ?_
                have q2 : (sumI (fun i => hA σ 43 19 0 (hA σ 43 52 0 i).toNatClampNeg) k) + (hA σ 43 19 0 ((hA σ 43 52 0 k).toNatClampNeg)) = sumI (fun i => hA σ 43 19 0 (hA σ 43 52 0 i).toNatClampNeg) (k + 1) := by rfl
                have hl : lv_has ls 7 [(4, .int (nI (k + 1))), (3, .int (sumI (fun i => hA σ 43 19 0 (hA σ 43 52 0 i).toNatClampNeg) (k + 1))), (0, .ref (hO E 43)), (1, .ref (hR E 43 29 ro)), (2, .ref a1)] := by
                  rw [← q2]
                  exact lv_sub hl [0, 5, 2, 3, 4] rfl
                have q3 : (upd f z (hA σ 43 19 0 ((hA σ 43 52 0 k).toNatClampNeg)) : Nat → Int32) = srt (fun _ => 0) (fun i => hA σ 43 19 0 (hA σ 43 52 0 i).toNatClampNeg) (k + 1) := by first | exact he9 | rfl
                rw [q3] at M
                exact ih22 (k + 1) hk1 (by omega) _ _ _ M hl
              · skip
                obtain ⟨z, rfl⟩ : ∃ q, z = q + 1 := ⟨z - 1, by have := ct_nge (n := z) (k := 0) c_56; omega⟩
                refine lv_aload_n C.1 C.2.1 dX12_rated_59 rfl (lv_at hl 3 rfl) ?_
                refine lv_iload C.1 C.2.1 dX12_rated_60 (lv_at hl 0 rfl) ?_
                refine lv_iconst (v := 1) C.1 C.2.1 dX12_rated_62 (by decide) ?_
                refine lv_isub C.1 C.2.1 dX12_rated_63 ?_
                refine g_rei (v := nI z) (nI_pred _) ?_
                refine g_xiald C M Z.length zat0 z (nI_clamp (by omega)) (vp_in_nI (by omega) (by decide)) (v := f z) rfl dX12_rated_64 ?_
                refine lv_iload C.1 C.2.1 dX12_rated_65 (lv_at hl 6 rfl) ?_
                refine lv_icmp_le (tgt := 86) C.1 C.2.1 dX12_rated_67 (by decide) (fun c_67 => ?_) (fun c_67 => ?_)
                · skip
                  have he9 : upd f (z + 1) (hA σ 43 19 0 (hA σ 43 52 0 k).toNatClampNeg) = srt (fun _ => 0) (fun i => hA σ 43 19 0 (hA σ 43 52 0 i).toNatClampNeg) (k + 1) := by rw [← hf, ins, if_pos c_67]
                  refine lv_aload_n C.1 C.2.1 dX12_rated_86 rfl (lv_at hl 3 rfl) ?_
                  refine lv_iload C.1 C.2.1 dX12_rated_87 (lv_at hl 0 rfl) ?_
                  refine lv_iload C.1 C.2.1 dX12_rated_89 (lv_at hl 6 rfl) ?_
                  refine g_xiast C M Z.length zat0 (z + 1) (nI_clamp (by omega)) (vp_in_nI (by omega) (by decide)) dX12_rated_91 (fun H locs M => ?_)
                  have M : hM E A s H locs σ (Z ++ [(a1, .inl (E.2.1 0, 40, .inl (upd f (z + 1) (hA σ 43 19 0 ((hA σ 43 52 0 k).toNatClampNeg)))))]) := by rw [zset0] at M; exact M
                  refine lv_iinc (v := nI (k + 1)) (lv' := [(4, .int (nI (k + 1))), (6, .int (nI (z + 1))), (0, .ref (hO E 43)), (1, .ref (hR E 43 29 ro)), (2, .ref a1), (3, .int ((sumI (fun i => hA σ 43 19 0 (hA σ 43 52 0 i).toNatClampNeg) k) + (hA σ 43 19 0 ((hA σ 43 52 0 k).toNatClampNeg)))), (5, .int (hA σ 43 19 0 ((hA σ 43 52 0 k).toNatClampNeg)))]) C.1 C.2.1 dX12_rated_92 hl (k := 5) rfl (nI_succ _).symm (by decide) rfl (fun ls hl => ?_)
                  refine lv_goto (tgt := 22) C.1 C.2.1 dX12_rated_95 (by decide) ?_
                  have q4 : (sumI (fun i => hA σ 43 19 0 (hA σ 43 52 0 i).toNatClampNeg) k) + (hA σ 43 19 0 ((hA σ 43 52 0 k).toNatClampNeg)) = sumI (fun i => hA σ 43 19 0 (hA σ 43 52 0 i).toNatClampNeg) (k + 1) := by rfl
                  have hl : lv_has ls 7 [(4, .int (nI (k + 1))), (3, .int (sumI (fun i => hA σ 43 19 0 (hA σ 43 52 0 i).toNatClampNeg) (k + 1))), (0, .ref (hO E 43)), (1, .ref (hR E 43 29 ro)), (2, .ref a1)] := by
                    rw [← q4]
                    exact lv_sub hl [0, 5, 2, 3, 4] rfl
                  have q5 : (upd f (z + 1) (hA σ 43 19 0 ((hA σ 43 52 0 k).toNatClampNeg)) : Nat → Int32) = srt (fun _ => 0) (fun i => hA σ 43 19 0 (hA σ 43 52 0 i).toNatClampNeg) (k + 1) := by first | exact he9 | rfl
                  rw [q5] at M
                  exact ih22 (k + 1) hk1 (by omega) _ _ _ M hl
                · skip
                  refine lv_aload_n C.1 C.2.1 dX12_rated_70 rfl (lv_at hl 3 rfl) ?_
                  refine lv_iload C.1 C.2.1 dX12_rated_71 (lv_at hl 0 rfl) ?_
                  refine lv_aload_n C.1 C.2.1 dX12_rated_73 rfl (lv_at hl 3 rfl) ?_
                  refine lv_iload C.1 C.2.1 dX12_rated_74 (lv_at hl 0 rfl) ?_
                  refine lv_iconst (v := 1) C.1 C.2.1 dX12_rated_76 (by decide) ?_
                  refine lv_isub C.1 C.2.1 dX12_rated_77 ?_
                  refine g_rei (v := nI z) (nI_pred _) ?_
                  refine g_xiald C M Z.length zat0 z (nI_clamp (by omega)) (vp_in_nI (by omega) (by decide)) (v := f z) rfl dX12_rated_78 ?_
                  refine g_xiast C M Z.length zat0 (z + 1) (nI_clamp (by omega)) (vp_in_nI (by omega) (by decide)) dX12_rated_79 (fun H locs M => ?_)
                  have M : hM E A s H locs σ (Z ++ [(a1, .inl (E.2.1 0, 40, .inl (upd f (z + 1) (f z))))]) := by rw [zset0] at M; exact M
                  refine lv_iinc (v := nI z) (lv' := [(6, .int (nI z)), (0, .ref (hO E 43)), (1, .ref (hR E 43 29 ro)), (2, .ref a1), (3, .int ((sumI (fun i => hA σ 43 19 0 (hA σ 43 52 0 i).toNatClampNeg) k) + (hA σ 43 19 0 ((hA σ 43 52 0 k).toNatClampNeg)))), (4, .int (nI k)), (5, .int (hA σ 43 19 0 ((hA σ 43 52 0 k).toNatClampNeg)))]) C.1 C.2.1 dX12_rated_80 hl (k := 0) rfl (pk_m1 _) (by decide) rfl (fun ls hl => ?_)
                  refine lv_goto (tgt := 54) C.1 C.2.1 dX12_rated_83 (by decide) ?_
                  exact ih54 z (upd f (z + 1) (f z)) (by omega) (by rw [← hf, ins, if_neg c_67]) (by omega) _ _ _ M (lv_sub hl [0, 1, 2, 3, 4, 5, 6] rfl)
          exact L54 (k + 1) k (srt (fun _ => 0) (fun i => hA σ 43 19 0 (hA σ 43 52 0 i).toNatClampNeg) k) (Nat.le_refl _) rfl (Nat.lt_succ_self _) _ _ _ M (lv_sub hl [0, 4, 5, 6, 1, 3, 2] rfl)
    have q6 : 0 = nI 0 := by rfl
    have q7 : 0 = sumI (fun i => hA σ 43 19 0 (hA σ 43 52 0 i).toNatClampNeg) 0 := by rfl
    have hl : lv_has ls 7 [(4, .int (nI 0)), (3, .int (sumI (fun i => hA σ 43 19 0 (hA σ 43 52 0 i).toNatClampNeg) 0)), (0, .ref (hO E 43)), (1, .ref (hR E 43 29 ro)), (2, .ref a1)] := by
      rw [← q6, ← q7]
      exact lv_sub hl [0, 1, 3, 4, 2] rfl
    have q8 : (fun _ => 0 : Nat → Int32) = srt (fun _ => 0) (fun i => hA σ 43 19 0 (hA σ 43 52 0 i).toNatClampNeg) 0 := by first | exact he9 | rfl
    rw [q8] at M
    exact L22 ((n - 0) + 1) 0 (Nat.zero_le _) (Nat.lt_succ_self _) _ _ _ M hl
  · skip
    refine lv_aload_n C.1 C.2.1 dX12_rated_7 rfl (lv_at hl 1 rfl) ?_
    refine lv_bipush (v := 7) C.1 C.2.1 dX12_rated_8 (by decide) ?_
    refine g_riald C M 43 29 ro (by decide) rfl (by omega) (by decide) 7 (by decide) (by rw [vp_in_iff]; decide) (v := hA σ 43 29 ro 7) rfl dX12_rated_10 ?_
    refine g_iret C M hr hlk ?_ (Nat.le_of_ble_eq_true rfl) (Nat.le_of_ble_eq_true rfl) dX12_rated_11
    first | (simp only [mRat, c_4, not_false_eq_true, not_true_eq_false, and_self, and_true, true_and, and_false, false_and, or_true, true_or, or_false, false_or, Bool.false_eq_true, if_true, if_false, ↓reduceIte]; done) | simp [mRat, c_4]
