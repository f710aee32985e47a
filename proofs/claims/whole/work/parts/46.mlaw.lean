def L0f (k : Nat) : Int32 := if k = 7 then 100 else 0
theorem nI_sur (x : Int32) : ∃ k, x = nI k := ⟨x.toBitVec.toNat, by
  apply Int32.toBitVec_inj.mp
  show x.toBitVec = BitVec.ofNat 32 x.toBitVec.toNat
  rw [BitVec.ofNat_toNat, BitVec.setWidth_eq]⟩
theorem pM_ini (σ : hMem) (q : Nat) (L : Nat → Int32) (hq : hI σ 43 33 = nI q) : sI (sI (sA σ 43 29 6 L) 43 32 0) 43 34 0 = pM σ 0 q 0 L := by
  unfold pM
  rw [← hq]
  exact congrArg (fun z => sI z 43 34 0) (sI_self (sI (sA σ 43 29 6 L) 43 32 (nI 0)) 43 33)
theorem hA_o {σ : hMem} {j k i i' : Nat} {f : Nat → Int32} (h : i' ≠ i) : hA (sA σ j k i f) j k i' = hA σ j k i' := by
  rw [hA_sA, if_neg (fun q => h q.2.1)]
theorem clP_sk {t : Nat → Int32} {n b : Nat} {T L : Nat → Int32} (h : b ≤ n) : clP t n (sk t n b) T L = clP t n b T L := by
  unfold clP
  rw [sk_sk h]
abbrev lRes : Type := Int32 ⊕ (Nat → Int32)
def lInv (t : Nat → Int32) (n : Nat) (R : lRes) (b : Nat) (ft : Int32) (T L : Nat → Int32) : Prop := (0 < ft ∧ R = .inl ft) ∨ (ft = 0 ∧ b ≤ n ∧ ∃ f, n + 1 ≤ b + f ∧ lwP t n f b T L = R)
def msr (ft : Int32) (n b : Nat) : Nat := if ft = 0 then n + 2 - b else 0
section LI
variable {t : Nat → Int32} {n b f : Nat} {R : lRes} {T L T' L' : Nat → Int32} {b' : Nat} {ft : Int32}
theorem lInv.fl (hb : b ≤ n) (hf : n + 1 ≤ b + f) (hR : lwP t n f b T L = R) (hne : ¬ sk t n b = n) (hc : cRel t n (sk t n b) T L b' ft L' T') (h0 : ¬ ft = 0) : lInv t n R b' ft T' L' := by
  rcases hc with ⟨_, ⟨h1, h2⟩ | ⟨_, h2⟩⟩
  · refine Or.inl ⟨h2, ?_⟩
    obtain ⟨g, rfl⟩ : ∃ g, f = g + 1 := ⟨f - 1, by omega⟩
    rw [← hR]
    unfold lwP
    rw [if_neg hne, ← clP_sk hb, h1]
  · exact absurd h2 h0
theorem lInv.ok (hb : b ≤ n) (hf : n + 1 ≤ b + f) (hR : lwP t n f b T L = R) (hne : ¬ sk t n b = n) (hc : clP t n (sk t n b) T L = .inr (b', T', L')) (h1 : sk t n b' < n) (h2 : t (sk t n b') = 59) (hbb : b ≤ b') : lInv t n R (sk t n b' + 1) 0 T' L' := by
  obtain ⟨g, rfl⟩ : ∃ g, f = g + 1 := ⟨f - 1, by omega⟩
  have h9 : b' ≤ sk t n b' := scn_ge pB t n b'
  refine Or.inr ⟨rfl, by omega, g, by omega, ?_⟩
  rw [← hR]
  conv => rhs; unfold lwP
  rw [if_neg hne, ← clP_sk hb, hc]
  show _ = if sk t n b' < n ∧ t (sk t n b') = 59 then _ else _
  rw [if_pos ⟨h1, h2⟩]
theorem lInv.no (hn : n ≤ 300) (hb : b ≤ n) (hf : n + 1 ≤ b + f) (hR : lwP t n f b T L = R) (hne : ¬ sk t n b = n) (hc : clP t n (sk t n b) T L = .inr (b', T', L')) (hb' : b' ≤ n) (h1 : ¬ (sk t n b' < n ∧ t (sk t n b') = 59)) {x : Nat} {L9 T9 : Nat → Int32} : lInv t n R x (1 + 4 * nI (sk t n b')) T9 L9 := by
  obtain ⟨g, rfl⟩ : ∃ g, f = g + 1 := ⟨f - 1, by omega⟩
  have h9 : sk t n b' ≤ n := scn_le (P := pB) (t := t) hb'
  refine Or.inl ⟨fc_pos (by decide) (by omega), ?_⟩
  rw [← hR]
  unfold lwP
  rw [if_neg hne, ← clP_sk hb, hc]
  show (if sk t n b' < n ∧ t (sk t n b') = 59 then _ else _) = _
  rw [if_neg h1]
theorem lInv.en (hf : n + 1 ≤ b + f) (hb : b ≤ n) (hR : lwP t n f b T L = R) (he : sk t n b = n) : R = if T 6 = 0 then .inl (4 + 4 * nI n) else .inr L := by
  obtain ⟨g, rfl⟩ : ∃ g, f = g + 1 := ⟨f - 1, by omega⟩
  rw [← hR]
  unfold lwP
  rw [if_pos he]
end LI
/-- clP goes on -/
theorem pN_ge {t : Nat → Int32} {n p : Nat} {g : Int32} {q : Nat} {v : Int32} (h : pN t n p g = .inr (q, v)) : p ≤ q := by
  unfold pN at h
  split at h
  · cases h
  · split at h
    · cases h
    · cases h
      exact Nat.le_trans (scn_ge _ _ _ _) (scn_ge _ _ _ _)
theorem clP_ge {t : Nat → Int32} {n p : Nat} {T L T' L' : Nat → Int32} {q : Nat} (h : clP t n p T L = .inr (q, T', L')) : p ≤ q := by
  have h0 : p ≤ wd t n (sk t n p) := Nat.le_trans (scn_ge _ _ _ _) (scn_ge _ _ _ _)
  have h1 : wd t n (sk t n p) ≤ wd t n (sk t n (wd t n (sk t n p))) := Nat.le_trans (scn_ge _ _ _ _) (scn_ge _ _ _ _)
  refine Nat.le_trans h0 ?_
  unfold clP at h
  split at h
  · unfold clW at h
    split at h
    · cases h
    · split at h
      · cases h
      · split at h
        · cases h
        · rename_i hN
          cases h
          exact Nat.le_trans h1 (pN_ge hN)
  · unfold clC at h
    split at h
    · cases h
    · split at h
      · cases h
      · split at h
        · unfold clG at h
          split at h
          · cases h
          · cases h
            exact h1
        · unfold clV at h
          split at h
          · cases h
          · rename_i q2 v2 hN
            refine Nat.le_trans (pN_ge hN) ?_
            split at h
            · unfold clA at h
              split at h
              · split at h
                · cases h
                · rename_i hN2
                  cases h
                  exact Nat.le_trans (Nat.le_trans (scn_ge _ _ _ _) (scn_ge _ _ _ _)) (pN_ge hN2)
              · cases h
            · cases h
              exact Nat.le_refl _
def lwR (t : Nat → Int32) (n : Nat) (L : Nat → Int32) : lRes := lwP t n (n + 1) 0 (fun _ => 0) L
abbrev L00 (σ : hMem) : Nat → Int32 := pre L0f (hA σ 43 29 6) 11
def mLaw (σ : hMem) (nl b a : Nat) (L : Nat → Int32) (day : Int32) : hMem := sI (sA (sA (sA (sI (pM σ b a 0 L) 43 31 0) 43 29 nl (pre L (hA (sI (pM σ b a 0 L) 43 31 0) 43 29 nl) 11)) 43 27 0 (upd (hA σ 43 27 0) nl day)) 43 28 0 (upd (hA σ 43 28 0) nl (hI σ 43 1))) 43 26 (nI (nl + 1))

set_option maxHeartbeats 4000000 in
set_option maxRecDepth 100000 in
theorem m_law (l : Launch) (E : hEnv) (σ : hMem) (Z : va_W) (n : Nat) (hn : hI σ 43 31 = nI n) (hn3 : n ≤ 300) (nl : Nat) (hnl : hI σ 43 26 = nI nl) (hnl6 : nl ≤ 6) (day : Int32) : hMet l yX12_law cX12_law 5 (some .int) (7, 1, 11, 151) E σ Z [.ref (hO E 43), .int day] (hQi E (fun r u => (¬ (¬ nI nl = 6 ∧ inB day 0 5000 = true) ∧ r = -1 ∧ u = (σ, Z)) ∨ ((¬ nI nl = 6 ∧ inB day 0 5000 = true) ∧ ∃ b a ft L, (lwR (hA σ 43 30 0) n (L00 σ) = .inl ft ∧ 0 < ft ∧ r = -2 - ft ∧ u = (sI (pM σ b a ft L) 43 31 0, Z)) ∨ (lwR (hA σ 43 30 0) n (L00 σ) = .inr L ∧ r = nI nl ∧ u = (mLaw σ nl b a L day, Z))))) := by
  refine hMet.of (by decide) (Nat.le_of_ble_eq_true rfl) (fun p e s m below meth c A ls C M hr hlk hl => ?_)
  have hl : lv_has ls 5 [(0, .ref (hO E 43)), (1, .int day)] := hl
  generalize s.heap = H at M ⊢
  generalize ([] : List Loc) = locs at M ⊢
  refine lv_aload_n C.1 C.2.1 dX12_law_0 rfl (lv_at hl 0 rfl) ?_
  refine g_getI C M 43 26 (by decide) rfl rfl (by decide) fl12_250 (v := nI nl) hnl dX12_law_1 ?_
  refine lv_bipush (v := 6) C.1 C.2.1 dX12_law_4 (by decide) ?_
  refine lv_icmp_eq (tgt := 20) C.1 C.2.1 dX12_law_6 (by decide) (fun c_6 => ?_) (fun c_6 => ?_)
  · skip
    refine lv_iconst (v := (-1)) C.1 C.2.1 dX12_law_20 (by decide) ?_
    refine g_iret C M hr hlk ?_ (Nat.le_of_ble_eq_true rfl) (Nat.le_of_ble_eq_true rfl) dX12_law_21
    exact Or.inl ⟨fun h9 => h9.1 c_6, rfl, rfl⟩
  · skip
    have hnl5 : nl < 6 := by have := ct_ne 6 c_6; omega
    refine lv_iload_n C.1 C.2.1 dX12_law_9 rfl (lv_at hl 1 rfl) ?_
    refine lv_iconst (v := 0) C.1 C.2.1 dX12_law_10 (by decide) ?_
    refine lv_sipush (v := 5000) C.1 C.2.1 dX12_law_11 (by decide) ?_
    refine g_calli M (g_runS (As := [.int day, .int 0, .int 5000]) (rest := []) C M (m_in l E σ Z day 0 5000) clX12_in stX12_in lk12_131 rfl ⟨Nat.le_of_ble_eq_true rfl, Nat.le_of_ble_eq_true rfl⟩ hl.1 rfl (Nat.le_of_ble_eq_true rfl) dX12_law_14 ⟨Nat.le_of_ble_eq_true rfl, Nat.le_of_ble_eq_true rfl⟩) (fun r1 u H locs hR M => ?_)
    refine W.widen (k := 0) (n := 0) (Nat.le_of_ble_eq_true rfl) (Nat.le_of_ble_eq_true rfl) ?_
    obtain ⟨rfl, rfl⟩ := hR
    have M : hM E A s H locs σ Z := M
    refine lv_if_ne (tgt := 22) C.1 C.2.1 dX12_law_17 (by decide) (fun c_17 => ?_) (fun c_17 => ?_)
    · skip
      have c_17 : inB day 0 5000 = true := bz_ne0.mp c_17
      refine lv_aload_n C.1 C.2.1 dX12_law_22 rfl (lv_at hl 0 rfl) ?_
      refine g_getII C M 43 29 (by decide) rfl rfl (by decide) fl12_78 dX12_law_23 ?_
      refine lv_bipush (v := 6) C.1 C.2.1 dX12_law_26 (by decide) ?_
      refine g_aald5 C M 43 29 (by decide) rfl 6 (by decide) (by rw [vp_in_iff]; decide) dX12_law_28 ?_
      refine lv_astore_n (lv' := [(2, .ref (hR E 43 29 6)), (0, .ref (hO E 43)), (1, .int day)]) C.1 C.2.1 dX12_law_29 rfl hl (by decide) rfl (fun ls hl => ?_)
      refine lv_bipush (v := 11) C.1 C.2.1 dX12_law_30 (by decide) ?_
      refine g_newz C M (k := 11) ac_boolean (by decide) (by decide) (by decide) (Nat.le_of_ble_eq_true rfl) (Nat.le_of_ble_eq_true rfl) dX12_law_32 (fun a2 H M => ?_)
      have M : hM E A s H locs σ (Z ++ [(a2, .inl (E.2.1 2, 11, .inl (fun _ => 0)))]) := M
      refine lv_astore_n (lv' := [(3, .ref a2), (2, .ref (hR E 43 29 6)), (0, .ref (hO E 43)), (1, .int day)]) C.1 C.2.1 dX12_law_34 rfl hl (by decide) rfl (fun ls hl => ?_)
      refine lv_iconst (v := 0) C.1 C.2.1 dX12_law_35 (by decide) ?_
      refine lv_istore (lv' := [(4, .int 0), (3, .ref a2), (2, .ref (hR E 43 29 6)), (0, .ref (hO E 43)), (1, .int day)]) C.1 C.2.1 dX12_law_36 hl (by decide) rfl (fun ls hl => ?_)
      have L38 : ∀ (n9 : Nat) (k : Nat), (k ≤ 11) → 11 - k < n9 → ∀ (H : Heap) (locs : List Loc) (ls : Array Slot), hM E A s H locs (sA σ 43 29 6 (pre L0f (hA σ 43 29 6) k)) (Z ++ [(a2, .inl (E.2.1 2, 11, .inl (fun _ => 0)))]) → lv_has ls 5 [(4, .int (nI k)), (0, .ref (hO E 43)), (1, .int day), (2, .ref (hR E 43 29 6)), (3, .ref a2)] → W p l e (hRm (7, 1, 11, 151)) s m [.ref (hO E 43), .int day].toArray below meth c H locs 1 11 (MQ below (hQi E (fun r u => (¬ (¬ nI nl = 6 ∧ inB day 0 5000 = true) ∧ r = -1 ∧ u = (σ, Z)) ∨ ((¬ nI nl = 6 ∧ inB day 0 5000 = true) ∧ ∃ b a ft L, (lwR (hA σ 43 30 0) n (L00 σ) = .inl ft ∧ 0 < ft ∧ r = -2 - ft ∧ u = (sI (pM σ b a ft L) 43 31 0, Z)) ∨ (lwR (hA σ 43 30 0) n (L00 σ) = .inr L ∧ r = nI nl ∧ u = (mLaw σ nl b a L day, Z)))) A) [.ref (hO E 43), .int day].toArray s 1 11 A) (F0 m 38 ls []) := by
        intro n9
        induction n9 with
        | zero =>
          intro k hk hn9
          exact absurd hn9 (Nat.not_lt_zero _)
        | succ n9 ih38 =>
          intro k hk hn38 H locs ls M hl
          refine lv_iload C.1 C.2.1 dX12_law_38 (lv_at hl 0 rfl) ?_
          refine lv_bipush (v := 11) C.1 C.2.1 dX12_law_40 (by decide) ?_
          refine lv_icmp_ge (tgt := 68) C.1 C.2.1 dX12_law_42 (by decide) (fun c_42 => ?_) (fun c_42 => ?_)
          · skip
            have hkn : k = 11 := by have := ct_ge (n := 11) (k := k) c_42; omega
            have hl : lv_has ls 5 [(4, .int (nI 11)), (0, .ref (hO E 43)), (1, .int day), (2, .ref (hR E 43 29 6)), (3, .ref a2)] := by first | exact hl | (rw [hkn] at hl; exact hl)
            have M : hM E A s H locs (sA σ 43 29 6 (pre L0f (hA σ 43 29 6) 11)) (Z ++ [(a2, .inl (E.2.1 2, 11, .inl (fun _ => 0)))]) := by first | exact M | (rw [hkn] at M; exact M)
            refine lv_aload_n C.1 C.2.1 dX12_law_68 rfl (lv_at hl 1 rfl) ?_
            refine lv_iconst (v := 0) C.1 C.2.1 dX12_law_69 (by decide) ?_
            refine g_putI C M 43 32 (by decide) rfl rfl (by decide) fl12_176 rfl rfl dX12_law_70 (fun H locs M => ?_)
            refine lv_aload_n C.1 C.2.1 dX12_law_73 rfl (lv_at hl 1 rfl) ?_
            refine lv_iconst (v := 0) C.1 C.2.1 dX12_law_74 (by decide) ?_
            refine g_putI C M 43 34 (by decide) rfl rfl (by decide) fl12_173 rfl rfl dX12_law_75 (fun H locs M => ?_)
            obtain ⟨q0, hq0⟩ := nI_sur (hI σ 43 33)
            rw [pM_ini σ q0 _ hq0] at M
            have L78 : ∀ (n9 : Nat) (b : Nat) (a : Nat) (ft : Int32) (L : Nat → Int32) (T : Nat → Int32), (lInv (hA σ 43 30 0) n (lwR (hA σ 43 30 0) n (L00 σ)) b ft T L) → msr ft n b < n9 → ∀ (H : Heap) (locs : List Loc) (ls : Array Slot), hM E A s H locs (pM σ b a ft L) (Z ++ [(a2, .inl (E.2.1 2, 11, .inl T))]) → lv_has ls 5 [(0, .ref (hO E 43)), (1, .int day), (2, .ref (hR E 43 29 6)), (3, .ref a2)] → W p l e (hRm (7, 1, 11, 151)) s m [.ref (hO E 43), .int day].toArray below meth c H locs 1 11 (MQ below (hQi E (fun r u => (¬ (¬ nI nl = 6 ∧ inB day 0 5000 = true) ∧ r = -1 ∧ u = (σ, Z)) ∨ ((¬ nI nl = 6 ∧ inB day 0 5000 = true) ∧ ∃ b a ft L, (lwR (hA σ 43 30 0) n (L00 σ) = .inl ft ∧ 0 < ft ∧ r = -2 - ft ∧ u = (sI (pM σ b a ft L) 43 31 0, Z)) ∨ (lwR (hA σ 43 30 0) n (L00 σ) = .inr L ∧ r = nI nl ∧ u = (mLaw σ nl b a L day, Z)))) A) [.ref (hO E 43), .int day].toArray s 1 11 A) (F0 m 78 ls []) := by
              intro n9
              induction n9 with
              | zero =>
                intro b a ft L T hI9 hn9
                exact absurd hn9 (Nat.not_lt_zero _)
              | succ n9 ih78 =>
                intro b a ft L T hI9 hn78 H locs ls M hl
                refine lv_aload_n C.1 C.2.1 dX12_law_78 rfl (lv_at hl 0 rfl) ?_
                refine g_getI C M 43 34 (by decide) rfl rfl (by decide) fl12_173 (v := ft) rfl dX12_law_79 ?_
                refine lv_if_ne (tgt := 148) C.1 C.2.1 dX12_law_82 (by decide) (fun c_82 => ?_) (fun c_82 => ?_)
                · skip
                  have hft : 0 < ft ∧ lwR (hA σ 43 30 0) n (L00 σ) = .inl ft := hI9.elim id (fun h9 => absurd h9.1 c_82)
                  refine lv_aload_n C.1 C.2.1 dX12_law_148 rfl (lv_at hl 3 rfl) ?_
                  refine lv_bipush (v := 6) C.1 C.2.1 dX12_law_149 (by decide) ?_
                  refine g_xzald C M Z.length zat0 6 (by decide) (by rw [vp_in_iff]; decide) (v := T 6) rfl dX12_law_151 ?_
                  refine lv_if_ne (tgt := 164) C.1 C.2.1 dX12_law_152 (by decide) (fun c_152 => ?_) (fun c_152 => ?_)
                  · skip
                    refine lv_aload_n C.1 C.2.1 dX12_law_164 rfl (lv_at hl 0 rfl) ?_
                    refine lv_iconst (v := 0) C.1 C.2.1 dX12_law_165 (by decide) ?_
                    refine g_putI C M 43 31 (by decide) rfl rfl (by decide) fl12_166 rfl rfl dX12_law_166 (fun H locs M => ?_)
                    refine lv_aload_n C.1 C.2.1 dX12_law_169 rfl (lv_at hl 0 rfl) ?_
                    refine g_getI C M 43 34 (by decide) rfl rfl (by decide) fl12_173 (v := ft) rfl dX12_law_170 ?_
                    refine lv_if_le (tgt := 184) C.1 C.2.1 dX12_law_173 (by decide) (fun c_173 => ?_) (fun c_173 => ?_)
                    · skip
                      exact absurd c_173 (Int32.not_le.mpr hft.1)
                    · skip
                      refine lv_bipush (v := (-2)) C.1 C.2.1 dX12_law_176 (by decide) ?_
                      refine lv_aload_n C.1 C.2.1 dX12_law_178 rfl (lv_at hl 0 rfl) ?_
                      refine g_getI C M 43 34 (by decide) rfl rfl (by decide) fl12_173 (v := ft) rfl dX12_law_179 ?_
                      refine lv_isub C.1 C.2.1 dX12_law_182 ?_
                      refine g_iret C M.drop hr hlk ?_ (Nat.le_of_ble_eq_true rfl) (Nat.le_of_ble_eq_true rfl) dX12_law_183
                      exact Or.inr ⟨⟨c_6, c_17⟩, _, _, _, _, Or.inl ⟨hft.2, hft.1, rfl, rfl⟩⟩
                  · skip
                    refine lv_aload_n C.1 C.2.1 dX12_law_155 rfl (lv_at hl 0 rfl) ?_
                    refine lv_iconst (v := 4) C.1 C.2.1 dX12_law_156 (by decide) ?_
                    refine lv_aload_n C.1 C.2.1 dX12_law_157 rfl (lv_at hl 0 rfl) ?_
                    refine g_getI C M 43 31 (by decide) rfl rfl (by decide) fl12_166 (v := nI n) hn dX12_law_158 ?_
                    refine g_callv M (g_runV (As := [.int 4, .int (nI n)]) (rest := []) C M 43 (m_fails l E (pM σ b a ft L) (Z ++ [(a2, .inl (E.2.1 2, 11, .inl T))]) 4 (nI n)) clX12_fails ivX12_fails lk12_185 (by decide) rfl rfl ⟨Nat.le_of_ble_eq_true rfl, Nat.le_of_ble_eq_true rfl⟩ hl.1 rfl (Nat.le_of_ble_eq_true rfl) dX12_law_161 ⟨Nat.le_of_ble_eq_true rfl, Nat.le_of_ble_eq_true rfl⟩) (fun u H locs hR M => ?_)
                    refine W.widen (k := 1) (n := 11) (Nat.le_of_ble_eq_true rfl) (Nat.le_of_ble_eq_true rfl) ?_
                    rw [pM_fail, ftl_n c_82] at hR
                    subst hR
                    have M : hM E A s H locs (pM σ b a ft L) (Z ++ [(a2, .inl (E.2.1 2, 11, .inl T))]) := M
                    refine lv_aload_n C.1 C.2.1 dX12_law_164 rfl (lv_at hl 0 rfl) ?_
                    refine lv_iconst (v := 0) C.1 C.2.1 dX12_law_165 (by decide) ?_
                    refine g_putI C M 43 31 (by decide) rfl rfl (by decide) fl12_166 rfl rfl dX12_law_166 (fun H locs M => ?_)
                    refine lv_aload_n C.1 C.2.1 dX12_law_169 rfl (lv_at hl 0 rfl) ?_
                    refine g_getI C M 43 34 (by decide) rfl rfl (by decide) fl12_173 (v := ft) rfl dX12_law_170 ?_
                    refine lv_if_le (tgt := 184) C.1 C.2.1 dX12_law_173 (by decide) (fun c_173 => ?_) (fun c_173 => ?_)
                    · skip
                      exact absurd c_173 (Int32.not_le.mpr hft.1)
                    · skip
                      refine lv_bipush (v := (-2)) C.1 C.2.1 dX12_law_176 (by decide) ?_
                      refine lv_aload_n C.1 C.2.1 dX12_law_178 rfl (lv_at hl 0 rfl) ?_
                      refine g_getI C M 43 34 (by decide) rfl rfl (by decide) fl12_173 (v := ft) rfl dX12_law_179 ?_
                      refine lv_isub C.1 C.2.1 dX12_law_182 ?_
                      refine g_iret C M.drop hr hlk ?_ (Nat.le_of_ble_eq_true rfl) (Nat.le_of_ble_eq_true rfl) dX12_law_183
                      exact Or.inr ⟨⟨c_6, c_17⟩, _, _, _, _, Or.inl ⟨hft.2, hft.1, rfl, rfl⟩⟩
                · skip
                  subst c_82
                  obtain ⟨hb, f9, hf9, hR9⟩ : b ≤ n ∧ ∃ f, n + 1 ≤ b + f ∧ lwP (hA σ 43 30 0) n f b T L = lwR (hA σ 43 30 0) n (L00 σ) := hI9.elim (fun h9 => absurd h9.1 (by decide)) (fun h9 => h9.2)
                  have hS : (sk (hA σ 43 30 0) n b) ≤ n := scn_le hb
                  refine lv_aload_n C.1 C.2.1 dX12_law_85 rfl (lv_at hl 0 rfl) ?_
                  refine g_calli M (g_runV (As := []) (rest := []) C M 43 (m_isEnd l E σ (Z ++ [(a2, .inl (E.2.1 2, 11, .inl T))]) b a 0 L n hn hn3 hb) clX12_isEnd ivX12_isEnd lk12_182 (by decide) rfl rfl ⟨Nat.le_of_ble_eq_true rfl, Nat.le_of_ble_eq_true rfl⟩ hl.1 rfl (Nat.le_of_ble_eq_true rfl) dX12_law_86 ⟨Nat.le_of_ble_eq_true rfl, Nat.le_of_ble_eq_true rfl⟩) (fun r3 u H locs hR M => ?_)
                  refine W.widen (k := 1) (n := 11) (Nat.le_of_ble_eq_true rfl) (Nat.le_of_ble_eq_true rfl) ?_
                  obtain ⟨rfl, rfl⟩ := hR
                  have M : hM E A s H locs (pM σ (sk (hA σ 43 30 0) n b) (sk (hA σ 43 30 0) n b) 0 L) (Z ++ [(a2, .inl (E.2.1 2, 11, .inl T))]) := M
                  refine lv_if_ne (tgt := 148) C.1 C.2.1 dX12_law_89 (by decide) (fun c_89 => ?_) (fun c_89 => ?_)
                  · skip
                    have c_89 : nI (sk (hA σ 43 30 0) n b) = nI n := bz_ne0.mp c_89
                    have hen := lInv.en hf9 hb hR9 ((nI_eq (by omega) (by omega)).mp c_89)
                    refine lv_aload_n C.1 C.2.1 dX12_law_148 rfl (lv_at hl 3 rfl) ?_
                    refine lv_bipush (v := 6) C.1 C.2.1 dX12_law_149 (by decide) ?_
                    refine g_xzald C M Z.length zat0 6 (by decide) (by rw [vp_in_iff]; decide) (v := T 6) rfl dX12_law_151 ?_
                    refine lv_if_ne (tgt := 164) C.1 C.2.1 dX12_law_152 (by decide) (fun c_152 => ?_) (fun c_152 => ?_)
                    · skip
                      refine lv_aload_n C.1 C.2.1 dX12_law_164 rfl (lv_at hl 0 rfl) ?_
                      refine lv_iconst (v := 0) C.1 C.2.1 dX12_law_165 (by decide) ?_
                      refine g_putI C M 43 31 (by decide) rfl rfl (by decide) fl12_166 rfl rfl dX12_law_166 (fun H locs M => ?_)
                      refine lv_aload_n C.1 C.2.1 dX12_law_169 rfl (lv_at hl 0 rfl) ?_
                      refine g_getI C M 43 34 (by decide) rfl rfl (by decide) fl12_173 (v := 0) rfl dX12_law_170 ?_
                      refine lv_if_le (tgt := 184) C.1 C.2.1 dX12_law_173 (by decide) (fun _ => ?_) (fun h9 => absurd h9 (by decide))
                      refine lv_iconst (v := 0) C.1 C.2.1 dX12_law_184 (by decide) ?_
                      refine lv_istore (lv' := [(4, .int 0), (0, .ref (hO E 43)), (1, .int day), (2, .ref (hR E 43 29 6)), (3, .ref a2)]) C.1 C.2.1 dX12_law_185 hl (by decide) rfl (fun ls hl => ?_)
                      have L187 : ∀ (n9 : Nat) (k : Nat), (k ≤ 11) → 11 - k < n9 → ∀ (H : Heap) (locs : List Loc) (ls : Array Slot), hM E A s H locs (sA (sI (pM σ (sk (hA σ 43 30 0) n b) (sk (hA σ 43 30 0) n b) 0 L) 43 31 0) 43 29 nl (pre L (hA (sI (pM σ (sk (hA σ 43 30 0) n b) (sk (hA σ 43 30 0) n b) 0 L) 43 31 0) 43 29 nl) k)) (Z ++ [(a2, .inl (E.2.1 2, 11, .inl T))]) → lv_has ls 5 [(4, .int (nI k)), (0, .ref (hO E 43)), (1, .int day), (2, .ref (hR E 43 29 6)), (3, .ref a2)] → W p l e (hRm (7, 1, 11, 151)) s m [.ref (hO E 43), .int day].toArray below meth c H locs 1 11 (MQ below (hQi E (fun r u => (¬ (¬ nI nl = 6 ∧ inB day 0 5000 = true) ∧ r = -1 ∧ u = (σ, Z)) ∨ ((¬ nI nl = 6 ∧ inB day 0 5000 = true) ∧ ∃ b a ft L, (lwR (hA σ 43 30 0) n (L00 σ) = .inl ft ∧ 0 < ft ∧ r = -2 - ft ∧ u = (sI (pM σ b a ft L) 43 31 0, Z)) ∨ (lwR (hA σ 43 30 0) n (L00 σ) = .inr L ∧ r = nI nl ∧ u = (mLaw σ nl b a L day, Z)))) A) [.ref (hO E 43), .int day].toArray s 1 11 A) (F0 m 187 ls []) := by
                        intro n9
                        induction n9 with
                        | zero =>
                          intro k hk hn9
                          exact absurd hn9 (Nat.not_lt_zero _)
                        | succ n9 ih187 =>
                          intro k hk hn187 H locs ls M hl
                          refine lv_iload C.1 C.2.1 dX12_law_187 (lv_at hl 0 rfl) ?_
                          refine lv_bipush (v := 11) C.1 C.2.1 dX12_law_189 (by decide) ?_
                          refine lv_icmp_ge (tgt := 216) C.1 C.2.1 dX12_law_191 (by decide) (fun c_191 => ?_) (fun c_191 => ?_)
                          · skip
                            have hkn : k = 11 := by have := ct_ge (n := 11) (k := k) c_191; omega
                            have hl : lv_has ls 5 [(4, .int (nI 11)), (0, .ref (hO E 43)), (1, .int day), (2, .ref (hR E 43 29 6)), (3, .ref a2)] := by first | exact hl | (rw [hkn] at hl; exact hl)
                            have M : hM E A s H locs (sA (sI (pM σ (sk (hA σ 43 30 0) n b) (sk (hA σ 43 30 0) n b) 0 L) 43 31 0) 43 29 nl (pre L (hA (sI (pM σ (sk (hA σ 43 30 0) n b) (sk (hA σ 43 30 0) n b) 0 L) 43 31 0) 43 29 nl) 11)) (Z ++ [(a2, .inl (E.2.1 2, 11, .inl T))]) := by first | exact M | (rw [hkn] at M; exact M)
                            refine lv_aload_n C.1 C.2.1 dX12_law_216 rfl (lv_at hl 1 rfl) ?_
                            refine g_getA C M 43 27 (by decide) rfl rfl (by decide) fl12_70 dX12_law_217 ?_
                            refine lv_aload_n C.1 C.2.1 dX12_law_220 rfl (lv_at hl 1 rfl) ?_
                            refine g_getI C M 43 26 (by decide) rfl rfl (by decide) fl12_250 (v := nI nl) hnl dX12_law_221 ?_
                            refine lv_iload_n C.1 C.2.1 dX12_law_224 rfl (lv_at hl 2 rfl) ?_
                            refine g_iast C M 43 27 (by decide) rfl nl (nI_clamp (by omega)) (vp_in_nI (by omega) (by decide)) dX12_law_225 (fun H locs M => ?_)
                            have M : hM E A s H locs (sA (sA (sI (pM σ (sk (hA σ 43 30 0) n b) (sk (hA σ 43 30 0) n b) 0 L) 43 31 0) 43 29 nl (pre L (hA (sI (pM σ (sk (hA σ 43 30 0) n b) (sk (hA σ 43 30 0) n b) 0 L) 43 31 0) 43 29 nl) 11)) 43 27 0 (upd (hA σ 43 27 0) nl day)) (Z ++ [(a2, .inl (E.2.1 2, 11, .inl T))]) := M
                            refine lv_aload_n C.1 C.2.1 dX12_law_226 rfl (lv_at hl 1 rfl) ?_
                            refine g_getA C M 43 28 (by decide) rfl rfl (by decide) fl12_73 dX12_law_227 ?_
                            refine lv_aload_n C.1 C.2.1 dX12_law_230 rfl (lv_at hl 1 rfl) ?_
                            refine g_getI C M 43 26 (by decide) rfl rfl (by decide) fl12_250 (v := nI nl) hnl dX12_law_231 ?_
                            refine lv_aload_n C.1 C.2.1 dX12_law_234 rfl (lv_at hl 1 rfl) ?_
                            refine g_getI C M 43 1 (by decide) rfl rfl (by decide) fl12_128 (v := hI σ 43 1) rfl dX12_law_235 ?_
                            refine g_iast C M 43 28 (by decide) rfl nl (nI_clamp (by omega)) (vp_in_nI (by omega) (by decide)) dX12_law_238 (fun H locs M => ?_)
                            have M : hM E A s H locs (sA (sA (sA (sI (pM σ (sk (hA σ 43 30 0) n b) (sk (hA σ 43 30 0) n b) 0 L) 43 31 0) 43 29 nl (pre L (hA (sI (pM σ (sk (hA σ 43 30 0) n b) (sk (hA σ 43 30 0) n b) 0 L) 43 31 0) 43 29 nl) 11)) 43 27 0 (upd (hA σ 43 27 0) nl day)) 43 28 0 (upd (hA σ 43 28 0) nl (hI σ 43 1))) (Z ++ [(a2, .inl (E.2.1 2, 11, .inl T))]) := M
                            refine lv_aload_n C.1 C.2.1 dX12_law_239 rfl (lv_at hl 1 rfl) ?_
                            refine lv_dup C.1 C.2.1 dX12_law_240 rfl ?_
                            refine g_getI C M 43 26 (by decide) rfl rfl (by decide) fl12_250 (v := nI nl) hnl dX12_law_241 ?_
                            refine lv_iconst (v := 1) C.1 C.2.1 dX12_law_244 (by decide) ?_
                            refine lv_iadd C.1 C.2.1 dX12_law_245 ?_
                            refine g_rei (v := nI (nl + 1)) (nI_1 _) ?_
                            refine g_putI C M 43 26 (by decide) rfl rfl (by decide) fl12_250 rfl rfl dX12_law_246 (fun H locs M => ?_)
                            refine lv_aload_n C.1 C.2.1 dX12_law_249 rfl (lv_at hl 1 rfl) ?_
                            refine g_getI C M 43 26 (by decide) rfl rfl (by decide) fl12_250 (v := nI (nl + 1)) rfl dX12_law_250 ?_
                            refine lv_iconst (v := 1) C.1 C.2.1 dX12_law_253 (by decide) ?_
                            refine lv_isub C.1 C.2.1 dX12_law_254 ?_
                            refine g_rei (v := nI nl) (nI_pred _) ?_
                            refine g_iret C M.drop hr hlk ?_ (Nat.le_of_ble_eq_true rfl) (Nat.le_of_ble_eq_true rfl) dX12_law_255
                            exact Or.inr ⟨⟨c_6, c_17⟩, _, _, 0, L, Or.inr ⟨hen.trans (if_neg c_152), rfl, rfl⟩⟩
                          · skip
                            have hk1 : k < 11 := ct_nge (n := 11) (k := k) c_191
                            refine lv_aload_n C.1 C.2.1 dX12_law_194 rfl (lv_at hl 1 rfl) ?_
                            refine g_getII C M 43 29 (by decide) rfl rfl (by decide) fl12_78 dX12_law_195 ?_
                            refine lv_aload_n C.1 C.2.1 dX12_law_198 rfl (lv_at hl 1 rfl) ?_
                            refine g_getI C M 43 26 (by decide) rfl rfl (by decide) fl12_250 (v := nI nl) hnl dX12_law_199 ?_
                            refine g_aald5 C M 43 29 (by decide) rfl nl (nI_clamp (by omega)) (vp_in_nI (by omega) (by decide)) dX12_law_202 ?_
                            refine lv_iload C.1 C.2.1 dX12_law_203 (lv_at hl 0 rfl) ?_
                            refine lv_aload_n C.1 C.2.1 dX12_law_205 rfl (lv_at hl 3 rfl) ?_
                            refine lv_iload C.1 C.2.1 dX12_law_206 (lv_at hl 0 rfl) ?_
                            refine g_riald C M 43 29 6 (by decide) rfl (by decide) (by decide) k (nI_clamp (by omega)) (vp_in_nI (by omega) (by decide)) (v := L k) (by rw [hA_o (by omega)]; rfl) dX12_law_208 ?_
                            refine g_riast C M 43 29 nl (by decide) rfl (by omega) (by decide) k (nI_clamp (by omega)) (vp_in_nI (by omega) (by decide)) dX12_law_209 (fun H locs M => ?_)
                            have M : hM E A s H locs (sA (sA (sI (pM σ (sk (hA σ 43 30 0) n b) (sk (hA σ 43 30 0) n b) 0 L) 43 31 0) 43 29 nl (pre L (hA (sI (pM σ (sk (hA σ 43 30 0) n b) (sk (hA σ 43 30 0) n b) 0 L) 43 31 0) 43 29 nl) k)) 43 29 nl (upd (pre L (hA (sI (pM σ (sk (hA σ 43 30 0) n b) (sk (hA σ 43 30 0) n b) 0 L) 43 31 0) 43 29 nl) k) k (L k))) (Z ++ [(a2, .inl (E.2.1 2, 11, .inl T))]) := by rw [hA_same] at M; exact M
                            refine lv_iinc (v := nI (k + 1)) (lv' := [(4, .int (nI (k + 1))), (0, .ref (hO E 43)), (1, .int day), (2, .ref (hR E 43 29 6)), (3, .ref a2)]) C.1 C.2.1 dX12_law_210 hl (k := 0) rfl (nI_succ _).symm (by decide) rfl (fun ls hl => ?_)
                            refine lv_goto (tgt := 187) C.1 C.2.1 dX12_law_213 (by decide) ?_
                            have q4 : (sA (sA (sI (pM σ (sk (hA σ 43 30 0) n b) (sk (hA σ 43 30 0) n b) 0 L) 43 31 0) 43 29 nl (pre L (hA (sI (pM σ (sk (hA σ 43 30 0) n b) (sk (hA σ 43 30 0) n b) 0 L) 43 31 0) 43 29 nl) k)) 43 29 nl (upd (pre L (hA (sI (pM σ (sk (hA σ 43 30 0) n b) (sk (hA σ 43 30 0) n b) 0 L) 43 31 0) 43 29 nl) k) k (L k))) = (sA (sI (pM σ (sk (hA σ 43 30 0) n b) (sk (hA σ 43 30 0) n b) 0 L) 43 31 0) 43 29 nl (pre L (hA (sI (pM σ (sk (hA σ 43 30 0) n b) (sk (hA σ 43 30 0) n b) 0 L) 43 31 0) 43 29 nl) (k + 1))) := by first | exact (sA_self _ _ _ _).trans (by rw [← pre_0]) | (rw [sA_sA, ← pre_s])
                            rw [q4] at M
                            exact ih187 (k + 1) hk1 (by omega) _ _ _ M (lv_sub hl [0, 1, 2, 3, 4] rfl)
                      have q5 : 0 = nI 0 := by rfl
                      have hl : lv_has ls 5 [(4, .int (nI 0)), (0, .ref (hO E 43)), (1, .int day), (2, .ref (hR E 43 29 6)), (3, .ref a2)] := by
                        rw [← q5]
                        exact lv_sub hl [0, 1, 2, 3, 4] rfl
                      have q6 : (sI (pM σ (sk (hA σ 43 30 0) n b) (sk (hA σ 43 30 0) n b) 0 L) 43 31 0) = (sA (sI (pM σ (sk (hA σ 43 30 0) n b) (sk (hA σ 43 30 0) n b) 0 L) 43 31 0) 43 29 nl (pre L (hA (sI (pM σ (sk (hA σ 43 30 0) n b) (sk (hA σ 43 30 0) n b) 0 L) 43 31 0) 43 29 nl) 0)) := by first | exact (sA_self _ _ _ _).trans (by rw [← pre_0]) | (rw [sA_sA, ← pre_s])
                      rw [q6] at M
                      exact L187 ((11 - 0) + 1) 0 (Nat.zero_le _) (Nat.lt_succ_self _) _ _ _ M hl
                    · skip
                      refine lv_aload_n C.1 C.2.1 dX12_law_155 rfl (lv_at hl 0 rfl) ?_
                      refine lv_iconst (v := 4) C.1 C.2.1 dX12_law_156 (by decide) ?_
                      refine lv_aload_n C.1 C.2.1 dX12_law_157 rfl (lv_at hl 0 rfl) ?_
                      refine g_getI C M 43 31 (by decide) rfl rfl (by decide) fl12_166 (v := nI n) hn dX12_law_158 ?_
                      refine g_callv M (g_runV (As := [.int 4, .int (nI n)]) (rest := []) C M 43 (m_fails l E (pM σ (sk (hA σ 43 30 0) n b) (sk (hA σ 43 30 0) n b) 0 L) (Z ++ [(a2, .inl (E.2.1 2, 11, .inl T))]) 4 (nI n)) clX12_fails ivX12_fails lk12_185 (by decide) rfl rfl ⟨Nat.le_of_ble_eq_true rfl, Nat.le_of_ble_eq_true rfl⟩ hl.1 rfl (Nat.le_of_ble_eq_true rfl) dX12_law_161 ⟨Nat.le_of_ble_eq_true rfl, Nat.le_of_ble_eq_true rfl⟩) (fun u H locs hR M => ?_)
                      refine W.widen (k := 1) (n := 11) (Nat.le_of_ble_eq_true rfl) (Nat.le_of_ble_eq_true rfl) ?_
                      rw [pM_fail, ftl_0] at hR
                      subst hR
                      have M : hM E A s H locs (pM σ (sk (hA σ 43 30 0) n b) (sk (hA σ 43 30 0) n b) (4 + 4 * (nI n)) L) (Z ++ [(a2, .inl (E.2.1 2, 11, .inl T))]) := M
                      refine lv_aload_n C.1 C.2.1 dX12_law_164 rfl (lv_at hl 0 rfl) ?_
                      refine lv_iconst (v := 0) C.1 C.2.1 dX12_law_165 (by decide) ?_
                      refine g_putI C M 43 31 (by decide) rfl rfl (by decide) fl12_166 rfl rfl dX12_law_166 (fun H locs M => ?_)
                      refine lv_aload_n C.1 C.2.1 dX12_law_169 rfl (lv_at hl 0 rfl) ?_
                      refine g_getI C M 43 34 (by decide) rfl rfl (by decide) fl12_173 (v := (4 + 4 * (nI n))) rfl dX12_law_170 ?_
                      refine lv_if_le (tgt := 184) C.1 C.2.1 dX12_law_173 (by decide) (fun c_173 => ?_) (fun c_173 => ?_)
                      · skip
                        exact absurd c_173 (fc_nle (by decide) (by omega))
                      · skip
                        refine lv_bipush (v := (-2)) C.1 C.2.1 dX12_law_176 (by decide) ?_
                        refine lv_aload_n C.1 C.2.1 dX12_law_178 rfl (lv_at hl 0 rfl) ?_
                        refine g_getI C M 43 34 (by decide) rfl rfl (by decide) fl12_173 (v := (4 + 4 * (nI n))) rfl dX12_law_179 ?_
                        refine lv_isub C.1 C.2.1 dX12_law_182 ?_
                        refine g_iret C M.drop hr hlk ?_ (Nat.le_of_ble_eq_true rfl) (Nat.le_of_ble_eq_true rfl) dX12_law_183
                        exact Or.inr ⟨⟨c_6, c_17⟩, _, _, _, L, Or.inl ⟨hen.trans (if_pos c_152), fc_pos (by decide) (by omega), rfl, rfl⟩⟩
                  · skip
                    have c_89 : ¬ nI (sk (hA σ 43 30 0) n b) = nI n := bz_0.mp c_89
                    have hne : ¬ (sk (hA σ 43 30 0) n b) = n := fun h9 => c_89 (by rw [h9])
                    refine lv_aload_n C.1 C.2.1 dX12_law_92 rfl (lv_at hl 0 rfl) ?_
                    refine lv_aload_n C.1 C.2.1 dX12_law_93 rfl (lv_at hl 2 rfl) ?_
                    refine lv_aload_n C.1 C.2.1 dX12_law_94 rfl (lv_at hl 3 rfl) ?_
                    refine g_callv M (g_runV (As := [.ref (hR E 43 29 6), .ref a2]) (rest := []) C M 43 (m_clause l E σ Z (sk (hA σ 43 30 0) n b) (sk (hA σ 43 30 0) n b) L T a2 n hn hn3 hS) clX12_clause ivX12_clause lk12_253 (by decide) rfl rfl ⟨Nat.le_of_ble_eq_true rfl, Nat.le_of_ble_eq_true rfl⟩ hl.1 rfl (Nat.le_of_ble_eq_true rfl) dX12_law_95 ⟨Nat.le_of_ble_eq_true rfl, Nat.le_of_ble_eq_true rfl⟩) (fun u H locs hR M => ?_)
                    refine W.widen (k := 1) (n := 11) (Nat.le_of_ble_eq_true rfl) (Nat.le_of_ble_eq_true rfl) ?_
                    obtain ⟨b95, a95, f95, L95, T95, hu, hC95⟩ := hR
                    subst hu
                    have M : hM E A s H locs (pM σ b95 a95 f95 L95) (Z ++ [(a2, .inl (E.2.1 2, 11, .inl T95))]) := M
                    refine lv_aload_n C.1 C.2.1 dX12_law_98 rfl (lv_at hl 0 rfl) ?_
                    refine g_getI C M 43 34 (by decide) rfl rfl (by decide) fl12_173 (v := f95) rfl dX12_law_99 ?_
                    refine lv_if_ne (tgt := 78) C.1 C.2.1 dX12_law_102 (by decide) (fun c_102 => ?_) (fun c_102 => ?_)
                    · skip
                      exact ih78 b95 a95 f95 L95 T95 (lInv.fl hb hf9 hR9 hne hC95 c_102) (by unfold msr at hn78 ⊢; rw [if_pos rfl] at hn78; first | (rw [if_neg c_102]; omega) | (rw [if_pos rfl]; omega) | (rw [if_neg (fc_ne (by decide) (by omega))]; omega)) _ _ _ M (lv_sub hl [0, 1, 2, 3] rfl)
                    · skip
                      subst c_102
                      have hcl : clP (hA σ 43 30 0) n (sk (hA σ 43 30 0) n b) T L = .inr (b95, T95, L95) := hC95.2.elim (fun h9 => absurd h9.2 (by decide)) (fun h9 => h9.1)
                      have hb95 := hC95.1
                      have hS5 : (sk (hA σ 43 30 0) n b95) ≤ n := scn_le hb95
                      have hbb : b ≤ b95 := Nat.le_trans (scn_ge _ _ _ _) (clP_ge hcl)
                      have hs5 : b95 ≤ (sk (hA σ 43 30 0) n b95) := scn_ge _ _ _ _
                      refine lv_aload_n C.1 C.2.1 dX12_law_105 rfl (lv_at hl 0 rfl) ?_
                      refine g_calli M (g_runV (As := []) (rest := []) C M 43 (m_isEnd l E σ (Z ++ [(a2, .inl (E.2.1 2, 11, .inl T95))]) b95 a95 0 L95 n hn hn3 hb95) clX12_isEnd ivX12_isEnd lk12_182 (by decide) rfl rfl ⟨Nat.le_of_ble_eq_true rfl, Nat.le_of_ble_eq_true rfl⟩ hl.1 rfl (Nat.le_of_ble_eq_true rfl) dX12_law_106 ⟨Nat.le_of_ble_eq_true rfl, Nat.le_of_ble_eq_true rfl⟩) (fun r7 u H locs hR M => ?_)
                      refine W.widen (k := 1) (n := 11) (Nat.le_of_ble_eq_true rfl) (Nat.le_of_ble_eq_true rfl) ?_
                      obtain ⟨rfl, rfl⟩ := hR
                      have M : hM E A s H locs (pM σ (sk (hA σ 43 30 0) n b95) (sk (hA σ 43 30 0) n b95) 0 L95) (Z ++ [(a2, .inl (E.2.1 2, 11, .inl T95))]) := M
                      refine lv_if_ne (tgt := 126) C.1 C.2.1 dX12_law_109 (by decide) (fun c_109 => ?_) (fun c_109 => ?_)
                      · skip
                        have c_109 : nI (sk (hA σ 43 30 0) n b95) = nI n := bz_ne0.mp c_109
                        have hq5 : ¬ ((sk (hA σ 43 30 0) n b95) < n ∧ (hA σ 43 30 0) (sk (hA σ 43 30 0) n b95) = 59) := fun h9 => absurd h9.1 (by rw [(nI_eq (by omega) (by omega)).mp c_109]; exact Nat.lt_irrefl n)
                        refine lv_aload_n C.1 C.2.1 dX12_law_126 rfl (lv_at hl 0 rfl) ?_
                        refine lv_iconst (v := 1) C.1 C.2.1 dX12_law_127 (by decide) ?_
                        refine lv_aload_n C.1 C.2.1 dX12_law_128 rfl (lv_at hl 0 rfl) ?_
                        refine g_getI C M 43 32 (by decide) rfl rfl (by decide) fl12_176 (v := nI (sk (hA σ 43 30 0) n b95)) rfl dX12_law_129 ?_
                        refine g_callv M (g_runV (As := [.int 1, .int (nI (sk (hA σ 43 30 0) n b95))]) (rest := []) C M 43 (m_fails l E (pM σ (sk (hA σ 43 30 0) n b95) (sk (hA σ 43 30 0) n b95) 0 L95) (Z ++ [(a2, .inl (E.2.1 2, 11, .inl T95))]) 1 (nI (sk (hA σ 43 30 0) n b95))) clX12_fails ivX12_fails lk12_185 (by decide) rfl rfl ⟨Nat.le_of_ble_eq_true rfl, Nat.le_of_ble_eq_true rfl⟩ hl.1 rfl (Nat.le_of_ble_eq_true rfl) dX12_law_132 ⟨Nat.le_of_ble_eq_true rfl, Nat.le_of_ble_eq_true rfl⟩) (fun u H locs hR M => ?_)
                        refine W.widen (k := 1) (n := 11) (Nat.le_of_ble_eq_true rfl) (Nat.le_of_ble_eq_true rfl) ?_
                        rw [pM_fail, ftl_0] at hR
                        subst hR
                        have M : hM E A s H locs (pM σ (sk (hA σ 43 30 0) n b95) (sk (hA σ 43 30 0) n b95) (1 + 4 * (nI (sk (hA σ 43 30 0) n b95))) L95) (Z ++ [(a2, .inl (E.2.1 2, 11, .inl T95))]) := M
                        refine lv_aload_n C.1 C.2.1 dX12_law_135 rfl (lv_at hl 0 rfl) ?_
                        refine lv_dup C.1 C.2.1 dX12_law_136 rfl ?_
                        refine g_getI C M 43 32 (by decide) rfl rfl (by decide) fl12_176 (v := nI (sk (hA σ 43 30 0) n b95)) rfl dX12_law_137 ?_
                        refine lv_iconst (v := 1) C.1 C.2.1 dX12_law_140 (by decide) ?_
                        refine lv_iadd C.1 C.2.1 dX12_law_141 ?_
                        refine g_rei (v := nI ((sk (hA σ 43 30 0) n b95) + 1)) (nI_1 _) ?_
                        refine g_putI C M 43 32 (by decide) rfl rfl (by decide) fl12_176 rfl rfl dX12_law_142 (fun H locs M => ?_)
                        rw [pM_b] at M
                        refine lv_goto (tgt := 78) C.1 C.2.1 dX12_law_145 (by decide) ?_
                        exact ih78 ((sk (hA σ 43 30 0) n b95) + 1) (sk (hA σ 43 30 0) n b95) (1 + 4 * (nI (sk (hA σ 43 30 0) n b95))) L95 T95 (lInv.no hn3 hb hf9 hR9 hne hcl hb95 hq5) (by unfold msr at hn78 ⊢; rw [if_pos rfl] at hn78; first | (rw [if_neg c_102]; omega) | (rw [if_pos rfl]; omega) | (rw [if_neg (fc_ne (by decide) (by omega))]; omega)) _ _ _ M (lv_sub hl [0, 1, 2, 3] rfl)
                      · skip
                        have c_109 : ¬ nI (sk (hA σ 43 30 0) n b95) = nI n := bz_0.mp c_109
                        have hl5 : (sk (hA σ 43 30 0) n b95) < n := Nat.lt_of_le_of_ne hS5 (fun h9 => c_109 (by rw [h9]))
                        refine lv_aload_n C.1 C.2.1 dX12_law_112 rfl (lv_at hl 0 rfl) ?_
                        refine g_getA C M 43 30 (by decide) rfl rfl (by decide) fl12_81 dX12_law_113 ?_
                        refine lv_aload_n C.1 C.2.1 dX12_law_116 rfl (lv_at hl 0 rfl) ?_
                        refine g_getI C M 43 32 (by decide) rfl rfl (by decide) fl12_176 (v := nI (sk (hA σ 43 30 0) n b95)) rfl dX12_law_117 ?_
                        refine g_bald C M 43 30 (by decide) rfl (sk (hA σ 43 30 0) n b95) (nI_clamp (by omega)) (vp_in_nI (by omega) (by decide)) (v := hA σ 43 30 0 (sk (hA σ 43 30 0) n b95)) rfl dX12_law_120 ?_
                        refine lv_bipush (v := 59) C.1 C.2.1 dX12_law_121 (by decide) ?_
                        refine lv_icmp_eq (tgt := 135) C.1 C.2.1 dX12_law_123 (by decide) (fun c_123 => ?_) (fun c_123 => ?_)
                        · skip
                          refine lv_aload_n C.1 C.2.1 dX12_law_135 rfl (lv_at hl 0 rfl) ?_
                          refine lv_dup C.1 C.2.1 dX12_law_136 rfl ?_
                          refine g_getI C M 43 32 (by decide) rfl rfl (by decide) fl12_176 (v := nI (sk (hA σ 43 30 0) n b95)) rfl dX12_law_137 ?_
                          refine lv_iconst (v := 1) C.1 C.2.1 dX12_law_140 (by decide) ?_
                          refine lv_iadd C.1 C.2.1 dX12_law_141 ?_
                          refine g_rei (v := nI ((sk (hA σ 43 30 0) n b95) + 1)) (nI_1 _) ?_
                          refine g_putI C M 43 32 (by decide) rfl rfl (by decide) fl12_176 rfl rfl dX12_law_142 (fun H locs M => ?_)
                          rw [pM_b] at M
                          refine lv_goto (tgt := 78) C.1 C.2.1 dX12_law_145 (by decide) ?_
                          exact ih78 ((sk (hA σ 43 30 0) n b95) + 1) (sk (hA σ 43 30 0) n b95) 0 L95 T95 (lInv.ok hb hf9 hR9 hne hcl hl5 c_123 hbb) (by unfold msr at hn78 ⊢; rw [if_pos rfl] at hn78; first | (rw [if_neg c_102]; omega) | (rw [if_pos rfl]; omega) | (rw [if_neg (fc_ne (by decide) (by omega))]; omega)) _ _ _ M (lv_sub hl [0, 1, 2, 3] rfl)
                        · skip
                          have hq5 : ¬ ((sk (hA σ 43 30 0) n b95) < n ∧ (hA σ 43 30 0) (sk (hA σ 43 30 0) n b95) = 59) := fun h9 => c_123 h9.2
                          refine lv_aload_n C.1 C.2.1 dX12_law_126 rfl (lv_at hl 0 rfl) ?_
                          refine lv_iconst (v := 1) C.1 C.2.1 dX12_law_127 (by decide) ?_
                          refine lv_aload_n C.1 C.2.1 dX12_law_128 rfl (lv_at hl 0 rfl) ?_
                          refine g_getI C M 43 32 (by decide) rfl rfl (by decide) fl12_176 (v := nI (sk (hA σ 43 30 0) n b95)) rfl dX12_law_129 ?_
                          refine g_callv M (g_runV (As := [.int 1, .int (nI (sk (hA σ 43 30 0) n b95))]) (rest := []) C M 43 (m_fails l E (pM σ (sk (hA σ 43 30 0) n b95) (sk (hA σ 43 30 0) n b95) 0 L95) (Z ++ [(a2, .inl (E.2.1 2, 11, .inl T95))]) 1 (nI (sk (hA σ 43 30 0) n b95))) clX12_fails ivX12_fails lk12_185 (by decide) rfl rfl ⟨Nat.le_of_ble_eq_true rfl, Nat.le_of_ble_eq_true rfl⟩ hl.1 rfl (Nat.le_of_ble_eq_true rfl) dX12_law_132 ⟨Nat.le_of_ble_eq_true rfl, Nat.le_of_ble_eq_true rfl⟩) (fun u H locs hR M => ?_)
                          refine W.widen (k := 1) (n := 11) (Nat.le_of_ble_eq_true rfl) (Nat.le_of_ble_eq_true rfl) ?_
                          rw [pM_fail, ftl_0] at hR
                          subst hR
                          have M : hM E A s H locs (pM σ (sk (hA σ 43 30 0) n b95) (sk (hA σ 43 30 0) n b95) (1 + 4 * (nI (sk (hA σ 43 30 0) n b95))) L95) (Z ++ [(a2, .inl (E.2.1 2, 11, .inl T95))]) := M
                          refine lv_aload_n C.1 C.2.1 dX12_law_135 rfl (lv_at hl 0 rfl) ?_
                          refine lv_dup C.1 C.2.1 dX12_law_136 rfl ?_
                          refine g_getI C M 43 32 (by decide) rfl rfl (by decide) fl12_176 (v := nI (sk (hA σ 43 30 0) n b95)) rfl dX12_law_137 ?_
                          refine lv_iconst (v := 1) C.1 C.2.1 dX12_law_140 (by decide) ?_
                          refine lv_iadd C.1 C.2.1 dX12_law_141 ?_
                          refine g_rei (v := nI ((sk (hA σ 43 30 0) n b95) + 1)) (nI_1 _) ?_
                          refine g_putI C M 43 32 (by decide) rfl rfl (by decide) fl12_176 rfl rfl dX12_law_142 (fun H locs M => ?_)
                          rw [pM_b] at M
                          refine lv_goto (tgt := 78) C.1 C.2.1 dX12_law_145 (by decide) ?_
                          exact ih78 ((sk (hA σ 43 30 0) n b95) + 1) (sk (hA σ 43 30 0) n b95) (1 + 4 * (nI (sk (hA σ 43 30 0) n b95))) L95 T95 (lInv.no hn3 hb hf9 hR9 hne hcl hb95 hq5) (by unfold msr at hn78 ⊢; rw [if_pos rfl] at hn78; first | (rw [if_neg c_102]; omega) | (rw [if_pos rfl]; omega) | (rw [if_neg (fc_ne (by decide) (by omega))]; omega)) _ _ _ M (lv_sub hl [0, 1, 2, 3] rfl)
            exact L78 ((msr 0 n 0) + 1) 0 q0 0 (L00 σ) (fun _ => 0) (Or.inr ⟨rfl, Nat.zero_le n, n + 1, by omega, rfl⟩) (Nat.lt_succ_self _) _ _ _ M (lv_sub hl [1, 2, 3, 4] rfl)
          · skip
            have hk1 : k < 11 := ct_nge (n := 11) (k := k) c_42
            refine lv_aload_n C.1 C.2.1 dX12_law_45 rfl (lv_at hl 3 rfl) ?_
            refine lv_iload C.1 C.2.1 dX12_law_46 (lv_at hl 0 rfl) ?_
            refine lv_iload C.1 C.2.1 dX12_law_48 (lv_at hl 0 rfl) ?_
            refine lv_bipush (v := 7) C.1 C.2.1 dX12_law_50 (by decide) ?_
            refine lv_icmp_ne (tgt := 60) C.1 C.2.1 dX12_law_52 (by decide) (fun c_52 => ?_) (fun c_52 => ?_)
            · skip
              have hL0 : L0f k = 0 := if_neg (fun h9 => c_52 (by rw [h9]; rfl))
              refine lv_iconst (v := 0) C.1 C.2.1 dX12_law_60 (by decide) ?_
              refine g_riast C M 43 29 6 (by decide) rfl (by decide) (by decide) k (nI_clamp (by omega)) (vp_in_nI (by omega) (by decide)) dX12_law_61 (fun H locs M => ?_)
              have M : hM E A s H locs (sA (sA σ 43 29 6 (pre L0f (hA σ 43 29 6) k)) 43 29 6 (upd (pre L0f (hA σ 43 29 6) k) k 0)) (Z ++ [(a2, .inl (E.2.1 2, 11, .inl (fun _ => 0)))]) := M
              refine lv_iinc (v := nI (k + 1)) (lv' := [(4, .int (nI (k + 1))), (0, .ref (hO E 43)), (1, .int day), (2, .ref (hR E 43 29 6)), (3, .ref a2)]) C.1 C.2.1 dX12_law_62 hl (k := 0) rfl (nI_succ _).symm (by decide) rfl (fun ls hl => ?_)
              refine lv_goto (tgt := 38) C.1 C.2.1 dX12_law_65 (by decide) ?_
              have q8 : (sA (sA σ 43 29 6 (pre L0f (hA σ 43 29 6) k)) 43 29 6 (upd (pre L0f (hA σ 43 29 6) k) k 0)) = (sA σ 43 29 6 (pre L0f (hA σ 43 29 6) (k + 1))) := by first | exact (sA_self _ _ _ _).trans (by rw [← pre_0]) | (rw [sA_sA, ← pre_s, hL0])
              rw [q8] at M
              exact ih38 (k + 1) hk1 (by omega) _ _ _ M (lv_sub hl [0, 1, 2, 3, 4] rfl)
            · skip
              have hL0 : L0f k = 100 := if_pos (by have := ct_eq 7 c_52; omega)
              refine lv_bipush (v := 100) C.1 C.2.1 dX12_law_55 (by decide) ?_
              refine lv_goto (tgt := 61) C.1 C.2.1 dX12_law_57 (by decide) ?_
              refine g_riast C M 43 29 6 (by decide) rfl (by decide) (by decide) k (nI_clamp (by omega)) (vp_in_nI (by omega) (by decide)) dX12_law_61 (fun H locs M => ?_)
              have M : hM E A s H locs (sA (sA σ 43 29 6 (pre L0f (hA σ 43 29 6) k)) 43 29 6 (upd (pre L0f (hA σ 43 29 6) k) k 100)) (Z ++ [(a2, .inl (E.2.1 2, 11, .inl (fun _ => 0)))]) := M
              refine lv_iinc (v := nI (k + 1)) (lv' := [(4, .int (nI (k + 1))), (0, .ref (hO E 43)), (1, .int day), (2, .ref (hR E 43 29 6)), (3, .ref a2)]) C.1 C.2.1 dX12_law_62 hl (k := 0) rfl (nI_succ _).symm (by decide) rfl (fun ls hl => ?_)
              refine lv_goto (tgt := 38) C.1 C.2.1 dX12_law_65 (by decide) ?_
              have q9 : (sA (sA σ 43 29 6 (pre L0f (hA σ 43 29 6) k)) 43 29 6 (upd (pre L0f (hA σ 43 29 6) k) k 100)) = (sA σ 43 29 6 (pre L0f (hA σ 43 29 6) (k + 1))) := by first | exact (sA_self _ _ _ _).trans (by rw [← pre_0]) | (rw [sA_sA, ← pre_s, hL0])
              rw [q9] at M
              exact ih38 (k + 1) hk1 (by omega) _ _ _ M (lv_sub hl [0, 1, 2, 3, 4] rfl)
      have q10 : 0 = nI 0 := by rfl
      have hl : lv_has ls 5 [(4, .int (nI 0)), (0, .ref (hO E 43)), (1, .int day), (2, .ref (hR E 43 29 6)), (3, .ref a2)] := by
        rw [← q10]
        exact lv_sub hl [0, 3, 4, 2, 1] rfl
      have q11 : σ = (sA σ 43 29 6 (pre L0f (hA σ 43 29 6) 0)) := by first | exact (sA_self _ _ _ _).trans (by rw [← pre_0]) | (rw [sA_sA, ← pre_s, hL0])
      rw [q11] at M
      exact L38 ((11 - 0) + 1) 0 (Nat.zero_le _) (Nat.lt_succ_self _) _ _ _ M hl
    · skip
      have c_17 : ¬ inB day 0 5000 = true := bz_0.mp c_17
      refine lv_iconst (v := (-1)) C.1 C.2.1 dX12_law_20 (by decide) ?_
      refine g_iret C M hr hlk ?_ (Nat.le_of_ble_eq_true rfl) (Nat.le_of_ble_eq_true rfl) dX12_law_21
      exact Or.inl ⟨fun h9 => c_17 h9.2, rfl, rfl⟩
