theorem lwP_sk {t : Nat → Int32} {n b : Nat} (h : b ≤ n) : ∀ (f : Nat) (T L : Nat → Int32), lwP t n f (sk t n b) T L = lwP t n f b T L
  | 0, _, _ => rfl
  | f + 1, T, L => by
    unfold lwP
    rw [sk_sk h, clP_sk h]
theorem lInv.skp {t : Nat → Int32} {n b : Nat} {R : lRes} {T L : Nat → Int32} {ft : Int32} (h : lInv t n R b ft T L) (hb : b ≤ n) : lInv t n R (sk t n b) ft T L := by
  rcases h with h | ⟨h1, h2, f, h3, h4⟩
  · exact Or.inl h
  · have h5 : b ≤ sk t n b := scn_ge _ _ _ _
    exact Or.inr ⟨h1, scn_le hb, f, by omega, by rw [lwP_sk hb]; exact h4⟩
/-- a clause and its semicolon, and the blanks behind: where the reading stands -/
theorem kRel.go {t : Nat → Int32} {n b f : Nat} {R : lRes} {T L W V : Nat → Int32} {pl : Nat} {ft td : Int32} (hn : n ≤ 300) (hb : b ≤ n) (hf : n + 1 ≤ b + f) (hR : lwP t n f b T L = R) (hs : sk t n b = b) (hne : b < n) (h : kRel t n b T L pl ft td W V) : ∃ T' L', lInv t n R (sk t n pl) ft T' L' ∧ (ft = 0 → bitR T' td ∧ lawR L' W V ∧ b + 1 ≤ sk t n pl) := by
  obtain ⟨hp, h⟩ := h
  have hne' : ¬ sk t n b = n := by rw [hs]; omega
  have e : clP t n (sk t n b) T L = clP t n b T L := clP_sk hb
  rcases h with ⟨h0, h | ⟨q, T', L', h1, h2, h3, h4⟩⟩ | ⟨h0, q, T', L', h1, h2, h3, h4, h5, h6⟩
  · refine ⟨T, L, Or.inl ⟨h0, ?_⟩, fun q => absurd q (ltI_ne h0)⟩
    obtain ⟨g, rfl⟩ : ∃ g, f = g + 1 := ⟨f - 1, by omega⟩
    rw [← hR]
    unfold lwP
    rw [if_neg hne', h]
  · refine ⟨T, L, ?_, fun q => absurd q (ltI_ne h0)⟩
    rw [h4]
    exact lInv.no hn hb hf hR hne' (e.trans h1) h2 h3
  · have h7 := lInv.ok hb hf hR hne' (e.trans h1) h2 h3 (clP_ge h1)
    rw [← h4, ← h0] at h7
    refine ⟨T', L', h7.skp hp, fun _ => ⟨h5, h6, ?_⟩⟩
    have h8 : q ≤ sk t n q := scn_ge _ _ _ _
    have h9 : pl ≤ sk t n pl := scn_ge _ _ _ _
    have h10 := clP_ge h1
    omega
def rdR (R : lRes) (ft : Int32) (W V : Nat → Int32) : Prop := (R = .inl ft ∧ 0 < ft) ∨ (ft = 0 ∧ ∃ L, R = .inr L ∧ lawR L W V)
theorem rdR.of {t : Nat → Int32} {n b k : Nat} {R : lRes} {T L W V : Nat → Int32} {ft td : Int32} (hn : n ≤ 300) (hI : lInv t n R b ft T L) (hB : ft = 0 → bitR T td ∧ lawR L W V ∧ k ≤ b) (hx : 300 ≤ k ∨ n ≤ b ∨ ¬ ft = 0) : (td &&& 4 = 0 → rdR R (ftl ft (4 + 4 * nI n)) W V) ∧ (¬ td &&& 4 = 0 → rdR R ft W V) := by
  rcases hI with ⟨h1, h2⟩ | ⟨h1, h2, f, h3, h4⟩
  · rw [ftl_n (ltI_ne h1)]
    exact ⟨fun _ => Or.inl ⟨h2, h1⟩, fun _ => Or.inl ⟨h2, h1⟩⟩
  · obtain ⟨h5, h6, h7⟩ := hB h1
    have hbn : b = n := by
      rcases hx with hx | hx | hx
      · omega
      · omega
      · exact absurd h1 hx
    have he : sk t n b = n := by rw [hbn]; exact scn_n (Nat.le_refl n)
    have hR := lInv.en h3 h2 h4 he
    have hbit : T 6 = 0 ↔ td &&& 4 = 0 := (h5 6 (by decide)).trans (and_c (c := 2) (by decide)).symm
    rw [h1, ftl_0]
    refine ⟨fun q => Or.inl ⟨?_, fc_pos (by decide) hn⟩, fun q => Or.inr ⟨rfl, L, ?_, h6⟩⟩
    · rw [hR, if_pos (hbit.mpr q)]
    · rw [hR, if_neg (fun z => q (hbit.mp z))]
theorem kM_ini (σ : hMem) (j w : Nat) (hj9 : j ≠ 9) (hw : hI (cLcl σ j) 9 3 = nI w) : sI (sI (sI (cLcl σ j) 9 2 0) 9 4 0) 9 5 0 = kM σ j (pre (fun _ => 0) (hA σ j 0 0) 5) L0f 0 w 0 0 := by
  unfold kM tM
  have e : vM σ j (pre (fun _ => 0) (hA σ j 0 0) 5) L0f = cLcl σ j := rfl
  rw [e, ← hw]
  have e2 := sI_self (sI (cLcl σ j) 9 2 (nI 0)) 9 3
  exact congrArg (fun z => sI (sI z 9 4 0) 9 5 0) e2
theorem lawR_0 {L W : Nat → Int32} (h : ∀ i, i < 11 → L i = L0f i) (hW : ∀ i, i < 5 → W i = 0) : lawR L W L0f := by
  refine ⟨fun i hi => ?_, fun i h1 h2 => h i h2⟩
  rw [h i (by omega), hW i hi]
  exact if_neg (by omega)
theorem bitR_0 : bitR (fun _ => 0) 0 := by
  intro m hm
  refine ⟨fun _ => ?_, fun _ => rfl⟩
  unfold tb
  show (0#32).getLsbD _ = false
  exact BitVec.getLsbD_zero

set_option maxHeartbeats 4000000 in
set_option maxRecDepth 100000 in
theorem x_tread (l : Launch) (E : hEnv) (σ : hMem) (Z : va_W) (j : Nat) (hj : j < 44) (hL : hLay j = layLaw) (hC : hCi j = 5) (hj9 : j ≠ 9) (n : Nat) (t : Nat → Int32) (hn : hI σ 9 1 = nI n) (ht : hA σ 9 0 0 = t) (hn3 : n ≤ 300) (L0 : Nat → Int32) (hL0 : ∀ i, i < 11 → L0 i = L0f i) : hMet l yX9_readInto cX9_readInto 3 (some .int) (8, 0, 0, 177) E σ Z [.ref (hO E 9), .ref (hO E j)] (hQi E (fun r u => ∃ W' V' pl wp td', u = (kM σ j W' V' pl wp td' r, Z) ∧ rdR (lwR t n L0) r W' V')) := by
  refine hMet.of (by decide) (Nat.le_of_ble_eq_true rfl) (fun p e s m below meth c A ls C M hr hlk hl => ?_)
  have hl : lv_has ls 3 [(0, .ref (hO E 9)), (1, .ref (hO E j))] := hl
  generalize s.heap = H at M ⊢
  generalize ([] : List Loc) = locs at M ⊢
  refine lv_aload_n C.1 C.2.1 dX9_readInto_0 rfl (lv_at hl 1 rfl) ?_
  refine g_callv M (g_runV (As := []) (rest := []) C M j (x_lclear l E σ Z j hj hL hC) clX5_clear ivX5_clear lk9_19 hj (by rw [hC]; rfl) rfl ⟨Nat.le_of_ble_eq_true rfl, Nat.le_of_ble_eq_true rfl⟩ hl.1 rfl (Nat.le_of_ble_eq_true rfl) dX9_readInto_1 ⟨Nat.le_of_ble_eq_true rfl, Nat.le_of_ble_eq_true rfl⟩) (fun u H locs hR M => ?_)
  refine W.widen (k := 0) (n := 0) (Nat.le_of_ble_eq_true rfl) (Nat.le_of_ble_eq_true rfl) ?_
  subst hR
  have M : hM E A s H locs (cLcl σ j) Z := M
  refine lv_aload_n C.1 C.2.1 dX9_readInto_4 rfl (lv_at hl 0 rfl) ?_
  refine lv_iconst (v := 0) C.1 C.2.1 dX9_readInto_5 (by decide) ?_
  refine g_putI C M 9 2 (by decide) rfl rfl (by decide) fl9_24 rfl rfl dX9_readInto_6 (fun H locs M => ?_)
  refine lv_aload_n C.1 C.2.1 dX9_readInto_9 rfl (lv_at hl 0 rfl) ?_
  refine lv_iconst (v := 0) C.1 C.2.1 dX9_readInto_10 (by decide) ?_
  refine g_putI C M 9 4 (by decide) rfl rfl (by decide) fl9_27 rfl rfl dX9_readInto_11 (fun H locs M => ?_)
  refine lv_aload_n C.1 C.2.1 dX9_readInto_14 rfl (lv_at hl 0 rfl) ?_
  refine lv_iconst (v := 0) C.1 C.2.1 dX9_readInto_15 (by decide) ?_
  refine g_putI C M 9 5 (by decide) rfl rfl (by decide) fl9_30 rfl rfl dX9_readInto_16 (fun H locs M => ?_)
  obtain ⟨w9, hw9⟩ := nI_sur (hI (cLcl σ j) 9 3)
  rw [kM_ini σ j w9 hj9 hw9] at M
  refine lv_aload_n C.1 C.2.1 dX9_readInto_19 rfl (lv_at hl 0 rfl) ?_
  refine g_callv M (g_runV (As := []) (rest := []) C M 9 (x_tskip l E (vM σ j (pre (fun _ => 0) (hA σ j 0 0) 5) L0f) Z 0 w9 0 0 n t (vM_n hj9 hn) (vM_t hj9 ht) hn3 (Nat.zero_le n)) clX9_skipBlanks ivX9_skipBlanks lk9_33 (by decide) rfl rfl ⟨Nat.le_of_ble_eq_true rfl, Nat.le_of_ble_eq_true rfl⟩ hl.1 rfl (Nat.le_of_ble_eq_true rfl) dX9_readInto_20 ⟨Nat.le_of_ble_eq_true rfl, Nat.le_of_ble_eq_true rfl⟩) (fun u H locs hR M => ?_)
  refine W.widen (k := 0) (n := 0) (Nat.le_of_ble_eq_true rfl) (Nat.le_of_ble_eq_true rfl) ?_
  subst hR
  have M : hM E A s H locs (kM σ j (pre (fun _ => 0) (hA σ j 0 0) 5) L0f (sk t n 0) w9 0 0) Z := M
  refine lv_iconst (v := 0) C.1 C.2.1 dX9_readInto_23 (by decide) ?_
  refine lv_istore_n (lv' := [(2, .int 0), (0, .ref (hO E 9)), (1, .ref (hO E j))]) C.1 C.2.1 dX9_readInto_24 rfl hl (by decide) rfl (fun ls hl => ?_)
  have L25 : ∀ (n9 : Nat) (k : Nat) (pl : Nat) (w8 : Nat) (td : Int32) (ft : Int32) (Wg : Nat → Int32) (V : Nat → Int32) (T : Nat → Int32) (L : Nat → Int32), (k ≤ 300) → (pl ≤ n) → (sk t n pl = pl) → (lInv t n (lwR t n L0) pl ft T L) → (ft = 0 → bitR T td ∧ lawR L Wg V ∧ k ≤ pl) → 300 - k < n9 → ∀ (H : Heap) (locs : List Loc) (ls : Array Slot), hM E A s H locs (kM σ j Wg V pl w8 td ft) Z → lv_has ls 3 [(2, .int (nI k)), (0, .ref (hO E 9)), (1, .ref (hO E j))] → W p l e (hRm (8, 0, 0, 177)) s m [.ref (hO E 9), .ref (hO E j)].toArray below meth c H locs 0 0 (MQ below (hQi E (fun r u => ∃ W' V' pl wp td', u = (kM σ j W' V' pl wp td' r, Z) ∧ rdR (lwR t n L0) r W' V') A) [.ref (hO E 9), .ref (hO E j)].toArray s 0 0 A) (F0 m 25 ls []) := by
    intro n9
    induction n9 with
    | zero =>
      intro k pl w8 td ft Wg V T L hk hpn hks hI9 hB9 hn9
      exact absurd hn9 (Nat.not_lt_zero _)
    | succ n9 ih25 =>
      intro k pl w8 td ft Wg V T L hk hpn hks hI9 hB9 hn25 H locs ls M hl
      refine lv_iload_n C.1 C.2.1 dX9_readInto_25 rfl (lv_at hl 0 rfl) ?_
      refine lv_sipush (v := 300) C.1 C.2.1 dX9_readInto_26 (by decide) ?_
      refine lv_icmp_ge (tgt := 65) C.1 C.2.1 dX9_readInto_29 (by decide) (fun c_29 => ?_) (fun c_29 => ?_)
      · skip
        have hk3 : 300 ≤ k := ct_ge (n := 300) c_29
        refine lv_aload_n C.1 C.2.1 dX9_readInto_65 rfl (lv_at hl 1 rfl) ?_
        refine g_getI C M 9 4 (by decide) rfl rfl (by decide) fl9_27 (v := td) rfl dX9_readInto_66 ?_
        refine lv_iconst (v := 4) C.1 C.2.1 dX9_readInto_69 (by decide) ?_
        refine lv_iand C.1 C.2.1 dX9_readInto_70 ?_
        refine lv_if_ne (tgt := 83) C.1 C.2.1 dX9_readInto_71 (by decide) (fun c_71 => ?_) (fun c_71 => ?_)
        · skip
          refine lv_aload_n C.1 C.2.1 dX9_readInto_83 rfl (lv_at hl 1 rfl) ?_
          refine g_getI C M 9 5 (by decide) rfl rfl (by decide) fl9_30 (v := ft) rfl dX9_readInto_84 ?_
          refine g_iret C M hr hlk ?_ (Nat.le_of_ble_eq_true rfl) (Nat.le_of_ble_eq_true rfl) dX9_readInto_87
          have h9 := rdR.of hn3 hI9 hB9 (Or.inl hk3); exact ⟨_, _, _, _, _, rfl, h9.2 c_71⟩
        · skip
          refine lv_aload_n C.1 C.2.1 dX9_readInto_74 rfl (lv_at hl 1 rfl) ?_
          refine lv_iconst (v := 4) C.1 C.2.1 dX9_readInto_75 (by decide) ?_
          refine lv_aload_n C.1 C.2.1 dX9_readInto_76 rfl (lv_at hl 1 rfl) ?_
          refine g_getI C M 9 1 (by decide) rfl rfl (by decide) fl9_15 (v := nI n) (vM_n hj9 hn) dX9_readInto_77 ?_
          refine g_callv M (g_runV (As := [.int 4, .int (nI n)]) (rest := []) C M 9 (x_trefuse l E (vM σ j Wg V) Z pl w8 td ft 4 (nI n)) clX9_refuse ivX9_refuse lk9_40 (by decide) rfl rfl ⟨Nat.le_of_ble_eq_true rfl, Nat.le_of_ble_eq_true rfl⟩ hl.1 rfl (Nat.le_of_ble_eq_true rfl) dX9_readInto_80 ⟨Nat.le_of_ble_eq_true rfl, Nat.le_of_ble_eq_true rfl⟩) (fun u H locs hR M => ?_)
          refine W.widen (k := 0) (n := 0) (Nat.le_of_ble_eq_true rfl) (Nat.le_of_ble_eq_true rfl) ?_
          subst hR
          have M : hM E A s H locs (kM σ j Wg V pl w8 td (ftl ft (4 + 4 * (nI n)))) Z := M
          refine lv_aload_n C.1 C.2.1 dX9_readInto_83 rfl (lv_at hl 1 rfl) ?_
          refine g_getI C M 9 5 (by decide) rfl rfl (by decide) fl9_30 (v := (ftl ft (4 + 4 * (nI n)))) rfl dX9_readInto_84 ?_
          refine g_iret C M hr hlk ?_ (Nat.le_of_ble_eq_true rfl) (Nat.le_of_ble_eq_true rfl) dX9_readInto_87
          have h9 := rdR.of hn3 hI9 hB9 (Or.inl hk3); exact ⟨_, _, _, _, _, rfl, h9.1 c_71⟩
      · skip
        have hk3 : k < 300 := ct_nge (n := 300) c_29
        refine lv_aload_n C.1 C.2.1 dX9_readInto_32 rfl (lv_at hl 1 rfl) ?_
        refine g_getI C M 9 2 (by decide) rfl rfl (by decide) fl9_24 (v := nI pl) rfl dX9_readInto_33 ?_
        refine lv_aload_n C.1 C.2.1 dX9_readInto_36 rfl (lv_at hl 1 rfl) ?_
        refine g_getI C M 9 1 (by decide) rfl rfl (by decide) fl9_15 (v := nI n) (vM_n hj9 hn) dX9_readInto_37 ?_
        refine lv_icmp_ge (tgt := 65) C.1 C.2.1 dX9_readInto_40 (by decide) (fun c_40 => ?_) (fun c_40 => ?_)
        · skip
          have hpl : n ≤ pl := ct_ge c_40
          refine lv_aload_n C.1 C.2.1 dX9_readInto_65 rfl (lv_at hl 1 rfl) ?_
          refine g_getI C M 9 4 (by decide) rfl rfl (by decide) fl9_27 (v := td) rfl dX9_readInto_66 ?_
          refine lv_iconst (v := 4) C.1 C.2.1 dX9_readInto_69 (by decide) ?_
          refine lv_iand C.1 C.2.1 dX9_readInto_70 ?_
          refine lv_if_ne (tgt := 83) C.1 C.2.1 dX9_readInto_71 (by decide) (fun c_71 => ?_) (fun c_71 => ?_)
          · skip
            refine lv_aload_n C.1 C.2.1 dX9_readInto_83 rfl (lv_at hl 1 rfl) ?_
            refine g_getI C M 9 5 (by decide) rfl rfl (by decide) fl9_30 (v := ft) rfl dX9_readInto_84 ?_
            refine g_iret C M hr hlk ?_ (Nat.le_of_ble_eq_true rfl) (Nat.le_of_ble_eq_true rfl) dX9_readInto_87
            have h9 := rdR.of hn3 hI9 hB9 (Or.inr (Or.inl hpl)); exact ⟨_, _, _, _, _, rfl, h9.2 c_71⟩
          · skip
            refine lv_aload_n C.1 C.2.1 dX9_readInto_74 rfl (lv_at hl 1 rfl) ?_
            refine lv_iconst (v := 4) C.1 C.2.1 dX9_readInto_75 (by decide) ?_
            refine lv_aload_n C.1 C.2.1 dX9_readInto_76 rfl (lv_at hl 1 rfl) ?_
            refine g_getI C M 9 1 (by decide) rfl rfl (by decide) fl9_15 (v := nI n) (vM_n hj9 hn) dX9_readInto_77 ?_
            refine g_callv M (g_runV (As := [.int 4, .int (nI n)]) (rest := []) C M 9 (x_trefuse l E (vM σ j Wg V) Z pl w8 td ft 4 (nI n)) clX9_refuse ivX9_refuse lk9_40 (by decide) rfl rfl ⟨Nat.le_of_ble_eq_true rfl, Nat.le_of_ble_eq_true rfl⟩ hl.1 rfl (Nat.le_of_ble_eq_true rfl) dX9_readInto_80 ⟨Nat.le_of_ble_eq_true rfl, Nat.le_of_ble_eq_true rfl⟩) (fun u H locs hR M => ?_)
            refine W.widen (k := 0) (n := 0) (Nat.le_of_ble_eq_true rfl) (Nat.le_of_ble_eq_true rfl) ?_
            subst hR
            have M : hM E A s H locs (kM σ j Wg V pl w8 td (ftl ft (4 + 4 * (nI n)))) Z := M
            refine lv_aload_n C.1 C.2.1 dX9_readInto_83 rfl (lv_at hl 1 rfl) ?_
            refine g_getI C M 9 5 (by decide) rfl rfl (by decide) fl9_30 (v := (ftl ft (4 + 4 * (nI n)))) rfl dX9_readInto_84 ?_
            refine g_iret C M hr hlk ?_ (Nat.le_of_ble_eq_true rfl) (Nat.le_of_ble_eq_true rfl) dX9_readInto_87
            have h9 := rdR.of hn3 hI9 hB9 (Or.inr (Or.inl hpl)); exact ⟨_, _, _, _, _, rfl, h9.1 c_71⟩
        · skip
          have hpl : pl < n := ct_nge c_40
          refine lv_aload_n C.1 C.2.1 dX9_readInto_43 rfl (lv_at hl 1 rfl) ?_
          refine g_getI C M 9 5 (by decide) rfl rfl (by decide) fl9_30 (v := ft) rfl dX9_readInto_44 ?_
          refine lv_if_ne (tgt := 65) C.1 C.2.1 dX9_readInto_47 (by decide) (fun c_47 => ?_) (fun c_47 => ?_)
          · skip
            refine lv_aload_n C.1 C.2.1 dX9_readInto_65 rfl (lv_at hl 1 rfl) ?_
            refine g_getI C M 9 4 (by decide) rfl rfl (by decide) fl9_27 (v := td) rfl dX9_readInto_66 ?_
            refine lv_iconst (v := 4) C.1 C.2.1 dX9_readInto_69 (by decide) ?_
            refine lv_iand C.1 C.2.1 dX9_readInto_70 ?_
            refine lv_if_ne (tgt := 83) C.1 C.2.1 dX9_readInto_71 (by decide) (fun c_71 => ?_) (fun c_71 => ?_)
            · skip
              refine lv_aload_n C.1 C.2.1 dX9_readInto_83 rfl (lv_at hl 1 rfl) ?_
              refine g_getI C M 9 5 (by decide) rfl rfl (by decide) fl9_30 (v := ft) rfl dX9_readInto_84 ?_
              refine g_iret C M hr hlk ?_ (Nat.le_of_ble_eq_true rfl) (Nat.le_of_ble_eq_true rfl) dX9_readInto_87
              have h9 := rdR.of hn3 hI9 hB9 (Or.inr (Or.inr c_47)); exact ⟨_, _, _, _, _, rfl, h9.2 c_71⟩
            · skip
              refine lv_aload_n C.1 C.2.1 dX9_readInto_74 rfl (lv_at hl 1 rfl) ?_
              refine lv_iconst (v := 4) C.1 C.2.1 dX9_readInto_75 (by decide) ?_
              refine lv_aload_n C.1 C.2.1 dX9_readInto_76 rfl (lv_at hl 1 rfl) ?_
              refine g_getI C M 9 1 (by decide) rfl rfl (by decide) fl9_15 (v := nI n) (vM_n hj9 hn) dX9_readInto_77 ?_
              refine g_callv M (g_runV (As := [.int 4, .int (nI n)]) (rest := []) C M 9 (x_trefuse l E (vM σ j Wg V) Z pl w8 td ft 4 (nI n)) clX9_refuse ivX9_refuse lk9_40 (by decide) rfl rfl ⟨Nat.le_of_ble_eq_true rfl, Nat.le_of_ble_eq_true rfl⟩ hl.1 rfl (Nat.le_of_ble_eq_true rfl) dX9_readInto_80 ⟨Nat.le_of_ble_eq_true rfl, Nat.le_of_ble_eq_true rfl⟩) (fun u H locs hR M => ?_)
              refine W.widen (k := 0) (n := 0) (Nat.le_of_ble_eq_true rfl) (Nat.le_of_ble_eq_true rfl) ?_
              subst hR
              have M : hM E A s H locs (kM σ j Wg V pl w8 td (ftl ft (4 + 4 * (nI n)))) Z := M
              refine lv_aload_n C.1 C.2.1 dX9_readInto_83 rfl (lv_at hl 1 rfl) ?_
              refine g_getI C M 9 5 (by decide) rfl rfl (by decide) fl9_30 (v := (ftl ft (4 + 4 * (nI n)))) rfl dX9_readInto_84 ?_
              refine g_iret C M hr hlk ?_ (Nat.le_of_ble_eq_true rfl) (Nat.le_of_ble_eq_true rfl) dX9_readInto_87
              have h9 := rdR.of hn3 hI9 hB9 (Or.inr (Or.inr c_47)); exact ⟨_, _, _, _, _, rfl, h9.1 c_71⟩
          · skip
            subst c_47
            have hBL := hB9 rfl
            obtain ⟨f9, hf9, hR9⟩ : ∃ f, n + 1 ≤ pl + f ∧ lwP t n f pl T L = lwR t n L0 := hI9.elim (fun h9 => absurd h9.1 (by decide)) (fun h9 => h9.2.2)
            refine lv_aload_n C.1 C.2.1 dX9_readInto_50 rfl (lv_at hl 1 rfl) ?_
            refine lv_aload_n C.1 C.2.1 dX9_readInto_51 rfl (lv_at hl 2 rfl) ?_
            refine g_callv M (g_runV (As := [.ref (hO E j)]) (rest := []) C M 9 (x_tclause l E σ Z j hj hL hC hj9 Wg V pl w8 td n t hn ht hn3 hpn T L hBL.1 hBL.2.1) clX9_readClause ivX9_readClause lk9_36 (by decide) rfl rfl ⟨Nat.le_of_ble_eq_true rfl, Nat.le_of_ble_eq_true rfl⟩ hl.1 rfl (Nat.le_of_ble_eq_true rfl) dX9_readInto_52 ⟨Nat.le_of_ble_eq_true rfl, Nat.le_of_ble_eq_true rfl⟩) (fun u H locs hR M => ?_)
            refine W.widen (k := 0) (n := 0) (Nat.le_of_ble_eq_true rfl) (Nat.le_of_ble_eq_true rfl) ?_
            obtain ⟨W52, V52, p52, w52, t52, f52, hu, hk52⟩ := hR
            subst hu
            have M : hM E A s H locs (kM σ j W52 V52 p52 w52 t52 f52) Z := M
            refine lv_aload_n C.1 C.2.1 dX9_readInto_55 rfl (lv_at hl 1 rfl) ?_
            refine g_callv M (g_runV (As := []) (rest := []) C M 9 (x_tskip l E (vM σ j W52 V52) Z p52 w52 t52 f52 n t (vM_n hj9 hn) (vM_t hj9 ht) hn3 hk52.1) clX9_skipBlanks ivX9_skipBlanks lk9_33 (by decide) rfl rfl ⟨Nat.le_of_ble_eq_true rfl, Nat.le_of_ble_eq_true rfl⟩ hl.1 rfl (Nat.le_of_ble_eq_true rfl) dX9_readInto_56 ⟨Nat.le_of_ble_eq_true rfl, Nat.le_of_ble_eq_true rfl⟩) (fun u H locs hR M => ?_)
            refine W.widen (k := 0) (n := 0) (Nat.le_of_ble_eq_true rfl) (Nat.le_of_ble_eq_true rfl) ?_
            subst hR
            have M : hM E A s H locs (kM σ j W52 V52 (sk t n p52) w52 t52 f52) Z := M
            refine lv_iinc (v := nI (k + 1)) (lv' := [(2, .int (nI (k + 1))), (0, .ref (hO E 9)), (1, .ref (hO E j))]) C.1 C.2.1 dX9_readInto_59 hl (k := 0) rfl (nI_succ _).symm (by decide) rfl (fun ls hl => ?_)
            refine lv_goto (tgt := 25) C.1 C.2.1 dX9_readInto_62 (by decide) ?_
            obtain ⟨T5, L5, hI5, hB5⟩ := hk52.go hn3 hpn hf9 hR9 hks hpl
            exact ih25 (k + 1) (sk t n p52) w52 t52 f52 W52 V52 T5 L5 hk3 (scn_le hk52.1) (sk_sk hk52.1) hI5 (fun h9 => ⟨(hB5 h9).1, (hB5 h9).2.1, by have h8 := (hB5 h9).2.2; have h7 := hBL.2.2; omega⟩) (by omega) _ _ _ M (lv_sub hl [0, 1, 2] rfl)
  have q1 : 0 = nI 0 := by rfl
  have hl : lv_has ls 3 [(2, .int (nI 0)), (0, .ref (hO E 9)), (1, .ref (hO E j))] := by
    rw [← q1]
    exact lv_sub hl [0, 1, 2] rfl
  exact L25 ((300 - 0) + 1) 0 (sk t n 0) w9 0 0 (pre (fun _ => 0) (hA σ j 0 0) 5) L0f (fun _ => 0) L0 (Nat.zero_le _) (scn_le (Nat.zero_le n)) (sk_sk (Nat.zero_le n)) (lInv.skp (Or.inr ⟨rfl, Nat.zero_le n, n + 1, by omega, rfl⟩) (Nat.zero_le n)) (fun _ => ⟨bitR_0, lawR_0 hL0 (fun i hi => pre_lt hi), Nat.zero_le _⟩) (Nat.lt_succ_self _) _ _ _ M hl

def cPut (σ : hMem) (t : Nat) (x : Int32) : hMem := sI (sA (sI (sA (sI (sA (sI (sA σ 9 0 0 (upd (hA σ 9 0 0) t (((x.toUInt32 >>> ((24 : Int32).toUInt32 &&& Int32.toUInt32 31)).toInt32).toInt8.toInt32))) 9 1 (nI (t + 1))) 9 0 0 (upd (upd (hA σ 9 0 0) t (((x.toUInt32 >>> ((24 : Int32).toUInt32 &&& Int32.toUInt32 31)).toInt32).toInt8.toInt32)) (t + 1) (((x.toUInt32 >>> ((16 : Int32).toUInt32 &&& Int32.toUInt32 31)).toInt32).toInt8.toInt32))) 9 1 (nI ((t + 1) + 1))) 9 0 0 (upd (upd (upd (hA σ 9 0 0) t (((x.toUInt32 >>> ((24 : Int32).toUInt32 &&& Int32.toUInt32 31)).toInt32).toInt8.toInt32)) (t + 1) (((x.toUInt32 >>> ((16 : Int32).toUInt32 &&& Int32.toUInt32 31)).toInt32).toInt8.toInt32)) ((t + 1) + 1) (((x.toUInt32 >>> ((8 : Int32).toUInt32 &&& Int32.toUInt32 31)).toInt32).toInt8.toInt32))) 9 1 (nI (((t + 1) + 1) + 1))) 9 0 0 (upd (upd (upd (upd (hA σ 9 0 0) t (((x.toUInt32 >>> ((24 : Int32).toUInt32 &&& Int32.toUInt32 31)).toInt32).toInt8.toInt32)) (t + 1) (((x.toUInt32 >>> ((16 : Int32).toUInt32 &&& Int32.toUInt32 31)).toInt32).toInt8.toInt32)) ((t + 1) + 1) (((x.toUInt32 >>> ((8 : Int32).toUInt32 &&& Int32.toUInt32 31)).toInt32).toInt8.toInt32)) (((t + 1) + 1) + 1) (((x.toUInt32 >>> ((0 : Int32).toUInt32 &&& Int32.toUInt32 31)).toInt32).toInt8.toInt32))) 9 1 (nI (t + 1 + 1 + 1 + 1))
theorem cPut_t (σ : hMem) (t : Nat) (x : Int32) : hI (cPut σ t x) 9 1 = nI (t + 4) := rfl

set_option maxHeartbeats 4000000 in
set_option maxRecDepth 100000 in
theorem x_tapp (l : Launch) (E : hEnv) (σ : hMem) (Z : va_W) (t : Nat) (ht : hI σ 9 1 = nI t) (ht4 : t + 4 ≤ 300) (x : Int32) : hMet l yX9_append cX9_append 3 none (0, 0, 0, 0) E σ Z [.ref (hO E 9), .int x] (hQv E (fun u => u = (cPut σ t x, Z))) := by
  refine hMet.of (by decide) (Nat.le_of_ble_eq_true rfl) (fun p e s m below meth c A ls C M hr hlk hl => ?_)
  have hl : lv_has ls 3 [(0, .ref (hO E 9)), (1, .int x)] := hl
  generalize s.heap = H at M ⊢
  generalize ([] : List Loc) = locs at M ⊢
  refine lv_bipush (v := 24) C.1 C.2.1 dX9_append_0 (by decide) ?_
  refine lv_istore_n (lv' := [(2, .int 24), (0, .ref (hO E 9)), (1, .int x)]) C.1 C.2.1 dX9_append_2 rfl hl (by decide) rfl (fun ls hl => ?_)
  refine lv_iload_n C.1 C.2.1 dX9_append_3 rfl (lv_at hl 0 rfl) ?_
  refine lv_if_lt (tgt := 46) C.1 C.2.1 dX9_append_4 (by decide) (fun h9 => absurd h9 (by decide)) (fun _ => ?_)
  refine lv_aload_n C.1 C.2.1 dX9_append_7 rfl (lv_at hl 1 rfl) ?_
  refine g_getI C M 9 1 (by decide) rfl rfl (by decide) fl9_15 (v := nI t) ht dX9_append_8 ?_
  refine lv_sipush (v := 300) C.1 C.2.1 dX9_append_11 (by decide) ?_
  refine lv_icmp_ge (tgt := 46) C.1 C.2.1 dX9_append_14 (by decide) (fun c_14 => ?_) (fun c_14 => ?_)
  · skip
    exact absurd (ct_ge (n := 300) c_14) (by omega)
  · skip
    refine lv_aload_n C.1 C.2.1 dX9_append_17 rfl (lv_at hl 1 rfl) ?_
    refine g_getA C M 9 0 (by decide) rfl rfl (by decide) fl9_9 dX9_append_18 ?_
    refine lv_aload_n C.1 C.2.1 dX9_append_21 rfl (lv_at hl 1 rfl) ?_
    refine g_getI C M 9 1 (by decide) rfl rfl (by decide) fl9_15 (v := nI t) ht dX9_append_22 ?_
    refine lv_iload_n C.1 C.2.1 dX9_append_25 rfl (lv_at hl 2 rfl) ?_
    refine lv_iload_n C.1 C.2.1 dX9_append_26 rfl (lv_at hl 0 rfl) ?_
    refine lv_iushr C.1 C.2.1 dX9_append_27 rfl ?_
    refine lv_i2b C.1 C.2.1 dX9_append_28 rfl ?_
    refine g_bast C M 9 0 (by decide) rfl (pk_vb _) t (nI_clamp (by omega)) (vp_in_nI (by omega) (by decide)) dX9_append_29 (fun H locs M => ?_)
    have M : hM E A s H locs (sA σ 9 0 0 (upd (hA σ 9 0 0) t (((x.toUInt32 >>> ((24 : Int32).toUInt32 &&& Int32.toUInt32 31)).toInt32).toInt8.toInt32))) Z := M
    refine lv_aload_n C.1 C.2.1 dX9_append_30 rfl (lv_at hl 1 rfl) ?_
    refine lv_dup C.1 C.2.1 dX9_append_31 rfl ?_
    refine g_getI C M 9 1 (by decide) rfl rfl (by decide) fl9_15 (v := nI t) ht dX9_append_32 ?_
    refine lv_iconst (v := 1) C.1 C.2.1 dX9_append_35 (by decide) ?_
    refine lv_iadd C.1 C.2.1 dX9_append_36 ?_
    refine g_rei (v := nI (t + 1)) (nI_1 _) ?_
    refine g_putI C M 9 1 (by decide) rfl rfl (by decide) fl9_15 rfl rfl dX9_append_37 (fun H locs M => ?_)
    refine lv_iinc (v := 16) (lv' := [(2, .int 16), (0, .ref (hO E 9)), (1, .int x)]) C.1 C.2.1 dX9_append_40 hl (k := 0) rfl (by decide) (by decide) rfl (fun ls hl => ?_)
    refine lv_goto (tgt := 3) C.1 C.2.1 dX9_append_43 (by decide) ?_
    refine lv_iload_n C.1 C.2.1 dX9_append_3 rfl (lv_at hl 0 rfl) ?_
    refine lv_if_lt (tgt := 46) C.1 C.2.1 dX9_append_4 (by decide) (fun h9 => absurd h9 (by decide)) (fun _ => ?_)
    refine lv_aload_n C.1 C.2.1 dX9_append_7 rfl (lv_at hl 1 rfl) ?_
    refine g_getI C M 9 1 (by decide) rfl rfl (by decide) fl9_15 (v := nI (t + 1)) rfl dX9_append_8 ?_
    refine lv_sipush (v := 300) C.1 C.2.1 dX9_append_11 (by decide) ?_
    refine lv_icmp_ge (tgt := 46) C.1 C.2.1 dX9_append_14 (by decide) (fun c_14 => ?_) (fun c_14 => ?_)
    · skip
      exact absurd (ct_ge (n := 300) c_14) (by omega)
    · skip
      refine lv_aload_n C.1 C.2.1 dX9_append_17 rfl (lv_at hl 1 rfl) ?_
      refine g_getA C M 9 0 (by decide) rfl rfl (by decide) fl9_9 dX9_append_18 ?_
      refine lv_aload_n C.1 C.2.1 dX9_append_21 rfl (lv_at hl 1 rfl) ?_
      refine g_getI C M 9 1 (by decide) rfl rfl (by decide) fl9_15 (v := nI (t + 1)) rfl dX9_append_22 ?_
      refine lv_iload_n C.1 C.2.1 dX9_append_25 rfl (lv_at hl 2 rfl) ?_
      refine lv_iload_n C.1 C.2.1 dX9_append_26 rfl (lv_at hl 0 rfl) ?_
      refine lv_iushr C.1 C.2.1 dX9_append_27 rfl ?_
      refine lv_i2b C.1 C.2.1 dX9_append_28 rfl ?_
      refine g_bast C M 9 0 (by decide) rfl (pk_vb _) (t + 1) (nI_clamp (by omega)) (vp_in_nI (by omega) (by decide)) dX9_append_29 (fun H locs M => ?_)
      have M : hM E A s H locs (sA (sI (sA σ 9 0 0 (upd (hA σ 9 0 0) t (((x.toUInt32 >>> ((24 : Int32).toUInt32 &&& Int32.toUInt32 31)).toInt32).toInt8.toInt32))) 9 1 (nI (t + 1))) 9 0 0 (upd (upd (hA σ 9 0 0) t (((x.toUInt32 >>> ((24 : Int32).toUInt32 &&& Int32.toUInt32 31)).toInt32).toInt8.toInt32)) (t + 1) (((x.toUInt32 >>> ((16 : Int32).toUInt32 &&& Int32.toUInt32 31)).toInt32).toInt8.toInt32))) Z := M
      refine lv_aload_n C.1 C.2.1 dX9_append_30 rfl (lv_at hl 1 rfl) ?_
      refine lv_dup C.1 C.2.1 dX9_append_31 rfl ?_
      refine g_getI C M 9 1 (by decide) rfl rfl (by decide) fl9_15 (v := nI (t + 1)) rfl dX9_append_32 ?_
      refine lv_iconst (v := 1) C.1 C.2.1 dX9_append_35 (by decide) ?_
      refine lv_iadd C.1 C.2.1 dX9_append_36 ?_
      refine g_rei (v := nI ((t + 1) + 1)) (nI_1 _) ?_
      refine g_putI C M 9 1 (by decide) rfl rfl (by decide) fl9_15 rfl rfl dX9_append_37 (fun H locs M => ?_)
      refine lv_iinc (v := 8) (lv' := [(2, .int 8), (0, .ref (hO E 9)), (1, .int x)]) C.1 C.2.1 dX9_append_40 hl (k := 0) rfl (by decide) (by decide) rfl (fun ls hl => ?_)
      refine lv_goto (tgt := 3) C.1 C.2.1 dX9_append_43 (by decide) ?_
      refine lv_iload_n C.1 C.2.1 dX9_append_3 rfl (lv_at hl 0 rfl) ?_
      refine lv_if_lt (tgt := 46) C.1 C.2.1 dX9_append_4 (by decide) (fun h9 => absurd h9 (by decide)) (fun _ => ?_)
      refine lv_aload_n C.1 C.2.1 dX9_append_7 rfl (lv_at hl 1 rfl) ?_
      refine g_getI C M 9 1 (by decide) rfl rfl (by decide) fl9_15 (v := nI ((t + 1) + 1)) rfl dX9_append_8 ?_
      refine lv_sipush (v := 300) C.1 C.2.1 dX9_append_11 (by decide) ?_
      refine lv_icmp_ge (tgt := 46) C.1 C.2.1 dX9_append_14 (by decide) (fun c_14 => ?_) (fun c_14 => ?_)
      · skip
        exact absurd (ct_ge (n := 300) c_14) (by omega)
      · skip
        refine lv_aload_n C.1 C.2.1 dX9_append_17 rfl (lv_at hl 1 rfl) ?_
        refine g_getA C M 9 0 (by decide) rfl rfl (by decide) fl9_9 dX9_append_18 ?_
        refine lv_aload_n C.1 C.2.1 dX9_append_21 rfl (lv_at hl 1 rfl) ?_
        refine g_getI C M 9 1 (by decide) rfl rfl (by decide) fl9_15 (v := nI ((t + 1) + 1)) rfl dX9_append_22 ?_
        refine lv_iload_n C.1 C.2.1 dX9_append_25 rfl (lv_at hl 2 rfl) ?_
        refine lv_iload_n C.1 C.2.1 dX9_append_26 rfl (lv_at hl 0 rfl) ?_
        refine lv_iushr C.1 C.2.1 dX9_append_27 rfl ?_
        refine lv_i2b C.1 C.2.1 dX9_append_28 rfl ?_
        refine g_bast C M 9 0 (by decide) rfl (pk_vb _) ((t + 1) + 1) (nI_clamp (by omega)) (vp_in_nI (by omega) (by decide)) dX9_append_29 (fun H locs M => ?_)
        have M : hM E A s H locs (sA (sI (sA (sI (sA σ 9 0 0 (upd (hA σ 9 0 0) t (((x.toUInt32 >>> ((24 : Int32).toUInt32 &&& Int32.toUInt32 31)).toInt32).toInt8.toInt32))) 9 1 (nI (t + 1))) 9 0 0 (upd (upd (hA σ 9 0 0) t (((x.toUInt32 >>> ((24 : Int32).toUInt32 &&& Int32.toUInt32 31)).toInt32).toInt8.toInt32)) (t + 1) (((x.toUInt32 >>> ((16 : Int32).toUInt32 &&& Int32.toUInt32 31)).toInt32).toInt8.toInt32))) 9 1 (nI ((t + 1) + 1))) 9 0 0 (upd (upd (upd (hA σ 9 0 0) t (((x.toUInt32 >>> ((24 : Int32).toUInt32 &&& Int32.toUInt32 31)).toInt32).toInt8.toInt32)) (t + 1) (((x.toUInt32 >>> ((16 : Int32).toUInt32 &&& Int32.toUInt32 31)).toInt32).toInt8.toInt32)) ((t + 1) + 1) (((x.toUInt32 >>> ((8 : Int32).toUInt32 &&& Int32.toUInt32 31)).toInt32).toInt8.toInt32))) Z := M
        refine lv_aload_n C.1 C.2.1 dX9_append_30 rfl (lv_at hl 1 rfl) ?_
        refine lv_dup C.1 C.2.1 dX9_append_31 rfl ?_
        refine g_getI C M 9 1 (by decide) rfl rfl (by decide) fl9_15 (v := nI ((t + 1) + 1)) rfl dX9_append_32 ?_
        refine lv_iconst (v := 1) C.1 C.2.1 dX9_append_35 (by decide) ?_
        refine lv_iadd C.1 C.2.1 dX9_append_36 ?_
        refine g_rei (v := nI (((t + 1) + 1) + 1)) (nI_1 _) ?_
        refine g_putI C M 9 1 (by decide) rfl rfl (by decide) fl9_15 rfl rfl dX9_append_37 (fun H locs M => ?_)
        refine lv_iinc (v := 0) (lv' := [(2, .int 0), (0, .ref (hO E 9)), (1, .int x)]) C.1 C.2.1 dX9_append_40 hl (k := 0) rfl (by decide) (by decide) rfl (fun ls hl => ?_)
        refine lv_goto (tgt := 3) C.1 C.2.1 dX9_append_43 (by decide) ?_
        refine lv_iload_n C.1 C.2.1 dX9_append_3 rfl (lv_at hl 0 rfl) ?_
        refine lv_if_lt (tgt := 46) C.1 C.2.1 dX9_append_4 (by decide) (fun h9 => absurd h9 (by decide)) (fun _ => ?_)
        refine lv_aload_n C.1 C.2.1 dX9_append_7 rfl (lv_at hl 1 rfl) ?_
        refine g_getI C M 9 1 (by decide) rfl rfl (by decide) fl9_15 (v := nI (((t + 1) + 1) + 1)) rfl dX9_append_8 ?_
        refine lv_sipush (v := 300) C.1 C.2.1 dX9_append_11 (by decide) ?_
        refine lv_icmp_ge (tgt := 46) C.1 C.2.1 dX9_append_14 (by decide) (fun c_14 => ?_) (fun c_14 => ?_)
        · skip
          exact absurd (ct_ge (n := 300) c_14) (by omega)
        · skip
          refine lv_aload_n C.1 C.2.1 dX9_append_17 rfl (lv_at hl 1 rfl) ?_
          refine g_getA C M 9 0 (by decide) rfl rfl (by decide) fl9_9 dX9_append_18 ?_
          refine lv_aload_n C.1 C.2.1 dX9_append_21 rfl (lv_at hl 1 rfl) ?_
          refine g_getI C M 9 1 (by decide) rfl rfl (by decide) fl9_15 (v := nI (((t + 1) + 1) + 1)) rfl dX9_append_22 ?_
          refine lv_iload_n C.1 C.2.1 dX9_append_25 rfl (lv_at hl 2 rfl) ?_
          refine lv_iload_n C.1 C.2.1 dX9_append_26 rfl (lv_at hl 0 rfl) ?_
          refine lv_iushr C.1 C.2.1 dX9_append_27 rfl ?_
          refine lv_i2b C.1 C.2.1 dX9_append_28 rfl ?_
          refine g_bast C M 9 0 (by decide) rfl (pk_vb _) (((t + 1) + 1) + 1) (nI_clamp (by omega)) (vp_in_nI (by omega) (by decide)) dX9_append_29 (fun H locs M => ?_)
          have M : hM E A s H locs (sA (sI (sA (sI (sA (sI (sA σ 9 0 0 (upd (hA σ 9 0 0) t (((x.toUInt32 >>> ((24 : Int32).toUInt32 &&& Int32.toUInt32 31)).toInt32).toInt8.toInt32))) 9 1 (nI (t + 1))) 9 0 0 (upd (upd (hA σ 9 0 0) t (((x.toUInt32 >>> ((24 : Int32).toUInt32 &&& Int32.toUInt32 31)).toInt32).toInt8.toInt32)) (t + 1) (((x.toUInt32 >>> ((16 : Int32).toUInt32 &&& Int32.toUInt32 31)).toInt32).toInt8.toInt32))) 9 1 (nI ((t + 1) + 1))) 9 0 0 (upd (upd (upd (hA σ 9 0 0) t (((x.toUInt32 >>> ((24 : Int32).toUInt32 &&& Int32.toUInt32 31)).toInt32).toInt8.toInt32)) (t + 1) (((x.toUInt32 >>> ((16 : Int32).toUInt32 &&& Int32.toUInt32 31)).toInt32).toInt8.toInt32)) ((t + 1) + 1) (((x.toUInt32 >>> ((8 : Int32).toUInt32 &&& Int32.toUInt32 31)).toInt32).toInt8.toInt32))) 9 1 (nI (((t + 1) + 1) + 1))) 9 0 0 (upd (upd (upd (upd (hA σ 9 0 0) t (((x.toUInt32 >>> ((24 : Int32).toUInt32 &&& Int32.toUInt32 31)).toInt32).toInt8.toInt32)) (t + 1) (((x.toUInt32 >>> ((16 : Int32).toUInt32 &&& Int32.toUInt32 31)).toInt32).toInt8.toInt32)) ((t + 1) + 1) (((x.toUInt32 >>> ((8 : Int32).toUInt32 &&& Int32.toUInt32 31)).toInt32).toInt8.toInt32)) (((t + 1) + 1) + 1) (((x.toUInt32 >>> ((0 : Int32).toUInt32 &&& Int32.toUInt32 31)).toInt32).toInt8.toInt32))) Z := M
          refine lv_aload_n C.1 C.2.1 dX9_append_30 rfl (lv_at hl 1 rfl) ?_
          refine lv_dup C.1 C.2.1 dX9_append_31 rfl ?_
          refine g_getI C M 9 1 (by decide) rfl rfl (by decide) fl9_15 (v := nI (((t + 1) + 1) + 1)) rfl dX9_append_32 ?_
          refine lv_iconst (v := 1) C.1 C.2.1 dX9_append_35 (by decide) ?_
          refine lv_iadd C.1 C.2.1 dX9_append_36 ?_
          refine g_rei (v := nI ((((t + 1) + 1) + 1) + 1)) (nI_1 _) ?_
          refine g_putI C M 9 1 (by decide) rfl rfl (by decide) fl9_15 rfl rfl dX9_append_37 (fun H locs M => ?_)
          refine lv_iinc (v := (-8)) (lv' := [(2, .int (-8)), (0, .ref (hO E 9)), (1, .int x)]) C.1 C.2.1 dX9_append_40 hl (k := 0) rfl (by decide) (by decide) rfl (fun ls hl => ?_)
          refine lv_goto (tgt := 3) C.1 C.2.1 dX9_append_43 (by decide) ?_
          refine lv_iload_n C.1 C.2.1 dX9_append_3 rfl (lv_at hl 0 rfl) ?_
          refine lv_if_lt (tgt := 46) C.1 C.2.1 dX9_append_4 (by decide) (fun _ => ?_) (fun h9 => absurd h9 (by decide))
          refine g_vret C M hr hlk ?_ (Nat.le_of_ble_eq_true rfl) (Nat.le_of_ble_eq_true rfl) dX9_append_46
          rfl
