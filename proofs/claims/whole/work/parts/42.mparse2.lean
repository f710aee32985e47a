theorem nI_subS (a k : Nat) : nI (a + k) - nI a = nI k := by
  rw [nI_subN (Nat.le_add_right a k), Nat.add_sub_cancel_left]
theorem ftl_0 (v : Int32) : ftl 0 v = v := if_pos rfl
theorem ftl_n {ft v : Int32} (h : ¬ ft = 0) : ftl ft v = ft := if_neg h
theorem fc_nle {k : Int32} {p : Nat} (hk : k = 1 ∨ k = 2 ∨ k = 3 ∨ k = 4) (hp : p ≤ 300) : ¬ k + 4 * nI p ≤ 0 := Int32.not_le.mpr (fc_pos hk hp)
theorem fc_ne {k : Int32} {p : Nat} (hk : k = 1 ∨ k = 2 ∨ k = 3 ∨ k = 4) (hp : p ≤ 300) : ¬ k + 4 * nI p = 0 := fun h => fc_nle hk hp (by rw [h]; decide)
theorem ltI_ne {x : Int32} (h : 0 < x) : ¬ x = 0 := fun q => by rw [q] at h; exact absurd h (by decide)
def nRel (t : Nat → Int32) (n p : Nat) (g : Int32) (b : Nat) (ft r : Int32) : Prop := b ≤ n ∧ ((pN t n p g = .inl ft ∧ 0 < ft) ∨ (pN t n p g = .inr (b, r) ∧ ft = 0))
theorem nRel_a {t : Nat → Int32} {n p k : Nat} {g r : Int32} (hn : n ≤ 300) (hk : sk t n p + k ≤ n) (hd : dg t n (sk t n p) = sk t n p + k) (h : nI (sk t n p + k) = nI (sk t n p)) : nRel t n p g (sk t n p + k) (1 + 4 * nI (sk t n p)) r := by
  have h0 := (nI_eq (by omega) (by omega)).mp h
  refine ⟨hk, Or.inl ⟨?_, fc_pos (by decide) (by omega)⟩⟩
  unfold pN
  rw [if_pos (by rw [hd]; exact h0)]
theorem nRel_b {t : Nat → Int32} {n p k : Nat} {g r : Int32} (hg : ¬ inB 1000000 0 g = true) (hn : n ≤ 300) (hk : sk t n p + k ≤ n) (hd : dg t n (sk t n p) = sk t n p + k) (h : ¬ nI (sk t n p + k) = nI (sk t n p)) (h2 : ¬ inB (mV t (sk t n p) k) 0 g = true) : nRel t n p g (sk t n p + k) (2 + 4 * nI (sk t n p)) r := by
  refine ⟨hk, Or.inl ⟨?_, fc_pos (by decide) (by omega)⟩⟩
  unfold pN
  have e : dg t n (sk t n p) - sk t n p = k := by omega
  rw [if_neg (fun q => h (by rw [← hd, q])), e, if_pos]
  by_cases h4 : 4 < k
  · exact Or.inl h4
  · rw [← mV_cV t _ k (by omega)]
    exact Or.inr h2
theorem nRel_c {t : Nat → Int32} {n p k : Nat} {g : Int32} (hg : ¬ inB 1000000 0 g = true) (hn : n ≤ 300) (hk : sk t n p + k ≤ n) (hd : dg t n (sk t n p) = sk t n p + k) (h : ¬ nI (sk t n p + k) = nI (sk t n p)) (h2 : inB (mV t (sk t n p) k) 0 g = true) : nRel t n p g (sk t n p + k) 0 (mV t (sk t n p) k) := by
  refine ⟨hk, Or.inr ⟨?_, rfl⟩⟩
  unfold pN
  have e : dg t n (sk t n p) - sk t n p = k := by omega
  have h4 : ¬ 4 < k := fun q => hg (by rw [mV_big t _ q] at h2; exact h2)
  rw [if_neg (fun q => h (by rw [← hd, q])), e, ← mV_cV t _ k (by omega), if_neg (fun q => q.elim h4 (fun z => z h2)), hd]
theorem sLen_pos : ∀ i, i < 20 → 0 < sLen.getD i 0 := by decide
theorem isT_ne {t : Nat → Int32} {a b i : Nat} (hi : i < 20) (h : isT t a b i) : ¬ b = a := by
  have := sLen_pos i hi
  have := h.1
  omega
theorem fF_is (Q : Nat → Bool) : ∀ f s m, s ≤ m → m ≤ s + f → (∀ j, s ≤ j → j < m → ¬ Q j = true) → (m = s + f ∨ Q m = true) → fF Q f s = m
  | 0, s, m, h1, h2, h3, h4 => by
    show s = m
    omega
  | f + 1, s, m, h1, h2, h3, h4 => by
    unfold fF
    by_cases h : Q s = true
    · rw [if_pos h]
      by_cases e : s = m
      · exact e
      · exact absurd h (h3 s (Nat.le_refl s) (by omega))
    · rw [if_neg h]
      have hne : s ≠ m := fun e => by
        rcases h4 with h4 | h4
        · omega
        · rw [e] at h; exact h h4
      exact fF_is Q f (s + 1) m (by omega) (by omega) (fun j hj => h3 j (by omega)) (h4.elim (fun q => Or.inl (by omega)) Or.inr)
theorem mk_is {t : Nat → Int32} {a b m : Nat} (hm : m ≤ 5) (h : ∀ j, j < m → ¬ isT t a b (5 + j)) (h2 : m = 5 ∨ isT t a b (5 + m)) : mkI t a b = m := fF_is _ 5 0 m (Nat.zero_le m) (by omega) (fun j _ hj q => h j hj (of_decide_eq_true q)) (h2.elim (fun q => Or.inl (by omega)) (fun q => Or.inr (decide_eq_true q)))
theorem cl_is {t : Nat → Int32} {a b m : Nat} (hm : m ≤ 5) (h : ∀ j, j < m → ¬ isT t a b (10 + j)) (h2 : m = 5 ∨ isT t a b (10 + m)) : clI t a b = m := fF_is _ 5 0 m (Nat.zero_le m) (by omega) (fun j _ hj q => h j hj (of_decide_eq_true q)) (h2.elim (fun q => Or.inl (by omega)) (fun q => Or.inr (decide_eq_true q)))
theorem gf_is {t : Nat → Int32} {a b m : Nat} (hm : m ≤ 4) (h : ∀ j, j < m → ¬ isT t a b (15 + j)) (h2 : m = 4 ∨ isT t a b (15 + m)) : gfI t a b = m := fF_is _ 4 0 m (Nat.zero_le m) (by omega) (fun j _ hj q => h j hj (of_decide_eq_true q)) (h2.elim (fun q => Or.inl (by omega)) (fun q => Or.inr (decide_eq_true q)))
theorem fF_t (Q : Nat → Bool) : ∀ f s, fF Q f s < s + f → Q (fF Q f s) = true
  | 0, s, h => absurd h (by show ¬ s < s + 0; omega)
  | f + 1, s, h => by
    unfold fF at h ⊢
    by_cases hq : Q s = true
    · rw [if_pos hq]; exact hq
    · rw [if_neg hq] at h ⊢
      exact fF_t Q f (s + 1) (by omega)
theorem gf_le (t : Nat → Int32) (a b : Nat) : gfI t a b ≤ 4 := by
  have := (fF_le (fun m => decide (isT t a b (15 + m))) 4 0).2
  unfold gfI
  omega
theorem gf_ne {t : Nat → Int32} {a b : Nat} (h : ¬ gfI t a b = 4) : ¬ b = a := by
  have h0 := gf_le t a b
  have h2 : isT t a b (15 + gfI t a b) := of_decide_eq_true (fF_t (fun m => decide (isT t a b (15 + m))) 4 0 (show gfI t a b < 0 + 4 by omega))
  exact isT_ne (by omega) h2
/-- behind word -/
abbrev wRel (W S : Nat) (ft : Int32) : Prop := (W = S ∧ ft = 1 + 4 * nI S) ∨ (¬ W = S ∧ ft = 0)
theorem w_sp {σ : hMem} {W S : Nat} {L : Nat → Int32} {Z : va_W} {u : hMem × va_W} (hW : W ≤ 300) (hS : S ≤ 300) (h : u = (pM σ W S (if nI W = nI S then ftl 0 (1 + 4 * nI S) else 0) L, Z)) : ∃ ft, u = (pM σ W S ft L, Z) ∧ wRel W S ft := by
  by_cases e : W = S
  · rw [if_pos (by rw [e]), ftl_0] at h
    exact ⟨_, h, Or.inl ⟨e, rfl⟩⟩
  · rw [if_neg (fun q => e ((nI_eq (by omega) (by omega)).mp q))] at h
    exact ⟨_, h, Or.inr ⟨e, rfl⟩⟩
theorem ftl_w {W S : Nat} {ft : Int32} (h : wRel W S ft) (hS : S ≤ 300) : ftl ft (1 + 4 * nI S) = 1 + 4 * nI S := by
  rcases h with ⟨_, h⟩ | ⟨_, h⟩
  · rw [h, ftl_n (fc_ne (by decide) hS)]
  · rw [h, ftl_0]
def cRel (t : Nat → Int32) (n p : Nat) (T L : Nat → Int32) (b : Nat) (ft : Int32) (L' T' : Nat → Int32) : Prop := b ≤ n ∧ ((clP t n p T L = .inl ft ∧ 0 < ft) ∨ (clP t n p T L = .inr (b, T', L') ∧ ft = 0))
section CL
variable {t : Nat → Int32} {n p b : Nat} {T L : Nat → Int32} {m : Nat} {ft r : Int32}
theorem clP_e (h : wd t n (sk t n p) = sk t n p) : clP t n p T L = .inl (1 + 4 * nI (sk t n p)) := by
  unfold clP
  rw [if_neg (fun q => isT_ne (by decide) q h)]
  unfold clC
  rw [if_pos (cl_is (Nat.le_refl 5) (fun j hj q => isT_ne (by omega) q h) (Or.inl rfl))]
theorem clP_w5 (h4 : isT t (sk t n p) (wd t n (sk t n p)) 4) (hm : mkI t (sk t n (wd t n (sk t n p))) (wd t n (sk t n (wd t n (sk t n p)))) = 5) : clP t n p T L = .inl (1 + 4 * nI (sk t n (wd t n (sk t n p)))) := by
  unfold clP
  rw [if_pos h4]
  unfold clW
  rw [if_pos hm]
theorem clP_w3 (h4 : isT t (sk t n p) (wd t n (sk t n p)) 4) (hm : mkI t (sk t n (wd t n (sk t n p))) (wd t n (sk t n (wd t n (sk t n p)))) = m) (h5 : m < 5) (hT : ¬ T m = 0) : clP t n p T L = .inl (3 + 4 * nI (sk t n (wd t n (sk t n p)))) := by
  unfold clP
  rw [if_pos h4]
  unfold clW
  rw [if_neg (by omega), hm, if_pos hT]
theorem clP_wn (h4 : isT t (sk t n p) (wd t n (sk t n p)) 4) (hm : mkI t (sk t n (wd t n (sk t n p))) (wd t n (sk t n (wd t n (sk t n p)))) = m) (h5 : m < 5) (hT : T m = 0) (hN : (pN t n (wd t n (sk t n (wd t n (sk t n p)))) 99 = .inl ft ∧ 0 < ft) ∨ (pN t n (wd t n (sk t n (wd t n (sk t n p)))) 99 = .inr (b, r) ∧ ft = 0)) : (clP t n p T L = .inl ft ∧ 0 < ft) ∨ (clP t n p T L = .inr (b, upd T m 1, upd L m r) ∧ ft = 0) := by
  unfold clP
  rw [if_pos h4]
  unfold clW
  rw [if_neg (by omega), hm, if_neg (fun q => q hT)]
  rcases hN with ⟨h, h2⟩ | ⟨h, h2⟩
  · rw [h]; exact Or.inl ⟨rfl, h2⟩
  · rw [h]; exact Or.inr ⟨rfl, h2⟩
theorem clP_c5 (h4 : ¬ isT t (sk t n p) (wd t n (sk t n p)) 4) (hm : clI t (sk t n p) (wd t n (sk t n p)) = 5) : clP t n p T L = .inl (1 + 4 * nI (sk t n p)) := by
  unfold clP
  rw [if_neg h4]
  unfold clC
  rw [if_pos hm]
theorem clP_c3 (h4 : ¬ isT t (sk t n p) (wd t n (sk t n p)) 4) (hm : clI t (sk t n p) (wd t n (sk t n p)) = m) (h5 : m < 5) (hT : ¬ T (5 + m) = 0) : clP t n p T L = .inl (3 + 4 * nI (sk t n p)) := by
  unfold clP
  rw [if_neg h4]
  unfold clC
  rw [if_neg (by omega), hm, if_pos hT]
theorem clP_g (h4 : ¬ isT t (sk t n p) (wd t n (sk t n p)) 4) (hm : clI t (sk t n p) (wd t n (sk t n p)) = 1) (hT : T (5 + 1) = 0) : clP t n p T L = clG t n (wd t n (sk t n p)) T L := by
  unfold clP
  rw [if_neg h4]
  unfold clC
  rw [if_neg (by omega), hm, if_neg (fun q => q hT), if_pos rfl]
theorem clP_v (h4 : ¬ isT t (sk t n p) (wd t n (sk t n p)) 4) (hm : clI t (sk t n p) (wd t n (sk t n p)) = m) (h5 : m < 5) (h1 : ¬ m = 1) (hT : T (5 + m) = 0) : clP t n p T L = clV t n (wd t n (sk t n p)) (5 + m) T L := by
  unfold clP
  rw [if_neg h4]
  unfold clC
  rw [if_neg (by omega), hm, if_neg (fun q => q hT), if_neg h1]
theorem clV_n {c q : Nat} {g : Int32} (hg : gMx c = g) (h9 : ¬ c = 9) (hN : (pN t n q g = .inl ft ∧ 0 < ft) ∨ (pN t n q g = .inr (b, r) ∧ ft = 0)) : (clV t n q c T L = .inl ft ∧ 0 < ft) ∨ (clV t n q c T L = .inr (b, upd T c 1, upd L c r) ∧ ft = 0) := by
  subst hg
  unfold clV
  rcases hN with ⟨h, h2⟩ | ⟨h, h2⟩
  · rw [h]; exact Or.inl ⟨rfl, h2⟩
  · rw [h]
    refine Or.inr ⟨?_, h2⟩
    show (if c = 9 then _ else _) = _
    rw [if_neg h9]
theorem clV_f {c q : Nat} {g : Int32} (hg : gMx c = g) (hf : ¬ ft = 0) (hN : (pN t n q g = .inl ft ∧ 0 < ft) ∨ (pN t n q g = .inr (b, r) ∧ ft = 0)) : clV t n q c T L = .inl ft ∧ 0 < ft := by
  subst hg
  unfold clV
  rcases hN with ⟨h, h2⟩ | ⟨h, h2⟩
  · rw [h]; exact ⟨rfl, h2⟩
  · exact absurd h2 hf
theorem clV_a {q : Nat} (hN : (pN t n q 1000 = .inl 0 ∧ (0 : Int32) < 0) ∨ (pN t n q 1000 = .inr (b, r) ∧ (0 : Int32) = 0)) : clV t n q 9 T L = clA t n b r T L := by
  unfold clV
  rcases hN with ⟨_, h2⟩ | ⟨h, _⟩
  · exact absurd h2 (by decide)
  · show (match pN t n q 1000 with | .inl e => _ | .inr (q, v) => _) = _
    rw [h]
    rfl
theorem clA_n {q : Nat} {v : Int32} (h : ¬ isT t (sk t n q) (wd t n (sk t n q)) 19) : clA t n q v T L = .inl (1 + 4 * nI (sk t n q)) := by
  unfold clA
  rw [if_neg h]
theorem clA_y {q : Nat} {v : Int32} (h : isT t (sk t n q) (wd t n (sk t n q)) 19) (hN : (pN t n (wd t n (sk t n q)) 5000 = .inl ft ∧ 0 < ft) ∨ (pN t n (wd t n (sk t n q)) 5000 = .inr (b, r) ∧ ft = 0)) : (clA t n q v T L = .inl ft ∧ 0 < ft) ∨ (clA t n q v T L = .inr (b, upd T 9 1, upd (upd L 9 v) 10 r) ∧ ft = 0) := by
  unfold clA
  rw [if_pos h]
  rcases hN with ⟨h, h2⟩ | ⟨h, h2⟩
  · rw [h]; exact Or.inl ⟨rfl, h2⟩
  · rw [h]; exact Or.inr ⟨rfl, h2⟩
end CL

set_option maxHeartbeats 4000000 in
set_option maxRecDepth 100000 in
theorem m_number (l : Launch) (E : hEnv) (σ : hMem) (Z : va_W) (x0 q : Nat) (L : Nat → Int32) (n : Nat) (hn : hI σ 43 31 = nI n) (hn3 : n ≤ 300) (hp : x0 ≤ n) (g : Int32) (hg : ¬ inB 1000000 0 g = true) : hMet l yX12_number cX12_number 4 (some .int) (1, 0, 0, 22) E (pM σ x0 q 0 L) Z [.ref (hO E 43), .int 0, .int g] (hQi E (fun r u => ∃ b a ft, u = (pM σ b a ft L, Z) ∧ nRel (hA σ 43 30 0) n x0 g b ft r)) := by
  refine hMet.of (by decide) (Nat.le_of_ble_eq_true rfl) (fun p e s m below meth c A ls C M hr hlk hl => ?_)
  have hl : lv_has ls 4 [(0, .ref (hO E 43)), (1, .int 0), (2, .int g)] := hl
  generalize s.heap = H at M ⊢
  generalize ([] : List Loc) = locs at M ⊢
  refine lv_aload_n C.1 C.2.1 dX12_number_0 rfl (lv_at hl 0 rfl) ?_
  refine g_getI C M 43 34 (by decide) rfl rfl (by decide) fl12_173 (v := 0) rfl dX12_number_1 ?_
  refine lv_if_le (tgt := 9) C.1 C.2.1 dX12_number_4 (by decide) (fun _ => ?_) (fun h9 => absurd h9 (by decide))
  refine lv_aload_n C.1 C.2.1 dX12_number_9 rfl (lv_at hl 0 rfl) ?_
  refine g_calli M (g_runV (As := []) (rest := []) C M 43 (m_isEnd l E σ Z x0 q 0 L n hn hn3 hp) clX12_isEnd ivX12_isEnd lk12_182 (by decide) rfl rfl ⟨Nat.le_of_ble_eq_true rfl, Nat.le_of_ble_eq_true rfl⟩ hl.1 rfl (Nat.le_of_ble_eq_true rfl) dX12_number_10 ⟨Nat.le_of_ble_eq_true rfl, Nat.le_of_ble_eq_true rfl⟩) (fun r1 u H locs hR M => ?_)
  refine W.widen (k := 0) (n := 0) (Nat.le_of_ble_eq_true rfl) (Nat.le_of_ble_eq_true rfl) ?_
  obtain ⟨rfl, rfl⟩ := hR
  have M : hM E A s H locs (pM σ (sk (hA σ 43 30 0) n x0) (sk (hA σ 43 30 0) n x0) 0 L) Z := M
  refine lv_pop C.1 C.2.1 dX12_number_13 rfl ?_
  refine lv_iconst (v := 0) C.1 C.2.1 dX12_number_14 (by decide) ?_
  refine lv_istore_n (lv' := [(3, .int 0), (0, .ref (hO E 43)), (1, .int 0), (2, .int g)]) C.1 C.2.1 dX12_number_15 rfl hl (by decide) rfl (fun ls hl => ?_)
  have L16 : ∀ (n9 : Nat) (k : Nat), ((sk (hA σ 43 30 0) n x0) + k ≤ n) → (dg (hA σ 43 30 0) n ((sk (hA σ 43 30 0) n x0) + k) = dg (hA σ 43 30 0) n (sk (hA σ 43 30 0) n x0)) → n - ((sk (hA σ 43 30 0) n x0) + k) < n9 → ∀ (H : Heap) (locs : List Loc) (ls : Array Slot), hM E A s H locs (pM σ ((sk (hA σ 43 30 0) n x0) + k) (sk (hA σ 43 30 0) n x0) 0 L) Z → lv_has ls 4 [(3, .int (mV (hA σ 43 30 0) (sk (hA σ 43 30 0) n x0) k)), (0, .ref (hO E 43)), (1, .int 0), (2, .int g)] → W p l e (hRm (1, 0, 0, 22)) s m [.ref (hO E 43), .int 0, .int g].toArray below meth c H locs 0 0 (MQ below (hQi E (fun r u => ∃ b a ft, u = (pM σ b a ft L, Z) ∧ nRel (hA σ 43 30 0) n x0 g b ft r) A) [.ref (hO E 43), .int 0, .int g].toArray s 0 0 A) (F0 m 16 ls []) := by
    intro n9
    induction n9 with
    | zero =>
      intro k hk hs hn9
      exact absurd hn9 (Nat.not_lt_zero _)
    | succ n9 ih16 =>
      intro k hk hs hn16 H locs ls M hl
      refine lv_aload_n C.1 C.2.1 dX12_number_16 rfl (lv_at hl 1 rfl) ?_
      refine g_getI C M 43 32 (by decide) rfl rfl (by decide) fl12_176 (v := nI ((sk (hA σ 43 30 0) n x0) + k)) rfl dX12_number_17 ?_
      refine lv_aload_n C.1 C.2.1 dX12_number_20 rfl (lv_at hl 1 rfl) ?_
      refine g_getI C M 43 31 (by decide) rfl rfl (by decide) fl12_166 (v := nI n) hn dX12_number_21 ?_
      refine lv_icmp_ge (tgt := 104) C.1 C.2.1 dX12_number_24 (by decide) (fun c_24 => ?_) (fun c_24 => ?_)
      · skip
        have hxn : n ≤ (sk (hA σ 43 30 0) n x0) + k := ct_ge c_24
        refine lv_aload_n C.1 C.2.1 dX12_number_104 rfl (lv_at hl 1 rfl) ?_
        refine g_getI C M 43 32 (by decide) rfl rfl (by decide) fl12_176 (v := nI ((sk (hA σ 43 30 0) n x0) + k)) rfl dX12_number_105 ?_
        refine lv_aload_n C.1 C.2.1 dX12_number_108 rfl (lv_at hl 1 rfl) ?_
        refine g_getI C M 43 33 (by decide) rfl rfl (by decide) fl12_179 (v := nI (sk (hA σ 43 30 0) n x0)) rfl dX12_number_109 ?_
        refine lv_icmp_ne (tgt := 127) C.1 C.2.1 dX12_number_112 (by decide) (fun c_112 => ?_) (fun c_112 => ?_)
        · skip
          refine lv_iload_n C.1 C.2.1 dX12_number_127 rfl (lv_at hl 0 rfl) ?_
          refine lv_iload_n C.1 C.2.1 dX12_number_128 rfl (lv_at hl 2 rfl) ?_
          refine lv_iload_n C.1 C.2.1 dX12_number_129 rfl (lv_at hl 3 rfl) ?_
          refine g_calli M (g_runS (As := [.int (mV (hA σ 43 30 0) (sk (hA σ 43 30 0) n x0) k), .int 0, .int g]) (rest := []) C M (m_in l E (pM σ ((sk (hA σ 43 30 0) n x0) + k) (sk (hA σ 43 30 0) n x0) 0 L) Z (mV (hA σ 43 30 0) (sk (hA σ 43 30 0) n x0) k) 0 g) clX12_in stX12_in lk12_131 rfl ⟨Nat.le_of_ble_eq_true rfl, Nat.le_of_ble_eq_true rfl⟩ hl.1 rfl (Nat.le_of_ble_eq_true rfl) dX12_number_130 ⟨Nat.le_of_ble_eq_true rfl, Nat.le_of_ble_eq_true rfl⟩) (fun r2 u H locs hR M => ?_)
          refine W.widen (k := 0) (n := 0) (Nat.le_of_ble_eq_true rfl) (Nat.le_of_ble_eq_true rfl) ?_
          obtain ⟨rfl, rfl⟩ := hR
          have M : hM E A s H locs (pM σ ((sk (hA σ 43 30 0) n x0) + k) (sk (hA σ 43 30 0) n x0) 0 L) Z := M
          refine lv_if_ne (tgt := 145) C.1 C.2.1 dX12_number_133 (by decide) (fun c_133 => ?_) (fun c_133 => ?_)
          · skip
            have c_133 : inB (mV (hA σ 43 30 0) (sk (hA σ 43 30 0) n x0) k) 0 g = true := bz_ne0.mp c_133
            refine lv_iload_n C.1 C.2.1 dX12_number_145 rfl (lv_at hl 0 rfl) ?_
            refine g_iret C M hr hlk ?_ (Nat.le_of_ble_eq_true rfl) (Nat.le_of_ble_eq_true rfl) dX12_number_146
            have hd : dg (hA σ 43 30 0) n (sk (hA σ 43 30 0) n x0) = (sk (hA σ 43 30 0) n x0) + k := hs.symm.trans (scn_n hxn); exact ⟨_, _, _, rfl, nRel_c hg hn3 hk hd c_112 c_133⟩
          · skip
            have c_133 : ¬ inB (mV (hA σ 43 30 0) (sk (hA σ 43 30 0) n x0) k) 0 g = true := bz_0.mp c_133
            refine lv_aload_n C.1 C.2.1 dX12_number_136 rfl (lv_at hl 1 rfl) ?_
            refine lv_iconst (v := 2) C.1 C.2.1 dX12_number_137 (by decide) ?_
            refine lv_aload_n C.1 C.2.1 dX12_number_138 rfl (lv_at hl 1 rfl) ?_
            refine g_getI C M 43 33 (by decide) rfl rfl (by decide) fl12_179 (v := nI (sk (hA σ 43 30 0) n x0)) rfl dX12_number_139 ?_
            refine g_callv M (g_runV (As := [.int 2, .int (nI (sk (hA σ 43 30 0) n x0))]) (rest := []) C M 43 (m_fails l E (pM σ ((sk (hA σ 43 30 0) n x0) + k) (sk (hA σ 43 30 0) n x0) 0 L) Z 2 (nI (sk (hA σ 43 30 0) n x0))) clX12_fails ivX12_fails lk12_185 (by decide) rfl rfl ⟨Nat.le_of_ble_eq_true rfl, Nat.le_of_ble_eq_true rfl⟩ hl.1 rfl (Nat.le_of_ble_eq_true rfl) dX12_number_142 ⟨Nat.le_of_ble_eq_true rfl, Nat.le_of_ble_eq_true rfl⟩) (fun u H locs hR M => ?_)
            refine W.widen (k := 0) (n := 0) (Nat.le_of_ble_eq_true rfl) (Nat.le_of_ble_eq_true rfl) ?_
            rw [pM_fail, ftl_0] at hR
            subst hR
            have M : hM E A s H locs (pM σ ((sk (hA σ 43 30 0) n x0) + k) (sk (hA σ 43 30 0) n x0) (2 + 4 * (nI (sk (hA σ 43 30 0) n x0))) L) Z := M
            refine lv_iload_n C.1 C.2.1 dX12_number_145 rfl (lv_at hl 0 rfl) ?_
            refine g_iret C M hr hlk ?_ (Nat.le_of_ble_eq_true rfl) (Nat.le_of_ble_eq_true rfl) dX12_number_146
            have hd : dg (hA σ 43 30 0) n (sk (hA σ 43 30 0) n x0) = (sk (hA σ 43 30 0) n x0) + k := hs.symm.trans (scn_n hxn); exact ⟨_, _, _, rfl, nRel_b hg hn3 hk hd c_112 c_133⟩
        · skip
          refine lv_aload_n C.1 C.2.1 dX12_number_115 rfl (lv_at hl 1 rfl) ?_
          refine lv_iconst (v := 1) C.1 C.2.1 dX12_number_116 (by decide) ?_
          refine lv_aload_n C.1 C.2.1 dX12_number_117 rfl (lv_at hl 1 rfl) ?_
          refine g_getI C M 43 33 (by decide) rfl rfl (by decide) fl12_179 (v := nI (sk (hA σ 43 30 0) n x0)) rfl dX12_number_118 ?_
          refine g_callv M (g_runV (As := [.int 1, .int (nI (sk (hA σ 43 30 0) n x0))]) (rest := []) C M 43 (m_fails l E (pM σ ((sk (hA σ 43 30 0) n x0) + k) (sk (hA σ 43 30 0) n x0) 0 L) Z 1 (nI (sk (hA σ 43 30 0) n x0))) clX12_fails ivX12_fails lk12_185 (by decide) rfl rfl ⟨Nat.le_of_ble_eq_true rfl, Nat.le_of_ble_eq_true rfl⟩ hl.1 rfl (Nat.le_of_ble_eq_true rfl) dX12_number_121 ⟨Nat.le_of_ble_eq_true rfl, Nat.le_of_ble_eq_true rfl⟩) (fun u H locs hR M => ?_)
          refine W.widen (k := 0) (n := 0) (Nat.le_of_ble_eq_true rfl) (Nat.le_of_ble_eq_true rfl) ?_
          rw [pM_fail, ftl_0] at hR
          subst hR
          have M : hM E A s H locs (pM σ ((sk (hA σ 43 30 0) n x0) + k) (sk (hA σ 43 30 0) n x0) (1 + 4 * (nI (sk (hA σ 43 30 0) n x0))) L) Z := M
          refine lv_goto (tgt := 145) C.1 C.2.1 dX12_number_124 (by decide) ?_
          refine lv_iload_n C.1 C.2.1 dX12_number_145 rfl (lv_at hl 0 rfl) ?_
          refine g_iret C M hr hlk ?_ (Nat.le_of_ble_eq_true rfl) (Nat.le_of_ble_eq_true rfl) dX12_number_146
          have hd : dg (hA σ 43 30 0) n (sk (hA σ 43 30 0) n x0) = (sk (hA σ 43 30 0) n x0) + k := hs.symm.trans (scn_n hxn); exact ⟨_, _, _, rfl, nRel_a hn3 hk hd c_112⟩
      · skip
        have hxn : (sk (hA σ 43 30 0) n x0) + k < n := ct_nge c_24
        refine lv_aload_n C.1 C.2.1 dX12_number_27 rfl (lv_at hl 1 rfl) ?_
        refine g_getA C M 43 30 (by decide) rfl rfl (by decide) fl12_81 dX12_number_28 ?_
        refine lv_aload_n C.1 C.2.1 dX12_number_31 rfl (lv_at hl 1 rfl) ?_
        refine g_getI C M 43 32 (by decide) rfl rfl (by decide) fl12_176 (v := nI ((sk (hA σ 43 30 0) n x0) + k)) rfl dX12_number_32 ?_
        refine g_bald C M 43 30 (by decide) rfl ((sk (hA σ 43 30 0) n x0) + k) (nI_clamp (by omega)) (vp_in_nI (by omega) (by decide)) (v := hA σ 43 30 0 ((sk (hA σ 43 30 0) n x0) + k)) rfl dX12_number_35 ?_
        refine lv_bipush (v := 48) C.1 C.2.1 dX12_number_36 (by decide) ?_
        refine lv_icmp_lt (tgt := 104) C.1 C.2.1 dX12_number_38 (by decide) (fun c_38 => ?_) (fun c_38 => ?_)
        · skip
          refine lv_aload_n C.1 C.2.1 dX12_number_104 rfl (lv_at hl 1 rfl) ?_
          refine g_getI C M 43 32 (by decide) rfl rfl (by decide) fl12_176 (v := nI ((sk (hA σ 43 30 0) n x0) + k)) rfl dX12_number_105 ?_
          refine lv_aload_n C.1 C.2.1 dX12_number_108 rfl (lv_at hl 1 rfl) ?_
          refine g_getI C M 43 33 (by decide) rfl rfl (by decide) fl12_179 (v := nI (sk (hA σ 43 30 0) n x0)) rfl dX12_number_109 ?_
          refine lv_icmp_ne (tgt := 127) C.1 C.2.1 dX12_number_112 (by decide) (fun c_112 => ?_) (fun c_112 => ?_)
          · skip
            refine lv_iload_n C.1 C.2.1 dX12_number_127 rfl (lv_at hl 0 rfl) ?_
            refine lv_iload_n C.1 C.2.1 dX12_number_128 rfl (lv_at hl 2 rfl) ?_
            refine lv_iload_n C.1 C.2.1 dX12_number_129 rfl (lv_at hl 3 rfl) ?_
            refine g_calli M (g_runS (As := [.int (mV (hA σ 43 30 0) (sk (hA σ 43 30 0) n x0) k), .int 0, .int g]) (rest := []) C M (m_in l E (pM σ ((sk (hA σ 43 30 0) n x0) + k) (sk (hA σ 43 30 0) n x0) 0 L) Z (mV (hA σ 43 30 0) (sk (hA σ 43 30 0) n x0) k) 0 g) clX12_in stX12_in lk12_131 rfl ⟨Nat.le_of_ble_eq_true rfl, Nat.le_of_ble_eq_true rfl⟩ hl.1 rfl (Nat.le_of_ble_eq_true rfl) dX12_number_130 ⟨Nat.le_of_ble_eq_true rfl, Nat.le_of_ble_eq_true rfl⟩) (fun r3 u H locs hR M => ?_)
            refine W.widen (k := 0) (n := 0) (Nat.le_of_ble_eq_true rfl) (Nat.le_of_ble_eq_true rfl) ?_
            obtain ⟨rfl, rfl⟩ := hR
            have M : hM E A s H locs (pM σ ((sk (hA σ 43 30 0) n x0) + k) (sk (hA σ 43 30 0) n x0) 0 L) Z := M
            refine lv_if_ne (tgt := 145) C.1 C.2.1 dX12_number_133 (by decide) (fun c_133 => ?_) (fun c_133 => ?_)
            · skip
              have c_133 : inB (mV (hA σ 43 30 0) (sk (hA σ 43 30 0) n x0) k) 0 g = true := bz_ne0.mp c_133
              refine lv_iload_n C.1 C.2.1 dX12_number_145 rfl (lv_at hl 0 rfl) ?_
              refine g_iret C M hr hlk ?_ (Nat.le_of_ble_eq_true rfl) (Nat.le_of_ble_eq_true rfl) dX12_number_146
              have hd : dg (hA σ 43 30 0) n (sk (hA σ 43 30 0) n x0) = (sk (hA σ 43 30 0) n x0) + k := hs.symm.trans (scn_x (P := fun c => inB c 48 57) (fun h9 => (inB_iff.mp h9).1 c_38)); exact ⟨_, _, _, rfl, nRel_c hg hn3 hk hd c_112 c_133⟩
            · skip
              have c_133 : ¬ inB (mV (hA σ 43 30 0) (sk (hA σ 43 30 0) n x0) k) 0 g = true := bz_0.mp c_133
              refine lv_aload_n C.1 C.2.1 dX12_number_136 rfl (lv_at hl 1 rfl) ?_
              refine lv_iconst (v := 2) C.1 C.2.1 dX12_number_137 (by decide) ?_
              refine lv_aload_n C.1 C.2.1 dX12_number_138 rfl (lv_at hl 1 rfl) ?_
              refine g_getI C M 43 33 (by decide) rfl rfl (by decide) fl12_179 (v := nI (sk (hA σ 43 30 0) n x0)) rfl dX12_number_139 ?_
              refine g_callv M (g_runV (As := [.int 2, .int (nI (sk (hA σ 43 30 0) n x0))]) (rest := []) C M 43 (m_fails l E (pM σ ((sk (hA σ 43 30 0) n x0) + k) (sk (hA σ 43 30 0) n x0) 0 L) Z 2 (nI (sk (hA σ 43 30 0) n x0))) clX12_fails ivX12_fails lk12_185 (by decide) rfl rfl ⟨Nat.le_of_ble_eq_true rfl, Nat.le_of_ble_eq_true rfl⟩ hl.1 rfl (Nat.le_of_ble_eq_true rfl) dX12_number_142 ⟨Nat.le_of_ble_eq_true rfl, Nat.le_of_ble_eq_true rfl⟩) (fun u H locs hR M => ?_)
              refine W.widen (k := 0) (n := 0) (Nat.le_of_ble_eq_true rfl) (Nat.le_of_ble_eq_true rfl) ?_
              rw [pM_fail, ftl_0] at hR
              subst hR
              have M : hM E A s H locs (pM σ ((sk (hA σ 43 30 0) n x0) + k) (sk (hA σ 43 30 0) n x0) (2 + 4 * (nI (sk (hA σ 43 30 0) n x0))) L) Z := M
              refine lv_iload_n C.1 C.2.1 dX12_number_145 rfl (lv_at hl 0 rfl) ?_
              refine g_iret C M hr hlk ?_ (Nat.le_of_ble_eq_true rfl) (Nat.le_of_ble_eq_true rfl) dX12_number_146
              have hd : dg (hA σ 43 30 0) n (sk (hA σ 43 30 0) n x0) = (sk (hA σ 43 30 0) n x0) + k := hs.symm.trans (scn_x (P := fun c => inB c 48 57) (fun h9 => (inB_iff.mp h9).1 c_38)); exact ⟨_, _, _, rfl, nRel_b hg hn3 hk hd c_112 c_133⟩
          · skip
            refine lv_aload_n C.1 C.2.1 dX12_number_115 rfl (lv_at hl 1 rfl) ?_
            refine lv_iconst (v := 1) C.1 C.2.1 dX12_number_116 (by decide) ?_
            refine lv_aload_n C.1 C.2.1 dX12_number_117 rfl (lv_at hl 1 rfl) ?_
            refine g_getI C M 43 33 (by decide) rfl rfl (by decide) fl12_179 (v := nI (sk (hA σ 43 30 0) n x0)) rfl dX12_number_118 ?_
            refine g_callv M (g_runV (As := [.int 1, .int (nI (sk (hA σ 43 30 0) n x0))]) (rest := []) C M 43 (m_fails l E (pM σ ((sk (hA σ 43 30 0) n x0) + k) (sk (hA σ 43 30 0) n x0) 0 L) Z 1 (nI (sk (hA σ 43 30 0) n x0))) clX12_fails ivX12_fails lk12_185 (by decide) rfl rfl ⟨Nat.le_of_ble_eq_true rfl, Nat.le_of_ble_eq_true rfl⟩ hl.1 rfl (Nat.le_of_ble_eq_true rfl) dX12_number_121 ⟨Nat.le_of_ble_eq_true rfl, Nat.le_of_ble_eq_true rfl⟩) (fun u H locs hR M => ?_)
            refine W.widen (k := 0) (n := 0) (Nat.le_of_ble_eq_true rfl) (Nat.le_of_ble_eq_true rfl) ?_
            rw [pM_fail, ftl_0] at hR
            subst hR
            have M : hM E A s H locs (pM σ ((sk (hA σ 43 30 0) n x0) + k) (sk (hA σ 43 30 0) n x0) (1 + 4 * (nI (sk (hA σ 43 30 0) n x0))) L) Z := M
            refine lv_goto (tgt := 145) C.1 C.2.1 dX12_number_124 (by decide) ?_
            refine lv_iload_n C.1 C.2.1 dX12_number_145 rfl (lv_at hl 0 rfl) ?_
            refine g_iret C M hr hlk ?_ (Nat.le_of_ble_eq_true rfl) (Nat.le_of_ble_eq_true rfl) dX12_number_146
            have hd : dg (hA σ 43 30 0) n (sk (hA σ 43 30 0) n x0) = (sk (hA σ 43 30 0) n x0) + k := hs.symm.trans (scn_x (P := fun c => inB c 48 57) (fun h9 => (inB_iff.mp h9).1 c_38)); exact ⟨_, _, _, rfl, nRel_a hn3 hk hd c_112⟩
        · skip
          refine lv_aload_n C.1 C.2.1 dX12_number_41 rfl (lv_at hl 1 rfl) ?_
          refine g_getA C M 43 30 (by decide) rfl rfl (by decide) fl12_81 dX12_number_42 ?_
          refine lv_aload_n C.1 C.2.1 dX12_number_45 rfl (lv_at hl 1 rfl) ?_
          refine g_getI C M 43 32 (by decide) rfl rfl (by decide) fl12_176 (v := nI ((sk (hA σ 43 30 0) n x0) + k)) rfl dX12_number_46 ?_
          refine g_bald C M 43 30 (by decide) rfl ((sk (hA σ 43 30 0) n x0) + k) (nI_clamp (by omega)) (vp_in_nI (by omega) (by decide)) (v := hA σ 43 30 0 ((sk (hA σ 43 30 0) n x0) + k)) rfl dX12_number_49 ?_
          refine lv_bipush (v := 57) C.1 C.2.1 dX12_number_50 (by decide) ?_
          refine lv_icmp_gt (tgt := 104) C.1 C.2.1 dX12_number_52 (by decide) (fun c_52 => ?_) (fun c_52 => ?_)
          · skip
            refine lv_aload_n C.1 C.2.1 dX12_number_104 rfl (lv_at hl 1 rfl) ?_
            refine g_getI C M 43 32 (by decide) rfl rfl (by decide) fl12_176 (v := nI ((sk (hA σ 43 30 0) n x0) + k)) rfl dX12_number_105 ?_
            refine lv_aload_n C.1 C.2.1 dX12_number_108 rfl (lv_at hl 1 rfl) ?_
            refine g_getI C M 43 33 (by decide) rfl rfl (by decide) fl12_179 (v := nI (sk (hA σ 43 30 0) n x0)) rfl dX12_number_109 ?_
            refine lv_icmp_ne (tgt := 127) C.1 C.2.1 dX12_number_112 (by decide) (fun c_112 => ?_) (fun c_112 => ?_)
            · skip
              refine lv_iload_n C.1 C.2.1 dX12_number_127 rfl (lv_at hl 0 rfl) ?_
              refine lv_iload_n C.1 C.2.1 dX12_number_128 rfl (lv_at hl 2 rfl) ?_
              refine lv_iload_n C.1 C.2.1 dX12_number_129 rfl (lv_at hl 3 rfl) ?_
              refine g_calli M (g_runS (As := [.int (mV (hA σ 43 30 0) (sk (hA σ 43 30 0) n x0) k), .int 0, .int g]) (rest := []) C M (m_in l E (pM σ ((sk (hA σ 43 30 0) n x0) + k) (sk (hA σ 43 30 0) n x0) 0 L) Z (mV (hA σ 43 30 0) (sk (hA σ 43 30 0) n x0) k) 0 g) clX12_in stX12_in lk12_131 rfl ⟨Nat.le_of_ble_eq_true rfl, Nat.le_of_ble_eq_true rfl⟩ hl.1 rfl (Nat.le_of_ble_eq_true rfl) dX12_number_130 ⟨Nat.le_of_ble_eq_true rfl, Nat.le_of_ble_eq_true rfl⟩) (fun r4 u H locs hR M => ?_)
              refine W.widen (k := 0) (n := 0) (Nat.le_of_ble_eq_true rfl) (Nat.le_of_ble_eq_true rfl) ?_
              obtain ⟨rfl, rfl⟩ := hR
              have M : hM E A s H locs (pM σ ((sk (hA σ 43 30 0) n x0) + k) (sk (hA σ 43 30 0) n x0) 0 L) Z := M
              refine lv_if_ne (tgt := 145) C.1 C.2.1 dX12_number_133 (by decide) (fun c_133 => ?_) (fun c_133 => ?_)
              · skip
                have c_133 : inB (mV (hA σ 43 30 0) (sk (hA σ 43 30 0) n x0) k) 0 g = true := bz_ne0.mp c_133
                refine lv_iload_n C.1 C.2.1 dX12_number_145 rfl (lv_at hl 0 rfl) ?_
                refine g_iret C M hr hlk ?_ (Nat.le_of_ble_eq_true rfl) (Nat.le_of_ble_eq_true rfl) dX12_number_146
                have hd : dg (hA σ 43 30 0) n (sk (hA σ 43 30 0) n x0) = (sk (hA σ 43 30 0) n x0) + k := hs.symm.trans (scn_x (P := fun c => inB c 48 57) (fun h9 => (inB_iff.mp h9).2 c_52)); exact ⟨_, _, _, rfl, nRel_c hg hn3 hk hd c_112 c_133⟩
              · skip
                have c_133 : ¬ inB (mV (hA σ 43 30 0) (sk (hA σ 43 30 0) n x0) k) 0 g = true := bz_0.mp c_133
                refine lv_aload_n C.1 C.2.1 dX12_number_136 rfl (lv_at hl 1 rfl) ?_
                refine lv_iconst (v := 2) C.1 C.2.1 dX12_number_137 (by decide) ?_
                refine lv_aload_n C.1 C.2.1 dX12_number_138 rfl (lv_at hl 1 rfl) ?_
                refine g_getI C M 43 33 (by decide) rfl rfl (by decide) fl12_179 (v := nI (sk (hA σ 43 30 0) n x0)) rfl dX12_number_139 ?_
                refine g_callv M (g_runV (As := [.int 2, .int (nI (sk (hA σ 43 30 0) n x0))]) (rest := []) C M 43 (m_fails l E (pM σ ((sk (hA σ 43 30 0) n x0) + k) (sk (hA σ 43 30 0) n x0) 0 L) Z 2 (nI (sk (hA σ 43 30 0) n x0))) clX12_fails ivX12_fails lk12_185 (by decide) rfl rfl ⟨Nat.le_of_ble_eq_true rfl, Nat.le_of_ble_eq_true rfl⟩ hl.1 rfl (Nat.le_of_ble_eq_true rfl) dX12_number_142 ⟨Nat.le_of_ble_eq_true rfl, Nat.le_of_ble_eq_true rfl⟩) (fun u H locs hR M => ?_)
                refine W.widen (k := 0) (n := 0) (Nat.le_of_ble_eq_true rfl) (Nat.le_of_ble_eq_true rfl) ?_
                rw [pM_fail, ftl_0] at hR
                subst hR
                have M : hM E A s H locs (pM σ ((sk (hA σ 43 30 0) n x0) + k) (sk (hA σ 43 30 0) n x0) (2 + 4 * (nI (sk (hA σ 43 30 0) n x0))) L) Z := M
                refine lv_iload_n C.1 C.2.1 dX12_number_145 rfl (lv_at hl 0 rfl) ?_
                refine g_iret C M hr hlk ?_ (Nat.le_of_ble_eq_true rfl) (Nat.le_of_ble_eq_true rfl) dX12_number_146
                have hd : dg (hA σ 43 30 0) n (sk (hA σ 43 30 0) n x0) = (sk (hA σ 43 30 0) n x0) + k := hs.symm.trans (scn_x (P := fun c => inB c 48 57) (fun h9 => (inB_iff.mp h9).2 c_52)); exact ⟨_, _, _, rfl, nRel_b hg hn3 hk hd c_112 c_133⟩
            · skip
              refine lv_aload_n C.1 C.2.1 dX12_number_115 rfl (lv_at hl 1 rfl) ?_
              refine lv_iconst (v := 1) C.1 C.2.1 dX12_number_116 (by decide) ?_
              refine lv_aload_n C.1 C.2.1 dX12_number_117 rfl (lv_at hl 1 rfl) ?_
              refine g_getI C M 43 33 (by decide) rfl rfl (by decide) fl12_179 (v := nI (sk (hA σ 43 30 0) n x0)) rfl dX12_number_118 ?_
              refine g_callv M (g_runV (As := [.int 1, .int (nI (sk (hA σ 43 30 0) n x0))]) (rest := []) C M 43 (m_fails l E (pM σ ((sk (hA σ 43 30 0) n x0) + k) (sk (hA σ 43 30 0) n x0) 0 L) Z 1 (nI (sk (hA σ 43 30 0) n x0))) clX12_fails ivX12_fails lk12_185 (by decide) rfl rfl ⟨Nat.le_of_ble_eq_true rfl, Nat.le_of_ble_eq_true rfl⟩ hl.1 rfl (Nat.le_of_ble_eq_true rfl) dX12_number_121 ⟨Nat.le_of_ble_eq_true rfl, Nat.le_of_ble_eq_true rfl⟩) (fun u H locs hR M => ?_)
              refine W.widen (k := 0) (n := 0) (Nat.le_of_ble_eq_true rfl) (Nat.le_of_ble_eq_true rfl) ?_
              rw [pM_fail, ftl_0] at hR
              subst hR
              have M : hM E A s H locs (pM σ ((sk (hA σ 43 30 0) n x0) + k) (sk (hA σ 43 30 0) n x0) (1 + 4 * (nI (sk (hA σ 43 30 0) n x0))) L) Z := M
              refine lv_goto (tgt := 145) C.1 C.2.1 dX12_number_124 (by decide) ?_
              refine lv_iload_n C.1 C.2.1 dX12_number_145 rfl (lv_at hl 0 rfl) ?_
              refine g_iret C M hr hlk ?_ (Nat.le_of_ble_eq_true rfl) (Nat.le_of_ble_eq_true rfl) dX12_number_146
              have hd : dg (hA σ 43 30 0) n (sk (hA σ 43 30 0) n x0) = (sk (hA σ 43 30 0) n x0) + k := hs.symm.trans (scn_x (P := fun c => inB c 48 57) (fun h9 => (inB_iff.mp h9).2 c_52)); exact ⟨_, _, _, rfl, nRel_a hn3 hk hd c_112⟩
          · skip
            refine lv_aload_n C.1 C.2.1 dX12_number_55 rfl (lv_at hl 1 rfl) ?_
            refine g_getI C M 43 32 (by decide) rfl rfl (by decide) fl12_176 (v := nI ((sk (hA σ 43 30 0) n x0) + k)) rfl dX12_number_56 ?_
            refine lv_aload_n C.1 C.2.1 dX12_number_59 rfl (lv_at hl 1 rfl) ?_
            refine g_getI C M 43 33 (by decide) rfl rfl (by decide) fl12_179 (v := nI (sk (hA σ 43 30 0) n x0)) rfl dX12_number_60 ?_
            refine lv_isub C.1 C.2.1 dX12_number_63 ?_
            refine g_rei (v := nI k) (nI_subS _ _) ?_
            refine lv_iconst (v := 4) C.1 C.2.1 dX12_number_64 (by decide) ?_
            refine lv_icmp_ge (tgt := 88) C.1 C.2.1 dX12_number_65 (by decide) (fun c_65 => ?_) (fun c_65 => ?_)
            · skip
              have hk4 : ¬ k < 4 := by have := (nI_le9 (a := 4) (c := k) (by omega) (by omega)).mp c_65; omega
              refine lv_ldc (v := 1000000) C.1 C.2.1 C.2.2.2.1 (C.2.2.2.2.1.1.use kc12_155 rfl) dX12_number_88 ?_
              refine lv_istore_n (lv' := [(3, .int 1000000), (0, .ref (hO E 43)), (1, .int 0), (2, .int g)]) C.1 C.2.1 dX12_number_90 rfl hl (by decide) rfl (fun ls hl => ?_)
              refine lv_aload_n C.1 C.2.1 dX12_number_91 rfl (lv_at hl 1 rfl) ?_
              refine lv_dup C.1 C.2.1 dX12_number_92 rfl ?_
              refine g_getI C M 43 32 (by decide) rfl rfl (by decide) fl12_176 (v := nI ((sk (hA σ 43 30 0) n x0) + k)) rfl dX12_number_93 ?_
              refine lv_iconst (v := 1) C.1 C.2.1 dX12_number_96 (by decide) ?_
              refine lv_iadd C.1 C.2.1 dX12_number_97 ?_
              refine g_rei (v := nI (((sk (hA σ 43 30 0) n x0) + k) + 1)) (nI_1 _) ?_
              refine g_putI C M 43 32 (by decide) rfl rfl (by decide) fl12_176 rfl rfl dX12_number_98 (fun H locs M => ?_)
              rw [pM_b] at M
              refine lv_goto (tgt := 16) C.1 C.2.1 dX12_number_101 (by decide) ?_
              have q5 : 1000000 = mV (hA σ 43 30 0) (sk (hA σ 43 30 0) n x0) (k + 1) := by first | rfl | (show _ = mV _ _ (k + 1); rw [mV]; first | rw [if_pos hk4] | rw [if_neg hk4])
              have hl : lv_has ls 4 [(3, .int (mV (hA σ 43 30 0) (sk (hA σ 43 30 0) n x0) (k + 1))), (0, .ref (hO E 43)), (1, .int 0), (2, .int g)] := by
                rw [← q5]
                exact lv_sub hl [0, 1, 2, 3] rfl
              have q6 : (pM σ (((sk (hA σ 43 30 0) n x0) + k) + 1) (sk (hA σ 43 30 0) n x0) 0 L) = (pM σ ((sk (hA σ 43 30 0) n x0) + (k + 1)) (sk (hA σ 43 30 0) n x0) 0 L) := by rfl
              rw [q6] at M
              exact ih16 (k + 1) hxn ((scn_s (P := fun c => inB c 48 57) hxn (inB_iff.mpr ⟨c_38, c_52⟩)).trans hs) (by omega) _ _ _ M hl
            · skip
              have hk4 : k < 4 := Nat.not_le.mp (fun h9 => c_65 ((nI_le9 (a := 4) (c := k) (by omega) (by omega)).mpr h9))
              refine lv_bipush (v := 10) C.1 C.2.1 dX12_number_68 (by decide) ?_
              refine lv_iload_n C.1 C.2.1 dX12_number_70 rfl (lv_at hl 0 rfl) ?_
              refine lv_imul C.1 C.2.1 dX12_number_71 ?_
              refine lv_aload_n C.1 C.2.1 dX12_number_72 rfl (lv_at hl 1 rfl) ?_
              refine g_getA C M 43 30 (by decide) rfl rfl (by decide) fl12_81 dX12_number_73 ?_
              refine lv_aload_n C.1 C.2.1 dX12_number_76 rfl (lv_at hl 1 rfl) ?_
              refine g_getI C M 43 32 (by decide) rfl rfl (by decide) fl12_176 (v := nI ((sk (hA σ 43 30 0) n x0) + k)) rfl dX12_number_77 ?_
              refine g_bald C M 43 30 (by decide) rfl ((sk (hA σ 43 30 0) n x0) + k) (nI_clamp (by omega)) (vp_in_nI (by omega) (by decide)) (v := hA σ 43 30 0 ((sk (hA σ 43 30 0) n x0) + k)) rfl dX12_number_80 ?_
              refine lv_iadd C.1 C.2.1 dX12_number_81 ?_
              refine lv_bipush (v := 48) C.1 C.2.1 dX12_number_82 (by decide) ?_
              refine lv_isub C.1 C.2.1 dX12_number_84 ?_
              refine lv_goto (tgt := 90) C.1 C.2.1 dX12_number_85 (by decide) ?_
              refine lv_istore_n (lv' := [(3, .int (((10 * (mV (hA σ 43 30 0) (sk (hA σ 43 30 0) n x0) k)) + (hA σ 43 30 0 ((sk (hA σ 43 30 0) n x0) + k))) - 48)), (0, .ref (hO E 43)), (1, .int 0), (2, .int g)]) C.1 C.2.1 dX12_number_90 rfl hl (by decide) rfl (fun ls hl => ?_)
              refine lv_aload_n C.1 C.2.1 dX12_number_91 rfl (lv_at hl 1 rfl) ?_
              refine lv_dup C.1 C.2.1 dX12_number_92 rfl ?_
              refine g_getI C M 43 32 (by decide) rfl rfl (by decide) fl12_176 (v := nI ((sk (hA σ 43 30 0) n x0) + k)) rfl dX12_number_93 ?_
              refine lv_iconst (v := 1) C.1 C.2.1 dX12_number_96 (by decide) ?_
              refine lv_iadd C.1 C.2.1 dX12_number_97 ?_
              refine g_rei (v := nI (((sk (hA σ 43 30 0) n x0) + k) + 1)) (nI_1 _) ?_
              refine g_putI C M 43 32 (by decide) rfl rfl (by decide) fl12_176 rfl rfl dX12_number_98 (fun H locs M => ?_)
              rw [pM_b] at M
              refine lv_goto (tgt := 16) C.1 C.2.1 dX12_number_101 (by decide) ?_
              have q7 : ((10 * (mV (hA σ 43 30 0) (sk (hA σ 43 30 0) n x0) k)) + (hA σ 43 30 0 ((sk (hA σ 43 30 0) n x0) + k))) - 48 = mV (hA σ 43 30 0) (sk (hA σ 43 30 0) n x0) (k + 1) := by first | rfl | (show _ = mV _ _ (k + 1); rw [mV]; first | rw [if_pos hk4] | rw [if_neg hk4])
              have hl : lv_has ls 4 [(3, .int (mV (hA σ 43 30 0) (sk (hA σ 43 30 0) n x0) (k + 1))), (0, .ref (hO E 43)), (1, .int 0), (2, .int g)] := by
                rw [← q7]
                exact lv_sub hl [0, 1, 2, 3] rfl
              have q8 : (pM σ (((sk (hA σ 43 30 0) n x0) + k) + 1) (sk (hA σ 43 30 0) n x0) 0 L) = (pM σ ((sk (hA σ 43 30 0) n x0) + (k + 1)) (sk (hA σ 43 30 0) n x0) 0 L) := by rfl
              rw [q8] at M
              exact ih16 (k + 1) hxn ((scn_s (P := fun c => inB c 48 57) hxn (inB_iff.mpr ⟨c_38, c_52⟩)).trans hs) (by omega) _ _ _ M hl
  have q9 : 0 = mV (hA σ 43 30 0) (sk (hA σ 43 30 0) n x0) 0 := by first | rfl | (show _ = mV _ _ (k + 1); rw [mV]; first | rw [if_pos hk4] | rw [if_neg hk4])
  have hl : lv_has ls 4 [(3, .int (mV (hA σ 43 30 0) (sk (hA σ 43 30 0) n x0) 0)), (0, .ref (hO E 43)), (1, .int 0), (2, .int g)] := by
    rw [← q9]
    exact lv_sub hl [0, 1, 2, 3] rfl
  have q10 : (pM σ (sk (hA σ 43 30 0) n x0) (sk (hA σ 43 30 0) n x0) 0 L) = (pM σ ((sk (hA σ 43 30 0) n x0) + 0) (sk (hA σ 43 30 0) n x0) 0 L) := by rfl
  rw [q10] at M
  exact L16 ((n - ((sk (hA σ 43 30 0) n x0) + 0)) + 1) 0 (scn_le hp) rfl (Nat.lt_succ_self _) _ _ _ M hl

set_option maxHeartbeats 4000000 in
set_option maxRecDepth 100000 in
theorem m_number1 (l : Launch) (E : hEnv) (σ : hMem) (Z : va_W) (x0 q : Nat) (ft : Int32) (L : Nat → Int32) (hft : 0 < ft) (g : Int32) : hMet l yX12_number cX12_number 4 (some .int) (0, 0, 0, 0) E (pM σ x0 q ft L) Z [.ref (hO E 43), .int 0, .int g] (hQi E (fun r u => r = 0 ∧ u = (pM σ x0 q ft L, Z))) := by
  refine hMet.of (by decide) (Nat.le_of_ble_eq_true rfl) (fun p e s m below meth c A ls C M hr hlk hl => ?_)
  have hl : lv_has ls 4 [(0, .ref (hO E 43)), (1, .int 0), (2, .int g)] := hl
  generalize s.heap = H at M ⊢
  generalize ([] : List Loc) = locs at M ⊢
  refine lv_aload_n C.1 C.2.1 dX12_number_0 rfl (lv_at hl 0 rfl) ?_
  refine g_getI C M 43 34 (by decide) rfl rfl (by decide) fl12_173 (v := ft) rfl dX12_number_1 ?_
  refine lv_if_le (tgt := 9) C.1 C.2.1 dX12_number_4 (by decide) (fun c_4 => ?_) (fun c_4 => ?_)
  · skip
    exact absurd hft (Int32.not_lt.mpr c_4)
  · skip
    refine lv_iconst (v := 0) C.1 C.2.1 dX12_number_7 (by decide) ?_
    refine g_iret C M hr hlk ?_ (Nat.le_of_ble_eq_true rfl) (Nat.le_of_ble_eq_true rfl) dX12_number_8
    exact ⟨rfl, rfl⟩

set_option maxHeartbeats 4000000 in
set_option maxRecDepth 100000 in
theorem m_mark0 (l : Launch) (E : hEnv) (σ : hMem) (Z : va_W) : hMet l yX12_markOf cX12_markOf 2 (some (.object "java/lang/String")) (0, 0, 0, 0) E σ Z [.ref (hO E 43), .int 0] (hQr E (fun r u => r = E.2.2.2.1 5 ∧ u = (σ, Z))) := by
  refine hMet.of (by decide) (Nat.le_of_ble_eq_true rfl) (fun p e s m below meth c A ls C M hr hlk hl => ?_)
  have hl : lv_has ls 2 [(0, .ref (hO E 43)), (1, .int 0)] := hl
  generalize s.heap = H at M ⊢
  generalize ([] : List Loc) = locs at M ⊢
  refine lv_iload_n C.1 C.2.1 dX12_markOf_0 rfl (lv_at hl 1 rfl) ?_
  refine lv_if_ne (tgt := 9) C.1 C.2.1 dX12_markOf_1 (by decide) (fun h9 => absurd h9 (by decide)) (fun _ => ?_)
  refine va_ldcS C.1 C.2.1 C.2.2.2.1 (C.2.2.2.2.2.2.1 5 _ rfl) dX12_markOf_4 ?_
  refine lv_goto (tgt := 41) C.1 C.2.1 dX12_markOf_6 (by decide) ?_
  refine g_rret C M hr hlk ?_ (Nat.le_of_ble_eq_true rfl) (Nat.le_of_ble_eq_true rfl) dX12_markOf_41
  exact ⟨rfl, rfl⟩

set_option maxHeartbeats 4000000 in
set_option maxRecDepth 100000 in
theorem m_mark1 (l : Launch) (E : hEnv) (σ : hMem) (Z : va_W) : hMet l yX12_markOf cX12_markOf 2 (some (.object "java/lang/String")) (0, 0, 0, 0) E σ Z [.ref (hO E 43), .int 1] (hQr E (fun r u => r = E.2.2.2.1 6 ∧ u = (σ, Z))) := by
  refine hMet.of (by decide) (Nat.le_of_ble_eq_true rfl) (fun p e s m below meth c A ls C M hr hlk hl => ?_)
  have hl : lv_has ls 2 [(0, .ref (hO E 43)), (1, .int 1)] := hl
  generalize s.heap = H at M ⊢
  generalize ([] : List Loc) = locs at M ⊢
  refine lv_iload_n C.1 C.2.1 dX12_markOf_0 rfl (lv_at hl 1 rfl) ?_
  refine lv_if_ne (tgt := 9) C.1 C.2.1 dX12_markOf_1 (by decide) (fun _ => ?_) (fun h9 => absurd h9 (by decide))
  refine lv_iload_n C.1 C.2.1 dX12_markOf_9 rfl (lv_at hl 1 rfl) ?_
  refine lv_iconst (v := 1) C.1 C.2.1 dX12_markOf_10 (by decide) ?_
  refine lv_icmp_ne (tgt := 19) C.1 C.2.1 dX12_markOf_11 (by decide) (fun h9 => absurd h9 (by decide)) (fun _ => ?_)
  refine va_ldcS C.1 C.2.1 C.2.2.2.1 (C.2.2.2.2.2.2.1 6 _ rfl) dX12_markOf_14 ?_
  refine lv_goto (tgt := 41) C.1 C.2.1 dX12_markOf_16 (by decide) ?_
  refine g_rret C M hr hlk ?_ (Nat.le_of_ble_eq_true rfl) (Nat.le_of_ble_eq_true rfl) dX12_markOf_41
  exact ⟨rfl, rfl⟩

set_option maxHeartbeats 4000000 in
set_option maxRecDepth 100000 in
theorem m_mark2 (l : Launch) (E : hEnv) (σ : hMem) (Z : va_W) : hMet l yX12_markOf cX12_markOf 2 (some (.object "java/lang/String")) (0, 0, 0, 0) E σ Z [.ref (hO E 43), .int 2] (hQr E (fun r u => r = E.2.2.2.1 7 ∧ u = (σ, Z))) := by
  refine hMet.of (by decide) (Nat.le_of_ble_eq_true rfl) (fun p e s m below meth c A ls C M hr hlk hl => ?_)
  have hl : lv_has ls 2 [(0, .ref (hO E 43)), (1, .int 2)] := hl
  generalize s.heap = H at M ⊢
  generalize ([] : List Loc) = locs at M ⊢
  refine lv_iload_n C.1 C.2.1 dX12_markOf_0 rfl (lv_at hl 1 rfl) ?_
  refine lv_if_ne (tgt := 9) C.1 C.2.1 dX12_markOf_1 (by decide) (fun _ => ?_) (fun h9 => absurd h9 (by decide))
  refine lv_iload_n C.1 C.2.1 dX12_markOf_9 rfl (lv_at hl 1 rfl) ?_
  refine lv_iconst (v := 1) C.1 C.2.1 dX12_markOf_10 (by decide) ?_
  refine lv_icmp_ne (tgt := 19) C.1 C.2.1 dX12_markOf_11 (by decide) (fun _ => ?_) (fun h9 => absurd h9 (by decide))
  refine lv_iload_n C.1 C.2.1 dX12_markOf_19 rfl (lv_at hl 1 rfl) ?_
  refine lv_iconst (v := 2) C.1 C.2.1 dX12_markOf_20 (by decide) ?_
  refine lv_icmp_ne (tgt := 29) C.1 C.2.1 dX12_markOf_21 (by decide) (fun h9 => absurd h9 (by decide)) (fun _ => ?_)
  refine va_ldcS C.1 C.2.1 C.2.2.2.1 (C.2.2.2.2.2.2.1 7 _ rfl) dX12_markOf_24 ?_
  refine lv_goto (tgt := 41) C.1 C.2.1 dX12_markOf_26 (by decide) ?_
  refine g_rret C M hr hlk ?_ (Nat.le_of_ble_eq_true rfl) (Nat.le_of_ble_eq_true rfl) dX12_markOf_41
  exact ⟨rfl, rfl⟩

set_option maxHeartbeats 4000000 in
set_option maxRecDepth 100000 in
theorem m_mark3 (l : Launch) (E : hEnv) (σ : hMem) (Z : va_W) : hMet l yX12_markOf cX12_markOf 2 (some (.object "java/lang/String")) (0, 0, 0, 0) E σ Z [.ref (hO E 43), .int 3] (hQr E (fun r u => r = E.2.2.2.1 8 ∧ u = (σ, Z))) := by
  refine hMet.of (by decide) (Nat.le_of_ble_eq_true rfl) (fun p e s m below meth c A ls C M hr hlk hl => ?_)
  have hl : lv_has ls 2 [(0, .ref (hO E 43)), (1, .int 3)] := hl
  generalize s.heap = H at M ⊢
  generalize ([] : List Loc) = locs at M ⊢
  refine lv_iload_n C.1 C.2.1 dX12_markOf_0 rfl (lv_at hl 1 rfl) ?_
  refine lv_if_ne (tgt := 9) C.1 C.2.1 dX12_markOf_1 (by decide) (fun _ => ?_) (fun h9 => absurd h9 (by decide))
  refine lv_iload_n C.1 C.2.1 dX12_markOf_9 rfl (lv_at hl 1 rfl) ?_
  refine lv_iconst (v := 1) C.1 C.2.1 dX12_markOf_10 (by decide) ?_
  refine lv_icmp_ne (tgt := 19) C.1 C.2.1 dX12_markOf_11 (by decide) (fun _ => ?_) (fun h9 => absurd h9 (by decide))
  refine lv_iload_n C.1 C.2.1 dX12_markOf_19 rfl (lv_at hl 1 rfl) ?_
  refine lv_iconst (v := 2) C.1 C.2.1 dX12_markOf_20 (by decide) ?_
  refine lv_icmp_ne (tgt := 29) C.1 C.2.1 dX12_markOf_21 (by decide) (fun _ => ?_) (fun h9 => absurd h9 (by decide))
  refine lv_iload_n C.1 C.2.1 dX12_markOf_29 rfl (lv_at hl 1 rfl) ?_
  refine lv_iconst (v := 3) C.1 C.2.1 dX12_markOf_30 (by decide) ?_
  refine lv_icmp_ne (tgt := 39) C.1 C.2.1 dX12_markOf_31 (by decide) (fun h9 => absurd h9 (by decide)) (fun _ => ?_)
  refine va_ldcS C.1 C.2.1 C.2.2.2.1 (C.2.2.2.2.2.2.1 8 _ rfl) dX12_markOf_34 ?_
  refine lv_goto (tgt := 41) C.1 C.2.1 dX12_markOf_36 (by decide) ?_
  refine g_rret C M hr hlk ?_ (Nat.le_of_ble_eq_true rfl) (Nat.le_of_ble_eq_true rfl) dX12_markOf_41
  exact ⟨rfl, rfl⟩

set_option maxHeartbeats 4000000 in
set_option maxRecDepth 100000 in
theorem m_mark4 (l : Launch) (E : hEnv) (σ : hMem) (Z : va_W) : hMet l yX12_markOf cX12_markOf 2 (some (.object "java/lang/String")) (0, 0, 0, 0) E σ Z [.ref (hO E 43), .int 4] (hQr E (fun r u => r = E.2.2.2.1 9 ∧ u = (σ, Z))) := by
  refine hMet.of (by decide) (Nat.le_of_ble_eq_true rfl) (fun p e s m below meth c A ls C M hr hlk hl => ?_)
  have hl : lv_has ls 2 [(0, .ref (hO E 43)), (1, .int 4)] := hl
  generalize s.heap = H at M ⊢
  generalize ([] : List Loc) = locs at M ⊢
  refine lv_iload_n C.1 C.2.1 dX12_markOf_0 rfl (lv_at hl 1 rfl) ?_
  refine lv_if_ne (tgt := 9) C.1 C.2.1 dX12_markOf_1 (by decide) (fun _ => ?_) (fun h9 => absurd h9 (by decide))
  refine lv_iload_n C.1 C.2.1 dX12_markOf_9 rfl (lv_at hl 1 rfl) ?_
  refine lv_iconst (v := 1) C.1 C.2.1 dX12_markOf_10 (by decide) ?_
  refine lv_icmp_ne (tgt := 19) C.1 C.2.1 dX12_markOf_11 (by decide) (fun _ => ?_) (fun h9 => absurd h9 (by decide))
  refine lv_iload_n C.1 C.2.1 dX12_markOf_19 rfl (lv_at hl 1 rfl) ?_
  refine lv_iconst (v := 2) C.1 C.2.1 dX12_markOf_20 (by decide) ?_
  refine lv_icmp_ne (tgt := 29) C.1 C.2.1 dX12_markOf_21 (by decide) (fun _ => ?_) (fun h9 => absurd h9 (by decide))
  refine lv_iload_n C.1 C.2.1 dX12_markOf_29 rfl (lv_at hl 1 rfl) ?_
  refine lv_iconst (v := 3) C.1 C.2.1 dX12_markOf_30 (by decide) ?_
  refine lv_icmp_ne (tgt := 39) C.1 C.2.1 dX12_markOf_31 (by decide) (fun _ => ?_) (fun h9 => absurd h9 (by decide))
  refine va_ldcS C.1 C.2.1 C.2.2.2.1 (C.2.2.2.2.2.2.1 9 _ rfl) dX12_markOf_39 ?_
  refine g_rret C M hr hlk ?_ (Nat.le_of_ble_eq_true rfl) (Nat.le_of_ble_eq_true rfl) dX12_markOf_41
  exact ⟨rfl, rfl⟩

theorem m_markOf (l : Launch) (E : hEnv) (σ : hMem) (Z : va_W) (m : Nat) (hm : m < 5) : hMet l yX12_markOf cX12_markOf 2 (some (.object "java/lang/String")) (0, 0, 0, 0) E σ Z [.ref (hO E 43), .int (nI m)] (hQr E (fun r u => r = E.2.2.2.1 (5 + m) ∧ u = (σ, Z))) := by
  match m, hm with
  | 0, _ => exact m_mark0 l E σ Z
  | 1, _ => exact m_mark1 l E σ Z
  | 2, _ => exact m_mark2 l E σ Z
  | 3, _ => exact m_mark3 l E σ Z
  | 4, _ => exact m_mark4 l E σ Z

set_option maxHeartbeats 4000000 in
set_option maxRecDepth 100000 in
theorem m_clauseOf (l : Launch) (E : hEnv) (σ : hMem) (Z : va_W) (m9 : Nat) (hm : m9 < 5) : hMet l yX12_clauseOf cX12_clauseOf 2 (some (.object "java/lang/String")) (0, 0, 0, 0) E σ Z [.ref (hO E 43), .int (nI (5 + m9))] (hQr E (fun r u => r = E.2.2.2.1 (10 + m9) ∧ u = (σ, Z))) := by
  refine hMet.of (by decide) (Nat.le_of_ble_eq_true rfl) (fun p e s m below meth c A ls C M hr hlk hl => ?_)
  have hl : lv_has ls 2 [(0, .ref (hO E 43)), (1, .int (nI (5 + m9)))] := hl
  generalize s.heap = H at M ⊢
  generalize ([] : List Loc) = locs at M ⊢
  refine lv_iload_n C.1 C.2.1 dX12_clauseOf_0 rfl (lv_at hl 1 rfl) ?_
  by_cases c_1_0 : (nI (5 + m9)) = 5
  · refine lv_tableIn (off := 31) (tgt := 32) C.1 C.2.1 dX12_clauseOf_1 (by rw [c_1_0]; decide) (by rw [c_1_0]; decide) (by rw [c_1_0]; rfl) (by decide) ?_
    refine va_ldcS C.1 C.2.1 C.2.2.2.1 (C.2.2.2.2.2.2.1 10 _ rfl) dX12_clauseOf_32 ?_
    refine g_rret C M hr hlk ?_ (Nat.le_of_ble_eq_true rfl) (Nat.le_of_ble_eq_true rfl) dX12_clauseOf_34
    have h9 : m9 = 0 := (by have := ct_eq (k := 5 + m9) 5 c_1_0; omega); (subst h9; exact ⟨rfl, rfl⟩)
  by_cases c_1_1 : (nI (5 + m9)) = 6
  · refine lv_tableIn (off := 34) (tgt := 35) C.1 C.2.1 dX12_clauseOf_1 (by rw [c_1_1]; decide) (by rw [c_1_1]; decide) (by rw [c_1_1]; rfl) (by decide) ?_
    refine va_ldcS C.1 C.2.1 C.2.2.2.1 (C.2.2.2.2.2.2.1 11 _ rfl) dX12_clauseOf_35 ?_
    refine g_rret C M hr hlk ?_ (Nat.le_of_ble_eq_true rfl) (Nat.le_of_ble_eq_true rfl) dX12_clauseOf_37
    have h9 : m9 = 1 := (by have := ct_eq (k := 5 + m9) 6 c_1_1; omega); (subst h9; exact ⟨rfl, rfl⟩)
  by_cases c_1_2 : (nI (5 + m9)) = 7
  · refine lv_tableIn (off := 37) (tgt := 38) C.1 C.2.1 dX12_clauseOf_1 (by rw [c_1_2]; decide) (by rw [c_1_2]; decide) (by rw [c_1_2]; rfl) (by decide) ?_
    refine va_ldcS C.1 C.2.1 C.2.2.2.1 (C.2.2.2.2.2.2.1 12 _ rfl) dX12_clauseOf_38 ?_
    refine g_rret C M hr hlk ?_ (Nat.le_of_ble_eq_true rfl) (Nat.le_of_ble_eq_true rfl) dX12_clauseOf_40
    have h9 : m9 = 2 := (by have := ct_eq (k := 5 + m9) 7 c_1_2; omega); (subst h9; exact ⟨rfl, rfl⟩)
  by_cases c_1_3 : (nI (5 + m9)) = 8
  · refine lv_tableIn (off := 40) (tgt := 41) C.1 C.2.1 dX12_clauseOf_1 (by rw [c_1_3]; decide) (by rw [c_1_3]; decide) (by rw [c_1_3]; rfl) (by decide) ?_
    refine va_ldcS C.1 C.2.1 C.2.2.2.1 (C.2.2.2.2.2.2.1 13 _ rfl) dX12_clauseOf_41 ?_
    refine g_rret C M hr hlk ?_ (Nat.le_of_ble_eq_true rfl) (Nat.le_of_ble_eq_true rfl) dX12_clauseOf_43
    have h9 : m9 = 3 := (by have := ct_eq (k := 5 + m9) 8 c_1_3; omega); (subst h9; exact ⟨rfl, rfl⟩)
  refine lv_tableOut (tgt := 44) C.1 C.2.1 dX12_clauseOf_1 (tb_out (nI (5 + m9)) (by decide) (by decide) (fun k hk => by rcases (show k = 0 ∨ k = 1 ∨ k = 2 ∨ k = 3 by omega) with rfl | rfl | rfl | rfl <;> assumption)) (by decide) ?_
  refine va_ldcS C.1 C.2.1 C.2.2.2.1 (C.2.2.2.2.2.2.1 14 _ rfl) dX12_clauseOf_44 ?_
  refine g_rret C M hr hlk ?_ (Nat.le_of_ble_eq_true rfl) (Nat.le_of_ble_eq_true rfl) dX12_clauseOf_46
  have h9 : m9 = 4 := (by have := ct_ne (k := 5 + m9) 5 c_1_0; have := ct_ne (k := 5 + m9) 6 c_1_1; have := ct_ne (k := 5 + m9) 7 c_1_2; have := ct_ne (k := 5 + m9) 8 c_1_3; omega); (subst h9; exact ⟨rfl, rfl⟩)

set_option maxHeartbeats 4000000 in
set_option maxRecDepth 100000 in
theorem m_gives (l : Launch) (E : hEnv) (σ : hMem) (Z : va_W) (b a : Nat) (ft : Int32) (L : Nat → Int32) (hab : a ≤ b) (hb : b ≤ 300) : hMet l yX12_gives cX12_gives 1 (some .int) (5, 0, 0, 108) E (pM σ b a ft L) Z [.ref (hO E 43)] (hQi E (fun r u => r = (if gfI (hA σ 43 30 0) a b = 4 then -1 else nI (gfI (hA σ 43 30 0) a b)) ∧ u = (pM σ b a ft L, Z))) := by
  refine hMet.of (by decide) (Nat.le_of_ble_eq_true rfl) (fun p e s m below meth c A ls C M hr hlk hl => ?_)
  have hl : lv_has ls 1 [(0, .ref (hO E 43))] := hl
  generalize s.heap = H at M ⊢
  generalize ([] : List Loc) = locs at M ⊢
  refine lv_aload_n C.1 C.2.1 dX12_gives_0 rfl (lv_at hl 0 rfl) ?_
  refine va_ldcS C.1 C.2.1 C.2.2.2.1 (C.2.2.2.2.2.2.1 15 _ rfl) dX12_gives_1 ?_
  refine g_calli M (g_runV (As := [.ref (E.2.2.2.1 15)]) (rest := []) C M 43 (m_is l E σ Z b a ft L hab hb 15 (by decide)) clX12_is ivX12_is lk12_219 (by decide) rfl rfl ⟨Nat.le_of_ble_eq_true rfl, Nat.le_of_ble_eq_true rfl⟩ hl.1 rfl (Nat.le_of_ble_eq_true rfl) dX12_gives_3 ⟨Nat.le_of_ble_eq_true rfl, Nat.le_of_ble_eq_true rfl⟩) (fun r1 u H locs hR M => ?_)
  refine W.widen (k := 0) (n := 0) (Nat.le_of_ble_eq_true rfl) (Nat.le_of_ble_eq_true rfl) ?_
  obtain ⟨rfl, rfl⟩ := hR
  have M : hM E A s H locs (pM σ b a ft L) Z := M
  refine lv_if_eq (tgt := 13) C.1 C.2.1 dX12_gives_6 (by decide) (fun c_6 => ?_) (fun c_6 => ?_)
  · skip
    have c_6 : ¬ isT (hA σ 43 30 0) a b 15 := bz_0.mp c_6
    refine lv_aload_n C.1 C.2.1 dX12_gives_13 rfl (lv_at hl 0 rfl) ?_
    refine va_ldcS C.1 C.2.1 C.2.2.2.1 (C.2.2.2.2.2.2.1 16 _ rfl) dX12_gives_14 ?_
    refine g_calli M (g_runV (As := [.ref (E.2.2.2.1 16)]) (rest := []) C M 43 (m_is l E σ Z b a ft L hab hb 16 (by decide)) clX12_is ivX12_is lk12_219 (by decide) rfl rfl ⟨Nat.le_of_ble_eq_true rfl, Nat.le_of_ble_eq_true rfl⟩ hl.1 rfl (Nat.le_of_ble_eq_true rfl) dX12_gives_16 ⟨Nat.le_of_ble_eq_true rfl, Nat.le_of_ble_eq_true rfl⟩) (fun r2 u H locs hR M => ?_)
    refine W.widen (k := 0) (n := 0) (Nat.le_of_ble_eq_true rfl) (Nat.le_of_ble_eq_true rfl) ?_
    obtain ⟨rfl, rfl⟩ := hR
    have M : hM E A s H locs (pM σ b a ft L) Z := M
    refine lv_if_eq (tgt := 26) C.1 C.2.1 dX12_gives_19 (by decide) (fun c_19 => ?_) (fun c_19 => ?_)
    · skip
      have c_19 : ¬ isT (hA σ 43 30 0) a b 16 := bz_0.mp c_19
      refine lv_aload_n C.1 C.2.1 dX12_gives_26 rfl (lv_at hl 0 rfl) ?_
      refine va_ldcS C.1 C.2.1 C.2.2.2.1 (C.2.2.2.2.2.2.1 17 _ rfl) dX12_gives_27 ?_
      refine g_calli M (g_runV (As := [.ref (E.2.2.2.1 17)]) (rest := []) C M 43 (m_is l E σ Z b a ft L hab hb 17 (by decide)) clX12_is ivX12_is lk12_219 (by decide) rfl rfl ⟨Nat.le_of_ble_eq_true rfl, Nat.le_of_ble_eq_true rfl⟩ hl.1 rfl (Nat.le_of_ble_eq_true rfl) dX12_gives_29 ⟨Nat.le_of_ble_eq_true rfl, Nat.le_of_ble_eq_true rfl⟩) (fun r3 u H locs hR M => ?_)
      refine W.widen (k := 0) (n := 0) (Nat.le_of_ble_eq_true rfl) (Nat.le_of_ble_eq_true rfl) ?_
      obtain ⟨rfl, rfl⟩ := hR
      have M : hM E A s H locs (pM σ b a ft L) Z := M
      refine lv_if_eq (tgt := 39) C.1 C.2.1 dX12_gives_32 (by decide) (fun c_32 => ?_) (fun c_32 => ?_)
      · skip
        have c_32 : ¬ isT (hA σ 43 30 0) a b 17 := bz_0.mp c_32
        refine lv_aload_n C.1 C.2.1 dX12_gives_39 rfl (lv_at hl 0 rfl) ?_
        refine va_ldcS C.1 C.2.1 C.2.2.2.1 (C.2.2.2.2.2.2.1 18 _ rfl) dX12_gives_40 ?_
        refine g_calli M (g_runV (As := [.ref (E.2.2.2.1 18)]) (rest := []) C M 43 (m_is l E σ Z b a ft L hab hb 18 (by decide)) clX12_is ivX12_is lk12_219 (by decide) rfl rfl ⟨Nat.le_of_ble_eq_true rfl, Nat.le_of_ble_eq_true rfl⟩ hl.1 rfl (Nat.le_of_ble_eq_true rfl) dX12_gives_42 ⟨Nat.le_of_ble_eq_true rfl, Nat.le_of_ble_eq_true rfl⟩) (fun r4 u H locs hR M => ?_)
        refine W.widen (k := 0) (n := 0) (Nat.le_of_ble_eq_true rfl) (Nat.le_of_ble_eq_true rfl) ?_
        obtain ⟨rfl, rfl⟩ := hR
        have M : hM E A s H locs (pM σ b a ft L) Z := M
        refine lv_if_eq (tgt := 52) C.1 C.2.1 dX12_gives_45 (by decide) (fun c_45 => ?_) (fun c_45 => ?_)
        · skip
          have c_45 : ¬ isT (hA σ 43 30 0) a b 18 := bz_0.mp c_45
          refine lv_iconst (v := (-1)) C.1 C.2.1 dX12_gives_52 (by decide) ?_
          refine g_iret C M hr hlk ?_ (Nat.le_of_ble_eq_true rfl) (Nat.le_of_ble_eq_true rfl) dX12_gives_53
          have h9 : gfI (hA σ 43 30 0) a b = 4 := gf_is (by decide) (fun j hj => by rcases (show j = 0 ∨ j = 1 ∨ j = 2 ∨ j = 3 by omega) with rfl | rfl | rfl | rfl <;> assumption) (Or.inl rfl); exact ⟨by rw [h9]; rfl, rfl⟩
        · skip
          have c_45 : isT (hA σ 43 30 0) a b 18 := bz_ne0.mp c_45
          refine lv_iconst (v := 3) C.1 C.2.1 dX12_gives_48 (by decide) ?_
          refine lv_goto (tgt := 53) C.1 C.2.1 dX12_gives_49 (by decide) ?_
          refine g_iret C M hr hlk ?_ (Nat.le_of_ble_eq_true rfl) (Nat.le_of_ble_eq_true rfl) dX12_gives_53
          have h9 : gfI (hA σ 43 30 0) a b = 3 := gf_is (by decide) (fun j hj => by rcases (show j = 0 ∨ j = 1 ∨ j = 2 by omega) with rfl | rfl | rfl <;> assumption) (Or.inr c_45); exact ⟨by rw [h9]; rfl, rfl⟩
      · skip
        have c_32 : isT (hA σ 43 30 0) a b 17 := bz_ne0.mp c_32
        refine lv_iconst (v := 2) C.1 C.2.1 dX12_gives_35 (by decide) ?_
        refine lv_goto (tgt := 53) C.1 C.2.1 dX12_gives_36 (by decide) ?_
        refine g_iret C M hr hlk ?_ (Nat.le_of_ble_eq_true rfl) (Nat.le_of_ble_eq_true rfl) dX12_gives_53
        have h9 : gfI (hA σ 43 30 0) a b = 2 := gf_is (by decide) (fun j hj => by rcases (show j = 0 ∨ j = 1 by omega) with rfl | rfl <;> assumption) (Or.inr c_32); exact ⟨by rw [h9]; rfl, rfl⟩
    · skip
      have c_19 : isT (hA σ 43 30 0) a b 16 := bz_ne0.mp c_19
      refine lv_iconst (v := 1) C.1 C.2.1 dX12_gives_22 (by decide) ?_
      refine lv_goto (tgt := 53) C.1 C.2.1 dX12_gives_23 (by decide) ?_
      refine g_iret C M hr hlk ?_ (Nat.le_of_ble_eq_true rfl) (Nat.le_of_ble_eq_true rfl) dX12_gives_53
      have h9 : gfI (hA σ 43 30 0) a b = 1 := gf_is (by decide) (fun j hj => by rcases (show j = 0 by omega) with rfl <;> assumption) (Or.inr c_19); exact ⟨by rw [h9]; rfl, rfl⟩
  · skip
    have c_6 : isT (hA σ 43 30 0) a b 15 := bz_ne0.mp c_6
    refine lv_iconst (v := 0) C.1 C.2.1 dX12_gives_9 (by decide) ?_
    refine lv_goto (tgt := 53) C.1 C.2.1 dX12_gives_10 (by decide) ?_
    refine g_iret C M hr hlk ?_ (Nat.le_of_ble_eq_true rfl) (Nat.le_of_ble_eq_true rfl) dX12_gives_53
    have h9 : gfI (hA σ 43 30 0) a b = 0 := gf_is (by decide) (fun j hj => absurd hj (Nat.not_lt_zero j)) (Or.inr c_6); exact ⟨by rw [h9]; rfl, rfl⟩
