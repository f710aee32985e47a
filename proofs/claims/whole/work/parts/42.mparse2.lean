theorem nI_subS (a k : Nat) : nI (a + k) - nI a = nI k := by
  rw [nI_subN (Nat.le_add_right a k), Nat.add_sub_cancel_left]
theorem ftl_0 (v : Int32) : ftl 0 v = v := if_pos rfl
theorem ftl_n {ft v : Int32} (h : ¬ ft = 0) : ftl ft v = ft := if_neg h
theorem fc_nle {k : Int32} {p : Nat} (hk : k = 1 ∨ k = 2 ∨ k = 3 ∨ k = 4) (hp : p ≤ 300) : ¬ k + 4 * nI p ≤ 0 := Int32.not_le.mpr (fc_pos hk hp)
theorem fc_ne {k : Int32} {p : Nat} (hk : k = 1 ∨ k = 2 ∨ k = 3 ∨ k = 4) (hp : p ≤ 300) : ¬ k + 4 * nI p = 0 := fun h => fc_nle hk hp (by rw [h]; decide)
theorem ltI_ne {x : Int32} (h : 0 < x) : ¬ x = 0 := fun q => by rw [q] at h; exact absurd h (by decide)
def nRel (t : Nat → Int32) (n p : Nat) (g : Int32) (b : Nat) (ft r : Int32) : Prop := b ≤ n ∧ ((pN t n p g = .inl ft ∧ 0 < ft) ∨ (pN t n p g = .inr (b, r) ∧ ft = 0))
theorem nRel_a {t : Nat → Int32} {n p k : Nat} {g r : Int32} (hn : n ≤ 300) (hk : sk t n p + k ≤ n) (hd : dg t n (sk t n p) = sk t n p + k) (h : nI (sk t n p + k) = nI (sk t n p)) : nRel t n p g (sk t n p + k) (1 + 4 * nI (sk t n p)) r := by
  have h0 := (nI_eq (by omega) (by omega)).mp h
  refine ⟨hk, Or.inl ⟨?_, fc_pos (by decide) (by omega)⟩⟩
  unfold pN
  rw [if_pos (by rw [hd]; exact h0)]
theorem nRel_b {t : Nat → Int32} {n p k : Nat} {g r : Int32} (hg : ¬ inB 1000000 0 g = true) (hn : n ≤ 300) (hk : sk t n p + k ≤ n) (hd : dg t n (sk t n p) = sk t n p + k) (h : ¬ nI (sk t n p + k) = nI (sk t n p)) (h2 : ¬ inB (mV t (sk t n p) k) 0 g = true) : nRel t n p g (sk t n p + k) (2 + 4 * nI (sk t n p)) r := by
  refine ⟨hk, Or.inl ⟨?_, fc_pos (by decide) (by omega)⟩⟩
  unfold pN
  have e : dg t n (sk t n p) - sk t n p = k := by omega
  rw [if_neg (fun q => h (by rw [← hd, q])), e, if_pos]
  by_cases h4 : 4 < k
  · exact Or.inl h4
  · rw [← mV_cV t _ k (by omega)]
    exact Or.inr h2
theorem nRel_c {t : Nat → Int32} {n p k : Nat} {g : Int32} (hg : ¬ inB 1000000 0 g = true) (hn : n ≤ 300) (hk : sk t n p + k ≤ n) (hd : dg t n (sk t n p) = sk t n p + k) (h : ¬ nI (sk t n p + k) = nI (sk t n p)) (h2 : inB (mV t (sk t n p) k) 0 g = true) : nRel t n p g (sk t n p + k) 0 (mV t (sk t n p) k) := by
  refine ⟨hk, Or.inr ⟨?_, rfl⟩⟩
  unfold pN
  have e : dg t n (sk t n p) - sk t n p = k := by omega
  have h4 : ¬ 4 < k := fun q => hg (by rw [mV_big t _ q] at h2; exact h2)
  rw [if_neg (fun q => h (by rw [← hd, q])), e, ← mV_cV t _ k (by omega), if_neg (fun q => q.elim h4 (fun z => z h2)), hd]
theorem sLen_pos : ∀ i, i < 20 → 0 < sLen.getD i 0 := by decide
theorem isT_ne {t : Nat → Int32} {a b i : Nat} (hi : i < 20) (h : isT t a b i) : ¬ b = a := by
  have := sLen_pos i hi
  have := (isT_iff.mp h).1
  omega
theorem fF_is (Q : Nat → Bool) : ∀ f s m, s ≤ m → m ≤ s + f → (∀ j, s ≤ j → j < m → ¬ Q j = true) → (m = s + f ∨ Q m = true) → fF Q f s = m
  | 0, s, m, h1, h2, h3, h4 => by
    show s = m
    omega
  | f + 1, s, m, h1, h2, h3, h4 => by
    unfold fF
    by_cases h : Q s = true
    · rw [if_pos h]
      by_cases e : s = m
      · exact e
      · exact absurd h (h3 s (Nat.le_refl s) (by omega))
    · rw [if_neg h]
      have hne : s ≠ m := fun e => by
        rcases h4 with h4 | h4
        · omega
        · rw [e] at h; exact h h4
      exact fF_is Q f (s + 1) m (by omega) (by omega) (fun j hj => h3 j (by omega)) (h4.elim (fun q => Or.inl (by omega)) Or.inr)
theorem mk_is {t : Nat → Int32} {a b m : Nat} (hm : m ≤ 5) (h : ∀ j, j < m → ¬ isT t a b (5 + j)) (h2 : m = 5 ∨ isT t a b (5 + m)) : mkI t a b = m := fF_is _ 5 0 m (Nat.zero_le m) (by omega) (fun j _ hj q => h j hj q) (h2.elim (fun q => Or.inl (by omega)) (fun q => Or.inr q))
theorem cl_is {t : Nat → Int32} {a b m : Nat} (hm : m ≤ 5) (h : ∀ j, j < m → ¬ isT t a b (10 + j)) (h2 : m = 5 ∨ isT t a b (10 + m)) : clI t a b = m := fF_is _ 5 0 m (Nat.zero_le m) (by omega) (fun j _ hj q => h j hj q) (h2.elim (fun q => Or.inl (by omega)) (fun q => Or.inr q))
theorem gf_is {t : Nat → Int32} {a b m : Nat} (hm : m ≤ 4) (h : ∀ j, j < m → ¬ isT t a b (15 + j)) (h2 : m = 4 ∨ isT t a b (15 + m)) : gfI t a b = m := fF_is _ 4 0 m (Nat.zero_le m) (by omega) (fun j _ hj q => h j hj q) (h2.elim (fun q => Or.inl (by omega)) (fun q => Or.inr q))
theorem fF_t (Q : Nat → Bool) : ∀ f s, fF Q f s < s + f → Q (fF Q f s) = true
  | 0, s, h => absurd h (by show ¬ s < s + 0; omega)
  | f + 1, s, h => by
    unfold fF at h ⊢
    by_cases hq : Q s = true
    · rw [if_pos hq]; exact hq
    · rw [if_neg hq] at h ⊢
      exact fF_t Q f (s + 1) (by omega)
theorem gf_le (t : Nat → Int32) (a b : Nat) : gfI t a b ≤ 4 := by
  have := (fF_le (fun m => isTB t a b (15 + m)) 4 0).2
  unfold gfI
  omega
theorem gf_ne {t : Nat → Int32} {a b : Nat} (h : ¬ gfI t a b = 4) : ¬ b = a := by
  have h0 := gf_le t a b
  have h2 : isT t a b (15 + gfI t a b) := fF_t (fun m => isTB t a b (15 + m)) 4 0 (show gfI t a b < 0 + 4 by omega)
  exact isT_ne (by omega) h2
/-- behind word -/
abbrev wRel (W S : Nat) (ft : Int32) : Prop := (W = S ∧ ft = 1 + 4 * nI S) ∨ (¬ W = S ∧ ft = 0)
theorem w_sp {σ : hMem} {W S : Nat} {L : Nat → Int32} {Z : va_W} {u : hMem × va_W} (hW : W ≤ 300) (hS : S ≤ 300) (h : u = (pM σ W S (if nI W = nI S then ftl 0 (1 + 4 * nI S) else 0) L, Z)) : ∃ ft, u = (pM σ W S ft L, Z) ∧ wRel W S ft := by
  by_cases e : W = S
  · rw [if_pos (by rw [e]), ftl_0] at h
    exact ⟨_, h, Or.inl ⟨e, rfl⟩⟩
  · rw [if_neg (fun q => e ((nI_eq (by omega) (by omega)).mp q))] at h
    exact ⟨_, h, Or.inr ⟨e, rfl⟩⟩
theorem ftl_w {W S : Nat} {ft : Int32} (h : wRel W S ft) (hS : S ≤ 300) : ftl ft (1 + 4 * nI S) = 1 + 4 * nI S := by
  rcases h with ⟨_, h⟩ | ⟨_, h⟩
  · rw [h, ftl_n (fc_ne (by decide) hS)]
  · rw [h, ftl_0]
def cRel (t : Nat → Int32) (n p : Nat) (T L : Nat → Int32) (b : Nat) (ft : Int32) (L' T' : Nat → Int32) : Prop := b ≤ n ∧ ((clP t n p T L = .inl ft ∧ 0 < ft) ∨ (clP t n p T L = .inr (b, T', L') ∧ ft = 0))
section CL
variable {t : Nat → Int32} {n p b : Nat} {T L : Nat → Int32} {m : Nat} {ft r : Int32}
theorem clP_e (h : wd t n (sk t n p) = sk t n p) : clP t n p T L = .inl (1 + 4 * nI (sk t n p)) := by
  unfold clP
  rw [if_neg (fun q => isT_ne (by decide) q h)]
  unfold clC
  rw [if_pos (cl_is (Nat.le_refl 5) (fun j hj q => isT_ne (by omega) q h) (Or.inl rfl))]
theorem clP_w5 (h4 : isT t (sk t n p) (wd t n (sk t n p)) 4) (hm : mkI t (sk t n (wd t n (sk t n p))) (wd t n (sk t n (wd t n (sk t n p)))) = 5) : clP t n p T L = .inl (1 + 4 * nI (sk t n (wd t n (sk t n p)))) := by
  unfold clP
  rw [if_pos h4]
  unfold clW
  rw [if_pos hm]
theorem clP_w3 (h4 : isT t (sk t n p) (wd t n (sk t n p)) 4) (hm : mkI t (sk t n (wd t n (sk t n p))) (wd t n (sk t n (wd t n (sk t n p)))) = m) (h5 : m < 5) (hT : ¬ T m = 0) : clP t n p T L = .inl (3 + 4 * nI (sk t n (wd t n (sk t n p)))) := by
  unfold clP
  rw [if_pos h4]
  unfold clW
  rw [if_neg (by omega), hm, if_pos hT]
theorem clP_wn (h4 : isT t (sk t n p) (wd t n (sk t n p)) 4) (hm : mkI t (sk t n (wd t n (sk t n p))) (wd t n (sk t n (wd t n (sk t n p)))) = m) (h5 : m < 5) (hT : T m = 0) (hN : (pN t n (wd t n (sk t n (wd t n (sk t n p)))) 99 = .inl ft ∧ 0 < ft) ∨ (pN t n (wd t n (sk t n (wd t n (sk t n p)))) 99 = .inr (b, r) ∧ ft = 0)) : (clP t n p T L = .inl ft ∧ 0 < ft) ∨ (clP t n p T L = .inr (b, upd T m 1, upd L m r) ∧ ft = 0) := by
  unfold clP
  rw [if_pos h4]
  unfold clW
  rw [if_neg (by omega), hm, if_neg (fun q => q hT)]
  rcases hN with ⟨h, h2⟩ | ⟨h, h2⟩
  · rw [h]; exact Or.inl ⟨rfl, h2⟩
  · rw [h]; exact Or.inr ⟨rfl, h2⟩
theorem clP_c5 (h4 : ¬ isT t (sk t n p) (wd t n (sk t n p)) 4) (hm : clI t (sk t n p) (wd t n (sk t n p)) = 5) : clP t n p T L = .inl (1 + 4 * nI (sk t n p)) := by
  unfold clP
  rw [if_neg h4]
  unfold clC
  rw [if_pos hm]
theorem clP_c3 (h4 : ¬ isT t (sk t n p) (wd t n (sk t n p)) 4) (hm : clI t (sk t n p) (wd t n (sk t n p)) = m) (h5 : m < 5) (hT : ¬ T (5 + m) = 0) : clP t n p T L = .inl (3 + 4 * nI (sk t n p)) := by
  unfold clP
  rw [if_neg h4]
  unfold clC
  rw [if_neg (by omega), hm, if_pos hT]
theorem clP_g (h4 : ¬ isT t (sk t n p) (wd t n (sk t n p)) 4) (hm : clI t (sk t n p) (wd t n (sk t n p)) = 1) (hT : T (5 + 1) = 0) : clP t n p T L = clG t n (wd t n (sk t n p)) T L := by
  unfold clP
  rw [if_neg h4]
  unfold clC
  rw [if_neg (by omega), hm, if_neg (fun q => q hT), if_pos rfl]
theorem clP_v (h4 : ¬ isT t (sk t n p) (wd t n (sk t n p)) 4) (hm : clI t (sk t n p) (wd t n (sk t n p)) = m) (h5 : m < 5) (h1 : ¬ m = 1) (hT : T (5 + m) = 0) : clP t n p T L = clV t n (wd t n (sk t n p)) (5 + m) T L := by
  unfold clP
  rw [if_neg h4]
  unfold clC
  rw [if_neg (by omega), hm, if_neg (fun q => q hT), if_neg h1]
theorem clV_n {c q : Nat} {g : Int32} (hg : gMx c = g) (h9 : ¬ c = 9) (hN : (pN t n q g = .inl ft ∧ 0 < ft) ∨ (pN t n q g = .inr (b, r) ∧ ft = 0)) : (clV t n q c T L = .inl ft ∧ 0 < ft) ∨ (clV t n q c T L = .inr (b, upd T c 1, upd L c r) ∧ ft = 0) := by
  subst hg
  unfold clV
  rcases hN with ⟨h, h2⟩ | ⟨h, h2⟩
  · rw [h]; exact Or.inl ⟨rfl, h2⟩
  · rw [h]
    refine Or.inr ⟨?_, h2⟩
    show (if c = 9 then _ else _) = _
    rw [if_neg h9]
theorem clV_f {c q : Nat} {g : Int32} (hg : gMx c = g) (hf : ¬ ft = 0) (hN : (pN t n q g = .inl ft ∧ 0 < ft) ∨ (pN t n q g = .inr (b, r) ∧ ft = 0)) : clV t n q c T L = .inl ft ∧ 0 < ft := by
  subst hg
  unfold clV
  rcases hN with ⟨h, h2⟩ | ⟨h, h2⟩
  · rw [h]; exact ⟨rfl, h2⟩
  · exact absurd h2 hf
theorem clV_a {q : Nat} (hN : (pN t n q 1000 = .inl 0 ∧ (0 : Int32) < 0) ∨ (pN t n q 1000 = .inr (b, r) ∧ (0 : Int32) = 0)) : clV t n q 9 T L = clA t n b r T L := by
  unfold clV
  rcases hN with ⟨_, h2⟩ | ⟨h, _⟩
  · exact absurd h2 (by decide)
  · show (match pN t n q 1000 with | .inl e => _ | .inr (q, v) => _) = _
    rw [h]
    rfl
theorem clA_n {q : Nat} {v : Int32} (h : ¬ isT t (sk t n q) (wd t n (sk t n q)) 19) : clA t n q v T L = .inl (1 + 4 * nI (sk t n q)) := by
  unfold clA
  rw [if_neg h]
theorem clA_y {q : Nat} {v : Int32} (h : isT t (sk t n q) (wd t n (sk t n q)) 19) (hN : (pN t n (wd t n (sk t n q)) 5000 = .inl ft ∧ 0 < ft) ∨ (pN t n (wd t n (sk t n q)) 5000 = .inr (b, r) ∧ ft = 0)) : (clA t n q v T L = .inl ft ∧ 0 < ft) ∨ (clA t n q v T L = .inr (b, upd T 9 1, upd (upd L 9 v) 10 r) ∧ ft = 0) := by
  unfold clA
  rw [if_pos h]
  rcases hN with ⟨h, h2⟩ | ⟨h, h2⟩
  · rw [h]; exact Or.inl ⟨rfl, h2⟩
  · rw [h]; exact Or.inr ⟨rfl, h2⟩
end CL
