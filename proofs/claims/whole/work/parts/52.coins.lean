/-! Coins: sums, shares, the greatest rests. -/
def sumL (f : Nat → Int64) : Nat → Int64
  | 0 => 0
  | k + 1 => sumL f k + f k
def subL (g : Int64) (f : Nat → Int64) : Nat → Int64
  | 0 => g
  | k + 1 => subL g f k - f k
def sumN (f : Nat → Nat) : Nat → Nat
  | 0 => 0
  | k + 1 => sumN f k + f k
theorem sumN_congr {f g : Nat → Nat} : ∀ n, (∀ i, i < n → f i = g i) → sumN f n = sumN g n
  | 0, _ => rfl
  | n + 1, h => by
    show sumN f n + f n = sumN g n + g n
    rw [sumN_congr n (fun i hi => h i (by omega)), h n (by omega)]
theorem sumN_le {f : Nat → Nat} {B : Nat} : ∀ n, (∀ i, i < n → f i ≤ B) → sumN f n ≤ n * B
  | 0, _ => by show 0 ≤ 0 * B; omega
  | n + 1, h => by
    have h1 := sumN_le n (fun i hi => h i (by omega))
    have h2 := h n (by omega)
    show sumN f n + f n ≤ (n + 1) * B
    rw [Nat.add_mul]
    omega
theorem sumN_ge {f : Nat → Nat} : ∀ n i, i < n → f i ≤ sumN f n
  | n + 1, i, h => by
    show f i ≤ sumN f n + f n
    by_cases e : i = n
    · rw [e]; omega
    · have := sumN_ge (f := f) n i (by omega)
      omega
theorem sumL_N {f : Nat → Int64} {w : Nat → Nat} : ∀ n, (∀ i, i < n → f i = lN (w i)) → sumL f n = lN (sumN w n)
  | 0, _ => rfl
  | n + 1, h => by
    show sumL f n + f n = lN (sumN w n + w n)
    rw [sumL_N n (fun i hi => h i (by omega)), h n (by omega), lN_add]
theorem subL_N {g : Int64} {f : Nat → Int64} {G : Nat} {c : Nat → Nat} (hg : g = lN G) : ∀ n, (∀ i, i < n → f i = lN (c i)) → sumN c n ≤ G → subL g f n = lN (G - sumN c n)
  | 0, _, _ => by show g = lN (G - 0); rw [hg]; rfl
  | n + 1, h, hs => by
    have hs' : sumN c n + c n ≤ G := hs
    show subL g f n - f n = lN (G - (sumN c n + c n))
    rw [subL_N hg n (fun i hi => h i (by omega)) (by omega), h n (by omega), lN_sub (by omega)]
    congr 1
    omega
theorem dv_eq (G W : Nat) (w : Nat → Nat) : ∀ n, W * sumN (fun i => G * w i / W) n + sumN (fun i => G * w i % W) n = G * sumN w n
  | 0 => by show W * 0 + 0 = G * 0; omega
  | n + 1 => by
    have h1 := dv_eq G W w n
    have h2 := Nat.div_add_mod (G * w n) W
    show W * (sumN (fun i => G * w i / W) n + G * w n / W) + (sumN (fun i => G * w i % W) n + G * w n % W) = G * (sumN w n + w n)
    rw [Nat.mul_add, Nat.mul_add, ← h1]
    omega
theorem dv_le {G W : Nat} {w : Nat → Nat} {n : Nat} (hW : 0 < W) (h : sumN w n = W) : sumN (fun i => G * w i / W) n ≤ G := by
  have h1 := dv_eq G W w n
  rw [h] at h1
  have h2 : W * sumN (fun i => G * w i / W) n ≤ W * G := by rw [Nat.mul_comm W G]; omega
  exact Nat.le_of_mul_le_mul_left h2 hW
theorem dv_lt {G W : Nat} {w : Nat → Nat} {n : Nat} (hW : 0 < W) (hn : 0 < n) (h : sumN w n = W) : G < sumN (fun i => G * w i / W) n + n := by
  have h1 := dv_eq G W w n
  rw [h] at h1
  have h3 : sumN (fun i => G * w i % W) n ≤ n * (W - 1) := sumN_le n (fun i _ => by have := Nat.mod_lt (G * w i) hW; omega)
  have h4 : n * (W - 1) < n * W := Nat.mul_lt_mul_of_pos_left (by omega) hn
  have h5 : W * G < W * (sumN (fun i => G * w i / W) n + n) := by
    rw [Nat.mul_add, Nat.mul_comm W G, Nat.mul_comm W n]
    omega
  exact Nat.lt_of_mul_lt_mul_left h5
def bsr (got : Nat → Int32) (r : Nat → Int64) : Nat → Int32
  | 0 => -1
  | k + 1 => if got k = 0 ∧ (bsr got r k = -1 ∨ r (bsr got r k).toNatClampNeg < r k) then nI k else bsr got r k
def gr (r : Nat → Int64) : Nat → Nat
  | 0 => 0
  | k + 1 => if r (gr r k) < r k then k else gr r k
theorem gr_lt (r : Nat → Int64) : ∀ k, 0 < k → gr r k < k
  | 0, h => absurd h (Nat.lt_irrefl 0)
  | k + 1, _ => by
    unfold gr
    split
    · exact Nat.lt_succ_self k
    · by_cases h0 : k = 0
      · rw [h0]; exact Nat.lt_succ_self 0
      · exact Nat.lt_succ_of_lt (gr_lt r k (by omega))
theorem bsr_in (got : Nat → Int32) (r : Nat → Int64) : ∀ k, bsr got r k = -1 ∨ ∃ j, j < k ∧ bsr got r k = nI j
  | 0 => Or.inl rfl
  | k + 1 => by
    unfold bsr
    split
    · exact Or.inr ⟨k, Nat.lt_succ_self k, rfl⟩
    · rcases bsr_in got r k with h | ⟨j, h1, h2⟩
      · exact Or.inl h
      · exact Or.inr ⟨j, Nat.lt_succ_of_lt h1, h2⟩
theorem l_irr (x : Int64) : ¬ x < x := by
  rw [Int64.lt_iff_toInt_lt]
  omega
theorem nI_nm {k : Nat} (hk : k < 2 ^ 31) : ¬ nI k = -1 := fun h => nI_pos hk (by rw [h]; decide)
theorem bsr_gr {got : Nat → Int32} {r rr : Nat → Int64} : ∀ k, k < 2 ^ 31 → (∀ j, j < k → ¬ got j = 0 → rr j = -1) → (∀ j, j < k → got j = 0 → rr j = r j ∧ ¬ r j < 0) → (bsr got r k = -1 ∧ (∀ j, j < k → ¬ got j = 0) ∧ (k = 0 ∨ rr (gr rr k) = -1)) ∨ (bsr got r k = nI (gr rr k) ∧ gr rr k < k ∧ got (gr rr k) = 0)
  | 0, _, _, _ => Or.inl ⟨rfl, fun j hj => absurd hj (Nat.not_lt_zero j), Or.inl rfl⟩
  | k + 1, hk, h1, h2 => by
    have ih := bsr_gr (got := got) (r := r) (rr := rr) k (by omega) (fun j hj => h1 j (by omega)) (fun j hj => h2 j (by omega))
    have hm : ∀ x : Int64, ¬ x < 0 → (-1 : Int64) < x := fun x hx => by
      rw [Int64.lt_iff_toInt_lt] at hx ⊢
      have e1 : (0 : Int64).toInt = 0 := rfl
      have e2 : (-1 : Int64).toInt = -1 := rfl
      omega
    unfold bsr gr
    by_cases hg : got k = 0
    · obtain ⟨hr, hr0⟩ := h2 k (by omega) hg
      rcases ih with ⟨a, b, d⟩ | ⟨a, b, d⟩
      · rw [if_pos ⟨hg, Or.inl a⟩]
        right
        rcases d with d | d
        · subst d
          rw [show gr rr 0 = 0 from rfl, if_neg (l_irr _)]
          exact ⟨rfl, Nat.lt_succ_self 0, hg⟩
        · rw [d, hr, if_pos (hm _ hr0)]
          exact ⟨rfl, Nat.lt_succ_self k, hg⟩
      · right
        have ec : (bsr got r k).toNatClampNeg = gr rr k := by rw [a, nI_clamp (by omega)]
        obtain ⟨hq, _⟩ := h2 (gr rr k) (by omega) d
        by_cases hlt : r (gr rr k) < r k
        · rw [if_pos ⟨hg, Or.inr (by rw [ec]; exact hlt)⟩, hq, hr, if_pos hlt]
          exact ⟨rfl, Nat.lt_succ_self k, hg⟩
        · rw [if_neg (fun q => q.2.elim (fun z => nI_nm (by omega) (a.symm.trans z)) (fun z => hlt (by rw [ec] at z; exact z))), hq, hr, if_neg hlt]
          exact ⟨a, by omega, d⟩
    · rw [if_neg (fun q => hg q.1)]
      have hr := h1 k (by omega) hg
      rcases ih with ⟨a, b, d⟩ | ⟨a, b, d⟩
      · left
        refine ⟨a, fun j hj => ?_, Or.inr ?_⟩
        · by_cases e : j = k
          · rw [e]; exact hg
          · exact b j (by omega)
        · rcases d with d | d
          · subst d
            rw [show gr rr 0 = 0 from rfl, if_neg (l_irr _)]
            exact hr
          · rw [d, hr, if_neg (l_irr _)]
            exact d
      · right
        obtain ⟨hq, hq0⟩ := h2 (gr rr k) (by omega) d
        have hn : ¬ rr (gr rr k) < rr k := by
          rw [hq, hr, Int64.lt_iff_toInt_lt]
          rw [Int64.lt_iff_toInt_lt] at hq0
          have e1 : (0 : Int64).toInt = 0 := rfl
          have e2 : (-1 : Int64).toInt = -1 := rfl
          omega
        rw [if_neg hn]
        exact ⟨a, by omega, d⟩
/-- one coin each to the greatest rests, v of them -/
def pkS (n : Nat) (r c : Nat → Int64) : Nat → (Nat → Int32) × (Nat → Int64)
  | 0 => (fun _ => 0, c)
  | v + 1 => (upd (pkS n r c v).1 (bsr (pkS n r c v).1 r n).toNatClampNeg 1, vp_updL (pkS n r c v).2 (bsr (pkS n r c v).1 r n).toNatClampNeg ((pkS n r c v).2 (bsr (pkS n r c v).1 r n).toNatClampNeg + 1))
/-- how far: v of the n have got one -/
theorem pkS_ok {n : Nat} {r c : Nat → Int64} (hn : n < 2 ^ 31) (hr : ∀ j, j < n → ¬ r j < 0) : ∀ v, v ≤ n → cnz (pkS n r c v).1 n = v ∧ (v < n → ∃ b, b < n ∧ bsr (pkS n r c v).1 r n = nI b ∧ (pkS n r c v).1 b = 0)
  | 0, _ => by
    have h0 : cnz (fun _ : Nat => (0 : Int32)) n = 0 := cnz_zero n (fun _ _ => rfl)
    refine ⟨h0, fun hv => ?_⟩
    rcases bsr_gr (got := fun _ => 0) (r := r) (rr := r) n hn (fun j _ q => absurd rfl q) (fun j hj _ => ⟨rfl, hr j hj⟩) with ⟨_, b, _⟩ | ⟨a, b, d⟩
    · exact absurd rfl (b 0 hv)
    · exact ⟨_, b, a, d⟩
  | v + 1, hv => by
    obtain ⟨h1, h2⟩ := pkS_ok (c := c) hn hr v (by omega)
    obtain ⟨b, hb, h3, h4⟩ := h2 (by omega)
    have hc : cnz (pkS n r c (v + 1)).1 n = v + 1 := by
      show cnz (upd (pkS n r c v).1 (bsr (pkS n r c v).1 r n).toNatClampNeg 1) n = v + 1
      rw [h3, nI_clamp (by omega), cnz_upd h4 (by decide), h1, if_pos hb]
    refine ⟨hc, fun hlt => ?_⟩
    generalize hg : (pkS n r c (v + 1)).1 = got at hc ⊢
    rcases bsr_gr (got := got) (r := r) (rr := fun j => if got j = 0 then r j else -1) n hn (fun j _ q => if_neg q) (fun j hj q => ⟨if_pos q, hr j hj⟩) with ⟨_, b, _⟩ | ⟨a, b, d⟩
    · rw [cnz_lt n b] at hc; omega
    · exact ⟨_, b, a, d⟩
/-- each coin is put on at most once -/
theorem pkS_c {n : Nat} {r c : Nat → Int64} (hn : n < 2 ^ 31) (hr : ∀ j, j < n → ¬ r j < 0) : ∀ v, v ≤ n → ∀ j, (pkS n r c v).2 j = (if (pkS n r c v).1 j = 0 then c j else c j + 1) ∧ ((pkS n r c v).1 j = 0 ∨ (pkS n r c v).1 j = 1)
  | 0, _, j => ⟨by show c j = if (0 : Int32) = 0 then _ else _; rw [if_pos rfl], Or.inl rfl⟩
  | v + 1, hv, j => by
    obtain ⟨_, h2⟩ := pkS_ok (c := c) hn hr v (by omega)
    obtain ⟨b, hb, h3, h4⟩ := h2 (by omega)
    obtain ⟨h5, h6⟩ := pkS_c (c := c) hn hr v (by omega) j
    have h7 := (pkS_c (c := c) hn hr v (by omega) b).1
    rw [if_pos h4] at h7
    have e : (bsr (pkS n r c v).1 r n).toNatClampNeg = b := by rw [h3, nI_clamp (by omega)]
    unfold pkS
    rw [e]
    dsimp only
    by_cases ej : j = b
    · subst ej
      have e1 : upd (pkS n r c v).1 j 1 j = 1 := pk_us
      have e2 : vp_updL (pkS n r c v).2 j ((pkS n r c v).2 j + 1) j = (pkS n r c v).2 j + 1 := pk_uLs
      refine ⟨?_, Or.inr e1⟩
      rw [e2, if_neg (by rw [e1]; decide), h7]
    · have e1 : upd (pkS n r c v).1 b 1 j = (pkS n r c v).1 j := if_neg ej
      have e2 : vp_updL (pkS n r c v).2 b ((pkS n r c v).2 b + 1) j = (pkS n r c v).2 j := pk_uLn ej
      refine ⟨?_, by rw [e1]; exact h6⟩
      rw [e2, h5]
      by_cases q : (pkS n r c v).1 j = 0
      · rw [if_pos q, if_pos (e1.trans q)]
      · rw [if_neg q, if_neg (fun z => q (e1.symm.trans z))]
/-- the class: a rest below every rest for those that have got one -/
def rsS (n : Nat) (r c : Nat → Int64) (v : Nat) : Nat → Int64 := fun j => if (pkS n r c v).1 j = 0 then r j else -1
theorem rsS_gr {n : Nat} {r c : Nat → Int64} (hn : n < 2 ^ 31) (hr : ∀ j, j < n → ¬ r j < 0) {v : Nat} (hv : v < n) : gr (rsS n r c v) n < n ∧ (bsr (pkS n r c v).1 r n).toNatClampNeg = gr (rsS n r c v) n ∧ vp_updL (rsS n r c v) (gr (rsS n r c v) n) (-1) = rsS n r c (v + 1) ∧ vp_updL (pkS n r c v).2 (gr (rsS n r c v) n) ((pkS n r c v).2 (gr (rsS n r c v) n) + 1) = (pkS n r c (v + 1)).2 := by
  obtain ⟨_, h2⟩ := pkS_ok (c := c) hn hr v (by omega)
  obtain ⟨b, hb, h3, h4⟩ := h2 hv
  rcases bsr_gr (got := (pkS n r c v).1) (r := r) (rr := rsS n r c v) n hn (fun j _ q => if_neg q) (fun j hj q => ⟨if_pos q, hr j hj⟩) with ⟨a, _, _⟩ | ⟨a, d, _⟩
  · exact absurd (h3.symm.trans a) (nI_nm (by omega))
  · have e : (bsr (pkS n r c v).1 r n).toNatClampNeg = gr (rsS n r c v) n := by rw [a, nI_clamp (by omega)]
    refine ⟨d, e, ?_, ?_⟩
    · funext j
      show vp_updL _ _ _ j = if (upd (pkS n r c v).1 (bsr (pkS n r c v).1 r n).toNatClampNeg 1) j = 0 then r j else -1
      rw [e]
      by_cases ej : j = gr (rsS n r c v) n
      · rw [ej, show vp_updL (rsS n r c v) (gr (rsS n r c v) n) (-1) (gr (rsS n r c v) n) = -1 from pk_uLs, show upd (pkS n r c v).1 (gr (rsS n r c v) n) 1 (gr (rsS n r c v) n) = 1 from pk_us]
        rfl
      · rw [show vp_updL (rsS n r c v) (gr (rsS n r c v) n) (-1) j = rsS n r c v j from pk_uLn ej, show upd (pkS n r c v).1 (gr (rsS n r c v) n) 1 j = (pkS n r c v).1 j from if_neg ej]
        rfl
    · show _ = vp_updL (pkS n r c v).2 (bsr (pkS n r c v).1 r n).toNatClampNeg ((pkS n r c v).2 (bsr (pkS n r c v).1 r n).toNatClampNeg + 1)
      rw [e]
