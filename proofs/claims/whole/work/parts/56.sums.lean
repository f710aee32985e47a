/-! The sums of a judgement as natural numbers. -/
theorem lN_0 {a : Nat} (ha : a < 2 ^ 63) : lN a = 0 ↔ a = 0 := pk_lEQ (b := 0) ha (by decide)
theorem lN_nn {a : Nat} (ha : a < 2 ^ 63) : ¬ lN a < 0 := fun q => absurd ((pk_lLT (b := 0) ha (by decide)).mp q) (Nat.not_lt_zero a)
theorem sub0 : ∀ n, subL 0 (fun _ => 0) n = 0
  | 0 => rfl
  | n + 1 => by
    show subL 0 (fun _ => 0) n - 0 = 0
    rw [sub0 n]
    rfl
section SUMS
variable {n : Nat} {wt : Nat → Int64} {w : Nat → Nat} {all : Int64} {rate : Int32} {A R : Nat}
theorem part_ok (hn8 : n ≤ 8) (hw : ∀ i, i < n → wt i = lN (w i) ∧ w i ≤ 750000000) (hA : all = lN A) (hA7 : A ≤ 10000000) (hR : rate = nI R) (hR3 : R ≤ 1000) : ∃ (V G : Nat) (c : Nat → Nat), sumL wt n = lN (sumN w n) ∧ sumN w n ≤ 6000000000 ∧ gvF all rate (sumL wt n) = lN G ∧ G ≤ 10000000 ∧ (∀ i, i < n → coF (gvF all rate (sumL wt n)) wt (sumL wt n) i = lN (c i) ∧ c i ≤ 10000000) ∧ subL (gvF all rate (sumL wt n)) (coF (gvF all rate (sumL wt n)) wt (sumL wt n)) n = lN V ∧ V ≤ n ∧ (0 < V → ¬ sumL wt n = 0) ∧ (¬ sumL wt n = 0 → ∀ i, i < n → ¬ rsF (gvF all rate (sumL wt n)) wt (sumL wt n) i < 0) := by
  have hs : sumL wt n = lN (sumN w n) := sumL_N n (fun i hi => (hw i hi).1)
  have hb : sumN w n ≤ 6000000000 := by
    have := sumN_le (f := w) n (fun i hi => (hw i hi).2)
    have h2 : n * 750000000 ≤ 8 * 750000000 := Nat.mul_le_mul_right _ hn8
    omega
  by_cases h0 : sumN w n = 0
  · have hz : sumL wt n = 0 := by rw [hs, h0]; rfl
    have hg : gvF all rate (sumL wt n) = 0 := if_pos hz
    refine ⟨0, 0, fun _ => 0, hs, hb, hg, by decide, fun i hi => ⟨if_pos hz, Nat.zero_le _⟩, ?_, Nat.zero_le n, fun q => absurd q (Nat.lt_irrefl 0), fun q => absurd hz q⟩
    rw [hg, show coF 0 wt (sumL wt n) = fun _ => 0 from by funext i; exact if_pos hz]
    exact sub0 n
  · have hz : ¬ sumL wt n = 0 := by rw [hs]; exact fun q => h0 ((lN_0 (by omega)).mp q)
    have hG : gvF all rate (sumL wt n) = lN (A * R / 1000) := by
      unfold gvF
      rw [if_neg hz, hA, hR, nI_l (by omega), lN_mul, show (1000 : Int64) = lN 1000 from rfl]
      have : A * R ≤ 10000000 * 1000 := Nat.mul_le_mul hA7 hR3
      exact pk_lDiv (by omega) (by decide) (by decide)
    have hG7 : A * R / 1000 ≤ 10000000 := by
      have : A * R ≤ 10000000 * 1000 := Nat.mul_le_mul hA7 hR3
      omega
    generalize hGe : A * R / 1000 = G at hG hG7
    have hGw : ∀ i, i < n → G * w i ≤ 7500000000000000 := fun i hi => Nat.le_trans (Nat.mul_le_mul hG7 (hw i hi).2) (by decide)
    have hco : ∀ i, i < n → coF (gvF all rate (sumL wt n)) wt (sumL wt n) i = lN (G * w i / sumN w n) := by
      intro i hi
      have := hGw i hi
      unfold coF
      rw [if_neg hz, hG, (hw i hi).1, lN_mul, hs]
      exact pk_lDiv (by omega) (by omega) (by omega)
    have hle := dv_le (G := G) (w := w) (n := n) (by omega) rfl
    have hn0 : 0 < n := by
      cases n with
      | zero => exact absurd rfl h0
      | succ m => exact Nat.succ_pos m
    have hlt := dv_lt (G := G) (w := w) (n := n) (by omega) hn0 rfl
    refine ⟨G - sumN (fun i => G * w i / sumN w n) n, G, fun i => G * w i / sumN w n, hs, hb, hG, hG7, fun i hi => ⟨hco i hi, ?_⟩, subL_N hG n hco hle, by omega, fun _ => hz, fun _ i hi => ?_⟩
    · have h1 : G * w i ≤ G * sumN w n := Nat.mul_le_mul_left G (sumN_ge n i hi)
      have h2 := Nat.div_le_div_right (c := sumN w n) h1
      rw [Nat.mul_div_cancel _ (show 0 < sumN w n by omega)] at h2
      exact Nat.le_trans h2 hG7
    · have := hGw i hi
      unfold rsF
      rw [hG, (hw i hi).1, lN_mul, hs, pk_lRem (by omega) (by omega) (by omega)]
      have h3 := Nat.mod_lt (G * w i) (show 0 < sumN w n by omega)
      exact lN_nn (by omega)
/-- the coins of a ship, with the coin that it may have got -/
theorem cf_ok {r co : Nat → Int64} {c : Nat → Nat} {V : Nat} (hn8 : n ≤ 8) (hc : ∀ i, i < n → co i = lN (c i) ∧ c i ≤ 10000000) (hV : V ≤ n) (hr : 0 < V → ∀ j, j < n → ¬ r j < 0) {i : Nat} (hi : i < n) : ∃ x, (pkS n r co V).2 i = lN x ∧ x ≤ 10000001 := by
  obtain ⟨h1, h2⟩ := hc i hi
  by_cases h0 : V = 0
  · subst h0
    exact ⟨c i, h1, by omega⟩
  · obtain ⟨h3, _⟩ := pkS_c (c := co) (n := n) (r := r) (by omega) (hr (by omega)) V hV i
    rw [h3]
    split
    · exact ⟨c i, h1, by omega⟩
    · exact ⟨c i + 1, by rw [h1, lN_1], by omega⟩
end SUMS
def ls9 (c : Int64) (cl af la : Int32) : Int64 := lsF c (ltF cl af la)
def cc9 (c : Int64) (cl af la : Int32) : Int64 := c - ls9 c cl af la
def ow9 (c : Int64) (cl af la x : Int32) : Int64 := cc9 c cl af la * x.toInt64 / 100
def cr9 (c : Int64) (cl af la ow ma : Int32) : Int64 := cc9 c cl af la - ow9 c cl af la ow - ow9 c cl af la ma
theorem sumI_N {f : Nat → Int32} {q : Nat → Nat} : ∀ n, (∀ i, i < n → f i = nI (q i)) → sumI f n = nI (sumN q n)
  | 0, _ => rfl
  | n + 1, h => by
    show sumI f n + f n = nI (sumN q n + q n)
    rw [sumI_N n (fun i hi => h i (by omega)), h n (by omega), nI_add]
theorem ab_ok {c : Int64} {c0 a1 a2 a3 o m hd : Nat} {cl af la ow ma : Int32} {w : Nat → Int32} {q : Nat → Nat} (hc : c = lN c0) (hc7 : c0 ≤ 10000001) (h1 : cl = nI a1) (h1' : a1 ≤ 5000) (h2 : af = nI a2) (h2' : a2 ≤ 5000) (h3 : la = nI a3) (h3' : a3 ≤ 1000) (h4 : ow = nI o) (h5 : ma = nI m) (hom : o + m ≤ 100) (hd0 : 0 < hd) (hd60 : hd ≤ 60) (hw : ∀ i, i < hd → w i = nI (q i) ∧ 1 ≤ q i ∧ q i ≤ 9) : ¬ (sumI w hd).toInt64 = 0 ∧ ∃ V, subL (cr9 c cl af la ow ma) (hcF (cr9 c cl af la ow ma) w (sumI w hd)) hd = lN V ∧ V ≤ hd := by
  have hs : sumI w hd = nI (sumN q hd) := sumI_N hd (fun i hi => (hw i hi).1)
  have hsb : sumN q hd ≤ 540 := by
    have := sumN_le (f := q) hd (fun i hi => (hw i hi).2.2)
    omega
  have hsp : 0 < sumN q hd := by
    have := sumN_ge (f := q) hd 0 hd0
    have := (hw 0 hd0).2.1
    omega
  have hsl : (sumI w hd).toInt64 = lN (sumN q hd) := by rw [hs, nI_l (by omega)]
  refine ⟨by rw [hsl]; exact fun z => absurd ((lN_0 (by omega)).mp z) (by omega), ?_⟩
  -- what is late
  obtain ⟨T, hT, hT'⟩ : ∃ T, ltF cl af la = lN T ∧ T ≤ 200000 := by
    unfold ltF
    by_cases e : cl ≤ af
    · rw [if_pos e]; exact ⟨0, rfl, by decide⟩
    · rw [if_neg e]
      rw [h1, h2, nI_leI (by omega) (by omega)] at e
      have e1 : cl - af = nI (a1 - a2) := by rw [h1, h2, nI_subN (by omega)]
      have e2 : (cl - af) / 30 = nI ((a1 - a2) / 30) := by rw [e1]; exact pk_div (d := 30) (by omega) (by decide) (by decide)
      rw [e2, h3, nI_l (by omega), nI_l (by omega), lN_mul]
      refine ⟨_, rfl, ?_⟩
      have : (a1 - a2) / 30 * a3 ≤ 166 * 1000 := Nat.mul_le_mul (by omega) h3'
      omega
  obtain ⟨l, hl, hl'⟩ : ∃ l, ls9 c cl af la = lN l ∧ l ≤ c0 := by
    unfold ls9 lsF
    rw [hT]
    obtain ⟨K, hK, hK'⟩ : ∃ K, (if 1000 < lN T then 1000 else lN T) = lN K ∧ K ≤ 1000 := by
      by_cases e : 1000 < lN T
      · rw [if_pos e]; exact ⟨1000, rfl, Nat.le_refl _⟩
      · rw [if_neg e]
        have e' := fun z => e ((pk_lLT (a := 1000) (b := T) (by decide) (by omega)).mpr z)
        exact ⟨T, rfl, Nat.not_lt.mp e'⟩
    rw [hK, hc, lN_mul, show (1000 : Int64) = lN 1000 from rfl]
    have hb : c0 * K ≤ c0 * 1000 := Nat.mul_le_mul_left c0 hK'
    rw [pk_lDiv (by omega) (by decide) (by decide)]
    exact ⟨_, rfl, by omega⟩
  have hcc : cc9 c cl af la = lN (c0 - l) := by
    unfold cc9
    rw [hl, hc, lN_sub hl']
  have how : ∀ (x : Int32) (y : Nat), x = nI y → y ≤ 100 → ow9 c cl af la x = lN ((c0 - l) * y / 100) := by
    intro x y hx hy
    unfold ow9
    have hb : (c0 - l) * y ≤ (c0 - l) * 100 := Nat.mul_le_mul_left _ hy
    rw [hcc, hx, nI_l (by omega), lN_mul, show (100 : Int64) = lN 100 from rfl, pk_lDiv (by omega) (by decide) (by decide)]
  have hsum : (c0 - l) * o / 100 + (c0 - l) * m / 100 ≤ c0 - l := by
    have e : (c0 - l) * o + (c0 - l) * m ≤ (c0 - l) * 100 := by
      rw [← Nat.mul_add]
      exact Nat.mul_le_mul_left _ hom
    omega
  have hcr : cr9 c cl af la ow ma = lN (c0 - l - (c0 - l) * o / 100 - (c0 - l) * m / 100) := by
    unfold cr9
    rw [hcc, how ow o h4 (by omega), how ma m h5 (by omega), lN_sub (by omega), lN_sub (by omega)]
  generalize hg : c0 - l - (c0 - l) * o / 100 - (c0 - l) * m / 100 = C at hcr
  have hC : C ≤ 10000001 := by omega
  have hhc : ∀ i, i < hd → hcF (cr9 c cl af la ow ma) w (sumI w hd) i = lN (C * q i / sumN q hd) := by
    intro i hi
    unfold hcF
    have hb : C * q i ≤ C * 9 := Nat.mul_le_mul_left _ (hw i hi).2.2
    have h9 := (hw i hi).2.2
    rw [hcr, (hw i hi).1, nI_l (by omega), lN_mul, hsl, pk_lDiv (by omega) hsp (by omega)]
  have hle := dv_le (G := C) (w := q) (n := hd) hsp rfl
  have hlt := dv_lt (G := C) (w := q) (n := hd) hsp hd0 rfl
  exact ⟨_, subL_N hcr hd hhc hle, by omega⟩
/-- what is held of the ships below k, when all are below k it is the judgement -/
def PI (ns : Nat) (hr wt cf : Nat → Int64) (af la : Int32) (cl ow ma : Nat → Int32) (hd : Nat → Nat) (w : Nat → Nat → Int32) (S : Nat → Nat → Int64) (B : Int64) (HT : Nat → Nat → Int64) (HN : Nat → Int32) (k : Nat) : Prop :=
  (∀ i, i < ns → S i 0 = hr i ∧ S i 1 = wt i) ∧ (∀ i, k ≤ i → i < ns → S i 2 = cf i) ∧ (∀ i, i < k → S i 2 = cc9 (cf i) (cl i) af la ∧ S i 3 = ow9 (cf i) (cl i) af la (ow i) ∧ S i 4 = ow9 (cf i) (cl i) af la (ma i) ∧ S i 5 = cr9 (cf i) (cl i) af la (ow i) (ma i) ∧ S i 6 = ls9 (cf i) (cl i) af la) ∧ B = sumL (fun i => ls9 (cf i) (cl i) af la) k ∧ (∀ i, i < k → HN i = nI (hd i)) ∧ (∀ i, i < k → ∃ V, subL (cr9 (cf i) (cl i) af la (ow i) (ma i)) (hcF (cr9 (cf i) (cl i) af la (ow i) (ma i)) (w i) (sumI (w i) (hd i))) (hd i) = lN V ∧ V ≤ hd i ∧ ∀ y, y < hd i → HT i y = if y < V then hcF (cr9 (cf i) (cl i) af la (ow i) (ma i)) (w i) (sumI (w i) (hd i)) y + 1 else hcF (cr9 (cf i) (cl i) af la (ow i) (ma i)) (w i) (sumI (w i) (hd i)) y)
theorem PI.uniq {ns : Nat} {hr wt cf : Nat → Int64} {af la : Int32} {cl ow ma : Nat → Int32} {hd : Nat → Nat} {w : Nat → Nat → Int32} {S S' : Nat → Nat → Int64} {B B' : Int64} {HT HT' : Nat → Nat → Int64} {HN HN' : Nat → Int32} (hd60 : ∀ i, i < ns → hd i ≤ 60) (h : PI ns hr wt cf af la cl ow ma hd w S B HT HN ns) (h' : PI ns hr wt cf af la cl ow ma hd w S' B' HT' HN' ns) : B = B' ∧ ∀ i, i < ns → (∀ c, c < 7 → S i c = S' i c) ∧ HN i = HN' i ∧ HN i = nI (hd i) ∧ ∀ y, y < hd i → HT i y = HT' i y := by
  refine ⟨h.2.2.2.1.trans h'.2.2.2.1.symm, fun i hi => ⟨fun c hc => ?_, ?_, ?_, ?_⟩⟩
  · rcases (show c = 0 ∨ c = 1 ∨ c = 2 ∨ c = 3 ∨ c = 4 ∨ c = 5 ∨ c = 6 by omega) with rfl | rfl | rfl | rfl | rfl | rfl | rfl
    · exact ((h.1 i hi).1).trans ((h'.1 i hi).1).symm
    · exact ((h.1 i hi).2).trans ((h'.1 i hi).2).symm
    · exact ((h.2.2.1 i hi).1).trans ((h'.2.2.1 i hi).1).symm
    · exact ((h.2.2.1 i hi).2.1).trans ((h'.2.2.1 i hi).2.1).symm
    · exact ((h.2.2.1 i hi).2.2.1).trans ((h'.2.2.1 i hi).2.2.1).symm
    · exact ((h.2.2.1 i hi).2.2.2.1).trans ((h'.2.2.1 i hi).2.2.2.1).symm
    · exact ((h.2.2.1 i hi).2.2.2.2).trans ((h'.2.2.1 i hi).2.2.2.2).symm
  · exact (h.2.2.2.2.1 i hi).trans (h'.2.2.2.2.1 i hi).symm
  · exact h.2.2.2.2.1 i hi
  · intro y hy
    obtain ⟨V, h1, h2, h3⟩ := h.2.2.2.2.2 i hi
    obtain ⟨V', h1', h2', h3'⟩ := h'.2.2.2.2.2 i hi
    have h60 := hd60 i hi
    have e : V = V' := (pk_lEQ (by omega) (by omega)).mp (h1.symm.trans h1')
    subst e
    rw [h3 y hy, h3' y hy]
