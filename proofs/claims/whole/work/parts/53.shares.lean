/-! What a judgement gives: the common values of both. -/
def sT (σ : hMem) (b : Nat) (S : Nat → Nat → Int64) : hMem := (σ.1, σ.2.1, σ.2.2.1, fun x y d => if y = b ∧ x = 43 then S d else σ.2.2.2 x y d)
theorem sT_self (σ : hMem) (b : Nat) : σ = sT σ b (hB σ 43 b) := by
  obtain ⟨p, q, r, s⟩ := σ
  unfold sT hB
  congr 1; congr 1; congr 1
  funext x y z
  by_cases h : y = b ∧ x = 43
  · simp [h]
  · simp [h]
theorem sB_sT (σ : hMem) (b : Nat) (S : Nat → Nat → Int64) (a c : Nat) (v : Int64) : sB (sT σ b S) 43 b a (vp_updL (S a) c v) = sT σ b (up2 S a c v) := by
  unfold sB sT
  congr 1; congr 1; congr 1
  funext x y z
  by_cases h : y = b ∧ x = 43
  · obtain ⟨rfl, rfl⟩ := h
    by_cases h2 : z = a
    · subst h2
      simp only [and_self, if_true, true_and, and_true, ↓reduceIte]
      funext w
      unfold vp_updL up2
      by_cases h3 : w = c <;> simp [h3]
    · simp only [and_self, if_true, true_and, and_true, ↓reduceIte, h2, if_false, false_and]
      funext w
      unfold up2
      simp [h2]
  · have h2 : ¬ (y = b ∧ z = a ∧ x = 43) := fun q => h ⟨q.1, q.2.2⟩
    simp only [h, h2, if_false, ↓reduceIte]
/-- the model's memory while it judges: shares, given, back, the hands' coins and how many they are -/
def aM (σ : hMem) (S : Nat → Nat → Int64) (G B : Int64) (HT : Nat → Nat → Int64) (HN : Nat → Int32) : hMem := sA (sT (sT (sL (sL σ 43 54 G) 43 55 B) 56 S) 57 HT) 43 58 0 HN
theorem sL_sL (σ : hMem) (j k : Nat) (f g : Int64) : sL (sL σ j k f) j k g = sL σ j k g := by
  unfold sL
  congr 1; congr 1
  funext x y
  by_cases h : y = k ∧ x = j <;> simp [h]
theorem sL_self (σ : hMem) (j k : Nat) : σ = sL σ j k (hL σ j k) := by
  obtain ⟨a, b, c, d⟩ := σ
  unfold sL hL
  congr 1; congr 1
  funext x y
  by_cases h : y = k ∧ x = j
  · simp [h]
  · simp [h]
theorem sL_sL_c (σ : hMem) (j k a b : Nat) (v w : Int64) (h : ¬ (b = k ∧ a = j)) : sL (sL σ a b w) j k v = sL (sL σ j k v) a b w := by
  unfold sL
  congr 1; congr 1
  funext x y
  by_cases h1 : y = k ∧ x = j
  · by_cases h2 : y = b ∧ x = a
    · exact absurd ⟨h2.1.symm.trans h1.1, h2.2.symm.trans h1.2⟩ h
    · simp [h1, h2] <;> (intro q1 q2; exact absurd ⟨q1.symm, q2.symm⟩ h)
  · simp [h1]
theorem aM_self (σ : hMem) : σ = aM σ (hB σ 43 56) (hL σ 43 54) (hL σ 43 55) (hB σ 43 57) (hA σ 43 58 0) := by
  unfold aM
  rw [← sL_self σ 43 54, ← sL_self σ 43 55, ← sT_self σ 56, ← sT_self σ 57, ← sA_self]
section AM
variable {σ : hMem} {S HT : Nat → Nat → Int64} {G B : Int64} {HN : Nat → Int32}
theorem sT_c (σ : hMem) (S T : Nat → Nat → Int64) : sT (sT σ 56 S) 57 T = sT (sT σ 57 T) 56 S := by
  unfold sT
  congr 1; congr 1; congr 1
  funext x y z
  by_cases h1 : y = 56 ∧ x = 43
  · obtain ⟨rfl, rfl⟩ := h1
    simp
  · simp [h1]
theorem aM_S {a c : Nat} {v : Int64} : sB (aM σ S G B HT HN) 43 56 a (vp_updL (S a) c v) = aM σ (up2 S a c v) G B HT HN := by
  unfold aM
  show sA (sB (sT (sT (sL (sL σ 43 54 G) 43 55 B) 56 S) 57 HT) 43 56 a (vp_updL (S a) c v)) 43 58 0 HN = _
  rw [sT_c, sB_sT, ← sT_c]
theorem aM_H {a c : Nat} {v : Int64} : sB (aM σ S G B HT HN) 43 57 a (vp_updL (HT a) c v) = aM σ S G B (up2 HT a c v) HN := by
  unfold aM
  show sA (sB (sT (sT (sL (sL σ 43 54 G) 43 55 B) 56 S) 57 HT) 43 57 a (vp_updL (HT a) c v)) 43 58 0 HN = _
  rw [sB_sT]
theorem aM_N {N : Nat → Int32} : sA (aM σ S G B HT HN) 43 58 0 N = aM σ S G B HT N := by
  unfold aM
  rw [sA_sA]
theorem aM_G {g : Int64} : sL (aM σ S G B HT HN) 43 54 g = aM σ S g B HT HN := by
  show sA (sT (sT (sL (sL (sL σ 43 54 G) 43 55 B) 43 54 g) 56 S) 57 HT) 43 58 0 HN = _
  rw [sL_sL_c _ 43 54 43 55 _ _ (by decide), sL_sL]
  rfl
theorem aM_B {g : Int64} : sL (aM σ S G B HT HN) 43 55 g = aM σ S G g HT HN := by
  show sA (sT (sT (sL (sL (sL σ 43 54 G) 43 55 B) 43 55 g) 56 S) 57 HT) 43 58 0 HN = _
  rw [sL_sL]
  rfl
end AM
/-- F below n in the row a -/
def preU (HT : Nat → Nat → Int64) (a : Nat) (F : Nat → Int64) (n : Nat) : Nat → Nat → Int64 := fun x y => if x = a ∧ y < n then F y else HT x y
theorem preU_0 (HT : Nat → Nat → Int64) (a : Nat) (F : Nat → Int64) : HT = preU HT a F 0 := by
  funext x y
  unfold preU
  rw [if_neg (fun q => absurd q.2 (Nat.not_lt_zero y))]
theorem preU_s (HT : Nat → Nat → Int64) (a : Nat) (F : Nat → Int64) (n : Nat) : up2 (preU HT a F n) a n (F n) = preU HT a F (n + 1) := by
  funext x y
  unfold up2 preU
  by_cases h : x = a ∧ y = n
  · obtain ⟨rfl, rfl⟩ := h
    simp
  · rw [if_neg h]
    by_cases h2 : x = a ∧ y < n
    · rw [if_pos h2, if_pos ⟨h2.1, by omega⟩]
    · rw [if_neg h2, if_neg (fun q => by
        by_cases e : y = n
        · exact h ⟨q.1, e⟩
        · exact h2 ⟨q.1, by omega⟩)]
theorem preU_lt {HT : Nat → Nat → Int64} {a : Nat} {F : Nat → Int64} {n y : Nat} (h : y < n) : preU HT a F n a y = F y := if_pos ⟨rfl, h⟩
theorem preU_ge {HT : Nat → Nat → Int64} {a : Nat} {F : Nat → Int64} {n y : Nat} (h : ¬ y < n) : preU HT a F n a y = HT a y := if_neg (fun q => h q.2)
theorem preU_o {HT : Nat → Nat → Int64} {a x : Nat} {F : Nat → Int64} {n y : Nat} (h : ¬ x = a) : preU HT a F n x y = HT x y := if_neg (fun q => h q.1)
theorem up2_s {S : Nat → Nat → Int64} {a c : Nat} {v : Int64} : up2 S a c v a c = v := if_pos ⟨rfl, rfl⟩
theorem up2_c {S : Nat → Nat → Int64} {a b c d : Nat} {v : Int64} (h : ¬ d = c) : up2 S a c v b d = S b d := if_neg (fun q => h q.2)
theorem up2_r {S : Nat → Nat → Int64} {a b c d : Nat} {v : Int64} (h : ¬ b = a) : up2 S a c v b d = S b d := if_neg (fun q => h q.1)
def ltF (cl af la : Int32) : Int64 := if cl ≤ af then 0 else ((cl - af) / 30).toInt64 * la.toInt64
def lsF (c l : Int64) : Int64 := c * (if 1000 < l then 1000 else l) / 1000
def hcF (cr : Int64) (w : Nat → Int32) (ws : Int32) (i : Nat) : Int64 := cr * (w i).toInt64 / ws.toInt64
def hrF (F : Nat → Nat → Int64) (lf cm : Nat → Int32) (i : Nat) : Int64 := if F (lf i).toNatClampNeg (cm i).toNatClampNeg = 1099511627776 then 0 else if 0 < F (lf i).toNatClampNeg (cm i).toNatClampNeg then 0 else -F (lf i).toNatClampNeg (cm i).toNatClampNeg
def wtF (F : Nat → Nat → Int64) (lf cm tn : Nat → Int32) (i : Nat) : Int64 := (tn i).toInt64 * hrF F lf cm i
def gvF (all : Int64) (rate : Int32) (W : Int64) : Int64 := if W = 0 then 0 else all * rate.toInt64 / 1000
def coF (g : Int64) (wt : Nat → Int64) (W : Int64) (i : Nat) : Int64 := if W = 0 then 0 else g * wt i / W
def rsF (g : Int64) (wt : Nat → Int64) (W : Int64) (i : Nat) : Int64 := g * wt i - g * wt i / W * W
/-- column c of the shares is f below k -/
def sc (S : Nat → Nat → Int64) (c : Nat) (f : Nat → Int64) (k : Nat) : Prop := ∀ i, i < k → S i c = f i
theorem sc.s {S : Nat → Nat → Int64} {c : Nat} {f : Nat → Int64} {k : Nat} {v : Int64} (h : sc S c f k) (hv : v = f k) : sc (up2 S k c v) c f (k + 1) := by
  intro i hi
  by_cases e : i = k
  · rw [e, up2_s, hv]
  · rw [up2_r e]; exact h i (by omega)
theorem sc.o {S : Nat → Nat → Int64} {c d : Nat} {f : Nat → Int64} {k a : Nat} {v : Int64} (h : sc S c f k) (hd : ¬ c = d) : sc (up2 S a d v) c f k := fun i hi => by rw [up2_c hd]; exact h i hi
theorem sc.z (S : Nat → Nat → Int64) (c : Nat) (f : Nat → Int64) : sc S c f 0 := fun i hi => absurd hi (Nat.not_lt_zero i)
