/-! The model's table: its rows, what they mean, a stage of going through. -/
def sG (σ : hMem) (F : Nat → Nat → Int64) : hMem := (σ.1, σ.2.1, σ.2.2.1, fun a b d => if b = 9 ∧ a = 43 then F d else σ.2.2.2 a b d)
def up2 (F : Nat → Nat → Int64) (a b : Nat) (v : Int64) : Nat → Nat → Int64 := fun x y => if x = a ∧ y = b then v else F x y
theorem sG_self (σ : hMem) : σ = sG σ (hB σ 43 9) := by
  obtain ⟨p, q, r, t⟩ := σ
  unfold sG hB
  congr 1; congr 1; congr 1
  funext x y z
  by_cases h : y = 9 ∧ x = 43
  · simp [h]
  · simp [h]
theorem sG_sG (σ : hMem) (F G : Nat → Nat → Int64) : sG (sG σ F) G = sG σ G := by
  unfold sG
  congr 1; congr 1; congr 1
  funext x y z
  by_cases h : y = 9 ∧ x = 43 <;> simp [h]
theorem sB_sG (σ : hMem) (F : Nat → Nat → Int64) (a b : Nat) (v : Int64) : sB (sG σ F) 43 9 a (vp_updL (F a) b v) = sG σ (up2 F a b v) := by
  unfold sB sG
  congr 1; congr 1; congr 1
  funext x y z
  by_cases h : y = 9 ∧ x = 43
  · obtain ⟨rfl, rfl⟩ := h
    by_cases hz : z = a
    · subst hz
      simp
      funext w
      simp [vp_updL, up2]
    · simp [hz]
      funext w
      simp [up2, hz]
  · simp [h]
    intro h1 _ h2
    exact absurd ⟨h1, h2⟩ h
/-- what an entry means: FAR is none -/
def eX (v : Int64) : Option Int := if v = 1099511627776 then none else some v.toInt
def mX (F : Nat → Nat → Int64) : Nat → Nat → Option Int := fun a b => eX (F a b)
def mBd (F : Nat → Nat → Int64) (B : Int) : Prop := ∀ a b, a < 16 → b < 16 → F a b = 1099511627776 ∨ (-B ≤ (F a b).toInt ∧ (F a b).toInt ≤ B)
theorem eX_some {v : Int64} {w : Int} : eX v = some w ↔ ¬ v = 1099511627776 ∧ v.toInt = w := by
  unfold eX
  by_cases h : v = 1099511627776
  · simp [h]
  · simp [h]
theorem eX_none {v : Int64} : eX v = none ↔ v = 1099511627776 := by
  unfold eX
  by_cases h : v = 1099511627776 <;> simp [h]
theorem far_toInt : (1099511627776 : Int64).toInt = 1099511627776 := rfl
theorem jadd {x y : Int64} (h1 : -4611686018427387904 ≤ x.toInt + y.toInt) (h2 : x.toInt + y.toInt < 4611686018427387904) : (x + y).toInt = x.toInt + y.toInt := by
  rw [Int64.toInt_add]
  exact Int.bmod_eq_of_le (by omega) (by omega)
/-- an entry behind going through m -/
def nw (F : Nat → Nat → Int64) (m x y : Nat) : Int64 := if F x m < 1099511627776 ∧ F m y < 1099511627776 ∧ F x m + F m y < F x y then F x m + F m y else F x y
theorem nw_am {F : Nat → Nat → Int64} {m a : Nat} (h : F m m = 0) : nw F m a m = F a m := by
  unfold nw
  have e : F a m + 0 = F a m := by simp
  rw [h, e]
  split
  · rfl
  · rfl
theorem nw_mb {F : Nat → Nat → Int64} {m b : Nat} (h : F m m = 0) : nw F m m b = F m b := by
  unfold nw
  have e : 0 + F m b = F m b := by simp
  rw [h, e]
  split
  · rfl
  · rfl
/-- the table in the midst of a stage: entries ahead of (a, b) are done -/
def stF (F : Nat → Nat → Int64) (m a b : Nat) : Nat → Nat → Int64 := fun x y => if (x < a ∨ (x = a ∧ y < b)) ∧ y < 16 then nw F m x y else F x y
theorem stF_am {F : Nat → Nat → Int64} {m a b x : Nat} (h : F m m = 0) : stF F m a b x m = F x m := by
  unfold stF
  split
  · exact nw_am h
  · rfl
theorem stF_mb {F : Nat → Nat → Int64} {m a b y : Nat} (h : F m m = 0) : stF F m a b m y = F m y := by
  unfold stF
  split
  · exact nw_mb h
  · rfl
theorem stF_ab {F : Nat → Nat → Int64} {m a b : Nat} : stF F m a b a b = F a b := by
  unfold stF
  rw [if_neg (by omega)]
theorem stF_0 (F : Nat → Nat → Int64) (m : Nat) : F = stF F m 0 0 := by
  funext x y
  unfold stF
  rw [if_neg (by omega)]
theorem stF_row (F : Nat → Nat → Int64) (m a : Nat) : stF F m a 16 = stF F m (a + 1) 0 := by
  funext x y
  unfold stF
  by_cases h : (x < a ∨ (x = a ∧ y < 16)) ∧ y < 16
  · rw [if_pos h, if_pos (by omega)]
  · rw [if_neg h, if_neg (by omega)]
theorem stF_put {F : Nat → Nat → Int64} {m a b : Nat} (hb : b < 16) : up2 (stF F m a b) a b (nw F m a b) = stF F m a (b + 1) := by
  funext x y
  unfold up2 stF
  by_cases h : x = a ∧ y = b
  · obtain ⟨rfl, rfl⟩ := h
    simp [hb]
  · rw [if_neg h]
    by_cases h2 : (x < a ∨ (x = a ∧ y < b)) ∧ y < 16
    · rw [if_pos h2, if_pos (by omega)]
    · rw [if_neg h2, if_neg (by omega)]
theorem stF_keep {F : Nat → Nat → Int64} {m a b : Nat} (hb : b < 16) (h : nw F m a b = F a b) : stF F m a b = stF F m a (b + 1) := by
  rw [← stF_put hb]
  funext x y
  unfold up2
  by_cases h2 : x = a ∧ y = b
  · obtain ⟨rfl, rfl⟩ := h2
    rw [if_pos ⟨rfl, rfl⟩, stF_ab, h]
  · rw [if_neg h2]
/-- what a stage means -/
theorem nw_stg {F : Nat → Nat → Int64} {B : Int} {m a b : Nat} (hB : mBd F B) (hB2 : 0 ≤ B) (hB3 : B < 500000000000) (hm : m < 16) (ha : a < 16) (hb : b < 16) : eX (nw F m a b) = stg (mX F) m a b ∧ (nw F m a b = 1099511627776 ∨ (-(2 * B) ≤ (nw F m a b).toInt ∧ (nw F m a b).toInt ≤ 2 * B)) := by
  have h1 := hB a m ha hm
  have h2 := hB m b hm hb
  have h3 := hB a b ha hb
  have hf := far_toInt
  unfold stg mX
  unfold nw
  have lt1 : ∀ {v : Int64}, v < 1099511627776 ↔ v.toInt < 1099511627776 := by
    intro v
    rw [Int64.lt_iff_toInt_lt, far_toInt]
  rcases h1 with h1 | h1
  · rw [if_neg (fun q => by rw [h1] at q; exact absurd q.1 (by decide))]
    refine ⟨?_, ?_⟩
    · rw [h1, eX_none.mpr rfl]
      show eX (F a b) = omin (eX (F a b)) none
      cases eX (F a b) <;> rfl
    · rcases h3 with h3 | h3
      · exact Or.inl h3
      · exact Or.inr ⟨by omega, by omega⟩
  · rcases h2 with h2 | h2
    · rw [if_neg (fun q => by rw [h2] at q; exact absurd q.2.1 (by decide))]
      refine ⟨?_, ?_⟩
      · rw [h2, eX_none.mpr rfl]
        show eX (F a b) = omin (eX (F a b)) (oadd (eX (F a m)) none)
        cases eX (F a m) <;> cases eX (F a b) <;> rfl
      · rcases h3 with h3 | h3
        · exact Or.inl h3
        · exact Or.inr ⟨by omega, by omega⟩
    · have hs : (F a m + F m b).toInt = (F a m).toInt + (F m b).toInt := jadd (by omega) (by omega)
      have n1 : ¬ F a m = 1099511627776 := fun q => by rw [q, hf] at h1; omega
      have n2 : ¬ F m b = 1099511627776 := fun q => by rw [q, hf] at h2; omega
      have n3 : ¬ F a m + F m b = 1099511627776 := fun q => by rw [q, hf] at hs; omega
      have g1 : F a m < 1099511627776 := lt1.mpr (by omega)
      have g2 : F m b < 1099511627776 := lt1.mpr (by omega)
      rw [eX_some.mpr ⟨n1, rfl⟩, eX_some.mpr ⟨n2, rfl⟩]
      rcases h3 with h3 | h3
      · have g3 : F a m + F m b < F a b := by rw [h3]; exact lt1.mpr (by omega)
        rw [if_pos ⟨g1, g2, g3⟩]
        refine ⟨?_, Or.inr ⟨by omega, by omega⟩⟩
        rw [h3, eX_none.mpr rfl, eX_some.mpr ⟨n3, hs⟩]
        rfl
      · have n4 : ¬ F a b = 1099511627776 := fun q => by rw [q, hf] at h3; omega
        rw [eX_some.mpr ⟨n4, rfl⟩]
        by_cases g3 : F a m + F m b < F a b
        · rw [if_pos ⟨g1, g2, g3⟩]
          refine ⟨?_, Or.inr ⟨by omega, by omega⟩⟩
          rw [eX_some.mpr ⟨n3, hs⟩]
          rw [Int64.lt_iff_toInt_lt, hs] at g3
          show _ = some (if (F a m).toInt + (F m b).toInt < (F a b).toInt then (F a m).toInt + (F m b).toInt else (F a b).toInt)
          rw [if_pos g3]
        · rw [if_neg (fun q => g3 q.2.2)]
          refine ⟨?_, Or.inr ⟨by omega, by omega⟩⟩
          rw [eX_some.mpr ⟨n4, rfl⟩]
          rw [Int64.lt_iff_toInt_lt, hs] at g3
          show _ = some (if (F a m).toInt + (F m b).toInt < (F a b).toInt then (F a m).toInt + (F m b).toInt else (F a b).toInt)
          rw [if_neg g3]
/-- the sayings' edges -/
def sEd (fr to : Nat → Nat) (lo hi : Nat → Int) (inn : Nat → Prop) (n : Nat) : Nat → Nat → Int → Prop := fun a b w => ∃ k, k < n ∧ inn k ∧ ((a = fr k ∧ b = to k ∧ w = hi k) ∨ (a = to k ∧ b = fr k ∧ w = -(lo k)))
theorem PT.congr {Ed Ed' : Nat → Nat → Int → Prop} {m : Nat} {X X' : Nat → Nat → Option Int} (h : PT Ed m X) (hm : m ≤ 16) (hE : ∀ a b w, Ed a b w ↔ Ed' a b w) (hI : EdIn Ed) (hX : ∀ a b, a < 16 → b < 16 → X a b = X' a b) : PT Ed' m X' := by
  obtain ⟨h1, h2, h3, h4⟩ := h
  refine ⟨fun a ha => by rw [← hX a a ha ha]; exact h1 a ha, fun a b d ha hb hd => ?_, fun a b w hw => ?_, fun a b v ha hb hv => ?_⟩
  · rw [← hX a b ha hb, ← hX a d ha (by omega), ← hX d b (by omega) hb]
    exact h2 a b d ha hb hd
  · have hw2 := (hE a b w).mpr hw
    obtain ⟨ha, hb⟩ := hI a b w hw2
    rw [← hX a b ha hb]
    exact h3 a b w hw2
  · rw [← hX a b ha hb] at hv
    exact way_mono (fun x y z q => (hE x y z).mp q) (h4 a b v ha hb hv)
/-- an edge taken into a table that is not closed yet -/
theorem PT.edge {Ed : Nat → Nat → Int → Prop} {X X' : Nat → Nat → Option Int} {p q : Nat} {u : Int} (h : PT Ed 0 X) (hpq : p ≠ q) (hX : ∀ a b, X' a b = if a = p ∧ b = q then omin (X p q) (some u) else X a b) : PT (EdP Ed p q u) 0 X' := by
  obtain ⟨h1, h2, h3, h4⟩ := h
  refine ⟨fun a ha => ?_, fun a b d _ _ hd => absurd hd (Nat.not_lt_zero d), fun a b w hw => ?_, fun a b v ha hb hv => ?_⟩
  · rw [hX, if_neg (fun z => hpq (z.1.symm.trans z.2))]
    exact h1 a ha
  · rw [hX]
    rcases hw with hw | ⟨rfl, rfl, rfl⟩
    · by_cases h : a = p ∧ b = q
      · obtain ⟨rfl, rfl⟩ := h
        rw [if_pos ⟨rfl, rfl⟩]
        exact ole_tr (omin_l _ _) (h3 a b w hw)
      · rw [if_neg h]
        exact h3 a b w hw
    · rw [if_pos ⟨rfl, rfl⟩]
      exact omin_r _ _
  · rw [hX] at hv
    by_cases h : a = p ∧ b = q
    · obtain ⟨rfl, rfl⟩ := h
      rw [if_pos ⟨rfl, rfl⟩] at hv
      rcases omin_or (X a b) (some u) with e | e
      · rw [e] at hv
        exact way_mono (fun _ _ _ z => Or.inl z) (h4 a b v ha hb hv)
      · rw [e] at hv
        cases hv
        exact way_edge (Or.inr ⟨rfl, rfl, rfl⟩)
    · rw [if_neg h] at hv
      exact way_mono (fun _ _ _ z => Or.inl z) (h4 a b v ha hb hv)
