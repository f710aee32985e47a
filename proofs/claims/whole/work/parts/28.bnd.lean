/-! The class's table of bounds: a row of 256 ints; what it means; how large its entries are. -/
def cE (v : Int32) : Option Int := if v = 2147483647 then none else some v.toInt
def cX (f : Nat → Int32) : Nat → Nat → Option Int := fun a b => cE (f (a * 16 + b))
def cBd (f : Nat → Int32) : Prop := ∀ a b, a < 16 → b < 16 → f (a * 16 + b) = 2147483647 ∨ (-655360000 ≤ (f (a * 16 + b)).toInt ∧ (f (a * 16 + b)).toInt ≤ 655360000)
theorem cE_some {v : Int32} {w : Int} : cE v = some w ↔ ¬ v = 2147483647 ∧ v.toInt = w := by
  unfold cE
  by_cases h : v = 2147483647
  · simp [h]
  · simp [h]
theorem cE_none {v : Int32} : cE v = none ↔ v = 2147483647 := by
  unfold cE
  by_cases h : v = 2147483647 <;> simp [h]
theorem open_toInt : (2147483647 : Int32).toInt = 2147483647 := rfl
theorem iadd32 {x y : Int32} (h1 : -2147483648 ≤ x.toInt + y.toInt) (h2 : x.toInt + y.toInt < 2147483648) : (x + y).toInt = x.toInt + y.toInt := by
  rw [Int32.toInt_add]
  exact Int.bmod_eq_of_le (by omega) (by omega)
/-- an entry behind the way over a, b -/
def lmV (f : Nat → Int32) (a b : Nat) (u : Int32) (x y : Nat) : Int32 := if ¬ f (x * 16 + a) = 2147483647 ∧ ¬ f (b * 16 + y) = 2147483647 ∧ f (x * 16 + a) + u + f (b * 16 + y) < f (x * 16 + y) then f (x * 16 + a) + u + f (b * 16 + y) else f (x * 16 + y)
def lmF (f : Nat → Int32) (a b : Nat) (u : Int32) (x y : Nat) : Nat → Int32 := fun i => if i < 256 ∧ (i / 16 < x ∨ (i / 16 = x ∧ i % 16 < y)) then lmV f a b u (i / 16) (i % 16) else f i
theorem ix_div {x y : Nat} (hy : y < 16) : (x * 16 + y) / 16 = x ∧ (x * 16 + y) % 16 = y := by omega
theorem lmF_new {f : Nat → Int32} {a b : Nat} {u : Int32} {x y x' y' : Nat} (hy : y' < 16) (h : ¬ (x' < x ∨ (x' = x ∧ y' < y))) : lmF f a b u x y (x' * 16 + y') = f (x' * 16 + y') := by
  unfold lmF
  have := ix_div (x := x') hy
  rw [this.1, this.2, if_neg (fun q => h q.2)]
theorem lmF_old {f : Nat → Int32} {a b : Nat} {u : Int32} {x y x' y' : Nat} (hx : x' < 16) (hy : y' < 16) (h : x' < x ∨ (x' = x ∧ y' < y)) : lmF f a b u x y (x' * 16 + y') = lmV f a b u x' y' := by
  unfold lmF
  have := ix_div (x := x') hy
  rw [this.1, this.2, if_pos ⟨by omega, h⟩]
theorem lmF_0 (f : Nat → Int32) (a b : Nat) (u : Int32) : f = lmF f a b u 0 0 := by
  funext i
  unfold lmF
  rw [if_neg (by omega)]
theorem lmF_row (f : Nat → Int32) (a b : Nat) (u : Int32) (x : Nat) : lmF f a b u x 16 = lmF f a b u (x + 1) 0 := by
  funext i
  unfold lmF
  by_cases h : i < 256 ∧ (i / 16 < x ∨ (i / 16 = x ∧ i % 16 < 16))
  · rw [if_pos h, if_pos (by omega)]
  · rw [if_neg h, if_neg (by omega)]
theorem lmF_skip {f : Nat → Int32} {a b : Nat} {u : Int32} {x y : Nat} (h : f (x * 16 + a) = 2147483647) : lmF f a b u x y = lmF f a b u (x + 1) 0 := by
  funext i
  unfold lmF
  by_cases h1 : i < 256 ∧ (i / 16 < x ∨ (i / 16 = x ∧ i % 16 < y))
  · rw [if_pos h1, if_pos (by omega)]
  · rw [if_neg h1]
    by_cases h2 : i < 256 ∧ (i / 16 < x + 1 ∨ (i / 16 = x + 1 ∧ i % 16 < 0))
    · rw [if_pos h2]
      have e : i / 16 = x := by omega
      unfold lmV
      rw [e, if_neg (fun q => q.1 h)]
      exact congrArg f (by omega)
    · rw [if_neg h2]
theorem lmF_put {f : Nat → Int32} {a b : Nat} {u : Int32} {x y : Nat} (hx : x < 16) (hy : y < 16) : upd (lmF f a b u x y) (x * 16 + y) (lmV f a b u x y) = lmF f a b u x (y + 1) := by
  funext i
  show (if i = x * 16 + y then lmV f a b u x y else lmF f a b u x y i) = lmF f a b u x (y + 1) i
  by_cases h : i = x * 16 + y
  · rw [if_pos h, h, lmF_old hx hy (Or.inr ⟨rfl, by omega⟩)]
  · rw [if_neg h]
    unfold lmF
    by_cases h1 : i < 256 ∧ (i / 16 < x ∨ (i / 16 = x ∧ i % 16 < y))
    · rw [if_pos h1, if_pos (by omega)]
    · rw [if_neg h1, if_neg (by omega)]
theorem lmF_keep {f : Nat → Int32} {a b : Nat} {u : Int32} {x y : Nat} (hx : x < 16) (hy : y < 16) (h : lmV f a b u x y = f (x * 16 + y)) : lmF f a b u x y = lmF f a b u x (y + 1) := by
  rw [← lmF_put hx hy]
  funext i
  show lmF f a b u x y i = if i = x * 16 + y then lmV f a b u x y else lmF f a b u x y i
  by_cases h2 : i = x * 16 + y
  · rw [if_pos h2, h2, lmF_new hy (by omega), h]
  · rw [if_neg h2]
/-- no way back over the edge is below 0: then the row of b stays -/
theorem lmV_b {f : Nat → Int32} {a b y : Nat} {u : Int32} (hB : cBd f) (ha : a < 16) (hb : b < 16) (hy : y < 16) (hu : -10000 ≤ u.toInt ∧ u.toInt ≤ 10000) (hc : ∀ v, cX f b a = some v → 0 ≤ v + u.toInt) : lmV f a b u b y = f (b * 16 + y) := by
  unfold lmV
  by_cases h : ¬ f (b * 16 + a) = 2147483647 ∧ ¬ f (b * 16 + y) = 2147483647 ∧ f (b * 16 + a) + u + f (b * 16 + y) < f (b * 16 + y)
  · exfalso
    obtain ⟨h1, h2, h3⟩ := h
    have g1 := hB b a hb ha
    have g2 := hB b y hb hy
    rcases g1 with g1 | g1
    · exact h1 g1
    · rcases g2 with g2 | g2
      · exact h2 g2
      · have hcc := hc _ (cE_some.mpr ⟨h1, rfl⟩)
        have e1 : (f (b * 16 + a) + u).toInt = (f (b * 16 + a)).toInt + u.toInt := iadd32 (by omega) (by omega)
        have e2 : (f (b * 16 + a) + u + f (b * 16 + y)).toInt = (f (b * 16 + a)).toInt + u.toInt + (f (b * 16 + y)).toInt := by
          rw [iadd32 (by rw [e1]; omega) (by rw [e1]; omega), e1]
        rw [Int32.lt_iff_toInt_lt, e2] at h3
        omega
  · rw [if_neg h]
theorem lmV_lim {f : Nat → Int32} {a b x y : Nat} {u : Int32} (hB : cBd f) (ha : a < 16) (hb : b < 16) (hx : x < 16) (hy : y < 16) (hu : -10000 ≤ u.toInt ∧ u.toInt ≤ 10000) : cE (lmV f a b u x y) = lim (cX f) a b u.toInt x y := by
  have g1 := hB x a hx ha
  have g2 := hB b y hb hy
  have g3 := hB x y hx hy
  have ho := open_toInt
  unfold lmV lim cX
  rcases g1 with g1 | g1
  · rw [if_neg (fun q => q.1 g1), g1, cE_none.mpr rfl]
    show cE _ = omin (cE _) none
    cases cE (f (x * 16 + y)) <;> rfl
  · have n1 : ¬ f (x * 16 + a) = 2147483647 := fun q => by rw [q, ho] at g1; omega
    rcases g2 with g2 | g2
    · rw [if_neg (fun q => q.2.1 g2), g2, cE_none.mpr rfl, cE_some.mpr ⟨n1, rfl⟩]
      show cE _ = omin (cE _) none
      cases cE (f (x * 16 + y)) <;> rfl
    · have n2 : ¬ f (b * 16 + y) = 2147483647 := fun q => by rw [q, ho] at g2; omega
      have e1 : (f (x * 16 + a) + u).toInt = (f (x * 16 + a)).toInt + u.toInt := iadd32 (by omega) (by omega)
      have e2 : (f (x * 16 + a) + u + f (b * 16 + y)).toInt = (f (x * 16 + a)).toInt + u.toInt + (f (b * 16 + y)).toInt := by
        rw [iadd32 (by rw [e1]; omega) (by rw [e1]; omega), e1]
      have n3 : ¬ f (x * 16 + a) + u + f (b * 16 + y) = 2147483647 := fun q => by rw [q, ho] at e2; omega
      rw [cE_some.mpr ⟨n1, rfl⟩, cE_some.mpr ⟨n2, rfl⟩]
      rcases g3 with g3 | g3
      · have hl : f (x * 16 + a) + u + f (b * 16 + y) < f (x * 16 + y) := by
          rw [Int32.lt_iff_toInt_lt, e2, g3, ho]
          omega
        rw [if_pos ⟨n1, n2, hl⟩, g3, cE_none.mpr rfl, cE_some.mpr ⟨n3, e2⟩]
        rfl
      · have n4 : ¬ f (x * 16 + y) = 2147483647 := fun q => by rw [q, ho] at g3; omega
        rw [cE_some.mpr ⟨n4, rfl⟩]
        by_cases hl : f (x * 16 + a) + u + f (b * 16 + y) < f (x * 16 + y)
        · rw [if_pos ⟨n1, n2, hl⟩, cE_some.mpr ⟨n3, e2⟩]
          rw [Int32.lt_iff_toInt_lt, e2] at hl
          show _ = some (if _ < _ then _ else _)
          rw [if_pos hl]
        · rw [if_neg (fun q => hl q.2.2), cE_some.mpr ⟨n4, rfl⟩]
          rw [Int32.lt_iff_toInt_lt, e2] at hl
          show _ = some (if _ < _ then _ else _)
          rw [if_neg hl]
/-- a table at all, with entries not too large -/
theorem fwE {Ed : Nat → Nat → Int → Prop} {F : Nat → Nat → Int64} (hE : EdIn Ed) (h0 : PT Ed 0 (mX F)) (hB : mBd F 10000) (hN : NoNeg Ed) : ∀ m, m ≤ 16 → ∃ G, PT Ed m (mX G) ∧ mBd G (10000 * 2 ^ m)
  | 0, _ => ⟨F, h0, by
      have e : (10000 * 2 ^ 0 : Int) = 10000 := by decide
      rw [e]
      exact hB⟩
  | m + 1, hm => by
    obtain ⟨G, h1, h2⟩ := fwE hE h0 hB hN m (by omega)
    have hp := pow_m (m := m) (by omega)
    have hm16 : m < 16 := by omega
    have e : ∀ a b, a < 16 → b < 16 → stg (mX G) m a b = mX (stF G m 16 0) a b := by
      intro a b ha hb
      show _ = eX (stF G m 16 0 a b)
      rw [stF_16 ha hb]
      exact (nw_stg h2 hp.1 hp.2 hm16 ha hb).1.symm
    have h3 : PT Ed (m + 1) (stg (mX G) m) := by
      refine stg_pt hm16 h1 (fun a v ha hv => ?_)
      rcases omin_or (mX G a a) (oadd (mX G a m) (mX G m a)) with q | q
      · exact hN a v (h1.2.2.2 a a v ha ha (q.symm.trans hv))
      · have hv2 : oadd (mX G a m) (mX G m a) = some v := q.symm.trans hv
        cases ea : mX G a m with
        | none => rw [ea] at hv2; cases hv2
        | some va =>
          cases ec : mX G m a with
          | none => rw [ea, ec] at hv2; cases hv2
          | some vb =>
            rw [ea, ec] at hv2
            have e2 : va + vb = v := Option.some.inj hv2
            rw [← e2]
            exact hN a _ (way_tr (h1.2.2.2 a m va ha hm16 ea) (h1.2.2.2 m a vb hm16 ha ec))
    refine ⟨stF G m 16 0, h3.congr (by omega) (fun _ _ _ => Iff.rfl) hE e, fun a b ha hb => ?_⟩
    rw [stF_16 ha hb]
    have h4 := (nw_stg h2 hp.1 hp.2 hm16 ha hb).2
    have h5 : (10000 * 2 ^ (m + 1) : Int) = 2 * (10000 * 2 ^ m) := by
      rw [Int.pow_succ]
      omega
    rw [h5]
    exact h4
/-- edges that a table over them begins with -/
def Seed (Ed : Nat → Nat → Int → Prop) : Prop := ∃ F, PT Ed 0 (mX F) ∧ mBd F 10000
theorem Seed.edge {Ed : Nat → Nat → Int → Prop} {p q : Nat} {u : Int} (h : Seed Ed) (hp : p < 16) (hq : q < 16) (hpq : p ≠ q) (hu : -10000 ≤ u ∧ u ≤ 10000) : Seed (EdP Ed p q u) := by
  obtain ⟨F, h1, h2⟩ := h
  have e : (Int64.ofInt u).toInt = u := by
    rw [Int64.toInt_ofInt, show Int64.size = 18446744073709551616 from rfl]
    exact Int.bmod_eq_of_le (by omega) (by omega)
  have a1 := up2_X (u := u) (y := Int64.ofInt u) h2 hp hq (by rw [e]; exact hu) e
  exact ⟨_, h1.edge hpq a1.1, a1.2⟩
theorem Seed.congr {Ed Ed' : Nat → Nat → Int → Prop} (h : Seed Ed) (hI : EdIn Ed) (hE : ∀ a b w, Ed a b w ↔ Ed' a b w) : Seed Ed' := by
  obtain ⟨F, h1, h2⟩ := h
  exact ⟨F, h1.congr (by omega) hE hI (fun _ _ _ _ => rfl), h2⟩
/-- the entries of a tight table are not too large -/
theorem bdE {Ed : Nat → Nat → Int → Prop} {X : Nat → Nat → Option Int} (hE : EdIn Ed) (hs : Seed Ed) (hX : PT Ed 16 X) {a b : Nat} (ha : a < 16) (hb : b < 16) {v : Int} (hv : X a b = some v) : -655360000 ≤ v ∧ v ≤ 655360000 := by
  obtain ⟨F, h1, h2⟩ := hs
  obtain ⟨G, h3, h4⟩ := fwE hE h1 h2 (pt_nn hE hX) 16 (Nat.le_refl _)
  have e : (10000 * 2 ^ 16 : Int) = 655360000 := by decide
  rw [e] at h4
  rw [pt_uniq hE hX h3 ha hb] at hv
  have h5 := eX_some.mp (show eX (G a b) = some v from hv)
  rcases h4 a b ha hb with h6 | h6
  · exact absurd h6 h5.1
  · omega
theorem cBd_of {Ed : Nat → Nat → Int → Prop} {f : Nat → Int32} (hE : EdIn Ed) (hs : Seed Ed) (hX : PT Ed 16 (cX f)) : cBd f := by
  intro a b ha hb
  by_cases h : f (a * 16 + b) = 2147483647
  · exact Or.inl h
  · exact Or.inr (bdE hE hs hX ha hb (cE_some.mpr ⟨h, rfl⟩))
