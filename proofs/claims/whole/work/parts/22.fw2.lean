/-! The model's sayings as edges; the loops of canBe. -/
def mFr (σ : hMem) (k : Nat) : Nat := (hA σ 43 5 0 k).toNatClampNeg
def mTo (σ : hMem) (k : Nat) : Nat := (hA σ 43 6 0 k).toNatClampNeg
def mLo (σ : hMem) (k : Nat) : Int := (hA σ 43 7 0 k).toInt
def mHi (σ : hMem) (k : Nat) : Int := (hA σ 43 8 0 k).toInt
def mEd (σ : hMem) (n : Nat) : Nat → Nat → Int → Prop := sEd (mFr σ) (mTo σ) (mLo σ) (mHi σ) (fun k => ¬ hA σ 43 10 0 k = 0) n
/-- the sayings are as they must be -/
def sayW (σ : hMem) (n : Nat) : Prop := ∀ k, k < n → vp_in (hA σ 43 5 0 k) 16 ∧ vp_in (hA σ 43 6 0 k) 16 ∧ mFr σ k ≠ mTo σ k ∧ -10000 ≤ mLo σ k ∧ mLo σ k ≤ mHi σ k ∧ mHi σ k ≤ 10000
theorem mEd_in {σ : hMem} {n : Nat} (h : sayW σ n) : EdIn (mEd σ n) := by
  intro a b w hw
  obtain ⟨k, hk, _, h1⟩ := hw
  obtain ⟨h2, h3, _⟩ := h k hk
  rcases h1 with ⟨rfl, rfl, _⟩ | ⟨rfl, rfl, _⟩
  · exact ⟨vp_lt h2, vp_lt h3⟩
  · exact ⟨vp_lt h3, vp_lt h2⟩
theorem sEd_s {fr to : Nat → Nat} {lo hi : Nat → Int} {inn : Nat → Prop} {k : Nat} (h : inn k) (a b : Nat) (w : Int) : EdP (EdP (sEd fr to lo hi inn k) (fr k) (to k) (hi k)) (to k) (fr k) (-(lo k)) a b w ↔ sEd fr to lo hi inn (k + 1) a b w := by
  constructor
  · intro q
    rcases q with (⟨j, h1, h2, h3⟩ | h1) | h1
    · exact ⟨j, by omega, h2, h3⟩
    · exact ⟨k, by omega, h, Or.inl h1⟩
    · exact ⟨k, by omega, h, Or.inr h1⟩
  · intro q
    obtain ⟨j, h1, h2, h3⟩ := q
    by_cases hj : j = k
    · subst hj
      rcases h3 with h3 | h3
      · exact Or.inl (Or.inr h3)
      · exact Or.inr h3
    · exact Or.inl (Or.inl ⟨j, by omega, h2, h3⟩)
theorem sEd_n {fr to : Nat → Nat} {lo hi : Nat → Int} {inn : Nat → Prop} {k : Nat} (h : ¬ inn k) (a b : Nat) (w : Int) : sEd fr to lo hi inn k a b w ↔ sEd fr to lo hi inn (k + 1) a b w := by
  constructor
  · intro ⟨j, h1, h2⟩
    exact ⟨j, by omega, h2⟩
  · intro ⟨j, h1, h2⟩
    by_cases hj : j = k
    · subst hj
      exact absurd h2.1 h
    · exact ⟨j, by omega, h2⟩
def iniV (a b : Nat) : Int64 := if nI a = nI b then 0 else 1099511627776
def Ini (F : Nat → Nat → Int64) (a b : Nat) : Prop := ∀ x y, y < 16 → (x < a ∨ (x = a ∧ y < b)) → F x y = iniV x y
theorem Ini.z (F : Nat → Nat → Int64) : Ini F 0 0 := fun x y _ h => absurd h (by omega)
theorem Ini.s {F : Nat → Nat → Int64} {a b : Nat} (h : Ini F a b) : Ini (up2 F a b (iniV a b)) a (b + 1) := by
  intro x y hy hx
  unfold up2
  by_cases q : x = a ∧ y = b
  · obtain ⟨rfl, rfl⟩ := q
    rw [if_pos ⟨rfl, rfl⟩]
  · rw [if_neg q]
    exact h x y hy (by omega)
theorem Ini.r {F : Nat → Nat → Int64} {a : Nat} (h : Ini F a 16) : Ini F (a + 1) 0 := fun x y hy hx => h x y hy (by omega)
/-- the invariant of taking the sayings in -/
def Jk (σ : hMem) (k : Nat) (F : Nat → Nat → Int64) : Prop := PT (mEd σ k) 0 (mX F) ∧ mBd F 10000
theorem Ini.j {σ : hMem} {F : Nat → Nat → Int64} (h : Ini F 16 0) : Jk σ 0 F := by
  have hv : ∀ a b, a < 16 → b < 16 → F a b = if a = b then 0 else 1099511627776 := by
    intro a b ha hb
    rw [h a b hb (Or.inl ha)]
    unfold iniV
    by_cases e : a = b
    · subst e
      rw [if_pos rfl, if_pos rfl]
    · rw [if_neg e, if_neg (fun q => e ((nI_eq (by omega) (by omega)).mp q))]
  refine ⟨⟨fun a ha => ?_, fun a b d _ _ hd => absurd hd (Nat.not_lt_zero d), fun a b w hw => ?_, fun a b v ha hb hv2 => ?_⟩, fun a b ha hb => ?_⟩
  · show eX (F a a) = some 0
    rw [hv a a ha ha, if_pos rfl]
    rfl
  · obtain ⟨k, hk, _⟩ := hw
    exact absurd hk (Nat.not_lt_zero k)
  · have h2 : eX (F a b) = some v := hv2
    rw [hv a b ha hb] at h2
    by_cases e : a = b
    · subst e
      rw [if_pos rfl] at h2
      have h3 := eX_some.mp h2
      have h4 : v = 0 := h3.2.symm
      rw [h4]
      exact way_rfl _ _
    · rw [if_neg e] at h2
      have h3 := eX_some.mp h2
      exact absurd rfl h3.1
  · rw [hv a b ha hb]
    by_cases e : a = b
    · rw [if_pos e]
      exact Or.inr ⟨by decide, by decide⟩
    · rw [if_neg e]
      exact Or.inl rfl
theorem eX_min {x y : Int64} (hx : x = 1099511627776 ∨ (-10000 ≤ x.toInt ∧ x.toInt ≤ 10000)) (hy : -10000 ≤ y.toInt ∧ y.toInt ≤ 10000) : eX (if x < y then x else y) = omin (eX x) (some y.toInt) ∧ ((if x < y then x else y) = 1099511627776 ∨ (-10000 ≤ (if x < y then x else y).toInt ∧ (if x < y then x else y).toInt ≤ 10000)) := by
  have hf := far_toInt
  have ny : ¬ y = 1099511627776 := fun q => by rw [q, hf] at hy; omega
  rcases hx with hx | hx
  · have hlt : ¬ x < y := by
      rw [Int64.lt_iff_toInt_lt, hx, hf]
      omega
    rw [if_neg hlt, hx, eX_none.mpr rfl, eX_some.mpr ⟨ny, rfl⟩]
    exact ⟨rfl, Or.inr hy⟩
  · have nx : ¬ x = 1099511627776 := fun q => by rw [q, hf] at hx; omega
    rw [eX_some.mpr ⟨nx, rfl⟩]
    by_cases hlt : x < y
    · rw [if_pos hlt, eX_some.mpr ⟨nx, rfl⟩]
      rw [Int64.lt_iff_toInt_lt] at hlt
      refine ⟨?_, Or.inr hx⟩
      show _ = some (if y.toInt < x.toInt then y.toInt else x.toInt)
      rw [if_neg (by omega)]
    · rw [if_neg hlt, eX_some.mpr ⟨ny, rfl⟩]
      rw [Int64.lt_iff_toInt_lt] at hlt
      refine ⟨?_, Or.inr hy⟩
      show _ = some (if y.toInt < x.toInt then y.toInt else x.toInt)
      by_cases h2 : y.toInt < x.toInt
      · rw [if_pos h2]
      · rw [if_neg h2]
        exact congrArg some (by omega)
theorem neg32 {x : Int32} (h : -10000 ≤ x.toInt ∧ x.toInt ≤ 10000) : (-x).toInt64.toInt = -(x.toInt) := by
  rw [Int32.toInt_toInt64, Int32.toInt_neg]
  exact Int.bmod_eq_of_le (by omega) (by omega)
/-- a saying is taken in -/
def say1 (σ : hMem) (F : Nat → Nat → Int64) (k : Nat) : Nat → Nat → Int64 := up2 F (mFr σ k) (mTo σ k) (if F (mFr σ k) (mTo σ k) < (hA σ 43 8 0 k).toInt64 then F (mFr σ k) (mTo σ k) else (hA σ 43 8 0 k).toInt64)
def say2 (σ : hMem) (F : Nat → Nat → Int64) (k : Nat) : Nat → Nat → Int64 := up2 (say1 σ F k) (mTo σ k) (mFr σ k) (if say1 σ F k (mTo σ k) (mFr σ k) < (-(hA σ 43 7 0 k)).toInt64 then say1 σ F k (mTo σ k) (mFr σ k) else (-(hA σ 43 7 0 k)).toInt64)
theorem up2_X {F : Nat → Nat → Int64} {p q : Nat} {y : Int64} {u : Int} (hF : mBd F 10000) (hp : p < 16) (hq : q < 16) (hy : -10000 ≤ y.toInt ∧ y.toInt ≤ 10000) (hu : y.toInt = u) : (∀ a b, mX (up2 F p q (if F p q < y then F p q else y)) a b = if a = p ∧ b = q then omin (mX F p q) (some u) else mX F a b) ∧ mBd (up2 F p q (if F p q < y then F p q else y)) 10000 := by
  have h1 := eX_min (hF p q hp hq) hy
  refine ⟨fun a b => ?_, fun a b ha hb => ?_⟩
  · show eX (up2 F p q _ a b) = _
    unfold up2
    by_cases h : a = p ∧ b = q
    · rw [if_pos h, if_pos h, h1.1, hu]
      rfl
    · rw [if_neg h, if_neg h]
      rfl
  · unfold up2
    by_cases h : a = p ∧ b = q
    · rw [if_pos h]
      exact h1.2
    · rw [if_neg h]
      exact hF a b ha hb
theorem Jk.s {σ : hMem} {n k : Nat} {F : Nat → Nat → Int64} (hW : sayW σ n) (hk : k < n) (hi : ¬ hA σ 43 10 0 k = 0) (h : Jk σ k F) : Jk σ (k + 1) (say2 σ F k) := by
  obtain ⟨h1, h2, h3, h4, h5, h6⟩ := hW k hk
  have hp := vp_lt h1
  have hq := vp_lt h2
  have e8 : (hA σ 43 8 0 k).toInt64.toInt = mHi σ k := Int32.toInt_toInt64 _
  have e7 : (-(hA σ 43 7 0 k)).toInt64.toInt = -(mLo σ k) := neg32 ⟨h4, by show mLo σ k ≤ 10000; omega⟩
  have a1 := up2_X (u := mHi σ k) (y := (hA σ 43 8 0 k).toInt64) h.2 hp hq (by rw [e8]; omega) e8
  have a2 := up2_X (u := -(mLo σ k)) (y := (-(hA σ 43 7 0 k)).toInt64) (F := say1 σ F k) a1.2 hq hp (by rw [e7]; omega) e7
  have p1 : PT (EdP (mEd σ k) (mFr σ k) (mTo σ k) (mHi σ k)) 0 (mX (say1 σ F k)) := h.1.edge h3 a1.1
  have p2 : PT (EdP (EdP (mEd σ k) (mFr σ k) (mTo σ k) (mHi σ k)) (mTo σ k) (mFr σ k) (-(mLo σ k))) 0 (mX (say2 σ F k)) := p1.edge (fun q => h3 q.symm) a2.1
  refine ⟨p2.congr (Nat.zero_le _) (fun a b w => sEd_s hi a b w) ?_ (fun _ _ _ _ => rfl), a2.2⟩
  intro a b w hw
  exact mEd_in hW a b w (by
    obtain ⟨j, g1, g2, g3⟩ := (sEd_s hi a b w).mp hw
    exact ⟨j, by omega, g2, g3⟩)
theorem Jk.n {σ : hMem} {n k : Nat} {F : Nat → Nat → Int64} (hW : sayW σ n) (hk : k < n) (hi : hA σ 43 10 0 k = 0) (h : Jk σ k F) : Jk σ (k + 1) F := by
  refine ⟨h.1.congr (Nat.zero_le _) (fun a b w => sEd_n (fun q => q hi) a b w) ?_ (fun _ _ _ _ => rfl), h.2⟩
  intro a b w hw
  obtain ⟨j, g1, g2⟩ := hw
  exact mEd_in hW a b w ⟨j, by omega, g2⟩
/-- the invariant of the stages -/
def Km (σ : hMem) (n m : Nat) (F : Nat → Nat → Int64) : Prop := PT (mEd σ n) m (mX F) ∧ mBd F (10000 * 2 ^ m)
theorem Km.d {σ : hMem} {n m a : Nat} {F : Nat → Nat → Int64} (h : Km σ n m F) (ha : a < 16) : F a a = 0 := by
  have h1 : eX (F a a) = some 0 := h.1.1 a ha
  have h2 := eX_some.mp h1
  rw [← Int64.toInt_inj]
  exact h2.2
theorem pow_m {m : Nat} (hm : m < 16) : (0 : Int) ≤ 10000 * 2 ^ m ∧ (10000 * 2 ^ m : Int) < 500000000000 := by
  have h : ∀ m : Fin 16, (0 : Int) ≤ 10000 * 2 ^ m.val ∧ (10000 * 2 ^ m.val : Int) < 500000000000 := by decide
  exact h ⟨m, hm⟩
theorem stF_16 {F : Nat → Nat → Int64} {m x y : Nat} (hx : x < 16) (hy : y < 16) : stF F m 16 0 x y = nw F m x y := if_pos (by omega)
theorem Km.s {σ : hMem} {n m : Nat} {F : Nat → Nat → Int64} (hW : sayW σ n) (hm : m < 16) (h : Km σ n m F) (hd : ∀ x, x < 16 → ¬ stF F m 16 0 x x < 0) : Km σ n (m + 1) (stF F m 16 0) := by
  have hp := pow_m hm
  have e : ∀ a b, a < 16 → b < 16 → stg (mX F) m a b = mX (stF F m 16 0) a b := by
    intro a b ha hb
    show _ = eX (stF F m 16 0 a b)
    rw [stF_16 ha hb]
    exact (nw_stg h.2 hp.1 hp.2 hm ha hb).1.symm
  have h1 : PT (mEd σ n) (m + 1) (stg (mX F) m) := by
    refine stg_pt hm h.1 (fun a v ha hv => ?_)
    rw [e a a ha ha] at hv
    have h2 := eX_some.mp (show eX (stF F m 16 0 a a) = some v from hv)
    have h3 := hd a ha
    rw [Int64.lt_iff_toInt_lt, h2.2] at h3
    have z : (0 : Int64).toInt = 0 := rfl
    omega
  refine ⟨h1.congr (by omega) (fun _ _ _ => Iff.rfl) (mEd_in hW) e, fun a b ha hb => ?_⟩
  rw [stF_16 ha hb]
  have h2 := (nw_stg h.2 hp.1 hp.2 hm ha hb).2
  have h3 : (10000 * 2 ^ (m + 1) : Int) = 2 * (10000 * 2 ^ m) := by
    rw [Int.pow_succ]
    omega
  rw [h3]
  exact h2
theorem Km.neg {σ : hMem} {n m a : Nat} {F : Nat → Nat → Int64} (hm : m < 16) (h : Km σ n m F) (ha : a < 16) (hd : stF F m 16 0 a a < 0) : ¬ NoNeg (mEd σ n) := by
  intro hN
  have hp := pow_m hm
  have h1 := nw_stg h.2 hp.1 hp.2 hm ha ha
  rw [stF_16 ha ha] at hd
  rw [Int64.lt_iff_toInt_lt] at hd
  have z : (0 : Int64).toInt = 0 := rfl
  rw [z] at hd
  have hf := far_toInt
  have hx : eX (nw F m a a) = some (nw F m a a).toInt := eX_some.mpr ⟨fun q => by rw [q, hf] at hd; omega, rfl⟩
  rw [h1.1] at hx
  have hw : WayE (mEd σ n) a a (nw F m a a).toInt := by
    rcases omin_or (mX F a a) (oadd (mX F a m) (mX F m a)) with q | q
    · exact h.1.2.2.2 a a _ ha ha (q.symm.trans hx)
    · have hv2 : oadd (mX F a m) (mX F m a) = some (nw F m a a).toInt := q.symm.trans hx
      cases ea : mX F a m with
      | none => rw [ea] at hv2; cases hv2
      | some va =>
        cases ec : mX F m a with
        | none => rw [ea, ec] at hv2; cases hv2
        | some vb =>
          rw [ea, ec] at hv2
          have e2 : va + vb = (nw F m a a).toInt := Option.some.inj hv2
          rw [← e2]
          exact way_tr (h.1.2.2.2 a m va ha hm ea) (h.1.2.2.2 m a vb hm ha ec)
  have := hN a _ hw
  omega
theorem Km.of {σ : hMem} {n : Nat} {F : Nat → Nat → Int64} (h : Jk σ n F) : Km σ n 0 F := ⟨h.1, by
  have e : (10000 * 2 ^ 0 : Int) = 10000 := by decide
  rw [e]
  exact h.2⟩
