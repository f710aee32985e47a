def bCl (f : Nat → Int32) (k : Nat) : Nat → Int32 := fun x => if x % 17 = 0 ∧ x / 17 < k then 0 else pre (fun _ => 2147483647) f 256 x
theorem bCl_0 (f : Nat → Int32) : pre (fun _ => 2147483647) f 256 = bCl f 0 := by
  funext x
  unfold bCl
  rw [if_neg (by omega)]
theorem bCl_s (f : Nat → Int32) (k : Nat) : upd (bCl f k) (k * 16 + k) 0 = bCl f (k + 1) := by
  funext x
  show (if x = k * 16 + k then 0 else bCl f k x) = bCl f (k + 1) x
  unfold bCl
  by_cases h : x = k * 16 + k
  · rw [if_pos h, if_pos (by omega)]
  · rw [if_neg h]
    by_cases h1 : x % 17 = 0 ∧ x / 17 < k
    · rw [if_pos h1, if_pos (by omega)]
    · rw [if_neg h1, if_neg (by omega)]
theorem bCl_X {f : Nat → Int32} {a b : Nat} (ha : a < 16) (hb : b < 16) : cX (bCl f 16) a b = if a = b then some 0 else none := by
  unfold cX bCl
  by_cases h : a = b
  · rw [if_pos h, if_pos (by omega)]
    rfl
  · rw [if_neg h, if_neg (by omega), pre_lt (by omega)]
    exact cE_none.mpr rfl
/-- no edges at all -/
theorem bCl_pt {f : Nat → Int32} {Ed : Nat → Nat → Int → Prop} (h : ∀ a b w, ¬ Ed a b w) : PT Ed 16 (cX (bCl f 16)) := by
  refine ⟨fun a ha => by rw [bCl_X ha ha, if_pos rfl], fun a b d ha hb hd => ?_, fun a b w hw => absurd hw (h a b w), fun a b v ha hb hv => ?_⟩
  · rw [bCl_X ha hb, bCl_X ha hd, bCl_X hd hb]
    by_cases h1 : a = d
    · by_cases h2 : d = b
      · rw [if_pos h1, if_pos h2, if_pos (h1.trans h2)]
        exact fun w hw => ⟨0, rfl, by cases hw; decide⟩
      · rw [if_neg h2]
        intro w hw
        split at hw <;> cases hw
    · rw [if_neg h1]
      intro w hw
      cases hw
  · rw [bCl_X ha hb] at hv
    by_cases h1 : a = b
    · rw [if_pos h1] at hv
      cases hv
      rw [h1]
      exact way_rfl _ _
    · rw [if_neg h1] at hv
      cases hv
theorem seed_0 {Ed : Nat → Nat → Int → Prop} (h : ∀ a b w, ¬ Ed a b w) : Seed Ed := by
  have hj := Ini.j (σ := ((fun _ _ => 0), (fun _ _ => 0), (fun _ _ _ _ => 0), (fun _ _ _ _ => 0))) (F := iniV) (fun x y _ _ => rfl)
  refine ⟨iniV, hj.1.congr (Nat.zero_le _) (fun a b w => ⟨fun ⟨k, hk, _⟩ => absurd hk (Nat.not_lt_zero k), fun q => absurd q (h a b w)⟩) ?_ (fun _ _ _ _ => rfl), hj.2⟩
  intro a b w ⟨k, hk, _⟩
  exact absurd hk (Nat.not_lt_zero k)
theorem lmF_b {f : Nat → Int32} {a b x y y' : Nat} {u : Int32} (hB : cBd f) (ha : a < 16) (hb : b < 16) (hy : y' < 16) (hu : -10000 ≤ u.toInt ∧ u.toInt ≤ 10000) (hc : ∀ v, cX f b a = some v → 0 ≤ v + u.toInt) : lmF f a b u x y (b * 16 + y') = f (b * 16 + y') := by
  by_cases h : b < x ∨ (b = x ∧ y' < y)
  · rw [lmF_old hb hy h]
    exact lmV_b hB ha hb hy hu hc
  · exact lmF_new hy h
/-- the whole of limit -/
def lmW (f : Nat → Int32) (a b : Nat) (u : Int32) : Nat → Int32 := if u < f (a * 16 + b) then lmF f a b u 16 0 else f
theorem lmW_pt {Ed : Nat → Nat → Int → Prop} {f : Nat → Int32} {a b : Nat} {u : Int32} (hE : EdIn Ed) (hX : PT Ed 16 (cX f)) (hB : cBd f) (ha : a < 16) (hb : b < 16) (hu : -10000 ≤ u.toInt ∧ u.toInt ≤ 10000) (hc : ∀ v, cX f b a = some v → 0 ≤ v + u.toInt) : PT (EdP Ed a b u.toInt) 16 (cX (lmW f a b u)) := by
  have h1 := lim_pt ha hb hX hc
  have hE2 : EdIn (EdP Ed a b u.toInt) := by
    intro x y w hw
    rcases hw with hw | ⟨rfl, rfl, _⟩
    · exact hE x y w hw
    · exact ⟨ha, hb⟩
  refine h1.congr (Nat.le_refl _) (fun _ _ _ => Iff.rfl) hE2 (fun x y hx hy => ?_)
  unfold lmW
  by_cases h : u < f (a * 16 + b)
  · rw [if_pos h]
    show _ = cE (lmF f a b u 16 0 (x * 16 + y))
    rw [lmF_old hx hy (Or.inl hx)]
    exact (lmV_lim hB ha hb hx hy hu).symm
  · rw [if_neg h]
    have ho := open_toInt
    rw [Int32.lt_iff_toInt_lt] at h
    -- the edge is no news
    have hab : ole (cX f a b) (some u.toInt) := by
      intro w hw
      cases hw
      rcases hB a b ha hb with g | g
      · rw [g, ho] at h
        omega
      · exact ⟨_, cE_some.mpr ⟨fun q => by rw [q, ho] at g; omega, rfl⟩, by omega⟩
    have t1 := hX.2.1 x y a hx hy ha
    have t2 := hX.2.1 a y b ha hy hb
    have t3 : ole (cX f x y) (oadd (oadd (cX f x a) (some u.toInt)) (cX f b y)) := by
      refine ole_tr t1 (ole_tr (oadd_ole (ole_rfl _) t2) ?_)
      refine ole_tr (oadd_ole (ole_rfl _) (oadd_ole hab (ole_rfl _))) ?_
      intro w hw
      refine ⟨w, ?_, Int.le_refl w⟩
      rw [← hw]
      cases cX f x a <;> cases cX f b y <;> simp [oadd, Int.add_assoc]
    show omin (cX f x y) (oadd (oadd (cX f x a) (some u.toInt)) (cX f b y)) = cX f x y
    cases e1 : oadd (oadd (cX f x a) (some u.toInt)) (cX f b y) with
    | none => cases cX f x y <;> rfl
    | some w =>
      rw [e1] at t3
      obtain ⟨t, ht, hle⟩ := t3 w rfl
      rw [ht]
      show some (if w < t then w else t) = some t
      rw [if_neg (by omega)]
def EdS (Ed : Nat → Nat → Int → Prop) (a b : Nat) (lo hi : Int) : Nat → Nat → Int → Prop := EdP (EdP Ed a b hi) b a (-lo)
theorem nar_no1 {Ed : Nat → Nat → Int → Prop} {f : Nat → Int32} {a b : Nat} {lo hi : Int} (hX : PT Ed 16 (cX f)) (ha : a < 16) (hb : b < 16) {v : Int} (hv : cX f a b = some v) (h : v < lo) : ¬ NoNeg (EdS Ed a b lo hi) := by
  intro hN
  have w1 : WayE (EdS Ed a b lo hi) a b v := way_mono (fun _ _ _ q => Or.inl (Or.inl q)) (hX.2.2.2 a b v ha hb hv)
  have := hN a _ (way_step w1 (Or.inr ⟨rfl, rfl, rfl⟩))
  omega
theorem nar_no2 {Ed : Nat → Nat → Int → Prop} {f : Nat → Int32} {a b : Nat} {lo hi : Int} (hX : PT Ed 16 (cX f)) (ha : a < 16) (hb : b < 16) {v : Int} (hv : cX f b a = some v) (h : hi < -v) : ¬ NoNeg (EdS Ed a b lo hi) := by
  intro hN
  have w1 : WayE (EdS Ed a b lo hi) b a v := way_mono (fun _ _ _ q => Or.inl (Or.inl q)) (hX.2.2.2 b a v hb ha hv)
  have := hN b _ (way_step w1 (Or.inl (Or.inr ⟨rfl, rfl, rfl⟩)))
  omega
/-- behind the first limit the second may be taken -/
theorem nar_mid {Ed : Nat → Nat → Int → Prop} {f : Nat → Int32} {a b : Nat} {u : Int32} {lo : Int} (hX : PT Ed 16 (cX f)) (hB : cBd f) (ha : a < 16) (hb : b < 16) (hu : -10000 ≤ u.toInt ∧ u.toInt ≤ 10000) (hl : lo ≤ u.toInt) (h1 : ∀ v, cX f a b = some v → lo ≤ v) : ∀ v, cX (lmW f a b u) a b = some v → 0 ≤ v + -lo := by
  intro v hv
  unfold lmW at hv
  by_cases h : u < f (a * 16 + b)
  · rw [if_pos h] at hv
    have e : cX (lmF f a b u 16 0) a b = lim (cX f) a b u.toInt a b := by
      show cE (lmF f a b u 16 0 (a * 16 + b)) = _
      rw [lmF_old ha hb (Or.inl ha)]
      exact lmV_lim hB ha hb ha hb hu
    rw [e] at hv
    rcases omin_or (cX f a b) (oadd (oadd (cX f a a) (some u.toInt)) (cX f b b)) with q | q
    · have := h1 v (q.symm.trans hv)
      omega
    · have hv2 := q.symm.trans hv
      rw [hX.1 a ha, hX.1 b hb] at hv2
      have e2 : 0 + u.toInt + 0 = v := Option.some.inj hv2
      omega
  · rw [if_neg h] at hv
    have := h1 v hv
    omega
