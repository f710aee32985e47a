/-! How far hours can lie apart. -/
theorem pigeon : ∀ (n : Nat) (f : Nat → Nat), (∀ i, i < n + 1 → f i < n) → ∃ i j, i < j ∧ j < n + 1 ∧ f i = f j
  | 0, f, h => absurd (h 0 (by decide)) (Nat.not_lt_zero _)
  | n + 1, f, h => by
    by_cases hx : ∃ i, i < n + 1 ∧ f i = f (n + 1)
    · obtain ⟨i, hi, he⟩ := hx
      exact ⟨i, n + 1, hi, by omega, he⟩
    · have hne : ∀ i, i < n + 1 → f i ≠ f (n + 1) := fun i hi he => hx ⟨i, hi, he⟩
      have hv := h (n + 1) (by omega)
      obtain ⟨i, j, hij, hj, he⟩ := pigeon n (fun i => if f i < f (n + 1) then f i else f i - 1) (fun i hi => by
        have h1 := h i (by omega)
        have h2 := hne i hi
        show (if f i < f (n + 1) then f i else f i - 1) < n
        split <;> omega)
      refine ⟨i, j, hij, by omega, ?_⟩
      have h1 := hne i (by omega)
      have h2 := hne j hj
      have he' : (if f i < f (n + 1) then f i else f i - 1) = (if f j < f (n + 1) then f j else f j - 1) := he
      split at he' <;> split at he' <;> omega
section FAR
variable {Ed : Nat → Nat → Int → Prop} {X : Nat → Nat → Option Int}
theorem pt_cross (hE : EdIn Ed) (h : PT Ed 16 X) (hB : ∀ a b w, Ed a b w → w ≤ 10000) {a b : Nat} {v th : Int} (ha : a < 16) (hb : b < 16) (hv : X a b = some v) (h0 : 0 ≤ th) (hlt : th < v) : ∃ c, c < 16 ∧ ∃ u, X a c = some u ∧ th < u ∧ u ≤ th + 10000 := by
  have hw := h.2.2.2 a b v ha hb hv
  have key := hw (fun x y _ => x = a → y < 16 ∧ ((∃ c, c < 16 ∧ ∃ u, X a c = some u ∧ th < u ∧ u ≤ th + 10000) ∨ ∃ u, X a y = some u ∧ u ≤ th)) (fun x hx => by
    subst hx
    exact ⟨ha, Or.inr ⟨0, h.1 x ha, h0⟩⟩) (fun x y z v' w hp hq hx => by
    obtain ⟨hy, hp⟩ := hp hx
    obtain ⟨_, hz⟩ := hE y z w hq
    refine ⟨hz, ?_⟩
    rcases hp with hp | ⟨u, hu, hle⟩
    · exact Or.inl hp
    · have h1 := ole_tr (h.2.1 a z y ha hz hy) (oadd_ole (ole_rfl (X a y)) (h.2.2.1 y z w hq))
      rw [hu] at h1
      obtain ⟨u', hu', h2⟩ := ole_some (x := X a z) (w := u + w) h1
      have h3 := hB y z w hq
      by_cases h4 : u' ≤ th
      · exact Or.inr ⟨u', hu', h4⟩
      · exact Or.inl ⟨z, hz, u', hu', by omega, by omega⟩)
  obtain ⟨_, hk⟩ := key rfl
  rcases hk with hk | ⟨u, hu, hle⟩
  · exact hk
  · rw [hv] at hu
    cases hu
    omega
theorem pt_up (hE : EdIn Ed) (h : PT Ed 16 X) (hB : ∀ a b w, Ed a b w → w ≤ 10000) {a b : Nat} {v : Int} (ha : a < 16) (hb : b < 16) (hv : X a b = some v) : v ≤ 150000 := by
  by_cases hle : v ≤ 150000
  · exact hle
  · exfalso
    have H : ∀ i : Nat, ∃ c, i < 16 → (c < 16 ∧ ∃ u, X a c = some u ∧ 10000 * (i : Int) < u ∧ u ≤ 10000 * (i : Int) + 10000) := by
      intro i
      by_cases hi : i < 16
      · obtain ⟨c, h1, h2⟩ := pt_cross hE h hB ha hb hv (th := 10000 * (i : Int)) (by omega) (by omega)
        exact ⟨c, fun _ => ⟨h1, h2⟩⟩
      · exact ⟨0, fun q => absurd q hi⟩
    have HC := fun i => Classical.choose_spec (H i)
    obtain ⟨i, j, hij, hj, he⟩ := pigeon 16 (fun i => if i < 16 then Classical.choose (H i) else a) (fun i hi => by
      show (if i < 16 then Classical.choose (H i) else a) < 16
      by_cases h1 : i < 16
      · rw [if_pos h1]; exact (HC i h1).1
      · rw [if_neg h1]; exact ha)
    have he' : (if i < 16 then Classical.choose (H i) else a) = (if j < 16 then Classical.choose (H j) else a) := he
    rw [if_pos (show i < 16 by omega)] at he'
    obtain ⟨_, u, hu, h1, h2⟩ := HC i (by omega)
    by_cases hj' : j < 16
    · rw [if_pos hj'] at he'
      obtain ⟨_, u', hu', h3, h4⟩ := HC j hj'
      rw [he', hu'] at hu
      cases hu
      omega
    · rw [if_neg hj'] at he'
      rw [he', h.1 a ha] at hu
      cases hu
      omega
theorem way_rev (hs : ∀ a b w, Ed a b w → ∃ w', Ed b a w') {a b : Nat} {v : Int} (h : WayE Ed a b v) : ∃ u, WayE Ed b a u :=
  h (fun x y _ => ∃ u, WayE Ed y x u) (fun x => ⟨0, way_rfl Ed x⟩) (fun x y z v w ⟨u, hu⟩ hq => by
    obtain ⟨w', hw'⟩ := hs y z w hq
    exact ⟨w' + u, way_tr (way_edge hw') hu⟩)
theorem pt_dn (hE : EdIn Ed) (h : PT Ed 16 X) (hB : ∀ a b w, Ed a b w → w ≤ 10000) (hs : ∀ a b w, Ed a b w → ∃ w', Ed b a w') {a b : Nat} {v : Int} (ha : a < 16) (hb : b < 16) (hv : X a b = some v) : -150000 ≤ v := by
  obtain ⟨u, hu⟩ := way_rev hs (h.2.2.2 a b v ha hb hv)
  obtain ⟨_, h1⟩ := pt_way hE h hb hu
  obtain ⟨u', hu', _⟩ := ole_some h1
  have h2 := pt_up hE h hB hb ha hu'
  have h3 := pt_nn hE h a (v + u') (way_tr (h.2.2.2 a b v ha hb hv) (h.2.2.2 b a u' hb ha hu'))
  omega
end FAR
theorem mEP_sym (σ : hMem) (n : Nat) (P : Nat → Prop) : ∀ a b w, mEP σ n P a b w → ∃ w', mEP σ n P b a w' := by
  rintro a b w ⟨k, h1, h2, h | h⟩
  · exact ⟨-(mLo σ k), k, h1, h2, Or.inr ⟨h.2.1, h.1, rfl⟩⟩
  · exact ⟨mHi σ k, k, h1, h2, Or.inl ⟨h.2.1, h.1, rfl⟩⟩
theorem mEP_bd {σ : hMem} {n : Nat} (hW : sayW σ n) (P : Nat → Prop) : ∀ a b w, mEP σ n P a b w → w ≤ 10000 := by
  rintro a b w ⟨k, h1, h2, h | h⟩
  · have := (hW k h1).2.2.2.2.2
    omega
  · have := (hW k h1).2.2.2.1
    omega
theorem mEP_in' {σ : hMem} {n : Nat} (hW : sayW σ n) (P : Nat → Prop) : EdIn (mEP σ n P) := by
  rintro a b w ⟨k, h1, h2, h | h⟩
  · rw [h.1, h.2.1]; exact ⟨vp_lt (hW k h1).1, vp_lt (hW k h1).2.1⟩
  · rw [h.1, h.2.1]; exact ⟨vp_lt (hW k h1).2.1, vp_lt (hW k h1).1⟩
theorem hrF_N {σ : hMem} {n : Nat} {IN : Nat → Int32} {F : Nat → Nat → Int64} (hW : sayW σ n) (hB : BelW σ n IN F) {lf cm : Nat → Int32} {i : Nat} (h1 : vp_in (lf i) 16) (h2 : vp_in (cm i) 16) : ∃ h, h ≤ 150000 ∧ hrF F lf cm i = lN h := by
  have ha := vp_lt h1
  have hb := vp_lt h2
  unfold hrF
  generalize hF : F (lf i).toNatClampNeg (cm i).toNatClampNeg = v
  by_cases e : v = 1099511627776
  · rw [if_pos e]; exact ⟨0, by decide, rfl⟩
  · rw [if_neg e]
    by_cases e2 : 0 < v
    · rw [if_pos e2]; exact ⟨0, by decide, rfl⟩
    · rw [if_neg e2]
      have hx : mX F (lf i).toNatClampNeg (cm i).toNatClampNeg = some v.toInt := eX_some.mpr ⟨by rw [hF]; exact e, by rw [hF]⟩
      have h3 := pt_dn (mEP_in' hW _) hB.2.2.1 (mEP_bd hW _) (mEP_sym σ n _) ha hb hx
      rw [Int64.lt_iff_toInt_lt] at e2
      have e0 : (0 : Int64).toInt = 0 := rfl
      rw [e0] at e2
      refine ⟨(-v.toInt).toNat, by omega, ?_⟩
      apply Int64.toInt_inj.mp
      rw [pk_lT (by omega)]
      rw [Int64.toInt_neg, Int.bmod_eq_of_le (by omega) (by omega)]
      omega
