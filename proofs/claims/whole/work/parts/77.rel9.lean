section SHP
variable {σ : hMem} {s9 hd : Nat} {t a b day o m : Int32}
theorem shp_I (hs : s9 < 8) (k : Nat) : hI (mShp (cShp σ s9 hd t a b day o m) s9 hd t a b day o m) (19 + s9) k = if k = 6 then m else if k = 5 then o else if k = 4 then day else if k = 3 then b else if k = 2 then a else if k = 1 then t else hI σ (19 + s9) k := by
  unfold mShp
  rw [hI_sI, if_neg (by omega)]
  show hI (cShp σ s9 hd t a b day o m) (19 + s9) k = _
  unfold cShp
  rw [hI_sI, if_neg (by omega)]
  unfold cCrw
  rw [hI_sI, if_neg (by omega), hI_sI, if_neg (by omega), hI_sA]
  simp [hI_sI]
theorem shp_C (hs : s9 < 8) : hI (mShp (cShp σ s9 hd t a b day o m) s9 hd t a b day o m) (27 + s9) 1 = nI hd ∧ hI (mShp (cShp σ s9 hd t a b day o m) s9 hd t a b day o m) (27 + s9) 2 = sumI (hA σ 11 0 0) hd := by
  unfold mShp
  rw [hI_sI, if_neg (by omega), hI_sI, if_neg (by omega)]
  show hI (cShp σ s9 hd t a b day o m) (27 + s9) 1 = _ ∧ hI (cShp σ s9 hd t a b day o m) (27 + s9) 2 = _
  unfold cShp
  rw [hI_sI, if_neg (by omega), hI_sI, if_neg (by omega)]
  unfold cCrw
  simp [hI_sI]
theorem shp_A (hs : s9 < 8) : ∃ G, hA (mShp (cShp σ s9 hd t a b day o m) s9 hd t a b day o m) (27 + s9) 0 0 = pre (hA σ 11 0 0) G hd := by
  unfold mShp
  refine ⟨hA σ (27 + s9) 0 0, ?_⟩
  rw [hA_sI, hA_sA, if_neg (by omega), hA_sA, if_neg (by omega), hA_sA, if_neg (by omega), hA_sA, if_neg (by omega), hA_sA, if_neg (by omega), hA_sA, if_neg (by omega), hA_sA, if_neg (by omega), hA_sA, if_neg (by omega)]
  unfold cShp cCrw
  rw [hA_sI, hA_sI, hA_sI, hA_same]
  rfl
end SHP

theorem shp_ag {D : Nat → Nat → Prop} {σ : hMem} {s9 hd : Nat} {t a b day o m : Int32} (h1 : ∀ k, ¬ D (19 + s9) k) (h2 : ∀ k, ¬ D (27 + s9) k) (h3 : ¬ D 0 13) (h4 : ∀ k, 38 ≤ k → k ≤ 46 → ¬ D 43 k) : Ag D σ (mShp (cShp σ s9 hd t a b day o m) s9 hd t a b day o m) := by
  have c1 : Ag D σ (cShp σ s9 hd t a b day o m) := ((((((((((Ag.r.sI (h1 1)).sI (h1 2)).sI (h1 3)).sI (h1 4)).sI (h1 5)).sI (h1 6)).sA (h2 0)).sI (h2 1)).sI (h2 2)).sI h3)
  exact ((((((((c1.sA (h4 39 (by decide) (by decide))).sA (h4 40 (by decide) (by decide))).sA (h4 41 (by decide) (by decide))).sA (h4 42 (by decide) (by decide))).sA (h4 43 (by decide) (by decide))).sA (h4 44 (by decide) (by decide))).sA (h4 45 (by decide) (by decide))).sA (h4 46 (by decide) (by decide))).sI (h4 38 (by decide) (by decide))

theorem Rel.ship {σ : hMem} {s9 hd : Nat} {t a b day o m r1 r2 : Int32} (hs9 : rShp σ s9) (hhd : rSht σ hd) {Z : va_W} {u1 u2 : hMem × va_W} (h : Rel σ) (hx : (((¬ 8 ≤ nI s9) ∧ (¬ nI hd = 0) ∧ (inB t 1 5000 = true) ∧ (inB a 0 15 = true) ∧ (inB b 0 15 = true) ∧ (inB o 0 100 = true) ∧ (inB m 0 (100 - o) = true) ∧ (inB day 0 5000 = true)) ∧ r1 = nI s9 ∧ u1 = (cShp σ s9 hd t a b day o m, Z)) ∨ (¬ ((¬ 8 ≤ nI s9) ∧ (¬ nI hd = 0) ∧ (inB t 1 5000 = true) ∧ (inB a 0 15 = true) ∧ (inB b 0 15 = true) ∧ (inB o 0 100 = true) ∧ (inB m 0 (100 - o) = true) ∧ (inB day 0 5000 = true)) ∧ r1 = -1 ∧ u1 = (σ, Z))) (hm : (shpOk u1.1 s9 t a b day o m → r2 = nI s9 ∧ u2 = (mShp u1.1 s9 hd t a b day o m, Z)) ∧ (¬ shpOk u1.1 s9 t a b day o m → r2 = -1 ∧ u2 = (u1.1, Z))) : r1 = r2 ∧ Rel u2.1 ∧ u2.2 = Z := by
  have h0 := h
  obtain ⟨n, nv, nc, nt, nl, hd', ns', h1, h2, h3, h4, h5, h6, h7, h8', h9', h10⟩ := h
  have h8 : rSht σ hd := hhd
  have h9 : rShp σ s9 := hs9
  have hz : hI σ 43 35 = 0 ↔ nI hd = 0 := h8.2.2.2.1.trans (nI_eq (b := 0) (by have := h8.2.2.1; omega) (by decide)).symm
  rcases hx with ⟨g1, g2, g3⟩ | ⟨g1, g2, g3⟩
  · subst g3
    obtain ⟨k1, k2, k3, k4, k5, k6, k7, k8⟩ := g1
    have hs7 : s9 < 8 := Nat.not_le.mp (fun q => k1 ((nI_le9 (a := 8) (by decide) (by have := h9.2.2.1; omega)).mpr q))
    have hok : shpOk (cShp σ s9 hd t a b day o m) s9 t a b day o m := ⟨k1, fun q => k2 (hz.mp q), k3, k4, k5, k8, k6, k7⟩
    obtain ⟨hm1, hm2⟩ := hm.1 hok
    subst hm2
    refine ⟨by rw [g2, hm1], ?_, rfl⟩
    have hG : rShp (mShp (cShp σ s9 hd t a b day o m) s9 hd t a b day o m) (s9 + 1) := by
      obtain ⟨e1, e2, e3, e4, e5⟩ := h9
      have old : ∀ i, i < s9 → Ag (fun j _ => j = 19 + i ∨ j = 27 + i) σ (mShp (cShp σ s9 hd t a b day o m) s9 hd t a b day o m) := fun i hi => shp_ag (fun k => by omega) (fun k => by omega) (by omega) (fun k _ _ => by omega)
      obtain ⟨c1, c2⟩ := shp_C (σ := σ) (s9 := s9) (hd := hd) (t := t) (a := a) (b := b) (day := day) (o := o) (m := m) hs7
      obtain ⟨GG, c3⟩ := shp_A (σ := σ) (s9 := s9) (hd := hd) (t := t) (a := a) (b := b) (day := day) (o := o) (m := m) hs7
      have c0 := fun k => shp_I (σ := σ) (s9 := s9) (hd := hd) (t := t) (a := a) (b := b) (day := day) (o := o) (m := m) hs7 k
      obtain ⟨tt, _, t2, t3⟩ := nI_in1 (lo := 1) (hi := 5000) k3 rfl (by decide) (by decide)
      obtain ⟨aa, _, a2, a3⟩ := nI_in1 (lo := 0) (hi := 15) k4 rfl (by decide) (by decide)
      obtain ⟨bb, _, b2, b3⟩ := nI_in1 (lo := 0) (hi := 15) k5 rfl (by decide) (by decide)
      obtain ⟨dd, _, d2, d3⟩ := nI_in1 (lo := 0) (hi := 5000) k8 rfl (by decide) (by decide)
      obtain ⟨oo, _, o2, o3⟩ := nI_in1 (lo := 0) (hi := 100) k6 rfl (by decide) (by decide)
      obtain ⟨mm, _, m2, m3⟩ : ∃ n : Nat, 0 ≤ n ∧ n ≤ 100 - oo ∧ m = nI n := nI_in1 (lo := 0) (hi := 100 - oo) k7 (by rw [o3]; exact nI_subN (a := oo) (b := 100) o2) (by omega) (by decide)
      have hdp : 0 < hd := Nat.pos_of_ne_zero (fun q => k2 (by rw [q]; rfl))
      have hsum : sumI (hA σ 11 0 0) hd = sumI (pre (hA σ 11 0 0) GG hd) hd := sumI_cg hd (fun i hi => (pre_lt hi).symm)
      generalize hτ : mShp (cShp σ s9 hd t a b day o m) s9 hd t a b day o m = τ at *
      have r43 : ∀ (k : Nat), 39 ≤ k → k ≤ 44 → ∀ i, ¬ i = s9 → hA τ 43 k 0 i = hA σ 43 k 0 i := by
        intro k q1 q2 i hi
        rw [← hτ]
        rcases (show k = 39 ∨ k = 40 ∨ k = 41 ∨ k = 42 ∨ k = 43 ∨ k = 44 by omega) with rfl | rfl | rfl | rfl | rfl | rfl <;> exact upd_o hi
      refine ⟨by rw [← hτ]; rfl, by rw [← hτ]; rfl, hs7, fun i hi => ?_, fun i hi => ?_⟩
      · by_cases e : i = s9
        · subst e
          unfold caN lfN
          rw [c0, c0, c0, c0, c0, c0, c1, c2, c3]
          simp only [show ¬ (1 : Nat) = 6 by decide, show ¬ (1 : Nat) = 5 by decide, show ¬ (1 : Nat) = 4 by decide, show ¬ (1 : Nat) = 3 by decide, show ¬ (1 : Nat) = 2 by decide, show ¬ (2 : Nat) = 6 by decide, show ¬ (2 : Nat) = 5 by decide, show ¬ (2 : Nat) = 4 by decide, show ¬ (2 : Nat) = 3 by decide, show ¬ (3 : Nat) = 6 by decide, show ¬ (3 : Nat) = 5 by decide, show ¬ (3 : Nat) = 4 by decide, show ¬ (4 : Nat) = 6 by decide, show ¬ (4 : Nat) = 5 by decide, show ¬ (5 : Nat) = 6 by decide, if_true, if_false, ↓reduceIte]
          refine ⟨⟨tt, t2, t3⟩, ⟨by rw [a3, nI_clamp (by omega)], by rw [a3, nI_clamp (by omega)]; omega⟩, ⟨by rw [b3, nI_clamp (by omega)], by rw [b3, nI_clamp (by omega)]; omega⟩, ⟨dd, d2, d3⟩, ⟨oo, mm, by omega, o3, m3⟩, hd, hdp, h8.2.2.1, rfl, hsum, fun y hy => ?_⟩
          rw [pre_lt hy]
          exact (h8.2.2.2.2 y hy).2
        · have ag := old i (by omega)
          have := e4 i (by omega)
          unfold caN lfN at *
          rw [ag.I (Or.inl rfl), ag.I (Or.inl rfl), ag.I (Or.inl rfl), ag.I (Or.inl rfl), ag.I (Or.inl rfl), ag.I (Or.inl rfl), ag.I (Or.inr rfl), ag.I (Or.inr rfl), ag.A (Or.inr rfl)]
          exact this
      · by_cases e : i = s9
        · subst e
          have hdc : hdC τ i = hd := by unfold hdC; rw [c1, nI_clamp (by have := h8.2.2.1; omega)]
          unfold shpE
          rw [hdc, c0, c0, c0, c0, c0, c0, c1, c3, ← hτ]
          refine ⟨pk_us, pk_us, pk_us, pk_us, pk_us, pk_us, pk_us, fun y hy => ?_⟩
          have e46 : hA (mShp (cShp σ i hd t a b day o m) i hd t a b day o m) 43 46 i = pre (hA σ 43 37 0) (hA (cShp σ i hd t a b day o m) 43 46 i) hd := by
            unfold mShp
            rw [hA_sI, hA_same]
            rfl
          rw [e46, pre_lt hy, pre_lt hy]
          exact ((h8.2.2.2.2 y hy).1).symm
        · have ag := old i (by omega)
          have := e5 i (by omega)
          have e45 : hA τ 43 45 0 i = hA σ 43 45 0 i := by rw [← hτ]; exact upd_o e
          have e46 : hA τ 43 46 i = hA σ 43 46 i := by
            rw [← hτ]
            unfold mShp
            rw [hA_sI, hA_o e]
            rfl
          unfold shpE hdC at *
          rw [r43 39 (by decide) (by decide) i e, r43 40 (by decide) (by decide) i e, r43 41 (by decide) (by decide) i e, r43 42 (by decide) (by decide) i e, r43 43 (by decide) (by decide) i e, r43 44 (by decide) (by decide) i e, e45, e46, ag.I (Or.inl rfl), ag.I (Or.inl rfl), ag.I (Or.inl rfl), ag.I (Or.inl rfl), ag.I (Or.inl rfl), ag.I (Or.inl rfl), ag.I (Or.inr rfl), ag.A (Or.inr rfl)]
          exact this
    exact ⟨n, nv, nc, nt, nl, hd, s9 + 1, h1.ag (shp_ag (fun k => by unfold dClk; omega) (fun k => by unfold dClk; omega) (by unfold dClk; omega) (fun k q1 q2 => by unfold dClk; omega)), h2.ag (shp_ag (fun k => by unfold dTal; omega) (fun k => by unfold dTal; omega) (by unfold dTal; omega) (fun k q1 q2 => by unfold dTal; omega)), h3.ag (shp_ag (fun k => by unfold dGds; omega) (fun k => by unfold dGds; omega) (by unfold dGds; omega) (fun k q1 q2 => by unfold dGds; omega)), h4.ag (shp_ag (fun k => by unfold dCas; omega) (fun k => by unfold dCas; omega) (by unfold dCas; omega) (fun k q1 q2 => by unfold dCas; omega)), h5.ag (shp_ag (fun k => by unfold dSui; omega) (fun k => by unfold dSui; omega) (by unfold dSui; omega) (fun k q1 q2 => by unfold dSui; omega)), h6.ag (shp_ag (fun k => by unfold dTap; omega) (fun k => by unfold dTap; omega) (by unfold dTap; omega) (fun k q1 q2 => by unfold dTap; omega)), h7.ag (shp_ag (fun k => by unfold dLaw; omega) (fun k => by unfold dLaw; omega) (by unfold dLaw; omega) (fun k q1 q2 => by unfold dLaw; omega)), h8.ag (shp_ag (fun k => by unfold dSht; omega) (fun k => by unfold dSht; omega) (by unfold dSht; omega) (fun k q1 q2 => by unfold dSht; omega)), hG, h10.ag (shp_ag (fun k => by unfold dJdg; omega) (fun k => by unfold dJdg; omega) (by unfold dJdg; omega) (fun k q1 q2 => by unfold dJdg; omega))⟩
  · subst g3
    have hok : ¬ shpOk σ s9 t a b day o m := fun ⟨k1, k2, k3, k4, k5, k8, k6, k7⟩ => g1 ⟨k1, fun q => k2 (hz.mpr q), k3, k4, k5, k6, k7, k8⟩
    obtain ⟨hm1, hm2⟩ := hm.2 hok
    subst hm2
    exact ⟨by rw [g2, hm1], h0, rfl⟩
