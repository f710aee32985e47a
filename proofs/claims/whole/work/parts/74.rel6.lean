theorem Stl.bel {σ τ : hMem} {n : Nat} (h : Stl σ n τ) : ∃ c, c ≤ n ∧ hI τ 1 9 = nI c ∧ cBel τ n (hA τ 1 8 0) (hA τ 2 0 0) c := by
  obtain ⟨g, f, c, h1, h2, h3, h4, h5, h6 | h6⟩ := h
  · subst h6
    refine ⟨c, h1, h5, ?_⟩
    rw [h3, h4]
    exact h2
  · subst h6
    exact ⟨c, h1, h5, h2⟩
theorem Qtl.qu {σ τ : hMem} {n : Nat} (h : Qtl σ n τ) : ∃ c, c ≤ n ∧ hI τ 1 13 = nI c ∧ cQu τ n (hA τ 1 12 0) c := by
  obtain ⟨g, f, c, h1, h2, h3, h4, h6 | h6⟩ := h
  · subst h6
    refine ⟨c, h1, h4, ?_⟩
    rw [h3]
    exact h2
  · subst h6
    exact ⟨c, h1, h4, h2⟩
theorem Rel.stl {σ τ : hMem} {n : Nat} (h : Rel σ) (hn : rTal σ n) (hs : Stl σ n τ) : Rel τ ∧ rTal τ n := by
  obtain ⟨n', nv, nc, nt, nl, hd, ns, h1, h2', h3, h4, h5, h6, h7, h8, h9, h10⟩ := h
  have h2 : rTal σ n := hn
  have hq := hs
  obtain ⟨g, f, c, c1, c2, c3, c4, c5, c6 | c6⟩ := hs
  · subst c6
    exact ⟨⟨n, nv, nc, nt, nl, hd, ns, h1, h2, h3, h4, h5, h6, h7, h8, h9, h10⟩, h2⟩
  · have hT : rTal τ n := by
      obtain ⟨e1, e2, e3, e4, e5, e6, e7, e8, e9, e10, e11, e12, e13, e14, e15, e16, e17⟩ := h2
      subst c6
      exact ⟨e1, e2, e3, e4, e5, e6, e7, e8, e9, e10, e11, e12, fun k => c2.2.2.2 k, e14, e15, fun _ => ⟨c, c1, rfl, c2⟩, e17⟩
    refine ⟨⟨n, nv, nc, nt, nl, hd, ns, ?_⟩, hT⟩
    subst c6
    exact ⟨h1.ag ((((Ag.r.sA (by unfold dClk; omega)).sA (by unfold dClk; omega)).sI (by unfold dClk; omega)).sI (by unfold dClk; omega)), hT, h3.ag ((((Ag.r.sA (by unfold dGds; omega)).sA (by unfold dGds; omega)).sI (by unfold dGds; omega)).sI (by unfold dGds; omega)), h4.ag ((((Ag.r.sA (by unfold dCas; omega)).sA (by unfold dCas; omega)).sI (by unfold dCas; omega)).sI (by unfold dCas; omega)), h5.ag ((((Ag.r.sA (by unfold dSui; omega)).sA (by unfold dSui; omega)).sI (by unfold dSui; omega)).sI (by unfold dSui; omega)), h6.ag ((((Ag.r.sA (by unfold dTap; omega)).sA (by unfold dTap; omega)).sI (by unfold dTap; omega)).sI (by unfold dTap; omega)), h7.ag ((((Ag.r.sA (by unfold dLaw; omega)).sA (by unfold dLaw; omega)).sI (by unfold dLaw; omega)).sI (by unfold dLaw; omega)), h8.ag ((((Ag.r.sA (by unfold dSht; omega)).sA (by unfold dSht; omega)).sI (by unfold dSht; omega)).sI (by unfold dSht; omega)), h9.ag ((((Ag.r.sA (by unfold dShp; omega)).sA (by unfold dShp; omega)).sI (by unfold dShp; omega)).sI (by unfold dShp; omega)), h10.ag ((((Ag.r.sA (by unfold dJdg; omega)).sA (by unfold dJdg; omega)).sI (by unfold dJdg; omega)).sI (by unfold dJdg; omega))⟩

theorem Rel.qtl {σ τ : hMem} {n : Nat} (h : Rel σ) (hn : rTal σ n) (hs : Qtl σ n τ) : Rel τ ∧ rTal τ n := by
  obtain ⟨n', nv, nc, nt, nl, hd, ns, h1, h2', h3, h4, h5, h6, h7, h8, h9, h10⟩ := h
  have h2 : rTal σ n := hn
  obtain ⟨g, f, c, c1, c2, c3, c4, c6 | c6⟩ := hs
  · subst c6
    exact ⟨⟨n, nv, nc, nt, nl, hd, ns, h1, h2, h3, h4, h5, h6, h7, h8, h9, h10⟩, h2⟩
  · have hT : rTal τ n := by
      obtain ⟨e1, e2, e3, e4, e5, e6, e7, e8, e9, e10, e11, e12, e13, e14, e15, e16, e17⟩ := h2
      subst c6
      exact ⟨e1, e2, e3, e4, e5, e6, e7, e8, e9, e10, e11, e12, e13, fun k => c2.2.1 k, e15, e16, fun _ => ⟨c, c1, rfl, c2⟩⟩
    refine ⟨⟨n, nv, nc, nt, nl, hd, ns, ?_⟩, hT⟩
    subst c6
    exact ⟨h1.ag ((((Ag.r.sA (by unfold dClk; omega)).sA (by unfold dClk; omega)).sI (by unfold dClk; omega)).sI (by unfold dClk; omega)), hT, h3.ag ((((Ag.r.sA (by unfold dGds; omega)).sA (by unfold dGds; omega)).sI (by unfold dGds; omega)).sI (by unfold dGds; omega)), h4.ag ((((Ag.r.sA (by unfold dCas; omega)).sA (by unfold dCas; omega)).sI (by unfold dCas; omega)).sI (by unfold dCas; omega)), h5.ag ((((Ag.r.sA (by unfold dSui; omega)).sA (by unfold dSui; omega)).sI (by unfold dSui; omega)).sI (by unfold dSui; omega)), h6.ag ((((Ag.r.sA (by unfold dTap; omega)).sA (by unfold dTap; omega)).sI (by unfold dTap; omega)).sI (by unfold dTap; omega)), h7.ag ((((Ag.r.sA (by unfold dLaw; omega)).sA (by unfold dLaw; omega)).sI (by unfold dLaw; omega)).sI (by unfold dLaw; omega)), h8.ag ((((Ag.r.sA (by unfold dSht; omega)).sA (by unfold dSht; omega)).sI (by unfold dSht; omega)).sI (by unfold dSht; omega)), h9.ag ((((Ag.r.sA (by unfold dShp; omega)).sA (by unfold dShp; omega)).sI (by unfold dShp; omega)).sI (by unfold dShp; omega)), h10.ag ((((Ag.r.sA (by unfold dJdg; omega)).sA (by unfold dJdg; omega)).sI (by unfold dJdg; omega)).sI (by unfold dJdg; omega))⟩
theorem Rel.bel9 {σ : hMem} {n : Nat} {IN : Nat → Int32} {F : Nat → Nat → Int64} (h : Rel σ) (hn : rTal σ n) (hin : ∀ k, IN k = 0 ∨ IN k = 1) : Rel (sIG σ IN F) := by
  obtain ⟨n', nv, nc, nt, nl, hd, ns, h1, h2', h3, h4, h5, h6, h7, h8, h9, h10⟩ := h
  have h2 : rTal σ n := hn
  have hT : rTal (sIG σ IN F) n := by
    obtain ⟨e1, e2, e3, e4, e5, e6, e7, e8, e9, e10, e11, e12, e13, e14, e15, e16, e17⟩ := h2
    exact ⟨e1, e2, e3, e4, e5, e6, e7, e8, e9, e10, e11, e12, e13, e14, hin, e16, e17⟩
  exact ⟨n, nv, nc, nt, nl, hd, ns, h1.ag (Ag.sT (b := 9) (Ag.r.sA (by unfold dClk; omega)) (by unfold dClk; omega)), hT, h3.ag (Ag.sT (b := 9) (Ag.r.sA (by unfold dGds; omega)) (by unfold dGds; omega)), h4.ag (Ag.sT (b := 9) (Ag.r.sA (by unfold dCas; omega)) (by unfold dCas; omega)), h5.ag (Ag.sT (b := 9) (Ag.r.sA (by unfold dSui; omega)) (by unfold dSui; omega)), h6.ag (Ag.sT (b := 9) (Ag.r.sA (by unfold dTap; omega)) (by unfold dTap; omega)), h7.ag (Ag.sT (b := 9) (Ag.r.sA (by unfold dLaw; omega)) (by unfold dLaw; omega)), h8.ag (Ag.sT (b := 9) (Ag.r.sA (by unfold dSht; omega)) (by unfold dSht; omega)), h9.ag (Ag.sT (b := 9) (Ag.r.sA (by unfold dShp; omega)) (by unfold dShp; omega)), h10.ag (Ag.sT (b := 9) (Ag.r.sA (by unfold dJdg; omega)) (by unfold dJdg; omega))⟩

theorem bel_eq {τ : hMem} {n c : Nat} {IN : Nat → Int32} {F : Nat → Nat → Int64} {g f : Nat → Int32} (h : rTal τ n) (hc : cBel τ n g f c) (hm : BelW τ n IN F) : (∀ k, k < n → (g k = 0 ↔ IN k = 0)) ∧ ∀ a b, a < 16 → b < 16 → cX f a b = mX F a b := by
  have e := h.md.2.2.2.2
  have hB := hm.1
  rw [e, h.ep] at hB
  have hP := Bel.uniq (fun A B hAB => NoNeg.congr (fun a b w => cEP_congr hAB a b w)) hc.1 hB
  refine ⟨fun k hk => by have := hP k hk; exact ⟨fun q => Classical.byContradiction (fun z => this.mpr z q), fun q => Classical.byContradiction (fun z => this.mp z q)⟩, fun a b ha hb => ?_⟩
  have hW : csW τ n := h.2.2.2.2.2.2.2.2.2.1
  have h2 := hm.2.2.1
  rw [h.ep] at h2
  have h3 : PT (cEP τ n (fun k => ¬ g k = 0)) 16 (mX F) := h2.congr (Nat.le_refl _) (fun a b w => cEP_congr (fun j hj => (hP j hj).symm) a b w) (cEP_in hW _) (fun _ _ _ _ => rfl)
  exact pt_uniq (cEP_in hW _) hc.2.1 h3 ha hb
theorem bz_cg {P Q : Prop} [Decidable P] [Decidable Q] (h : P ↔ Q) : bz P = bz Q := bz_congr h

theorem Rel.believed {σ : hMem} {n : Nat} {x r1 r2 : Int32} (hn : rTal σ n) {Z : va_W} {u1 u2 : hMem × va_W} (h : Rel σ) (hx : (inB x 0 (nI n - 1) = true ∧ ∃ τ, u1 = (τ, Z) ∧ Stl σ n τ ∧ r1 = bz (¬ hA τ 1 8 0 x.toNatClampNeg = 0)) ∨ (¬ (inB x 0 (nI n - 1) = true) ∧ r1 = -1 ∧ u1 = (σ, Z))) (hm : (inB x 0 (nI n - 1) = true ∧ ∃ IN F, u2 = (sIG u1.1 IN F, Z) ∧ BelW u1.1 n IN F ∧ r2 = bz (¬ IN x.toNatClampNeg = 0)) ∨ (¬ inB x 0 (nI n - 1) = true ∧ r2 = -1 ∧ u2 = (u1.1, Z))) : r1 = r2 ∧ Rel u2.1 ∧ u2.2 = Z := by
  rcases hx with ⟨g1, τ, g2, g3, g4⟩ | ⟨g1, g2, g3⟩
  · subst g2
    rcases hm with ⟨_, IN, F, m1, m2, m3⟩ | ⟨m1, _⟩
    · subst m1
      obtain ⟨hR, hT⟩ := h.stl hn g3
      obtain ⟨c, c1, c2, c3⟩ := g3.bel
      refine ⟨?_, hR.bel9 hT m2.2.1, rfl⟩
      rw [g4, m3]
      exact bz_congr (not_congr ((bel_eq hT c3 m2).1 _ (pre_lt18 g1 (by have := hn.2.2.1; omega))))
    · exact absurd g1 m1
  · subst g3
    rcases hm with ⟨m1, _⟩ | ⟨_, m2, m3⟩
    · exact absurd m1 g1
    · subst m3
      exact ⟨by rw [g2, m2], h, rfl⟩

theorem cE_eX {v : Int32} {w : Int64} (h : cE v = eX w) : (v = 2147483647 ↔ w = 1099511627776) ∧ (¬ v = 2147483647 → w.toInt32 = v) := by
  by_cases e : v = 2147483647
  · have h1 := cE_none.mpr e
    rw [h1] at h
    have h2 := eX_none.mp h.symm
    exact ⟨⟨fun _ => h2, fun _ => e⟩, fun q => absurd e q⟩
  · have h1 : cE v = some v.toInt := cE_some.mpr ⟨e, rfl⟩
    rw [h1] at h
    obtain ⟨h2, h3⟩ := eX_some.mp h.symm
    refine ⟨⟨fun q => absurd q e, fun q => absurd q h2⟩, fun _ => ?_⟩
    apply Int32.toInt_inj.mp
    rw [Int64.toInt_toInt32, h3]
    have a1 := Int32.le_toInt v
    have a2 := Int32.toInt_lt v
    exact Int.bmod_eq_of_le (by omega) (by omega)

theorem Rel.spans {σ : hMem} {n : Nat} {xa xb x r1 r2 : Int32} (hn : rTal σ n) {Z : va_W} {u1 u2 : hMem × va_W} (h : Rel σ) (hx : (((inB xa 0 15 = true) ∧ (inB xb 0 15 = true) ∧ (inB x 0 1 = true)) ∧ ∃ τ, u1 = (τ, Z) ∧ Stl σ n τ ∧ r1 = if x = 0 then spC (hA τ 2 0 0) xb.toNatClampNeg xa.toNatClampNeg else spG (hA τ 2 0 0) xa.toNatClampNeg xb.toNatClampNeg) ∨ (¬ ((inB xa 0 15 = true) ∧ (inB xb 0 15 = true) ∧ (inB x 0 1 = true)) ∧ r1 = -2147483648 ∧ u1 = (σ, Z))) (hm : ((inB xa 0 15 = true ∧ inB xb 0 15 = true ∧ inB x 0 1 = true) ∧ ∃ IN F, u2 = (sIG u1.1 IN F, Z) ∧ BelW u1.1 n IN F ∧ r2 = (if x = 0 then spN (F xb.toNatClampNeg xa.toNatClampNeg) else spO (F xa.toNatClampNeg xb.toNatClampNeg))) ∨ (¬ (inB xa 0 15 = true ∧ inB xb 0 15 = true ∧ inB x 0 1 = true) ∧ r2 = -2147483648 ∧ u2 = (u1.1, Z))) : r1 = r2 ∧ Rel u2.1 ∧ u2.2 = Z := by
  rcases hx with ⟨g1, τ, g2, g3, g4⟩ | ⟨g1, g2, g3⟩
  · subst g2
    rcases hm with ⟨_, IN, F, m1, m2, m3⟩ | ⟨m1, _⟩
    · subst m1
      obtain ⟨hR, hT⟩ := h.stl hn g3
      obtain ⟨c, c1, c2, c3⟩ := g3.bel
      refine ⟨?_, hR.bel9 hT m2.2.1, rfl⟩
      have hX := (bel_eq hT c3 m2).2
      have ha : xa.toNatClampNeg < 16 := vp_lt (vp_in_B g1.1 (by decide))
      have hb : xb.toNatClampNeg < 16 := vp_lt (vp_in_B g1.2.1 (by decide))
      rw [g4, m3]
      by_cases e : x = 0
      · rw [if_pos e, if_pos e]
        obtain ⟨q1, q2⟩ := cE_eX (hX _ _ hb ha)
        unfold spC spN
        by_cases z : hA τ 2 0 0 (xb.toNatClampNeg * 16 + xa.toNatClampNeg) = 2147483647
        · rw [if_pos z, if_pos (q1.mp z)]
        · rw [if_neg z, if_neg (fun y => z (q1.mpr y)), ← q2 z]
          exact (Int64.toInt32_neg _).symm
      · rw [if_neg e, if_neg e]
        obtain ⟨q1, q2⟩ := cE_eX (hX _ _ ha hb)
        unfold spG spO
        by_cases z : hA τ 2 0 0 (xa.toNatClampNeg * 16 + xb.toNatClampNeg) = 2147483647
        · rw [if_pos z, if_pos (q1.mp z)]
        · rw [if_neg z, if_neg (fun y => z (q1.mpr y)), ← q2 z]
    · exact absurd g1 m1
  · subst g3
    rcases hm with ⟨m1, _⟩ | ⟨_, m2, m3⟩
    · exact absurd m1 g1
    · subst m3
      exact ⟨by rw [g2, m2], h, rfl⟩
