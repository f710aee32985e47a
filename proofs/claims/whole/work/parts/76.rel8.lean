theorem sht_eq {n : Int32} {N : Nat} {a b c d : Int64} : shtOk n N (cHw a b c d) ↔ shtOk n N (mHw a b c d) := by
  unfold shtOk
  constructor
  · rintro ⟨h1, h2, h3, h4⟩
    exact ⟨h1, h2, h3, fun k hk => by rw [← hw_eq (by omega)]; exact h4 k hk⟩
  · rintro ⟨h1, h2, h3, h4⟩
    exact ⟨h1, h2, h3, fun k hk => by rw [hw_eq (by omega)]; exact h4 k hk⟩

theorem Rel.sheet {σ : hMem} {x r1 r2 : Int32} {a b c d : Int64} {Z : va_W} {u1 u2 : hMem × va_W} (h : Rel σ) (hx : (∃ N, shtOk x N (cHw a b c d) ∧ r1 = 1 ∧ u1 = (cCrw σ 11 (cHw a b c d) N, Z)) ∨ ((∀ N, ¬ shtOk x N (cHw a b c d)) ∧ r1 = 0 ∧ u1 = (σ, Z))) (hm : (∃ N, shtOk x N (mHw a b c d) ∧ r2 = 1 ∧ u2 = (mSht u1.1 N (mHw a b c d), Z)) ∨ ((∀ N, ¬ shtOk x N (mHw a b c d)) ∧ r2 = 0 ∧ u2 = (u1.1, Z))) : r1 = r2 ∧ Rel u2.1 ∧ u2.2 = Z := by
  have h0 := h
  obtain ⟨n, nv, nc, nt, nl, hd, ns, h1, h2, h3, h4, h5, h6, h7, h8, h9, h10⟩ := h
  rcases hx with ⟨N, g1, g2, g3⟩ | ⟨g1, g2, g3⟩
  · subst g3
    rcases hm with ⟨N', m1, m2, m3⟩ | ⟨m1, _⟩
    · have e : N' = N := (nI_eq (by have := m1.2.2.1; omega) (by have := g1.2.2.1; omega)).mp (m1.1.symm.trans g1.1)
      subst e
      subst m3
      refine ⟨by rw [g2, m2], ?_, rfl⟩
      obtain ⟨_, k2, k3, k4⟩ := g1
      have hG : rSht (mSht (cCrw σ 11 (cHw a b c d) N') N' (mHw a b c d)) N' := by
        refine ⟨rfl, rfl, k3, ⟨fun q => absurd (show (1 : Int32) = 0 from q) (by decide), fun q => by omega⟩, fun y hy => ?_⟩
        show pre (cHw a b c d) (hA σ 11 0 0) N' y = pre (mHw a b c d) (hA σ 43 37 0) N' y ∧ ∃ z, 1 ≤ z ∧ z ≤ 9 ∧ pre (cHw a b c d) (hA σ 11 0 0) N' y = nI z
        rw [pre_lt hy, pre_lt hy]
        refine ⟨hw_eq (by omega), ?_⟩
        obtain ⟨z, z1, z2, z3⟩ := nI_in1 (lo := 1) (hi := 9) (k4 y hy) rfl (by decide) (by decide)
        exact ⟨z, z1, z2, z3⟩
      exact ⟨n, nv, nc, nt, nl, N', ns, h1.ag ((((((Ag.r.sA (by unfold dClk; omega)).sI (by unfold dClk; omega)).sI (by unfold dClk; omega)).sA (by unfold dClk; omega)).sI (by unfold dClk; omega)).sI (by unfold dClk; omega)), h2.ag ((((((Ag.r.sA (by unfold dTal; omega)).sI (by unfold dTal; omega)).sI (by unfold dTal; omega)).sA (by unfold dTal; omega)).sI (by unfold dTal; omega)).sI (by unfold dTal; omega)), h3.ag ((((((Ag.r.sA (by unfold dGds; omega)).sI (by unfold dGds; omega)).sI (by unfold dGds; omega)).sA (by unfold dGds; omega)).sI (by unfold dGds; omega)).sI (by unfold dGds; omega)), h4.ag ((((((Ag.r.sA (by unfold dCas; omega)).sI (by unfold dCas; omega)).sI (by unfold dCas; omega)).sA (by unfold dCas; omega)).sI (by unfold dCas; omega)).sI (by unfold dCas; omega)), h5.ag ((((((Ag.r.sA (by unfold dSui; omega)).sI (by unfold dSui; omega)).sI (by unfold dSui; omega)).sA (by unfold dSui; omega)).sI (by unfold dSui; omega)).sI (by unfold dSui; omega)), h6.ag ((((((Ag.r.sA (by unfold dTap; omega)).sI (by unfold dTap; omega)).sI (by unfold dTap; omega)).sA (by unfold dTap; omega)).sI (by unfold dTap; omega)).sI (by unfold dTap; omega)), h7.ag ((((((Ag.r.sA (by unfold dLaw; omega)).sI (by unfold dLaw; omega)).sI (by unfold dLaw; omega)).sA (by unfold dLaw; omega)).sI (by unfold dLaw; omega)).sI (by unfold dLaw; omega)), hG, h9.ag ((((((Ag.r.sA (by unfold dShp; omega)).sI (by unfold dShp; omega)).sI (by unfold dShp; omega)).sA (by unfold dShp; omega)).sI (by unfold dShp; omega)).sI (by unfold dShp; omega)), h10.ag ((((((Ag.r.sA (by unfold dJdg; omega)).sI (by unfold dJdg; omega)).sI (by unfold dJdg; omega)).sA (by unfold dJdg; omega)).sI (by unfold dJdg; omega)).sI (by unfold dJdg; omega))⟩
    · exact absurd (sht_eq.mp g1) (m1 N)
  · subst g3
    rcases hm with ⟨N, m1, _⟩ | ⟨_, m2, m3⟩
    · exact absurd (sht_eq.mpr m1) (g1 N)
    · subst m3
      exact ⟨by rw [g2, m2], h0, rfl⟩
