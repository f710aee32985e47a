/-- the logs -/
def dTal (j k : Nat) : Prop := j = 1 ∨ j = 2 ∨ (j = 43 ∧ 2 ≤ k ∧ k ≤ 8) ∨ (j = 43 ∧ k = 10)
def rTal (σ : hMem) (n : Nat) : Prop := hI σ 1 6 = nI n ∧ hI σ 43 3 = nI n ∧ n ≤ 40 ∧ hA σ 1 0 0 = hA σ 43 2 0 ∧ hA σ 1 1 0 = hA σ 43 4 0 ∧ hA σ 1 2 0 = hA σ 43 5 0 ∧ hA σ 1 3 0 = hA σ 43 6 0 ∧ hA σ 1 4 0 = hA σ 43 7 0 ∧ hA σ 1 5 0 = hA σ 43 8 0 ∧ csW σ n ∧ (∀ k, k < n → vp_in (hA σ 1 1 0 k) 6) ∧ (∀ x, x < 6 → 0 ≤ (hA σ 1 0 0 x).toInt ∧ (hA σ 1 0 0 x).toInt ≤ 9) ∧ (∀ k, hA σ 1 8 0 k = 0 ∨ hA σ 1 8 0 k = 1) ∧ (∀ k, hA σ 1 12 0 k = 0 ∨ hA σ 1 12 0 k = 1) ∧ (∀ k, hA σ 43 10 0 k = 0 ∨ hA σ 43 10 0 k = 1) ∧ cach σ n ∧ qcach σ n
theorem rw_rd {σ τ : hMem} (h0 : hA τ 1 0 0 = hA σ 1 0 0) (h1 : hA τ 1 1 0 = hA σ 1 1 0) (h2 : hA τ 1 2 0 = hA σ 1 2 0) (h3 : hA τ 1 3 0 = hA σ 1 3 0) (h4 : hA τ 1 4 0 = hA σ 1 4 0) (h5 : hA τ 1 5 0 = hA σ 1 5 0) : cTr τ = cTr σ ∧ cFr τ = cFr σ ∧ cTo τ = cTo σ ∧ cLo τ = cLo σ ∧ cHi τ = cHi σ := by
  refine ⟨?_, ?_, ?_, ?_, ?_⟩ <;> funext k
  · unfold cTr; rw [h0, h1]
  · unfold cFr; rw [h2]
  · unfold cTo; rw [h3]
  · unfold cLo; rw [h4]
  · unfold cHi; rw [h5]
theorem cEP_rd {σ τ : hMem} (h : cFr τ = cFr σ ∧ cTo τ = cTo σ ∧ cLo τ = cLo σ ∧ cHi τ = cHi σ) (n : Nat) : cEP τ n = cEP σ n := by
  funext P
  unfold cEP
  rw [h.1, h.2.1, h.2.2.1, h.2.2.2]
theorem rTal.ag {σ τ : hMem} {n : Nat} (h : rTal σ n) (a : Ag dTal σ τ) : rTal τ n := by
  have b1 : ∀ k, dTal 1 k := fun k => Or.inl rfl
  have b2 : ∀ k, dTal 2 k := fun k => Or.inr (Or.inl rfl)
  have b43 : ∀ k, 2 ≤ k → k ≤ 8 → dTal 43 k := fun k h1 h2 => Or.inr (Or.inr (Or.inl ⟨rfl, h1, h2⟩))
  have e := rw_rd (a.A (b1 0) 0) (a.A (b1 1) 0) (a.A (b1 2) 0) (a.A (b1 3) 0) (a.A (b1 4) 0) (a.A (b1 5) 0)
  have eP := cEP_rd e.2 n
  unfold rTal
  obtain ⟨h1, h2, h3, h4, h5, h6, h7, h8, h9, h10, h11, h12, h13, h14, h15, h16, h17⟩ := h
  refine ⟨(a.I (b1 6)).trans h1, (a.I (b43 3 (by decide) (by decide))).trans h2, h3, ?_, ?_, ?_, ?_, ?_, ?_, ?_, ?_, ?_, ?_, ?_, ?_, ?_, ?_⟩
  · rw [a.A (b1 0), a.A (b43 2 (by decide) (by decide))]; exact h4
  · rw [a.A (b1 1), a.A (b43 4 (by decide) (by decide))]; exact h5
  · rw [a.A (b1 2), a.A (b43 5 (by decide) (by decide))]; exact h6
  · rw [a.A (b1 3), a.A (b43 6 (by decide) (by decide))]; exact h7
  · rw [a.A (b1 4), a.A (b43 7 (by decide) (by decide))]; exact h8
  · rw [a.A (b1 5), a.A (b43 8 (by decide) (by decide))]; exact h9
  · unfold csW
    rw [e.2.1, e.2.2.1, e.2.2.2.1, e.2.2.2.2, a.A (b1 2), a.A (b1 3)]; exact h10
  · rw [a.A (b1 1)]; exact h11
  · rw [a.A (b1 0)]; exact h12
  · rw [a.A (b1 8)]; exact h13
  · rw [a.A (b1 12)]; exact h14
  · rw [a.A (j := 43) (k := 10) (Or.inr (Or.inr (Or.inr ⟨rfl, rfl⟩)))]; exact h15
  · unfold cach cBel
    rw [a.I (b1 10), a.I (b1 9), a.A (b1 8), a.A (b2 0), e.1, eP]; exact h16
  · unfold qcach cQu
    rw [a.I (b1 14), a.I (b1 13), a.A (b1 12), eP]; exact h17
section TAL
variable {σ : hMem} {n : Nat}
theorem rTal.tr (h : rTal σ n) : ∀ k, k < n → 0 ≤ (cTr σ k).toInt ∧ (cTr σ k).toInt ≤ 9 := fun k hk => h.2.2.2.2.2.2.2.2.2.2.2.1 _ (vp_lt (h.2.2.2.2.2.2.2.2.2.2.1 k hk))
theorem rTal.md (h : rTal σ n) : mFr σ = cFr σ ∧ mTo σ = cTo σ ∧ mLo σ = cLo σ ∧ mHi σ = cHi σ ∧ mTr σ = cTr σ := by
  obtain ⟨h1, h2, h3, h4, h5, h6, h7, h8, h9, _⟩ := h
  refine ⟨?_, ?_, ?_, ?_, ?_⟩ <;> funext k
  · unfold mFr cFr; rw [h6]
  · unfold mTo cTo; rw [h7]
  · unfold mLo cLo; rw [h8]
  · unfold mHi cHi; rw [h9]
  · unfold mTr cTr; rw [h4, h5]
theorem rTal.ep (h : rTal σ n) : mEP σ n = cEP σ n := by
  obtain ⟨e1, e2, e3, e4, _⟩ := h.md
  funext P
  unfold mEP cEP
  rw [e1, e2, e3, e4]
theorem rTal.sw (h : rTal σ n) : sayW σ n := by
  obtain ⟨e1, e2, e3, e4, _⟩ := h.md
  obtain ⟨_, _, _, _, _, h6, h7, _, _, h10, _⟩ := h
  unfold sayW
  rw [e1, e2, e3, e4, ← h6, ← h7]
  exact h10
end TAL
def Rel (σ : hMem) : Prop := ∃ n nv nc nt nl hd ns, rClk σ ∧ rTal σ n ∧ rGds σ nv ∧ rCas σ nc ∧ rSui σ ∧ rTap σ nt ∧ rLaw σ nl ∧ rSht σ hd ∧ rShp σ ns ∧ rJdg σ
/-- of the model alone, which a call of the class leaves as it is -/
def d43 (j _ : Nat) : Prop := j = 43
theorem ag43 {σ τ : hMem} (a : Ag d43 σ τ) : (∀ k, hI τ 43 k = hI σ 43 k) ∧ (∀ k, hL τ 43 k = hL σ 43 k) ∧ (∀ k i, hA τ 43 k i = hA σ 43 k i) ∧ ∀ k i, hB τ 43 k i = hB σ 43 k i := ⟨fun k => a.I rfl, fun k => a.L rfl, fun k i => a.A rfl i, fun k i => a.B rfl i⟩
/-- clock -/
theorem Rel.clock {σ : hMem} {day r1 r2 : Int32} {Z : va_W} {u1 u2 : hMem × va_W} (h : Rel σ) (hx : (inB day (hI σ 0 9) 5000 = true ∧ r1 = 1 ∧ u1 = (sI σ 0 9 day, Z)) ∨ (¬ (inB day (hI σ 0 9) 5000 = true) ∧ r1 = 0 ∧ u1 = (σ, Z))) (hm : r2 = bz (inB day (hI u1.1 43 1) 5000 = true) ∧ u2 = (if inB day (hI u1.1 43 1) 5000 = true then sI u1.1 43 1 day else u1.1, Z)) : r1 = r2 ∧ Rel u2.1 ∧ u2.2 = Z := by
  obtain ⟨n, nv, nc, nt, nl, hd, ns, h1, h2, h3, h4, h5, h6, h7, h8, h9, h10⟩ := h
  obtain ⟨hm1, hm2⟩ := hm
  rcases hx with ⟨g1, g2, g3⟩ | ⟨g1, g2, g3⟩
  · subst g3
    have e : hI (sI σ 0 9 day) 43 1 = hI σ 0 9 := h1.1.symm
    dsimp only at hm1 hm2
    rw [e] at hm1 hm2
    rw [if_pos g1] at hm2
    subst hm2
    refine ⟨by rw [g2, hm1, bz_t g1], ?_, rfl⟩
    refine ⟨n, nv, nc, nt, nl, hd, ns, ⟨rfl, ?_⟩, h2.ag ((Ag.r.sI (by unfold dTal; omega)).sI (by unfold dTal; omega)), h3.ag ((Ag.r.sI (by unfold dGds; omega)).sI (by unfold dGds; omega)), h4.ag ((Ag.r.sI (by unfold dCas; omega)).sI (by unfold dCas; omega)), h5.ag ((Ag.r.sI (by unfold dSui; omega)).sI (by unfold dSui; omega)), h6.ag ((Ag.r.sI (by unfold dTap; omega)).sI (by unfold dTap; omega)), h7.ag ((Ag.r.sI (by unfold dLaw; omega)).sI (by unfold dLaw; omega)), h8.ag ((Ag.r.sI (by unfold dSht; omega)).sI (by unfold dSht; omega)), h9.ag ((Ag.r.sI (by unfold dShp; omega)).sI (by unfold dShp; omega)), h10.ag ((Ag.r.sI (by unfold dJdg; omega)).sI (by unfold dJdg; omega))⟩
    show ∃ t, t ≤ 5000 ∧ day = nI t
    obtain ⟨t, ht, ht'⟩ := h1.2
    rw [ht'] at g1
    obtain ⟨q, _, q2, q3⟩ := nI_in1 (lo := t) (hi := 5000) g1 rfl (by decide) (by omega)
    exact ⟨q, q2, q3⟩
  · subst g3
    have e : hI σ 43 1 = hI σ 0 9 := h1.1.symm
    dsimp only at hm1 hm2
    rw [e] at hm1 hm2
    rw [if_neg g1] at hm2
    subst hm2
    exact ⟨by rw [g2, hm1, bz_f g1], ⟨n, nv, nc, nt, nl, hd, ns, h1, h2, h3, h4, h5, h6, h7, h8, h9, h10⟩, rfl⟩
