theorem Rel.suit {σ : hMem} {m9 l9 r1 r2 : Int32} {Z : va_W} {u1 u2 : hMem × va_W} (h : Rel σ) (hx : (((inB m9 0 99999 = true) ∧ (inB l9 0 99 = true)) ∧ r1 = 1 ∧ u1 = (sI (sI σ 0 10 m9) 0 11 l9, Z)) ∨ (¬ ((inB m9 0 99999 = true) ∧ (inB l9 0 99 = true)) ∧ r1 = 0 ∧ u1 = (σ, Z))) (hm : r2 = bz ((inB m9 0 99999 = true) ∧ (inB l9 0 99 = true)) ∧ u2 = (if (inB m9 0 99999 = true) ∧ (inB l9 0 99 = true) then sI (sI u1.1 43 24 m9) 43 25 l9 else u1.1, Z)) : r1 = r2 ∧ Rel u2.1 ∧ u2.2 = Z := by
  obtain ⟨n, nv, nc, nt, nl, hd, ns, h1, h2, h3, h4, h5, h6, h7, h8, h9, h10⟩ := h
  obtain ⟨hm1, hm2⟩ := hm
  rcases hx with ⟨g1, g2, g3⟩ | ⟨g1, g2, g3⟩
  · rw [if_pos g1] at hm2
    subst g3
    subst hm2
    refine ⟨by rw [g2, hm1, bz_t g1], ?_, rfl⟩
    obtain ⟨q, _, q2, q3⟩ := nI_in1 (lo := 0) (hi := 99999) g1.1 rfl (by decide) (by decide)
    obtain ⟨w, _, w2, w3⟩ := nI_in1 (lo := 0) (hi := 99) g1.2 rfl (by decide) (by decide)
    exact ⟨n, nv, nc, nt, nl, hd, ns, h1.ag ((((Ag.r.sI (by unfold dClk; omega)).sI (by unfold dClk; omega)).sI (by unfold dClk; omega)).sI (by unfold dClk; omega)), h2.ag ((((Ag.r.sI (by unfold dTal; omega)).sI (by unfold dTal; omega)).sI (by unfold dTal; omega)).sI (by unfold dTal; omega)), h3.ag ((((Ag.r.sI (by unfold dGds; omega)).sI (by unfold dGds; omega)).sI (by unfold dGds; omega)).sI (by unfold dGds; omega)), h4.ag ((((Ag.r.sI (by unfold dCas; omega)).sI (by unfold dCas; omega)).sI (by unfold dCas; omega)).sI (by unfold dCas; omega)), ⟨rfl, rfl, ⟨q, q2, q3⟩, w, w2, w3⟩, h6.ag ((((Ag.r.sI (by unfold dTap; omega)).sI (by unfold dTap; omega)).sI (by unfold dTap; omega)).sI (by unfold dTap; omega)), h7.ag ((((Ag.r.sI (by unfold dLaw; omega)).sI (by unfold dLaw; omega)).sI (by unfold dLaw; omega)).sI (by unfold dLaw; omega)), h8.ag ((((Ag.r.sI (by unfold dSht; omega)).sI (by unfold dSht; omega)).sI (by unfold dSht; omega)).sI (by unfold dSht; omega)), h9.ag ((((Ag.r.sI (by unfold dShp; omega)).sI (by unfold dShp; omega)).sI (by unfold dShp; omega)).sI (by unfold dShp; omega)), h10.ag ((((Ag.r.sI (by unfold dJdg; omega)).sI (by unfold dJdg; omega)).sI (by unfold dJdg; omega)).sI (by unfold dJdg; omega))⟩
  · rw [if_neg g1] at hm2
    subst g3
    subst hm2
    exact ⟨by rw [g2, hm1, bz_f g1], ⟨n, nv, nc, nt, nl, hd, ns, h1, h2, h3, h4, h5, h6, h7, h8, h9, h10⟩, rfl⟩

theorem Rel.end_ {σ : hMem} {k r1 r2 : Int32} {Z : va_W} {u1 u2 : hMem × va_W} (h : Rel σ) (hx : ((inB k 0 (hI σ 9 1) = true) ∧ r1 = k ∧ u1 = (sI σ 9 1 k, Z)) ∨ (¬ (inB k 0 (hI σ 9 1) = true) ∧ r1 = -1 ∧ u1 = (σ, Z))) (hm : r2 = (if ¬ k < 0 ∧ k ≤ hI u1.1 43 31 then k else -1) ∧ u2 = (if ¬ k < 0 ∧ k ≤ hI u1.1 43 31 then sI u1.1 43 31 k else u1.1, Z)) : r1 = r2 ∧ Rel u2.1 ∧ u2.2 = Z := by
  obtain ⟨n, nv, nc, nt, nl, hd, ns, h1, h2, h3, h4, h5, h6, h7, h8, h9, h10⟩ := h
  obtain ⟨hm1, hm2⟩ := hm
  have e : hI σ 43 31 = hI σ 9 1 := h6.2.1.trans h6.1.symm
  rcases hx with ⟨g1, g2, g3⟩ | ⟨g1, g2, g3⟩
  · subst g3
    have g0 : ¬ k < 0 ∧ k ≤ hI (sI σ 9 1 k) 43 31 := ⟨(inB_iff.mp g1).1, by show k ≤ hI σ 43 31; rw [e]; exact Int32.not_lt.mp (inB_iff.mp g1).2⟩
    rw [if_pos g0] at hm1 hm2
    subst hm2
    refine ⟨by rw [g2, hm1], ?_, rfl⟩
    have g1' := g1
    rw [h6.1] at g1'
    obtain ⟨q, _, q2, q3⟩ := nI_in1 (lo := 0) (hi := nt) g1' rfl (by have := h6.2.2.1; omega) (by decide)
    exact ⟨n, nv, nc, q, nl, hd, ns, h1.ag ((Ag.r.sI (by unfold dClk; omega)).sI (by unfold dClk; omega)), h2.ag ((Ag.r.sI (by unfold dTal; omega)).sI (by unfold dTal; omega)), h3.ag ((Ag.r.sI (by unfold dGds; omega)).sI (by unfold dGds; omega)), h4.ag ((Ag.r.sI (by unfold dCas; omega)).sI (by unfold dCas; omega)), h5.ag ((Ag.r.sI (by unfold dSui; omega)).sI (by unfold dSui; omega)), ⟨q3, q3, Nat.le_trans q2 h6.2.2.1, h6.2.2.2⟩, h7.ag ((Ag.r.sI (by unfold dLaw; omega)).sI (by unfold dLaw; omega)), h8.ag ((Ag.r.sI (by unfold dSht; omega)).sI (by unfold dSht; omega)), h9.ag ((Ag.r.sI (by unfold dShp; omega)).sI (by unfold dShp; omega)), h10.ag ((Ag.r.sI (by unfold dJdg; omega)).sI (by unfold dJdg; omega))⟩
  · subst g3
    have g0 : ¬ (¬ k < 0 ∧ k ≤ hI σ 43 31) := fun q => g1 (inB_iff.mpr ⟨q.1, Int32.not_lt.mpr (by rw [← e]; exact q.2)⟩)
    rw [if_neg g0] at hm1 hm2
    subst hm2
    exact ⟨by rw [g2, hm1], ⟨n, nv, nc, nt, nl, hd, ns, h1, h2, h3, h4, h5, h6, h7, h8, h9, h10⟩, rfl⟩

theorem rGds.n {σ : hMem} {a b : Nat} (h : rGds σ a) (h' : rGds σ b) : a = b := (nI_eq (by have := h.2.2.1; omega) (by have := h'.2.2.1; omega)).mp (h.1.symm.trans h'.1)
theorem rCas.n {σ : hMem} {a b : Nat} (h : rCas σ a) (h' : rCas σ b) : a = b := (nI_eq (by have := h.2.2.1; omega) (by have := h'.2.2.1; omega)).mp (h.1.symm.trans h'.1)
theorem rTal.n {σ : hMem} {a b : Nat} (h : rTal σ a) (h' : rTal σ b) : a = b := (nI_eq (by have := h.2.2.1; omega) (by have := h'.2.2.1; omega)).mp (h.1.symm.trans h'.1)
theorem rTap.n {σ : hMem} {a b : Nat} (h : rTap σ a) (h' : rTap σ b) : a = b := (nI_eq (by have := h.2.2.1; omega) (by have := h'.2.2.1; omega)).mp (h.1.symm.trans h'.1)
theorem upd_o {f : Nat → Int32} {i j : Nat} {v : Int32} (h : ¬ i = j) : upd f j v i = f i := if_neg h
theorem max_sub {c r : Nat} (hc : c ≤ 1000000) (hr : r ≤ 1000000) : (if 0 < nI c - nI r then nI c - nI r else 0) = nI (c - r) := by
  by_cases h : r < c
  · rw [nI_subN (by omega), if_pos (show (0 : Int32) < nI (c - r) from (nI_ltI (a := 0) (b := c - r) (by decide) (by omega)).mpr (by omega))]
  · have hn : ¬ 0 < nI c - nI r := by
      rw [Int32.lt_iff_toInt_lt, pk_sub_toInt (by omega) (by omega)]
      have e0 : (0 : Int32).toInt = 0 := rfl
      rw [e0]
      omega
    rw [if_neg hn, show c - r = 0 by omega]
    rfl
theorem lt60 {n : Nat} (h : ¬ nI n = 60) (hn : n ≤ 60) : n < 60 := by have := ct_ne 60 h; omega
theorem lt40 {n : Nat} (h : ¬ nI n = 40) (hn : n ≤ 40) : n < 40 := by have := ct_ne 40 h; omega

theorem Rel.value {σ : hMem} {nv : Nat} {g c9 r9 day r1 r2 : Int32} (hnv : rGds σ nv) {Z : va_W} {u1 u2 : hMem × va_W} (h : Rel σ) (hx : (((inB c9 0 1000000 = true) ∧ (inB r9 0 1000000 = true) ∧ (inB g 0 9 = true) ∧ (inB day 0 5000 = true)) ∧ r1 = (if nI nv < 60 then nI (nv + 1) else -1) ∧ u1 = ((if nI nv < 60 then cGad σ nv g (if 0 < c9 - r9 then c9 - r9 else 0) day (hI σ 0 9) else σ), Z)) ∨ (¬ ((inB c9 0 1000000 = true) ∧ (inB r9 0 1000000 = true) ∧ (inB g 0 9 = true) ∧ (inB day 0 5000 = true)) ∧ r1 = -1 ∧ u1 = (σ, Z))) (hm : (valOk nv g c9 r9 day → r2 = nI (nv + 1) ∧ u2 = (mVal u1.1 nv g c9 r9 day, Z)) ∧ (¬ valOk nv g c9 r9 day → r2 = -1 ∧ u2 = (u1.1, Z))) : r1 = r2 ∧ Rel u2.1 ∧ u2.2 = Z := by
  obtain ⟨n, nv', nc, nt, nl, hd, ns, h1, h2, h3', h4, h5, h6, h7, h8, h9, h10⟩ := h
  have h3 : rGds σ nv := hnv
  have n6 := h3.2.2.1
  by_cases hok : valOk nv g c9 r9 day
  · obtain ⟨hm1, hm2⟩ := hm.1 hok
    obtain ⟨k1, k2, k3, k4, k5⟩ := hok
    have hlt := lt60 k1 n6
    have hc : nI nv < 60 := (nI_ltI (b := 60) (by omega) (by decide)).mpr hlt
    rcases hx with ⟨g1, g2, g3⟩ | ⟨g1, _⟩
    · rw [if_pos hc] at g2 g3
      subst g3
      subst hm2
      refine ⟨by rw [g2, hm1], ?_, rfl⟩
      obtain ⟨c, _, c2, c3⟩ := nI_in1 (lo := 0) (hi := 1000000) k3 rfl (by decide) (by decide)
      obtain ⟨r, _, r4, r5⟩ := nI_in1 (lo := 0) (hi := 1000000) k4 rfl (by decide) (by decide)
      have hG : rGds (mVal (cGad σ nv g (if 0 < c9 - r9 then c9 - r9 else 0) day (hI σ 0 9)) nv g c9 r9 day) (nv + 1) := by
        refine ⟨rfl, rfl, hlt, ?_, fun i hi => ?_⟩
        · show upd (hA σ 4 0 0) nv g = upd (hA σ 43 12 0) nv g
          rw [h3.2.2.2.1]
        · show upd (hA σ 5 0 0) nv day i = upd (hA σ 43 15 0) nv day i ∧ upd (hA σ 5 1 0) nv (hI σ 0 9) i = upd (hA σ 43 16 0) nv (hI σ 43 1) i ∧ ∃ c r, c ≤ 1000000 ∧ r ≤ 1000000 ∧ upd (hA σ 43 13 0) nv c9 i = nI c ∧ upd (hA σ 43 14 0) nv r9 i = nI r ∧ upd (hA σ 4 1 0) nv _ i = nI (c - r)
          by_cases e : i = nv
          · subst e
            rw [pk_us, pk_us, pk_us, pk_us, pk_us, pk_us, pk_us]
            refine ⟨rfl, h1.1, c, r, c2, r4, c3, r5, ?_⟩
            rw [c3, r5]
            exact max_sub c2 r4
          · rw [upd_o e, upd_o e, upd_o e, upd_o e, upd_o e, upd_o e, upd_o e]
            exact h3.2.2.2.2 i (by omega)
      exact ⟨n, nv + 1, nc, nt, nl, hd, ns, h1.ag (((((((((((Ag.r.sA (by unfold dClk; omega)).sA (by unfold dClk; omega)).sA (by unfold dClk; omega)).sA (by unfold dClk; omega)).sI (by unfold dClk; omega)).sA (by unfold dClk; omega)).sA (by unfold dClk; omega)).sA (by unfold dClk; omega)).sA (by unfold dClk; omega)).sA (by unfold dClk; omega)).sI (by unfold dClk; omega)), h2.ag (((((((((((Ag.r.sA (by unfold dTal; omega)).sA (by unfold dTal; omega)).sA (by unfold dTal; omega)).sA (by unfold dTal; omega)).sI (by unfold dTal; omega)).sA (by unfold dTal; omega)).sA (by unfold dTal; omega)).sA (by unfold dTal; omega)).sA (by unfold dTal; omega)).sA (by unfold dTal; omega)).sI (by unfold dTal; omega)), hG, h4.ag (((((((((((Ag.r.sA (by unfold dCas; omega)).sA (by unfold dCas; omega)).sA (by unfold dCas; omega)).sA (by unfold dCas; omega)).sI (by unfold dCas; omega)).sA (by unfold dCas; omega)).sA (by unfold dCas; omega)).sA (by unfold dCas; omega)).sA (by unfold dCas; omega)).sA (by unfold dCas; omega)).sI (by unfold dCas; omega)), h5.ag (((((((((((Ag.r.sA (by unfold dSui; omega)).sA (by unfold dSui; omega)).sA (by unfold dSui; omega)).sA (by unfold dSui; omega)).sI (by unfold dSui; omega)).sA (by unfold dSui; omega)).sA (by unfold dSui; omega)).sA (by unfold dSui; omega)).sA (by unfold dSui; omega)).sA (by unfold dSui; omega)).sI (by unfold dSui; omega)), h6.ag (((((((((((Ag.r.sA (by unfold dTap; omega)).sA (by unfold dTap; omega)).sA (by unfold dTap; omega)).sA (by unfold dTap; omega)).sI (by unfold dTap; omega)).sA (by unfold dTap; omega)).sA (by unfold dTap; omega)).sA (by unfold dTap; omega)).sA (by unfold dTap; omega)).sA (by unfold dTap; omega)).sI (by unfold dTap; omega)), h7.ag (((((((((((Ag.r.sA (by unfold dLaw; omega)).sA (by unfold dLaw; omega)).sA (by unfold dLaw; omega)).sA (by unfold dLaw; omega)).sI (by unfold dLaw; omega)).sA (by unfold dLaw; omega)).sA (by unfold dLaw; omega)).sA (by unfold dLaw; omega)).sA (by unfold dLaw; omega)).sA (by unfold dLaw; omega)).sI (by unfold dLaw; omega)), h8.ag (((((((((((Ag.r.sA (by unfold dSht; omega)).sA (by unfold dSht; omega)).sA (by unfold dSht; omega)).sA (by unfold dSht; omega)).sI (by unfold dSht; omega)).sA (by unfold dSht; omega)).sA (by unfold dSht; omega)).sA (by unfold dSht; omega)).sA (by unfold dSht; omega)).sA (by unfold dSht; omega)).sI (by unfold dSht; omega)), h9.ag (((((((((((Ag.r.sA (by unfold dShp; omega)).sA (by unfold dShp; omega)).sA (by unfold dShp; omega)).sA (by unfold dShp; omega)).sI (by unfold dShp; omega)).sA (by unfold dShp; omega)).sA (by unfold dShp; omega)).sA (by unfold dShp; omega)).sA (by unfold dShp; omega)).sA (by unfold dShp; omega)).sI (by unfold dShp; omega)), h10.ag (((((((((((Ag.r.sA (by unfold dJdg; omega)).sA (by unfold dJdg; omega)).sA (by unfold dJdg; omega)).sA (by unfold dJdg; omega)).sI (by unfold dJdg; omega)).sA (by unfold dJdg; omega)).sA (by unfold dJdg; omega)).sA (by unfold dJdg; omega)).sA (by unfold dJdg; omega)).sA (by unfold dJdg; omega)).sI (by unfold dJdg; omega))⟩
    · exact absurd ⟨k3, k4, k2, k5⟩ g1
  · obtain ⟨hm1, hm2⟩ := hm.2 hok
    rcases hx with ⟨g1, g2, g3⟩ | ⟨g1, g2, g3⟩
    · have hc : ¬ nI nv < 60 := fun q => hok ⟨fun z => by rw [z] at q; exact absurd q (by decide), g1.2.2.1, g1.1, g1.2.1, g1.2.2.2⟩
      rw [if_neg hc] at g2 g3
      subst g3
      subst hm2
      exact ⟨by rw [g2, hm1], ⟨n, nv, nc, nt, nl, hd, ns, h1, h2, h3, h4, h5, h6, h7, h8, h9, h10⟩, rfl⟩
    · subst g3
      subst hm2
      exact ⟨by rw [g2, hm1], ⟨n, nv, nc, nt, nl, hd, ns, h1, h2, h3, h4, h5, h6, h7, h8, h9, h10⟩, rfl⟩
