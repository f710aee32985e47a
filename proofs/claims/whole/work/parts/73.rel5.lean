theorem Rel.jd {σ : hMem} (h : Rel σ) : rJdg σ := by
  obtain ⟨n, nv, nc, nt, nl, hd, ns, h1, h2, h3, h4, h5, h6, h7, h8, h9, h10⟩ := h
  exact h10
theorem inB_m1 {x : Int32} (h : inB x 0 (nI 0 - 1) = true) : False := inB_em h

theorem Rel.judged {σ : hMem} {x : Int32} {r1 r2 : Int64} {Z : va_W} {u1 u2 : hMem × va_W} (h : Rel σ) (hx : r1 = cJdd σ x ∧ u1 = (σ, Z)) (hm : r2 = mJdd u1.1 x ∧ u2 = (u1.1, Z)) : r1 = r2 ∧ Rel u2.1 ∧ u2.2 = Z := by
  obtain ⟨hx1, hx2⟩ := hx
  obtain ⟨hm1, hm2⟩ := hm
  subst hx2
  subst hm2
  refine ⟨?_, h, rfl⟩
  rw [hx1, hm1]
  obtain ⟨c, ks, a1, a2, a3, a4, a5, a6, a7⟩ := h.jd
  show cJdd σ x = mJdd σ x
  unfold cJdd mJdd
  rcases a7 with ⟨b1, b2, _⟩ | ⟨b1, ⟨lw, b2, b3⟩, b4, b5, b6, b7, b8, _⟩
  · rw [if_pos (by rw [b2]; decide), if_pos b1]
  · rw [if_neg (by rw [b3]; exact nI_pos (by omega)), if_neg b1, b4, a3, a4, b5, b6, b7, b8]

theorem Rel.like {σ : hMem} {c : Nat} {k r1 r2 : Int32} (hc : hI σ 12 4 = nI c) (hc40 : c ≤ 40) {Z : va_W} {u1 u2 : hMem × va_W} (h : Rel σ) (hx : (inB k 0 (nI c - 1) = true ∧ r1 = hA σ 12 0 0 k.toNatClampNeg ∧ u1 = (σ, Z)) ∨ (¬ (inB k 0 (nI c - 1) = true) ∧ r1 = -1 ∧ u1 = (σ, Z))) (hm : r2 = (if ¬ hI u1.1 43 47 = 0 ∧ inB k 0 (nI c - 1) = true then hA u1.1 43 52 0 k.toNatClampNeg else -1) ∧ u2 = (u1.1, Z)) : r1 = r2 ∧ Rel u2.1 ∧ u2.2 = Z := by
  obtain ⟨hm1, hm2⟩ := hm
  obtain ⟨c', ks, a1, a2, a3, a4, a5, a6, a7⟩ := h.jd
  have e : c' = c := (nI_eq (by omega) (by omega)).mp (a3.symm.trans hc)
  subst e
  rcases hx with ⟨g1, g2, g3⟩ | ⟨g1, g2, g3⟩
  · subst g3
    subst hm2
    refine ⟨?_, h, rfl⟩
    rcases a7 with ⟨_, _, b3, _⟩ | ⟨b1, _, _, _, _, _, _, b8, _⟩
    · subst b3
      exact absurd (inB_m1 g1) id
    · rw [if_pos ⟨b1, g1⟩] at hm1
      rw [g2, hm1]
      exact b8 _ (pre_lt18 g1 (by omega))
  · subst g3
    subst hm2
    rw [if_neg (fun q => g1 q.2)] at hm1
    exact ⟨by rw [g2, hm1], h, rfl⟩

theorem cShr_y {σ : hMem} {k : Nat} {w : Int32} (h : inB w 0 6 = true) : cShr σ k w = hL σ (35 + k) (cs w.toNatClampNeg) ∧ w.toNatClampNeg < 7 := by
  obtain ⟨q, _, q2, q3⟩ := nI_in1 (lo := 0) (hi := 6) h rfl (by decide) (by decide)
  rw [q3, nI_clamp (by omega)]
  refine ⟨?_, by omega⟩
  rcases (show q = 0 ∨ q = 1 ∨ q = 2 ∨ q = 3 ∨ q = 4 ∨ q = 5 ∨ q = 6 by omega) with rfl | rfl | rfl | rfl | rfl | rfl | rfl <;> rfl
theorem cShr_n {σ : hMem} {k : Nat} {w : Int32} (h : ¬ inB w 0 6 = true) : cShr σ k w = -1 := by
  have t : ∀ v : Int32, inB v 0 6 = true → ¬ w = v := fun v hv e => h (by rw [e]; exact hv)
  unfold cShr
  rw [if_neg (t 0 (by decide)), if_neg (t 1 (by decide)), if_neg (t 2 (by decide)), if_neg (t 3 (by decide)), if_neg (t 4 (by decide)), if_neg (t 5 (by decide)), if_neg (t 6 (by decide))]

theorem Rel.share {σ : hMem} {ks : Nat} {k w : Int32} {r1 r2 : Int64} (hks : hI σ 12 9 = nI ks) (hks8 : ks ≤ 8) {Z : va_W} {u1 u2 : hMem × va_W} (h : Rel σ) (hx : (inB k 0 (nI ks - 1) = true ∧ r1 = cShr σ k.toNatClampNeg w ∧ u1 = (σ, Z)) ∨ (¬ (inB k 0 (nI ks - 1) = true) ∧ r1 = -1 ∧ u1 = (σ, Z))) (hm : r2 = (if ¬ hI u1.1 43 47 = 0 ∧ inB k 0 (nI ks - 1) = true ∧ inB w 0 6 = true then hB u1.1 43 56 k.toNatClampNeg w.toNatClampNeg else -1) ∧ u2 = (u1.1, Z)) : r1 = r2 ∧ Rel u2.1 ∧ u2.2 = Z := by
  obtain ⟨hm1, hm2⟩ := hm
  obtain ⟨c, ks', a1, a2, a3, a4, a5, a6, a7⟩ := h.jd
  have e : ks' = ks := (nI_eq (by omega) (by omega)).mp (a5.symm.trans hks)
  subst e
  rcases hx with ⟨g1, g2, g3⟩ | ⟨g1, g2, g3⟩
  · subst g3
    subst hm2
    refine ⟨?_, h, rfl⟩
    rcases a7 with ⟨_, _, _, b3⟩ | ⟨b1, _, _, _, _, _, _, _, b9⟩
    · subst b3
      exact absurd (inB_m1 g1) id
    · by_cases hw : inB w 0 6 = true
      · rw [if_pos ⟨b1, g1, hw⟩] at hm1
        rw [g2, hm1, (cShr_y hw).1]
        exact ((b9 _ (pre_lt18 g1 (by omega))).1 _ (cShr_y (σ := σ) (k := 0) hw).2).symm
      · rw [if_neg (fun q => hw q.2.2)] at hm1
        rw [g2, hm1, cShr_n hw]
  · subst g3
    subst hm2
    rw [if_neg (fun q => g1 q.2.1)] at hm1
    exact ⟨by rw [g2, hm1], h, rfl⟩

theorem Rel.hand {σ : hMem} {ks : Nat} {k x : Int32} {r1 r2 : Int64} (hks : hI σ 12 9 = nI ks) (hks8 : ks ≤ 8) {Z : va_W} {u1 u2 : hMem × va_W} (h : Rel σ) (hx : ((inB k 0 (nI ks - 1) = true ∧ inB x 0 (hI σ (35 + k.toNatClampNeg) 9 - 1) = true) ∧ r1 = hB σ (35 + k.toNatClampNeg) 0 0 x.toNatClampNeg ∧ u1 = (σ, Z)) ∨ (¬ (inB k 0 (nI ks - 1) = true ∧ inB x 0 (hI σ (35 + k.toNatClampNeg) 9 - 1) = true) ∧ r1 = -1 ∧ u1 = (σ, Z))) (hm : r2 = (if ¬ hI u1.1 43 47 = 0 ∧ inB k 0 (nI ks - 1) = true ∧ inB x 0 (hA u1.1 43 58 0 k.toNatClampNeg - 1) = true then hB u1.1 43 57 k.toNatClampNeg x.toNatClampNeg else -1) ∧ u2 = (u1.1, Z)) : r1 = r2 ∧ Rel u2.1 ∧ u2.2 = Z := by
  obtain ⟨hm1, hm2⟩ := hm
  obtain ⟨c, ks', a1, a2, a3, a4, a5, a6, a7⟩ := h.jd
  have e : ks' = ks := (nI_eq (by omega) (by omega)).mp (a5.symm.trans hks)
  subst e
  have hu : u1 = (σ, Z) := hx.elim (fun q => q.2.2) (fun q => q.2.2)
  subst hu
  subst hm2
  refine ⟨?_, h, rfl⟩
  rcases a7 with ⟨b1, _, _, b3⟩ | ⟨b1, _, _, _, _, _, _, _, b9⟩
  · subst b3
    rw [if_neg (fun q => q.1 b1)] at hm1
    rcases hx with ⟨g1, _⟩ | ⟨_, g2, _⟩
    · exact absurd (inB_m1 g1.1) id
    · rw [g2, hm1]
  · rcases hx with ⟨g1, g2, _⟩ | ⟨g1, g2, _⟩
    · obtain ⟨_, q2, q, q3, q4, q5⟩ := b9 _ (pre_lt18 g1.1 (by omega))
      rw [if_pos ⟨b1, g1.1, by show inB x 0 (hA σ 43 58 0 k.toNatClampNeg - 1) = true; rw [q2]; exact g1.2⟩] at hm1
      rw [g2, hm1]
      have g3 := g1.2
      rw [q4] at g3
      exact (q5 _ (pre_lt18 g3 (by omega))).symm
    · rw [if_neg (fun z => g1 ⟨z.2.1, by
        obtain ⟨_, q2, _⟩ := b9 _ (pre_lt18 z.2.1 (by omega))
        rw [← q2]; exact z.2.2⟩)] at hm1
      rw [g2, hm1]

theorem Rel.trust {σ : hMem} {k v r1 r2 : Int32} {Z : va_W} {u1 u2 : hMem × va_W} (h : Rel σ) (hx : (((inB k 0 5 = true) ∧ (inB v 0 9 = true)) ∧ r1 = hA σ 1 0 0 k.toNatClampNeg ∧ u1 = (sI (sA σ 1 0 0 (upd (hA σ 1 0 0) k.toNatClampNeg v)) 1 10 (bz ((¬ hI σ 1 10 = 0) ∧ (hA σ 1 0 0 k.toNatClampNeg = v))), Z)) ∨ (¬ ((inB k 0 5 = true) ∧ (inB v 0 9 = true)) ∧ r1 = -1 ∧ u1 = (σ, Z))) (hm : r2 = (if inB k 0 5 = true ∧ inB v 0 9 = true then hA u1.1 43 2 0 k.toNatClampNeg else -1) ∧ u2 = (if inB k 0 5 = true ∧ inB v 0 9 = true then sA u1.1 43 2 0 (upd (hA u1.1 43 2 0) k.toNatClampNeg v) else u1.1, Z)) : r1 = r2 ∧ Rel u2.1 ∧ u2.2 = Z := by
  obtain ⟨n, nv, nc, nt, nl, hd, ns, h1, h2, h3, h4, h5, h6, h7, h8, h9, h10⟩ := h
  obtain ⟨hm1, hm2⟩ := hm
  rcases hx with ⟨g1, g2, g3⟩ | ⟨g1, g2, g3⟩
  · rw [if_pos g1] at hm1 hm2
    subst g3
    subst hm2
    refine ⟨by rw [g2, hm1]; exact congrFun h2.2.2.2.1 _, ?_, rfl⟩
    have hG : rTal (sA (sI (sA σ 1 0 0 (upd (hA σ 1 0 0) k.toNatClampNeg v)) 1 10 (bz ((¬ hI σ 1 10 = 0) ∧ (hA σ 1 0 0 k.toNatClampNeg = v)))) 43 2 0 (upd (hA σ 43 2 0) k.toNatClampNeg v)) n := by
      obtain ⟨e1, e2, e3, e4, e5, e6, e7, e8, e9, e10, e11, e12, e13, e14, e15, e16, e17⟩ := h2
      refine ⟨e1, e2, e3, ?_, e5, e6, e7, e8, e9, e10, e11, ?_, e13, e14, e15, ?_, e17⟩
      · show upd (hA σ 1 0 0) k.toNatClampNeg v = upd (hA σ 43 2 0) k.toNatClampNeg v
        rw [e4]
      · intro x hx
        show 0 ≤ (upd (hA σ 1 0 0) k.toNatClampNeg v x).toInt ∧ (upd (hA σ 1 0 0) k.toNatClampNeg v x).toInt ≤ 9
        by_cases e : x = k.toNatClampNeg
        · rw [e, pk_us]
          obtain ⟨q, _, q2, q3⟩ := nI_in1 (lo := 0) (hi := 9) g1.2 rfl (by decide) (by decide)
          rw [q3, nI_toInt (by omega)]
          omega
        · rw [upd_o e]; exact e12 x hx
      · intro hf
        have hf' : ¬ bz ((¬ hI σ 1 10 = 0) ∧ (hA σ 1 0 0 k.toNatClampNeg = v)) = 0 := hf
        obtain ⟨f1, f2⟩ := bz_ne0.mp hf'
        have eu : upd (hA σ 1 0 0) k.toNatClampNeg v = hA σ 1 0 0 := by
          funext x
          by_cases e : x = k.toNatClampNeg
          · rw [e, pk_us, f2]
          · rw [upd_o e]
        obtain ⟨c, c1, c2, c3, c4, c5, c6⟩ := e16 f1
        refine ⟨c, c1, c2, ?_, c4, c5, c6⟩
        show Bel n (fun q => upd (hA σ 1 0 0) k.toNatClampNeg v (hA σ 1 1 0 q).toNatClampNeg) (cEP σ n) _
        rw [eu]
        exact c3
    exact ⟨n, nv, nc, nt, nl, hd, ns, h1.ag (((Ag.r.sA (by unfold dClk; omega)).sI (by unfold dClk; omega)).sA (by unfold dClk; omega)), hG, h3.ag (((Ag.r.sA (by unfold dGds; omega)).sI (by unfold dGds; omega)).sA (by unfold dGds; omega)), h4.ag (((Ag.r.sA (by unfold dCas; omega)).sI (by unfold dCas; omega)).sA (by unfold dCas; omega)), h5.ag (((Ag.r.sA (by unfold dSui; omega)).sI (by unfold dSui; omega)).sA (by unfold dSui; omega)), h6.ag (((Ag.r.sA (by unfold dTap; omega)).sI (by unfold dTap; omega)).sA (by unfold dTap; omega)), h7.ag (((Ag.r.sA (by unfold dLaw; omega)).sI (by unfold dLaw; omega)).sA (by unfold dLaw; omega)), h8.ag (((Ag.r.sA (by unfold dSht; omega)).sI (by unfold dSht; omega)).sA (by unfold dSht; omega)), h9.ag (((Ag.r.sA (by unfold dShp; omega)).sI (by unfold dShp; omega)).sA (by unfold dShp; omega)), h10.ag (((Ag.r.sA (by unfold dJdg; omega)).sI (by unfold dJdg; omega)).sA (by unfold dJdg; omega))⟩
  · rw [if_neg g1] at hm1 hm2
    subst g3
    subst hm2
    exact ⟨by rw [g2, hm1], ⟨n, nv, nc, nt, nl, hd, ns, h1, h2, h3, h4, h5, h6, h7, h8, h9, h10⟩, rfl⟩
