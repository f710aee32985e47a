/-! What the model needs is kept by the class. -/
section KEPT
variable {σ τ : hMem} {n : Nat}
theorem sayW.ag (h : sayW σ n) (a : Ag d43 σ τ) : sayW τ n := by
  obtain ⟨aI, _, aA, _⟩ := ag43 a
  unfold sayW mFr mTo mLo mHi at *
  simp only [aA]
  exact h
theorem shW.ag (h : shW σ n) (a : Ag d43 σ τ) : shW τ n := by
  obtain ⟨aI, _, aA, _⟩ := ag43 a
  unfold shW at *
  simp only [aA]
  exact h
theorem vaW.ag (h : vaW σ n) (a : Ag d43 σ τ) : vaW τ n := by
  obtain ⟨aI, _, aA, _⟩ := ag43 a
  unfold vaW at *
  simp only [aA]
  exact h
theorem lwW.ag (h : lwW σ n) (a : Ag d43 σ τ) : lwW τ n := by
  obtain ⟨aI, _, aA, _⟩ := ag43 a
  unfold lwW at *
  simp only [aA]
  exact h
theorem leW.ag (h : leW σ n) (a : Ag d43 σ τ) : leW τ n := by
  obtain ⟨aI, _, aA, _⟩ := ag43 a
  unfold leW at *
  simp only [aA]
  exact h
theorem rShp.sh (h : rShp σ n) : shW σ n := by
  intro i hi
  obtain ⟨c1, c2, c3, c4, c5, q, c6, c7, c8, c9, c10⟩ := h.2.2.2.1 i hi
  obtain ⟨s1, s2, s3, s4, s5, s6, s7, s8⟩ := h.2.2.2.2 i hi
  have hq : hdC σ i = q := by unfold hdC; rw [c8, nI_clamp (by omega)]
  rw [s1, s2, s3, s4, s5, s6, s7]
  refine ⟨c1, by rw [c3.1]; exact vp_in_nI c3.2 (by decide), by rw [c2.1]; exact vp_in_nI c2.2 (by decide), c4, c5, q, c6, c7, c8, fun y hy => ?_⟩
  rw [s8 y (by rw [hq]; exact hy)]
  exact c10 y hy
theorem rLaw.lw (h : rLaw σ n) {ro : Nat} (hro : ro < n) : lwW σ ro ∧ leW σ ro ∧ ((∃ a, a ≤ 5000 ∧ hI σ (13 + ro) 6 = nI a) ∧ ∃ a, a ≤ 1000 ∧ hI σ (13 + ro) 5 = nI a) := by
  obtain ⟨_, l2, l3, l4, l5, l6⟩ := h.2.2.2.2 ro hro
  refine ⟨⟨l6, l5⟩, ⟨l3, l4⟩, ?_⟩
  rw [l2 6 (by decide) (by decide), l2 5 (by decide) (by decide)]
  exact ⟨l6, l5⟩
end KEPT
theorem A43.clock {σ : hMem} {day r1 : Int32} {Z : va_W} {u1 : hMem × va_W} (hx : (inB day (hI σ 0 9) 5000 = true ∧ r1 = 1 ∧ u1 = (sI σ 0 9 day, Z)) ∨ (¬ (inB day (hI σ 0 9) 5000 = true) ∧ r1 = 0 ∧ u1 = (σ, Z))) : Ag d43 σ u1.1 ∧ u1.2 = Z := by
  rcases hx with ⟨_, _, e⟩ | ⟨_, _, e⟩
  · rw [e]; exact ⟨(Ag.r.sI (by unfold d43; omega)), rfl⟩
  · rw [e]; exact ⟨Ag.r, rfl⟩
theorem A43.trust {σ : hMem} {k v r1 : Int32} {Z : va_W} {u1 : hMem × va_W} (hx : (((inB k 0 5 = true) ∧ (inB v 0 9 = true)) ∧ r1 = hA σ 1 0 0 k.toNatClampNeg ∧ u1 = (sI (sA σ 1 0 0 (upd (hA σ 1 0 0) k.toNatClampNeg v)) 1 10 (bz ((¬ hI σ 1 10 = 0) ∧ (hA σ 1 0 0 k.toNatClampNeg = v))), Z)) ∨ (¬ ((inB k 0 5 = true) ∧ (inB v 0 9 = true)) ∧ r1 = -1 ∧ u1 = (σ, Z))) : Ag d43 σ u1.1 ∧ u1.2 = Z := by
  rcases hx with ⟨_, _, e⟩ | ⟨_, _, e⟩
  · rw [e]; exact ⟨((Ag.r.sA (by unfold d43; omega)).sI (by unfold d43; omega)), rfl⟩
  · rw [e]; exact ⟨Ag.r, rfl⟩
theorem A43.says {σ : hMem} {n : Nat} {l9 a b low high r1 : Int32} (hn : rTal σ n) {Z : va_W} {u1 : hMem × va_W} (hx : (((inB l9 0 5 = true) ∧ (inB a 0 15 = true) ∧ (inB b 0 15 = true) ∧ (¬ a = b) ∧ (¬ high < low) ∧ (¬ low < (-10000)) ∧ (¬ 10000 < high)) ∧ r1 = (if nI n < 40 then nI n else -1) ∧ u1 = ((if nI n < 40 then cSay σ n l9 a b low high else σ), Z)) ∨ (¬ ((inB l9 0 5 = true) ∧ (inB a 0 15 = true) ∧ (inB b 0 15 = true) ∧ (¬ a = b) ∧ (¬ high < low) ∧ (¬ low < (-10000)) ∧ (¬ 10000 < high)) ∧ r1 = -1 ∧ u1 = (σ, Z))) : Ag d43 σ u1.1 ∧ u1.2 = Z := by
  rcases hx with ⟨_, _, e⟩ | ⟨_, _, e⟩
  · rw [e]
    refine ⟨?_, rfl⟩
    show Ag d43 σ (if _ then _ else _)
    split
    · exact ((((((((Ag.r.sA (by unfold d43; omega)).sA (by unfold d43; omega)).sA (by unfold d43; omega)).sA (by unfold d43; omega)).sA (by unfold d43; omega)).sI (by unfold d43; omega)).sI (by unfold d43; omega)).sI (by unfold d43; omega))
    · exact Ag.r
  · rw [e]; exact ⟨Ag.r, rfl⟩
theorem A43.suit {σ : hMem} {m9 l9 r1 : Int32} {Z : va_W} {u1 : hMem × va_W} (hx : (((inB m9 0 99999 = true) ∧ (inB l9 0 99 = true)) ∧ r1 = 1 ∧ u1 = (sI (sI σ 0 10 m9) 0 11 l9, Z)) ∨ (¬ ((inB m9 0 99999 = true) ∧ (inB l9 0 99 = true)) ∧ r1 = 0 ∧ u1 = (σ, Z))) : Ag d43 σ u1.1 ∧ u1.2 = Z := by
  rcases hx with ⟨_, _, e⟩ | ⟨_, _, e⟩
  · rw [e]; exact ⟨((Ag.r.sI (by unfold d43; omega)).sI (by unfold d43; omega)), rfl⟩
  · rw [e]; exact ⟨Ag.r, rfl⟩
theorem A43.end_ {σ : hMem} {k r1 : Int32} {Z : va_W} {u1 : hMem × va_W} (hx : ((inB k 0 (hI σ 9 1) = true) ∧ r1 = k ∧ u1 = (sI σ 9 1 k, Z)) ∨ (¬ (inB k 0 (hI σ 9 1) = true) ∧ r1 = -1 ∧ u1 = (σ, Z))) : Ag d43 σ u1.1 ∧ u1.2 = Z := by
  rcases hx with ⟨_, _, e⟩ | ⟨_, _, e⟩
  · rw [e]; exact ⟨(Ag.r.sI (by unfold d43; omega)), rfl⟩
  · rw [e]; exact ⟨Ag.r, rfl⟩
theorem A43.value {σ : hMem} {nv : Nat} {g c9 r9 day r1 : Int32} (hnv : rGds σ nv) {Z : va_W} {u1 : hMem × va_W} (hx : (((inB c9 0 1000000 = true) ∧ (inB r9 0 1000000 = true) ∧ (inB g 0 9 = true) ∧ (inB day 0 5000 = true)) ∧ r1 = (if nI nv < 60 then nI (nv + 1) else -1) ∧ u1 = ((if nI nv < 60 then cGad σ nv g (if 0 < c9 - r9 then c9 - r9 else 0) day (hI σ 0 9) else σ), Z)) ∨ (¬ ((inB c9 0 1000000 = true) ∧ (inB r9 0 1000000 = true) ∧ (inB g 0 9 = true) ∧ (inB day 0 5000 = true)) ∧ r1 = -1 ∧ u1 = (σ, Z))) : Ag d43 σ u1.1 ∧ u1.2 = Z := by
  rcases hx with ⟨_, _, e⟩ | ⟨_, _, e⟩
  · rw [e]
    refine ⟨?_, rfl⟩
    show Ag d43 σ (if _ then _ else _)
    split
    · exact (((((Ag.r.sA (by unfold d43; omega)).sA (by unfold d43; omega)).sA (by unfold d43; omega)).sA (by unfold d43; omega)).sI (by unfold d43; omega))
    · exact Ag.r
  · rw [e]; exact ⟨Ag.r, rfl⟩
theorem A43.earlier {σ : hMem} {nc : Nat} {m9 a day r1 : Int32} (hnc : rCas σ nc) {Z : va_W} {u1 : hMem × va_W} (hx : (((inB m9 0 99999 = true) ∧ (inB a 0 1000 = true) ∧ (inB day 0 5000 = true)) ∧ r1 = (if nI nc < 40 then nI nc else -1) ∧ u1 = ((if nI nc < 40 then cCad σ nc m9 a day (hI σ 0 9) else σ), Z)) ∨ (¬ ((inB m9 0 99999 = true) ∧ (inB a 0 1000 = true) ∧ (inB day 0 5000 = true)) ∧ r1 = -1 ∧ u1 = (σ, Z))) : Ag d43 σ u1.1 ∧ u1.2 = Z := by
  rcases hx with ⟨_, _, e⟩ | ⟨_, _, e⟩
  · rw [e]
    refine ⟨?_, rfl⟩
    show Ag d43 σ (if _ then _ else _)
    split
    · exact (((((Ag.r.sA (by unfold d43; omega)).sA (by unfold d43; omega)).sA (by unfold d43; omega)).sA (by unfold d43; omega)).sI (by unfold d43; omega))
    · exact Ag.r
  · rw [e]; exact ⟨Ag.r, rfl⟩
theorem A43.overrule {σ : hMem} {nc : Nat} {k day r1 : Int32} (hnc : rCas σ nc) {Z : va_W} {u1 : hMem × va_W} (hx : ((inB day 0 5000 = true ∧ inB k 0 (nI nc - 1) = true ∧ hA σ 8 0 0 k.toNatClampNeg = 5001) ∧ r1 = 1 ∧ u1 = (cOvr σ k.toNatClampNeg day (hI σ 0 9), Z)) ∨ (¬ (inB day 0 5000 = true ∧ inB k 0 (nI nc - 1) = true ∧ hA σ 8 0 0 k.toNatClampNeg = 5001) ∧ r1 = 0 ∧ u1 = (σ, Z))) : Ag d43 σ u1.1 ∧ u1.2 = Z := by
  rcases hx with ⟨_, _, e⟩ | ⟨_, _, e⟩
  · rw [e]; exact ⟨((Ag.r.sA (by unfold d43; omega)).sA (by unfold d43; omega)), rfl⟩
  · rw [e]; exact ⟨Ag.r, rfl⟩
theorem cPut_43 {σ τ : hMem} {t : Nat} {a : Int32} (h : Ag d43 σ τ) : Ag d43 σ (cPut τ t a) := ((((((((h.sA (by unfold d43; omega)).sI (by unfold d43; omega)).sA (by unfold d43; omega)).sI (by unfold d43; omega)).sA (by unfold d43; omega)).sI (by unfold d43; omega)).sA (by unfold d43; omega)).sI (by unfold d43; omega))
theorem A43.feed {σ : hMem} {nt : Nat} {a b c d e r1 : Int32} (hnt : rTap σ nt) {Z : va_W} {u1 : hMem × va_W} (hx : r1 = (if nt + 20 ≤ 300 then nI (nt + 20) else -1) ∧ u1 = (if nt + 20 ≤ 300 then cFeed σ nt a b c d e else σ, Z)) : Ag d43 σ u1.1 ∧ u1.2 = Z := by
  obtain ⟨_, e⟩ := hx
  rw [e]
  refine ⟨?_, rfl⟩
  show Ag d43 σ (if _ then _ else _)
  split
  · exact (cPut_43 (cPut_43 (cPut_43 (cPut_43 (cPut_43 Ag.r)))))
  · exact Ag.r
theorem A43.ship {σ : hMem} {s9 hd : Nat} {t a b day o m r1 : Int32} (hs9 : rShp σ s9) (hhd : rSht σ hd) {Z : va_W} {u1 : hMem × va_W} (hx : (((¬ 8 ≤ nI s9) ∧ (¬ nI hd = 0) ∧ (inB t 1 5000 = true) ∧ (inB a 0 15 = true) ∧ (inB b 0 15 = true) ∧ (inB o 0 100 = true) ∧ (inB m 0 (100 - o) = true) ∧ (inB day 0 5000 = true)) ∧ r1 = nI s9 ∧ u1 = (cShp σ s9 hd t a b day o m, Z)) ∨ (¬ ((¬ 8 ≤ nI s9) ∧ (¬ nI hd = 0) ∧ (inB t 1 5000 = true) ∧ (inB a 0 15 = true) ∧ (inB b 0 15 = true) ∧ (inB o 0 100 = true) ∧ (inB m 0 (100 - o) = true) ∧ (inB day 0 5000 = true)) ∧ r1 = -1 ∧ u1 = (σ, Z))) : Ag d43 σ u1.1 ∧ u1.2 = Z := by
  rcases hx with ⟨g, _, e⟩ | ⟨_, _, e⟩
  · have n8 := hs9.2.2.1
    have h8 : s9 < 8 := by
      have e1 : (8 : Int32) ≤ nI s9 ↔ 8 ≤ s9 := nI_leI (a := 8) (by decide) (by omega)
      have := (not_congr e1).mp g.1
      omega
    rw [e]; exact ⟨((((((((((Ag.r.sI (by unfold d43; omega)).sI (by unfold d43; omega)).sI (by unfold d43; omega)).sI (by unfold d43; omega)).sI (by unfold d43; omega)).sI (by unfold d43; omega)).sA (by unfold d43; omega)).sI (by unfold d43; omega)).sI (by unfold d43; omega)).sI (by unfold d43; omega)), rfl⟩
  · rw [e]; exact ⟨Ag.r, rfl⟩
theorem A43.believed {σ : hMem} {n : Nat} {x r1 : Int32} (hn : rTal σ n) {Z : va_W} {u1 : hMem × va_W} (hx : (inB x 0 (nI n - 1) = true ∧ ∃ τ, u1 = (τ, Z) ∧ Stl σ n τ ∧ r1 = bz (¬ hA τ 1 8 0 x.toNatClampNeg = 0)) ∨ (¬ (inB x 0 (nI n - 1) = true) ∧ r1 = -1 ∧ u1 = (σ, Z))) : Ag d43 σ u1.1 ∧ u1.2 = Z := by
  rcases hx with ⟨_, τ, e, hs, _⟩ | ⟨_, _, e⟩
  · rw [e]
    exact ⟨Stq.ag (Or.inr hs) Ag.r (by unfold d43; omega) (by unfold d43; omega) (by unfold d43; omega) (by unfold d43; omega), rfl⟩
  · rw [e]; exact ⟨Ag.r, rfl⟩
theorem A43.spans {σ : hMem} {n : Nat} {xa xb x r1 : Int32} (hn : rTal σ n) {Z : va_W} {u1 : hMem × va_W} (hx : (((inB xa 0 15 = true) ∧ (inB xb 0 15 = true) ∧ (inB x 0 1 = true)) ∧ ∃ τ, u1 = (τ, Z) ∧ Stl σ n τ ∧ r1 = if x = 0 then spC (hA τ 2 0 0) xb.toNatClampNeg xa.toNatClampNeg else spG (hA τ 2 0 0) xa.toNatClampNeg xb.toNatClampNeg) ∨ (¬ ((inB xa 0 15 = true) ∧ (inB xb 0 15 = true) ∧ (inB x 0 1 = true)) ∧ r1 = -2147483648 ∧ u1 = (σ, Z))) : Ag d43 σ u1.1 ∧ u1.2 = Z := by
  rcases hx with ⟨_, τ, e, hs, _⟩ | ⟨_, _, e⟩
  · rw [e]
    exact ⟨Stq.ag (Or.inr hs) Ag.r (by unfold d43; omega) (by unfold d43; omega) (by unfold d43; omega) (by unfold d43; omega), rfl⟩
  · rw [e]; exact ⟨Ag.r, rfl⟩
theorem A43.count {σ : hMem} {n : Nat} {x r1 : Int32} (hn : rTal σ n) {Z : va_W} {u1 : hMem × va_W} (hx : (x = 2 ∧ ∃ τ, u1 = (τ, Z) ∧ Stl σ n τ ∧ r1 = hI τ 1 9) ∨ (¬ x = 2 ∧ u1 = (σ, Z) ∧ r1 = cCnt σ x)) : Ag d43 σ u1.1 ∧ u1.2 = Z := by
  rcases hx with ⟨_, τ, e, hs, _⟩ | ⟨_, e, _⟩
  · rw [e]
    exact ⟨Stq.ag (Or.inr hs) Ag.r (by unfold d43; omega) (by unfold d43; omega) (by unfold d43; omega) (by unfold d43; omega), rfl⟩
  · rw [e]; exact ⟨Ag.r, rfl⟩
theorem A43.quarrel {σ : hMem} {n : Nat} {r1 : Int32} (hn : rTal σ n) {Z : va_W} {u1 : hMem × va_W} (hx : ∃ τ, u1 = (τ, Z) ∧ Qtl σ n τ ∧ r1 = hI τ 1 13) : Ag d43 σ u1.1 ∧ u1.2 = Z := by
  obtain ⟨τ, e, ⟨g, f, c, _, _, _, _, h | h⟩, _⟩ := hx
  · rw [e, h]; exact ⟨Ag.r, rfl⟩
  · rw [e, h]; exact ⟨((((Ag.r.sA (by unfold d43; omega)).sA (by unfold d43; omega)).sI (by unfold d43; omega)).sI (by unfold d43; omega)), rfl⟩
theorem A43.quarrels {σ : hMem} {n : Nat} {x r1 : Int32} (hn : rTal σ n) {Z : va_W} {u1 : hMem × va_W} (hx : ∃ τ, u1 = (τ, Z) ∧ Qtl σ n τ ∧ Qth (hA τ 1 12 0) n x r1) : Ag d43 σ u1.1 ∧ u1.2 = Z := by
  obtain ⟨τ, e, ⟨g, f, c, _, _, _, _, h | h⟩, _⟩ := hx
  · rw [e, h]; exact ⟨Ag.r, rfl⟩
  · rw [e, h]; exact ⟨((((Ag.r.sA (by unfold d43; omega)).sA (by unfold d43; omega)).sI (by unfold d43; omega)).sI (by unfold d43; omega)), rfl⟩
theorem A43.sheet {σ : hMem} {x r1 : Int32} {a b c d : Int64} {Z : va_W} {u1 : hMem × va_W} (hx : (∃ N, shtOk x N (cHw a b c d) ∧ r1 = 1 ∧ u1 = (cCrw σ 11 (cHw a b c d) N, Z)) ∨ ((∀ N, ¬ shtOk x N (cHw a b c d)) ∧ r1 = 0 ∧ u1 = (σ, Z))) : Ag d43 σ u1.1 ∧ u1.2 = Z := by
  rcases hx with ⟨_, _, _, e⟩ | ⟨_, _, e⟩
  · rw [e]; exact ⟨(((Ag.r.sA (by unfold d43; omega)).sI (by unfold d43; omega)).sI (by unfold d43; omega)), rfl⟩
  · rw [e]; exact ⟨Ag.r, rfl⟩
theorem A43.judged {σ : hMem} {x : Int32} {r1 : Int64} {Z : va_W} {u1 : hMem × va_W} (hx : r1 = cJdd σ x ∧ u1 = (σ, Z)) : Ag d43 σ u1.1 ∧ u1.2 = Z := by
  rw [hx.2]; exact ⟨Ag.r, rfl⟩
theorem A43.like {σ : hMem} {c : Nat} {k r1 : Int32} (hc : hI σ 12 4 = nI c) (hc40 : c ≤ 40) {Z : va_W} {u1 : hMem × va_W} (hx : (inB k 0 (nI c - 1) = true ∧ r1 = hA σ 12 0 0 k.toNatClampNeg ∧ u1 = (σ, Z)) ∨ (¬ (inB k 0 (nI c - 1) = true) ∧ r1 = -1 ∧ u1 = (σ, Z))) : Ag d43 σ u1.1 ∧ u1.2 = Z := by
  rcases hx with ⟨_, _, e⟩ | ⟨_, _, e⟩
  · rw [e]; exact ⟨Ag.r, rfl⟩
  · rw [e]; exact ⟨Ag.r, rfl⟩
theorem A43.share {σ : hMem} {ks : Nat} {k w : Int32} {r1 : Int64} (hks : hI σ 12 9 = nI ks) (hks8 : ks ≤ 8) {Z : va_W} {u1 : hMem × va_W} (hx : (inB k 0 (nI ks - 1) = true ∧ r1 = cShr σ k.toNatClampNeg w ∧ u1 = (σ, Z)) ∨ (¬ (inB k 0 (nI ks - 1) = true) ∧ r1 = -1 ∧ u1 = (σ, Z))) : Ag d43 σ u1.1 ∧ u1.2 = Z := by
  rcases hx with ⟨_, _, e⟩ | ⟨_, _, e⟩
  · rw [e]; exact ⟨Ag.r, rfl⟩
  · rw [e]; exact ⟨Ag.r, rfl⟩
theorem A43.hand {σ : hMem} {ks : Nat} {k x : Int32} {r1 : Int64} (hks : hI σ 12 9 = nI ks) (hks8 : ks ≤ 8) {Z : va_W} {u1 : hMem × va_W} (hx : ((inB k 0 (nI ks - 1) = true ∧ inB x 0 (hI σ (35 + k.toNatClampNeg) 9 - 1) = true) ∧ r1 = hB σ (35 + k.toNatClampNeg) 0 0 x.toNatClampNeg ∧ u1 = (σ, Z)) ∨ (¬ (inB k 0 (nI ks - 1) = true ∧ inB x 0 (hI σ (35 + k.toNatClampNeg) 9 - 1) = true) ∧ r1 = -1 ∧ u1 = (σ, Z))) : Ag d43 σ u1.1 ∧ u1.2 = Z := by
  rcases hx with ⟨_, _, e⟩ | ⟨_, _, e⟩
  · rw [e]; exact ⟨Ag.r, rfl⟩
  · rw [e]; exact ⟨Ag.r, rfl⟩
theorem A43.saved {σ : hMem} {nv : Nat} {g known day r1 : Int32} (hnv : rGds σ nv) {Z : va_W} {u1 : hMem × va_W} (hx : (((inB g 0 9 = true) ∧ (inB known 0 5000 = true) ∧ (inB day 0 5000 = true)) ∧ r1 = cWo σ nv g known day ∧ u1 = (σ, Z)) ∨ (¬ ((inB g 0 9 = true) ∧ (inB known 0 5000 = true) ∧ (inB day 0 5000 = true)) ∧ r1 = -1 ∧ u1 = (σ, Z))) : Ag d43 σ u1.1 ∧ u1.2 = Z := by
  rcases hx with ⟨_, _, e⟩ | ⟨_, _, e⟩
  · rw [e]; exact ⟨Ag.r, rfl⟩
  · rw [e]; exact ⟨Ag.r, rfl⟩
theorem A43.law {σ : hMem} {nt nl : Nat} {day r1 : Int32} (hnt : rTap σ nt) (hnl : rLaw σ nl) {Z : va_W} {u1 : hMem × va_W} (hx : (((¬ 6 ≤ nI nl) ∧ (inB day 0 5000 = true)) ∧ ∃ W V pl wp td ft, rdR (lwR (hA σ 9 0 0) nt (L00 σ)) ft W V ∧ ((¬ ft = 0 ∧ r1 = -2 - ft ∧ u1 = (sI (kM σ (13 + nl) W V pl wp td ft) 9 1 0, Z)) ∨ (ft = 0 ∧ r1 = nI nl ∧ u1 = (cLaw σ nl W V pl wp td day, Z)))) ∨ (¬ ((¬ 6 ≤ nI nl) ∧ (inB day 0 5000 = true)) ∧ r1 = -1 ∧ u1 = (σ, Z))) : Ag d43 σ u1.1 ∧ u1.2 = Z := by
  rcases hx with ⟨g1, W, V, pl, wp, td, ft, _, hx⟩ | ⟨_, _, e⟩
  · have n6 := hnl.2.2.1
    have hl6 : nl < 6 := by
      have e1 : (6 : Int32) ≤ nI nl ↔ 6 ≤ nl := nI_leI (a := 6) (by decide) (by omega)
      have := (not_congr e1).mp g1.1
      omega
    have ak : Ag d43 σ (kM σ (13 + nl) W V pl wp td ft) := kM_ag (fun k => by unfold d43; omega) (fun k q1 q2 => by unfold d43; omega)
    rcases hx with ⟨_, _, e⟩ | ⟨_, _, e⟩
    · rw [e]; exact ⟨ak.sI (by unfold d43; omega), rfl⟩
    · rw [e]; exact ⟨((((kM_ag (fun k => by unfold d43; omega) (fun k q1 q2 => by unfold d43; omega)).sI (by unfold d43; omega)).sA (by unfold d43; omega)).sA (by unfold d43; omega)).sI (by unfold d43; omega), rfl⟩
  · rw [e]; exact ⟨Ag.r, rfl⟩
theorem A43.judge {σ : hMem} {n ns nl nc nv : Nat} {known day r1 : Int32} {Z : va_W} {u1 : hMem × va_W} (hx : xjP σ Z n ns nl nc nv known day r1 u1) : Ag d43 σ u1.1 ∧ u1.2 = Z := by
  unfold xjP at hx
  rcases hx with ⟨_, _, e⟩ | ⟨_, _, _, e⟩ | ⟨_, ro, _, _, _, Y, P, P2, Q2, T2, K2, V, e, g6, _⟩
  · rw [e]; exact ⟨Ag.r, rfl⟩
  · rw [e]; exact ⟨Ag.r, rfl⟩
  · rw [e]
    exact ⟨(g6.ag (Ag.r.cJ2 (fun k => by unfold d43; omega)) (by unfold d43; omega) (by unfold d43; omega) (by unfold d43; omega) (by unfold d43; omega)).cM (fun j k q1 q2 => by unfold d43; omega) (by unfold d43; omega) (by unfold d43; omega) (by unfold d43; omega) (by unfold d43; omega), rfl⟩
