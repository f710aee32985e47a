theorem qua_eq {τ : hMem} {n : Nat} {IN g : Nat → Int32} (h : rTal τ n) (hc : Qua n (cEP τ n) (fun k => ¬ g k = 0)) (hm : Qua n (mEP τ n) (fun k => ¬ IN k = 0)) : ∀ k, k < n → (g k = 0 ↔ IN k = 0) := by
  rw [h.ep] at hm
  have hP := Qua.uniq (fun A B hAB => NoNeg.congr (fun a b w => cEP_congr hAB a b w)) hc hm
  exact fun k hk => by have := hP k hk; exact ⟨fun q => Classical.byContradiction (fun z => this.mpr z q), fun q => Classical.byContradiction (fun z => this.mp z q)⟩

theorem Rel.quarrel {σ : hMem} {n : Nat} {r1 r2 : Int32} (hn : rTal σ n) {Z : va_W} {u1 u2 : hMem × va_W} (h : Rel σ) (hx : ∃ τ, u1 = (τ, Z) ∧ Qtl σ n τ ∧ r1 = hI τ 1 13) (hm : ∃ IN F, u2 = (sIG u1.1 IN F, Z) ∧ (∀ k, IN k = 0 ∨ IN k = 1) ∧ ((NoNeg (mEP u1.1 n (fun _ => True)) ∧ r2 = 0) ∨ (¬ NoNeg (mEP u1.1 n (fun _ => True)) ∧ ∃ c, c ≤ n ∧ r2 = nI c ∧ cnz IN n = c ∧ Qua n (mEP u1.1 n) (fun k => ¬ IN k = 0)))) : r1 = r2 ∧ Rel u2.1 ∧ u2.2 = Z := by
  obtain ⟨τ, g2, g3, g4⟩ := hx
  subst g2
  obtain ⟨IN, F, m1, m2, m3⟩ := hm
  subst m1
  obtain ⟨hR, hT⟩ := h.qtl hn g3
  refine ⟨?_, hR.bel9 hT m2, rfl⟩
  obtain ⟨c, c1, c2, c3, c4, c5⟩ := g3.qu
  rw [g4, c2]
  dsimp only at m3
  rcases m3 with ⟨n1, n2⟩ | ⟨n1, c', _, n3, n4, n5⟩
  · rw [hT.ep] at n1
    rcases c5 with ⟨_, q⟩ | ⟨q, _⟩
    · rw [q, n2]; rfl
    · exact absurd n1 q
  · rw [hT.ep] at n1
    rcases c5 with ⟨q, _⟩ | ⟨_, q⟩
    · exact absurd q n1
    · rw [n3, ← n4, ← c3, cnz_congr n (qua_eq hT q n5)]

theorem Rel.quarrels {σ : hMem} {n : Nat} {x r1 r2 : Int32} (hn : rTal σ n) {Z : va_W} {u1 u2 : hMem × va_W} (h : Rel σ) (hx : ∃ τ, u1 = (τ, Z) ∧ Qtl σ n τ ∧ Qth (hA τ 1 12 0) n x r1) (hm : ∃ IN F, u2 = (sIG u1.1 IN F, Z) ∧ (∀ k, IN k = 0 ∨ IN k = 1) ∧ ((NoNeg (mEP u1.1 n (fun _ => True)) ∧ r2 = -1) ∨ (¬ NoNeg (mEP u1.1 n (fun _ => True)) ∧ Qua n (mEP u1.1 n) (fun k => ¬ IN k = 0) ∧ Qth IN n x r2))) : r1 = r2 ∧ Rel u2.1 ∧ u2.2 = Z := by
  obtain ⟨τ, g2, g3, g4⟩ := hx
  subst g2
  obtain ⟨IN, F, m1, m2, m3⟩ := hm
  subst m1
  obtain ⟨hR, hT⟩ := h.qtl hn g3
  refine ⟨?_, hR.bel9 hT m2, rfl⟩
  obtain ⟨c, c1, c2, c3, c4, c5⟩ := g3.qu
  dsimp only at m3
  rcases m3 with ⟨n1, n2⟩ | ⟨n1, n3, n4⟩
  · rw [hT.ep] at n1
    rcases c5 with ⟨_, q⟩ | ⟨q, _⟩
    · rcases g4 with ⟨i, i1, i2, _, _⟩ | ⟨_, i2⟩
      · have := cnz_slt i1 i2
        omega
      · rw [i2, n2]
    · exact absurd n1 q
  · rw [hT.ep] at n1
    rcases c5 with ⟨q, _⟩ | ⟨_, q⟩
    · exact absurd q n1
    · exact Qth.uniq hn.2.2.1 (qua_eq hT q n3) g4 n4

theorem cnt_eq {σ : hMem} {n : Nat} (h : Rel σ) (hn : rTal σ n) (x : Int32) : cCnt σ x = mCnt σ n x := by
  obtain ⟨n', nv, nc, nt, nl, hd, ns, h1, h2, h3, h4, h5, h6, h7, h8, h9, h10⟩ := h
  unfold cCnt mCnt
  rw [h1.1, hn.1, h3.1, h3.2.1, h4.1, h4.2.1, h7.1, h7.2.1, h9.1, h9.2.1, h6.1, h6.2.1]

theorem Rel.count {σ : hMem} {n : Nat} {x r1 r2 : Int32} (hn : rTal σ n) {Z : va_W} {u1 u2 : hMem × va_W} (h : Rel σ) (hx : (x = 2 ∧ ∃ τ, u1 = (τ, Z) ∧ Stl σ n τ ∧ r1 = hI τ 1 9) ∨ (¬ x = 2 ∧ u1 = (σ, Z) ∧ r1 = cCnt σ x)) (hm : (x = 2 ∧ ∃ IN F, u2 = (sIG u1.1 IN F, Z) ∧ BelW u1.1 n IN F ∧ r2 = nI (cnz IN n)) ∨ (¬ x = 2 ∧ u2 = (u1.1, Z) ∧ r2 = mCnt u1.1 n x)) : r1 = r2 ∧ Rel u2.1 ∧ u2.2 = Z := by
  rcases hx with ⟨g1, τ, g2, g3, g4⟩ | ⟨g1, g2, g3⟩
  · subst g2
    rcases hm with ⟨_, IN, F, m1, m2, m3⟩ | ⟨m1, _⟩
    · subst m1
      obtain ⟨hR, hT⟩ := h.stl hn g3
      obtain ⟨c, c1, c2, c3⟩ := g3.bel
      refine ⟨?_, hR.bel9 hT m2.2.1, rfl⟩
      rw [g4, m3, c2, ← c3.2.2.1, cnz_congr n (bel_eq hT c3 m2).1]
    · exact absurd g1 m1
  · subst g2
    rcases hm with ⟨m1, _⟩ | ⟨_, m2, m3⟩
    · exact absurd m1 g1
    · subst m2
      exact ⟨by rw [g3, m3]; exact cnt_eq h hn x, h, rfl⟩

theorem say_ok {n : Nat} {l9 a b low high : Int32} : sayOk n l9 a b low high ↔ (¬ nI n = 40 ∧ ((inB l9 0 5 = true) ∧ (inB a 0 15 = true) ∧ (inB b 0 15 = true) ∧ (¬ a = b) ∧ (¬ high < low) ∧ (¬ low < (-10000)) ∧ (¬ 10000 < high))) := by
  unfold sayOk
  rw [inB_iff (v := low), inB_iff (v := high)]
  constructor
  · rintro ⟨h1, h2, h3, h4, h5, ⟨h6, h7⟩, h8, h9⟩
    exact ⟨h1, h2, h3, h4, h5, h8, h6, h9⟩
  · rintro ⟨h1, h2, h3, h4, h5, h8, h6, h9⟩
    refine ⟨h1, h2, h3, h4, h5, ⟨h6, fun q => ?_⟩, h8, h9⟩
    rw [Int32.lt_iff_toInt_lt] at h8 h9 q
    omega

theorem Rel.says {σ : hMem} {n : Nat} {l9 a b low high r1 r2 : Int32} (hn : rTal σ n) {Z : va_W} {u1 u2 : hMem × va_W} (h : Rel σ) (hx : (((inB l9 0 5 = true) ∧ (inB a 0 15 = true) ∧ (inB b 0 15 = true) ∧ (¬ a = b) ∧ (¬ high < low) ∧ (¬ low < (-10000)) ∧ (¬ 10000 < high)) ∧ r1 = (if nI n < 40 then nI n else -1) ∧ u1 = ((if nI n < 40 then cSay σ n l9 a b low high else σ), Z)) ∨ (¬ ((inB l9 0 5 = true) ∧ (inB a 0 15 = true) ∧ (inB b 0 15 = true) ∧ (¬ a = b) ∧ (¬ high < low) ∧ (¬ low < (-10000)) ∧ (¬ 10000 < high)) ∧ r1 = -1 ∧ u1 = (σ, Z))) (hm : (sayOk n l9 a b low high → r2 = nI n ∧ u2 = (mSay u1.1 n l9 a b low high, Z)) ∧ (¬ sayOk n l9 a b low high → r2 = -1 ∧ u2 = (u1.1, Z))) : r1 = r2 ∧ Rel u2.1 ∧ u2.2 = Z := by
  have h0 := h
  obtain ⟨n', nv, nc, nt, nl, hd, ns, h1, h2', h3, h4, h5, h6, h7, h8, h9, h10⟩ := h
  have h2 : rTal σ n := hn
  have n4 := h2.2.2.1
  by_cases hok : sayOk n l9 a b low high
  · obtain ⟨hm1, hm2⟩ := hm.1 hok
    have hok2 := say_ok.mp hok
    have hlt := lt40 hok2.1 n4
    have hc : nI n < 40 := (nI_ltI (b := 40) (by omega) (by decide)).mpr hlt
    rcases hx with ⟨g1, g2, g3⟩ | ⟨g1, _⟩
    · rw [if_pos hc] at g2 g3
      subst g3
      subst hm2
      refine ⟨by rw [g2, hm1], ?_, rfl⟩
      have hG : rTal (mSay (cSay σ n l9 a b low high) n l9 a b low high) (n + 1) := by
        obtain ⟨e1, e2, e3, e4, e5, e6, e7, e8, e9, e10, e11, e12, e13, e14, e15, e16, e17⟩ := h2
        refine ⟨rfl, rfl, hlt, e4, ?_, ?_, ?_, ?_, ?_, fun k hk => ?_, fun k hk => ?_, e12, e13, e14, e15, fun q => absurd rfl q, fun q => absurd rfl q⟩
        · show upd (hA σ 1 1 0) n l9 = upd (hA σ 43 4 0) n l9
          rw [e5]
        · show upd (hA σ 1 2 0) n a = upd (hA σ 43 5 0) n a
          rw [e6]
        · show upd (hA σ 1 3 0) n b = upd (hA σ 43 6 0) n b
          rw [e7]
        · show upd (hA σ 1 4 0) n low = upd (hA σ 43 7 0) n low
          rw [e8]
        · show upd (hA σ 1 5 0) n high = upd (hA σ 43 8 0) n high
          rw [e9]
        · show vp_in (upd (hA σ 1 2 0) n a k) 16 ∧ vp_in (upd (hA σ 1 3 0) n b k) 16 ∧ (upd (hA σ 1 2 0) n a k).toNatClampNeg ≠ (upd (hA σ 1 3 0) n b k).toNatClampNeg ∧ -10000 ≤ (upd (hA σ 1 4 0) n low k).toInt ∧ (upd (hA σ 1 4 0) n low k).toInt ≤ (upd (hA σ 1 5 0) n high k).toInt ∧ (upd (hA σ 1 5 0) n high k).toInt ≤ 10000
          by_cases e : k = n
          · rw [e, pk_us, pk_us, pk_us, pk_us]
            obtain ⟨_, _, g4, g5, g6, g7, g8, g9⟩ := hok2
            obtain ⟨p, _, p2, p3⟩ := nI_in1 (lo := 0) (hi := 15) g4 rfl (by decide) (by decide)
            obtain ⟨q, _, q2, q3⟩ := nI_in1 (lo := 0) (hi := 15) g5 rfl (by decide) (by decide)
            refine ⟨vp_in_B g4 (by decide), vp_in_B g5 (by decide), fun z => g6 ?_, ?_⟩
            · rw [p3, q3] at z ⊢
              rw [nI_clamp (by omega), nI_clamp (by omega)] at z
              rw [z]
            · rw [Int32.lt_iff_toInt_lt] at g7 g8 g9
              have t1 : (-10000 : Int32).toInt = -10000 := rfl
              have t2 : (10000 : Int32).toInt = 10000 := rfl
              omega
          · rw [upd_o e, upd_o e, upd_o e, upd_o e]
            exact e10 k (by omega)
        · show vp_in (upd (hA σ 1 1 0) n l9 k) 6
          by_cases e : k = n
          · rw [e, pk_us]; exact vp_in_B hok2.2.1 (by decide)
          · rw [upd_o e]; exact e11 k (by omega)
      exact ⟨n + 1, nv, nc, nt, nl, hd, ns, h1.ag ((((((((((((((Ag.r.sA (by unfold dClk; omega)).sA (by unfold dClk; omega)).sA (by unfold dClk; omega)).sA (by unfold dClk; omega)).sA (by unfold dClk; omega)).sI (by unfold dClk; omega)).sI (by unfold dClk; omega)).sI (by unfold dClk; omega)).sA (by unfold dClk; omega)).sA (by unfold dClk; omega)).sA (by unfold dClk; omega)).sA (by unfold dClk; omega)).sA (by unfold dClk; omega)).sI (by unfold dClk; omega)), hG, h3.ag ((((((((((((((Ag.r.sA (by unfold dGds; omega)).sA (by unfold dGds; omega)).sA (by unfold dGds; omega)).sA (by unfold dGds; omega)).sA (by unfold dGds; omega)).sI (by unfold dGds; omega)).sI (by unfold dGds; omega)).sI (by unfold dGds; omega)).sA (by unfold dGds; omega)).sA (by unfold dGds; omega)).sA (by unfold dGds; omega)).sA (by unfold dGds; omega)).sA (by unfold dGds; omega)).sI (by unfold dGds; omega)), h4.ag ((((((((((((((Ag.r.sA (by unfold dCas; omega)).sA (by unfold dCas; omega)).sA (by unfold dCas; omega)).sA (by unfold dCas; omega)).sA (by unfold dCas; omega)).sI (by unfold dCas; omega)).sI (by unfold dCas; omega)).sI (by unfold dCas; omega)).sA (by unfold dCas; omega)).sA (by unfold dCas; omega)).sA (by unfold dCas; omega)).sA (by unfold dCas; omega)).sA (by unfold dCas; omega)).sI (by unfold dCas; omega)), h5.ag ((((((((((((((Ag.r.sA (by unfold dSui; omega)).sA (by unfold dSui; omega)).sA (by unfold dSui; omega)).sA (by unfold dSui; omega)).sA (by unfold dSui; omega)).sI (by unfold dSui; omega)).sI (by unfold dSui; omega)).sI (by unfold dSui; omega)).sA (by unfold dSui; omega)).sA (by unfold dSui; omega)).sA (by unfold dSui; omega)).sA (by unfold dSui; omega)).sA (by unfold dSui; omega)).sI (by unfold dSui; omega)), h6.ag ((((((((((((((Ag.r.sA (by unfold dTap; omega)).sA (by unfold dTap; omega)).sA (by unfold dTap; omega)).sA (by unfold dTap; omega)).sA (by unfold dTap; omega)).sI (by unfold dTap; omega)).sI (by unfold dTap; omega)).sI (by unfold dTap; omega)).sA (by unfold dTap; omega)).sA (by unfold dTap; omega)).sA (by unfold dTap; omega)).sA (by unfold dTap; omega)).sA (by unfold dTap; omega)).sI (by unfold dTap; omega)), h7.ag ((((((((((((((Ag.r.sA (by unfold dLaw; omega)).sA (by unfold dLaw; omega)).sA (by unfold dLaw; omega)).sA (by unfold dLaw; omega)).sA (by unfold dLaw; omega)).sI (by unfold dLaw; omega)).sI (by unfold dLaw; omega)).sI (by unfold dLaw; omega)).sA (by unfold dLaw; omega)).sA (by unfold dLaw; omega)).sA (by unfold dLaw; omega)).sA (by unfold dLaw; omega)).sA (by unfold dLaw; omega)).sI (by unfold dLaw; omega)), h8.ag ((((((((((((((Ag.r.sA (by unfold dSht; omega)).sA (by unfold dSht; omega)).sA (by unfold dSht; omega)).sA (by unfold dSht; omega)).sA (by unfold dSht; omega)).sI (by unfold dSht; omega)).sI (by unfold dSht; omega)).sI (by unfold dSht; omega)).sA (by unfold dSht; omega)).sA (by unfold dSht; omega)).sA (by unfold dSht; omega)).sA (by unfold dSht; omega)).sA (by unfold dSht; omega)).sI (by unfold dSht; omega)), h9.ag ((((((((((((((Ag.r.sA (by unfold dShp; omega)).sA (by unfold dShp; omega)).sA (by unfold dShp; omega)).sA (by unfold dShp; omega)).sA (by unfold dShp; omega)).sI (by unfold dShp; omega)).sI (by unfold dShp; omega)).sI (by unfold dShp; omega)).sA (by unfold dShp; omega)).sA (by unfold dShp; omega)).sA (by unfold dShp; omega)).sA (by unfold dShp; omega)).sA (by unfold dShp; omega)).sI (by unfold dShp; omega)), h10.ag ((((((((((((((Ag.r.sA (by unfold dJdg; omega)).sA (by unfold dJdg; omega)).sA (by unfold dJdg; omega)).sA (by unfold dJdg; omega)).sA (by unfold dJdg; omega)).sI (by unfold dJdg; omega)).sI (by unfold dJdg; omega)).sI (by unfold dJdg; omega)).sA (by unfold dJdg; omega)).sA (by unfold dJdg; omega)).sA (by unfold dJdg; omega)).sA (by unfold dJdg; omega)).sA (by unfold dJdg; omega)).sI (by unfold dJdg; omega))⟩
    · exact absurd hok2.2 g1
  · obtain ⟨hm1, hm2⟩ := hm.2 hok
    have hu : u1 = (σ, Z) ∧ r1 = -1 := by
      rcases hx with ⟨g1, g2, g3⟩ | ⟨g1, g2, g3⟩
      · have hc : ¬ nI n < 40 := fun q => hok (say_ok.mpr ⟨fun z => by rw [z] at q; exact absurd q (by decide), g1⟩)
        rw [if_neg hc] at g2 g3
        exact ⟨g3, g2⟩
      · exact ⟨g3, g2⟩
    obtain ⟨hu, hr1⟩ := hu
    subst hu
    subst hm2
    exact ⟨by rw [hr1, hm1], h0, rfl⟩
