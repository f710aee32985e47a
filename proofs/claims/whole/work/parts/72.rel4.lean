theorem Rel.earlier {σ : hMem} {nc : Nat} {m9 a day r1 r2 : Int32} (hnc : rCas σ nc) {Z : va_W} {u1 u2 : hMem × va_W} (h : Rel σ) (hx : (((inB m9 0 99999 = true) ∧ (inB a 0 1000 = true) ∧ (inB day 0 5000 = true)) ∧ r1 = (if nI nc < 40 then nI nc else -1) ∧ u1 = ((if nI nc < 40 then cCad σ nc m9 a day (hI σ 0 9) else σ), Z)) ∨ (¬ ((inB m9 0 99999 = true) ∧ (inB a 0 1000 = true) ∧ (inB day 0 5000 = true)) ∧ r1 = -1 ∧ u1 = (σ, Z))) (hm : (casOk nc m9 a day → r2 = nI nc ∧ u2 = (mCas u1.1 nc m9 a day, Z)) ∧ (¬ casOk nc m9 a day → r2 = -1 ∧ u2 = (u1.1, Z))) : r1 = r2 ∧ Rel u2.1 ∧ u2.2 = Z := by
  obtain ⟨n, nv, nc', nt, nl, hd, ns, h1, h2, h3, h4', h5, h6, h7, h8, h9, h10⟩ := h
  have h4 : rCas σ nc := hnc
  have n4 := h4.2.2.1
  by_cases hok : casOk nc m9 a day
  · obtain ⟨hm1, hm2⟩ := hm.1 hok
    obtain ⟨k1, k2, k3, k4⟩ := hok
    have hlt := lt40 k1 n4
    have hc : nI nc < 40 := (nI_ltI (b := 40) (by omega) (by decide)).mpr hlt
    rcases hx with ⟨g1, g2, g3⟩ | ⟨g1, _⟩
    · rw [if_pos hc] at g2 g3
      subst g3
      subst hm2
      refine ⟨by rw [g2, hm1], ?_, rfl⟩
      obtain ⟨c, _, c2, c3⟩ := nI_in1 (lo := 0) (hi := 99999) k2 rfl (by decide) (by decide)
      obtain ⟨r, _, r4, r5⟩ := nI_in1 (lo := 0) (hi := 1000) k3 rfl (by decide) (by decide)
      have hG : rCas (mCas (cCad σ nc m9 a day (hI σ 0 9)) nc m9 a day) (nc + 1) := by
        obtain ⟨_, _, _, e4, e5, e6, e7⟩ := h4
        refine ⟨rfl, rfl, hlt, ?_, ?_, fun i hi => ?_, fun i q1 q2 => e7 i (by omega) q2⟩
        · show upd (hA σ 6 0 0) nc m9 = upd (hA σ 43 18 0) nc m9
          rw [e4]
        · show upd (hA σ 6 1 0) nc a = upd (hA σ 43 19 0) nc a
          rw [e5]
        · show upd (hA σ 7 0 0) nc day i = upd (hA σ 43 20 0) nc day i ∧ upd (hA σ 7 1 0) nc (hI σ 0 9) i = upd (hA σ 43 21 0) nc (hI σ 43 1) i ∧ (∃ m, m ≤ 99999 ∧ upd (hA σ 43 18 0) nc m9 i = nI m) ∧ (∃ m, m ≤ 1000 ∧ upd (hA σ 43 19 0) nc a i = nI m) ∧ ((hA σ 8 0 0 i = 5001 ∧ upd (hA σ 43 22 0) nc (-1) i = -1) ∨ (hA σ 8 0 0 i = upd (hA σ 43 22 0) nc (-1) i ∧ hA σ 8 1 0 i = hA σ 43 23 0 i ∧ ∃ d, d ≤ 5000 ∧ upd (hA σ 43 22 0) nc (-1) i = nI d))
          by_cases e : i = nc
          · subst e
            rw [pk_us, pk_us, pk_us, pk_us, pk_us, pk_us, pk_us]
            exact ⟨rfl, h1.1, ⟨c, c2, c3⟩, ⟨r, r4, r5⟩, Or.inl ⟨(e7 i (Nat.le_refl i) hlt).1, rfl⟩⟩
          · rw [upd_o e, upd_o e, upd_o e, upd_o e, upd_o e, upd_o e, upd_o e]
            exact e6 i (by omega)
      exact ⟨n, nv, nc + 1, nt, nl, hd, ns, h1.ag (((((((((((Ag.r.sA (by unfold dClk; omega)).sA (by unfold dClk; omega)).sA (by unfold dClk; omega)).sA (by unfold dClk; omega)).sI (by unfold dClk; omega)).sA (by unfold dClk; omega)).sA (by unfold dClk; omega)).sA (by unfold dClk; omega)).sA (by unfold dClk; omega)).sA (by unfold dClk; omega)).sI (by unfold dClk; omega)), h2.ag (((((((((((Ag.r.sA (by unfold dTal; omega)).sA (by unfold dTal; omega)).sA (by unfold dTal; omega)).sA (by unfold dTal; omega)).sI (by unfold dTal; omega)).sA (by unfold dTal; omega)).sA (by unfold dTal; omega)).sA (by unfold dTal; omega)).sA (by unfold dTal; omega)).sA (by unfold dTal; omega)).sI (by unfold dTal; omega)), h3.ag (((((((((((Ag.r.sA (by unfold dGds; omega)).sA (by unfold dGds; omega)).sA (by unfold dGds; omega)).sA (by unfold dGds; omega)).sI (by unfold dGds; omega)).sA (by unfold dGds; omega)).sA (by unfold dGds; omega)).sA (by unfold dGds; omega)).sA (by unfold dGds; omega)).sA (by unfold dGds; omega)).sI (by unfold dGds; omega)), hG, h5.ag (((((((((((Ag.r.sA (by unfold dSui; omega)).sA (by unfold dSui; omega)).sA (by unfold dSui; omega)).sA (by unfold dSui; omega)).sI (by unfold dSui; omega)).sA (by unfold dSui; omega)).sA (by unfold dSui; omega)).sA (by unfold dSui; omega)).sA (by unfold dSui; omega)).sA (by unfold dSui; omega)).sI (by unfold dSui; omega)), h6.ag (((((((((((Ag.r.sA (by unfold dTap; omega)).sA (by unfold dTap; omega)).sA (by unfold dTap; omega)).sA (by unfold dTap; omega)).sI (by unfold dTap; omega)).sA (by unfold dTap; omega)).sA (by unfold dTap; omega)).sA (by unfold dTap; omega)).sA (by unfold dTap; omega)).sA (by unfold dTap; omega)).sI (by unfold dTap; omega)), h7.ag (((((((((((Ag.r.sA (by unfold dLaw; omega)).sA (by unfold dLaw; omega)).sA (by unfold dLaw; omega)).sA (by unfold dLaw; omega)).sI (by unfold dLaw; omega)).sA (by unfold dLaw; omega)).sA (by unfold dLaw; omega)).sA (by unfold dLaw; omega)).sA (by unfold dLaw; omega)).sA (by unfold dLaw; omega)).sI (by unfold dLaw; omega)), h8.ag (((((((((((Ag.r.sA (by unfold dSht; omega)).sA (by unfold dSht; omega)).sA (by unfold dSht; omega)).sA (by unfold dSht; omega)).sI (by unfold dSht; omega)).sA (by unfold dSht; omega)).sA (by unfold dSht; omega)).sA (by unfold dSht; omega)).sA (by unfold dSht; omega)).sA (by unfold dSht; omega)).sI (by unfold dSht; omega)), h9.ag (((((((((((Ag.r.sA (by unfold dShp; omega)).sA (by unfold dShp; omega)).sA (by unfold dShp; omega)).sA (by unfold dShp; omega)).sI (by unfold dShp; omega)).sA (by unfold dShp; omega)).sA (by unfold dShp; omega)).sA (by unfold dShp; omega)).sA (by unfold dShp; omega)).sA (by unfold dShp; omega)).sI (by unfold dShp; omega)), h10.ag (((((((((((Ag.r.sA (by unfold dJdg; omega)).sA (by unfold dJdg; omega)).sA (by unfold dJdg; omega)).sA (by unfold dJdg; omega)).sI (by unfold dJdg; omega)).sA (by unfold dJdg; omega)).sA (by unfold dJdg; omega)).sA (by unfold dJdg; omega)).sA (by unfold dJdg; omega)).sA (by unfold dJdg; omega)).sI (by unfold dJdg; omega))⟩
    · exact absurd ⟨k2, k3, k4⟩ g1
  · obtain ⟨hm1, hm2⟩ := hm.2 hok
    rcases hx with ⟨g1, g2, g3⟩ | ⟨g1, g2, g3⟩
    · have hc : ¬ nI nc < 40 := fun q => hok ⟨fun z => by rw [z] at q; exact absurd q (by decide), g1.1, g1.2.1, g1.2.2⟩
      rw [if_neg hc] at g2 g3
      subst g3
      subst hm2
      exact ⟨by rw [g2, hm1], ⟨n, nv, nc, nt, nl, hd, ns, h1, h2, h3, h4, h5, h6, h7, h8, h9, h10⟩, rfl⟩
    · subst g3
      subst hm2
      exact ⟨by rw [g2, hm1], ⟨n, nv, nc, nt, nl, hd, ns, h1, h2, h3, h4, h5, h6, h7, h8, h9, h10⟩, rfl⟩

theorem Rel.overrule {σ : hMem} {nc : Nat} {k day r1 r2 : Int32} (hnc : rCas σ nc) {Z : va_W} {u1 u2 : hMem × va_W} (h : Rel σ) (hx : ((inB day 0 5000 = true ∧ inB k 0 (nI nc - 1) = true ∧ hA σ 8 0 0 k.toNatClampNeg = 5001) ∧ r1 = 1 ∧ u1 = (cOvr σ k.toNatClampNeg day (hI σ 0 9), Z)) ∨ (¬ (inB day 0 5000 = true ∧ inB k 0 (nI nc - 1) = true ∧ hA σ 8 0 0 k.toNatClampNeg = 5001) ∧ r1 = 0 ∧ u1 = (σ, Z))) (hm : (ovrOk u1.1 nc k day → r2 = 1 ∧ u2 = (mOvr u1.1 k day, Z)) ∧ (¬ ovrOk u1.1 nc k day → r2 = 0 ∧ u2 = (u1.1, Z))) : r1 = r2 ∧ Rel u2.1 ∧ u2.2 = Z := by
  obtain ⟨n, nv, nc', nt, nl, hd, ns, h1, h2, h3, h4', h5, h6, h7, h8, h9, h10⟩ := h
  have h4 : rCas σ nc := hnc
  have n4 := h4.2.2.1
  have key : inB day 0 5000 = true → inB k 0 (nI nc - 1) = true → (hA σ 8 0 0 k.toNatClampNeg = 5001 ↔ hA σ 43 22 0 k.toNatClampNeg = -1) := fun _ hk => by
    have hlt := pre_lt18 hk (by omega)
    rcases (h4.2.2.2.2.2.1 _ hlt).2.2.2.2 with ⟨q1, q2⟩ | ⟨q1, _, d, hd, q3⟩
    · exact ⟨fun _ => q2, fun _ => q1⟩
    · rw [q1, q3]
      refine ⟨fun z => ?_, fun z => absurd z (nI_nm (by omega))⟩
      have := (nI_eq (b := 5001) (by omega) (by decide)).mp z
      omega
  rcases hx with ⟨⟨g1, g4, g5⟩, g2, g3⟩ | ⟨g1, g2, g3⟩
  · subst g3
    have hok : ovrOk (cOvr σ k.toNatClampNeg day (hI σ 0 9)) nc k day := ⟨g4, g1, (key g1 g4).mp g5⟩
    obtain ⟨hm1, hm2⟩ := hm.1 hok
    subst hm2
    refine ⟨by rw [g2, hm1], ?_, rfl⟩
    have hlt := pre_lt18 g4 (by omega)
    obtain ⟨d, _, d2, d3⟩ := nI_in1 (lo := 0) (hi := 5000) g1 rfl (by decide) (by decide)
    have hG : rCas (mOvr (cOvr σ k.toNatClampNeg day (hI σ 0 9)) k day) nc := by
      obtain ⟨e1, e2, e3, e4, e5, e6, e7⟩ := h4
      refine ⟨e1, e2, e3, e4, e5, fun i hi => ?_, fun i q1 q2 => ?_⟩
      · obtain ⟨f1, f2, f3, f4, f5⟩ := e6 i hi
        refine ⟨f1, f2, f3, f4, ?_⟩
        show (upd (hA σ 8 0 0) k.toNatClampNeg day i = 5001 ∧ upd (hA σ 43 22 0) k.toNatClampNeg day i = -1) ∨ (upd (hA σ 8 0 0) k.toNatClampNeg day i = upd (hA σ 43 22 0) k.toNatClampNeg day i ∧ upd (hA σ 8 1 0) k.toNatClampNeg (hI σ 0 9) i = upd (hA σ 43 23 0) k.toNatClampNeg (hI σ 43 1) i ∧ ∃ d, d ≤ 5000 ∧ upd (hA σ 43 22 0) k.toNatClampNeg day i = nI d)
        by_cases e : i = k.toNatClampNeg
        · rw [e, pk_us, pk_us, pk_us, pk_us]
          exact Or.inr ⟨rfl, h1.1, d, d2, d3⟩
        · rw [upd_o e, upd_o e, upd_o e, upd_o e]
          exact f5
      · show upd (hA σ 8 0 0) k.toNatClampNeg day i = 5001 ∧ upd (hA σ 8 1 0) k.toNatClampNeg (hI σ 0 9) i = 5001
        rw [upd_o (by omega), upd_o (by omega)]
        exact e7 i q1 q2
    exact ⟨n, nv, nc, nt, nl, hd, ns, h1.ag ((((Ag.r.sA (by unfold dClk; omega)).sA (by unfold dClk; omega)).sA (by unfold dClk; omega)).sA (by unfold dClk; omega)), h2.ag ((((Ag.r.sA (by unfold dTal; omega)).sA (by unfold dTal; omega)).sA (by unfold dTal; omega)).sA (by unfold dTal; omega)), h3.ag ((((Ag.r.sA (by unfold dGds; omega)).sA (by unfold dGds; omega)).sA (by unfold dGds; omega)).sA (by unfold dGds; omega)), hG, h5.ag ((((Ag.r.sA (by unfold dSui; omega)).sA (by unfold dSui; omega)).sA (by unfold dSui; omega)).sA (by unfold dSui; omega)), h6.ag ((((Ag.r.sA (by unfold dTap; omega)).sA (by unfold dTap; omega)).sA (by unfold dTap; omega)).sA (by unfold dTap; omega)), h7.ag ((((Ag.r.sA (by unfold dLaw; omega)).sA (by unfold dLaw; omega)).sA (by unfold dLaw; omega)).sA (by unfold dLaw; omega)), h8.ag ((((Ag.r.sA (by unfold dSht; omega)).sA (by unfold dSht; omega)).sA (by unfold dSht; omega)).sA (by unfold dSht; omega)), h9.ag ((((Ag.r.sA (by unfold dShp; omega)).sA (by unfold dShp; omega)).sA (by unfold dShp; omega)).sA (by unfold dShp; omega)), h10.ag ((((Ag.r.sA (by unfold dJdg; omega)).sA (by unfold dJdg; omega)).sA (by unfold dJdg; omega)).sA (by unfold dJdg; omega))⟩
  · subst g3
    have hok : ¬ ovrOk σ nc k day := fun q => g1 ⟨q.2.1, q.1, (key q.2.1 q.1).mpr q.2.2⟩
    obtain ⟨hm1, hm2⟩ := hm.2 hok
    subst hm2
    exact ⟨by rw [g2, hm1], ⟨n, nv, nc, nt, nl, hd, ns, h1, h2, h3, h4, h5, h6, h7, h8, h9, h10⟩, rfl⟩

theorem svd_eq {σ : hMem} {nv : Nat} (h : rGds σ nv) (g known day : Int32) : cWo σ nv g known day = mSvd σ nv g known day := by
  obtain ⟨_, _, n6, e0, e1⟩ := h
  unfold cWo mSvd
  rw [svB_lt _ _ _ _ _ _ nv (by omega)]
  have e : ltB (fun i => (hA σ 4 0 0 i = g) ∧ ((¬ known < hA σ 5 1 0 i) ∧ (¬ day < hA σ 5 0 0 i))) (hA σ 5 0 0) nv = ltB (fun i => hA σ 43 12 0 i = g ∧ ¬ known < hA σ 43 16 0 i ∧ ¬ day < hA σ 43 15 0 i) (hA σ 43 15 0) nv := ltB_cg nv (by omega) (fun i hi => by rw [e0, (e1 i hi).1, (e1 i hi).2.1]) (fun i hi => (e1 i hi).1)
  rw [e]
  rcases ltB_in (fun i => hA σ 43 12 0 i = g ∧ ¬ known < hA σ 43 16 0 i ∧ ¬ day < hA σ 43 15 0 i) (hA σ 43 15 0) nv with q | ⟨j, q1, q2⟩
  · rw [q]; rfl
  · rw [q2, if_pos (Int32.not_lt.mp (nI_pos (by omega))), if_neg (nI_nm (by omega)), nI_clamp (by omega)]
    obtain ⟨c, r, hc, hr, p1, p2, p3⟩ := (e1 j q1).2.2
    rw [p1, p2, p3]
    by_cases z : r ≤ c
    · rw [if_pos ((nI_leI (by omega) (by omega)).mpr z), nI_subN z]
    · rw [if_neg (fun y => z ((nI_leI (by omega) (by omega)).mp y)), show c - r = 0 by omega]
      rfl

theorem Rel.saved {σ : hMem} {nv : Nat} {g known day r1 r2 : Int32} (hnv : rGds σ nv) {Z : va_W} {u1 u2 : hMem × va_W} (h : Rel σ) (hx : (((inB g 0 9 = true) ∧ (inB known 0 5000 = true) ∧ (inB day 0 5000 = true)) ∧ r1 = cWo σ nv g known day ∧ u1 = (σ, Z)) ∨ (¬ ((inB g 0 9 = true) ∧ (inB known 0 5000 = true) ∧ (inB day 0 5000 = true)) ∧ r1 = -1 ∧ u1 = (σ, Z))) (hm : r2 = (if (inB g 0 9 = true) ∧ (inB known 0 5000 = true) ∧ (inB day 0 5000 = true) then mSvd u1.1 nv g known day else -1) ∧ u2 = (u1.1, Z)) : r1 = r2 ∧ Rel u2.1 ∧ u2.2 = Z := by
  obtain ⟨hm1, hm2⟩ := hm
  rcases hx with ⟨g1, g2, g3⟩ | ⟨g1, g2, g3⟩
  · subst g3
    subst hm2
    rw [if_pos g1] at hm1
    exact ⟨by rw [g2, hm1]; exact svd_eq hnv g known day, h, rfl⟩
  · subst g3
    subst hm2
    rw [if_neg g1] at hm1
    exact ⟨by rw [g2, hm1], h, rfl⟩

theorem b24 (x : Int32) : ((x.toUInt32 >>> ((24 : Int32).toUInt32 &&& Int32.toUInt32 31)).toInt32).toInt8.toInt32 = (x >>> (24 &&& 31)).toInt8.toInt32 := congrArg Int8.toInt32 (byt (s := 24) (k := 24) (by decide) (by decide) (by decide))
theorem b16 (x : Int32) : ((x.toUInt32 >>> ((16 : Int32).toUInt32 &&& Int32.toUInt32 31)).toInt32).toInt8.toInt32 = (x >>> (16 &&& 31)).toInt8.toInt32 := congrArg Int8.toInt32 (byt (s := 16) (k := 16) (by decide) (by decide) (by decide))
theorem b8 (x : Int32) : ((x.toUInt32 >>> ((8 : Int32).toUInt32 &&& Int32.toUInt32 31)).toInt32).toInt8.toInt32 = (x >>> (8 &&& 31)).toInt8.toInt32 := congrArg Int8.toInt32 (byt (s := 8) (k := 8) (by decide) (by decide) (by decide))
theorem b0 (x : Int32) : ((x.toUInt32 >>> ((0 : Int32).toUInt32 &&& Int32.toUInt32 31)).toInt32).toInt8.toInt32 = (x >>> (0 &&& 31)).toInt8.toInt32 := congrArg Int8.toInt32 (byt (s := 0) (k := 0) (by decide) (by decide) (by decide))
/-- four bytes more on both tapes -/
theorem rTap.p {σ : hMem} {τ : hMem} {nt : Nat} (x : Int32) (h1 : hI σ 9 1 = nI nt) (h0 : hA σ 9 0 0 = hA τ 43 30 0) : hA (cPut σ nt x) 9 0 0 = hA (mPut τ nt x) 43 30 0 := by
  show upd (upd (upd (upd (hA σ 9 0 0) nt _) (nt + 1) _) (nt + 1 + 1) _) (nt + 1 + 1 + 1) _ = upd (upd (upd (upd (hA τ 43 30 0) nt _) (nt + 1) _) (nt + 1 + 1) _) (nt + 1 + 1 + 1) _
  rw [h0, b24, b16, b8, b0]

theorem Ag.cPut {D : Nat → Nat → Prop} {σ τ : hMem} {t : Nat} {x : Int32} (h : Ag D σ τ) (h0 : ¬ D 9 0) (h1 : ¬ D 9 1) : Ag D σ (cPut τ t x) := (((((((h.sA h0).sI h1).sA h0).sI h1).sA h0).sI h1).sA h0).sI h1
theorem Ag.mPut {D : Nat → Nat → Prop} {σ τ : hMem} {t : Nat} {x : Int32} (h : Ag D σ τ) (h0 : ¬ D 43 30) (h1 : ¬ D 43 31) : Ag D σ (mPut τ t x) := (((((((h.sA h0).sI h1).sA h0).sI h1).sA h0).sI h1).sA h0).sI h1
theorem Ag.cFeed {D : Nat → Nat → Prop} {σ τ : hMem} {t : Nat} {a b c d e : Int32} (h : Ag D σ τ) (h0 : ¬ D 9 0) (h1 : ¬ D 9 1) : Ag D σ (cFeed τ t a b c d e) := ((((h.cPut h0 h1).cPut h0 h1).cPut h0 h1).cPut h0 h1).cPut h0 h1
theorem Ag.mFeed {D : Nat → Nat → Prop} {σ τ : hMem} {t : Nat} {a b c d e : Int32} (h : Ag D σ τ) (h0 : ¬ D 43 30) (h1 : ¬ D 43 31) : Ag D σ (mFeed τ t a b c d e) := ((((h.mPut h0 h1).mPut h0 h1).mPut h0 h1).mPut h0 h1).mPut h0 h1

theorem Rel.feed {σ : hMem} {nt : Nat} {a b c d e r1 r2 : Int32} (hnt : rTap σ nt) {Z : va_W} {u1 u2 : hMem × va_W} (h : Rel σ) (hx : r1 = (if nt + 20 ≤ 300 then nI (nt + 20) else -1) ∧ u1 = (if nt + 20 ≤ 300 then cFeed σ nt a b c d e else σ, Z)) (hm : r2 = (if nt + 20 ≤ 300 then nI (nt + 20) else -1) ∧ u2 = (if nt + 20 ≤ 300 then mFeed u1.1 nt a b c d e else u1.1, Z)) : r1 = r2 ∧ Rel u2.1 ∧ u2.2 = Z := by
  obtain ⟨n, nv, nc, nt', nl, hd, ns, h1, h2, h3, h4, h5, h6', h7, h8, h9, h10⟩ := h
  have h6 : rTap σ nt := hnt
  obtain ⟨hx1, hx2⟩ := hx
  obtain ⟨hm1, hm2⟩ := hm
  refine ⟨hx1.trans hm1.symm, ?_⟩
  by_cases q : nt + 20 ≤ 300
  · rw [if_pos q] at hx2 hm2
    subst hx2
    subst hm2
    refine ⟨?_, rfl⟩
    have hG : rTap (mFeed (cFeed σ nt a b c d e) nt a b c d e) (nt + 20) := by
      have a1 : Ag (fun j _ => j = 9) (cFeed σ nt a b c d e) (mFeed (cFeed σ nt a b c d e) nt a b c d e) := Ag.r.mFeed (by decide) (by decide)
      have a2 : Ag d43 σ (cFeed σ nt a b c d e) := Ag.r.cFeed (by unfold d43; decide) (by unfold d43; decide)
      have e0 : hA σ 9 0 0 = hA (cFeed σ nt a b c d e) 43 30 0 := h6.2.2.2.trans (a2.A rfl 0).symm
      have e1 := rTap.p (nt := nt) a h6.1 e0
      have e2 := rTap.p (nt := nt + 4) b (cPut_t _ _ _) e1
      have e3 := rTap.p (nt := nt + 4 + 4) c (cPut_t _ _ _) e2
      have e4 := rTap.p (nt := nt + 4 + 4 + 4) d (cPut_t _ _ _) e3
      have e5 := rTap.p (nt := nt + 4 + 4 + 4 + 4) e (cPut_t _ _ _) e4
      refine ⟨(a1.I (j := 9) (k := 1) rfl).trans (cPut_t _ _ _), mPut_t _ _ _, q, ?_⟩
      rw [a1.A (j := 9) (k := 0) rfl]
      exact e5
    exact ⟨n, nv, nc, nt + 20, nl, hd, ns, h1.ag ((Ag.r.cFeed (by unfold dClk; omega) (by unfold dClk; omega)).mFeed (by unfold dClk; omega) (by unfold dClk; omega)), h2.ag ((Ag.r.cFeed (by unfold dTal; omega) (by unfold dTal; omega)).mFeed (by unfold dTal; omega) (by unfold dTal; omega)), h3.ag ((Ag.r.cFeed (by unfold dGds; omega) (by unfold dGds; omega)).mFeed (by unfold dGds; omega) (by unfold dGds; omega)), h4.ag ((Ag.r.cFeed (by unfold dCas; omega) (by unfold dCas; omega)).mFeed (by unfold dCas; omega) (by unfold dCas; omega)), h5.ag ((Ag.r.cFeed (by unfold dSui; omega) (by unfold dSui; omega)).mFeed (by unfold dSui; omega) (by unfold dSui; omega)), hG, h7.ag ((Ag.r.cFeed (by unfold dLaw; omega) (by unfold dLaw; omega)).mFeed (by unfold dLaw; omega) (by unfold dLaw; omega)), h8.ag ((Ag.r.cFeed (by unfold dSht; omega) (by unfold dSht; omega)).mFeed (by unfold dSht; omega) (by unfold dSht; omega)), h9.ag ((Ag.r.cFeed (by unfold dShp; omega) (by unfold dShp; omega)).mFeed (by unfold dShp; omega) (by unfold dShp; omega)), h10.ag ((Ag.r.cFeed (by unfold dJdg; omega) (by unfold dJdg; omega)).mFeed (by unfold dJdg; omega) (by unfold dJdg; omega))⟩
  · rw [if_neg q] at hx2 hm2
    subst hx2
    subst hm2
    exact ⟨⟨n, nv, nc, nt, nl, hd, ns, h1, h2, h3, h4, h5, h6, h7, h8, h9, h10⟩, rfl⟩
