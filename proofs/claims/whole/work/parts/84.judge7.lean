/-! Judge: class and model alike. -/
def lkM (σ : hMem) (ro nc : Nat) (known day : Int32) : Nat × (Nat → Int32) := (lkF (fun i => ((¬ day < hA σ 43 20 0 i) ∧ (¬ known < hA σ 43 21 0 i)) ∧ (¬ ((¬ hA σ 43 22 0 i = (-1)) ∧ ((¬ day < hA σ 43 22 0 i) ∧ (¬ known < hA σ 43 23 0 i)))) ∧ ¬ hA σ 43 29 ro 5 < mDist (hA σ 43 18 0 i) (hI σ 43 24) (hA σ 43 29 ro)) (hA σ 43 52 0) nc)
def xjP (σ : hMem) (Z : va_W) (n ns nl nc nv : Nat) (known day r : Int32) (u : hMem × va_W) : Prop := (¬ (inB known 0 5000 = true ∧ inB day 0 5000 = true) ∧ r = -1 ∧ u = (σ, Z)) ∨ ((inB known 0 5000 = true ∧ inB day 0 5000 = true) ∧ ltB (fun i => (¬ known < hA σ 10 1 0 i) ∧ (¬ day < hA σ 10 0 0 i)) (hA σ 10 0 0) nl = -1 ∧ r = 1 ∧ u = (σ, Z)) ∨ ((inB known 0 5000 = true ∧ inB day 0 5000 = true) ∧ ∃ ro, ro < nl ∧ ltB (fun i => (¬ known < hA σ 10 1 0 i) ∧ (¬ day < hA σ 10 0 0 i)) (hA σ 10 0 0) nl = nI ro ∧ r = 0 ∧ ∃ Y P P2 Q2 T2 K2 V, u = (cM Y ns (sumL (fun i => P i 2) ns) (gvF (hL Y 12 6) (hI Y 12 5) (sumL (fun i => P i 2) ns)) K2 P2 Q2 T2, Z) ∧ Stq (cJ2 σ ro ((lkC σ ro nc known day).1) ((lkC σ ro nc known day).2) (srt (hA σ 12 1 0) (fun i => hA σ 6 1 0 ((lkC σ ro nc known day).2 i).toNatClampNeg) (lkC σ ro nc known day).1) (cRat (cJ1 σ ro ((lkC σ ro nc known day).1) ((lkC σ ro nc known day).2) (srt (hA σ 12 1 0) (fun i => hA σ 6 1 0 ((lkC σ ro nc known day).2 i).toNatClampNeg) (lkC σ ro nc known day).1)) (13 + ro) ((lkC σ ro nc known day).1) (hI σ 0 11)) (cWs σ nv known day 10)) n Y ∧ (∀ i, i < ns → wOk (cJ2 σ ro ((lkC σ ro nc known day).1) ((lkC σ ro nc known day).2) (srt (hA σ 12 1 0) (fun i => hA σ 6 1 0 ((lkC σ ro nc known day).2 i).toNatClampNeg) (lkC σ ro nc known day).1) (cRat (cJ1 σ ro ((lkC σ ro nc known day).1) ((lkC σ ro nc known day).2) (srt (hA σ 12 1 0) (fun i => hA σ 6 1 0 ((lkC σ ro nc known day).2 i).toNatClampNeg) (lkC σ ro nc known day).1)) (13 + ro) ((lkC σ ro nc known day).1) (hI σ 0 11)) (cWs σ nv known day 10)) n P i) ∧ subL (gvF (hL Y 12 6) (hI Y 12 5) (sumL (fun i => P i 2) ns)) (coF (gvF (hL Y 12 6) (hI Y 12 5) (sumL (fun i => P i 2) ns)) (fun i => P i 2) (sumL (fun i => P i 2) ns)) ns = lN V ∧ V ≤ ns ∧ PI ns (fun i => P i 1) (fun i => P i 2) (pkS ns (rsF (gvF (hL Y 12 6) (hI Y 12 5) (sumL (fun i => P i 2) ns)) (fun i => P i 2) (sumL (fun i => P i 2) ns)) (coF (gvF (hL Y 12 6) (hI Y 12 5) (sumL (fun i => P i 2) ns)) (fun i => P i 2) (sumL (fun i => P i 2) ns)) V).2 (hI Y (13 + ro) 6) (hI Y (13 + ro) 5) (fun i => hI Y (19 + i) 4) (fun i => hI Y (19 + i) 5) (fun i => hI Y (19 + i) 6) (hdC Y) (fun i => hA Y (27 + i) 0 0) (PS P2) K2 T2 (fun i => Q2 i 9) ns)
def mjP (σ : hMem) (Z : va_W) (n ns nl nc nv : Nat) (known day r : Int32) (u : hMem × va_W) : Prop := (¬ (inB known 0 5000 = true ∧ inB day 0 5000 = true) ∧ r = -1 ∧ u = (σ, Z)) ∨ ((inB known 0 5000 = true ∧ inB day 0 5000 = true) ∧ ltB (fun i => (¬ known < hA σ 43 28 0 i) ∧ (¬ day < hA σ 43 27 0 i)) (hA σ 43 27 0) nl = -1 ∧ r = 1 ∧ u = (σ, Z)) ∨ ((inB known 0 5000 = true ∧ inB day 0 5000 = true) ∧ ∃ ro, ro < nl ∧ ltB (fun i => (¬ known < hA σ 43 28 0 i) ∧ (¬ day < hA σ 43 27 0 i)) (hA σ 43 27 0) nl = nI ro ∧ r = 0 ∧ ∃ IN F V S B HT HN, u = (aM (sI (sIG (jL σ ro ((lkM σ ro nc known day).1) ((lkM σ ro nc known day).2) (mRate σ ((lkM σ ro nc known day).2) ((lkM σ ro nc known day).1) ro) (mWs σ nv known day 10)) IN F) 43 51 (nI ns)) S (gvF (mWs σ nv known day 10) (mRate σ ((lkM σ ro nc known day).2) ((lkM σ ro nc known day).1) ro) (sumL (wtF F (hA σ 43 41 0) (hA σ 43 40 0) (hA σ 43 39 0)) ns)) B HT HN, Z) ∧ BelW σ n IN F ∧ subL (gvF (mWs σ nv known day 10) (mRate σ ((lkM σ ro nc known day).2) ((lkM σ ro nc known day).1) ro) (sumL (wtF F (hA σ 43 41 0) (hA σ 43 40 0) (hA σ 43 39 0)) ns)) (coF (gvF (mWs σ nv known day 10) (mRate σ ((lkM σ ro nc known day).2) ((lkM σ ro nc known day).1) ro) (sumL (wtF F (hA σ 43 41 0) (hA σ 43 40 0) (hA σ 43 39 0)) ns)) (wtF F (hA σ 43 41 0) (hA σ 43 40 0) (hA σ 43 39 0)) (sumL (wtF F (hA σ 43 41 0) (hA σ 43 40 0) (hA σ 43 39 0)) ns)) ns = lN V ∧ V ≤ ns ∧ PI ns (hrF F (hA σ 43 41 0) (hA σ 43 40 0)) (wtF F (hA σ 43 41 0) (hA σ 43 40 0) (hA σ 43 39 0)) (pkS ns (rsF (gvF (mWs σ nv known day 10) (mRate σ ((lkM σ ro nc known day).2) ((lkM σ ro nc known day).1) ro) (sumL (wtF F (hA σ 43 41 0) (hA σ 43 40 0) (hA σ 43 39 0)) ns)) (wtF F (hA σ 43 41 0) (hA σ 43 40 0) (hA σ 43 39 0)) (sumL (wtF F (hA σ 43 41 0) (hA σ 43 40 0) (hA σ 43 39 0)) ns)) (coF (gvF (mWs σ nv known day 10) (mRate σ ((lkM σ ro nc known day).2) ((lkM σ ro nc known day).1) ro) (sumL (wtF F (hA σ 43 41 0) (hA σ 43 40 0) (hA σ 43 39 0)) ns)) (wtF F (hA σ 43 41 0) (hA σ 43 40 0) (hA σ 43 39 0)) (sumL (wtF F (hA σ 43 41 0) (hA σ 43 40 0) (hA σ 43 39 0)) ns)) V).2 (hA σ 43 29 ro 10) (hA σ 43 29 ro 9) (hA σ 43 42 0) (hA σ 43 43 0) (hA σ 43 44 0) (hdN σ) (hA σ 43 46) S B HT HN ns)
theorem lkM_ag {σ τ : hMem} (a : Ag d43 σ τ) (ro nc : Nat) (known day : Int32) : lkM τ ro nc known day = lkM σ ro nc known day := by
  obtain ⟨aI, _, aA, _⟩ := ag43 a
  unfold lkM
  simp only [aI, aA]
theorem mRate_ag {σ τ : hMem} (a : Ag d43 σ τ) (f : Nat → Int32) (c ro : Nat) : mRate τ f c ro = mRate σ f c ro := by
  obtain ⟨aI, _, aA, _⟩ := ag43 a
  unfold mRate mRtF
  simp only [aI, aA]
theorem mWs_ag {σ τ : hMem} (a : Ag d43 σ τ) (nv : Nat) (known day : Int32) : ∀ k, mWs τ nv known day k = mWs σ nv known day k
  | 0 => rfl
  | k + 1 => by
    obtain ⟨aI, _, aA, _⟩ := ag43 a
    show mWs τ nv known day k + (mSvd τ nv (nI k) known day).toInt64 = mWs σ nv known day k + (mSvd σ nv (nI k) known day).toInt64
    rw [mWs_ag a nv known day k]
    unfold mSvd
    simp only [aA]
theorem lk_eq {σ : hMem} {nc nl ro : Nat} {known day : Int32} (hc : rCas σ nc) (hs : rSui σ) (hl : rLaw σ nl) (hro : ro < nl) (hd : inB day 0 5000 = true) : (lkC σ ro nc known day).1 = (lkM σ ro nc known day).1 ∧ (∀ i, i < (lkC σ ro nc known day).1 → (lkC σ ro nc known day).2 i = (lkM σ ro nc known day).2 i) ∧ (lkC σ ro nc known day).1 ≤ 40 ∧ ∀ i, i < (lkC σ ro nc known day).1 → ∃ j, j < nc ∧ (lkC σ ro nc known day).2 i = nI j := by
  obtain ⟨h1, h2⟩ := lkF_cg (f := hA σ 12 0 0) (f' := hA σ 43 52 0) nc (ok_eq (known := known) hc hs hl hro hd)
  refine ⟨h1, h2, Nat.le_trans (lkF_le _ _ nc) hc.2.2.1, fun i hi => ?_⟩
  obtain ⟨j, j1, _, j3⟩ := lkF_in _ _ nc i hi
  exact ⟨j, j1, j3⟩
theorem rat_eq {σ : hMem} {nc nl ro : Nat} {known day : Int32} (hc : rCas σ nc) (hs : rSui σ) (hl : rLaw σ nl) (hro : ro < nl) (hd : inB day 0 5000 = true) : cRat (cJ1 σ ro ((lkC σ ro nc known day).1) ((lkC σ ro nc known day).2) (srt (hA σ 12 1 0) (fun i => hA σ 6 1 0 ((lkC σ ro nc known day).2 i).toNatClampNeg) (lkC σ ro nc known day).1)) (13 + ro) ((lkC σ ro nc known day).1) (hI σ 0 11) = mRate σ (lkM σ ro nc known day).2 (lkM σ ro nc known day).1 ro ∧ ∃ x, x ≤ 1000 ∧ mRate σ (lkM σ ro nc known day).2 (lkM σ ro nc known day).1 ro = nI x := by
  obtain ⟨h1, h2, h3, h4⟩ := lk_eq (known := known) hc hs hl hro hd
  have nc40 : nc ≤ 40 := hc.2.2.1
  have hb : ∃ x, x ≤ 1000 ∧ mRate σ (lkM σ ro nc known day).2 (lkM σ ro nc known day).1 ro = nI x := by
    refine mRate_N ⟨(hl.2.2.2.2 ro hro).2.2.1, (hl.2.2.2.2 ro hro).2.2.2.1⟩ (by omega) (fun i hi => ?_) hs.2.2.2
    rw [← h1] at hi
    obtain ⟨j, j1, j2⟩ := h4 i hi
    rw [← h2 i hi, j2, nI_clamp (by omega)]
    exact (hc.2.2.2.2.2.1 j j1).2.2.2.1
  refine ⟨?_, hb⟩
  rw [← h1] at hb ⊢
  exact rt_eq hl hro hs h3 (fun i hi => by rw [hc.2.2.2.2.1, h2 i hi]) hb
theorem rGds.va {σ : hMem} {nv : Nat} (h : rGds σ nv) : vaW σ nv := fun i hi => by
  obtain ⟨_, _, c, r, c1, c2, c3, c4, _⟩ := h.2.2.2.2 i hi
  exact ⟨⟨c, c1, c3⟩, r, c2, c4⟩
theorem Rel.judge {σ : hMem} {n ns nl nc nv : Nat} {known day r1 r2 : Int32} (hn : rTal σ n) (hns : rShp σ ns) (hnl : rLaw σ nl) (hnc : rCas σ nc) (hnv : rGds σ nv) {Z : va_W} {u1 u2 : hMem × va_W} (h : Rel σ) (hx : xjP σ Z n ns nl nc nv known day r1 u1) (hm : mjP u1.1 Z n ns nl nc nv known day r2 u2) : r1 = r2 ∧ Rel u2.1 ∧ u2.2 = Z := by
  have h0 := h
  obtain ⟨n', nv', nc', nt, nl', hd, ns', h1, _, _, _, h5, h6, _, h8, _, _⟩ := h
  have hlt : ltB (fun i => (¬ known < hA σ 10 1 0 i) ∧ (¬ day < hA σ 10 0 0 i)) (hA σ 10 0 0) nl = ltB (fun i => (¬ known < hA σ 43 28 0 i) ∧ (¬ day < hA σ 43 27 0 i)) (hA σ 43 27 0) nl := ltB_cg nl (by have := hnl.2.2.1; omega) (fun i hi => by rw [(hnl.2.2.2.1 i hi).1, (hnl.2.2.2.1 i hi).2]) (fun i hi => (hnl.2.2.2.1 i hi).1)
  unfold xjP at hx
  rcases hx with ⟨g1, g2, g3⟩ | ⟨g1, g2, g3, g4⟩ | ⟨g1, ro, g2, g3, g4, Y, P, P2, Q2, T2, K2, V, g5, g6, g7, g8, g9, g10⟩
  · subst g3
    unfold mjP at hm
    rcases hm with ⟨m1, m2, m3⟩ | ⟨m1, _⟩ | ⟨m1, _⟩
    · subst m3
      exact ⟨by rw [g2, m2], h0, rfl⟩
    · exact absurd m1 g1
    · exact absurd m1 g1
  · subst g4
    unfold mjP at hm
    rcases hm with ⟨m1, _⟩ | ⟨m1, m2, m3, m4⟩ | ⟨m1, ro, m2, m3, _⟩
    · exact absurd g1 m1
    · subst m4
      exact ⟨by rw [g3, m3], h0, rfl⟩
    · exfalso
      dsimp only at m3
      rw [← hlt, g2] at m3
      have := hnl.2.2.1
      exact nI_nm (by omega) m3.symm
  · subst g5
    obtain ⟨k1, k2, k3, k4⟩ := lk_eq (known := known) hnc h5 hnl g2 g1.2
    obtain ⟨k5, k6⟩ := rat_eq (known := known) hnc h5 hnl g2 g1.2
    have nl6 := hnl.2.2.1
    rw [k5, ws_eq hnv] at g6 g7
    generalize hτ : cM Y ns (sumL (fun i => P i 2) ns) (gvF (hL Y 12 6) (hI Y 12 5) (sumL (fun i => P i 2) ns)) K2 P2 Q2 T2 = τ at hm
    have a43 : Ag d43 σ τ := by
      rw [← hτ]
      exact (g6.ag (Ag.r.cJ2 (fun k => by unfold d43; omega)) (by unfold d43; omega) (by unfold d43; omega) (by unfold d43; omega) (by unfold d43; omega)).cM (fun j k q1 q2 => by unfold d43; omega) (by unfold d43; omega) (by unfold d43; omega) (by unfold d43; omega) (by unfold d43; omega)
    unfold mjP at hm
    dsimp only at hm
    have e1 : ∀ k, hI τ 43 k = hI σ 43 k := (ag43 a43).1
    have e3 : ∀ k i, hA τ 43 k i = hA σ 43 k i := (ag43 a43).2.2.1
    rcases hm with ⟨m1, _⟩ | ⟨m1, m2, _⟩ | ⟨m1, ro2, m2, m3, m4, IN, F, V2, S, B, HT, HN, m5, m6, m7, m8, m9⟩
    · exact absurd g1 m1
    · exfalso
      rw [e3, e3, ← hlt, g3] at m2
      exact nI_nm (by omega) m2
    · have ero : ro2 = ro := by
        rw [e3, e3, ← hlt, g3] at m3
        exact ((nI_eq (by omega) (by omega)).mp m3).symm
      subst ero
      rw [lkM_ag a43, mRate_ag a43, mWs_ag a43] at m5 m7 m9
      subst m5
      refine ⟨by rw [g4, m4], ?_, rfl⟩
      rw [← k1]
      have key := @Rel.jd9 σ Y τ n nv nc nt nl hd ns ro2 _ V V2 _ _ _ _ _ P P2 Q2 T2 K2 B IN F S HT HN h1 hn hnv hnc h5 h6 hnl h8 hns g2 k3 k2 g6 g7 g8 g9 g10 hτ.symm m6
      rw [← k1] at m7 m9 key
      exact key m7 m8 m9
