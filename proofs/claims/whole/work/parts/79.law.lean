theorem kM_ag {D : Nat → Nat → Prop} {σ : hMem} {j : Nat} {W V : Nat → Int32} {pl wp : Nat} {td ft : Int32} (h1 : ∀ k, ¬ D j k) (h2 : ∀ k, 2 ≤ k → k ≤ 5 → ¬ D 9 k) : Ag D σ (kM σ j W V pl wp td ft) :=
  (((((((((((Ag.r.sA (h1 0)).sI (h1 1)).sI (h1 2)).sI (h1 3)).sI (h1 4)).sI (h1 5)).sI (h1 6)).sI (h2 2 (by decide) (by decide))).sI (h2 3 (by decide) (by decide))).sI (h2 4 (by decide) (by decide))).sI (h2 5 (by decide) (by decide)))
theorem pM_ag {D : Nat → Nat → Prop} {σ τ : hMem} {b a : Nat} {ft : Int32} {L : Nat → Int32} (h : Ag D σ τ) (h1 : ¬ D 43 29) (h2 : ∀ k, 32 ≤ k → k ≤ 34 → ¬ D 43 k) : Ag D σ (pM τ b a ft L) :=
  ((((h.sA h1).sI (h2 32 (by decide) (by decide))).sI (h2 33 (by decide) (by decide))).sI (h2 34 (by decide) (by decide)))
theorem pM_29 {σ : hMem} {b a ro : Nat} {ft : Int32} {L : Nat → Int32} (h : ¬ ro = 6) : hA (pM σ b a ft L) 43 29 ro = hA σ 43 29 ro := by
  show hA (sA σ 43 29 6 L) 43 29 ro = _
  exact hA_o h
theorem kM_I {σ : hMem} {j : Nat} {W V : Nat → Int32} {pl wp : Nat} {td ft : Int32} (h : ¬ j = 9) {k : Nat} (h1 : 1 ≤ k) (h2 : k ≤ 6) : hI (kM σ j W V pl wp td ft) j k = V (k + 4) := by
  unfold kM tM vM
  rw [hI_sI, if_neg (fun q => h q.2), hI_sI, if_neg (fun q => h q.2), hI_sI, if_neg (fun q => h q.2), hI_sI, if_neg (fun q => h q.2)]
  rcases (show k = 1 ∨ k = 2 ∨ k = 3 ∨ k = 4 ∨ k = 5 ∨ k = 6 by omega) with rfl | rfl | rfl | rfl | rfl | rfl <;> simp [hI_sI]
theorem lawB_0 (σ : hMem) : lawB (L00 σ) := ⟨⟨100, by decide, rfl⟩, ⟨0, by decide, rfl⟩, ⟨0, by decide, rfl⟩, 0, by decide, rfl⟩

theorem Rel.law {σ : hMem} {nt nl : Nat} {day r1 r2 : Int32} (hnt : rTap σ nt) (hnl : rLaw σ nl) {Z : va_W} {u1 u2 : hMem × va_W} (h : Rel σ) (hx : (((¬ 6 ≤ nI nl) ∧ (inB day 0 5000 = true)) ∧ ∃ W V pl wp td ft, rdR (lwR (hA σ 9 0 0) nt (L00 σ)) ft W V ∧ ((¬ ft = 0 ∧ r1 = -2 - ft ∧ u1 = (sI (kM σ (13 + nl) W V pl wp td ft) 9 1 0, Z)) ∨ (ft = 0 ∧ r1 = nI nl ∧ u1 = (cLaw σ nl W V pl wp td day, Z)))) ∨ (¬ ((¬ 6 ≤ nI nl) ∧ (inB day 0 5000 = true)) ∧ r1 = -1 ∧ u1 = (σ, Z))) (hm : (¬ (¬ nI nl = 6 ∧ inB day 0 5000 = true) ∧ r2 = -1 ∧ u2 = (u1.1, Z)) ∨ ((¬ nI nl = 6 ∧ inB day 0 5000 = true) ∧ ∃ b a ft L, (lwR (hA u1.1 43 30 0) nt (L00 u1.1) = .inl ft ∧ 0 < ft ∧ r2 = -2 - ft ∧ u2 = (sI (pM u1.1 b a ft L) 43 31 0, Z)) ∨ (lwR (hA u1.1 43 30 0) nt (L00 u1.1) = .inr L ∧ r2 = nI nl ∧ u2 = (mLaw u1.1 nl b a L day, Z)))) : r1 = r2 ∧ Rel u2.1 ∧ u2.2 = Z := by
  have h0 := h
  obtain ⟨n, nv, nc, nt', nl', hd, ns, h1, h2, h3, h4, h5, h6', h7', h8, h9, h10⟩ := h
  have h6 : rTap σ nt := hnt
  have h7 : rLaw σ nl := hnl
  have n6 := h7.2.2.1
  have hT6 : (¬ 6 ≤ nI nl) ↔ (¬ nI nl = 6) := by
    have e1 : (6 : Int32) ≤ nI nl ↔ 6 ≤ nl := nI_leI (a := 6) (by decide) (by omega)
    have e2 : nI nl = 6 ↔ nl = 6 := nI_eq (b := 6) (by omega) (by decide)
    rw [e1, e2]
    omega
  rcases hx with ⟨g1, W, V, pl, wp, td, ft, hrd, hx⟩ | ⟨g1, g2, g3⟩
  · have hl6 : nl < 6 := by
      have := (not_congr (nI_eq (b := 6) (by omega) (by decide))).mp (hT6.mp g1.1)
      omega
    have key : ∀ τ, Ag d43 σ τ → hA τ 43 30 0 = hA σ 9 0 0 ∧ L00 τ = L00 σ := fun τ a => ⟨(a.A rfl 0).trans h6.2.2.2.symm, by unfold L00; rw [a.A rfl]⟩
    rcases hm with ⟨m1, _⟩ | ⟨_, b, a, ft2, L, hm⟩
    · exact absurd ⟨hT6.mp g1.1, g1.2⟩ m1
    · rcases hx with ⟨f1, f2, f3⟩ | ⟨f1, f2, f3⟩
      · subst f3
        have ak : Ag d43 σ (sI (kM σ (13 + nl) W V pl wp td ft) 9 1 0) := (kM_ag (fun k => by unfold d43; omega) (fun k q1 q2 => by unfold d43; omega)).sI (by unfold d43; omega)
        obtain ⟨k1, k2⟩ := key _ ak
        dsimp only at hm
        rw [k1, k2] at hm
        rcases hrd with ⟨r5, _⟩ | ⟨r5, _⟩
        · rcases hm with ⟨m2, m3, m4, m5⟩ | ⟨m2, _⟩
          · have e : ft = ft2 := by
              rw [r5] at m2
              cases m2
              rfl
            subst e
            subst m5
            refine ⟨by rw [f2, m4], ?_, rfl⟩
            have hT : rTap (sI (pM (sI (kM σ (13 + nl) W V pl wp td ft) 9 1 0) b a ft L) 43 31 0) 0 := by
              refine ⟨rfl, rfl, by decide, ?_⟩
              show hA (kM σ (13 + nl) W V pl wp td ft) 9 0 0 = hA (kM σ (13 + nl) W V pl wp td ft) 43 30 0
              rw [kM_A (by omega), kM_A (by omega)]
              exact h6.2.2.2
            have hW : rLaw (sI (pM (sI (kM σ (13 + nl) W V pl wp td ft) 9 1 0) b a ft L) 43 31 0) nl := by
              obtain ⟨e1, e2, e3, e4, e5⟩ := h7
              refine ⟨e1, e2, e3, ?_, fun ro hro => ?_⟩
              · show ∀ i, i < nl → hA (kM σ (13 + nl) W V pl wp td ft) 10 0 0 i = hA (kM σ (13 + nl) W V pl wp td ft) 43 27 0 i ∧ hA (kM σ (13 + nl) W V pl wp td ft) 10 1 0 i = hA (kM σ (13 + nl) W V pl wp td ft) 43 28 0 i
                rw [kM_A (by omega), kM_A (by omega), kM_A (by omega), kM_A (by omega)]
                exact e4
              · have ag : Ag (fun j _ => j = 13 + ro) σ (sI (pM (sI (kM σ (13 + nl) W V pl wp td ft) 9 1 0) b a ft L) 43 31 0) := (pM_ag ((kM_ag (fun k => by omega) (fun k q1 q2 => by omega)).sI (by omega)) (by omega) (fun k q1 q2 => by omega)).sI (by omega)
                have e29 : hA (sI (pM (sI (kM σ (13 + nl) W V pl wp td ft) 9 1 0) b a ft L) 43 31 0) 43 29 ro = hA σ 43 29 ro := by
                  show hA (pM (sI (kM σ (13 + nl) W V pl wp td ft) 9 1 0) b a ft L) 43 29 ro = _
                  rw [pM_29 (by omega)]
                  exact ak.A rfl ro
                have := e5 ro hro
                unfold lawE
                rw [e29, ag.A rfl]
                refine ⟨this.1, fun k q1 q2 => ?_, this.2.2⟩
                rw [ag.I rfl]
                exact this.2.1 k q1 q2
            exact ⟨n, nv, nc, 0, nl, hd, ns, h1.ag ((pM_ag ((kM_ag (fun k => by unfold dClk; omega) (fun k q1 q2 => by unfold dClk; omega)).sI (by unfold dClk; omega)) (by unfold dClk; omega) (fun k q1 q2 => by unfold dClk; omega)).sI (by unfold dClk; omega)), h2.ag ((pM_ag ((kM_ag (fun k => by unfold dTal; omega) (fun k q1 q2 => by unfold dTal; omega)).sI (by unfold dTal; omega)) (by unfold dTal; omega) (fun k q1 q2 => by unfold dTal; omega)).sI (by unfold dTal; omega)), h3.ag ((pM_ag ((kM_ag (fun k => by unfold dGds; omega) (fun k q1 q2 => by unfold dGds; omega)).sI (by unfold dGds; omega)) (by unfold dGds; omega) (fun k q1 q2 => by unfold dGds; omega)).sI (by unfold dGds; omega)), h4.ag ((pM_ag ((kM_ag (fun k => by unfold dCas; omega) (fun k q1 q2 => by unfold dCas; omega)).sI (by unfold dCas; omega)) (by unfold dCas; omega) (fun k q1 q2 => by unfold dCas; omega)).sI (by unfold dCas; omega)), h5.ag ((pM_ag ((kM_ag (fun k => by unfold dSui; omega) (fun k q1 q2 => by unfold dSui; omega)).sI (by unfold dSui; omega)) (by unfold dSui; omega) (fun k q1 q2 => by unfold dSui; omega)).sI (by unfold dSui; omega)), hT, hW, h8.ag ((pM_ag ((kM_ag (fun k => by unfold dSht; omega) (fun k q1 q2 => by unfold dSht; omega)).sI (by unfold dSht; omega)) (by unfold dSht; omega) (fun k q1 q2 => by unfold dSht; omega)).sI (by unfold dSht; omega)), h9.ag ((pM_ag ((kM_ag (fun k => by unfold dShp; omega) (fun k q1 q2 => by unfold dShp; omega)).sI (by unfold dShp; omega)) (by unfold dShp; omega) (fun k q1 q2 => by unfold dShp; omega)).sI (by unfold dShp; omega)), h10.ag ((pM_ag ((kM_ag (fun k => by unfold dJdg; omega) (fun k q1 q2 => by unfold dJdg; omega)).sI (by unfold dJdg; omega)) (by unfold dJdg; omega) (fun k q1 q2 => by unfold dJdg; omega)).sI (by unfold dJdg; omega))⟩
          · rw [r5] at m2
            cases m2
        · exact absurd r5 f1
      · subst f1
        subst f3
        have ak : Ag d43 σ (cLaw σ nl W V pl wp td day) := ((((kM_ag (fun k => by unfold d43; omega) (fun k q1 q2 => by unfold d43; omega)).sI (by unfold d43; omega)).sA (by unfold d43; omega)).sA (by unfold d43; omega)).sI (by unfold d43; omega)
        obtain ⟨k1, k2⟩ := key _ ak
        dsimp only at hm
        rw [k1, k2] at hm
        rcases hrd with ⟨_, r5⟩ | ⟨_, L', r5, r6⟩
        · exact absurd r5 (by decide)
        · rcases hm with ⟨m2, _⟩ | ⟨m2, m3, m4⟩
          · rw [r5] at m2
            cases m2
          · have e : L' = L := by
              rw [r5] at m2
              cases m2
              rfl
            subst e
            have hB : lawB L' := lwP_bd _ _ _ _ _ (lawB_0 σ) r5
            generalize hX : cLaw σ nl W V pl wp td day = X at *
            subst m4
            refine ⟨by rw [f2, m3], ?_, rfl⟩
            have hT : rTap (mLaw X nl b a L' day) 0 := by
              rw [← hX]
              refine ⟨rfl, rfl, by decide, ?_⟩
              show hA (kM σ (13 + nl) W V pl wp td 0) 9 0 0 = hA (kM σ (13 + nl) W V pl wp td 0) 43 30 0
              rw [kM_A (by omega), kM_A (by omega)]
              exact h6.2.2.2
            have hW : rLaw (mLaw X nl b a L' day) (nl + 1) := by
              obtain ⟨e1, e2, e3, e4, e5⟩ := h7
              have x10 : hA (mLaw X nl b a L' day) 10 0 0 = upd (hA σ 10 0 0) nl day ∧ hA (mLaw X nl b a L' day) 10 1 0 = upd (hA σ 10 1 0) nl (hI σ 0 9) := by
                rw [← hX]
                exact ⟨rfl, rfl⟩
              have x43 : hA (mLaw X nl b a L' day) 43 27 0 = upd (hA X 43 27 0) nl day ∧ hA (mLaw X nl b a L' day) 43 28 0 = upd (hA X 43 28 0) nl (hI X 43 1) := ⟨rfl, rfl⟩
              have aX : ∀ ro, ro < 6 → Ag (fun j _ => j = 13 + ro) X (mLaw X nl b a L' day) := fun ro hro => (((((pM_ag Ag.r (by omega) (fun k q1 q2 => by omega)).sI (by omega)).sA (by omega)).sA (by omega)).sA (by omega)).sI (by omega)
              refine ⟨by rw [← hX]; rfl, rfl, hl6, fun i hi => ?_, fun ro hro => ?_⟩
              · rw [x10.1, x10.2, x43.1, x43.2, ak.A (j := 43) rfl, ak.A (j := 43) rfl, ak.I (j := 43) rfl]
                by_cases e : i = nl
                · rw [e, pk_us, pk_us, pk_us, pk_us]
                  exact ⟨rfl, h1.1⟩
                · rw [upd_o e, upd_o e, upd_o e, upd_o e]
                  exact e4 i (by omega)
              · by_cases e : ro = nl
                · subst e
                  have y29 : ∀ i, i < 11 → hA (mLaw X ro b a L' day) 43 29 ro i = L' i := fun i hi => by
                    unfold mLaw
                    rw [hA_sI, hA_sA, if_neg (by omega), hA_sA, if_neg (by omega), hA_same]
                    exact pre_lt hi
                  have ag := aX ro (by omega)
                  have aK : Ag (fun j _ => j = 13 + ro) (kM σ (13 + ro) W V pl wp td 0) X := by
                    rw [← hX]
                    exact ((((Ag.r.sI (by omega)).sA (by omega)).sA (by omega)).sI (by omega))
                  unfold lawE
                  rw [ag.A rfl, aK.A rfl, kM_row]
                  refine ⟨fun i hi => by rw [y29 i (by omega)]; exact r6.1 i hi, fun k q1 q2 => ?_, ?_, ?_, ?_, ?_⟩
                  · rw [ag.I rfl, aK.I rfl, kM_I (by omega) q1 q2, y29 _ (by omega)]
                    exact (r6.2 (k + 4) (by omega) (by omega)).symm
                  · rw [y29 7 (by decide)]; exact hB.1
                  · rw [y29 8 (by decide)]; exact hB.2.1
                  · rw [y29 9 (by decide)]; exact hB.2.2.1
                  · rw [y29 10 (by decide)]; exact hB.2.2.2
                · have y29 : hA (mLaw X nl b a L' day) 43 29 ro = hA σ 43 29 ro := by
                    unfold mLaw
                    rw [hA_sI, hA_sA, if_neg (by omega), hA_sA, if_neg (by omega), hA_o e, hA_sI, pM_29 (by omega)]
                    exact ak.A rfl ro
                  have ag := aX ro (by omega)
                  have aK : Ag (fun j _ => j = 13 + ro) σ X := by
                    rw [← hX]
                    exact ((((kM_ag (fun k => by omega) (fun k q1 q2 => by omega)).sI (by omega)).sA (by omega)).sA (by omega)).sI (by omega)
                  have := e5 ro (by omega)
                  unfold lawE
                  rw [y29, ag.A rfl, aK.A rfl]
                  refine ⟨this.1, fun k q1 q2 => ?_, this.2.2⟩
                  rw [ag.I rfl, aK.I rfl]
                  exact this.2.1 k q1 q2
            rw [← hX] at hT hW ⊢
            exact ⟨n, nv, nc, 0, nl + 1, hd, ns, h1.ag ((((((pM_ag (((((kM_ag (fun k => by unfold dClk; omega) (fun k q1 q2 => by unfold dClk; omega)).sI (by unfold dClk; omega)).sA (by unfold dClk; omega)).sA (by unfold dClk; omega)).sI (by unfold dClk; omega)) (by unfold dClk; omega) (fun k q1 q2 => by unfold dClk; omega)).sI (by unfold dClk; omega)).sA (by unfold dClk; omega)).sA (by unfold dClk; omega)).sA (by unfold dClk; omega)).sI (by unfold dClk; omega)), h2.ag ((((((pM_ag (((((kM_ag (fun k => by unfold dTal; omega) (fun k q1 q2 => by unfold dTal; omega)).sI (by unfold dTal; omega)).sA (by unfold dTal; omega)).sA (by unfold dTal; omega)).sI (by unfold dTal; omega)) (by unfold dTal; omega) (fun k q1 q2 => by unfold dTal; omega)).sI (by unfold dTal; omega)).sA (by unfold dTal; omega)).sA (by unfold dTal; omega)).sA (by unfold dTal; omega)).sI (by unfold dTal; omega)), h3.ag ((((((pM_ag (((((kM_ag (fun k => by unfold dGds; omega) (fun k q1 q2 => by unfold dGds; omega)).sI (by unfold dGds; omega)).sA (by unfold dGds; omega)).sA (by unfold dGds; omega)).sI (by unfold dGds; omega)) (by unfold dGds; omega) (fun k q1 q2 => by unfold dGds; omega)).sI (by unfold dGds; omega)).sA (by unfold dGds; omega)).sA (by unfold dGds; omega)).sA (by unfold dGds; omega)).sI (by unfold dGds; omega)), h4.ag ((((((pM_ag (((((kM_ag (fun k => by unfold dCas; omega) (fun k q1 q2 => by unfold dCas; omega)).sI (by unfold dCas; omega)).sA (by unfold dCas; omega)).sA (by unfold dCas; omega)).sI (by unfold dCas; omega)) (by unfold dCas; omega) (fun k q1 q2 => by unfold dCas; omega)).sI (by unfold dCas; omega)).sA (by unfold dCas; omega)).sA (by unfold dCas; omega)).sA (by unfold dCas; omega)).sI (by unfold dCas; omega)), h5.ag ((((((pM_ag (((((kM_ag (fun k => by unfold dSui; omega) (fun k q1 q2 => by unfold dSui; omega)).sI (by unfold dSui; omega)).sA (by unfold dSui; omega)).sA (by unfold dSui; omega)).sI (by unfold dSui; omega)) (by unfold dSui; omega) (fun k q1 q2 => by unfold dSui; omega)).sI (by unfold dSui; omega)).sA (by unfold dSui; omega)).sA (by unfold dSui; omega)).sA (by unfold dSui; omega)).sI (by unfold dSui; omega)), hT, hW, h8.ag ((((((pM_ag (((((kM_ag (fun k => by unfold dSht; omega) (fun k q1 q2 => by unfold dSht; omega)).sI (by unfold dSht; omega)).sA (by unfold dSht; omega)).sA (by unfold dSht; omega)).sI (by unfold dSht; omega)) (by unfold dSht; omega) (fun k q1 q2 => by unfold dSht; omega)).sI (by unfold dSht; omega)).sA (by unfold dSht; omega)).sA (by unfold dSht; omega)).sA (by unfold dSht; omega)).sI (by unfold dSht; omega)), h9.ag ((((((pM_ag (((((kM_ag (fun k => by unfold dShp; omega) (fun k q1 q2 => by unfold dShp; omega)).sI (by unfold dShp; omega)).sA (by unfold dShp; omega)).sA (by unfold dShp; omega)).sI (by unfold dShp; omega)) (by unfold dShp; omega) (fun k q1 q2 => by unfold dShp; omega)).sI (by unfold dShp; omega)).sA (by unfold dShp; omega)).sA (by unfold dShp; omega)).sA (by unfold dShp; omega)).sI (by unfold dShp; omega)), h10.ag ((((((pM_ag (((((kM_ag (fun k => by unfold dJdg; omega) (fun k q1 q2 => by unfold dJdg; omega)).sI (by unfold dJdg; omega)).sA (by unfold dJdg; omega)).sA (by unfold dJdg; omega)).sI (by unfold dJdg; omega)) (by unfold dJdg; omega) (fun k q1 q2 => by unfold dJdg; omega)).sI (by unfold dJdg; omega)).sA (by unfold dJdg; omega)).sA (by unfold dJdg; omega)).sA (by unfold dJdg; omega)).sI (by unfold dJdg; omega))⟩
  · subst g3
    rcases hm with ⟨_, m2, m3⟩ | ⟨m1, _⟩
    · subst m3
      exact ⟨by rw [g2, m2], h0, rfl⟩
    · exact absurd ⟨hT6.mpr m1.1, m1.2⟩ g1
