/-! Judge: class and model give alike. -/
theorem subL_cg {g : Int64} {f f' : Nat → Int64} : ∀ k, (∀ i, i < k → f i = f' i) → subL g f k = subL g f' k
  | 0, _ => rfl
  | k + 1, h => by
    show subL g f k - f k = subL g f' k - f' k
    rw [subL_cg k (fun i hi => h i (by omega)), h k (by omega)]
theorem bsr_cg {got : Nat → Int32} {r r' : Nat → Int64} : ∀ k, k < 2 ^ 31 → (∀ j, j < k → r j = r' j) → bsr got r k = bsr got r' k
  | 0, _, _ => rfl
  | k + 1, hk, h => by
    unfold bsr
    have ih := bsr_cg (got := got) k (by omega) (fun j hj => h j (by omega))
    rw [ih, h k (by omega)]
    rcases bsr_in got r' k with e | ⟨j, e1, e2⟩
    · rw [e]
      have z : (-1 : Int32) = -1 := rfl
      by_cases q : got k = 0
      · rw [if_pos ⟨q, Or.inl z⟩, if_pos ⟨q, Or.inl z⟩]
      · rw [if_neg (fun x => q x.1), if_neg (fun x => q x.1)]
    · rw [e2, nI_clamp (by omega), h j (by omega)]
theorem pkS_cg {m : Nat} {r r' x x' : Nat → Int64} (hm : m < 2 ^ 31) (hr : ∀ j, j < m → r j = r' j) (hx : ∀ j, j < m → x j = x' j) : ∀ v, (pkS m r x v).1 = (pkS m r' x' v).1 ∧ ∀ j, j < m → (pkS m r x v).2 j = (pkS m r' x' v).2 j
  | 0 => ⟨rfl, hx⟩
  | v + 1 => by
    obtain ⟨h1, h2⟩ := pkS_cg hm hr hx v
    unfold pkS
    rw [h1, bsr_cg m hm hr]
    refine ⟨rfl, fun j hj => ?_⟩
    dsimp only
    generalize (bsr (pkS m r' x' v).1 r' m).toNatClampNeg = b
    by_cases e : j = b
    · rw [← e, pk_uLs, pk_uLs, h2 j hj]
    · rw [pk_uLn e, pk_uLn e, h2 j hj]
theorem PI.cg2 {ns : Nat} {hr wt cf hr' wt' cf' : Nat → Int64} {af la : Int32} {cl ow ma cl' ow' ma' : Nat → Int32} {hd hd' : Nat → Nat} {w w' : Nat → Nat → Int32} {S : Nat → Nat → Int64} {B : Int64} {HT : Nat → Nat → Int64} {HN : Nat → Int32} (h : PI ns hr wt cf af la cl ow ma hd w S B HT HN ns) (h1 : ∀ i, i < ns → hr i = hr' i) (h2 : ∀ i, i < ns → wt i = wt' i) (h3 : ∀ i, i < ns → cf i = cf' i) (h4 : ∀ i, i < ns → cl i = cl' i) (h5 : ∀ i, i < ns → ow i = ow' i) (h6 : ∀ i, i < ns → ma i = ma' i) (h7 : ∀ i, i < ns → hd i = hd' i) (h8 : ∀ i, i < ns → ∀ y, y < hd i → w i y = w' i y) : PI ns hr' wt' cf' af la cl' ow' ma' hd' w' S B HT HN ns := by
  obtain ⟨a, b, c, d, e, f⟩ := h
  refine ⟨fun i hi => ?_, fun i hi hi2 => absurd hi2 (by omega), fun i hi => ?_, ?_, fun i hi => ?_, fun i hi => ?_⟩
  · rw [← h1 i hi, ← h2 i hi]; exact a i hi
  · rw [← h3 i hi, ← h4 i hi, ← h5 i hi, ← h6 i hi]; exact c i hi
  · rw [d]
    exact sumL_congr ns (fun i hi => by rw [h3 i hi, h4 i hi])
  · rw [← h7 i hi]; exact e i hi
  · obtain ⟨V, f1, f2, f3⟩ := f i hi
    rw [← h3 i hi, ← h4 i hi, ← h5 i hi, ← h6 i hi, ← h7 i hi, ← sumI_cg (hd i) (h8 i hi)]
    have k : ∀ y, y < hd i → hcF (cr9 (cf i) (cl i) af la (ow i) (ma i)) (w' i) (sumI (w i) (hd i)) y = hcF (cr9 (cf i) (cl i) af la (ow i) (ma i)) (w i) (sumI (w i) (hd i)) y := fun y hy => by
      unfold hcF
      rw [h8 i hi y hy]
    refine ⟨V, ?_, f2, fun y hy => ?_⟩
    · rw [subL_cg (hd i) k]; exact f1
    · rw [k y hy]; exact f3 y hy
section AGJ
variable {D : Nat → Nat → Prop} {σ τ : hMem}
theorem Ag.jM {P : Nat → Nat → Int64} {Q : Nat → Nat → Int32} {HT : Nat → Nat → Int64} (h : Ag D σ τ) (hd : ∀ j k, 35 ≤ j → j < 43 → ¬ D j k) : Ag D σ (jM τ P Q HT) := fun a b q => by
  have n1 : ¬ (35 ≤ a ∧ a < 43) := fun z => hd a b z.1 z.2 q
  obtain ⟨h1, h2, h3⟩ := h a b q
  refine ⟨?_, ?_, fun i => ⟨(h3 i).1, ?_⟩⟩
  · show (if 35 ≤ a ∧ a < 43 then Q (a - 35) b else hI τ a b) = _
    rw [if_neg n1]; exact h1
  · show (if 35 ≤ a ∧ a < 43 then P (a - 35) b else hL τ a b) = _
    rw [if_neg n1]; exact h2
  · show (if (35 ≤ a ∧ a < 43) ∧ b = 0 ∧ i = 0 then HT (a - 35) else hB τ a b i) = _
    rw [if_neg (fun z => n1 z.1)]; exact (h3 i).2
theorem Ag.cM {ns : Nat} {W G K : Int64} {P : Nat → Nat → Int64} {Q : Nat → Nat → Int32} {HT : Nat → Nat → Int64} (h : Ag D σ τ) (hd : ∀ j k, 35 ≤ j → j < 43 → ¬ D j k) (h9 : ¬ D 12 9) (h10 : ¬ D 12 10) (h7 : ¬ D 12 7) (h8 : ¬ D 12 8) : Ag D σ (cM τ ns W G K P Q HT) := Ag.jM ((((h.sI h9).sL h10).sL h7).sL h8) hd
theorem Ag.cJ2 {ro c : Nat} {f a : Nat → Int32} {rt : Int32} {al : Int64} (h : Ag D σ τ) (hd : ∀ k, ¬ D 12 k) : Ag D σ (cJ2 τ ro c f a rt al) := ((((((h.sI (hd 3)).sA (hd 0)).sI (hd 4)).sA (hd 1)).sI (hd 5)).sL (hd 6))
theorem Stq.ag {Y : hMem} {n : Nat} (hs : Stq τ n Y) (h : Ag D σ τ) (h8 : ¬ D 1 8) (h9 : ¬ D 1 9) (h10 : ¬ D 1 10) (h2 : ¬ D 2 0) : Ag D σ Y := by
  rcases hs.fm with e | ⟨g, f, c, _, _, e⟩
  · rw [e]; exact h
  · rw [e]
    exact (((h.sA h2).sA h8).sI h9).sI h10
theorem Ag.jL {ro c : Nat} {f : Nat → Int32} {r : Int32} {a : Int64} (h : Ag D σ τ) (hd : ∀ k, 47 ≤ k → k ≤ 58 → ¬ D 43 k) : Ag D σ (jL τ ro c f r a) := ((((((h.sI (hd 47 (by decide) (by decide))).sI (hd 48 (by decide) (by decide))).sI (hd 49 (by decide) (by decide))).sA (hd 52 (by decide) (by decide))).sI (hd 50 (by decide) (by decide))).sL (hd 53 (by decide) (by decide)))
theorem Ag.sIG {IN : Nat → Int32} {F : Nat → Nat → Int64} (h : Ag D σ τ) (h10 : ¬ D 43 10) (h9 : ¬ D 43 9) : Ag D σ (sIG τ IN F) := Ag.sT (b := 9) (h.sA h10) h9
theorem Ag.aM {S : Nat → Nat → Int64} {G B : Int64} {HT : Nat → Nat → Int64} {HN : Nat → Int32} (h : Ag D σ τ) (hd : ∀ k, 47 ≤ k → k ≤ 58 → ¬ D 43 k) : Ag D σ (aM τ S G B HT HN) := (Ag.sT (Ag.sT ((h.sL (hd 54 (by decide) (by decide))).sL (hd 55 (by decide) (by decide))) (hd 56 (by decide) (by decide))) (hd 57 (by decide) (by decide))).sA (hd 58 (by decide) (by decide))
end AGJ
theorem rTal.stq {σ Y : hMem} {n : Nat} (h : rTal σ n) (hs : Stq σ n Y) : rTal Y n := by
  rcases hs.fm with e | ⟨g, f, c, c1, c2, e⟩
  · rw [e]; exact h
  · obtain ⟨e1, e2, e3, e4, e5, e6, e7, e8, e9, e10, e11, e12, e13, e14, e15, e16, e17⟩ := h
    subst e
    exact ⟨e1, e2, e3, e4, e5, e6, e7, e8, e9, e10, e11, e12, fun k => c2.2.2.2 k, e14, e15, fun _ => ⟨c, c1, rfl, c2⟩, e17⟩
theorem rTal.sIG {σ : hMem} {n : Nat} {IN : Nat → Int32} {F : Nat → Nat → Int64} (h : rTal σ n) (hin : ∀ k, IN k = 0 ∨ IN k = 1) : rTal (sIG σ IN F) n := by
  obtain ⟨e1, e2, e3, e4, e5, e6, e7, e8, e9, e10, e11, e12, e13, e14, e15, e16, e17⟩ := h
  exact ⟨e1, e2, e3, e4, e5, e6, e7, e8, e9, e10, e11, e12, e13, e14, hin, e16, e17⟩
theorem F_bd {τ : hMem} {n : Nat} {IN : Nat → Int32} {F : Nat → Nat → Int64} (h : rTal τ n) (hm : BelW τ n IN F) : ∀ a b, a < 16 → b < 16 → F a b = 1099511627776 ∨ (-150000 ≤ (F a b).toInt ∧ (F a b).toInt ≤ 150000) := by
  have h2 := hm.2.2.1
  intro a b ha hb
  by_cases e : F a b = 1099511627776
  · exact Or.inl e
  · have hx : mX F a b = some (F a b).toInt := eX_some.mpr ⟨e, rfl⟩
    exact Or.inr ⟨pt_dn (mEP_in' h.sw _) h2 (mEP_bd h.sw _) (mEP_sym τ n _) ha hb hx, pt_up (mEP_in' h.sw _) h2 (mEP_bd h.sw _) ha hb hx⟩
theorem cBel.ag {σ τ : hMem} {n : Nat} {g f : Nat → Int32} {c : Nat} (h : cBel τ n g f c) (a : Ag (fun j k => j = 1 ∧ k ≤ 5) σ τ) : cBel σ n g f c := by
  have e := rw_rd (a.A ⟨rfl, by decide⟩ 0) (a.A ⟨rfl, by decide⟩ 0) (a.A ⟨rfl, by decide⟩ 0) (a.A ⟨rfl, by decide⟩ 0) (a.A ⟨rfl, by decide⟩ 0) (a.A ⟨rfl, by decide⟩ 0)
  have eP := cEP_rd e.2 n
  unfold cBel at *
  rw [e.1, eP] at h
  exact h
theorem Rel.jd9 {σ Y τ : hMem} {n nv nc nt nl hd ns ro c V V' : Nat} {f f' a : Nat → Int32} {rt : Int32} {al : Int64} {P P2 : Nat → Nat → Int64} {Q2 : Nat → Nat → Int32} {T2 : Nat → Nat → Int64} {K2 B : Int64} {IN : Nat → Int32} {F S HT : Nat → Nat → Int64} {HN : Nat → Int32} (h1 : rClk σ) (h2 : rTal σ n) (h3 : rGds σ nv) (h4 : rCas σ nc) (h5 : rSui σ) (h6 : rTap σ nt) (h7 : rLaw σ nl) (h8 : rSht σ hd) (h9 : rShp σ ns) (hro : ro < nl) (hc : c ≤ 40) (hf : ∀ i, i < c → f i = f' i) (hY : Stq (cJ2 σ ro c f a rt al) n Y) (hP : ∀ i, i < ns → wOk (cJ2 σ ro c f a rt al) n P i) (hV : subL (gvF (hL Y 12 6) (hI Y 12 5) (sumL (fun i => P i 2) ns)) (coF (gvF (hL Y 12 6) (hI Y 12 5) (sumL (fun i => P i 2) ns)) (fun i => P i 2) (sumL (fun i => P i 2) ns)) ns = lN V) (hVn : V ≤ ns) (hPI : PI ns (fun i => P i 1) (fun i => P i 2) (pkS ns (rsF (gvF (hL Y 12 6) (hI Y 12 5) (sumL (fun i => P i 2) ns)) (fun i => P i 2) (sumL (fun i => P i 2) ns)) (coF (gvF (hL Y 12 6) (hI Y 12 5) (sumL (fun i => P i 2) ns)) (fun i => P i 2) (sumL (fun i => P i 2) ns)) V).2 (hI Y (13 + ro) 6) (hI Y (13 + ro) 5) (fun i => hI Y (19 + i) 4) (fun i => hI Y (19 + i) 5) (fun i => hI Y (19 + i) 6) (hdC Y) (fun i => hA Y (27 + i) 0 0) (PS P2) K2 T2 (fun i => Q2 i 9) ns) (hτ : τ = cM Y ns (sumL (fun i => P i 2) ns) (gvF (hL Y 12 6) (hI Y 12 5) (sumL (fun i => P i 2) ns)) K2 P2 Q2 T2) (hBl : BelW τ n IN F) (hV' : subL (gvF al rt (sumL (wtF F (hA τ 43 41 0) (hA τ 43 40 0) (hA τ 43 39 0)) ns)) (coF (gvF al rt (sumL (wtF F (hA τ 43 41 0) (hA τ 43 40 0) (hA τ 43 39 0)) ns)) (wtF F (hA τ 43 41 0) (hA τ 43 40 0) (hA τ 43 39 0)) (sumL (wtF F (hA τ 43 41 0) (hA τ 43 40 0) (hA τ 43 39 0)) ns)) ns = lN V') (hVn' : V' ≤ ns) (hPI' : PI ns (hrF F (hA τ 43 41 0) (hA τ 43 40 0)) (wtF F (hA τ 43 41 0) (hA τ 43 40 0) (hA τ 43 39 0)) (pkS ns (rsF (gvF al rt (sumL (wtF F (hA τ 43 41 0) (hA τ 43 40 0) (hA τ 43 39 0)) ns)) (wtF F (hA τ 43 41 0) (hA τ 43 40 0) (hA τ 43 39 0)) (sumL (wtF F (hA τ 43 41 0) (hA τ 43 40 0) (hA τ 43 39 0)) ns)) (coF (gvF al rt (sumL (wtF F (hA τ 43 41 0) (hA τ 43 40 0) (hA τ 43 39 0)) ns)) (wtF F (hA τ 43 41 0) (hA τ 43 40 0) (hA τ 43 39 0)) (sumL (wtF F (hA τ 43 41 0) (hA τ 43 40 0) (hA τ 43 39 0)) ns)) V').2 (hA τ 43 29 ro 10) (hA τ 43 29 ro 9) (hA τ 43 42 0) (hA τ 43 43 0) (hA τ 43 44 0) (hdN τ) (hA τ 43 46) S B HT HN ns) : Rel (aM (sI (sIG (jL τ ro c f' rt al) IN F) 43 51 (nI ns)) S (gvF al rt (sumL (wtF F (hA τ 43 41 0) (hA τ 43 40 0) (hA τ 43 39 0)) ns)) B HT HN) := by
  have ns8 : ns ≤ 8 := h9.2.2.1
  have nl6 : nl ≤ 6 := h7.2.2.1
  generalize hσ2 : cJ2 σ ro c f a rt al = σ2 at *
  have a2 : ∀ D : Nat → Nat → Prop, (∀ k, ¬ D 12 k) → Ag D σ σ2 := fun D hd => by rw [← hσ2]; exact Ag.r.cJ2 hd
  have aY2 : ∀ D : Nat → Nat → Prop, (∀ k, 8 ≤ k → k ≤ 10 → ¬ D 1 k) → ¬ D 2 0 → Ag D σ2 Y := fun D d1 d2 => hY.ag Ag.r (d1 8 (by decide) (by decide)) (d1 9 (by decide) (by decide)) (d1 10 (by decide) (by decide)) d2
  have aYt : ∀ D : Nat → Nat → Prop, (∀ k, ¬ D 12 k) → (∀ j k, 35 ≤ j → j < 43 → ¬ D j k) → Ag D Y τ := fun D d1 d2 => by rw [hτ]; exact Ag.r.cM d2 (d1 9) (d1 10) (d1 7) (d1 8)
  have aT : ∀ D : Nat → Nat → Prop, (∀ k, 8 ≤ k → k ≤ 10 → ¬ D 1 k) → ¬ D 2 0 → (∀ k, ¬ D 12 k) → (∀ j k, 35 ≤ j → j < 43 → ¬ D j k) → Ag D σ τ := fun D d1 d2 d3 d4 => ((a2 D d3).tr (aY2 D d1 d2)).tr (aYt D d3 d4)
  have e6 : hL Y 12 6 = al := by rw [hY.L, ← hσ2]; rfl
  have e5 : hI Y 12 5 = rt := by rw [hY.I (by decide), ← hσ2]; rfl
  have hT2 : rTal σ2 n := h2.ag (a2 _ (fun k => by unfold dTal; omega))
  have hTY : rTal Y n := hT2.stq hY
  have hTτ : rTal τ n := hTY.ag (aYt _ (fun k => by unfold dTal; omega) (fun j k q1 q2 => by unfold dTal; omega))
  have hS9 : rShp τ ns := h9.ag (aT _ (fun k q1 q2 => by unfold dShp; omega) (by unfold dShp; omega) (fun k => by unfold dShp; omega) (fun j k q1 q2 => by unfold dShp; omega))
  have hcb : cBel σ2 n IN (fOf F) (cnz IN n) := (cBel_of hTτ hBl).ag ((aY2 (fun j k => j = 1 ∧ k ≤ 5) (fun k q1 q2 => by omega) (by omega)).tr (aYt (fun j k => j = 1 ∧ k ≤ 5) (fun k => by omega) (fun j k q1 q2 => by omega)))
  have i2 : ∀ i k, i < ns → hI τ (19 + i) k = hI σ2 (19 + i) k := fun i k hi => ((aY2 (fun j k => j = 19 + i) (fun k q1 q2 => by omega) (by omega)).tr (aYt (fun j k => j = 19 + i) (fun k => by omega) (fun j k q1 q2 => by omega))).I rfl
  have iY : ∀ i k, i < ns → hI τ (19 + i) k = hI Y (19 + i) k := fun i k hi => (aYt (fun j k => j = 19 + i) (fun k => by omega) (fun j k q1 q2 => by omega)).I rfl
  have bd := F_bd hTτ hBl
  have hq1 : ∀ i, i < ns → P i 1 = hrF F (hA τ 43 41 0) (hA τ 43 40 0) i := fun i hi => by
    obtain ⟨_, _, w3⟩ := hP i hi
    rw [w3 _ _ _ hcb]
    obtain ⟨_, c2, c3, _⟩ := hS9.2.2.2.1 i hi
    obtain ⟨_, s2, s3, _⟩ := hS9.2.2.2.2 i hi
    have hl : lfN σ2 i = lfN τ i := by unfold lfN; rw [i2 i 3 hi]
    have hk : caN σ2 i = caN τ i := by unfold caN; rw [i2 i 2 hi]
    rw [hl, hk]
    exact hr_eq (fOf_X bd c3.2 c2.2) (bd _ _ c3.2 c2.2) (by rw [s3]; rfl) (by rw [s2]; rfl)
  have hq2 : ∀ i, i < ns → P i 2 = wtF F (hA τ 43 41 0) (hA τ 43 40 0) (hA τ 43 39 0) i := fun i hi => by
    obtain ⟨_, w2, _⟩ := hP i hi
    unfold wtF
    rw [w2, hq1 i hi, (hS9.2.2.2.2 i hi).1, i2 i 1 hi]
  rw [e6, e5, sumL_congr ns hq2] at hV hPI hτ
  generalize hWT : wtF F (hA τ 43 41 0) (hA τ 43 40 0) (hA τ 43 39 0) = WT at *
  generalize hHR : hrF F (hA τ 43 41 0) (hA τ 43 40 0) = HR at *
  generalize hGG : gvF al rt (sumL WT ns) = GG at *
  have hco : ∀ i, i < ns → coF GG (fun i => P i 2) (sumL WT ns) i = coF GG WT (sumL WT ns) i := fun i hi => by
    show (if sumL WT ns = 0 then 0 else GG * P i 2 / sumL WT ns) = _
    rw [hq2 i hi]
    rfl
  have hrs : ∀ i, i < ns → rsF GG (fun i => P i 2) (sumL WT ns) i = rsF GG WT (sumL WT ns) i := fun i hi => by
    show GG * P i 2 - GG * P i 2 / sumL WT ns * sumL WT ns = _
    rw [hq2 i hi]
    rfl
  have eV : V = V' := by
    rw [subL_cg ns hco] at hV
    exact (pk_lEQ (by omega) (by omega)).mp (hV.symm.trans hV')
  subst eV
  have hle : hI Y (13 + ro) 6 = hA τ 43 29 ro 10 ∧ hI Y (13 + ro) 5 = hA τ 43 29 ro 9 := by
    have h7' : rLaw τ nl := h7.ag (aT _ (fun k q1 q2 => by unfold dLaw; omega) (by unfold dLaw; omega) (fun k => by unfold dLaw; omega) (fun j k q1 q2 => by unfold dLaw; omega))
    have l := (h7'.2.2.2.2 ro hro).2.1
    have e : ∀ k, hI τ (13 + ro) k = hI Y (13 + ro) k := fun k => (aYt (fun j k => j = 13 + ro) (fun k => by omega) (fun j k q1 q2 => by omega)).I rfl
    rw [← e, ← e]
    exact ⟨l 6 (by decide) (by decide), l 5 (by decide) (by decide)⟩
  rw [hle.1, hle.2] at hPI
  have i27 : ∀ i, i < ns → hI τ (27 + i) 1 = hI Y (27 + i) 1 ∧ hA τ (27 + i) 0 0 = hA Y (27 + i) 0 0 := fun i hi => by
    have q := aYt (fun j k => j = 27 + i) (fun k => by omega) (fun j k q1 q2 => by omega)
    exact ⟨q.I rfl, q.A rfl 0⟩
  have hhd : ∀ i, i < ns → hdC Y i = hdN τ i ∧ hdC Y i = hdC τ i := fun i hi => by
    unfold hdC hdN
    rw [(hS9.2.2.2.2 i hi).2.2.2.2.2.2.1, (i27 i hi).1]
    exact ⟨rfl, rfl⟩
  have hPI2 := PI.cg2 (hr' := HR) (wt' := WT) (cf' := (pkS ns (rsF GG WT (sumL WT ns)) (coF GG WT (sumL WT ns)) V).2) (cl' := hA τ 43 42 0) (ow' := hA τ 43 43 0) (ma' := hA τ 43 44 0) (hd' := hdN τ) (w' := hA τ 43 46) hPI hq1 hq2 (pkS_cg (by omega) hrs hco V).2
    (fun i hi => by show hI Y (19 + i) 4 = _; rw [← iY i 4 hi]; exact (hS9.2.2.2.2 i hi).2.2.2.1.symm)
    (fun i hi => by show hI Y (19 + i) 5 = _; rw [← iY i 5 hi]; exact (hS9.2.2.2.2 i hi).2.2.2.2.1.symm)
    (fun i hi => by show hI Y (19 + i) 6 = _; rw [← iY i 6 hi]; exact (hS9.2.2.2.2 i hi).2.2.2.2.2.1.symm)
    (fun i hi => (hhd i hi).1)
    (fun i hi y hy => by show hA Y (27 + i) 0 0 y = _; rw [← (i27 i hi).2]; exact ((hS9.2.2.2.2 i hi).2.2.2.2.2.2.2 y (by rw [← (hhd i hi).2]; exact hy)).symm)
  obtain ⟨uB, uS⟩ := PI.uniq (fun i hi => by rw [← (hhd i hi).1, (hhd i hi).2]; exact (hS9.2.2.2.1.hd hi).2.2.1) hPI2 hPI'
  generalize hμ : aM (sI (sIG (jL τ ro c f' rt al) IN F) 43 51 (nI ns)) S GG B HT HN = μ
  have aM9 : ∀ D : Nat → Nat → Prop, (∀ k, 47 ≤ k → k ≤ 58 → ¬ D 43 k) → ¬ D 43 9 → ¬ D 43 10 → Ag D τ μ := fun D d1 d2 d3 => by rw [← hμ]; exact Ag.aM (((Ag.r.jL d1).sIG d3 d2).sI (d1 51 (by decide) (by decide))) d1
  have hTμ : rTal μ n := by
    rw [← hμ]
    exact rTal.ag (rTal.sIG (F := F) (hTτ.ag (Ag.r.jL (ro := ro) (c := c) (f := f') (r := rt) (a := al) (fun k q1 q2 => by unfold dTal; omega))) hBl.2.1) (Ag.aM (Ag.r.sI (by unfold dTal; omega)) (fun k q1 q2 => by unfold dTal; omega))
  have hJ : rJdg μ := by
    have t3 : hI τ 12 3 = nI ro := by rw [hτ]; show hI Y 12 3 = _; rw [hY.I (by decide), ← hσ2]; rfl
    have t4 : hI τ 12 4 = nI c := by rw [hτ]; show hI Y 12 4 = _; rw [hY.I (by decide), ← hσ2]; rfl
    have t5 : hI τ 12 5 = rt := by rw [hτ]; exact e5
    have t6 : hL τ 12 6 = al := by rw [hτ]; exact e6
    have t7 : hL τ 12 7 = GG := by rw [hτ]; rfl
    have t8 : hL τ 12 8 = K2 := by rw [hτ]; rfl
    have t9 : hI τ 12 9 = nI ns := by rw [hτ]; rfl
    have t0 : hA τ 12 0 0 = f := by
      have q : hA Y 12 0 0 = hA σ2 12 0 0 := (aY2 (fun j k => j = 12) (fun k q1 q2 => by omega) (by omega)).A rfl 0
      rw [hτ]; show hA Y 12 0 0 = _; rw [q, ← hσ2]; rfl
    have g12 := aM9 (fun j k => j = 12) (fun k q1 q2 => by omega) (by omega) (by omega)
    refine ⟨c, ns, hc, ns8, (g12.I rfl).trans t4, by rw [← hμ]; rfl, (g12.I rfl).trans t9, by rw [← hμ]; rfl, Or.inr ⟨?_, ⟨ro, by omega, (g12.I rfl).trans t3⟩, ?_, ?_, ?_, ?_, ?_, ?_, ?_⟩⟩
    · rw [← hμ]; exact fun q => absurd (show (1 : Int32) = 0 from q) (by decide)
    · rw [g12.I rfl, t3, ← hμ]; rfl
    · rw [g12.I rfl, t5, ← hμ]; rfl
    · rw [g12.L rfl, t6, ← hμ]; rfl
    · rw [g12.L rfl, t7, ← hμ]; rfl
    · rw [g12.L rfl, t8, uB, ← hμ]; rfl
    · intro i hi
      rw [g12.A rfl, t0, hf i hi, ← hμ]; rfl
    · intro i hi
      have g35 := aM9 (fun j k => j = 35 + i) (fun k q1 q2 => by omega) (by omega) (by omega)
      obtain ⟨u1, u2, u3, u4⟩ := uS i hi
      have v1 : ∀ w, hL τ (35 + i) w = P2 i w := fun w => by rw [hτ]; exact cM_L (by omega)
      have v2 : hI τ (35 + i) 9 = Q2 i 9 := by rw [hτ]; exact cM_I (by omega)
      have v3 : hB τ (35 + i) 0 0 = T2 i := by rw [hτ]; exact cM_B (by omega)
      have hd60 : hdN τ i ≤ 60 := by rw [← (hhd i hi).1, (hhd i hi).2]; exact (hS9.2.2.2.1.hd hi).2.2.1
      refine ⟨fun w hw => ?_, ?_, hdN τ i, hd60, ?_, fun y hy => ?_⟩
      · rw [g35.L rfl, v1, ← hμ]
        exact (u1 w hw).symm
      · rw [g35.I rfl, v2, ← hμ]
        exact u2.symm
      · rw [g35.I rfl, v2]
        exact u3
      · rw [g35.B rfl, v3, ← hμ]
        exact (u4 y hy).symm
  exact ⟨n, nv, nc, nt, nl, hd, ns,
    h1.ag ((aT _ (fun k q1 q2 => by unfold dClk; omega) (by unfold dClk; omega) (fun k => by unfold dClk; omega) (fun j k q1 q2 => by unfold dClk; omega)).tr (aM9 _ (fun k q1 q2 => by unfold dClk; omega) (by unfold dClk; omega) (by unfold dClk; omega))),
    hTμ,
    h3.ag ((aT _ (fun k q1 q2 => by unfold dGds; omega) (by unfold dGds; omega) (fun k => by unfold dGds; omega) (fun j k q1 q2 => by unfold dGds; omega)).tr (aM9 _ (fun k q1 q2 => by unfold dGds; omega) (by unfold dGds; omega) (by unfold dGds; omega))),
    h4.ag ((aT _ (fun k q1 q2 => by unfold dCas; omega) (by unfold dCas; omega) (fun k => by unfold dCas; omega) (fun j k q1 q2 => by unfold dCas; omega)).tr (aM9 _ (fun k q1 q2 => by unfold dCas; omega) (by unfold dCas; omega) (by unfold dCas; omega))),
    h5.ag ((aT _ (fun k q1 q2 => by unfold dSui; omega) (by unfold dSui; omega) (fun k => by unfold dSui; omega) (fun j k q1 q2 => by unfold dSui; omega)).tr (aM9 _ (fun k q1 q2 => by unfold dSui; omega) (by unfold dSui; omega) (by unfold dSui; omega))),
    h6.ag ((aT _ (fun k q1 q2 => by unfold dTap; omega) (by unfold dTap; omega) (fun k => by unfold dTap; omega) (fun j k q1 q2 => by unfold dTap; omega)).tr (aM9 _ (fun k q1 q2 => by unfold dTap; omega) (by unfold dTap; omega) (by unfold dTap; omega))),
    h7.ag ((aT _ (fun k q1 q2 => by unfold dLaw; omega) (by unfold dLaw; omega) (fun k => by unfold dLaw; omega) (fun j k q1 q2 => by unfold dLaw; omega)).tr (aM9 _ (fun k q1 q2 => by unfold dLaw; omega) (by unfold dLaw; omega) (by unfold dLaw; omega))),
    h8.ag ((aT _ (fun k q1 q2 => by unfold dSht; omega) (by unfold dSht; omega) (fun k => by unfold dSht; omega) (fun j k q1 q2 => by unfold dSht; omega)).tr (aM9 _ (fun k q1 q2 => by unfold dSht; omega) (by unfold dSht; omega) (by unfold dSht; omega))),
    hS9.ag (aM9 _ (fun k q1 q2 => by unfold dShp; omega) (by unfold dShp; omega) (by unfold dShp; omega)), hJ⟩
