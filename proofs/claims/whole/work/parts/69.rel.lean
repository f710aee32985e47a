/-! Court and model in one memory: what holds of both between two calls. -/
/-- τ is as σ at the slots of D -/
def Ag (D : Nat → Nat → Prop) (σ τ : hMem) : Prop := ∀ j k, D j k → hI τ j k = hI σ j k ∧ hL τ j k = hL σ j k ∧ ∀ i, hA τ j k i = hA σ j k i ∧ hB τ j k i = hB σ j k i
section AG
variable {D : Nat → Nat → Prop} {σ τ : hMem} {j k : Nat}
theorem Ag.r : Ag D σ σ := fun _ _ _ => ⟨rfl, rfl, fun _ => ⟨rfl, rfl⟩⟩
theorem Ag.tr {υ : hMem} (h : Ag D σ τ) (h' : Ag D τ υ) : Ag D σ υ := fun a b q => ⟨(h' a b q).1.trans (h a b q).1, (h' a b q).2.1.trans (h a b q).2.1, fun i => ⟨((h' a b q).2.2 i).1.trans ((h a b q).2.2 i).1, ((h' a b q).2.2 i).2.trans ((h a b q).2.2 i).2⟩⟩
theorem Ag.sI {v : Int32} (h : Ag D σ τ) (hd : ¬ D j k) : Ag D σ (sI τ j k v) := fun a b q => by
  obtain ⟨h1, h2, h3⟩ := h a b q
  refine ⟨?_, h2, h3⟩
  rw [hI_sI, if_neg (fun z => hd (by rw [← z.1, ← z.2]; exact q))]
  exact h1
theorem Ag.sL {v : Int64} (h : Ag D σ τ) (hd : ¬ D j k) : Ag D σ (sL τ j k v) := fun a b q => by
  obtain ⟨h1, h2, h3⟩ := h a b q
  refine ⟨h1, ?_, h3⟩
  rw [hL_sL, if_neg (fun z => hd (by rw [← z.1, ← z.2]; exact q))]
  exact h2
theorem Ag.sA {i : Nat} {f : Nat → Int32} (h : Ag D σ τ) (hd : ¬ D j k) : Ag D σ (sA τ j k i f) := fun a b q => by
  obtain ⟨h1, h2, h3⟩ := h a b q
  refine ⟨h1, h2, fun x => ⟨?_, (h3 x).2⟩⟩
  rw [hA_sA, if_neg (fun z => hd (by rw [← z.1, ← z.2.2]; exact q))]
  exact (h3 x).1
theorem Ag.sB {i : Nat} {f : Nat → Int64} (h : Ag D σ τ) (hd : ¬ D j k) : Ag D σ (sB τ j k i f) := fun a b q => by
  obtain ⟨h1, h2, h3⟩ := h a b q
  refine ⟨h1, h2, fun x => ⟨(h3 x).1, ?_⟩⟩
  rw [hB_sB, if_neg (fun z => hd (by rw [← z.1, ← z.2.2]; exact q))]
  exact (h3 x).2
theorem Ag.sT {b : Nat} {S : Nat → Nat → Int64} (h : Ag D σ τ) (hd : ¬ D 43 b) : Ag D σ (sT τ b S) := fun a c q => by
  obtain ⟨h1, h2, h3⟩ := h a c q
  refine ⟨h1, h2, fun x => ⟨(h3 x).1, ?_⟩⟩
  show (if c = b ∧ a = 43 then S x else _) = _
  rw [if_neg (fun z => hd (by rw [← z.1, ← z.2]; exact q))]
  exact (h3 x).2
theorem Ag.I (h : Ag D σ τ) (q : D j k) : hI τ j k = hI σ j k := (h j k q).1
theorem Ag.L (h : Ag D σ τ) (q : D j k) : hL τ j k = hL σ j k := (h j k q).2.1
theorem Ag.A (h : Ag D σ τ) (q : D j k) (i : Nat) : hA τ j k i = hA σ j k i := ((h j k q).2.2 i).1
theorem Ag.B (h : Ag D σ τ) (q : D j k) (i : Nat) : hB τ j k i = hB σ j k i := ((h j k q).2.2 i).2
end AG
/-- the day -/
def dClk (j k : Nat) : Prop := (j = 0 ∧ k = 9) ∨ (j = 43 ∧ k = 1)
def rClk (σ : hMem) : Prop := hI σ 0 9 = hI σ 43 1 ∧ ∃ t, t ≤ 5000 ∧ hI σ 0 9 = nI t
theorem rClk.ag {σ τ : hMem} (h : rClk σ) (a : Ag dClk σ τ) : rClk τ := by
  unfold rClk
  rw [a.I (Or.inl ⟨rfl, rfl⟩), a.I (Or.inr ⟨rfl, rfl⟩)]
  exact h
/-- the goods -/
def dGds (j k : Nat) : Prop := j = 4 ∨ j = 5 ∨ (j = 43 ∧ 11 ≤ k ∧ k ≤ 16)
def rGds (σ : hMem) (nv : Nat) : Prop := hI σ 4 3 = nI nv ∧ hI σ 43 11 = nI nv ∧ nv ≤ 60 ∧ hA σ 4 0 0 = hA σ 43 12 0 ∧ ∀ i, i < nv → hA σ 5 0 0 i = hA σ 43 15 0 i ∧ hA σ 5 1 0 i = hA σ 43 16 0 i ∧ ∃ c r, c ≤ 1000000 ∧ r ≤ 1000000 ∧ hA σ 43 13 0 i = nI c ∧ hA σ 43 14 0 i = nI r ∧ hA σ 4 1 0 i = nI (c - r)
theorem rGds.ag {σ τ : hMem} {nv : Nat} (h : rGds σ nv) (a : Ag dGds σ τ) : rGds τ nv := by
  unfold rGds
  rw [a.I (j := 4) (k := 3) (Or.inl rfl), a.I (j := 43) (k := 11) (Or.inr (Or.inr ⟨rfl, by decide, by decide⟩)), a.A (j := 4) (k := 0) (Or.inl rfl), a.A (j := 43) (k := 12) (Or.inr (Or.inr ⟨rfl, by decide, by decide⟩)), a.A (j := 5) (k := 0) (Or.inr (Or.inl rfl)), a.A (j := 5) (k := 1) (Or.inr (Or.inl rfl)), a.A (j := 43) (k := 13) (Or.inr (Or.inr ⟨rfl, by decide, by decide⟩)), a.A (j := 43) (k := 14) (Or.inr (Or.inr ⟨rfl, by decide, by decide⟩)), a.A (j := 43) (k := 15) (Or.inr (Or.inr ⟨rfl, by decide, by decide⟩)), a.A (j := 43) (k := 16) (Or.inr (Or.inr ⟨rfl, by decide, by decide⟩)), a.A (j := 4) (k := 1) (Or.inl rfl)]
  exact h
/-- the earlier cases -/
def dCas (j k : Nat) : Prop := j = 6 ∨ j = 7 ∨ j = 8 ∨ (j = 43 ∧ 17 ≤ k ∧ k ≤ 23)
def rCas (σ : hMem) (nc : Nat) : Prop := hI σ 6 4 = nI nc ∧ hI σ 43 17 = nI nc ∧ nc ≤ 40 ∧ hA σ 6 0 0 = hA σ 43 18 0 ∧ hA σ 6 1 0 = hA σ 43 19 0 ∧ (∀ i, i < nc → hA σ 7 0 0 i = hA σ 43 20 0 i ∧ hA σ 7 1 0 i = hA σ 43 21 0 i ∧ (∃ m, m ≤ 99999 ∧ hA σ 43 18 0 i = nI m) ∧ (∃ m, m ≤ 1000 ∧ hA σ 43 19 0 i = nI m) ∧ ((hA σ 8 0 0 i = 5001 ∧ hA σ 43 22 0 i = -1) ∨ (hA σ 8 0 0 i = hA σ 43 22 0 i ∧ hA σ 8 1 0 i = hA σ 43 23 0 i ∧ ∃ d, d ≤ 5000 ∧ hA σ 43 22 0 i = nI d))) ∧ ∀ i, nc ≤ i → i < 40 → hA σ 8 0 0 i = 5001 ∧ hA σ 8 1 0 i = 5001
theorem rCas.ag {σ τ : hMem} {nc : Nat} (h : rCas σ nc) (a : Ag dCas σ τ) : rCas τ nc := by
  have a43 : ∀ k, 17 ≤ k → k ≤ 23 → dCas 43 k := fun k h1 h2 => Or.inr (Or.inr (Or.inr ⟨rfl, h1, h2⟩))
  unfold rCas
  rw [a.I (j := 6) (k := 4) (Or.inl rfl), a.I (a43 17 (by decide) (by decide)), a.A (j := 6) (k := 0) (Or.inl rfl), a.A (j := 6) (k := 1) (Or.inl rfl), a.A (j := 7) (k := 0) (Or.inr (Or.inl rfl)), a.A (j := 7) (k := 1) (Or.inr (Or.inl rfl)), a.A (j := 8) (k := 0) (Or.inr (Or.inr (Or.inl rfl))), a.A (j := 8) (k := 1) (Or.inr (Or.inr (Or.inl rfl))), a.A (a43 18 (by decide) (by decide)), a.A (a43 19 (by decide) (by decide)), a.A (a43 20 (by decide) (by decide)), a.A (a43 21 (by decide) (by decide)), a.A (a43 22 (by decide) (by decide)), a.A (a43 23 (by decide) (by decide))]
  exact h
/-- the suit -/
def dSui (j k : Nat) : Prop := (j = 0 ∧ 10 ≤ k ∧ k ≤ 11) ∨ (j = 43 ∧ 24 ≤ k ∧ k ≤ 25)
def rSui (σ : hMem) : Prop := hI σ 0 10 = hI σ 43 24 ∧ hI σ 0 11 = hI σ 43 25 ∧ (∃ m, m ≤ 99999 ∧ hI σ 43 24 = nI m) ∧ ∃ x, x ≤ 99 ∧ hI σ 43 25 = nI x
theorem rSui.ag {σ τ : hMem} (h : rSui σ) (a : Ag dSui σ τ) : rSui τ := by
  unfold rSui
  rw [a.I (j := 0) (k := 10) (Or.inl ⟨rfl, by decide, by decide⟩), a.I (j := 0) (k := 11) (Or.inl ⟨rfl, by decide, by decide⟩), a.I (j := 43) (k := 24) (Or.inr ⟨rfl, by decide, by decide⟩), a.I (j := 43) (k := 25) (Or.inr ⟨rfl, by decide, by decide⟩)]
  exact h
/-- the tape -/
def dTap (j k : Nat) : Prop := (j = 9 ∧ k ≤ 1) ∨ (j = 43 ∧ 30 ≤ k ∧ k ≤ 31)
def rTap (σ : hMem) (nt : Nat) : Prop := hI σ 9 1 = nI nt ∧ hI σ 43 31 = nI nt ∧ nt ≤ 300 ∧ hA σ 9 0 0 = hA σ 43 30 0
theorem rTap.ag {σ τ : hMem} {nt : Nat} (h : rTap σ nt) (a : Ag dTap σ τ) : rTap τ nt := by
  unfold rTap
  rw [a.I (j := 9) (k := 1) (Or.inl ⟨rfl, by decide⟩), a.I (j := 43) (k := 31) (Or.inr ⟨rfl, by decide, by decide⟩), a.A (j := 9) (k := 0) (Or.inl ⟨rfl, by decide⟩), a.A (j := 43) (k := 30) (Or.inr ⟨rfl, by decide, by decide⟩)]
  exact h
/-- the laws -/
def dLaw (j k : Nat) : Prop := (j = 0 ∧ k = 12) ∨ j = 10 ∨ (13 ≤ j ∧ j < 19) ∨ (j = 43 ∧ 26 ≤ k ∧ k ≤ 29)
def lawE (σ : hMem) (ro : Nat) : Prop := (∀ i, i < 5 → hA σ 43 29 ro i = hA σ (13 + ro) 0 0 i) ∧ (∀ k, 1 ≤ k → k ≤ 6 → hI σ (13 + ro) k = hA σ 43 29 ro (k + 4)) ∧ (∃ a, a ≤ 1000 ∧ hA σ 43 29 ro 7 = nI a) ∧ (∃ a, a ≤ 100 ∧ hA σ 43 29 ro 8 = nI a) ∧ (∃ a, a ≤ 1000 ∧ hA σ 43 29 ro 9 = nI a) ∧ ∃ a, a ≤ 5000 ∧ hA σ 43 29 ro 10 = nI a
def rLaw (σ : hMem) (nl : Nat) : Prop := hI σ 0 12 = nI nl ∧ hI σ 43 26 = nI nl ∧ nl ≤ 6 ∧ (∀ i, i < nl → hA σ 10 0 0 i = hA σ 43 27 0 i ∧ hA σ 10 1 0 i = hA σ 43 28 0 i) ∧ ∀ ro, ro < nl → lawE σ ro
theorem rLaw.ag {σ τ : hMem} {nl : Nat} (h : rLaw σ nl) (a : Ag dLaw σ τ) : rLaw τ nl := by
  have a43 : ∀ k, 26 ≤ k → k ≤ 29 → dLaw 43 k := fun k h1 h2 => Or.inr (Or.inr (Or.inr ⟨rfl, h1, h2⟩))
  obtain ⟨h1, h2, h3, h4, h5⟩ := h
  refine ⟨(a.I (Or.inl ⟨rfl, rfl⟩)).trans h1, (a.I (a43 26 (by decide) (by decide))).trans h2, h3, ?_, fun ro hro => ?_⟩
  · rw [a.A (j := 10) (k := 0) (Or.inr (Or.inl rfl)), a.A (j := 10) (k := 1) (Or.inr (Or.inl rfl)), a.A (a43 27 (by decide) (by decide)), a.A (a43 28 (by decide) (by decide))]
    exact h4
  · have aj : ∀ k, dLaw (13 + ro) k := fun k => Or.inr (Or.inr (Or.inl ⟨by omega, by omega⟩))
    have := h5 ro hro
    unfold lawE
    rw [a.A (a43 29 (by decide) (by decide)), a.A (aj 0)]
    refine ⟨this.1, fun k q1 q2 => ?_, this.2.2⟩
    rw [a.I (aj k)]
    exact this.2.1 k q1 q2
/-- the sheet -/
def dSht (j k : Nat) : Prop := j = 11 ∨ (j = 43 ∧ 35 ≤ k ∧ k ≤ 37)
def rSht (σ : hMem) (hd : Nat) : Prop := hI σ 11 1 = nI hd ∧ hI σ 43 36 = nI hd ∧ hd ≤ 60 ∧ (hI σ 43 35 = 0 ↔ hd = 0) ∧ (∀ y, y < hd → hA σ 11 0 0 y = hA σ 43 37 0 y ∧ ∃ z, 1 ≤ z ∧ z ≤ 9 ∧ hA σ 11 0 0 y = nI z)
theorem rSht.ag {σ τ : hMem} {hd : Nat} (h : rSht σ hd) (a : Ag dSht σ τ) : rSht τ hd := by
  have a43 : ∀ k, 35 ≤ k → k ≤ 37 → dSht 43 k := fun k h1 h2 => Or.inr ⟨rfl, h1, h2⟩
  unfold rSht
  rw [a.I (j := 11) (k := 1) (Or.inl rfl), a.I (a43 36 (by decide) (by decide)), a.I (a43 35 (by decide) (by decide)), a.A (j := 11) (k := 0) (Or.inl rfl), a.A (a43 37 (by decide) (by decide))]
  exact h
/-- the ships -/
def dShp (j k : Nat) : Prop := (j = 0 ∧ k = 13) ∨ (19 ≤ j ∧ j < 35) ∨ (j = 43 ∧ 38 ≤ k ∧ k ≤ 46)
def shpE (σ : hMem) (i : Nat) : Prop := hA σ 43 39 0 i = hI σ (19 + i) 1 ∧ hA σ 43 40 0 i = hI σ (19 + i) 2 ∧ hA σ 43 41 0 i = hI σ (19 + i) 3 ∧ hA σ 43 42 0 i = hI σ (19 + i) 4 ∧ hA σ 43 43 0 i = hI σ (19 + i) 5 ∧ hA σ 43 44 0 i = hI σ (19 + i) 6 ∧ hA σ 43 45 0 i = hI σ (27 + i) 1 ∧ ∀ y, y < hdC σ i → hA σ 43 46 i y = hA σ (27 + i) 0 0 y
def rShp (σ : hMem) (ns : Nat) : Prop := hI σ 0 13 = nI ns ∧ hI σ 43 38 = nI ns ∧ ns ≤ 8 ∧ csh σ ns ∧ ∀ i, i < ns → shpE σ i
theorem rShp.ag {σ τ : hMem} {ns : Nat} (h : rShp σ ns) (a : Ag dShp σ τ) : rShp τ ns := by
  have a43 : ∀ k, 38 ≤ k → k ≤ 46 → dShp 43 k := fun k h1 h2 => Or.inr (Or.inr ⟨rfl, h1, h2⟩)
  obtain ⟨h1, h2, h3, h4, h5⟩ := h
  have e1 : ∀ i k, i < ns → hI τ (19 + i) k = hI σ (19 + i) k := fun i k hi => a.I (Or.inr (Or.inl ⟨by omega, by omega⟩))
  have e2 : ∀ i k, i < ns → hI τ (27 + i) k = hI σ (27 + i) k := fun i k hi => a.I (Or.inr (Or.inl ⟨by omega, by omega⟩))
  have e3 : ∀ i, i < ns → hA τ (27 + i) 0 0 = hA σ (27 + i) 0 0 := fun i hi => a.A (Or.inr (Or.inl ⟨by omega, by omega⟩)) 0
  refine ⟨(a.I (Or.inl ⟨rfl, rfl⟩)).trans h1, (a.I (a43 38 (by decide) (by decide))).trans h2, h3, fun i hi => ?_, fun i hi => ?_⟩
  · have := h4 i hi
    unfold caN lfN at *
    rw [e1 i _ hi, e1 i _ hi, e1 i _ hi, e1 i _ hi, e1 i _ hi, e1 i _ hi, e2 i _ hi, e2 i _ hi, e3 i hi]
    exact this
  · have := h5 i hi
    unfold shpE hdC at *
    rw [e1 i _ hi, e1 i _ hi, e1 i _ hi, e1 i _ hi, e1 i _ hi, e1 i _ hi, e2 i _ hi, e3 i hi, a.A (a43 39 (by decide) (by decide)), a.A (a43 40 (by decide) (by decide)), a.A (a43 41 (by decide) (by decide)), a.A (a43 42 (by decide) (by decide)), a.A (a43 43 (by decide) (by decide)), a.A (a43 44 (by decide) (by decide)), a.A (a43 45 (by decide) (by decide)), a.A (a43 46 (by decide) (by decide))]
    exact this
/-- the latest judgement -/
def dJdg (j k : Nat) : Prop := (j = 12 ∧ k ≠ 1 ∧ k ≠ 10) ∨ (35 ≤ j ∧ j < 43) ∨ (j = 43 ∧ 47 ≤ k ∧ k ≤ 58)
def jdgE (σ : hMem) (i : Nat) : Prop := (∀ w, w < 7 → hB σ 43 56 i w = hL σ (35 + i) (cs w)) ∧ hA σ 43 58 0 i = hI σ (35 + i) 9 ∧ ∃ q, q ≤ 60 ∧ hI σ (35 + i) 9 = nI q ∧ ∀ y, y < q → hB σ 43 57 i y = hB σ (35 + i) 0 0 y
def rJdg (σ : hMem) : Prop := ∃ c ks, c ≤ 40 ∧ ks ≤ 8 ∧ hI σ 12 4 = nI c ∧ hI σ 43 49 = nI c ∧ hI σ 12 9 = nI ks ∧ hI σ 43 51 = nI ks ∧ ((hI σ 43 47 = 0 ∧ hI σ 12 3 = -1 ∧ c = 0 ∧ ks = 0) ∨ (¬ hI σ 43 47 = 0 ∧ (∃ lw, lw ≤ 6 ∧ hI σ 12 3 = nI lw) ∧ hI σ 12 3 = hI σ 43 48 ∧ hI σ 12 5 = hI σ 43 50 ∧ hL σ 12 6 = hL σ 43 53 ∧ hL σ 12 7 = hL σ 43 54 ∧ hL σ 12 8 = hL σ 43 55 ∧ (∀ i, i < c → hA σ 12 0 0 i = hA σ 43 52 0 i) ∧ ∀ i, i < ks → jdgE σ i))
theorem rJdg.ag {σ τ : hMem} (h : rJdg σ) (a : Ag dJdg σ τ) : rJdg τ := by
  have a43 : ∀ k, 47 ≤ k → k ≤ 58 → dJdg 43 k := fun k h1 h2 => Or.inr (Or.inr ⟨rfl, h1, h2⟩)
  have a12 : ∀ k, k ≠ 1 → k ≠ 10 → dJdg 12 k := fun k h1 h2 => Or.inl ⟨rfl, h1, h2⟩
  obtain ⟨c, ks, h1, h2, h3, h4, h5, h6, h7⟩ := h
  refine ⟨c, ks, h1, h2, (a.I (a12 4 (by decide) (by decide))).trans h3, (a.I (a43 49 (by decide) (by decide))).trans h4, (a.I (a12 9 (by decide) (by decide))).trans h5, (a.I (a43 51 (by decide) (by decide))).trans h6, ?_⟩
  rw [a.I (a43 47 (by decide) (by decide)), a.I (a12 3 (by decide) (by decide)), a.I (a43 48 (by decide) (by decide)), a.I (a12 5 (by decide) (by decide)), a.I (a43 50 (by decide) (by decide)), a.L (a12 6 (by decide) (by decide)), a.L (a43 53 (by decide) (by decide)), a.L (a12 7 (by decide) (by decide)), a.L (a43 54 (by decide) (by decide)), a.L (a12 8 (by decide) (by decide)), a.L (a43 55 (by decide) (by decide)), a.A (a12 0 (by decide) (by decide)), a.A (a43 52 (by decide) (by decide))]
  rcases h7 with h7 | ⟨g1, g2, g3, g4, g5, g6, g7, g8, g9⟩
  · exact Or.inl h7
  · refine Or.inr ⟨g1, g2, g3, g4, g5, g6, g7, g8, fun i hi => ?_⟩
    have aj : ∀ k, dJdg (35 + i) k := fun k => Or.inr (Or.inl ⟨by omega, by omega⟩)
    obtain ⟨q1, q2, q, q3, q4, q5⟩ := g9 i hi
    refine ⟨fun w hw => ?_, ?_, q, q3, (a.I (aj 9)).trans q4, fun y hy => ?_⟩
    · rw [a.B (a43 56 (by decide) (by decide)), a.L (aj _)]; exact q1 w hw
    · rw [a.A (a43 58 (by decide) (by decide)), a.I (aj 9)]; exact q2
    · rw [a.B (a43 57 (by decide) (by decide)), a.B (aj 0)]; exact q5 y hy
