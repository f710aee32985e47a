/-! The class's quarrel: the first that breaks those below it and those staying. -/
theorem cEP_mono {σ : hMem} {n : Nat} {A B : Nat → Prop} (h : ∀ j, j < n → A j → B j) (hN : NoNeg (cEP σ n B)) : NoNeg (cEP σ n A) := fun a w hw => hN a w (way_mono (fun x y z ⟨k, h1, h2, h3⟩ => ⟨k, h1, h k h1 h2, h3⟩) hw)
def Ftb (σ : hMem) (n b : Nat) (S : Nat → Prop) (r : Int32) : Prop :=
  (r = -1 ∧ (¬ NoNeg (cEP σ n (fun j => b ≤ j ∧ S j)) ∨ NoNeg (cEP σ n (fun j => j < b ∨ (b ≤ j ∧ S j))))) ∨ ∃ i, i < b ∧ r = nI i ∧ NoNeg (cEP σ n (fun j => j < i ∨ (b ≤ j ∧ S j))) ∧ ¬ NoNeg (cEP σ n (fun j => j < i + 1 ∨ (b ≤ j ∧ S j)))
/-- the memory with the quarrel anew: stays, the trial's table, how many -/
def qM (σ : hMem) (g f : Nat → Int32) (c : Nat) : hMem := sI (sA (sA σ 3 0 0 f) 1 12 0 g) 1 13 (nI c)
theorem qM_f (σ : hMem) (g f f' : Nat → Int32) (c : Nat) : sA (qM σ g f c) 3 0 0 f' = qM σ g f' c := by
  unfold qM
  rw [← sI_sA_c, sA_comm _ 3 0 0 1 12 0 _ _ (by decide), sA_sA]
theorem qM_g (σ : hMem) (g f g' : Nat → Int32) (c : Nat) : sA (qM σ g f c) 1 12 0 g' = qM σ g' f c := by
  unfold qM
  rw [← sI_sA_c, sA_sA]
theorem qM_c (σ : hMem) (g f : Nat → Int32) (c c' : Nat) : sI (qM σ g f c) 1 13 (nI c') = qM σ g f c' := by
  unfold qM
  rw [sI_sI]
theorem qM_0 (σ : hMem) (g : Nat → Int32) : sI (sA σ 1 12 0 g) 1 13 0 = qM σ g (hA σ 3 0 0) 0 := by
  unfold qM
  have e : sA σ 3 0 0 (hA σ 3 0 0) = σ := (sA_self σ 3 0 0).symm
  rw [e]
  rfl
/-- going down: those from b on are decided, none below b stays -/
def Qc (σ : hMem) (n b : Nat) (g : Nat → Int32) (c : Nat) : Prop :=
  b ≤ n ∧ (∀ k, k < b → g k = 0) ∧ (∀ k, b ≤ k → k < n → (¬ g k = 0 ↔ NoNeg (cEP σ n (fun j => j < k ∨ (k < j ∧ ¬ g j = 0))))) ∧ (b = n ∨ ¬ NoNeg (cEP σ n (fun j => j < b ∨ (b ≤ j ∧ ¬ g j = 0)))) ∧ cnz g n = c ∧ c + b ≤ n ∧ (∀ k, g k = 0 ∨ g k = 1)
theorem cnz_zero {g : Nat → Int32} : ∀ n, (∀ k, k < n → g k = 0) → cnz g n = 0
  | 0, _ => rfl
  | n + 1, h => by
    unfold cnz
    rw [cnz_zero n (fun k hk => h k (by omega)), if_pos (h n (by omega))]
theorem Qc.z {σ : hMem} {n : Nat} {g : Nat → Int32} (h : ∀ k, k < n → g k = 0) (h01 : ∀ k, g k = 0 ∨ g k = 1) : Qc σ n n g 0 :=
  ⟨Nat.le_refl n, h, fun k h1 h2 => absurd h2 (by omega), Or.inl rfl, cnz_zero n h, by omega, h01⟩
theorem Qc.s {σ : hMem} {n b c i : Nat} {g : Nat → Int32} (h : Qc σ n b g c) (hi : i < b) (h1 : NoNeg (cEP σ n (fun j => j < i ∨ (b ≤ j ∧ ¬ g j = 0)))) (h2 : ¬ NoNeg (cEP σ n (fun j => j < i + 1 ∨ (b ≤ j ∧ ¬ g j = 0)))) : Qc σ n i (upd g i 1) (c + 1) := by
  obtain ⟨g1, g2, g3, g4, g5, g6, g7⟩ := h
  have e0 : ∀ j, upd g i 1 j = if j = i then 1 else g j := fun j => rfl
  have eP : ∀ j, (¬ upd g i 1 j = 0) ↔ (¬ g j = 0 ∨ j = i) := fun j => by
    rw [e0]
    by_cases e : j = i
    · simp [e]
    · simp [e]
  have hlow : ∀ j, ¬ g j = 0 → b ≤ j := fun j q => by
    rcases Nat.lt_or_ge j b with z | z
    · exact absurd (g2 j z) q
    · exact z
  refine ⟨by omega, ?_, ?_, ?_, ?_, by omega, ?_⟩
  · intro k hk
    rw [e0, if_neg (by omega)]
    exact g2 k (by omega)
  · intro k hk hkn
    by_cases e : k = i
    · subst e
      refine ⟨fun _ => ?_, fun _ => by rw [e0, if_pos rfl]; decide⟩
      refine (cEP_nn (fun j hj => ?_)).mp h1
      simp only [eP]
      constructor
      · intro q
        rcases q with q | q
        · exact Or.inl q
        · exact Or.inr ⟨by omega, Or.inl q.2⟩
      · intro q
        rcases q with q | ⟨q1, q2 | q2⟩
        · exact Or.inl q
        · exact Or.inr ⟨hlow j q2, q2⟩
        · omega
    · by_cases hb : b ≤ k
      · have e1 : upd g i 1 k = g k := by rw [e0, if_neg e]
        rw [e1, g3 k hb hkn]
        refine cEP_nn (fun j hj => ?_)
        simp only [eP]
        constructor
        · intro q
          rcases q with q | q
          · exact Or.inl q
          · exact Or.inr ⟨q.1, Or.inl q.2⟩
        · intro q
          rcases q with q | ⟨q1, q2 | q2⟩
          · exact Or.inl q
          · exact Or.inr ⟨q1, q2⟩
          · omega
      · have e1 : upd g i 1 k = 0 := by rw [e0, if_neg e]; exact g2 k (by omega)
        refine ⟨fun q => absurd e1 q, fun q => absurd (cEP_mono (fun j hj z => ?_) q) h2⟩
        simp only [eP]
        rcases z with z | z
        · exact Or.inl (by omega)
        · exact Or.inr ⟨by omega, Or.inl z.2⟩
  · right
    intro q
    refine h2 (cEP_mono (fun j hj z => ?_) q)
    simp only [eP]
    rcases z with z | z
    · by_cases e : j = i
      · exact Or.inr ⟨by omega, Or.inr e⟩
      · exact Or.inl (by omega)
    · exact Or.inr ⟨by omega, Or.inl z.2⟩
  · rw [cnz_upd (g2 i hi) (by decide), g5, if_pos (by omega)]
  · intro k
    rw [e0]
    by_cases e : k = i
    · rw [if_pos e]; exact Or.inr rfl
    · rw [if_neg e]; exact g7 k
/-- what the class holds of the quarrel -/
def cQu (σ : hMem) (n : Nat) (g : Nat → Int32) (c : Nat) : Prop := cnz g n = c ∧ (∀ k, g k = 0 ∨ g k = 1) ∧ ((NoNeg (cEP σ n (fun _ => True)) ∧ c = 0) ∨ (¬ NoNeg (cEP σ n (fun _ => True)) ∧ Qua n (cEP σ n) (fun k => ¬ g k = 0)))
theorem Qc.b0 {σ : hMem} {n c : Nat} {g : Nat → Int32} (h : Qc σ n 0 g c) (hn : 0 < n) : cQu σ n g c := by
  obtain ⟨g1, g2, g3, g4, g5, g6, g7⟩ := h
  refine ⟨g5, g7, Or.inr ⟨fun q => ?_, fun k hk => g3 k (Nat.zero_le k) hk⟩⟩
  rcases g4 with g4 | g4
  · omega
  · exact g4 (cEP_mono (fun _ _ _ => trivial) q)
theorem Qc.end {σ : hMem} {n b c : Nat} {g : Nat → Int32} {x : Int32} (h : Qc σ n b g c) (hn : n ≤ 40) (hF : Ftb σ n b (fun j => ¬ g j = 0) x) (hx : (40 ≤ c) ∨ x < 0) : cQu σ n g c := by
  have h0 := h
  obtain ⟨g1, g2, g3, g4, g5, g6, g7⟩ := h
  rcases hx with hx | hx
  · have : b = 0 := by omega
    subst this
    exact h0.b0 (by omega)
  · rcases hF with ⟨_, hF⟩ | ⟨i, hi, hr, _⟩
    · rcases hF with hF | hF
      · refine ⟨g5, g7, Or.inr ⟨fun q => hF (cEP_mono (fun _ _ _ => trivial) q), fun k hk => ?_⟩⟩
        by_cases hb : b ≤ k
        · exact g3 k hb hk
        · refine ⟨fun q => absurd (g2 k (by omega)) q, fun q => absurd (cEP_mono (fun j hj z => ?_) q) hF⟩
          exact Or.inr ⟨by omega, z.2⟩
      · rcases g4 with g4 | g4
        · subst g4
          refine ⟨g5, g7, Or.inl ⟨cEP_mono (fun j hj _ => Or.inl hj) hF, by omega⟩⟩
        · exact absurd hF g4
    · rw [hr] at hx
      exact absurd hx (nI_pos (by omega))
def qcach (σ : hMem) (n : Nat) : Prop := ¬ hI σ 1 14 = 0 → ∃ c, c ≤ n ∧ hI σ 1 13 = nI c ∧ cQu σ n (hA σ 1 12 0) c
def Qtl (σ : hMem) (n : Nat) (τ : hMem) : Prop := ∃ g f c, c ≤ n ∧ cQu σ n g c ∧ hA τ 1 12 0 = g ∧ hI τ 1 13 = nI c ∧ (τ = σ ∨ τ = sI (qM σ g f c) 1 14 1)
theorem qtl_of {σ : hMem} {n : Nat} {Z : va_W} {u : hMem × va_W} (hc : qcach σ n) (h : (¬ hI σ 1 14 = 0 ∧ u = (σ, Z)) ∨ (hI σ 1 14 = 0 ∧ ∃ g f c, u = (sI (qM σ g f c) 1 14 1, Z) ∧ c ≤ n ∧ cQu σ n g c)) : ∃ τ, u = (τ, Z) ∧ Qtl σ n τ := by
  rcases h with ⟨h1, h2⟩ | ⟨h1, g, f, c, h2, h3, h4⟩
  · obtain ⟨c, h3, h4, h5⟩ := hc h1
    exact ⟨σ, h2, _, hA σ 3 0 0, c, h3, h5, rfl, h4, Or.inl rfl⟩
  · exact ⟨_, h2, g, f, c, h3, h4, rfl, rfl, Or.inr rfl⟩
/-- the number of the k-th that is not 0, or -1 -/
def Qth (g : Nat → Int32) (n : Nat) (x r : Int32) : Prop := (∃ i, i < n ∧ ¬ g i = 0 ∧ x = nI (cnz g i) ∧ r = nI i) ∨ ((∀ i, i < n → ¬ g i = 0 → ¬ x = nI (cnz g i)) ∧ r = -1)
theorem cnz_mono {g : Nat → Int32} : ∀ {a b : Nat}, a ≤ b → cnz g a ≤ cnz g b := by
  intro a b h
  induction b with
  | zero => rw [show a = 0 by omega]; exact Nat.le_refl _
  | succ b ih =>
    by_cases e : a = b + 1
    · rw [e]; exact Nat.le_refl _
    · have := ih (by omega)
      show cnz g a ≤ cnz g b + _
      omega
theorem cnz_slt {g : Nat → Int32} {a b : Nat} (h : a < b) (hg : ¬ g a = 0) : cnz g a < cnz g b := by
  have h1 : cnz g (a + 1) ≤ cnz g b := cnz_mono h
  have h2 : cnz g (a + 1) = cnz g a + 1 := by
    show cnz g a + (if g a = 0 then 0 else 1) = _
    rw [if_neg hg]
  omega
theorem cnz_le {g : Nat → Int32} : ∀ m, cnz g m ≤ m
  | 0 => Nat.le_refl 0
  | m + 1 => by
    have := cnz_le (g := g) m
    unfold cnz
    split <;> omega
theorem cnz_congr {g h : Nat → Int32} : ∀ n, (∀ j, j < n → (g j = 0 ↔ h j = 0)) → cnz g n = cnz h n
  | 0, _ => rfl
  | n + 1, hh => by
    unfold cnz
    rw [cnz_congr n (fun j hj => hh j (by omega))]
    by_cases q : g n = 0
    · rw [if_pos q, if_pos ((hh n (by omega)).mp q)]
    · rw [if_neg q, if_neg (fun z => q ((hh n (by omega)).mpr z))]
theorem nI_inj' {a b : Nat} (ha : a < 2 ^ 31) (hb : b < 2 ^ 31) (h : nI a = nI b) : a = b := by
  have := congrArg Int32.toInt h
  rw [nI_toInt ha, nI_toInt hb] at this
  omega
theorem Qth.uniq {g h : Nat → Int32} {n : Nat} {x r r' : Int32} (hn : n ≤ 40) (hh : ∀ j, j < n → (g j = 0 ↔ h j = 0)) (h1 : Qth g n x r) (h2 : Qth h n x r') : r = r' := by
  have hc : ∀ i, i < n → cnz g i = cnz h i := fun i hi => cnz_congr i (fun j hj => hh j (by omega))
  rcases h1 with ⟨i, a1, a2, a3, a4⟩ | ⟨a1, a2⟩
  · rcases h2 with ⟨j, b1, b2, b3, b4⟩ | ⟨b1, b2⟩
    · have b2' : ¬ g j = 0 := fun q => b2 ((hh j b1).mp q)
      rw [← hc j b1, a3] at b3
      have l1 := cnz_le (g := g) i
      have l2 := cnz_le (g := g) j
      have e := nI_inj' (by omega) (by omega) b3
      rcases Nat.lt_trichotomy i j with q | q | q
      · have := cnz_slt q a2; omega
      · rw [a4, b4, q]
      · have := cnz_slt q b2'; omega
    · exact absurd (by rw [← hc i a1]; exact a3) (b1 i a1 (fun q => a2 ((hh i a1).mpr q)))
  · rcases h2 with ⟨j, b1, b2, b3, b4⟩ | ⟨b1, b2⟩
    · exact absurd (by rw [hc j b1]; exact b3) (a1 j b1 (fun q => b2 ((hh j b1).mp q)))
    · rw [a2, b2]
