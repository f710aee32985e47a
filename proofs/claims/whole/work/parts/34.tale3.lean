/-- belief is settled in τ, which is σ but for that -/
def Stl (σ : hMem) (n : Nat) (τ : hMem) : Prop := ∃ g f c, c ≤ n ∧ cBel σ n g f c ∧ hA τ 1 8 0 = g ∧ hA τ 2 0 0 = f ∧ hI τ 1 9 = nI c ∧ (τ = σ ∨ τ = sI (bM σ g f c) 1 10 1)
/-- what is held when the flag says that it stands -/
def cach (σ : hMem) (n : Nat) : Prop := ¬ hI σ 1 10 = 0 → ∃ c, c ≤ n ∧ hI σ 1 9 = nI c ∧ cBel σ n (hA σ 1 8 0) (hA σ 2 0 0) c
theorem stl_of {σ : hMem} {n : Nat} {Z : va_W} {u : hMem × va_W} (hc : cach σ n) (h : (¬ hI σ 1 10 = 0 ∧ u = (σ, Z)) ∨ (hI σ 1 10 = 0 ∧ ∃ g f c, u = (sI (bM σ g f c) 1 10 1, Z) ∧ c ≤ n ∧ cBel σ n g f c)) : ∃ τ, u = (τ, Z) ∧ Stl σ n τ := by
  rcases h with ⟨h1, h2⟩ | ⟨h1, g, f, c, h2, h3, h4⟩
  · obtain ⟨c, h3, h4, h5⟩ := hc h1
    exact ⟨σ, h2, _, _, c, h3, h5, rfl, rfl, h4, Or.inl rfl⟩
  · exact ⟨_, h2, g, f, c, h3, h4, rfl, rfl, rfl, Or.inr rfl⟩
theorem Stl.bit {σ τ : hMem} {n : Nat} (h : Stl σ n τ) (i : Nat) : hA τ 1 8 0 i = 0 ∨ hA τ 1 8 0 i = 1 := by
  obtain ⟨g, f, c, _, h1, h2, _⟩ := h
  rw [h2]
  exact h1.2.2.2 i
