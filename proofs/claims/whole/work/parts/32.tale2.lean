theorem sA_comm (σ : hMem) (j k i a b d : Nat) (f g : Nat → Int32) (h : ¬ (b = k ∧ d = i ∧ a = j)) : sA (sA σ a b d f) j k i g = sA (sA σ j k i g) a b d f := by
  unfold sA
  congr 1; congr 1; congr 1
  funext x y z
  show (if y = k ∧ z = i ∧ x = j then g else if y = b ∧ z = d ∧ x = a then f else σ.2.2.1 x y z) = (if y = b ∧ z = d ∧ x = a then f else if y = k ∧ z = i ∧ x = j then g else σ.2.2.1 x y z)
  by_cases h1 : y = k ∧ z = i ∧ x = j
  · by_cases h2 : y = b ∧ z = d ∧ x = a
    · exact absurd ⟨h2.1.symm.trans h1.1, h2.2.1.symm.trans h1.2.1, h2.2.2.symm.trans h1.2.2⟩ h
    · rw [if_pos h1, if_neg h2, if_pos h1]
  · rw [if_neg h1, if_neg h1]
/-- the memory with belief anew: isBelieved, the table of the believed, how many -/
def bM (σ : hMem) (g f : Nat → Int32) (c : Nat) : hMem := sI (sA (sA σ 2 0 0 f) 1 8 0 g) 1 9 (nI c)
theorem bM_f (σ : hMem) (g f f' : Nat → Int32) (c : Nat) : sA (bM σ g f c) 2 0 0 f' = bM σ g f' c := by
  unfold bM
  rw [← sI_sA_c, sA_comm _ 2 0 0 1 8 0 _ _ (by decide), sA_sA]
theorem bM_g (σ : hMem) (g f g' : Nat → Int32) (c : Nat) : sA (bM σ g f c) 1 8 0 g' = bM σ g' f c := by
  unfold bM
  rw [← sI_sA_c, sA_sA]
theorem bM_c (σ : hMem) (g f : Nat → Int32) (c c' : Nat) : sI (bM σ g f c) 1 9 (nI c') = bM σ g f c' := by
  unfold bM
  rw [sI_sI]
theorem bM_0 (σ : hMem) (f : Nat → Int32) : sI (sA σ 2 0 0 f) 1 9 0 = bM σ (hA σ 1 8 0) f 0 := by
  unfold bM
  have e : sA (sA σ 2 0 0 f) 1 8 0 (hA σ 1 8 0) = sA σ 2 0 0 f := (sA_self (sA σ 2 0 0 f) 1 8 0).symm
  rw [e]
  rfl
theorem Cn.skip {σ : hMem} {n i c : Nat} {T : Int} {g f : Nat → Int32} (h : Cn σ n T i g f c) (hW : csW σ n) (hne : ¬ (cTr σ i).toInt = T) : Cn σ n T (i + 1) g f c := by
  refine h.re hW (fun j _ => ?_)
  have : pcB (cTr σ) T i j = true ↔ pcB (cTr σ) T (i + 1) j = true := by
    rw [pcB_iff, pcB_iff]
    by_cases e : j = i
    · subst e
      omega
    · omega
  cases q : pcB (cTr σ) T i j with
  | true => exact (this.mp q).symm
  | false =>
    cases q2 : pcB (cTr σ) T (i + 1) j with
    | false => rfl
    | true => rw [this.mpr q2] at q; cases q
theorem Cn.down {σ : hMem} {n c : Nat} {T : Int} {g f : Nat → Int32} (h : Cn σ n T n g f c) (hW : csW σ n) : Cn σ n (T - 1) 0 g f c := by
  refine h.re hW (fun j hj => ?_)
  have : pcB (cTr σ) T n j = true ↔ pcB (cTr σ) (T - 1) 0 j = true := by
    rw [pcB_iff, pcB_iff]
    omega
  cases q : pcB (cTr σ) T n j with
  | true => exact (this.mp q).symm
  | false =>
    cases q2 : pcB (cTr σ) (T - 1) 0 j with
    | false => rfl
    | true => rw [this.mpr q2] at q; cases q
theorem Cn.cle {σ : hMem} {n i c : Nat} {T : Int} {g f : Nat → Int32} (h : Cn σ n T i g f c) : c ≤ n := by
  rw [← h.2.2.1]
  exact cnB_le _ n
