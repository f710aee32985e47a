/-! A table of the class out of the model's. -/
def fOf (F : Nat → Nat → Int64) (i : Nat) : Int32 := if F (i / 16) (i % 16) = 1099511627776 then 2147483647 else (F (i / 16) (i % 16)).toInt32
theorem fOf_X {F : Nat → Nat → Int64} (hB : ∀ a b, a < 16 → b < 16 → F a b = 1099511627776 ∨ (-150000 ≤ (F a b).toInt ∧ (F a b).toInt ≤ 150000)) {a b : Nat} (ha : a < 16) (hb : b < 16) : cX (fOf F) a b = mX F a b := by
  unfold cX mX fOf
  rw [(ix_div hb).1, (ix_div hb).2]
  by_cases e : F a b = 1099511627776
  · rw [if_pos e, cE_none.mpr rfl, eX_none.mpr e]
  · rw [if_neg e, eX_some.mpr ⟨e, rfl⟩]
    rcases hB a b ha hb with h | h
    · exact absurd h e
    · have e1 : (F a b).toInt32.toInt = (F a b).toInt := by
        rw [Int64.toInt_toInt32]
        exact Int.bmod_eq_of_le (by omega) (by omega)
      refine cE_some.mpr ⟨fun q => ?_, e1⟩
      rw [q, open_toInt] at e1
      omega
theorem cBel_of {τ : hMem} {n : Nat} {IN : Nat → Int32} {F : Nat → Nat → Int64} (h : rTal τ n) (hm : BelW τ n IN F) : cBel τ n IN (fOf F) (cnz IN n) := by
  have hW : csW τ n := h.2.2.2.2.2.2.2.2.2.1
  have hB := hm.1
  rw [h.md.2.2.2.2, h.ep] at hB
  have h2 := hm.2.2.1
  have hbd : ∀ a b, a < 16 → b < 16 → F a b = 1099511627776 ∨ (-150000 ≤ (F a b).toInt ∧ (F a b).toInt ≤ 150000) := by
    intro a b ha hb
    by_cases e : F a b = 1099511627776
    · exact Or.inl e
    · have hx : mX F a b = some (F a b).toInt := eX_some.mpr ⟨e, rfl⟩
      exact Or.inr ⟨pt_dn (mEP_in' h.sw _) h2 (mEP_bd h.sw _) (mEP_sym τ n _) ha hb hx, pt_up (mEP_in' h.sw _) h2 (mEP_bd h.sw _) ha hb hx⟩
  rw [h.ep] at h2
  exact ⟨hB, h2.congr (Nat.le_refl _) (fun _ _ _ => Iff.rfl) (cEP_in hW _) (fun a b ha hb => (fOf_X hbd ha hb).symm), rfl, hm.2.1⟩
/-- the hours alike -/
theorem hr_eq {F : Nat → Nat → Int64} {f : Nat → Int32} {a b : Nat} (h : cX f b a = mX F b a) (hB : F b a = 1099511627776 ∨ (-150000 ≤ (F b a).toInt ∧ (F b a).toInt ≤ 150000)) {lf cm : Nat → Int32} {i : Nat} (h1 : (lf i).toNatClampNeg = b) (h2 : (cm i).toNatClampNeg = a) : hrC f b a = hrF F lf cm i := by
  unfold hrC spC hrF
  rw [h1, h2]
  obtain ⟨q1, q2⟩ := cE_eX h
  by_cases e : f (b * 16 + a) = 2147483647
  · rw [if_pos e, if_pos (q1.mp e)]
    rfl
  · have e' : ¬ F b a = 1099511627776 := fun z => e (q1.mpr z)
    rw [if_neg e, if_neg e', ← q2 e]
    rcases hB with h3 | h3
    · exact absurd h3 e'
    · generalize F b a = v at *
      have e1 : v.toInt32.toInt = v.toInt := by
        rw [Int64.toInt_toInt32]
        exact Int.bmod_eq_of_le (by omega) (by omega)
      have e2 : (-v.toInt32).toInt = -v.toInt := by
        rw [Int32.toInt_neg, e1]
        exact Int.bmod_eq_of_le (by omega) (by omega)
      have e3 : (-v).toInt = -v.toInt := by
        rw [Int64.toInt_neg]
        exact Int.bmod_eq_of_le (by omega) (by omega)
      have z1 : (0 : Int32).toInt = 0 := rfl
      have z2 : (0 : Int64).toInt = 0 := rfl
      by_cases p : 0 < -v.toInt32
      · rw [if_pos p]
        rw [Int32.lt_iff_toInt_lt, e2, z1] at p
        rw [if_neg (by rw [Int64.lt_iff_toInt_lt, z2]; omega)]
        apply Int64.toInt_inj.mp
        rw [Int32.toInt_toInt64, e2, e3]
      · rw [if_neg p]
        rw [Int32.lt_iff_toInt_lt, e2, z1] at p
        by_cases s : 0 < v
        · rw [if_pos s]; rfl
        · rw [if_neg s]
          rw [Int64.lt_iff_toInt_lt, z2] at s
          apply Int64.toInt_inj.mp
          rw [Int32.toInt_toInt64, e3, z1]
          omega
