/-! Truth values as ints; small rows. -/
def bz (P : Prop) [Decidable P] : Int32 := if P then 1 else 0
theorem bz_0 {P : Prop} [Decidable P] : (bz P = 0) ↔ ¬ P := by
  unfold bz
  by_cases h : P <;> simp [h]
theorem bz_1 {P : Prop} [Decidable P] : (bz P = 1) ↔ P := by
  unfold bz
  by_cases h : P <;> simp [h]
theorem bz_ne0 {P : Prop} [Decidable P] : (¬ bz P = 0) ↔ P := by
  unfold bz
  by_cases h : P <;> simp [h]
theorem bz_bit {P : Prop} [Decidable P] : bz P = 0 ∨ bz P = 1 := by
  unfold bz
  by_cases h : P <;> simp [h]
theorem bz_nar {P : Prop} [Decidable P] : narrow .boolean (.int (bz P)) = .int (bz P) := by
  unfold bz
  by_cases h : P <;> simp [h] <;> rfl
theorem bz_t {P : Prop} [Decidable P] (h : P) : bz P = 1 := bz_1.mpr h
theorem bz_f {P : Prop} [Decidable P] (h : ¬ P) : bz P = 0 := bz_0.mpr h
theorem bz_congr {P P' : Prop} [Decidable P] [Decidable P'] (h : P ↔ P') : bz P = bz P' := by
  by_cases h1 : P
  · rw [bz_t h1, bz_t (h.mp h1)]
  · rw [bz_f h1, bz_f (fun q => h1 (h.mpr q))]
section RE
variable {p : Program} {l : Launch} {e : Env} {R : Room} {s : State} {m : MethodId} {args : Array Value} {below : List Frame} {meth : Method} {c : Code} {H : Heap} {locs : List Loc} {cells slots : Nat} {Q : State → Prop} {pc : Nat} {ls : Array Slot} {rest : List Value}
theorem g_rei {x v : Int32} (h : x = v) (k : W p l e R s m args below meth c H locs cells slots Q (F0 m pc ls (.int v :: rest))) : W p l e R s m args below meth c H locs cells slots Q (F0 m pc ls (.int x :: rest)) := by
  rw [h]
  exact k
theorem g_rel {x v : Int64} (h : x = v) (k : W p l e R s m args below meth c H locs cells slots Q (F0 m pc ls (.long v :: rest))) : W p l e R s m args below meth c H locs cells slots Q (F0 m pc ls (.long x :: rest)) := by
  rw [h]
  exact k
end RE
theorem tb_out (x : Int32) {lo hi : Int} (h0 : 0 ≤ lo) (h1 : hi < 2147483648) (h : ∀ k : Nat, (lo : Int) + k ≤ hi → ¬ x = Int32.ofInt (lo + k)) : x.toInt < lo ∨ hi < x.toInt := by
  by_cases h2 : x.toInt < lo
  · exact Or.inl h2
  · right
    by_cases h3 : hi < x.toInt
    · exact h3
    · exfalso
      refine h (x.toInt - lo).toNat (by omega) ?_
      rw [show (lo : Int) + ((x.toInt - lo).toNat : Nat) = x.toInt by omega]
      simp
theorem vp_in_le {x b : Int32} {n : Nat} (h0 : ¬ x < 0) (h1 : ¬ b < x) (hb : b.toInt < (n : Int)) : vp_in x n := by
  rw [vp_in_iff]
  rw [Int32.lt_iff_toInt_lt] at h0 h1
  have e : (0 : Int32).toInt = 0 := rfl
  rw [e] at h0
  omega
/-- low to high -/
def inB (v low high : Int32) : Bool := !(decide (v < low)) && !(decide (high < v))
theorem inB_iff {v a b : Int32} : inB v a b = true ↔ ¬ v < a ∧ ¬ b < v := by simp [inB]
theorem vp_in_B {x b : Int32} {n : Nat} (h : inB x 0 b = true) (hb : b.toInt < (n : Int)) : vp_in x n := vp_in_le (inB_iff.mp h).1 (inB_iff.mp h).2 hb
theorem ct_ge {k n : Nat} (h : nI n ≤ nI k) (hn : n < 2 ^ 31 := by omega) (hk : k < 2 ^ 31 := by omega) : n ≤ k := (nI_leI hn hk).mp h
theorem ct_nge {k n : Nat} (h : ¬ nI n ≤ nI k) (hn : n < 2 ^ 31 := by omega) (hk : k < 2 ^ 31 := by omega) : k < n := Nat.not_le.mp (fun q => h ((nI_leI hn hk).mpr q))
theorem ct_ne {k : Nat} {x : Int32} (n : Nat) (h : ¬ nI k = x) (hx : x = nI n := by rfl) : k ≠ n := fun q => h (by rw [q, hx])
theorem ct_eq {k : Nat} {x : Int32} (n : Nat) (h : nI k = x) (hx : x = nI n := by rfl) (hn : n < 2 ^ 31 := by omega) (hk : k < 2 ^ 31 := by omega) : k = n := (nI_eq hk hn).mp (h.trans hx)
