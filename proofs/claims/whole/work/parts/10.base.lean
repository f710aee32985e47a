/-! Truth values as ints; small rows. -/
def bz (P : Prop) [Decidable P] : Int32 := if P then 1 else 0
theorem bz_0 {P : Prop} [Decidable P] : (bz P = 0) ↔ ¬ P := by
  unfold bz
  by_cases h : P <;> simp [h]
theorem bz_1 {P : Prop} [Decidable P] : (bz P = 1) ↔ P := by
  unfold bz
  by_cases h : P <;> simp [h]
theorem bz_ne0 {P : Prop} [Decidable P] : (¬ bz P = 0) ↔ P := by
  unfold bz
  by_cases h : P <;> simp [h]
theorem bz_bit {P : Prop} [Decidable P] : bz P = 0 ∨ bz P = 1 := by
  unfold bz
  by_cases h : P <;> simp [h]
theorem bz_nar {P : Prop} [Decidable P] : narrow .boolean (.int (bz P)) = .int (bz P) := by
  unfold bz
  by_cases h : P <;> simp [h] <;> rfl
theorem bz_t {P : Prop} [Decidable P] (h : P) : bz P = 1 := bz_1.mpr h
theorem bz_f {P : Prop} [Decidable P] (h : ¬ P) : bz P = 0 := bz_0.mpr h
theorem bz_congr {P P' : Prop} [Decidable P] [Decidable P'] (h : P ↔ P') : bz P = bz P' := by
  by_cases h1 : P
  · rw [bz_t h1, bz_t (h.mp h1)]
  · rw [bz_f h1, bz_f (fun q => h1 (h.mpr q))]
section RE
variable {p : Program} {l : Launch} {e : Env} {R : Room} {s : State} {m : MethodId} {args : Array Value} {below : List Frame} {meth : Method} {c : Code} {H : Heap} {locs : List Loc} {cells slots : Nat} {Q : State → Prop} {pc : Nat} {ls : Array Slot} {rest : List Value}
theorem g_rei {x v : Int32} (h : x = v) (k : W p l e R s m args below meth c H locs cells slots Q (F0 m pc ls (.int v :: rest))) : W p l e R s m args below meth c H locs cells slots Q (F0 m pc ls (.int x :: rest)) := by
  rw [h]
  exact k
theorem g_rel {x v : Int64} (h : x = v) (k : W p l e R s m args below meth c H locs cells slots Q (F0 m pc ls (.long v :: rest))) : W p l e R s m args below meth c H locs cells slots Q (F0 m pc ls (.long x :: rest)) := by
  rw [h]
  exact k
end RE
theorem tb_out (x : Int32) {lo hi : Int} (h0 : 0 ≤ lo) (h1 : hi < 2147483648) (h : ∀ k : Nat, (lo : Int) + k ≤ hi → ¬ x = Int32.ofInt (lo + k)) : x.toInt < lo ∨ hi < x.toInt := by
  by_cases h2 : x.toInt < lo
  · exact Or.inl h2
  · right
    by_cases h3 : hi < x.toInt
    · exact h3
    · exfalso
      refine h (x.toInt - lo).toNat (by omega) ?_
      rw [show (lo : Int) + ((x.toInt - lo).toNat : Nat) = x.toInt by omega]
      simp
theorem vp_in_le {x b : Int32} {n : Nat} (h0 : ¬ x < 0) (h1 : ¬ b < x) (hb : b.toInt < (n : Int)) : vp_in x n := by
  rw [vp_in_iff]
  rw [Int32.lt_iff_toInt_lt] at h0 h1
  have e : (0 : Int32).toInt = 0 := rfl
  rw [e] at h0
  omega
/-- low to high -/
def inB (v low high : Int32) : Bool := !(decide (v < low)) && !(decide (high < v))
theorem inB_iff {v a b : Int32} : inB v a b = true ↔ ¬ v < a ∧ ¬ b < v := by simp [inB]
theorem vp_in_B {x b : Int32} {n : Nat} (h : inB x 0 b = true) (hb : b.toInt < (n : Int)) : vp_in x n := vp_in_le (inB_iff.mp h).1 (inB_iff.mp h).2 hb
theorem ct_ge {k n : Nat} (h : nI n ≤ nI k) (hn : n < 2 ^ 31 := by omega) (hk : k < 2 ^ 31 := by omega) : n ≤ k := (nI_leI hn hk).mp h
theorem ct_nge {k n : Nat} (h : ¬ nI n ≤ nI k) (hn : n < 2 ^ 31 := by omega) (hk : k < 2 ^ 31 := by omega) : k < n := Nat.not_le.mp (fun q => h ((nI_leI hn hk).mpr q))
theorem ct_ne {k : Nat} {x : Int32} (n : Nat) (h : ¬ nI k = x) (hx : x = nI n := by rfl) : k ≠ n := fun q => h (by rw [q, hx])
theorem ct_eq {k : Nat} {x : Int32} (n : Nat) (h : nI k = x) (hx : x = nI n := by rfl) (hn : n < 2 ^ 31 := by omega) (hk : k < 2 ^ 31 := by omega) : k = n := (nI_eq hk hn).mp (h.trans hx)
theorem lc_lt0 {x y : Int64} : lg_cmp x y < 0 ↔ x < y := lg_cmp_lt x y
theorem lc_lt1 {x y : Int64} : ¬ lg_cmp x y < 0 ↔ ¬ x < y := not_congr (lg_cmp_lt x y)
theorem lc_ge0 {x y : Int64} : 0 ≤ lg_cmp x y ↔ ¬ x < y := (lg_cmp_ge x y).trans Int64.not_lt.symm
theorem lc_ge1 {x y : Int64} : ¬ 0 ≤ lg_cmp x y ↔ x < y := (not_congr lc_ge0).trans Classical.not_not
theorem lc_gt0 {x y : Int64} : 0 < lg_cmp x y ↔ y < x := lg_cmp_gt x y
theorem lc_gt1 {x y : Int64} : ¬ 0 < lg_cmp x y ↔ ¬ y < x := not_congr (lg_cmp_gt x y)
theorem lc_le0 {x y : Int64} : lg_cmp x y ≤ 0 ↔ ¬ y < x := (lg_cmp_le x y).trans Int64.not_lt.symm
theorem lc_le1 {x y : Int64} : ¬ lg_cmp x y ≤ 0 ↔ y < x := (not_congr lc_le0).trans Classical.not_not
theorem lc_eq0 {x y : Int64} : lg_cmp x y = 0 ↔ x = y := lg_cmp_eq x y
theorem lc_eq1 {x y : Int64} : ¬ lg_cmp x y = 0 ↔ ¬ x = y := not_congr (lg_cmp_eq x y)
theorem lc_ne0 {x y : Int64} : ¬ lg_cmp x y = 0 ↔ ¬ x = y := not_congr (lg_cmp_eq x y)
theorem lc_ne1 {x y : Int64} : lg_cmp x y = 0 ↔ x = y := lg_cmp_eq x y
theorem zat0 {Z : va_W} {x : Nat × va_E} : (Z ++ [x])[Z.length]? = some x := by simp
theorem zset0 {Z : va_W} {x y : Nat × va_E} : (Z ++ [x]).set Z.length y = Z ++ [y] := by simp
/-- F below k, G from k on -/
def pre (F G : Nat → Int32) (k : Nat) : Nat → Int32 := fun i => if i < k then F i else G i
theorem pre_0 (F G : Nat → Int32) : G = pre F G 0 := by funext i; simp [pre]
theorem pre_s (F G : Nat → Int32) (k : Nat) : upd (pre F G k) k (F k) = pre F G (k + 1) := by
  funext i
  unfold upd pre
  by_cases h : i = k
  · subst h; simp
  · by_cases h2 : i < k
    · simp [h, h2, show i < k + 1 by omega]
    · simp [h, h2, show ¬ i < k + 1 by omega]
theorem pre_lt {F G : Nat → Int32} {k i : Nat} (h : i < k) : pre F G k i = F i := if_pos h
theorem pre_ge {F G : Nat → Int32} {k i : Nat} (h : ¬ i < k) : pre F G k i = G i := if_neg h
theorem vp_lt {x : Int32} {n : Nat} (h : vp_in x n) : x.toNatClampNeg < n := Nat.not_le.mp fun q => h (Or.inr q)
theorem nI_in1 {x b : Int32} {lo hi : Nat} (h : inB x (nI lo) b = true) (hb : b = nI hi) (h2 : hi < 2 ^ 31) (h3 : lo < 2 ^ 31) : ∃ n : Nat, lo ≤ n ∧ n ≤ hi ∧ x = nI n := by
  rw [inB_iff] at h
  obtain ⟨h4, h5⟩ := h
  rw [Int32.lt_iff_toInt_lt] at h4 h5
  rw [hb, nI_toInt h2] at h5
  rw [nI_toInt h3] at h4
  refine ⟨x.toInt.toNat, by omega, by omega, ?_⟩
  rw [← Int32.toInt_inj, nI_toInt (by omega)]
  omega
theorem in_of {N lo hi : Nat} (h1 : lo ≤ N) (h2 : N ≤ hi) (h3 : hi < 2 ^ 31 := by decide) : inB (nI N) (nI lo) (nI hi) = true := inB_iff.mpr ⟨nI_nlt h1 (by omega), nI_nlt h2 h3⟩
theorem sA_self (σ : hMem) (j k i : Nat) : σ = sA σ j k i (hA σ j k i) := by
  obtain ⟨a, b, c, d⟩ := σ
  unfold sA hA
  congr 1; congr 1; congr 1
  funext x y z
  by_cases h : y = k ∧ z = i ∧ x = j
  · simp [h]
  · simp [h]
theorem sB_self (σ : hMem) (j k i : Nat) : σ = sB σ j k i (hB σ j k i) := by
  obtain ⟨a, b, c, d⟩ := σ
  unfold sB hB
  congr 1; congr 1; congr 1
  funext x y z
  by_cases h : y = k ∧ z = i ∧ x = j
  · simp [h]
  · simp [h]
theorem sI_self (σ : hMem) (j k : Nat) : σ = sI σ j k (hI σ j k) := by
  obtain ⟨a, b, c, d⟩ := σ
  unfold sI hI
  congr 1
  funext x y
  by_cases h : y = k ∧ x = j
  · simp [h]
  · simp [h]
theorem sA_sA (σ : hMem) (j k i : Nat) (f g : Nat → Int32) : sA (sA σ j k i f) j k i g = sA σ j k i g := by
  unfold sA
  congr 1; congr 1; congr 1
  funext x y z
  by_cases h : y = k ∧ z = i ∧ x = j <;> simp [h]
theorem sB_sB (σ : hMem) (j k i : Nat) (f g : Nat → Int64) : sB (sB σ j k i f) j k i g = sB σ j k i g := by
  unfold sB
  congr 1; congr 1; congr 1
  funext x y z
  by_cases h : y = k ∧ z = i ∧ x = j <;> simp [h]
theorem sI_sI (σ : hMem) (j k : Nat) (f g : Int32) : sI (sI σ j k f) j k g = sI σ j k g := by
  unfold sI
  congr 1
  funext x y
  by_cases h : y = k ∧ x = j <;> simp [h]
theorem pre_lt18 {k : Int32} {n : Nat} (h : inB k 0 (nI n - 1) = true) (hn : n < 2 ^ 30) : k.toNatClampNeg < n := by
  rw [inB_iff] at h
  obtain ⟨h1, h2⟩ := h
  rw [Int32.lt_iff_toInt_lt] at h1 h2
  have e : (0 : Int32).toInt = 0 := rfl
  have e2 : (nI n - 1).toInt = (n : Int) - 1 := pk_sub_toInt (a := n) (b := 1) hn (by omega)
  rw [e] at h1
  rw [e2] at h2
  show k.toInt.toNat < n
  omega
theorem hA_same {σ : hMem} {j k i : Nat} {f : Nat → Int32} : hA (sA σ j k i f) j k i = f := by simp [hA_sA]
theorem hB_same {σ : hMem} {j k i : Nat} {f : Nat → Int64} : hB (sB σ j k i f) j k i = f := by simp [hB_sB]
