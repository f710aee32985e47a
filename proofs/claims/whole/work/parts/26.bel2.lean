/-! What is believed, as a whole; quarrels. -/
def BelW (σ : hMem) (n : Nat) (IN : Nat → Int32) (F : Nat → Nat → Int64) : Prop := Bel n (mTr σ) (mEP σ n) (fun k => ¬ IN k = 0) ∧ (∀ k, IN k = 0 ∨ IN k = 1) ∧ PT (mEP σ n (fun k => ¬ IN k = 0)) 16 (mX F) ∧ mBd F 655360000
/-- an answer of spans out of an entry -/
def spO (v : Int64) : Int32 := if v = 1099511627776 then (-2147483648) else v.toInt32
def spN (v : Int64) : Int32 := if v = 1099511627776 then (-2147483648) else (-v).toInt32
/-- those that stay: k stays just if all below it and those staying above it can be -/
def Qua (n : Nat) (Es : (Nat → Prop) → Nat → Nat → Int → Prop) (P : Nat → Prop) : Prop := ∀ k, k < n → (P k ↔ NoNeg (Es (fun j => j < k ∨ (k < j ∧ P j))))
theorem Qua.uniq {n : Nat} {Es : (Nat → Prop) → Nat → Nat → Int → Prop} {P Q : Nat → Prop} (hE : ∀ A B : Nat → Prop, (∀ j, j < n → (A j ↔ B j)) → (NoNeg (Es A) ↔ NoNeg (Es B))) (hP : Qua n Es P) (hQ : Qua n Es Q) : ∀ k, k < n → (P k ↔ Q k) := by
  have key : ∀ (N k : Nat), k < n → n - k < N → (P k ↔ Q k) := by
    intro N
    induction N with
    | zero => intro k _ h; exact absurd h (Nat.not_lt_zero _)
    | succ N ih =>
      intro k hk hN
      rw [hP k hk, hQ k hk]
      apply hE
      intro j hj
      by_cases h1 : k < j
      · simp [h1, ih j hj (by omega)]
      · simp [h1]
  intro k hk
  exact key _ k hk (Nat.lt_succ_self _)
theorem nI_m1k {k : Nat} : nI k + (-1) = nI k - 1 := by
  cases k with
  | zero => decide
  | succ k => rw [pk_m1, nI_pred]
theorem nI_neg {k : Nat} (hk : k < 2 ^ 30) (h : nI k - 1 < 0) : k = 0 := by
  cases k with
  | zero => rfl
  | succ k =>
    rw [nI_pred] at h
    exact absurd h (nI_pos (by omega))
theorem nI_nneg {k : Nat} (h : ¬ nI k - 1 < 0) : ∃ q, k = q + 1 := by
  cases k with
  | zero => exact absurd (by decide) h
  | succ k => exact ⟨k, rfl⟩
/-- the invariant of going down: those from k on are decided -/
def Qk (σ : hMem) (n k : Nat) (IN : Nat → Int32) (c : Nat) : Prop :=
  (∀ j, j < k → IN j = 1) ∧ (∀ j, k ≤ j → j < n → (¬ IN j = 0 ↔ NoNeg (mEP σ n (fun i => i < j ∨ (j < i ∧ ¬ IN i = 0))))) ∧ (∀ j, IN j = 0 ∨ IN j = 1) ∧ cnz IN n = c
theorem cnz_ones {IN : Nat → Int32} : ∀ n, (∀ j, j < n → IN j = 1) → cnz IN n = n := fun n h => cnz_lt n (fun j hj => by rw [h j hj]; decide)
theorem cnz_clr {g : Nat → Int32} {b : Nat} (hg : g b = 1) : ∀ n, cnz g n = cnz (upd g b 0) n + (if b < n then 1 else 0)
  | 0 => by simp [cnz]
  | n + 1 => by
    have ih := cnz_clr hg n
    unfold cnz
    rw [ih]
    by_cases e : n = b
    · subst e
      simp [upd, hg]
    · by_cases h2 : b < n
      · simp [upd, e, h2, show b < n + 1 by omega]
        omega
      · simp [upd, e, h2, show ¬ b < n + 1 by omega]
theorem Qk.s {σ : hMem} {n k c : Nat} {IN : Nat → Int32} {r : Int32} (h : Qk σ n (k + 1) IN c) (hk : k < n) (hr : (r = 1 ∧ NoNeg (mEP σ n (fun j => ¬ upd IN k 0 j = 0))) ∨ (r = 0 ∧ ¬ NoNeg (mEP σ n (fun j => ¬ upd IN k 0 j = 0)))) : Qk σ n k (upd IN k r) (if r = 0 then c - 1 else c) ∧ 1 ≤ c := by
  obtain ⟨h1, h2, h3, h4⟩ := h
  have hIk : IN k = 1 := h1 k (Nat.lt_succ_self k)
  have e0 : ∀ j, upd IN k r j = if j = k then r else IN j := fun j => rfl
  have hE : NoNeg (mEP σ n (fun j => ¬ upd IN k 0 j = 0)) ↔ NoNeg (mEP σ n (fun i => i < k ∨ (k < i ∧ ¬ upd IN k r i = 0))) := by
    apply mEP_congr
    intro j hj
    by_cases e : j = k
    · subst e
      simp [upd]
    · by_cases hlt : j < k
      · simp [upd, e, hlt, h1 j (by omega)]
      · simp [upd, e, hlt, show k < j by omega]
  have hcc := cnz_clr hIk n
  rw [if_pos hk, h4] at hcc
  refine ⟨⟨?_, ?_, ?_, ?_⟩, by omega⟩
  · intro j hj
    rw [e0, if_neg (by omega)]
    exact h1 j (by omega)
  · intro j hj hjn
    by_cases e : j = k
    · subst e
      rw [e0, if_pos rfl, ← hE]
      rcases hr with ⟨hr, hN⟩ | ⟨hr, hN⟩
      · rw [hr]
        exact ⟨fun _ => hN, fun _ => by decide⟩
      · rw [hr]
        exact ⟨fun q => absurd rfl q, fun q => absurd q hN⟩
    · rw [e0, if_neg e, h2 j (by omega) hjn]
      apply mEP_congr
      intro i hi
      by_cases e2 : i = k
      · subst e2
        simp [show i < j by omega]
      · simp [upd, e2]
  · intro j
    rw [e0]
    by_cases e : j = k
    · rw [if_pos e]
      rcases hr with ⟨hr, _⟩ | ⟨hr, _⟩
      · exact Or.inr hr
      · exact Or.inl hr
    · rw [if_neg e]
      exact h3 j
  · rcases hr with ⟨hr, _⟩ | ⟨hr, _⟩
    · subst hr
      rw [if_neg (by decide)]
      have : upd IN k 1 = IN := by
        funext j
        rw [show upd IN k 1 j = if j = k then 1 else IN j from rfl]
        by_cases e : j = k
        · rw [if_pos e, e, hIk]
        · rw [if_neg e]
      rw [this]
      exact h4
    · subst hr
      rw [if_pos rfl]
      omega
theorem Qk.z {σ : hMem} {n : Nat} {IN : Nat → Int32} (h : ∀ j, j < n → IN j = 1) (h3 : ∀ j, IN j = 0 ∨ IN j = 1) : Qk σ n n IN n := ⟨h, fun j h1 h2 => absurd h2 (by omega), h3, cnz_ones n h⟩
theorem Qk.qua {σ : hMem} {n c : Nat} {IN : Nat → Int32} (h : Qk σ n 0 IN c) : Qua n (mEP σ n) (fun k => ¬ IN k = 0) := fun k hk => h.2.1 k (Nat.zero_le k) hk
theorem all_congr {σ : hMem} {n : Nat} {IN : Nat → Int32} (h : ∀ j, j < n → IN j = 1) : NoNeg (mEP σ n (fun j => ¬ IN j = 0)) ↔ NoNeg (mEP σ n (fun _ => True)) := mEP_congr _ _ (fun j hj => by simp [h j hj])
