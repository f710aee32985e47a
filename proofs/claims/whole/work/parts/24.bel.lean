/-! Which sayings are believed: by trust, then by number. -/
/-- j comes ahead of k -/
def bef (tr : Nat → Int32) (j k : Nat) : Prop := tr k < tr j ∨ (tr j = tr k ∧ j < k)
theorem bef_tot {tr : Nat → Int32} {j k : Nat} (h : j ≠ k) : bef tr j k ∨ bef tr k j := by
  unfold bef
  simp only [Int32.lt_iff_toInt_lt, ← Int32.toInt_inj]
  omega
theorem bef_asym {tr : Nat → Int32} {j k : Nat} (h1 : bef tr j k) (h2 : bef tr k j) : False := by
  unfold bef at h1 h2
  simp only [Int32.lt_iff_toInt_lt, ← Int32.toInt_inj] at h1 h2
  omega
/-- believed: each just if it can be with those believed ahead of it -/
def Bel (n : Nat) (tr : Nat → Int32) (Es : (Nat → Prop) → Nat → Nat → Int → Prop) (P : Nat → Prop) : Prop := ∀ k, k < n → (P k ↔ NoNeg (Es (fun j => (P j ∧ bef tr j k) ∨ j = k)))
theorem Bel.uniq {n : Nat} {tr : Nat → Int32} {Es : (Nat → Prop) → Nat → Nat → Int → Prop} {P Q : Nat → Prop} (hE : ∀ A B : Nat → Prop, (∀ j, j < n → (A j ↔ B j)) → (NoNeg (Es A) ↔ NoNeg (Es B))) (hP : Bel n tr Es P) (hQ : Bel n tr Es Q) : ∀ k, k < n → (P k ↔ Q k) := by
  have key : ∀ (N : Nat) (k : Nat), k < n → (2147483647 - (tr k).toInt).toNat * n + k < N → (P k ↔ Q k) := by
    intro N
    induction N with
    | zero => intro k _ h; exact absurd h (Nat.not_lt_zero _)
    | succ N ih =>
      intro k hk hN
      rw [hP k hk, hQ k hk]
      apply hE
      intro j hj
      by_cases hjk : j = k
      · simp [hjk]
      · by_cases hb : bef tr j k
        · have hlt : (2147483647 - (tr j).toInt).toNat * n + j < (2147483647 - (tr k).toInt).toNat * n + k := by
            have h1 := Int32.toInt_lt (tr j)
            have h2 := Int32.toInt_lt (tr k)
            unfold bef at hb
            simp only [Int32.lt_iff_toInt_lt, ← Int32.toInt_inj] at hb
            rcases hb with hb | ⟨hb, hb2⟩
            · have h3 : (2147483647 - (tr j).toInt).toNat + 1 ≤ (2147483647 - (tr k).toInt).toNat := by omega
              have h4 := Nat.mul_le_mul_right n h3
              rw [Nat.add_mul, Nat.one_mul] at h4
              omega
            · rw [hb]
              omega
          have := ih j hj (by omega)
          simp [hjk, hb, this]
        · simp [hjk, hb]
  intro k hk
  exact key _ k hk (Nat.lt_succ_self _)
/-- the choice of the next one -/
def bst (g tr : Nat → Int32) : Nat → Int32
  | 0 => -1
  | k + 1 => if g k = 0 ∧ (bst g tr k = -1 ∨ ¬ tr k ≤ tr (bst g tr k).toNatClampNeg) then nI k else bst g tr k
theorem bst_in (g tr : Nat → Int32) : ∀ k, bst g tr k = -1 ∨ ∃ j, j < k ∧ bst g tr k = nI j
  | 0 => Or.inl rfl
  | k + 1 => by
    unfold bst
    split
    · exact Or.inr ⟨k, Nat.lt_succ_self k, rfl⟩
    · rcases bst_in g tr k with h | ⟨j, h1, h2⟩
      · exact Or.inl h
      · exact Or.inr ⟨j, Nat.lt_succ_of_lt h1, h2⟩
theorem m1_nI {j : Nat} (h : j < 2 ^ 31) : ¬ nI j = -1 := fun q => by
  have h1 := congrArg Int32.toInt q
  rw [nI_toInt h] at h1
  have e : (-1 : Int32).toInt = -1 := rfl
  omega
theorem bst_spec (g tr : Nat → Int32) : ∀ n, n < 2 ^ 31 → (bst g tr n = -1 ∧ ∀ j, j < n → ¬ g j = 0) ∨ ∃ b, b < n ∧ bst g tr n = nI b ∧ g b = 0 ∧ ∀ j, j < n → g j = 0 → ¬ bef tr j b
  | 0, _ => Or.inl ⟨rfl, fun j h => absurd h (Nat.not_lt_zero j)⟩
  | n + 1, hn => by
    have ih := bst_spec g tr n (by omega)
    unfold bst
    by_cases hg : g n = 0
    · rcases ih with ⟨h1, h2⟩ | ⟨b, h1, h2, h3, h4⟩
      · rw [if_pos ⟨hg, Or.inl h1⟩]
        right
        refine ⟨n, Nat.lt_succ_self n, rfl, hg, fun j hj hgj => ?_⟩
        by_cases e : j = n
        · rw [e]
          intro q
          exact bef_asym q q
        · exact absurd hgj (h2 j (by omega))
      · have hb1 : (bst g tr n).toNatClampNeg = b := by rw [h2]; exact nI_clamp (by omega)
        by_cases ht : tr n ≤ tr b
        · rw [if_neg (fun q => by
            rcases q.2 with q | q
            · rw [h2] at q; exact m1_nI (by omega) q
            · rw [hb1] at q; exact q ht)]
          right
          refine ⟨b, by omega, h2, h3, fun j hj hgj => ?_⟩
          by_cases e : j = n
          · rw [e]
            intro q
            unfold bef at q
            rw [Int32.le_iff_toInt_le] at ht
            simp only [Int32.lt_iff_toInt_lt, ← Int32.toInt_inj] at q
            omega
          · exact h4 j (by omega) hgj
        · rw [if_pos ⟨hg, Or.inr (by rw [hb1]; exact ht)⟩]
          right
          refine ⟨n, Nat.lt_succ_self n, rfl, hg, fun j hj hgj => ?_⟩
          by_cases e : j = n
          · rw [e]
            intro q
            exact bef_asym q q
          · intro q
            have h5 := h4 j (by omega) hgj
            apply h5
            rw [Int32.le_iff_toInt_le] at ht
            unfold bef at q ⊢
            simp only [Int32.lt_iff_toInt_lt, ← Int32.toInt_inj] at q ⊢
            omega
    · rw [if_neg (fun q => hg q.1)]
      rcases ih with ⟨h1, h2⟩ | ⟨b, h1, h2, h3, h4⟩
      · left
        refine ⟨h1, fun j hj => ?_⟩
        by_cases e : j = n
        · rw [e]; exact hg
        · exact h2 j (by omega)
      · right
        refine ⟨b, by omega, h2, h3, fun j hj hgj => ?_⟩
        by_cases e : j = n
        · rw [e] at hgj
          exact absurd hgj hg
        · exact h4 j (by omega) hgj
/-- how many are not 0 -/
def cnz (g : Nat → Int32) : Nat → Nat
  | 0 => 0
  | k + 1 => cnz g k + (if g k = 0 then 0 else 1)
theorem cnz_upd {g : Nat → Int32} {b : Nat} {v : Int32} (hg : g b = 0) (hv : ¬ v = 0) : ∀ n, cnz (upd g b v) n = cnz g n + (if b < n then 1 else 0)
  | 0 => by simp [cnz]
  | n + 1 => by
    have ih := cnz_upd hg hv n
    unfold cnz
    rw [ih]
    by_cases e : n = b
    · subst e
      simp [upd, hg, hv]
    · by_cases h2 : b < n
      · simp [upd, e, h2, show b < n + 1 by omega]
        omega
      · simp [upd, e, h2, show ¬ b < n + 1 by omega]
theorem cnz_lt {g : Nat → Int32} : ∀ n, (∀ j, j < n → ¬ g j = 0) → cnz g n = n
  | 0, _ => rfl
  | n + 1, h => by
    unfold cnz
    rw [cnz_lt n (fun j hj => h j (by omega)), if_neg (h n (by omega))]
theorem cnz_all {g : Nat → Int32} : ∀ n, cnz g n = n → ∀ j, j < n → ¬ g j = 0
  | 0, _, j, hj => absurd hj (Nat.not_lt_zero j)
  | n + 1, h, j, hj => by
    have hle : ∀ m, cnz g m ≤ m := by
      intro m
      induction m with
      | zero => exact Nat.le_refl 0
      | succ m ih =>
        unfold cnz
        split <;> omega
    unfold cnz at h
    have h1 := hle n
    by_cases hg : g n = 0
    · rw [if_pos hg] at h
      omega
    · rw [if_neg hg] at h
      by_cases e : j = n
      · rw [e]; exact hg
      · exact cnz_all n (by omega) j (by omega)
/-- the edges of those that P has -/
def mEP (σ : hMem) (n : Nat) (P : Nat → Prop) : Nat → Nat → Int → Prop := sEd (mFr σ) (mTo σ) (mLo σ) (mHi σ) P n
theorem NoNeg.congr {Ed Ed' : Nat → Nat → Int → Prop} (h : ∀ a b w, Ed a b w ↔ Ed' a b w) : NoNeg Ed ↔ NoNeg Ed' :=
  ⟨fun q a w hw => q a w (way_mono (fun x y z hz => (h x y z).mpr hz) hw), fun q a w hw => q a w (way_mono (fun x y z hz => (h x y z).mp hz) hw)⟩
theorem mEP_congr {σ : hMem} {n : Nat} (A B : Nat → Prop) (h : ∀ j, j < n → (A j ↔ B j)) : NoNeg (mEP σ n A) ↔ NoNeg (mEP σ n B) := by
  apply NoNeg.congr
  intro a b w
  constructor
  · intro ⟨k, h1, h2, h3⟩
    exact ⟨k, h1, (h k h1).mp h2, h3⟩
  · intro ⟨k, h1, h2, h3⟩
    exact ⟨k, h1, (h k h1).mpr h2, h3⟩
/-- the invariant of the turns -/
def Tn (σ : hMem) (n t : Nat) (tr g IN : Nat → Int32) : Prop :=
  cnz g n = t ∧ (∀ j k, j < n → k < n → ¬ g k = 0 → bef tr j k → ¬ g j = 0) ∧ (∀ k, k < n → ¬ IN k = 0 → ¬ g k = 0) ∧ (∀ k, k < n → ¬ g k = 0 → (¬ IN k = 0 ↔ NoNeg (mEP σ n (fun j => (¬ IN j = 0 ∧ bef tr j k) ∨ j = k)))) ∧ NoNeg (mEP σ n (fun j => ¬ IN j = 0)) ∧ (∀ k, IN k = 0 ∨ IN k = 1) ∧ (∀ k, g k = 0 ∨ g k = 1)
theorem Tn.z (σ : hMem) (n : Nat) (tr : Nat → Int32) (f : Nat → Int32) (hn : n ≤ 40) (hf : ∀ k, f k = 0 ∨ f k = 1) : Tn σ n 0 tr (fun _ => 0) (pre (fun _ => 0) f 40) := by
  have h0 : ∀ k, k < n → pre (fun _ => (0 : Int32)) f 40 k = 0 := fun k hk => by unfold pre; rw [if_pos (by omega)]
  refine ⟨?_, fun _ k _ _ h => absurd rfl h, fun k hk h => absurd (h0 k hk) h, fun k _ h => absurd rfl h, ?_, fun k => ?_, fun _ => Or.inl rfl⟩
  · have : ∀ m, cnz (fun _ => (0 : Int32)) m = 0 := by
      intro m
      induction m with
      | zero => rfl
      | succ m ih => unfold cnz; rw [ih]; rfl
    exact this n
  · intro a w hw
    have := hw (fun x y u => x = y ∧ u = 0) (fun x => ⟨rfl, rfl⟩) (fun x y z v u _ hq => by
      obtain ⟨k, h1, h2, _⟩ := hq
      exact absurd (h0 k h1) h2)
    omega
  · unfold pre
    split
    · exact Or.inl rfl
    · exact hf k
/-- one turn: b is the next, r says whether it can be -/
theorem Tn.s {σ : hMem} {n t b : Nat} {tr g IN : Nat → Int32} {r : Int32} (h : Tn σ n t tr g IN) (hb : b < n) (hg : g b = 0) (hm : ∀ j, j < n → g j = 0 → ¬ bef tr j b) (hr : (r = 1 ∧ NoNeg (mEP σ n (fun j => ¬ upd IN b 1 j = 0))) ∨ (r = 0 ∧ ¬ NoNeg (mEP σ n (fun j => ¬ upd IN b 1 j = 0)))) : Tn σ n (t + 1) tr (upd g b 1) (upd IN b r) := by
  obtain ⟨h1, h2, h3, h4, h5, h6, h7⟩ := h
  have hIb : IN b = 0 := Classical.not_not.mp (fun q => h3 b hb q hg)
  have hbef : ∀ j, j < n → ¬ g j = 0 → bef tr j b := fun j hj hgj => by
    have hne : j ≠ b := fun e => hgj (by rw [e]; exact hg)
    rcases bef_tot (tr := tr) hne with q | q
    · exact q
    · exact absurd hg (h2 b j hb hj hgj q)
  have e1 : NoNeg (mEP σ n (fun j => ¬ upd IN b 1 j = 0)) ↔ NoNeg (mEP σ n (fun j => (¬ upd IN b r j = 0 ∧ bef tr j b) ∨ j = b)) := by
    apply mEP_congr
    intro j hj
    by_cases e : j = b
    · subst e
      simp [upd]
    · simp only [upd, e, if_false, or_false]
      exact ⟨fun q => ⟨q, hbef j hj (h3 j hj q)⟩, fun q => q.1⟩
  have gn : ∀ j, ¬ upd g b 1 j = 0 ↔ (¬ g j = 0 ∨ j = b) := by
    intro j
    by_cases e : j = b
    · subst e
      simp [upd]
    · simp [upd, e]
  refine ⟨?_, ?_, ?_, ?_, ?_, ?_, ?_⟩
  · rw [cnz_upd hg (by decide), h1, if_pos hb]
  · intro j k hj hk hgk hjk
    rw [gn] at hgk ⊢
    rcases hgk with hgk | hgk
    · exact Or.inl (h2 j k hj hk hgk hjk)
    · subst hgk
      by_cases e : j = k
      · exact Or.inr e
      · exact Or.inl (fun q => hm j hj q hjk)
  · intro k hk hIk
    rw [gn]
    by_cases e : k = b
    · exact Or.inr e
    · simp only [upd, e, if_false] at hIk
      exact Or.inl (h3 k hk hIk)
  · intro k hk hgk
    rw [gn] at hgk
    by_cases e : k = b
    · subst e
      have e2 : upd IN k r k = r := by simp [upd]
      rw [e2, ← e1]
      rcases hr with ⟨hr, hN⟩ | ⟨hr, hN⟩
      · rw [hr]
        exact ⟨fun _ => hN, fun _ => by decide⟩
      · rw [hr]
        exact ⟨fun q => absurd rfl q, fun q => absurd q hN⟩
    · have hgk2 : ¬ g k = 0 := by
        rcases hgk with q | q
        · exact q
        · exact absurd q e
      have e2 : upd IN b r k = IN k := by simp [upd, e]
      rw [e2, h4 k hk hgk2]
      apply mEP_congr
      intro j hj
      by_cases ej : j = b
      · subst ej
        have hnb : ¬ bef tr j k := fun q => absurd hg (h2 j k hj hk hgk2 q)
        simp [hnb]
      · simp [upd, ej]
  · rcases hr with ⟨hr, hN⟩ | ⟨hr, hN⟩
    · rw [hr]
      exact hN
    · rw [hr]
      refine (mEP_congr _ _ (fun j _ => ?_)).mpr h5
      by_cases e : j = b
      · subst e
        simp [upd, hIb]
      · simp [upd, e]
  · intro k
    by_cases e : k = b
    · subst e
      simp only [upd, if_true]
      rcases hr with ⟨hr, _⟩ | ⟨hr, _⟩
      · exact Or.inr hr
      · exact Or.inl hr
    · simp only [upd, e, if_false]
      exact h6 k
  · intro k
    by_cases e : k = b
    · subst e
      simp [upd]
    · simp only [upd, e, if_false]
      exact h7 k
theorem Tn.bel {σ : hMem} {n : Nat} {tr g IN : Nat → Int32} (h : Tn σ n n tr g IN) : Bel n tr (mEP σ n) (fun k => ¬ IN k = 0) := fun k hk => h.2.2.2.1 k hk (cnz_all n h.1 k hk)
def mTr (σ : hMem) : Nat → Int32 := fun k => hA σ 43 2 0 (hA σ 43 4 0 k).toNatClampNeg
/-- the memory with isIn and the table anew -/
def sIG (σ : hMem) (IN : Nat → Int32) (F : Nat → Nat → Int64) : hMem := sG (sA σ 43 10 0 IN) F
theorem sIG_self (σ : hMem) : σ = sIG σ (hA σ 43 10 0) (hB σ 43 9) := by
  unfold sIG
  rw [← sA_self]
  exact sG_self σ
theorem sIG_of (σ : hMem) (f : Nat → Int32) : sA σ 43 10 0 f = sIG σ f (hB σ 43 9) := sG_self (sA σ 43 10 0 f)
theorem sIG_put (σ : hMem) (IN f : Nat → Int32) (F : Nat → Nat → Int64) : sA (sIG σ IN F) 43 10 0 f = sIG σ f F := by
  show sG (sA (sA σ 43 10 0 IN) 43 10 0 f) F = _
  rw [sA_sA]
  rfl
theorem sIG_G (σ : hMem) (IN : Nat → Int32) (F F' : Nat → Nat → Int64) : sG (sIG σ IN F) F' = sIG σ IN F' := sG_sG _ F F'
theorem sayW_IG {σ : hMem} {n : Nat} (h : sayW σ n) (IN : Nat → Int32) (F : Nat → Nat → Int64) : sayW (sIG σ IN F) n := h
theorem mEd_IG (σ : hMem) (n : Nat) (IN : Nat → Int32) (F : Nat → Nat → Int64) : mEd (sIG σ IN F) n = mEP σ n (fun k => ¬ IN k = 0) := rfl
