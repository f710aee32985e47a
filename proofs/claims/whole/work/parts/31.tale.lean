/-! The class's tale: its sayings as edges; belief by buckets of trust. -/
def cFr (σ : hMem) (k : Nat) : Nat := (hA σ 1 2 0 k).toNatClampNeg
def cTo (σ : hMem) (k : Nat) : Nat := (hA σ 1 3 0 k).toNatClampNeg
def cLo (σ : hMem) (k : Nat) : Int := (hA σ 1 4 0 k).toInt
def cHi (σ : hMem) (k : Nat) : Int := (hA σ 1 5 0 k).toInt
def cTr (σ : hMem) : Nat → Int32 := fun k => hA σ 1 0 0 (hA σ 1 1 0 k).toNatClampNeg
def cEP (σ : hMem) (n : Nat) (P : Nat → Prop) : Nat → Nat → Int → Prop := sEd (cFr σ) (cTo σ) (cLo σ) (cHi σ) P n
def csW (σ : hMem) (n : Nat) : Prop := ∀ k, k < n → vp_in (hA σ 1 2 0 k) 16 ∧ vp_in (hA σ 1 3 0 k) 16 ∧ cFr σ k ≠ cTo σ k ∧ -10000 ≤ cLo σ k ∧ cLo σ k ≤ cHi σ k ∧ cHi σ k ≤ 10000
theorem cl_nI {x : Int32} {n : Nat} (h : vp_in x n) (hn : n < 2 ^ 31) : x = nI x.toNatClampNeg := by
  obtain ⟨j, _, rfl⟩ := vp_in_of h hn
  rw [nI_clamp (by omega)]
theorem cEP_in {σ : hMem} {n : Nat} (h : csW σ n) (P : Nat → Prop) : EdIn (cEP σ n P) := by
  intro a b w hw
  obtain ⟨k, hk, _, h1⟩ := hw
  obtain ⟨h2, h3, _⟩ := h k hk
  rcases h1 with ⟨rfl, rfl, _⟩ | ⟨rfl, rfl, _⟩
  · exact ⟨vp_lt h2, vp_lt h3⟩
  · exact ⟨vp_lt h3, vp_lt h2⟩
theorem cEP_congr {σ : hMem} {n : Nat} {A B : Nat → Prop} (h : ∀ j, j < n → (A j ↔ B j)) (a b : Nat) (w : Int) : cEP σ n A a b w ↔ cEP σ n B a b w := by
  constructor
  · intro ⟨k, h1, h2, h3⟩
    exact ⟨k, h1, (h k h1).mp h2, h3⟩
  · intro ⟨k, h1, h2, h3⟩
    exact ⟨k, h1, (h k h1).mpr h2, h3⟩
/-- a saying more -/
theorem cEP_add {σ : hMem} {n b : Nat} (hb : b < n) (P : Nat → Prop) (x y : Nat) (w : Int) : EdS (cEP σ n P) (cFr σ b) (cTo σ b) (cLo σ b) (cHi σ b) x y w ↔ cEP σ n (fun j => P j ∨ j = b) x y w := by
  constructor
  · intro q
    rcases q with (⟨k, h1, h2, h3⟩ | h1) | h1
    · exact ⟨k, h1, Or.inl h2, h3⟩
    · exact ⟨b, hb, Or.inr rfl, Or.inl h1⟩
    · exact ⟨b, hb, Or.inr rfl, Or.inr h1⟩
  · intro ⟨k, h1, h2, h3⟩
    rcases h2 with h2 | h2
    · exact Or.inl (Or.inl ⟨k, h1, h2, h3⟩)
    · subst h2
      rcases h3 with h3 | h3
      · exact Or.inl (Or.inr h3)
      · exact Or.inr h3
theorem seedC {σ : hMem} {n : Nat} (hW : csW σ n) (P : Nat → Prop) : Seed (cEP σ n P) := by
  have key : ∀ m, m ≤ n → Seed (sEd (cFr σ) (cTo σ) (cLo σ) (cHi σ) P m) := by
    intro m
    induction m with
    | zero => intro _; exact seed_0 (fun a b w ⟨k, hk, _⟩ => absurd hk (Nat.not_lt_zero k))
    | succ m ih =>
      intro hm
      have h1 := ih (by omega)
      have hin : ∀ q, q ≤ n → EdIn (sEd (cFr σ) (cTo σ) (cLo σ) (cHi σ) P q) := fun q hq a b w ⟨k, hk, hr⟩ => cEP_in hW P a b w ⟨k, by omega, hr⟩
      obtain ⟨g1, g2, g3, g4, g5, g6⟩ := hW m (by omega)
      by_cases hp : P m
      · have h2 := (h1.edge (vp_lt g1) (vp_lt g2) g3 (u := cHi σ m) ⟨by omega, by omega⟩).edge (vp_lt g2) (vp_lt g1) (fun q => g3 q.symm) (u := -(cLo σ m)) ⟨by omega, by omega⟩
        refine h2.congr ?_ (fun a b w => sEd_s hp a b w)
        intro a b w hw
        exact hin (m + 1) (by omega) a b w ((sEd_s hp a b w).mp hw)
      · exact h1.congr (hin m (by omega)) (fun a b w => sEd_n hp a b w)
  exact key n (Nat.le_refl n)
/-- gone through already: trust above T, or T and a number below i -/
def pcB (tr : Nat → Int32) (T : Int) (i j : Nat) : Bool := decide (T < (tr j).toInt) || (decide ((tr j).toInt = T) && decide (j < i))
theorem pcB_iff {tr : Nat → Int32} {T : Int} {i j : Nat} : pcB tr T i j = true ↔ (T < (tr j).toInt ∨ ((tr j).toInt = T ∧ j < i)) := by simp [pcB]
/-- how many below n have p -/
def cnB (p : Nat → Bool) : Nat → Nat
  | 0 => 0
  | k + 1 => cnB p k + (if p k = true then 1 else 0)
theorem cnB_congr {p q : Nat → Bool} : ∀ n, (∀ j, j < n → p j = q j) → cnB p n = cnB q n
  | 0, _ => rfl
  | n + 1, h => by
    unfold cnB
    rw [cnB_congr n (fun j hj => h j (by omega)), h n (by omega)]
theorem cnB_add {p q : Nat → Bool} {b : Nat} (h : ∀ j, j ≠ b → p j = q j) (hp : p b = false) : ∀ n, cnB q n = cnB p n + (if b < n ∧ q b = true then 1 else 0)
  | 0 => by simp [cnB]
  | n + 1 => by
    unfold cnB
    rw [cnB_add h hp n]
    by_cases e : n = b
    · subst e
      simp [hp]
    · rw [h n e]
      by_cases h2 : b < n
      · simp [h2, show b < n + 1 by omega]
        omega
      · simp [h2, show ¬ b < n + 1 by omega]
theorem cnB_nz {g : Nat → Int32} : ∀ n, cnB (fun j => decide (¬ g j = 0)) n = cnz g n
  | 0 => rfl
  | n + 1 => by
    unfold cnB cnz
    rw [cnB_nz n]
    by_cases h : g n = 0 <;> simp [h]
theorem cnB_le (p : Nat → Bool) : ∀ n, cnB p n ≤ n
  | 0 => Nat.le_refl 0
  | n + 1 => by
    have := cnB_le p n
    unfold cnB
    split <;> omega
abbrev Pd (σ : hMem) (T : Int) (i : Nat) (g : Nat → Int32) : Nat → Prop := fun j => pcB (cTr σ) T i j = true ∧ ¬ g j = 0
/-- the invariant of going through -/
def Cn (σ : hMem) (n : Nat) (T : Int) (i : Nat) (g f : Nat → Int32) (c : Nat) : Prop :=
  (∀ k, k < n → pcB (cTr σ) T i k = true → (¬ g k = 0 ↔ NoNeg (cEP σ n (fun j => (Pd σ T i g j ∧ bef (cTr σ) j k) ∨ j = k)))) ∧ PT (cEP σ n (Pd σ T i g)) 16 (cX f) ∧ cnB (fun j => pcB (cTr σ) T i j && decide (¬ g j = 0)) n = c ∧ (∀ k, g k = 0 ∨ g k = 1)
theorem cEP_nn {σ : hMem} {n : Nat} {A B : Nat → Prop} (h : ∀ j, j < n → (A j ↔ B j)) : NoNeg (cEP σ n A) ↔ NoNeg (cEP σ n B) := NoNeg.congr (fun a b w => cEP_congr h a b w)
theorem Cn.z {σ : hMem} {n : Nat} {g f0 : Nat → Int32} (htr : ∀ k, k < n → (cTr σ k).toInt ≤ 9) (hg : ∀ k, g k = 0 ∨ g k = 1) : Cn σ n 9 0 g (bCl f0 16) 0 := by
  have hp : ∀ k, k < n → ¬ pcB (cTr σ) 9 0 k = true := fun k hk q => by
    have := htr k hk
    rw [pcB_iff] at q
    omega
  refine ⟨fun k hk q => absurd q (hp k hk), bCl_pt (fun a b w ⟨k, hk, hq, _⟩ => hp k hk hq.1), ?_, hg⟩
  have h0 : ∀ m, m ≤ n → cnB (fun j => pcB (cTr σ) 9 0 j && decide (¬ g j = 0)) m = 0 := by
    intro m
    induction m with
    | zero => intro _; rfl
    | succ m ih =>
      intro hm
      unfold cnB
      rw [ih (by omega)]
      simp [hp m (by omega)]
  exact h0 n (Nat.le_refl n)
/-- another way to say who is gone through, on numbers below n -/
theorem Cn.re {σ : hMem} {n i i' c : Nat} {T T' : Int} {g f : Nat → Int32} (h : Cn σ n T i g f c) (hW : csW σ n) (hp : ∀ j, j < n → pcB (cTr σ) T i j = pcB (cTr σ) T' i' j) : Cn σ n T' i' g f c := by
  obtain ⟨h1, h2, h3, h4⟩ := h
  refine ⟨fun k hk q => ?_, ?_, ?_, h4⟩
  · rw [h1 k hk (by rw [hp k hk]; exact q)]
    exact cEP_nn (fun j hj => by simp only [Pd, hp j hj])
  · exact h2.congr (Nat.le_refl _) (fun a b w => cEP_congr (fun j hj => by simp only [Pd, hp j hj]) a b w) (cEP_in hW _) (fun _ _ _ _ => rfl)
  · rw [← h3]
    exact cnB_congr n (fun j hj => by simp only [hp j hj])
/-- the next is b; r says whether it can be -/
theorem Cn.s {σ : hMem} {n b c : Nat} {T : Int} {g f f' : Nat → Int32} {r : Int32} (h : Cn σ n T b g f c) (hb : b < n) (hT : (cTr σ b).toInt = T) (hW : csW σ n)
    (hr : (r = 1 ∧ PT (cEP σ n (fun j => Pd σ T b g j ∨ j = b)) 16 (cX f')) ∨ (r = 0 ∧ f' = f ∧ ¬ NoNeg (cEP σ n (fun j => Pd σ T b g j ∨ j = b)))) : Cn σ n T (b + 1) (upd g b r) f' (c + (if r = 0 then 0 else 1)) := by
  obtain ⟨h1, h2, h3, h4⟩ := h
  have hpb : pcB (cTr σ) T b b = false := by
    cases q : pcB (cTr σ) T b b with
    | false => rfl
    | true => rw [pcB_iff] at q; omega
  have hpn : ∀ j, j ≠ b → pcB (cTr σ) T (b + 1) j = pcB (cTr σ) T b j := fun j hj => by
    have : pcB (cTr σ) T (b + 1) j = true ↔ pcB (cTr σ) T b j = true := by
      rw [pcB_iff, pcB_iff]
      omega
    cases q : pcB (cTr σ) T b j with
    | true => exact this.mpr q
    | false =>
      cases q2 : pcB (cTr σ) T (b + 1) j with
      | false => rfl
      | true => rw [this.mp q2] at q; cases q
  have hpb1 : pcB (cTr σ) T (b + 1) b = true := by
    rw [pcB_iff]
    omega
  have e0 : ∀ j, upd g b r j = if j = b then r else g j := fun j => rfl
  have hbef : ∀ j, pcB (cTr σ) T b j = true → bef (cTr σ) j b := fun j hj => by
    rw [pcB_iff] at hj
    unfold bef
    simp only [Int32.lt_iff_toInt_lt, ← Int32.toInt_inj]
    omega
  have hnb : ∀ k, pcB (cTr σ) T b k = true → ¬ bef (cTr σ) b k := fun k hk q => bef_asym q (hbef k hk)
  have hP : ∀ j, j ≠ b → (Pd σ T (b + 1) (upd g b r) j ↔ Pd σ T b g j) := fun j hj => by
    show (pcB (cTr σ) T (b + 1) j = true ∧ ¬ upd g b r j = 0) ↔ _
    rw [hpn j hj, e0, if_neg hj]
  have hPb : Pd σ T (b + 1) (upd g b r) b ↔ ¬ r = 0 := by
    show (pcB (cTr σ) T (b + 1) b = true ∧ ¬ upd g b r b = 0) ↔ _
    rw [e0, if_pos rfl]
    exact ⟨fun q => q.2, fun q => ⟨hpb1, q⟩⟩
  have hNb : NoNeg (cEP σ n (fun j => (Pd σ T (b + 1) (upd g b r) j ∧ bef (cTr σ) j b) ∨ j = b)) ↔ NoNeg (cEP σ n (fun j => Pd σ T b g j ∨ j = b)) := by
    apply cEP_nn
    intro j hj
    by_cases e : j = b
    · simp [e]
    · rw [hP j e]
      exact ⟨fun q => q.elim (fun z => Or.inl z.1) Or.inr, fun q => q.elim (fun z => Or.inl ⟨z, hbef j z.1⟩) Or.inr⟩
  refine ⟨fun k hk q => ?_, ?_, ?_, ?_⟩
  · by_cases e : k = b
    · subst e
      rw [e0, if_pos rfl, hNb]
      rcases hr with ⟨hr, hN⟩ | ⟨hr, _, hN⟩
      · rw [hr]
        exact ⟨fun _ => pt_nn (cEP_in hW _) hN, fun _ => by decide⟩
      · rw [hr]
        exact ⟨fun z => absurd rfl z, fun z => absurd z hN⟩
    · rw [hpn k e] at q
      rw [e0, if_neg e, h1 k hk q]
      apply cEP_nn
      intro j hj
      by_cases ej : j = b
      · rw [ej]
        have := hnb k q
        simp only [this, and_false, false_or]
      · rw [hP j ej]
  · rcases hr with ⟨hr, hN⟩ | ⟨hr, hf, hN⟩
    · refine hN.congr (Nat.le_refl _) (fun a x w => cEP_congr (fun j hj => ?_) a x w) (cEP_in hW _) (fun _ _ _ _ => rfl)
      by_cases e : j = b
      · subst e
        rw [hPb, hr]
        exact ⟨fun _ => by decide, fun _ => Or.inr rfl⟩
      · rw [hP j e]
        exact ⟨fun z => z.elim id (fun y => absurd y e), Or.inl⟩
    · rw [hf]
      refine h2.congr (Nat.le_refl _) (fun a x w => cEP_congr (fun j hj => ?_) a x w) (cEP_in hW _) (fun _ _ _ _ => rfl)
      by_cases e : j = b
      · subst e
        rw [hPb, hr]
        exact ⟨fun z => absurd (hpb.symm.trans z.1) (by decide), fun z => absurd rfl z⟩
      · rw [hP j e]
  · have hadd := cnB_add (p := fun j => pcB (cTr σ) T b j && decide (¬ g j = 0)) (q := fun j => pcB (cTr σ) T (b + 1) j && decide (¬ upd g b r j = 0)) (b := b) (fun j hj => by
      show (pcB (cTr σ) T b j && decide (¬ g j = 0)) = (pcB (cTr σ) T (b + 1) j && decide (¬ upd g b r j = 0))
      rw [hpn j hj, e0, if_neg hj]) (by
      show (pcB (cTr σ) T b b && decide (¬ g b = 0)) = false
      rw [hpb]
      rfl) n
    rw [hadd, h3]
    congr 1
    have e9 : (pcB (cTr σ) T (b + 1) b && decide (¬ upd g b r b = 0)) = decide (¬ r = 0) := by
      rw [hpb1, e0, if_pos rfl]
      simp
    show (if b < n ∧ (pcB (cTr σ) T (b + 1) b && decide (¬ upd g b r b = 0)) = true then 1 else 0) = _
    rw [e9]
    by_cases hr0 : r = 0
    · simp [hr0]
    · simp [hr0, hb]
  · intro k
    rw [e0]
    by_cases e : k = b
    · rw [if_pos e]
      rcases hr with ⟨hr, _⟩ | ⟨hr, _⟩
      · exact Or.inr hr
      · exact Or.inl hr
    · rw [if_neg e]
      exact h4 k
/-- what the class holds of belief -/
def cBel (σ : hMem) (n : Nat) (g f : Nat → Int32) (c : Nat) : Prop := Bel n (cTr σ) (cEP σ n) (fun k => ¬ g k = 0) ∧ PT (cEP σ n (fun k => ¬ g k = 0)) 16 (cX f) ∧ cnz g n = c ∧ (∀ k, g k = 0 ∨ g k = 1)
theorem Cn.end {σ : hMem} {n c : Nat} {g f : Nat → Int32} (h : Cn σ n (-1) 0 g f c) (hW : csW σ n) (htr : ∀ k, k < n → 0 ≤ (cTr σ k).toInt) : cBel σ n g f c := by
  obtain ⟨h1, h2, h3, h4⟩ := h
  have hp : ∀ j, j < n → pcB (cTr σ) (-1) 0 j = true := fun j hj => by
    have := htr j hj
    rw [pcB_iff]
    omega
  refine ⟨fun k hk => ?_, ?_, ?_, h4⟩
  · show ¬ g k = 0 ↔ _
    rw [h1 k hk (hp k hk)]
    exact cEP_nn (fun j hj => by simp only [Pd, hp j hj, true_and])
  · exact h2.congr (Nat.le_refl _) (fun a b w => cEP_congr (fun j hj => by simp only [Pd, hp j hj, true_and]) a b w) (cEP_in hW _) (fun _ _ _ _ => rfl)
  · rw [← h3, ← cnB_nz]
    exact cnB_congr n (fun j hj => by rw [hp j hj]; rfl)
