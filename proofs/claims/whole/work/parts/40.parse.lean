/-! The reading of a law: scanning, words, numbers. -/
def scnF (P : Int32 → Bool) (t : Nat → Int32) : Nat → Nat → Nat
  | 0, a => a
  | f + 1, a => if P (t a) = true then scnF P t f (a + 1) else a
/-- the first place from a on, below n, where P doesn't hold; else n -/
def scn (P : Int32 → Bool) (t : Nat → Int32) (n a : Nat) : Nat := scnF P t (n - a) a
theorem scn_s {P : Int32 → Bool} {t : Nat → Int32} {n a : Nat} (h : a < n) (hp : P (t a) = true) : scn P t n (a + 1) = scn P t n a := by
  unfold scn
  rw [show n - a = (n - (a + 1)) + 1 by omega]
  show _ = if P (t a) = true then _ else a
  rw [if_pos hp]
theorem scn_n {P : Int32 → Bool} {t : Nat → Int32} {n a : Nat} (h : n ≤ a) : scn P t n a = a := by
  unfold scn
  rw [show n - a = 0 by omega]
  rfl
theorem scn_x {P : Int32 → Bool} {t : Nat → Int32} {n a : Nat} (hp : ¬ P (t a) = true) : scn P t n a = a := by
  unfold scn
  cases n - a with
  | zero => rfl
  | succ f =>
    show (if P (t a) = true then _ else a) = a
    rw [if_neg hp]
theorem scnF_le {P : Int32 → Bool} {t : Nat → Int32} : ∀ f a, a ≤ scnF P t f a ∧ scnF P t f a ≤ a + f
  | 0, a => ⟨Nat.le_refl a, Nat.le_refl a⟩
  | f + 1, a => by
    have := scnF_le (P := P) (t := t) f (a + 1)
    unfold scnF
    split <;> omega
theorem scn_ge (P : Int32 → Bool) (t : Nat → Int32) (n a : Nat) : a ≤ scn P t n a := (scnF_le _ _).1
theorem scn_le {P : Int32 → Bool} {t : Nat → Int32} {n a : Nat} (h : a ≤ n) : scn P t n a ≤ n := by
  have := (scnF_le (P := P) (t := t) (n - a) a).2
  unfold scn
  omega
theorem scnF_all {P : Int32 → Bool} {t : Nat → Int32} : ∀ f a j, a ≤ j → j < scnF P t f a → P (t j) = true
  | 0, a, j, h1, h2 => absurd h2 (by show ¬ j < a; omega)
  | f + 1, a, j, h1, h2 => by
    unfold scnF at h2
    by_cases hp : P (t a) = true
    · rw [if_pos hp] at h2
      by_cases e : j = a
      · rw [e]; exact hp
      · exact scnF_all f (a + 1) j (by omega) h2
    · rw [if_neg hp] at h2
      omega
theorem scn_all {P : Int32 → Bool} {t : Nat → Int32} {n a j : Nat} (h1 : a ≤ j) (h2 : j < scn P t n a) : P (t j) = true := scnF_all _ a j h1 h2
theorem scn_out {P : Int32 → Bool} {t : Nat → Int32} : ∀ (f n a : Nat), n - a = f → scn P t n a < n → ¬ P (t (scn P t n a)) = true
  | 0, n, a, h, h2 => by
    have := scn_ge P t n a
    omega
  | f + 1, n, a, h, h2 => by
    by_cases hp : P (t a) = true
    · have e := scn_s (t := t) (n := n) (a := a) (by omega) hp
      rw [← e] at h2 ⊢
      exact scn_out f n (a + 1) (by omega) h2
    · rw [scn_x hp]
      exact hp
def pB (c : Int32) : Bool := decide (c = 32)
theorem pB_iff {c : Int32} : pB c = true ↔ c = 32 := by simp [pB]
abbrev sk (t : Nat → Int32) (n a : Nat) : Nat := scn pB t n a
abbrev wd (t : Nat → Int32) (n a : Nat) : Nat := scn (fun c => inB c 97 122) t n a
abbrev dg (t : Nat → Int32) (n a : Nat) : Nat := scn (fun c => inB c 48 57) t n a
theorem sk_sk {t : Nat → Int32} {n a : Nat} (h : a ≤ n) : sk t n (sk t n a) = sk t n a := by
  by_cases h1 : sk t n a < n
  · exact scn_x (scn_out _ n a rfl h1)
  · exact scn_n (by omega)
/-- the word from a to b is the text i -/
def isTB (t : Nat → Int32) (a b i : Nat) : Bool := decide (b = a + sLen.getD i 0 ∧ ∀ k, k < sLen.getD i 0 → t (a + k) = chr i k)
abbrev isT (t : Nat → Int32) (a b i : Nat) : Prop := isTB t a b i = true
theorem isT_iff {t : Nat → Int32} {a b i : Nat} : isT t a b i ↔ (b = a + sLen.getD i 0 ∧ ∀ k, k < sLen.getD i 0 → t (a + k) = chr i k) := decide_eq_true_iff
def fF (Q : Nat → Bool) : Nat → Nat → Nat
  | 0, m => m
  | f + 1, m => if Q m = true then m else fF Q f (m + 1)
theorem fF_le (Q : Nat → Bool) : ∀ f m, m ≤ fF Q f m ∧ fF Q f m ≤ m + f
  | 0, m => ⟨Nat.le_refl m, Nat.le_refl m⟩
  | f + 1, m => by
    have := fF_le Q f (m + 1)
    unfold fF
    split <;> omega
def mkI (t : Nat → Int32) (a b : Nat) : Nat := fF (fun m => isTB t a b (5 + m)) 5 0
def clI (t : Nat → Int32) (a b : Nat) : Nat := fF (fun m => isTB t a b (10 + m)) 5 0
def gfI (t : Nat → Int32) (a b : Nat) : Nat := fF (fun m => isTB t a b (15 + m)) 4 0
def mV (t : Nat → Int32) (s : Nat) : Nat → Int32
  | 0 => 0
  | k + 1 => if k < 4 then 10 * mV t s k + t (s + k) - 48 else 1000000
def cV (t : Nat → Int32) (s : Nat) : Nat → Int32
  | 0 => 0
  | k + 1 => if k < 4 then cV t s k * 10 + t (s + k) - 48 else cV t s k
theorem mV_cV (t : Nat → Int32) (s : Nat) : ∀ k, k ≤ 4 → mV t s k = cV t s k
  | 0, _ => rfl
  | k + 1, h => by
    unfold mV cV
    rw [if_pos (by omega), if_pos (by omega), mV_cV t s k (by omega), Int32.mul_comm]
theorem mV_big (t : Nat → Int32) (s : Nat) {k : Nat} (h : 4 < k) : mV t s k = 1000000 := by
  obtain ⟨q, rfl⟩ : ∃ q, k = q + 1 := ⟨k - 1, by omega⟩
  unfold mV
  rw [if_neg (by omega)]
/-- a number: its fault, or where it ends and what it is -/
def pN (t : Nat → Int32) (n p : Nat) (g : Int32) : Int32 ⊕ (Nat × Int32) :=
  if dg t n (sk t n p) = sk t n p then .inl (1 + 4 * nI (sk t n p))
  else if 4 < dg t n (sk t n p) - sk t n p ∨ ¬ inB (cV t (sk t n p) (dg t n (sk t n p) - sk t n p)) 0 g = true then .inl (2 + 4 * nI (sk t n p))
  else .inr (dg t n (sk t n p), cV t (sk t n p) (dg t n (sk t n p) - sk t n p))
/-- a clause: its fault, or where it ends, what is told, what the law is -/
abbrev cRes : Type := Int32 ⊕ (Nat × (Nat → Int32) × (Nat → Int32))
def clW (t : Nat → Int32) (n b : Nat) (T L : Nat → Int32) : cRes :=
  if mkI t (sk t n b) (wd t n (sk t n b)) = 5 then .inl (1 + 4 * nI (sk t n b))
  else if ¬ T (mkI t (sk t n b) (wd t n (sk t n b))) = 0 then .inl (3 + 4 * nI (sk t n b))
  else match pN t n (wd t n (sk t n b)) 99 with
    | .inl e => .inl e
    | .inr (q, v) => .inr (q, upd T (mkI t (sk t n b) (wd t n (sk t n b))) 1, upd L (mkI t (sk t n b) (wd t n (sk t n b))) v)
def clG (t : Nat → Int32) (n b : Nat) (T L : Nat → Int32) : cRes :=
  if gfI t (sk t n b) (wd t n (sk t n b)) = 4 then .inl (1 + 4 * nI (sk t n b))
  else .inr (wd t n (sk t n b), upd T 6 1, upd L 6 (nI (gfI t (sk t n b) (wd t n (sk t n b)))))
def clA (t : Nat → Int32) (n q : Nat) (v : Int32) (T L : Nat → Int32) : cRes :=
  if isT t (sk t n q) (wd t n (sk t n q)) 19 then
    match pN t n (wd t n (sk t n q)) 5000 with
    | .inl e => .inl e
    | .inr (q2, v2) => .inr (q2, upd T 9 1, upd (upd L 9 v) 10 v2)
  else .inl (1 + 4 * nI (sk t n q))
def gMx (c : Nat) : Int32 := if c = 5 then 9999 else if c = 8 then 100 else 1000
def clV (t : Nat → Int32) (n b c : Nat) (T L : Nat → Int32) : cRes :=
  match pN t n b (gMx c) with
  | .inl e => .inl e
  | .inr (q, v) => if c = 9 then clA t n q v T L else .inr (q, upd T c 1, upd L c v)
def clC (t : Nat → Int32) (n a b : Nat) (T L : Nat → Int32) : cRes :=
  if clI t a b = 5 then .inl (1 + 4 * nI a)
  else if ¬ T (5 + clI t a b) = 0 then .inl (3 + 4 * nI a)
  else if clI t a b = 1 then clG t n b T L else clV t n b (5 + clI t a b) T L
def clP (t : Nat → Int32) (n p : Nat) (T L : Nat → Int32) : cRes :=
  if isT t (sk t n p) (wd t n (sk t n p)) 4 then clW t n (wd t n (sk t n p)) T L
  else clC t n (sk t n p) (wd t n (sk t n p)) T L
/-- the rest of a law's text from p on -/
def lwP (t : Nat → Int32) (n : Nat) : Nat → Nat → (Nat → Int32) → (Nat → Int32) → Int32 ⊕ (Nat → Int32)
  | 0, _, _, _ => .inl 0
  | f + 1, p, T, L =>
    if sk t n p = n then (if T 6 = 0 then .inl (4 + 4 * nI n) else .inr L) else
      match clP t n p T L with
      | .inl e => .inl e
      | .inr (q, T', L') =>
        if sk t n q < n ∧ t (sk t n q) = 59 then lwP t n f (sk t n q + 1) T' L' else .inl (1 + 4 * nI (sk t n q))
theorem fc_pos {k : Int32} {p : Nat} (hk : k = 1 ∨ k = 2 ∨ k = 3 ∨ k = 4) (hp : p ≤ 300) : 0 < k + 4 * nI p := by
  have e : k + 4 * nI p = nI (k.toNatClampNeg + 4 * p) := by
    rcases hk with rfl | rfl | rfl | rfl
    · show (1 : Int32) + 4 * nI p = nI (1 + 4 * p)
      rw [← nI_add, ← pk_mul]; rfl
    · show (2 : Int32) + 4 * nI p = nI (2 + 4 * p)
      rw [← nI_add, ← pk_mul]; rfl
    · show (3 : Int32) + 4 * nI p = nI (3 + 4 * p)
      rw [← nI_add, ← pk_mul]; rfl
    · show (4 : Int32) + 4 * nI p = nI (4 + 4 * p)
      rw [← nI_add, ← pk_mul]; rfl
  rw [e]
  have h4 : 1 ≤ k.toNatClampNeg ∧ k.toNatClampNeg ≤ 4 := by
    rcases hk with rfl | rfl | rfl | rfl <;> decide
  exact nI_lt (a := 0) (by omega) (by omega)
def ftl (ft v : Int32) : Int32 := if ft = 0 then v else ft
theorem nI_subN {a b : Nat} (h : a ≤ b) : nI b - nI a = nI (b - a) := by
  obtain ⟨d, rfl⟩ : ∃ d, b = a + d := ⟨b - a, by omega⟩
  rw [show a + d - a = d by omega, ← nI_add, Int32.add_comm, Int32.sub_eq_add_neg, Int32.add_assoc, Int32.add_right_neg, Int32.add_zero]
/-- the memory while the model reads -/
def pM (σ : hMem) (b a : Nat) (ft : Int32) (L : Nat → Int32) : hMem := sI (sI (sI (sA σ 43 29 6 L) 43 32 (nI b)) 43 33 (nI a)) 43 34 ft
theorem pM_b (σ : hMem) (b a b' : Nat) (ft : Int32) (L : Nat → Int32) : sI (pM σ b a ft L) 43 32 (nI b') = pM σ b' a ft L := by
  unfold pM
  rw [sI_sI_c _ 43 32 43 34 _ _ (by decide), sI_sI_c _ 43 32 43 33 _ _ (by decide), sI_sI]
theorem pM_a (σ : hMem) (b a a' : Nat) (ft : Int32) (L : Nat → Int32) : sI (pM σ b a ft L) 43 33 (nI a') = pM σ b a' ft L := by
  unfold pM
  rw [sI_sI_c _ 43 33 43 34 _ _ (by decide), sI_sI]
theorem pM_f (σ : hMem) (b a : Nat) (ft ft' : Int32) (L : Nat → Int32) : sI (pM σ b a ft L) 43 34 ft' = pM σ b a ft' L := by
  unfold pM
  rw [sI_sI]
theorem pM_L (σ : hMem) (b a : Nat) (ft : Int32) (L L' : Nat → Int32) : sA (pM σ b a ft L) 43 29 6 L' = pM σ b a ft L' := by
  show sI (sI (sI (sA (sA σ 43 29 6 L) 43 29 6 L') 43 32 (nI b)) 43 33 (nI a)) 43 34 ft = _
  rw [sA_sA]
  rfl
theorem pM_fail (σ : hMem) (b a : Nat) (ft k x : Int32) (L : Nat → Int32) : (if hI (pM σ b a ft L) 43 34 = 0 then sI (pM σ b a ft L) 43 34 (k + 4 * x) else pM σ b a ft L) = pM σ b a (ftl ft (k + 4 * x)) L := by
  show (if ft = 0 then _ else _) = _
  unfold ftl
  by_cases h : ft = 0
  · rw [if_pos h, if_pos h, pM_f]
  · rw [if_neg h, if_neg h]
