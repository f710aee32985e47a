/-! The class reads: the words of a text. -/
def nwF (t : Nat → Int32) (w x : Nat) : List Int32 → Nat → Nat → Bool → Int32
  | [], _, _, _ => -1
  | c :: r, num, a, s => if c = 32 then (if s = true ∧ a = x then nI num else nwF t w x r (num + 1) w true) else nwF t w x r num (a + 1) (s && decide (a < x) && decide (t a = c))
section NW
variable {t : Nat → Int32} {w x : Nat} {l : List Int32} {k num a : Nat} {s : Bool}
theorem drop_c (hk : k < l.length) : l.drop k = l.getD k 0 :: l.drop (k + 1) := by
  rw [List.drop_eq_getElem_cons hk, List.getD_eq_getElem?_getD, List.getElem?_eq_getElem hk]
  rfl
theorem nwF_n (hk : k < l.length) (h : ¬ l.getD k 0 = 32) (b : Bool) (hb : (s && decide (a < x) && decide (t a = l.getD k 0)) = b) : nwF t w x (l.drop (k + 1)) num (a + 1) b = nwF t w x (l.drop k) num a s := by
  rw [drop_c hk]
  show _ = if l.getD k 0 = 32 then _ else _
  rw [if_neg h, hb]
theorem nwF_b (hk : k < l.length) (h : l.getD k 0 = 32) (hb : ¬ (s = true ∧ a = x)) : nwF t w x (l.drop (k + 1)) (num + 1) w true = nwF t w x (l.drop k) num a s := by
  rw [drop_c hk]
  show _ = if l.getD k 0 = 32 then (if s = true ∧ a = x then nI num else _) else _
  rw [if_pos h, if_neg hb]
theorem nwF_y (hk : k < l.length) (h : l.getD k 0 = 32) (hb : s = true ∧ a = x) : nI num = nwF t w x (l.drop k) num a s := by
  rw [drop_c hk]
  show _ = if l.getD k 0 = 32 then (if s = true ∧ a = x then nI num else _) else _
  rw [if_pos h, if_pos hb]
theorem nwF_e (hk : l.length ≤ k) : -1 = nwF t w x (l.drop k) num a s := by
  rw [List.drop_eq_nil_of_le hk]
  rfl
theorem nwF_w (r : List Int32) : ∀ (wl : List Int32), (∀ c ∈ wl, ¬ c = 32) → ∀ (k : Nat) (s : Bool), nwF t w x (wl ++ 32 :: r) num (w + k) s = if s = true ∧ x = w + k + wl.length ∧ ∀ j, j < wl.length → t (w + k + j) = wl.getD j 0 then nI num else nwF t w x r (num + 1) w true
  | [], _, k, s => by
    show (if (32 : Int32) = 32 then (if s = true ∧ w + k = x then nI num else _) else _) = _
    rw [if_pos rfl]
    by_cases h : s = true ∧ w + k = x
    · rw [if_pos h, if_pos ⟨h.1, h.2.symm, fun j hj => absurd hj (Nat.not_lt_zero j)⟩]
    · rw [if_neg h, if_neg (fun q => h ⟨q.1, q.2.1.symm⟩)]
  | c :: wl, hc, k, s => by
    show (if c = 32 then _ else nwF t w x (wl ++ 32 :: r) num (w + k + 1) (s && decide (w + k < x) && decide (t (w + k) = c))) = _
    rw [if_neg (hc c List.mem_cons_self), show w + k + 1 = w + (k + 1) from rfl, nwF_w r wl (fun d hd => hc d (List.mem_cons_of_mem _ hd)) (k + 1) _]
    have key : ((s && decide (w + k < x) && decide (t (w + k) = c)) = true ∧ x = w + (k + 1) + wl.length ∧ ∀ j, j < wl.length → t (w + (k + 1) + j) = wl.getD j 0) ↔ (s = true ∧ x = w + k + (c :: wl).length ∧ ∀ j, j < (c :: wl).length → t (w + k + j) = (c :: wl).getD j 0) := by
      simp only [Bool.and_eq_true, decide_eq_true_eq, List.length_cons]
      constructor
      · rintro ⟨⟨⟨h1, h2⟩, h3⟩, h4, h5⟩
        refine ⟨h1, by omega, fun j hj => ?_⟩
        cases j with
        | zero => exact h3
        | succ j =>
          have := h5 j (by omega)
          rw [show w + (k + 1) + j = w + k + (j + 1) by omega] at this
          exact this
      · rintro ⟨h1, h2, h3⟩
        refine ⟨⟨⟨h1, by omega⟩, h3 0 (by omega)⟩, by omega, fun j hj => ?_⟩
        have := h3 (j + 1) (by omega)
        rw [show w + k + (j + 1) = w + (k + 1) + j by omega] at this
        exact this
    by_cases h : (s && decide (w + k < x) && decide (t (w + k) = c)) = true ∧ x = w + (k + 1) + wl.length ∧ ∀ j, j < wl.length → t (w + (k + 1) + j) = wl.getD j 0
    · rw [if_pos h, if_pos (key.mp h)]
    · rw [if_neg h, if_neg (fun q => h (key.mpr q))]
theorem nw_no : ∀ i, i < 20 → 4 ≤ i → ∀ c ∈ sByt.getD i [], ¬ c = 32 := by decide +kernel
theorem nwF_i (r : List Int32) {i : Nat} (hi : i < 20) (h4 : 4 ≤ i) : nwF t w x (sByt.getD i [] ++ 32 :: r) num w true = if isT t w x i then nI num else nwF t w x r (num + 1) w true := by
  have h := nwF_w (t := t) (w := w) (x := x) (num := num) r (sByt.getD i []) (nw_no i hi h4) 0 true
  rw [show w + 0 = w from rfl] at h
  rw [h]
  have key : (true = true ∧ x = w + (sByt.getD i []).length ∧ ∀ j, j < (sByt.getD i []).length → t (w + j) = (sByt.getD i []).getD j 0) ↔ isT t w x i := by
    rw [isT_iff, sLen_eq i hi]
    exact ⟨fun q => q.2, fun q => ⟨rfl, q⟩⟩
  by_cases hh : isT t w x i
  · rw [if_pos (key.mpr hh), if_pos hh]
  · rw [if_neg (fun q => hh (key.mp q)), if_neg hh]
end NW
def nwT (t : Nat → Int32) (a b i : Nat) : Int32 := nwF t a b (sByt.getD i []) 0 a true
def c0I (t : Nat → Int32) (a b : Nat) : Nat := if isT t a b 4 then 0 else 1 + clI t a b
def afI (t : Nat → Int32) (a b : Nat) : Nat := if isT t a b 19 then 0 else 1
theorem nwT_1 (t : Nat → Int32) (a b : Nat) : nwT t a b 1 = if mkI t a b = 5 then -1 else nI (mkI t a b) := by
  have h : nwT t a b 1 = if isT t a b 5 then nI 0 else if isT t a b 6 then nI 1 else if isT t a b 7 then nI 2 else if isT t a b 8 then nI 3 else if isT t a b 9 then nI 4 else -1 := by
    unfold nwT
    rw [show sByt.getD 1 [] = sByt.getD 5 [] ++ 32 :: (sByt.getD 6 [] ++ 32 :: (sByt.getD 7 [] ++ 32 :: (sByt.getD 8 [] ++ 32 :: (sByt.getD 9 [] ++ 32 :: [])))) from rfl]
    rw [nwF_i _ (by decide) (by decide), nwF_i _ (by decide) (by decide), nwF_i _ (by decide) (by decide), nwF_i _ (by decide) (by decide), nwF_i _ (by decide) (by decide)]
    rfl
  rw [h]
  by_cases h0 : isT t a b 5
  · rw [if_pos h0, mk_is (m := 0) (by decide) (fun j hj => absurd hj (Nat.not_lt_zero j)) (Or.inr h0)]; rfl
  · rw [if_neg h0]
    by_cases h1 : isT t a b 6
    · rw [if_pos h1, mk_is (m := 1) (by decide) (fun j hj => by rw [show j = 0 by omega]; exact h0) (Or.inr h1)]; rfl
    · rw [if_neg h1]
      by_cases h2 : isT t a b 7
      · rw [if_pos h2, mk_is (m := 2) (by decide) (fun j hj => by rcases (show j = 0 ∨ j = 1 by omega) with rfl | rfl; exact h0; exact h1) (Or.inr h2)]; rfl
      · rw [if_neg h2]
        by_cases h3 : isT t a b 8
        · rw [if_pos h3, mk_is (m := 3) (by decide) (fun j hj => by rcases (show j = 0 ∨ j = 1 ∨ j = 2 by omega) with rfl | rfl | rfl; exact h0; exact h1; exact h2) (Or.inr h3)]; rfl
        · rw [if_neg h3]
          by_cases h4 : isT t a b 9
          · rw [if_pos h4, mk_is (m := 4) (by decide) (fun j hj => by rcases (show j = 0 ∨ j = 1 ∨ j = 2 ∨ j = 3 by omega) with rfl | rfl | rfl | rfl; exact h0; exact h1; exact h2; exact h3) (Or.inr h4)]; rfl
          · rw [if_neg h4, mk_is (m := 5) (by decide) (fun j hj => by rcases (show j = 0 ∨ j = 1 ∨ j = 2 ∨ j = 3 ∨ j = 4 by omega) with rfl | rfl | rfl | rfl | rfl; exact h0; exact h1; exact h2; exact h3; exact h4) (Or.inl rfl)]; rfl
theorem nwT_0 (t : Nat → Int32) (a b : Nat) : nwT t a b 0 = if c0I t a b = 6 then -1 else nI (c0I t a b) := by
  have h : nwT t a b 0 = if isT t a b 4 then nI 0 else if isT t a b 10 then nI 1 else if isT t a b 11 then nI 2 else if isT t a b 12 then nI 3 else if isT t a b 13 then nI 4 else if isT t a b 14 then nI 5 else -1 := by
    unfold nwT
    rw [show sByt.getD 0 [] = sByt.getD 4 [] ++ 32 :: (sByt.getD 10 [] ++ 32 :: (sByt.getD 11 [] ++ 32 :: (sByt.getD 12 [] ++ 32 :: (sByt.getD 13 [] ++ 32 :: (sByt.getD 14 [] ++ 32 :: []))))) from rfl]
    rw [nwF_i _ (by decide) (by decide), nwF_i _ (by decide) (by decide), nwF_i _ (by decide) (by decide), nwF_i _ (by decide) (by decide), nwF_i _ (by decide) (by decide), nwF_i _ (by decide) (by decide)]
    rfl
  rw [h]
  unfold c0I
  by_cases hw : isT t a b 4
  · rw [if_pos hw, if_pos hw]; rfl
  rw [if_neg hw, if_neg hw]
  by_cases h0 : isT t a b 10
  · rw [if_pos h0, cl_is (m := 0) (by decide) (fun j hj => absurd hj (Nat.not_lt_zero j)) (Or.inr h0)]; rfl
  · rw [if_neg h0]
    by_cases h1 : isT t a b 11
    · rw [if_pos h1, cl_is (m := 1) (by decide) (fun j hj => by rw [show j = 0 by omega]; exact h0) (Or.inr h1)]; rfl
    · rw [if_neg h1]
      by_cases h2 : isT t a b 12
      · rw [if_pos h2, cl_is (m := 2) (by decide) (fun j hj => by rcases (show j = 0 ∨ j = 1 by omega) with rfl | rfl; exact h0; exact h1) (Or.inr h2)]; rfl
      · rw [if_neg h2]
        by_cases h3 : isT t a b 13
        · rw [if_pos h3, cl_is (m := 3) (by decide) (fun j hj => by rcases (show j = 0 ∨ j = 1 ∨ j = 2 by omega) with rfl | rfl | rfl; exact h0; exact h1; exact h2) (Or.inr h3)]; rfl
        · rw [if_neg h3]
          by_cases h4 : isT t a b 14
          · rw [if_pos h4, cl_is (m := 4) (by decide) (fun j hj => by rcases (show j = 0 ∨ j = 1 ∨ j = 2 ∨ j = 3 by omega) with rfl | rfl | rfl | rfl; exact h0; exact h1; exact h2; exact h3) (Or.inr h4)]; rfl
          · rw [if_neg h4, cl_is (m := 5) (by decide) (fun j hj => by rcases (show j = 0 ∨ j = 1 ∨ j = 2 ∨ j = 3 ∨ j = 4 by omega) with rfl | rfl | rfl | rfl | rfl; exact h0; exact h1; exact h2; exact h3; exact h4) (Or.inl rfl)]; rfl
theorem nwT_2 (t : Nat → Int32) (a b : Nat) : nwT t a b 2 = if gfI t a b = 4 then -1 else nI (gfI t a b) := by
  have h : nwT t a b 2 = if isT t a b 15 then nI 0 else if isT t a b 16 then nI 1 else if isT t a b 17 then nI 2 else if isT t a b 18 then nI 3 else -1 := by
    unfold nwT
    rw [show sByt.getD 2 [] = sByt.getD 15 [] ++ 32 :: (sByt.getD 16 [] ++ 32 :: (sByt.getD 17 [] ++ 32 :: (sByt.getD 18 [] ++ 32 :: []))) from rfl]
    rw [nwF_i _ (by decide) (by decide), nwF_i _ (by decide) (by decide), nwF_i _ (by decide) (by decide), nwF_i _ (by decide) (by decide)]
    rfl
  rw [h]
  by_cases h0 : isT t a b 15
  · rw [if_pos h0, gf_is (m := 0) (by decide) (fun j hj => absurd hj (Nat.not_lt_zero j)) (Or.inr h0)]; rfl
  · rw [if_neg h0]
    by_cases h1 : isT t a b 16
    · rw [if_pos h1, gf_is (m := 1) (by decide) (fun j hj => by rw [show j = 0 by omega]; exact h0) (Or.inr h1)]; rfl
    · rw [if_neg h1]
      by_cases h2 : isT t a b 17
      · rw [if_pos h2, gf_is (m := 2) (by decide) (fun j hj => by rcases (show j = 0 ∨ j = 1 by omega) with rfl | rfl; exact h0; exact h1) (Or.inr h2)]; rfl
      · rw [if_neg h2]
        by_cases h3 : isT t a b 18
        · rw [if_pos h3, gf_is (m := 3) (by decide) (fun j hj => by rcases (show j = 0 ∨ j = 1 ∨ j = 2 by omega) with rfl | rfl | rfl; exact h0; exact h1; exact h2) (Or.inr h3)]; rfl
        · rw [if_neg h3, gf_is (m := 4) (by decide) (fun j hj => by rcases (show j = 0 ∨ j = 1 ∨ j = 2 ∨ j = 3 by omega) with rfl | rfl | rfl | rfl; exact h0; exact h1; exact h2; exact h3) (Or.inl rfl)]; rfl
theorem nwT_3 (t : Nat → Int32) (a b : Nat) : nwT t a b 3 = if afI t a b = 1 then -1 else nI (afI t a b) := by
  have h : nwT t a b 3 = if isT t a b 19 then nI 0 else -1 := by
    unfold nwT
    rw [show sByt.getD 3 [] = sByt.getD 19 [] ++ 32 :: [] from rfl]
    rw [nwF_i _ (by decide) (by decide)]
    rfl
  rw [h]
  unfold afI
  by_cases h0 : isT t a b 19
  · rw [if_pos h0, if_pos h0]; rfl
  · rw [if_neg h0, if_neg h0]; rfl
/-- the memory while the class reads -/
def tM (σ : hMem) (pl wp : Nat) (td ft : Int32) : hMem := sI (sI (sI (sI σ 9 2 (nI pl)) 9 3 (nI wp)) 9 4 td) 9 5 ft
theorem tM_p (σ : hMem) (pl wp q : Nat) (td ft : Int32) : sI (tM σ pl wp td ft) 9 2 (nI q) = tM σ q wp td ft := by
  unfold tM
  rw [sI_sI_c _ 9 2 9 5 _ _ (by decide), sI_sI_c _ 9 2 9 4 _ _ (by decide), sI_sI_c _ 9 2 9 3 _ _ (by decide), sI_sI]
theorem tM_w (σ : hMem) (pl wp q : Nat) (td ft : Int32) : sI (tM σ pl wp td ft) 9 3 (nI q) = tM σ pl q td ft := by
  unfold tM
  rw [sI_sI_c _ 9 3 9 5 _ _ (by decide), sI_sI_c _ 9 3 9 4 _ _ (by decide), sI_sI]
theorem tM_t (σ : hMem) (pl wp : Nat) (td ft td' : Int32) : sI (tM σ pl wp td ft) 9 4 td' = tM σ pl wp td' ft := by
  unfold tM
  rw [sI_sI_c _ 9 4 9 5 _ _ (by decide), sI_sI]
theorem tM_f (σ : hMem) (pl wp : Nat) (td ft ft' : Int32) : sI (tM σ pl wp td ft) 9 5 ft' = tM σ pl wp td ft' := by
  unfold tM
  rw [sI_sI]
def tdF (td r : Int32) : Int32 := if 0 ≤ r then td ||| 1 <<< (r &&& 31) else td
def ttF (td ft : Int32) (w0 : Nat) (r : Int32) : Int32 := if 0 ≤ r then (if td &&& 1 <<< (r &&& 31) = 0 then ft else ftl ft (3 + 4 * nI w0)) else ft
def nmF (t : Nat → Int32) (n p : Nat) (g ft : Int32) : Int32 := if dg t n (sk t n p) = sk t n p then ftl ft (1 + 4 * nI (sk t n p)) else if 4 < dg t n (sk t n p) - sk t n p ∨ g < cV t (sk t n p) (dg t n (sk t n p) - sk t n p) then ftl ft (2 + 4 * nI (sk t n p)) else ft
