/-! The class's memory while it judges. -/
def jM (σ : hMem) (P : Nat → Nat → Int64) (Q : Nat → Nat → Int32) (HT : Nat → Nat → Int64) : hMem := (fun a b => if 35 ≤ a ∧ a < 43 then Q (a - 35) b else σ.1 a b, fun a b => if 35 ≤ a ∧ a < 43 then P (a - 35) b else σ.2.1 a b, σ.2.2.1, fun a b d => if (35 ≤ a ∧ a < 43) ∧ b = 0 ∧ d = 0 then HT (a - 35) else σ.2.2.2 a b d)
def u2 (Q : Nat → Nat → Int32) (a c : Nat) (v : Int32) : Nat → Nat → Int32 := fun x y => if x = a ∧ y = c then v else Q x y
theorem u2_s {S : Nat → Nat → Int32} {a c : Nat} {v : Int32} : u2 S a c v a c = v := if_pos ⟨rfl, rfl⟩
theorem u2_r {S : Nat → Nat → Int32} {a b c d : Nat} {v : Int32} (h : ¬ b = a) : u2 S a c v b d = S b d := if_neg (fun q => h q.1)
theorem jM_self (σ : hMem) : σ = jM σ (fun i b => hL σ (35 + i) b) (fun i b => hI σ (35 + i) b) (fun i => hB σ (35 + i) 0 0) := by
  obtain ⟨p, q, r, s⟩ := σ
  unfold jM hL hI hB
  congr 1
  · funext a b
    by_cases h : 35 ≤ a ∧ a < 43
    · simp [h, show 35 + (a - 35) = a by omega]
    · simp [h]
  congr 1
  · funext a b
    by_cases h : 35 ≤ a ∧ a < 43
    · simp [h, show 35 + (a - 35) = a by omega]
    · simp [h]
  congr 1
  funext a b d
  by_cases h : (35 ≤ a ∧ a < 43) ∧ b = 0 ∧ d = 0
  · simp [h, show 35 + (a - 35) = a by omega]
  · simp [h]
section JM
variable {σ : hMem} {P : Nat → Nat → Int64} {Q : Nat → Nat → Int32} {HT : Nat → Nat → Int64} {i k : Nat}
theorem pt35 {i : Nat} (h : i < 8) : 35 ≤ 35 + i ∧ 35 + i < 43 := by omega
theorem jM_L (h : i < 8) : hL (jM σ P Q HT) (35 + i) k = P i k := by
  show (if 35 ≤ 35 + i ∧ 35 + i < 43 then P (35 + i - 35) k else _) = _
  rw [if_pos (pt35 h), Nat.add_sub_cancel_left]
theorem jM_I (h : i < 8) : hI (jM σ P Q HT) (35 + i) k = Q i k := by
  show (if 35 ≤ 35 + i ∧ 35 + i < 43 then Q (35 + i - 35) k else _) = _
  rw [if_pos (pt35 h), Nat.add_sub_cancel_left]
theorem jM_B (h : i < 8) : hB (jM σ P Q HT) (35 + i) 0 0 = HT i := by
  show (if (35 ≤ 35 + i ∧ 35 + i < 43) ∧ 0 = 0 ∧ 0 = 0 then HT (35 + i - 35) else _) = _
  rw [if_pos ⟨pt35 h, rfl, rfl⟩, Nat.add_sub_cancel_left]
theorem jM_sL {v : Int64} (h : i < 8) : sL (jM σ P Q HT) (35 + i) k v = jM σ (up2 P i k v) Q HT := by
  unfold sL jM
  congr 1
  congr 1
  funext a b
  by_cases hp : 35 ≤ a ∧ a < 43
  · by_cases h2 : b = k ∧ a = 35 + i
    · obtain ⟨rfl, rfl⟩ := h2
      simp [hp, up2, Nat.add_sub_cancel_left]
    · have h3 : ¬ (a - 35 = i ∧ b = k) := fun q => h2 ⟨q.2, by omega⟩
      simp [hp, h2, up2, h3]
  · have h2 : ¬ (b = k ∧ a = 35 + i) := fun q => hp (by rw [q.2]; exact pt35 h)
    simp [hp, h2]
theorem jM_sI {v : Int32} (h : i < 8) : sI (jM σ P Q HT) (35 + i) k v = jM σ P (u2 Q i k v) HT := by
  unfold sI jM
  congr 1
  funext a b
  by_cases hp : 35 ≤ a ∧ a < 43
  · by_cases h2 : b = k ∧ a = 35 + i
    · obtain ⟨rfl, rfl⟩ := h2
      simp [hp, u2, Nat.add_sub_cancel_left]
    · have h3 : ¬ (a - 35 = i ∧ b = k) := fun q => h2 ⟨q.2, by omega⟩
      simp [hp, h2, u2, h3]
  · have h2 : ¬ (b = k ∧ a = 35 + i) := fun q => hp (by rw [q.2]; exact pt35 h)
    simp [hp, h2]
theorem jM_sB {c : Nat} {v : Int64} (h : i < 8) : sB (jM σ P Q HT) (35 + i) 0 0 (vp_updL (HT i) c v) = jM σ P Q (up2 HT i c v) := by
  unfold sB jM
  congr 1
  congr 1
  congr 1
  funext a b d
  by_cases hp : (35 ≤ a ∧ a < 43) ∧ b = 0 ∧ d = 0
  · obtain ⟨hp, rfl, rfl⟩ := hp
    by_cases h2 : a = 35 + i
    · subst h2
      simp only [hp, and_self, true_and, if_true, ↓reduceIte, Nat.add_sub_cancel_left]
      funext w
      unfold vp_updL up2
      by_cases h3 : w = c <;> simp [h3]
    · simp only [hp, h2, and_self, true_and, and_false, if_true, if_false, ↓reduceIte]
      funext w
      rw [up2_r (by omega)]
  · have h2 : ¬ (b = 0 ∧ d = 0 ∧ a = 35 + i) := fun q => hp ⟨by rw [q.2.2]; exact pt35 h, q.1, q.2.1⟩
    simp only [hp, h2, if_false, ↓reduceIte]
theorem jM_sLo {j : Nat} {v : Int64} (h : ¬ (35 ≤ j ∧ j < 43)) : sL (jM σ P Q HT) j k v = jM (sL σ j k v) P Q HT := by
  unfold sL jM
  congr 1
  congr 1
  funext a b
  by_cases h2 : b = k ∧ a = j
  · obtain ⟨rfl, rfl⟩ := h2
    simp [h]
  · by_cases hp : 35 ≤ a ∧ a < 43 <;> simp [h2, hp]
theorem jM_sIo {j : Nat} {v : Int32} (h : ¬ (35 ≤ j ∧ j < 43)) : sI (jM σ P Q HT) j k v = jM (sI σ j k v) P Q HT := by
  unfold sI jM
  congr 1
  funext a b
  by_cases h2 : b = k ∧ a = j
  · obtain ⟨rfl, rfl⟩ := h2
    simp [h]
  · by_cases hp : 35 ≤ a ∧ a < 43 <;> simp [h2, hp]
end JM
def cM (σ : hMem) (ns : Nat) (W G K : Int64) (P : Nat → Nat → Int64) (Q : Nat → Nat → Int32) (HT : Nat → Nat → Int64) : hMem := jM (sL (sL (sL (sI σ 12 9 (nI ns)) 12 10 W) 12 7 G) 12 8 K) P Q HT
section CM
variable {σ : hMem} {ns : Nat} {W G K : Int64} {P : Nat → Nat → Int64} {Q : Nat → Nat → Int32} {HT : Nat → Nat → Int64} {i k : Nat}
theorem cM_L (h : i < 8) : hL (cM σ ns W G K P Q HT) (35 + i) k = P i k := jM_L h
theorem cM_I (h : i < 8) : hI (cM σ ns W G K P Q HT) (35 + i) k = Q i k := jM_I h
theorem cM_B (h : i < 8) : hB (cM σ ns W G K P Q HT) (35 + i) 0 0 = HT i := jM_B h
theorem cM_sL {v : Int64} (h : i < 8) : sL (cM σ ns W G K P Q HT) (35 + i) k v = cM σ ns W G K (up2 P i k v) Q HT := jM_sL h
theorem cM_sI {v : Int32} (h : i < 8) : sI (cM σ ns W G K P Q HT) (35 + i) k v = cM σ ns W G K P (u2 Q i k v) HT := jM_sI h
theorem cM_sB {c : Nat} {v : Int64} (h : i < 8) : sB (cM σ ns W G K P Q HT) (35 + i) 0 0 (vp_updL (HT i) c v) = cM σ ns W G K P Q (up2 HT i c v) := jM_sB h
theorem cM_W {v : Int64} : sL (cM σ ns W G K P Q HT) 12 10 v = cM σ ns v G K P Q HT := by
  unfold cM
  rw [jM_sLo (by decide), sL_sL_c _ 12 10 12 8 _ _ (by decide), sL_sL_c _ 12 10 12 7 _ _ (by decide), sL_sL]
theorem cM_G {v : Int64} : sL (cM σ ns W G K P Q HT) 12 7 v = cM σ ns W v K P Q HT := by
  unfold cM
  rw [jM_sLo (by decide), sL_sL_c _ 12 7 12 8 _ _ (by decide), sL_sL]
theorem cM_K {v : Int64} : sL (cM σ ns W G K P Q HT) 12 8 v = cM σ ns W G v P Q HT := by
  unfold cM
  rw [jM_sLo (by decide), sL_sL]
theorem cM_ini (σ : hMem) (ns : Nat) (v : Int64) : sL (sI σ 12 9 (nI ns)) 12 10 v = cM σ ns v (hL σ 12 7) (hL σ 12 8) (fun i b => hL σ (35 + i) b) (fun i b => hI σ (35 + i) b) (fun i => hB σ (35 + i) 0 0) := by
  unfold cM
  have e1 := sL_self (sL (sI σ 12 9 (nI ns)) 12 10 v) 12 7
  have e2 := sL_self (sL (sI σ 12 9 (nI ns)) 12 10 v) 12 8
  have h1 : sL (sL (sI σ 12 9 (nI ns)) 12 10 v) 12 7 (hL σ 12 7) = sL (sI σ 12 9 (nI ns)) 12 10 v := e1.symm
  have h2 : sL (sL (sI σ 12 9 (nI ns)) 12 10 v) 12 8 (hL σ 12 8) = sL (sI σ 12 9 (nI ns)) 12 10 v := e2.symm
  rw [h1, h2]
  have e3 := jM_self (sL (sI σ 12 9 (nI ns)) 12 10 v)
  refine e3.trans ?_
  congr 1
  · funext i b
    show (if b = 10 ∧ 35 + i = 12 then _ else _) = _
    rw [if_neg (by omega)]
    rfl
  · funext i b
    show (if b = 9 ∧ 35 + i = 12 then _ else _) = _
    rw [if_neg (by omega)]
    rfl
end CM
theorem lay35 {i : Nat} (h : i < 8) : hLay (35 + i) = layPart := by
  rcases (show i = 0 ∨ i = 1 ∨ i = 2 ∨ i = 3 ∨ i = 4 ∨ i = 5 ∨ i = 6 ∨ i = 7 by omega) with rfl | rfl | rfl | rfl | rfl | rfl | rfl | rfl <;> rfl
theorem ci35 {i : Nat} (h : i < 8) : hCi (35 + i) = 6 := by
  rcases (show i = 0 ∨ i = 1 ∨ i = 2 ∨ i = 3 ∨ i = 4 ∨ i = 5 ∨ i = 6 ∨ i = 7 by omega) with rfl | rfl | rfl | rfl | rfl | rfl | rfl | rfl <;> rfl
theorem lay19 {i : Nat} (h : i < 8) : hLay (19 + i) = layShip (27 + i) := by
  rcases (show i = 0 ∨ i = 1 ∨ i = 2 ∨ i = 3 ∨ i = 4 ∨ i = 5 ∨ i = 6 ∨ i = 7 by omega) with rfl | rfl | rfl | rfl | rfl | rfl | rfl | rfl <;> rfl
theorem ci19 {i : Nat} (h : i < 8) : hCi (19 + i) = 7 := by
  rcases (show i = 0 ∨ i = 1 ∨ i = 2 ∨ i = 3 ∨ i = 4 ∨ i = 5 ∨ i = 6 ∨ i = 7 by omega) with rfl | rfl | rfl | rfl | rfl | rfl | rfl | rfl <;> rfl
theorem lay27 {i : Nat} (h : i < 8) : hLay (27 + i) = layCrew := by
  rcases (show i = 0 ∨ i = 1 ∨ i = 2 ∨ i = 3 ∨ i = 4 ∨ i = 5 ∨ i = 6 ∨ i = 7 by omega) with rfl | rfl | rfl | rfl | rfl | rfl | rfl | rfl <;> rfl
theorem ci27 {i : Nat} (h : i < 8) : hCi (27 + i) = 2 := by
  rcases (show i = 0 ∨ i = 1 ∨ i = 2 ∨ i = 3 ∨ i = 4 ∨ i = 5 ∨ i = 6 ∨ i = 7 by omega) with rfl | rfl | rfl | rfl | rfl | rfl | rfl | rfl <;> rfl
theorem lay13 {i : Nat} (h : i < 6) : hLay (13 + i) = layLaw := by
  rcases (show i = 0 ∨ i = 1 ∨ i = 2 ∨ i = 3 ∨ i = 4 ∨ i = 5 by omega) with rfl | rfl | rfl | rfl | rfl | rfl <;> rfl
theorem ci13 {i : Nat} (h : i < 6) : hCi (13 + i) = 5 := by
  rcases (show i = 0 ∨ i = 1 ∨ i = 2 ∨ i = 3 ∨ i = 4 ∨ i = 5 by omega) with rfl | rfl | rfl | rfl | rfl | rfl <;> rfl
/-- reads outside the parts -/
theorem cM_Io {σ : hMem} {ns : Nat} {W G K : Int64} {P : Nat → Nat → Int64} {Q : Nat → Nat → Int32} {HT : Nat → Nat → Int64} {j k : Nat} (h : ¬ (35 ≤ j ∧ j < 43)) (h2 : ¬ j = 12) : hI (cM σ ns W G K P Q HT) j k = hI σ j k := by
  show (if 35 ≤ j ∧ j < 43 then _ else hI (sI σ 12 9 (nI ns)) j k) = _
  rw [if_neg h, hI_sI, if_neg (fun q => h2 q.2)]
