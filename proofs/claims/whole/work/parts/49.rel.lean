/-- a law's contents, and the tape's -/
def vM (σ : hMem) (j : Nat) (W V : Nat → Int32) : hMem := sI (sI (sI (sI (sI (sI (sA σ j 0 0 W) j 1 (V 5)) j 2 (V 6)) j 3 (V 7)) j 4 (V 8)) j 5 (V 9)) j 6 (V 10)
def kM (σ : hMem) (j : Nat) (W V : Nat → Int32) (pl wp : Nat) (td ft : Int32) : hMem := tM (vM σ j W V) pl wp td ft
theorem vM_n {σ : hMem} {j n : Nat} {W V : Nat → Int32} (hj9 : j ≠ 9) (hn : hI σ 9 1 = nI n) : hI (vM σ j W V) 9 1 = nI n := by
  unfold vM
  have h : ∀ b, ¬ (1 = b ∧ 9 = j) := fun b q => hj9 q.2.symm
  rw [hI_sI, if_neg (h _), hI_sI, if_neg (h _), hI_sI, if_neg (h _), hI_sI, if_neg (h _), hI_sI, if_neg (h _), hI_sI, if_neg (h _), hI_sA]
  exact hn
theorem vM_t {σ : hMem} {j : Nat} {t W V : Nat → Int32} (hj9 : j ≠ 9) (ht : hA σ 9 0 0 = t) : hA (vM σ j W V) 9 0 0 = t := by
  unfold vM
  rw [hA_sI, hA_sI, hA_sI, hA_sI, hA_sI, hA_sI, hA_sA, if_neg (fun q => hj9 q.2.2.symm)]
  exact ht
theorem kM_row {σ : hMem} {j : Nat} {W V : Nat → Int32} {pl wp : Nat} {td ft : Int32} : hA (kM σ j W V pl wp td ft) j 0 0 = W := by
  unfold kM tM vM
  rw [hA_sI, hA_sI, hA_sI, hA_sI, hA_sI, hA_sI, hA_sI, hA_sI, hA_sI, hA_sI, hA_same]
theorem kM_W {σ : hMem} {j : Nat} {W V W' : Nat → Int32} {pl wp : Nat} {td ft : Int32} : sA (kM σ j W V pl wp td ft) j 0 0 W' = kM σ j W' V pl wp td ft := by
  show tM (sI (sI (sI (sI (sI (sI (sA (sA σ j 0 0 W) j 0 0 W') j 1 (V 5)) j 2 (V 6)) j 3 (V 7)) j 4 (V 8)) j 5 (V 9)) j 6 (V 10)) pl wp td ft = _
  rw [sA_sA]
  rfl
theorem kM_V1 {σ : hMem} {j : Nat} {W V : Nat → Int32} {pl wp : Nat} {td ft v : Int32} (hj9 : j ≠ 9) : sI (kM σ j W V pl wp td ft) j 1 v = kM σ j W (upd V 5 v) pl wp td ft := by
  unfold kM tM vM
  rw [sI_sI_c _ j 1 9 5 _ _ (fun q => hj9 q.2.symm), sI_sI_c _ j 1 9 4 _ _ (fun q => hj9 q.2.symm), sI_sI_c _ j 1 9 3 _ _ (fun q => hj9 q.2.symm), sI_sI_c _ j 1 9 2 _ _ (fun q => hj9 q.2.symm), sI_sI_c _ j 1 j 6 _ _ (fun q => absurd q.1 (by decide)), sI_sI_c _ j 1 j 5 _ _ (fun q => absurd q.1 (by decide)), sI_sI_c _ j 1 j 4 _ _ (fun q => absurd q.1 (by decide)), sI_sI_c _ j 1 j 3 _ _ (fun q => absurd q.1 (by decide)), sI_sI_c _ j 1 j 2 _ _ (fun q => absurd q.1 (by decide)), sI_sI]
  rfl
theorem kM_V2 {σ : hMem} {j : Nat} {W V : Nat → Int32} {pl wp : Nat} {td ft v : Int32} (hj9 : j ≠ 9) : sI (kM σ j W V pl wp td ft) j 2 v = kM σ j W (upd V 6 v) pl wp td ft := by
  unfold kM tM vM
  rw [sI_sI_c _ j 2 9 5 _ _ (fun q => hj9 q.2.symm), sI_sI_c _ j 2 9 4 _ _ (fun q => hj9 q.2.symm), sI_sI_c _ j 2 9 3 _ _ (fun q => hj9 q.2.symm), sI_sI_c _ j 2 9 2 _ _ (fun q => hj9 q.2.symm), sI_sI_c _ j 2 j 6 _ _ (fun q => absurd q.1 (by decide)), sI_sI_c _ j 2 j 5 _ _ (fun q => absurd q.1 (by decide)), sI_sI_c _ j 2 j 4 _ _ (fun q => absurd q.1 (by decide)), sI_sI_c _ j 2 j 3 _ _ (fun q => absurd q.1 (by decide)), sI_sI]
  rfl
theorem kM_V3 {σ : hMem} {j : Nat} {W V : Nat → Int32} {pl wp : Nat} {td ft v : Int32} (hj9 : j ≠ 9) : sI (kM σ j W V pl wp td ft) j 3 v = kM σ j W (upd V 7 v) pl wp td ft := by
  unfold kM tM vM
  rw [sI_sI_c _ j 3 9 5 _ _ (fun q => hj9 q.2.symm), sI_sI_c _ j 3 9 4 _ _ (fun q => hj9 q.2.symm), sI_sI_c _ j 3 9 3 _ _ (fun q => hj9 q.2.symm), sI_sI_c _ j 3 9 2 _ _ (fun q => hj9 q.2.symm), sI_sI_c _ j 3 j 6 _ _ (fun q => absurd q.1 (by decide)), sI_sI_c _ j 3 j 5 _ _ (fun q => absurd q.1 (by decide)), sI_sI_c _ j 3 j 4 _ _ (fun q => absurd q.1 (by decide)), sI_sI]
  rfl
theorem kM_V4 {σ : hMem} {j : Nat} {W V : Nat → Int32} {pl wp : Nat} {td ft v : Int32} (hj9 : j ≠ 9) : sI (kM σ j W V pl wp td ft) j 4 v = kM σ j W (upd V 8 v) pl wp td ft := by
  unfold kM tM vM
  rw [sI_sI_c _ j 4 9 5 _ _ (fun q => hj9 q.2.symm), sI_sI_c _ j 4 9 4 _ _ (fun q => hj9 q.2.symm), sI_sI_c _ j 4 9 3 _ _ (fun q => hj9 q.2.symm), sI_sI_c _ j 4 9 2 _ _ (fun q => hj9 q.2.symm), sI_sI_c _ j 4 j 6 _ _ (fun q => absurd q.1 (by decide)), sI_sI_c _ j 4 j 5 _ _ (fun q => absurd q.1 (by decide)), sI_sI]
  rfl
theorem kM_V5 {σ : hMem} {j : Nat} {W V : Nat → Int32} {pl wp : Nat} {td ft v : Int32} (hj9 : j ≠ 9) : sI (kM σ j W V pl wp td ft) j 5 v = kM σ j W (upd V 9 v) pl wp td ft := by
  unfold kM tM vM
  rw [sI_sI_c _ j 5 9 5 _ _ (fun q => hj9 q.2.symm), sI_sI_c _ j 5 9 4 _ _ (fun q => hj9 q.2.symm), sI_sI_c _ j 5 9 3 _ _ (fun q => hj9 q.2.symm), sI_sI_c _ j 5 9 2 _ _ (fun q => hj9 q.2.symm), sI_sI_c _ j 5 j 6 _ _ (fun q => absurd q.1 (by decide)), sI_sI]
  rfl
theorem kM_V6 {σ : hMem} {j : Nat} {W V : Nat → Int32} {pl wp : Nat} {td ft v : Int32} (hj9 : j ≠ 9) : sI (kM σ j W V pl wp td ft) j 6 v = kM σ j W (upd V 10 v) pl wp td ft := by
  unfold kM tM vM
  rw [sI_sI_c _ j 6 9 5 _ _ (fun q => hj9 q.2.symm), sI_sI_c _ j 6 9 4 _ _ (fun q => hj9 q.2.symm), sI_sI_c _ j 6 9 3 _ _ (fun q => hj9 q.2.symm), sI_sI_c _ j 6 9 2 _ _ (fun q => hj9 q.2.symm), sI_sI]
  rfl

theorem cV_nn (t : Nat → Int32) (s : Nat) : ∀ k, k ≤ 4 → (∀ j, s ≤ j → j < s + k → inB (t j) 48 57 = true) → ∃ v, v < 10 ^ k ∧ cV t s k = nI v
  | 0, _, _ => ⟨0, by decide, rfl⟩
  | k + 1, h, hd => by
    obtain ⟨v, h1, h2⟩ := cV_nn t s k (by omega) (fun j a b => hd j a (by omega))
    obtain ⟨d, h3, h4, h5⟩ := nI_in1 (lo := 48) (hi := 57) (hd (s + k) (by omega) (by omega)) rfl (by decide) (by decide)
    refine ⟨v * 10 + (d - 48), by rw [Nat.pow_succ]; omega, ?_⟩
    unfold cV
    rw [if_pos (by omega), h2, h5]
    have e1 : nI v * 10 = nI (v * 10) := pk_mul v 10
    rw [e1, nI_add, show (48 : Int32) = nI 48 from rfl, nI_subN (by omega)]
    congr 1
    omega
section NM
variable {t : Nat → Int32} {n p : Nat} {g ft : Int32}
theorem nmF_n (h : ¬ ft = 0) : nmF t n p g ft = ft := by
  unfold nmF
  rw [ftl_n h, ftl_n h]
  split
  · rfl
  · split <;> rfl
theorem num_rel (hn : n ≤ 300) (hp : p ≤ n) : (pN t n p g = .inl (nmF t n p g 0) ∧ 0 < nmF t n p g 0) ∨ (pN t n p g = .inr (dg t n (sk t n p), cV t (sk t n p) (dg t n (sk t n p) - sk t n p)) ∧ nmF t n p g 0 = 0) := by
  have hS : sk t n p ≤ n := scn_le hp
  unfold pN nmF
  by_cases h1 : dg t n (sk t n p) = sk t n p
  · rw [if_pos h1, if_pos h1, ftl_0]
    exact Or.inl ⟨rfl, fc_pos (by decide) (by omega)⟩
  · rw [if_neg h1, if_neg h1]
    by_cases h2 : 4 < dg t n (sk t n p) - sk t n p
    · rw [if_pos (Or.inl h2), if_pos (Or.inl h2), ftl_0]
      exact Or.inl ⟨rfl, fc_pos (by decide) (by omega)⟩
    · have hge : sk t n p ≤ dg t n (sk t n p) := scn_ge _ _ _ _
      obtain ⟨v, h3, h4⟩ := cV_nn t (sk t n p) (dg t n (sk t n p) - sk t n p) (by omega) (fun j a b => scn_all (P := fun c => inB c 48 57) a (show j < dg t n (sk t n p) by omega))
      have h5 : v < 2 ^ 31 := Nat.lt_of_lt_of_le h3 (Nat.le_trans (Nat.pow_le_pow_right (by decide) (show _ ≤ 4 by omega)) (by decide))
      have h6 : ¬ cV t (sk t n p) (dg t n (sk t n p) - sk t n p) < 0 := by rw [h4]; exact nI_pos h5
      by_cases h7 : g < cV t (sk t n p) (dg t n (sk t n p) - sk t n p)
      · rw [if_pos (Or.inr (fun q => (inB_iff.mp q).2 h7)), if_pos (Or.inr h7), ftl_0]
        exact Or.inl ⟨rfl, fc_pos (by decide) (by omega)⟩
      · rw [if_neg (fun q => q.elim h2 (fun z => z (inB_iff.mpr ⟨h6, h7⟩))), if_neg (fun q => q.elim h2 h7)]
        exact Or.inr ⟨rfl, rfl⟩
end NM
def tb (td : Int32) (c : Nat) : Bool := td.toBitVec.getLsbD c
theorem shl_c : ∀ c, c < 11 → (1 : Int32) <<< (nI c &&& 31) = nI (2 ^ c) := by decide +kernel
theorem two_c : ∀ c, c < 11 → (nI (2 ^ c)).toBitVec = BitVec.twoPow 32 c := by decide +kernel
theorem two_n : ∀ c, c < 11 → ¬ BitVec.twoPow 32 c = 0#32 := by decide +kernel
theorem and_c {td : Int32} {c : Nat} (hc : c < 11) : td &&& nI (2 ^ c) = 0 ↔ tb td c = false := by
  rw [← Int32.toBitVec_inj, Int32.toBitVec_and, two_c c hc, BitVec.and_twoPow]
  unfold tb
  cases h : td.toBitVec.getLsbD c with
  | false => simp
  | true =>
    simp only [if_true]
    exact ⟨fun q => absurd q (two_n c hc), fun q => by cases q⟩
theorem or_c {td : Int32} {b c : Nat} (hb : b < 11) (hc : c < 11) : tb (td ||| nI (2 ^ c)) b = (tb td b || decide (c = b)) := by
  unfold tb
  rw [Int32.toBitVec_or, two_c c hc, BitVec.getLsbD_or, BitVec.getLsbD_twoPow]
  rw [decide_eq_true (show c < 32 by omega), Bool.true_and]
def bI (m : Nat) : Nat := if m < 5 then 6 + m else m - 4
theorem bI_lt {m : Nat} (h : m < 10) : bI m < 11 := by unfold bI; split <;> omega
theorem bI_inj {a b : Nat} (ha : a < 10) (hb : b < 10) (h : bI a = bI b) : a = b := by
  unfold bI at h
  split at h <;> split at h <;> omega
def bitR (T : Nat → Int32) (td : Int32) : Prop := ∀ m, m < 10 → (T m = 0 ↔ tb td (bI m) = false)
def lawR (L W V : Nat → Int32) : Prop := (∀ i, i < 5 → L i = W i) ∧ ∀ i, 5 ≤ i → i < 11 → L i = V i
theorem tdF_c {td : Int32} {c : Nat} (hc : c < 11) : tdF td (nI c) = td ||| nI (2 ^ c) := by
  unfold tdF
  rw [if_pos (Int32.not_lt.mp (nI_pos (by omega))), shl_c c hc]
theorem bitR.s {T : Nat → Int32} {td : Int32} (h : bitR T td) {c : Nat} (hc : c < 10) : bitR (upd T c 1) (tdF td (nI (bI c))) := by
  intro m hm
  rw [tdF_c (bI_lt hc), or_c (bI_lt hm) (bI_lt hc)]
  unfold upd
  by_cases e : m = c
  · subst e
    simp
  · have : ¬ bI c = bI m := fun q => e (bI_inj hc hm q).symm
    simp [e, this, h m hm]
theorem ttF_c {T : Nat → Int32} {td ft : Int32} (h : bitR T td) {c w0 : Nat} (hc : c < 10) : ttF td ft w0 (nI (bI c)) = if T c = 0 then ft else ftl ft (3 + 4 * nI w0) := by
  unfold ttF
  have := bI_lt hc
  rw [if_pos (Int32.not_lt.mp (nI_pos (by omega))), shl_c _ (bI_lt hc)]
  by_cases e : T c = 0
  · rw [if_pos e, if_pos ((and_c (bI_lt hc)).mpr ((h c hc).mp e))]
  · rw [if_neg e, if_neg (fun q => e ((h c hc).mpr ((and_c (bI_lt hc)).mp q)))]
theorem lawR.w {L W V : Nat → Int32} (h : lawR L W V) {m : Nat} (hm : m < 5) (v : Int32) : lawR (upd L m v) (upd W m v) V := by
  refine ⟨fun i hi => ?_, fun i h1 h2 => ?_⟩
  · unfold upd
    by_cases e : i = m
    · simp [e]
    · simp [e, h.1 i hi]
  · unfold upd
    rw [if_neg (by omega)]
    exact h.2 i h1 h2
theorem lawR.v {L W V : Nat → Int32} (h : lawR L W V) {c : Nat} (hc : 5 ≤ c) (v : Int32) : lawR (upd L c v) W (upd V c v) := by
  refine ⟨fun i hi => ?_, fun i h1 h2 => ?_⟩
  · unfold upd
    rw [if_neg (by omega)]
    exact h.1 i hi
  · unfold upd
    by_cases e : i = c
    · simp [e]
    · simp [e, h.2 i h1 h2]
def wkR (C : cRes) (q : Nat) (ft td : Int32) (W V : Nat → Int32) : Prop := (C = .inl ft ∧ 0 < ft) ∨ (ft = 0 ∧ ∃ T' L', C = .inr (q, T', L') ∧ bitR T' td ∧ lawR L' W V)
theorem tw_sp {X : Int32 → hMem} {t : Nat → Int32} {a b i x mx : Nat} (hnw : nwT t a b i = if x = mx then -1 else nI x) (hx : x ≤ mx) (hmx : mx ≤ 6) {r ft e : Int32} {u : hMem × va_W} {Z : va_W} (h : r = nwT t a b i ∧ u = (X (if 0 ≤ nwT t a b i then ft else ftl ft e), Z)) : ∃ f, u = (X f, Z) ∧ ((x = mx ∧ r = -1 ∧ f = ftl ft e) ∨ (x < mx ∧ r = nI x ∧ f = ft)) := by
  obtain ⟨h1, h2⟩ := h
  rw [hnw] at h1 h2
  by_cases hq : x = mx
  · rw [if_pos hq] at h1 h2
    rw [if_neg (by decide)] at h2
    exact ⟨_, h2, Or.inl ⟨hq, h1, rfl⟩⟩
  · rw [if_neg hq] at h1 h2
    rw [if_pos (Int32.not_lt.mp (nI_pos (by omega)))] at h2
    exact ⟨_, h2, Or.inr ⟨by omega, h1, rfl⟩⟩
theorem c0_le (t : Nat → Int32) (a b : Nat) : c0I t a b ≤ 6 := by
  have h : clI t a b ≤ 0 + 5 := (fF_le _ 5 0).2
  unfold c0I
  split <;> omega
theorem mk_le (t : Nat → Int32) (a b : Nat) : mkI t a b ≤ 5 := by
  have h : mkI t a b ≤ 0 + 5 := (fF_le _ 5 0).2
  omega
theorem af_le (t : Nat → Int32) (a b : Nat) : afI t a b ≤ 1 := by
  unfold afI
  split <;> omega
theorem c0_0 {t : Nat → Int32} {a b : Nat} (h : c0I t a b = 0) : isT t a b 4 := by
  unfold c0I at h
  by_cases q : isT t a b 4
  · exact q
  · rw [if_neg q] at h
    omega
theorem c0_s {t : Nat → Int32} {a b m : Nat} (h : c0I t a b = m + 1) : ¬ isT t a b 4 ∧ clI t a b = m := by
  unfold c0I at h
  by_cases q : isT t a b 4
  · rw [if_pos q] at h
    omega
  · rw [if_neg q] at h
    exact ⟨q, by omega⟩
section WK
variable {t : Nat → Int32} {n p : Nat} {T L W V : Nat → Int32} {td ft : Int32} {m : Nat}
theorem ftl_s {a b : Int32} (h : ¬ a = 0) : ftl (ftl a b) b = ftl a b := by rw [ftl_n h, ftl_n h]
theorem wk_1 (hn : n ≤ 300) (hp : p ≤ n) (hm : mkI t (sk t n p) (wd t n (sk t n p)) = 5) : wkR (clW t n p T L) (wd t n (sk t n p)) (1 + 4 * nI (sk t n p)) td W V := by
  have := scn_le (P := pB) (t := t) hp
  refine Or.inl ⟨?_, fc_pos (by decide) (Nat.le_trans this hn)⟩
  unfold clW
  rw [if_pos hm]
theorem wk_2 (hn : n ≤ 300) (hp : p ≤ n) (hb : bitR T td) (hl : lawR L W V) (hm : mkI t (sk t n p) (wd t n (sk t n p)) = m) (h5 : m < 5) : wkR (clW t n p T L) (dg t n (sk t n (wd t n (sk t n p)))) (nmF t n (wd t n (sk t n p)) 99 (ttF td 0 (sk t n p) (nI (6 + m)))) (tdF td (nI (6 + m))) (upd W m (cV t (sk t n (wd t n (sk t n p))) (dg t n (sk t n (wd t n (sk t n p))) - sk t n (wd t n (sk t n p))))) V := by
  have h1 : sk t n p ≤ n := scn_le hp
  have h2 : wd t n (sk t n p) ≤ n := scn_le h1
  have e : bI m = 6 + m := if_pos h5
  have e1 := ttF_c (ft := 0) (w0 := sk t n p) hb (c := m) (by omega)
  have e2 := hb.s (c := m) (by omega)
  rw [e] at e1 e2
  rw [e1]
  unfold clW
  rw [if_neg (by omega), hm]
  by_cases h0 : T m = 0
  · rw [if_neg (fun q => q h0), if_pos h0]
    rcases num_rel (g := 99) (t := t) hn h2 with ⟨h3, h4⟩ | ⟨h3, h4⟩
    · rw [h3]; exact Or.inl ⟨rfl, h4⟩
    · rw [h3]; exact Or.inr ⟨h4, _, _, rfl, e2, hl.w h5 _⟩
  · rw [if_pos h0, if_neg h0, ftl_0, nmF_n (fc_ne (by decide) (by omega))]
    exact Or.inl ⟨rfl, fc_pos (by decide) (by omega)⟩
theorem wk_v (hn : n ≤ 300) (hp : p ≤ n) (hb : bitR T td) (hl : lawR L W V) (h4 : ¬ isT t (sk t n p) (wd t n (sk t n p)) 4) (hm : clI t (sk t n p) (wd t n (sk t n p)) = m) (h5 : m < 4) (hne : ¬ m = 1) {g : Int32} (hg : gMx (5 + m) = g) : wkR (clP t n p T L) (dg t n (sk t n (wd t n (sk t n p)))) (nmF t n (wd t n (sk t n p)) g (ttF td 0 (sk t n p) (nI (1 + m)))) (tdF td (nI (1 + m))) W (upd V (5 + m) (cV t (sk t n (wd t n (sk t n p))) (dg t n (sk t n (wd t n (sk t n p))) - sk t n (wd t n (sk t n p))))) := by
  have h1 : sk t n p ≤ n := scn_le hp
  have h2 : wd t n (sk t n p) ≤ n := scn_le h1
  have e : bI (5 + m) = 1 + m := by unfold bI; rw [if_neg (by omega)]; omega
  have e1 := ttF_c (ft := 0) (w0 := sk t n p) hb (c := 5 + m) (by omega)
  have e2 := hb.s (c := 5 + m) (by omega)
  rw [e] at e1 e2
  rw [e1]
  by_cases h0 : T (5 + m) = 0
  · rw [if_pos h0, clP_v h4 hm (by omega) hne h0]
    rcases clV_n (T := T) (L := L) hg (by omega) (num_rel (g := g) (t := t) hn h2) with h | ⟨h, h'⟩
    · exact Or.inl h
    · exact Or.inr ⟨h', _, _, h, e2, hl.v (by omega) _⟩
  · rw [if_neg h0, clP_c3 h4 hm (by omega) h0, ftl_0, nmF_n (fc_ne (by decide) (by omega))]
    exact Or.inl ⟨rfl, fc_pos (by decide) (by omega)⟩
theorem wk_g (hn : n ≤ 300) (hp : p ≤ n) (hb : bitR T td) (hl : lawR L W V) (h4 : ¬ isT t (sk t n p) (wd t n (sk t n p)) 4) (hm : clI t (sk t n p) (wd t n (sk t n p)) = 1) {r f : Int32} (hw : (gfI t (sk t n (wd t n (sk t n p))) (wd t n (sk t n (wd t n (sk t n p)))) = 4 ∧ r = -1 ∧ f = ftl (ttF td 0 (sk t n p) 2) (1 + 4 * nI (sk t n (wd t n (sk t n p))))) ∨ (gfI t (sk t n (wd t n (sk t n p))) (wd t n (sk t n (wd t n (sk t n p)))) < 4 ∧ r = nI (gfI t (sk t n (wd t n (sk t n p))) (wd t n (sk t n (wd t n (sk t n p))))) ∧ f = ttF td 0 (sk t n p) 2)) : wkR (clP t n p T L) (wd t n (sk t n (wd t n (sk t n p)))) f (tdF td 2) W (upd V 6 r) := by
  have h1 : sk t n p ≤ n := scn_le hp
  have h2 : wd t n (sk t n p) ≤ n := scn_le h1
  have h3 : sk t n (wd t n (sk t n p)) ≤ n := scn_le h2
  have e1 : ttF td 0 (sk t n p) 2 = if T 6 = 0 then 0 else ftl 0 (3 + 4 * nI (sk t n p)) := ttF_c (ft := 0) (w0 := sk t n p) hb (c := 6) (by decide)
  have e2 : bitR (upd T 6 1) (tdF td 2) := hb.s (c := 6) (by decide)
  rw [e1] at hw
  by_cases h0 : T 6 = 0
  · rw [if_pos h0, ftl_0] at hw
    rw [clP_g h4 hm h0]
    unfold clG
    rcases hw with ⟨a, b, c⟩ | ⟨a, b, c⟩
    · rw [if_pos a, c]
      exact Or.inl ⟨rfl, fc_pos (by decide) (by omega)⟩
    · rw [if_neg (by omega), b]
      exact Or.inr ⟨c, _, _, rfl, e2, hl.v (by decide) _⟩
  · rw [if_neg h0, ftl_0, ftl_n (fc_ne (by decide) (by omega))] at hw
    have hf : f = 3 + 4 * nI (sk t n p) := hw.elim (fun q => q.2.2) (fun q => q.2.2)
    rw [hf, clP_c3 h4 hm (by decide) h0]
    exact Or.inl ⟨rfl, fc_pos (by decide) (by omega)⟩
theorem wk_a (hn : n ≤ 300) (hp : p ≤ n) (hb : bitR T td) (hl : lawR L W V) (h4 : ¬ isT t (sk t n p) (wd t n (sk t n p)) 4) (hm : clI t (sk t n p) (wd t n (sk t n p)) = 4) {D1 S3 W3 : Nat} (hD : D1 = dg t n (sk t n (wd t n (sk t n p)))) (hS3 : S3 = sk t n D1) (hW3 : W3 = wd t n S3) {v r f : Int32} (hv : v = cV t (sk t n (wd t n (sk t n p))) (D1 - sk t n (wd t n (sk t n p)))) (hw : (afI t S3 W3 = 1 ∧ r = -1 ∧ f = ftl (nmF t n (wd t n (sk t n p)) 1000 (ttF td 0 (sk t n p) 5)) (1 + 4 * nI S3)) ∨ (afI t S3 W3 < 1 ∧ r = nI (afI t S3 W3) ∧ f = nmF t n (wd t n (sk t n p)) 1000 (ttF td 0 (sk t n p) 5))) : wkR (clP t n p T L) (dg t n (sk t n W3)) (nmF t n W3 5000 f) (tdF td 5) W (upd (upd V 9 v) 10 (cV t (sk t n W3) (dg t n (sk t n W3) - sk t n W3))) := by
  have h1 : sk t n p ≤ n := scn_le hp
  have h2 : wd t n (sk t n p) ≤ n := scn_le h1
  have h3 : sk t n (wd t n (sk t n p)) ≤ n := scn_le h2
  have h6 : D1 ≤ n := by rw [hD]; exact scn_le h3
  have h7 : S3 ≤ n := by rw [hS3]; exact scn_le h6
  have h8 : W3 ≤ n := by rw [hW3]; exact scn_le h7
  have e1 : ttF td 0 (sk t n p) 5 = if T 9 = 0 then 0 else ftl 0 (3 + 4 * nI (sk t n p)) := ttF_c (ft := 0) (w0 := sk t n p) hb (c := 9) (by decide)
  have e2 : bitR (upd T 9 1) (tdF td 5) := hb.s (c := 9) (by decide)
  rw [e1] at hw
  by_cases h0 : T 9 = 0
  · rw [if_pos h0] at hw
    have hcp : clP t n p T L = clV t n (wd t n (sk t n p)) 9 T L := clP_v (m := 4) h4 hm (by decide) (by decide) h0
    rw [hcp]
    rcases num_rel (g := 1000) (t := t) hn h2 with ⟨a, b⟩ | ⟨a, b⟩
    · have hf : f = nmF t n (wd t n (sk t n p)) 1000 0 := by
        rcases hw with ⟨_, _, q⟩ | ⟨_, _, q⟩
        · rw [q, ftl_n (ltI_ne b)]
        · exact q
      rw [hf, nmF_n (ltI_ne b)]
      exact Or.inl (clV_f (b := 0) (r := 0) (g := 1000) rfl (ltI_ne b) (Or.inl ⟨a, b⟩))
    · rw [← hD, ← hv] at a
      rw [b, ftl_0] at hw
      rw [clV_a (b := D1) (r := v) (Or.inr ⟨a, rfl⟩)]
      by_cases hi : isT t S3 W3 19
      · have ha : afI t S3 W3 = 0 := if_pos hi
        have hf : f = 0 := by
          rcases hw with ⟨q, _, _⟩ | ⟨_, _, q⟩
          · omega
          · exact q
        rw [hf]
        subst hS3
        subst hW3
        rcases clA_y (T := T) (L := L) (v := v) hi (num_rel (g := 5000) (t := t) hn h8) with h | ⟨h, h'⟩
        · exact Or.inl h
        · exact Or.inr ⟨h', _, _, h, e2, (hl.v (by decide) _).v (by decide) _⟩
      · have ha : afI t S3 W3 = 1 := if_neg hi
        have hf : f = 1 + 4 * nI S3 := by
          rcases hw with ⟨_, _, q⟩ | ⟨q, _, _⟩
          · exact q
          · omega
        rw [hf, nmF_n (fc_ne (by decide) (by omega))]
        subst hS3
        subst hW3
        rw [clA_n hi]
        exact Or.inl ⟨rfl, fc_pos (by decide) (by omega)⟩
  · rw [if_neg h0, ftl_0, nmF_n (fc_ne (by decide) (by omega)), ftl_n (fc_ne (by decide) (by omega))] at hw
    have hf : f = 3 + 4 * nI (sk t n p) := hw.elim (fun q => q.2.2) (fun q => q.2.2)
    have hcp : clP t n p T L = .inl (3 + 4 * nI (sk t n p)) := clP_c3 (m := 4) h4 hm (by decide) h0
    rw [hf, hcp, nmF_n (fc_ne (by decide) (by omega))]
    exact Or.inl ⟨rfl, fc_pos (by decide) (by omega)⟩
/-- behind the semicolon -/
def kRel (t : Nat → Int32) (n p : Nat) (T L : Nat → Int32) (pl : Nat) (ft td : Int32) (W V : Nat → Int32) : Prop := pl ≤ n ∧ ((0 < ft ∧ (clP t n p T L = .inl ft ∨ ∃ q T' L', clP t n p T L = .inr (q, T', L') ∧ q ≤ n ∧ ¬ (sk t n q < n ∧ t (sk t n q) = 59) ∧ ft = 1 + 4 * nI (sk t n q))) ∨ (ft = 0 ∧ ∃ q T' L', clP t n p T L = .inr (q, T', L') ∧ sk t n q < n ∧ t (sk t n q) = 59 ∧ pl = sk t n q + 1 ∧ bitR T' td ∧ lawR L' W V))
theorem semi_k {X : Nat → Int32 → hMem} {q : Nat} {f : Int32} {u : hMem × va_W} {Z : va_W} (hn : n ≤ 300) (hq : q ≤ n) (hp : wkR (clP t n p T L) q f td W V) (h : u = (if sk t n q < n ∧ t (sk t n q) = 59 then X (sk t n q + 1) f else X (sk t n q) (ftl f (1 + 4 * nI (sk t n q))), Z)) : ∃ pl ft, u = (X pl ft, Z) ∧ kRel t n p T L pl ft td W V := by
  have h1 : sk t n q ≤ n := scn_le hq
  by_cases hs : sk t n q < n ∧ t (sk t n q) = 59
  · rw [if_pos hs] at h
    refine ⟨_, _, h, hs.1, ?_⟩
    rcases hp with ⟨a, b⟩ | ⟨a, T', L', b, c, d⟩
    · exact Or.inl ⟨b, Or.inl a⟩
    · exact Or.inr ⟨a, q, T', L', b, hs.1, hs.2, rfl, c, d⟩
  · rw [if_neg hs] at h
    refine ⟨_, _, h, h1, ?_⟩
    rcases hp with ⟨a, b⟩ | ⟨a, T', L', b, c, d⟩
    · rw [ftl_n (ltI_ne b)]
      exact Or.inl ⟨b, Or.inl a⟩
    · rw [a, ftl_0]
      exact Or.inl ⟨fc_pos (by decide) (by omega), Or.inr ⟨q, T', L', b, hq, hs, rfl⟩⟩
end WK
