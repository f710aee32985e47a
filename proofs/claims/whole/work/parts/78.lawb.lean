/-! What a law that was read can say. -/
theorem pN_b {t : Nat → Int32} {n p q G : Nat} {v : Int32} (hG : G < 2 ^ 31) (h : pN t n p (nI G) = .inr (q, v)) : ∃ a, a ≤ G ∧ v = nI a := by
  unfold pN at h
  split at h
  · cases h
  · split at h
    · cases h
    · rename_i h2
      cases h
      have h3 : inB (cV t (sk t n p) (dg t n (sk t n p) - sk t n p)) 0 (nI G) = true := Classical.byContradiction (fun z => h2 (Or.inr z))
      obtain ⟨a, _, a2, a3⟩ := nI_in1 (lo := 0) (hi := G) h3 rfl hG (by decide)
      exact ⟨a, a2, a3⟩
def lawB (L : Nat → Int32) : Prop := (∃ a, a ≤ 1000 ∧ L 7 = nI a) ∧ (∃ a, a ≤ 100 ∧ L 8 = nI a) ∧ (∃ a, a ≤ 1000 ∧ L 9 = nI a) ∧ ∃ a, a ≤ 5000 ∧ L 10 = nI a
theorem lawB.o {L : Nat → Int32} (h : lawB L) {m : Nat} (hm : m < 7) (v : Int32) : lawB (upd L m v) := by
  unfold lawB
  rw [upd_o (by omega), upd_o (by omega), upd_o (by omega), upd_o (by omega)]
  exact h
theorem clP_b {t : Nat → Int32} {n p q : Nat} {T L T' L' : Nat → Int32} (hL : lawB L) (h : clP t n p T L = .inr (q, T', L')) : lawB L' := by
  unfold clP at h
  split at h
  · unfold clW at h
    split at h
    · cases h
    · split at h
      · cases h
      · split at h
        · cases h
        · rename_i h5 _ _ _ _ _
          cases h
          exact hL.o (by have := mk_le t (sk t n (wd t n (sk t n p))) (wd t n (sk t n (wd t n (sk t n p)))); omega) _
  · unfold clC at h
    split at h
    · cases h
    · rename_i h5
      split at h
      · cases h
      · split at h
        · unfold clG at h
          split at h
          · cases h
          · cases h
            exact hL.o (by decide) _
        · unfold clV at h
          have hc : clI t (sk t n p) (wd t n (sk t n p)) ≤ 0 + 5 := (fF_le _ 5 0).2
          generalize clI t (sk t n p) (wd t n (sk t n p)) = c at h h5 hc
          split at h
          · cases h
          · rename_i q2 v2 hN
            split at h
            · rename_i h9
              unfold clA at h
              have hN' : pN t n (wd t n (sk t n p)) (nI 1000) = .inr (q2, v2) := by rw [h9] at hN; exact hN
              obtain ⟨a, ha, ha'⟩ := pN_b (by decide) hN'
              split at h
              · split at h
                · cases h
                · rename_i q3 v3 hN2
                  cases h
                  obtain ⟨b, hb, hb'⟩ := pN_b (G := 5000) (by decide) hN2
                  refine ⟨?_, ?_, ?_, ?_⟩
                  · rw [upd_o (by decide), upd_o (by decide)]; exact hL.1
                  · rw [upd_o (by decide), upd_o (by decide)]; exact hL.2.1
                  · rw [upd_o (by decide), pk_us]; exact ⟨a, ha, ha'⟩
                  · rw [pk_us]; exact ⟨b, hb, hb'⟩
              · cases h
            · rename_i h9
              cases h
              rcases (show c = 0 ∨ c = 1 ∨ c = 2 ∨ c = 3 by omega) with rfl | rfl | rfl | rfl
              · exact hL.o (by decide) _
              · exact hL.o (by decide) _
              · obtain ⟨a, ha, ha'⟩ := pN_b (G := 1000) (by decide) hN
                refine ⟨?_, ?_, ?_, ?_⟩
                · rw [pk_us]; exact ⟨a, ha, ha'⟩
                · rw [upd_o (by decide)]; exact hL.2.1
                · rw [upd_o (by decide)]; exact hL.2.2.1
                · rw [upd_o (by decide)]; exact hL.2.2.2
              · obtain ⟨a, ha, ha'⟩ := pN_b (G := 100) (by decide) hN
                refine ⟨?_, ?_, ?_, ?_⟩
                · rw [upd_o (by decide)]; exact hL.1
                · rw [pk_us]; exact ⟨a, ha, ha'⟩
                · rw [upd_o (by decide)]; exact hL.2.2.1
                · rw [upd_o (by decide)]; exact hL.2.2.2
theorem lwP_bd {t : Nat → Int32} {n : Nat} : ∀ (f p : Nat) (T L L' : Nat → Int32), lawB L → lwP t n f p T L = .inr L' → lawB L'
  | 0, p, T, L, L', _, h => by cases h
  | f + 1, p, T, L, L', hL, h => by
    unfold lwP at h
    split at h
    · split at h
      · cases h
      · cases h; exact hL
    · split at h
      · cases h
      · rename_i q T1 L1 hc
        split at h
        · exact lwP_bd f _ T1 L1 L' (clP_b hL hc) h
        · cases h
