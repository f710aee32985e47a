/-! Judge: the rate alike. -/
theorem ins_far {v : Int32} : ∀ (k : Nat) (q : Nat → Int32) (m : Nat), k < m → ins q v k m = q m
  | 0, q, m, hm => if_neg (by omega)
  | k + 1, q, m, hm => by
    unfold ins
    split
    · exact if_neg (by omega)
    · rw [ins_far k _ m (by omega)]; exact if_neg (by omega)
theorem ins_sum {v : Int32} : ∀ (i : Nat) (f : Nat → Int32), sumI (ins f v i) (i + 1) = sumI f i + v
  | 0, f => by
    show (0 : Int32) + upd f 0 v 0 = 0 + v
    rw [pk_us]
  | i + 1, f => by
    show sumI (ins f v (i + 1)) (i + 1) + ins f v (i + 1) (i + 1) = sumI f (i + 1) + v
    unfold ins
    split
    · rw [pk_us, sumI_cg (i + 1) (fun j hj => upd_o (by omega))]
    · rw [ins_sum i _, ins_far i _ (i + 1) (by omega), pk_us, sumI_cg i (fun j hj => upd_o (by omega))]
      show sumI f i + v + f i = sumI f i + f i + v
      ac_rfl
theorem srt_sum (f v : Nat → Int32) : ∀ n, sumI (srt f v n) n = sumI v n
  | 0 => rfl
  | n + 1 => by
    show sumI (ins (srt f v n) (v n) n) (n + 1) = sumI v n + v n
    rw [ins_sum, srt_sum f v n]
theorem rt_eq {σ : hMem} {nl ro c : Nat} {f f' g g' : Nat → Int32} (hl : rLaw σ nl) (hro : ro < nl) (hs : rSui σ) (hc : c ≤ 40) (hv : ∀ i, i < c → hA σ 6 1 0 (f i).toNatClampNeg = hA σ 43 19 0 (f' i).toNatClampNeg) (hb : ∃ x, x ≤ 1000 ∧ mRate σ f' c ro = nI x) : cRat (cJ1 σ ro c g (srt g' (fun i => hA σ 6 1 0 (f i).toNatClampNeg) c)) (13 + ro) c (hI σ 0 11) = mRate σ f' c ro := by
  have hle := hl.2.2.2.2 ro hro
  have eI : ∀ k, hI (cJ1 σ ro c g (srt g' (fun i => hA σ 6 1 0 (f i).toNatClampNeg) c)) (13 + ro) k = hI σ (13 + ro) k := fun k => by
    show hI (sI (sI σ 12 3 (nI ro)) 12 4 (nI c)) (13 + ro) k = _
    rw [hI_sI, if_neg (by omega), hI_sI, if_neg (by omega)]
  have eA : hA (cJ1 σ ro c g (srt g' (fun i => hA σ 6 1 0 (f i).toNatClampNeg) c)) 12 1 0 = srt g' (fun i => hA σ 6 1 0 (f i).toNatClampNeg) c := rfl
  have e : (if 0 < nI c then cGiv (cJ1 σ ro c g (srt g' (fun i => hA σ 6 1 0 (f i).toNatClampNeg) c)) (13 + ro) c else hI (cJ1 σ ro c g (srt g' (fun i => hA σ 6 1 0 (f i).toNatClampNeg) c)) (13 + ro) 3) = mRtF σ f' c ro := by
    unfold mRtF
    by_cases h0 : c = 0
    · subst h0
      rw [if_neg (show ¬ (0 : Int32) < nI 0 by decide), if_pos (show nI 0 = 0 from rfl), eI]
      exact hle.2.1 3 (by decide) (by decide)
    · rw [if_pos (show (0 : Int32) < nI c from (nI_ltI (a := 0) (by decide) (by omega)).mpr (by omega)), if_neg (show ¬ nI c = 0 from fun q => h0 ((nI_eq (b := 0) (by omega) (by decide)).mp q))]
      unfold cGiv
      rw [eI, eA, hle.2.1 2 (by decide) (by decide)]
      have hS : ∀ j, j < c → srt g' (fun i => hA σ 6 1 0 (f i).toNatClampNeg) c j = srt (fun _ => 0) (fun i => hA σ 43 19 0 (f' i).toNatClampNeg) c j := fun j hj => srt_cg c hv j hj
      rw [hS 0 (by omega), hS ((c - 1) / 2) (by omega), hS (c - 1) (by omega), if_neg (show ¬ nI c ≤ 0 from fun q => absurd ((nI_leI (b := 0) (by omega) (by decide)).mp q) (by omega)), srt_sum, sumI_cg c hv]
  unfold cRat mRate
  rw [e, eI, hle.2.1 4 (by decide) (by decide), hs.2.1]
  generalize mRtF σ f' c ro + hA σ 43 29 ro (4 + 4) * hI σ 43 25 = x
  by_cases h1 : x < 1000
  · rw [if_pos h1, if_pos (Int32.le_of_lt h1)]
  · rw [if_neg h1]
    by_cases h2 : x ≤ 1000
    · rw [if_pos h2]
      exact Int32.le_antisymm (Int32.not_lt.mp h1) h2
    · rw [if_neg h2]
