/-! Judge: the like cases and the worth alike. -/
theorem lkF_cg {ok ok' : Nat → Prop} [DecidablePred ok] [DecidablePred ok'] {f f' : Nat → Int32} : ∀ k, (∀ i, i < k → (ok i ↔ ok' i)) → (lkF ok f k).1 = (lkF ok' f' k).1 ∧ ∀ i, i < (lkF ok f k).1 → (lkF ok f k).2 i = (lkF ok' f' k).2 i
  | 0, _ => ⟨rfl, fun i hi => absurd hi (Nat.not_lt_zero i)⟩
  | k + 1, h => by
    obtain ⟨h1, h2⟩ := lkF_cg (f := f) (f' := f') k (fun i hi => h i (by omega))
    unfold lkF
    by_cases e : ok k
    · rw [if_pos e, if_pos ((h k (by omega)).mp e)]
      refine ⟨by show _ + 1 = _ + 1; rw [h1], fun i hi => ?_⟩
      show upd (lkF ok f k).2 (lkF ok f k).1 (nI k) i = upd (lkF ok' f' k).2 (lkF ok' f' k).1 (nI k) i
      rw [← h1]
      by_cases q : i = (lkF ok f k).1
      · rw [q, pk_us, pk_us]
      · rw [upd_o q, upd_o q]
        have hi' : i < (lkF ok f k).1 + 1 := hi
        exact h2 i (by omega)
    · rw [if_neg e, if_neg (fun z => e ((h k (by omega)).mpr z))]
      exact ⟨h1, h2⟩
theorem ok_eq {σ : hMem} {nc nl ro : Nat} {known day : Int32} (hc : rCas σ nc) (hs : rSui σ) (hl : rLaw σ nl) (hro : ro < nl) (hd : inB day 0 5000 = true) : ∀ i, i < nc → (((((¬ known < hA σ 7 1 0 i) ∧ (¬ day < hA σ 7 0 0 i)) ∧ (¬ ((¬ known < hA σ 8 1 0 i) ∧ (¬ day < hA σ 8 0 0 i)))) ∧ ¬ hI σ (13 + ro) 1 < cDist (hA σ 6 0 0 i) (hI σ 0 10) (hA σ (13 + ro) 0 0)) ↔ (((¬ day < hA σ 43 20 0 i) ∧ (¬ known < hA σ 43 21 0 i)) ∧ (¬ ((¬ hA σ 43 22 0 i = (-1)) ∧ ((¬ day < hA σ 43 22 0 i) ∧ (¬ known < hA σ 43 23 0 i)))) ∧ ¬ hA σ 43 29 ro 5 < mDist (hA σ 43 18 0 i) (hI σ 43 24) (hA σ 43 29 ro))) := by
  intro i hi
  obtain ⟨_, _, _, e4, _, e6, _⟩ := hc
  obtain ⟨f1, f2, ⟨m, m1, m2⟩, _, f5⟩ := e6 i hi
  obtain ⟨s1, _, ⟨q, q1, q2⟩, _⟩ := hs
  have hle := hl.2.2.2.2 ro hro
  have hD : cDist (hA σ 6 0 0 i) (hI σ 0 10) (hA σ (13 + ro) 0 0) = mDist (hA σ 43 18 0 i) (hI σ 43 24) (hA σ 43 29 ro) := by
    rw [e4, s1, m2, q2]
    exact (dist_eq m1 q1 _ _ hle.1).symm
  have hO : ((¬ known < hA σ 8 1 0 i) ∧ (¬ day < hA σ 8 0 0 i)) ↔ ((¬ hA σ 43 22 0 i = (-1)) ∧ ((¬ day < hA σ 43 22 0 i) ∧ (¬ known < hA σ 43 23 0 i))) := by
    rcases f5 with ⟨g1, g2⟩ | ⟨g1, g2, d, d1, d2⟩
    · have : day < 5001 := by
        have h2 := (inB_iff.mp hd).2
        rw [Int32.lt_iff_toInt_lt] at h2 ⊢
        have t1 : (5000 : Int32).toInt = 5000 := rfl
        have t2 : (5001 : Int32).toInt = 5001 := rfl
        omega
      rw [g1, g2]
      exact ⟨fun z => absurd this z.2, fun z => absurd rfl z.1⟩
    · rw [g1, g2]
      exact ⟨fun z => ⟨by rw [d2]; exact nI_nm (by omega), z.2, z.1⟩, fun z => ⟨z.2.2, z.2.1⟩⟩
  rw [hD, f1, f2, hle.2.1 1 (by decide) (by decide), hO]
  exact ⟨fun z => ⟨⟨z.1.1.2, z.1.1.1⟩, z.1.2, z.2⟩, fun z => ⟨⟨⟨z.1.2, z.1.1⟩, z.2.1⟩, z.2.2⟩⟩
theorem ws_eq {σ : hMem} {nv : Nat} (h : rGds σ nv) (known day : Int32) : ∀ k, cWs σ nv known day k = mWs σ nv known day k
  | 0 => rfl
  | k + 1 => by
    show cWs σ nv known day k + (cWo σ nv (nI k) known day).toInt64 = mWs σ nv known day k + (mSvd σ nv (nI k) known day).toInt64
    rw [ws_eq h known day k, svd_eq h]
