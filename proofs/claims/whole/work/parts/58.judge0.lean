/-- the model's memory while it finds the like cases -/
def jL (σ : hMem) (ro c : Nat) (f : Nat → Int32) (r : Int32) (a : Int64) : hMem := sL (sI (sA (sI (sI (sI σ 43 47 1) 43 48 (nI ro)) 43 49 (nI c)) 43 52 0 f) 43 50 r) 43 53 a
section JL
variable {σ : hMem} {ro c : Nat} {f : Nat → Int32} {r : Int32} {a : Int64}
theorem jL_ini : sI (sI (sI σ 43 47 1) 43 48 (nI ro)) 43 49 0 = jL σ ro 0 (hA σ 43 52 0) (hI σ 43 50) (hL σ 43 53) := by
  unfold jL
  have e1 := sA_self (sI (sI (sI σ 43 47 1) 43 48 (nI ro)) 43 49 (nI 0)) 43 52 0
  have e2 := sI_self (sI (sI (sI σ 43 47 1) 43 48 (nI ro)) 43 49 (nI 0)) 43 50
  have e3 := sL_self (sI (sI (sI σ 43 47 1) 43 48 (nI ro)) 43 49 (nI 0)) 43 53
  have h1 : sA (sI (sI (sI σ 43 47 1) 43 48 (nI ro)) 43 49 (nI 0)) 43 52 0 (hA σ 43 52 0) = sI (sI (sI σ 43 47 1) 43 48 (nI ro)) 43 49 (nI 0) := e1.symm
  rw [h1]
  have h2 : sI (sI (sI (sI σ 43 47 1) 43 48 (nI ro)) 43 49 (nI 0)) 43 50 (hI σ 43 50) = sI (sI (sI σ 43 47 1) 43 48 (nI ro)) 43 49 (nI 0) := e2.symm
  rw [h2]
  exact e3
theorem jL_c {c' : Nat} : sI (jL σ ro c f r a) 43 49 (nI c') = jL σ ro c' f r a := by
  show sL (sI (sI (sA (sI (sI (sI σ 43 47 1) 43 48 (nI ro)) 43 49 (nI c)) 43 52 0 f) 43 50 r) 43 49 (nI c')) 43 53 a = _
  rw [sI_sI_c _ 43 49 43 50 _ _ (by decide)]
  show sL (sI (sA (sI (sI (sI (sI σ 43 47 1) 43 48 (nI ro)) 43 49 (nI c)) 43 49 (nI c')) 43 52 0 f) 43 50 r) 43 53 a = _
  rw [sI_sI]
  rfl
theorem jL_f {f' : Nat → Int32} : sA (jL σ ro c f r a) 43 52 0 f' = jL σ ro c f' r a := by
  show sL (sI (sA (sA (sI (sI (sI σ 43 47 1) 43 48 (nI ro)) 43 49 (nI c)) 43 52 0 f) 43 52 0 f') 43 50 r) 43 53 a = _
  rw [sA_sA]
  rfl
theorem jL_r {r' : Int32} : sI (jL σ ro c f r a) 43 50 r' = jL σ ro c f r' a := by
  show sL (sI (sI (sA (sI (sI (sI σ 43 47 1) 43 48 (nI ro)) 43 49 (nI c)) 43 52 0 f) 43 50 r) 43 50 r') 43 53 a = _
  rw [sI_sI]
  rfl
theorem jL_a {a' : Int64} : sL (jL σ ro c f r a) 43 53 a' = jL σ ro c f r a' := by
  unfold jL
  rw [sL_sL]
end JL
theorem ltB_nn {x : Int32} {k : Nat} (h : x = -1 ∨ ∃ j, j < k ∧ x = nI j) (hx : ¬ x = -1) (hk : k < 2 ^ 31) : ¬ x < 0 := by
  rcases h with h | ⟨j, h1, h2⟩
  · exact absurd h hx
  · rw [h2]; exact nI_pos (by omega)
theorem lkF_in (ok : Nat → Prop) [DecidablePred ok] (f : Nat → Int32) : ∀ k i, i < (lkF ok f k).1 → ∃ j, j < k ∧ ok j ∧ (lkF ok f k).2 i = nI j
  | 0, i, h => absurd h (Nat.not_lt_zero i)
  | k + 1, i, h => by
    unfold lkF at h ⊢
    by_cases hk : ok k
    · rw [if_pos hk] at h ⊢
      by_cases e : i = (lkF ok f k).1
      · exact ⟨k, Nat.lt_succ_self k, hk, by rw [e]; exact pk_us⟩
      · obtain ⟨j, h1, h2, h3⟩ := lkF_in ok f k i (by have h' : i < (lkF ok f k).1 + 1 := h; omega)
        exact ⟨j, by omega, h2, by rw [← h3]; exact if_neg e⟩
    · rw [if_neg hk] at h ⊢
      obtain ⟨j, h1, h2, h3⟩ := lkF_in ok f k i h
      exact ⟨j, by omega, h2, h3⟩
def ovM (σ : hMem) (known day : Int32) (i : Nat) : Prop := (¬ hA σ 43 22 0 i = -1) ∧ ((¬ day < hA σ 43 22 0 i) ∧ (¬ known < hA σ 43 23 0 i))
def mWs (σ : hMem) (n : Nat) (known day : Int32) : Nat → Int64
  | 0 => 0
  | k + 1 => mWs σ n known day k + (mSvd σ n (nI k) known day).toInt64
def mRtF (σ : hMem) (f : Nat → Int32) (n ro : Nat) : Int32 := if nI n = 0 then hA σ 43 29 ro 7 else if hA σ 43 29 ro 6 = 0 then srt (fun _ => 0) (fun i => hA σ 43 19 0 (f i).toNatClampNeg) n 0 else if hA σ 43 29 ro 6 = 1 then srt (fun _ => 0) (fun i => hA σ 43 19 0 (f i).toNatClampNeg) n ((n - 1) / 2) else if hA σ 43 29 ro 6 = 2 then srt (fun _ => 0) (fun i => hA σ 43 19 0 (f i).toNatClampNeg) n (n - 1) else sumI (fun i => hA σ 43 19 0 (f i).toNatClampNeg) n / nI n
def mRate (σ : hMem) (f : Nat → Int32) (n ro : Nat) : Int32 := if mRtF σ f n ro + hA σ 43 29 ro 8 * hI σ 43 25 ≤ 1000 then mRtF σ f n ro + hA σ 43 29 ro 8 * hI σ 43 25 else 1000
/-- what was told of worth -/
def vaW (σ : hMem) (nv : Nat) : Prop := ∀ i, i < nv → (∃ c, c ≤ 1000000 ∧ hA σ 43 13 0 i = nI c) ∧ ∃ r, r ≤ 1000000 ∧ hA σ 43 14 0 i = nI r
theorem mSvd_N {σ : hMem} {nv : Nat} (hv : vaW σ nv) (hn : nv ≤ 60) (g known day : Int32) : ∃ x, x ≤ 1000000 ∧ mSvd σ nv g known day = nI x := by
  unfold mSvd
  generalize hb : svB g known day (hA σ 43 12 0) (hA σ 43 16 0) (hA σ 43 15 0) nv = b
  rcases svB_in g known day (hA σ 43 12 0) (hA σ 43 16 0) (hA σ 43 15 0) nv with h | ⟨j, h1, h2⟩
  · rw [hb] at h
    rw [if_pos h]
    exact ⟨0, by decide, rfl⟩
  · rw [hb] at h2
    rw [if_neg (by rw [h2]; exact nI_nm (by omega)), h2, nI_clamp (by omega)]
    obtain ⟨⟨c, hc, hc'⟩, r, hr, hr'⟩ := hv j h1
    rw [hc', hr']
    by_cases e : nI r ≤ nI c
    · rw [if_pos e]
      rw [nI_leI (by omega) (by omega)] at e
      exact ⟨c - r, by omega, nI_subN e⟩
    · rw [if_neg e]
      exact ⟨0, by decide, rfl⟩
theorem mWs_N {σ : hMem} {nv : Nat} (hv : vaW σ nv) (hn : nv ≤ 60) (known day : Int32) : ∀ k, ∃ A, A ≤ k * 1000000 ∧ mWs σ nv known day k = lN A
  | 0 => ⟨0, by decide, rfl⟩
  | k + 1 => by
    obtain ⟨A, h1, h2⟩ := mWs_N hv hn known day k
    obtain ⟨x, h3, h4⟩ := mSvd_N hv hn (nI k) known day
    refine ⟨A + x, by rw [Nat.add_mul]; omega, ?_⟩
    show mWs σ nv known day k + (mSvd σ nv (nI k) known day).toInt64 = _
    rw [h2, h4, nI_l (by omega), lN_add]
/-- every entry of a row that was put in order is one of those put in -/
theorem ins_in {P : Int32 → Prop} {v : Int32} (hv : P v) : ∀ (i : Nat) (f : Nat → Int32), (∀ j, j < i → P (f j)) → ∀ j, j ≤ i → P (ins f v i j)
  | 0, f, h, j, hj => by
    have : j = 0 := by omega
    subst this
    show P (upd f 0 v 0)
    rw [pk_us]; exact hv
  | i + 1, f, h, j, hj => by
    unfold ins
    split
    · by_cases e : j = i + 1
      · rw [e, pk_us]; exact hv
      · rw [show upd f (i + 1) v j = f j from if_neg e]; exact h j (by omega)
    · by_cases e : j = i + 1
      · -- the last one is not touched again
        have key : ∀ (k : Nat) (g : Nat → Int32) (m : Nat), k < m → ins g v k m = g m := by
          intro k
          induction k with
          | zero => intro g m hm; exact if_neg (by omega)
          | succ k ih =>
            intro g m hm
            unfold ins
            split
            · exact if_neg (by omega)
            · rw [ih _ m (by omega)]; exact if_neg (by omega)
        rw [e, key i _ (i + 1) (by omega), pk_us]
        exact h i (by omega)
      · exact ins_in hv i (upd f (i + 1) (f i)) (fun q hq => by rw [show upd f (i + 1) (f i) q = f q from if_neg (by omega)]; exact h q (by omega)) j (by omega)
theorem srt_in {P : Int32 → Prop} (f v : Nat → Int32) : ∀ n, (∀ i, i < n → P (v i)) → ∀ j, j < n → P (srt f v n j)
  | 0, _, j, hj => absurd hj (Nat.not_lt_zero j)
  | n + 1, h, j, hj => ins_in (h n (by omega)) n (srt f v n) (fun q hq => srt_in f v n (fun i hi => h i (by omega)) q hq) j (by omega)
/-- a law's else and life -/
def leW (σ : hMem) (ro : Nat) : Prop := (∃ a, a ≤ 1000 ∧ hA σ 43 29 ro 7 = nI a) ∧ ∃ a, a ≤ 100 ∧ hA σ 43 29 ro 8 = nI a
theorem mRtF_N {σ : hMem} {f : Nat → Int32} {c ro : Nat} (hl : leW σ ro) (hc : c ≤ 40) (hf : ∀ i, i < c → ∃ a, a ≤ 1000 ∧ hA σ 43 19 0 (f i).toNatClampNeg = nI a) : ∃ x, x ≤ 1000 ∧ mRtF σ f c ro = nI x := by
  unfold mRtF
  by_cases h0 : nI c = 0
  · rw [if_pos h0]
    exact hl.1
  · rw [if_neg h0]
    have hc0 : 0 < c := Nat.pos_of_ne_zero (fun q => h0 (by rw [q]; rfl))
    have hs : ∀ j, j < c → ∃ a, a ≤ 1000 ∧ srt (fun _ => 0) (fun i => hA σ 43 19 0 (f i).toNatClampNeg) c j = nI a := fun j hj => srt_in (P := fun y => ∃ a, a ≤ 1000 ∧ y = nI a) _ _ c hf j hj
    split
    · exact hs 0 hc0
    · split
      · exact hs _ (by omega)
      · split
        · exact hs _ (by omega)
        · have e : sumI (fun i => hA σ 43 19 0 (f i).toNatClampNeg) c = nI (sumN (fun i => (hA σ 43 19 0 (f i).toNatClampNeg).toNatClampNeg) c) := sumI_N c (fun i hi => by
            obtain ⟨a, h1, h2⟩ := hf i hi
            rw [h2, nI_clamp (by omega)])
          have hb : sumN (fun i => (hA σ 43 19 0 (f i).toNatClampNeg).toNatClampNeg) c ≤ c * 1000 := sumN_le c (fun i hi => by
            obtain ⟨a, h1, h2⟩ := hf i hi
            rw [h2, nI_clamp (by omega)]; exact h1)
          rw [e]
          refine ⟨sumN (fun i => (hA σ 43 19 0 (f i).toNatClampNeg).toNatClampNeg) c / c, ?_, pk_div (by omega) hc0 (by omega)⟩
          have := Nat.div_le_div_right (c := c) hb
          rw [Nat.mul_div_cancel_left _ hc0] at this
          exact this
theorem mRate_N {σ : hMem} {f : Nat → Int32} {c ro : Nat} (hl : leW σ ro) (hc : c ≤ 40) (hf : ∀ i, i < c → ∃ a, a ≤ 1000 ∧ hA σ 43 19 0 (f i).toNatClampNeg = nI a) (hv : ∃ l, l ≤ 99 ∧ hI σ 43 25 = nI l) : ∃ x, x ≤ 1000 ∧ mRate σ f c ro = nI x := by
  obtain ⟨x, hx, hx'⟩ := mRtF_N hl hc hf
  obtain ⟨_, b, hb, hb'⟩ := hl
  obtain ⟨l, h1, h2⟩ := hv
  unfold mRate
  have e : mRtF σ f c ro + hA σ 43 29 ro 8 * hI σ 43 25 = nI (x + b * l) := by rw [hx', hb', h2, pk_mul, nI_add]
  have hm : b * l ≤ 100 * 99 := Nat.mul_le_mul hb h1
  rw [e]
  by_cases h : nI (x + b * l) ≤ 1000
  · rw [if_pos h]
    exact ⟨_, (nI_leI (b := 1000) (by omega) (by decide)).mp h, rfl⟩
  · rw [if_neg h]
    exact ⟨1000, Nat.le_refl _, rfl⟩
