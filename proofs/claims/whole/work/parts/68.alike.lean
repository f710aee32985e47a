/-! Class and model alike: numbers. -/
theorem byt {x s : Int32} {k : Nat} (h1 : (s.toUInt32 &&& Int32.toUInt32 31).toBitVec % 32 = BitVec.ofNat 32 k) (h2 : (s &&& 31).toBitVec.smod 32 = BitVec.ofNat 32 k) (hk : k + 8 ≤ 32) : ((x.toUInt32 >>> (s.toUInt32 &&& Int32.toUInt32 31)).toInt32).toInt8 = (x >>> (s &&& 31)).toInt8 := by
  apply Int8.toBitVec_inj.mp
  have e1 : (x.toUInt32 >>> (s.toUInt32 &&& Int32.toUInt32 31)).toInt32.toBitVec = x.toBitVec >>> k := by
    show (x.toUInt32 >>> (s.toUInt32 &&& Int32.toUInt32 31)).toBitVec = _
    rw [UInt32.toBitVec_shiftRight, h1]
    show x.toBitVec >>> (BitVec.ofNat 32 k) = _
    rw [BitVec.ushiftRight_eq', BitVec.toNat_ofNat, Nat.mod_eq_of_lt (by omega)]
  have e2 : (x >>> (s &&& 31)).toBitVec = x.toBitVec.sshiftRight k := by
    rw [Int32.toBitVec_shiftRight, h2, BitVec.sshiftRight_eq', BitVec.toNat_ofNat, Nat.mod_eq_of_lt (by omega)]
  rw [Int32.toBitVec_toInt8, Int32.toBitVec_toInt8, e1, e2]
  apply BitVec.eq_of_getLsbD_eq
  intro i hi
  rw [BitVec.getLsbD_signExtend, BitVec.getLsbD_signExtend, if_pos (by omega), if_pos (by omega), BitVec.getLsbD_ushiftRight, BitVec.getLsbD_sshiftRight]
  rw [if_pos (by omega), show decide (32 ≤ i) = false from decide_eq_false (by omega)]
  rfl
theorem dgt_dg0 (b v : Int32) : dgt b v = dg0 (v / b) := rfl
theorem abs_eq (x : Int32) : absJ x = absI x := by
  unfold absJ absI
  split
  · rfl
  · simp
theorem dist_eq {a b : Nat} (ha : a ≤ 99999) (hb : b ≤ 99999) (w w' : Nat → Int32) (hw : ∀ i, i < 5 → w i = w' i) : mDist (nI a) (nI b) w = cDist (nI a) (nI b) w' := by
  have d : ∀ c, c ≤ 99999 → nI c / 10 / 10 / 10 / 10 = nI c / 10000 ∧ nI c / 10 / 10 / 10 = nI c / 1000 ∧ nI c / 10 / 10 = nI c / 100 ∧ nI c / 1 = nI c := by
    intro c hc
    have e : ∀ x y, x < 2 ^ 31 → 0 < y → y < 2 ^ 31 → nI x / nI y = nI (x / y) := fun x y h1 h2 h3 => pk_div h1 h2 h3
    have e10 : ∀ x, x < 2 ^ 31 → nI x / 10 = nI (x / 10) := fun x h => e x 10 h (by decide) (by decide)
    refine ⟨?_, ?_, ?_, ?_⟩
    · rw [e10 _ (by omega), e10 _ (by omega), e10 _ (by omega), e10 _ (by omega), show (10000 : Int32) = nI 10000 from rfl, e _ _ (by omega) (by decide) (by decide)]
      congr 1
      omega
    · rw [e10 _ (by omega), e10 _ (by omega), e10 _ (by omega), show (1000 : Int32) = nI 1000 from rfl, e _ _ (by omega) (by decide) (by decide)]
      congr 1
      omega
    · rw [e10 _ (by omega), e10 _ (by omega), show (100 : Int32) = nI 100 from rfl, e _ _ (by omega) (by decide) (by decide)]
      congr 1
      omega
    · rw [show (1 : Int32) = nI 1 from rfl, e _ _ (by omega) (by decide) (by decide)]
      congr 1
      omega
  unfold mDist cDist
  rw [dgt_dg0, dgt_dg0, dgt_dg0, dgt_dg0, dgt_dg0, dgt_dg0, dgt_dg0, dgt_dg0, dgt_dg0, dgt_dg0]
  rw [(d a ha).1, (d a ha).2.1, (d a ha).2.2.1, (d b hb).1, (d b hb).2.1, (d b hb).2.2.1, (d a ha).2.2.2, (d b hb).2.2.2]
  rw [abs_eq, abs_eq, abs_eq, abs_eq, abs_eq, ← hw 0 (by decide), ← hw 1 (by decide), ← hw 2 (by decide), ← hw 3 (by decide), ← hw 4 (by decide)]
  generalize w 0 * _ = p0
  generalize w 1 * _ = p1
  generalize w 2 * _ = p2
  generalize w 3 * _ = p3
  generalize w 4 * _ = p4
  ac_rfl
/-- srt over another start: the same below k -/
theorem ins_cg {f g : Nat → Int32} {v : Int32} : ∀ i, (∀ j, j < i → f j = g j) → ∀ j, j ≤ i → ins f v i j = ins g v i j
  | 0, _, j, hj => by
    have : j = 0 := by omega
    subst this
    show upd f 0 v 0 = upd g 0 v 0
    rw [pk_us, pk_us]
  | i + 1, h, j, hj => by
    unfold ins
    rw [← h i (by omega)]
    split
    · by_cases e : j = i + 1
      · rw [e, pk_us, pk_us]
      · rw [show upd f (i + 1) v j = f j from if_neg e, show upd g (i + 1) v j = g j from if_neg e]
        exact h j (by omega)
    · by_cases e : j = i + 1
      · have key : ∀ (k : Nat) (q : Nat → Int32) (m : Nat), k < m → ins q v k m = q m := by
          intro k
          induction k with
          | zero => intro q m hm; exact if_neg (by omega)
          | succ k ih =>
            intro q m hm
            unfold ins
            split
            · exact if_neg (by omega)
            · rw [ih _ m (by omega)]; exact if_neg (by omega)
        rw [e, key i _ (i + 1) (by omega), key i _ (i + 1) (by omega), pk_us, pk_us]
      · exact ins_cg i (fun q hq => by rw [show upd f (i + 1) (f i) q = f q from if_neg (by omega), show upd g (i + 1) (f i) q = g q from if_neg (by omega)]; exact h q (by omega)) j (by omega)
theorem srt_cg {f g v v' : Nat → Int32} : ∀ n, (∀ i, i < n → v i = v' i) → ∀ j, j < n → srt f v n j = srt g v' n j
  | 0, _, j, hj => absurd hj (Nat.not_lt_zero j)
  | n + 1, h, j, hj => by
    show ins (srt f v n) (v n) n j = ins (srt g v' n) (v' n) n j
    rw [← h n (by omega)]
    exact ins_cg n (fun q hq => srt_cg n (fun i hi => h i (by omega)) q hq) j (by omega)
theorem sumI_cg {f g : Nat → Int32} : ∀ n, (∀ i, i < n → f i = g i) → sumI f n = sumI g n
  | 0, _ => rfl
  | n + 1, h => by
    show sumI f n + f n = sumI g n + g n
    rw [sumI_cg n (fun i hi => h i (by omega)), h n (by omega)]
/-- the latest that holds: the same, told in two ways -/
theorem ltB_cg {ok ok' : Nat → Prop} [DecidablePred ok] [DecidablePred ok'] {sn sn' : Nat → Int32} : ∀ n, n < 2 ^ 31 → (∀ i, i < n → (ok i ↔ ok' i)) → (∀ i, i < n → sn i = sn' i) → ltB ok sn n = ltB ok' sn' n
  | 0, _, _, _ => rfl
  | n + 1, hn, h1, h2 => by
    have ih := ltB_cg n (by omega) (fun i hi => h1 i (by omega)) (fun i hi => h2 i (by omega))
    have hc : ltB ok sn n < 0 ∨ (ltB ok' sn' n).toNatClampNeg < n := by
      rcases ltB_in ok' sn' n with h | ⟨j, h3, h4⟩
      · left; rw [ih, h]; decide
      · right; rw [h4, nI_clamp (by omega)]; exact h3
    unfold ltB
    rw [ih]
    have e : (ok n ∧ (ltB ok' sn' n < 0 ∨ ¬ sn n < sn (ltB ok' sn' n).toNatClampNeg)) ↔ (ok' n ∧ (ltB ok' sn' n < 0 ∨ ¬ sn' n < sn' (ltB ok' sn' n).toNatClampNeg)) := by
      rw [h1 n (by omega), h2 n (by omega)]
      rcases hc with hc | hc
      · rw [ih] at hc
        exact ⟨fun q => ⟨q.1, Or.inl hc⟩, fun q => ⟨q.1, Or.inl hc⟩⟩
      · rw [h2 _ (by omega)]
    by_cases q : ok n ∧ (ltB ok' sn' n < 0 ∨ ¬ sn n < sn (ltB ok' sn' n).toNatClampNeg)
    · rw [if_pos q, if_pos (e.mp q)]
    · rw [if_neg q, if_neg (fun z => q (e.mpr z))]
theorem svB_lt (g known day : Int32) (go vk vd : Nat → Int32) : ∀ n, n < 2 ^ 31 → svB g known day go vk vd n = ltB (fun i => go i = g ∧ ¬ known < vk i ∧ ¬ day < vd i) vd n
  | 0, _ => rfl
  | n + 1, hn => by
    have ih := svB_lt g known day go vk vd n (by omega)
    have h0 : (ltB (fun i => go i = g ∧ ¬ known < vk i ∧ ¬ day < vd i) vd n = -1) ↔ (ltB (fun i => go i = g ∧ ¬ known < vk i ∧ ¬ day < vd i) vd n < 0) := by
      rcases ltB_in (fun i => go i = g ∧ ¬ known < vk i ∧ ¬ day < vd i) vd n with h | ⟨j, h1, h2⟩
      · rw [h]; decide
      · rw [h2]
        exact ⟨fun q => absurd q (nI_nm (by omega)), fun q => absurd q (nI_pos (by omega))⟩
    unfold svB ltB
    rw [ih]
    by_cases q : go n = g ∧ ¬ known < vk n ∧ ¬ day < vd n ∧ (ltB (fun i => go i = g ∧ ¬ known < vk i ∧ ¬ day < vd i) vd n = -1 ∨ ¬ vd n < vd (ltB (fun i => go i = g ∧ ¬ known < vk i ∧ ¬ day < vd i) vd n).toNatClampNeg)
    · rw [if_pos q, if_pos ⟨⟨q.1, q.2.1, q.2.2.1⟩, q.2.2.2.elim (fun z => Or.inl (h0.mp z)) Or.inr⟩]
    · rw [if_neg q, if_neg (fun z => q ⟨z.1.1, z.1.2.1, z.1.2.2, z.2.elim (fun y => Or.inl (h0.mpr y)) Or.inr⟩)]
theorem hw_bit {x : Int64} {k : Nat} (hk : k + 4 ≤ 64) {s : Int64} {s' : UInt64} (h1 : s'.toBitVec % 64 = BitVec.ofNat 64 k) (h2 : s.toBitVec.smod 64 = BitVec.ofNat 64 k) : ((x.toUInt64 >>> s').toInt64).toInt32 &&& 15 = ((x >>> s) &&& 15).toInt32 := by
  apply Int32.toBitVec_inj.mp
  have e1 : (x.toUInt64 >>> s').toInt64.toBitVec = x.toBitVec >>> k := by
    show (x.toUInt64 >>> s').toBitVec = _
    rw [UInt64.toBitVec_shiftRight, h1]
    show x.toBitVec >>> (BitVec.ofNat 64 k) = _
    rw [BitVec.ushiftRight_eq', BitVec.toNat_ofNat, Nat.mod_eq_of_lt (by omega)]
  have e2 : (x >>> s).toBitVec = x.toBitVec.sshiftRight k := by
    rw [Int64.toBitVec_shiftRight, h2, BitVec.sshiftRight_eq', BitVec.toNat_ofNat, Nat.mod_eq_of_lt (by omega)]
  rw [Int32.toBitVec_and, Int64.toBitVec_toInt32, e1, Int64.toBitVec_toInt32, Int64.toBitVec_and, e2]
  apply BitVec.eq_of_getLsbD_eq
  intro i hi
  rw [BitVec.getLsbD_and, BitVec.getLsbD_signExtend, BitVec.getLsbD_signExtend, if_pos (by omega), if_pos (by omega), BitVec.getLsbD_ushiftRight, BitVec.getLsbD_and, BitVec.getLsbD_sshiftRight]
  rw [show decide (i < 32) = true from decide_eq_true hi]
  have h15 : ∀ i, i < 32 → (15 : Int32).toBitVec.getLsbD i = (15 : Int64).toBitVec.getLsbD i ∧ (4 ≤ i → (15 : Int64).toBitVec.getLsbD i = false) := by decide +kernel
  rw [(h15 i hi).1]
  by_cases h4 : 4 ≤ i
  · rw [(h15 i hi).2 h4]
    simp
  · rw [if_pos (by omega), show decide (64 ≤ i) = false from decide_eq_false (by omega)]
    simp
theorem hw_sh : ∀ k, k < 16 → ((nI (4 * k)).toInt64.toUInt64 &&& Int64.toUInt64 63).toBitVec % 64 = BitVec.ofNat 64 (4 * k) ∧ ((nI (4 * k)).toInt64 &&& 63).toBitVec.smod 64 = BitVec.ofNat 64 (4 * k) := by decide +kernel
theorem hw_eq {a b c d : Int64} {k : Nat} (hk : k < 60) : cHw a b c d k = mHw a b c d k := by
  unfold cHw mHw
  have hq := hw_sh (k % 16) (by omega)
  have e : (if nI (k / 16) = 0 then a else (if nI (k / 16) = 1 then b else (if nI (k / 16) = 2 then c else d))) = (if 16 ≤ nI k then (if 32 ≤ nI k then (if 48 ≤ nI k then d else c) else b) else a) := by
    have t16 : (16 : Int32) ≤ nI k ↔ 16 ≤ k := nI_leI (a := 16) (by decide) (by omega)
    have t32 : (32 : Int32) ≤ nI k ↔ 32 ≤ k := nI_leI (a := 32) (by decide) (by omega)
    have t48 : (48 : Int32) ≤ nI k ↔ 48 ≤ k := nI_leI (a := 48) (by decide) (by omega)
    have u0 : nI (k / 16) = 0 ↔ k / 16 = 0 := nI_eq (b := 0) (by omega) (by decide)
    have u1 : nI (k / 16) = 1 ↔ k / 16 = 1 := nI_eq (b := 1) (by omega) (by decide)
    have u2' : nI (k / 16) = 2 ↔ k / 16 = 2 := nI_eq (b := 2) (by omega) (by decide)
    by_cases h1 : 16 ≤ k
    · rw [if_neg (fun q => absurd (u0.mp q) (by omega)), if_pos (t16.mpr h1)]
      by_cases h2 : 32 ≤ k
      · rw [if_neg (fun q => absurd (u1.mp q) (by omega)), if_pos (t32.mpr h2)]
        by_cases h3 : 48 ≤ k
        · rw [if_neg (fun q => absurd (u2'.mp q) (by omega)), if_pos (t48.mpr h3)]
        · rw [if_pos (u2'.mpr (by omega)), if_neg (fun q => h3 (t48.mp q))]
      · rw [if_pos (u1.mpr (by omega)), if_neg (fun q => h2 (t32.mp q))]
    · rw [if_pos (u0.mpr (by omega)), if_neg (fun q => h1 (t16.mp q))]
  rw [e]
  exact hw_bit (by omega) hq.1 hq.2
