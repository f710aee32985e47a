def lkC (σ : hMem) (ro nc : Nat) (known day : Int32) : Nat × (Nat → Int32) := lkF (fun i => (((¬ known < hA σ 7 1 0 i) ∧ (¬ day < hA σ 7 0 0 i)) ∧ (¬ ((¬ known < hA σ 8 1 0 i) ∧ (¬ day < hA σ 8 0 0 i)))) ∧ ¬ hI σ (13 + ro) 1 < cDist (hA σ 6 0 0 i) (hI σ 0 10) (hA σ (13 + ro) 0 0)) (hA σ 12 0 0) nc
def cJ1 (σ : hMem) (ro c : Nat) (f a : Nat → Int32) : hMem := sA (sI (sA (sI σ 12 3 (nI ro)) 12 0 0 f) 12 4 (nI c)) 12 1 0 a
def cJ2 (σ : hMem) (ro c : Nat) (f a : Nat → Int32) (rt : Int32) (al : Int64) : hMem := sL (sI (cJ1 σ ro c f a) 12 5 rt) 12 6 al
theorem cJ2_I {σ : hMem} {ro c : Nat} {f a : Nat → Int32} {rt : Int32} {al : Int64} {j k : Nat} (h : ¬ j = 12) : hI (cJ2 σ ro c f a rt al) j k = hI σ j k := by
  show hI (sI (sI (sI σ 12 3 (nI ro)) 12 4 (nI c)) 12 5 rt) j k = _
  rw [hI_sI, if_neg (fun q => h q.2), hI_sI, if_neg (fun q => h q.2), hI_sI, if_neg (fun q => h q.2)]
theorem cJ2_A {σ : hMem} {ro c : Nat} {f a : Nat → Int32} {rt : Int32} {al : Int64} {j k i : Nat} (h : ¬ j = 12) : hA (cJ2 σ ro c f a rt al) j k i = hA σ j k i := by
  show hA (sA (sA σ 12 0 0 f) 12 1 0 a) j k i = _
  rw [hA_sA, if_neg (fun q => h q.2.2), hA_sA, if_neg (fun q => h q.2.2)]
theorem csh.tr {σ τ : hMem} {ns : Nat} (h : csh σ ns) (h1 : ∀ j k, ¬ j = 1 → ¬ j = 12 → hI τ j k = hI σ j k) (h2 : ∀ i, hA τ (27 + i) 0 0 = hA σ (27 + i) 0 0) : csh τ ns := by
  intro i hi
  have e1 : ∀ k, hI τ (19 + i) k = hI σ (19 + i) k := fun k => h1 _ _ (by omega) (by omega)
  have e2 : ∀ k, hI τ (27 + i) k = hI σ (27 + i) k := fun k => h1 _ _ (by omega) (by omega)
  have := h i hi
  unfold caN lfN at *
  rw [e1, e1, e1, e1, e1, e1, e2, e2, h2]
  exact this
theorem Stq.L {σ Y : hMem} {n j k : Nat} (h : Stq σ n Y) : hL Y j k = hL σ j k := by
  rcases h.fm with h | ⟨g, f, c, _, _, h⟩
  · rw [h]
  · rw [h]; rfl
theorem Stq.A27 {σ Y : hMem} {n : Nat} (h : Stq σ n Y) (i : Nat) : hA Y (27 + i) 0 0 = hA σ (27 + i) 0 0 := by
  rcases h.fm with h | ⟨g, f, c, _, _, h⟩
  · rw [h]
  · rw [h]
    show hA (sA (sA σ 2 0 0 f) 1 8 0 g) (27 + i) 0 0 = _
    rw [hA_sA, if_neg (by omega), hA_sA, if_neg (by omega)]
theorem part_c {σ Y : hMem} {n ns : Nat} {P : Nat → Nat → Int64} {all : Int64} {rate : Int32} (hs : csh σ ns) (hns8 : ns ≤ 8) (hP : ∀ i, i < ns → wOk σ n P i) (hal : ∃ A, A ≤ 10000000 ∧ all = lN A) (hrt : ∃ R, R ≤ 1000 ∧ rate = nI R) : ∃ (V : Nat) (c : Nat → Nat), (0 < sumL (fun i => P i 2) ns ↔ ¬ sumL (fun i => P i 2) ns = 0) ∧ (∀ i, i < ns → coF (gvF all rate (sumL (fun i => P i 2) ns)) (fun i => P i 2) (sumL (fun i => P i 2) ns) i = lN (c i) ∧ c i ≤ 10000000) ∧ subL (gvF all rate (sumL (fun i => P i 2) ns)) (coF (gvF all rate (sumL (fun i => P i 2) ns)) (fun i => P i 2) (sumL (fun i => P i 2) ns)) ns = lN V ∧ V ≤ ns ∧ (0 < V → ¬ sumL (fun i => P i 2) ns = 0 ∧ ∀ i, i < ns → ¬ rsF (gvF all rate (sumL (fun i => P i 2) ns)) (fun i => P i 2) (sumL (fun i => P i 2) ns) i < 0) := by
  obtain ⟨A, hq1, hq1'⟩ := hal
  obtain ⟨R, hq2, hq2'⟩ := hrt
  have hwt : ∀ i, i < ns → ∃ x, P i 2 = lN x ∧ x ≤ 750000000 := by
    intro i hi
    obtain ⟨⟨t, ht, ht'⟩, _⟩ := hs i hi
    obtain ⟨⟨h, hh, hh'⟩, h2, _⟩ := hP i hi
    refine ⟨t * h, ?_, Nat.le_trans (Nat.mul_le_mul ht hh) (by decide)⟩
    rw [h2, hh', ht', nI_l (by omega), lN_mul]
  obtain ⟨w, hw⟩ : ∃ w : Nat → Nat, ∀ i, i < ns → P i 2 = lN (w i) ∧ w i ≤ 750000000 := by
    refine ⟨fun i => if h : i < ns then Classical.choose (hwt i h) else 0, fun i hi => ?_⟩
    dsimp only
    rw [dif_pos hi]
    exact Classical.choose_spec (hwt i hi)
  obtain ⟨V, G, c, h1, h2, h3, h4, h5, h6, h7, h8, h9⟩ := part_ok (wt := fun i => P i 2) hns8 hw hq1' hq1 hq2' hq2
  refine ⟨V, c, ?_, h5, h6, h7, fun q => ⟨h8 q, h9 (h8 q)⟩⟩
  rw [h1]
  constructor
  · intro q e
    rw [e] at q
    exact l_irr _ q
  · intro q
    have : ¬ sumN w ns = 0 := fun z => q (by rw [z]; rfl)
    exact (lN_p0 (by omega)).mpr (by omega)

set_option maxHeartbeats 4000000 in
set_option maxRecDepth 100000 in
theorem x_judge (l : Launch) (E : hEnv) (σ : hMem) (Z : va_W) (n : Nat) (hn : hI σ 1 6 = nI n) (hn40 : n ≤ 40) (hW : csW σ n) (hlg : ∀ k, k < n → vp_in (hA σ 1 1 0 k) 6) (htr : ∀ k, k < n → 0 ≤ (cTr σ k).toInt ∧ (cTr σ k).toInt ≤ 9) (hg01 : ∀ k, hA σ 1 8 0 k = 0 ∨ hA σ 1 8 0 k = 1) (hcach : cach σ n) (ns : Nat) (hns : hI σ 0 13 = nI ns) (hns8 : ns ≤ 8) (hs : csh σ ns) (nl : Nat) (hnl : hI σ 0 12 = nI nl) (hnl6 : nl ≤ 6) (nc : Nat) (hnc : hI σ 6 4 = nI nc) (hnc40 : nc ≤ 40) (nv : Nat) (hnv : hI σ 4 3 = nI nv) (hnv60 : nv ≤ 60) (hlaw : ∀ ro, ro < nl → (∃ a, a ≤ 5000 ∧ hI σ (13 + ro) 6 = nI a) ∧ ∃ a, a ≤ 1000 ∧ hI σ (13 + ro) 5 = nI a) (known day : Int32) (hal : ∃ A, A ≤ 10000000 ∧ (cWs σ nv known day 10) = lN A) (hrt : ∀ ro, ro < nl → ∃ R, R ≤ 1000 ∧ (cRat (cJ1 σ ro ((lkC σ ro nc known day).1) ((lkC σ ro nc known day).2) (srt (hA σ 12 1 0) (fun i => hA σ 6 1 0 ((lkC σ ro nc known day).2 i).toNatClampNeg) (lkC σ ro nc known day).1)) (13 + ro) ((lkC σ ro nc known day).1) (hI σ 0 11)) = nI R) : hMet l yX11_judge cX11_judge 5 (some .int) (6, 0, 0, 141) E σ Z [.ref (hO E 0), .int known, .int day] (hQi E (fun r u => (¬ (inB known 0 5000 = true ∧ inB day 0 5000 = true) ∧ r = -1 ∧ u = (σ, Z)) ∨ ((inB known 0 5000 = true ∧ inB day 0 5000 = true) ∧ ltB (fun i => (¬ known < hA σ 10 1 0 i) ∧ (¬ day < hA σ 10 0 0 i)) (hA σ 10 0 0) nl = -1 ∧ r = 1 ∧ u = (σ, Z)) ∨ ((inB known 0 5000 = true ∧ inB day 0 5000 = true) ∧ ∃ ro, ro < nl ∧ ltB (fun i => (¬ known < hA σ 10 1 0 i) ∧ (¬ day < hA σ 10 0 0 i)) (hA σ 10 0 0) nl = nI ro ∧ r = 0 ∧ ∃ Y P P2 Q2 T2 K2 V, u = (cM Y ns (sumL (fun i => P i 2) ns) (gvF (hL Y 12 6) (hI Y 12 5) (sumL (fun i => P i 2) ns)) K2 P2 Q2 T2, Z) ∧ Stq (cJ2 σ ro ((lkC σ ro nc known day).1) ((lkC σ ro nc known day).2) (srt (hA σ 12 1 0) (fun i => hA σ 6 1 0 ((lkC σ ro nc known day).2 i).toNatClampNeg) (lkC σ ro nc known day).1) (cRat (cJ1 σ ro ((lkC σ ro nc known day).1) ((lkC σ ro nc known day).2) (srt (hA σ 12 1 0) (fun i => hA σ 6 1 0 ((lkC σ ro nc known day).2 i).toNatClampNeg) (lkC σ ro nc known day).1)) (13 + ro) ((lkC σ ro nc known day).1) (hI σ 0 11)) (cWs σ nv known day 10)) n Y ∧ (∀ i, i < ns → wOk (cJ2 σ ro ((lkC σ ro nc known day).1) ((lkC σ ro nc known day).2) (srt (hA σ 12 1 0) (fun i => hA σ 6 1 0 ((lkC σ ro nc known day).2 i).toNatClampNeg) (lkC σ ro nc known day).1) (cRat (cJ1 σ ro ((lkC σ ro nc known day).1) ((lkC σ ro nc known day).2) (srt (hA σ 12 1 0) (fun i => hA σ 6 1 0 ((lkC σ ro nc known day).2 i).toNatClampNeg) (lkC σ ro nc known day).1)) (13 + ro) ((lkC σ ro nc known day).1) (hI σ 0 11)) (cWs σ nv known day 10)) n P i) ∧ subL (gvF (hL Y 12 6) (hI Y 12 5) (sumL (fun i => P i 2) ns)) (coF (gvF (hL Y 12 6) (hI Y 12 5) (sumL (fun i => P i 2) ns)) (fun i => P i 2) (sumL (fun i => P i 2) ns)) ns = lN V ∧ V ≤ ns ∧ PI ns (fun i => P i 1) (fun i => P i 2) (pkS ns (rsF (gvF (hL Y 12 6) (hI Y 12 5) (sumL (fun i => P i 2) ns)) (fun i => P i 2) (sumL (fun i => P i 2) ns)) (coF (gvF (hL Y 12 6) (hI Y 12 5) (sumL (fun i => P i 2) ns)) (fun i => P i 2) (sumL (fun i => P i 2) ns)) V).2 (hI Y (13 + ro) 6) (hI Y (13 + ro) 5) (fun i => hI Y (19 + i) 4) (fun i => hI Y (19 + i) 5) (fun i => hI Y (19 + i) 6) (hdC Y) (fun i => hA Y (27 + i) 0 0) (PS P2) K2 T2 (fun i => Q2 i 9) ns))) := by
  refine hMet.of (by decide) (Nat.le_of_ble_eq_true rfl) (fun p e s m below meth c A ls C M hr hlk hl => ?_)
  have hl : lv_has ls 5 [(0, .ref (hO E 0)), (1, .int known), (2, .int day)] := hl
  generalize s.heap = H at M ⊢
  generalize ([] : List Loc) = locs at M ⊢
  refine lv_iload_n C.1 C.2.1 dX11_judge_0 rfl (lv_at hl 1 rfl) ?_
  refine g_calli M (g_runS (As := [.int known]) (rest := []) C M (x_isDay l E σ Z known) clX11_isDay stX11_isDay lk11_119 rfl ⟨Nat.le_of_ble_eq_true rfl, Nat.le_of_ble_eq_true rfl⟩ hl.1 rfl (Nat.le_of_ble_eq_true rfl) dX11_judge_1 ⟨Nat.le_of_ble_eq_true rfl, Nat.le_of_ble_eq_true rfl⟩) (fun r1 u H locs hR M => ?_)
  refine W.widen (k := 0) (n := 0) (Nat.le_of_ble_eq_true rfl) (Nat.le_of_ble_eq_true rfl) ?_
  obtain ⟨rfl, rfl⟩ := hR
  have M : hM E A s H locs σ Z := M
  refine lv_if_eq (tgt := 14) C.1 C.2.1 dX11_judge_4 (by decide) (fun c_4 => ?_) (fun c_4 => ?_)
  · skip
    have c_4 : ¬ inB known 0 5000 = true := bz_0.mp c_4
    refine lv_iconst (v := (-1)) C.1 C.2.1 dX11_judge_14 (by decide) ?_
    refine g_iret C M hr hlk ?_ (Nat.le_of_ble_eq_true rfl) (Nat.le_of_ble_eq_true rfl) dX11_judge_15
    exact Or.inl ⟨fun h9 => c_4 h9.1, rfl, rfl⟩
  · skip
    have c_4 : inB known 0 5000 = true := bz_ne0.mp c_4
    refine lv_iload_n C.1 C.2.1 dX11_judge_7 rfl (lv_at hl 2 rfl) ?_
    refine g_calli M (g_runS (As := [.int day]) (rest := []) C M (x_isDay l E σ Z day) clX11_isDay stX11_isDay lk11_119 rfl ⟨Nat.le_of_ble_eq_true rfl, Nat.le_of_ble_eq_true rfl⟩ hl.1 rfl (Nat.le_of_ble_eq_true rfl) dX11_judge_8 ⟨Nat.le_of_ble_eq_true rfl, Nat.le_of_ble_eq_true rfl⟩) (fun r2 u H locs hR M => ?_)
    refine W.widen (k := 0) (n := 0) (Nat.le_of_ble_eq_true rfl) (Nat.le_of_ble_eq_true rfl) ?_
    obtain ⟨rfl, rfl⟩ := hR
    have M : hM E A s H locs σ Z := M
    refine lv_if_ne (tgt := 16) C.1 C.2.1 dX11_judge_11 (by decide) (fun c_11 => ?_) (fun c_11 => ?_)
    · skip
      have c_11 : inB day 0 5000 = true := bz_ne0.mp c_11
      refine lv_aload_n C.1 C.2.1 dX11_judge_16 rfl (lv_at hl 0 rfl) ?_
      refine g_getO C M 0 5 10 (by decide) rfl rfl (by decide) fl11_48 dX11_judge_17 ?_
      refine lv_aload_n C.1 C.2.1 dX11_judge_20 rfl (lv_at hl 0 rfl) ?_
      refine g_getI C M 0 12 (by decide) rfl rfl (by decide) fl11_147 (v := nI nl) hnl dX11_judge_21 ?_
      refine lv_iload_n C.1 C.2.1 dX11_judge_24 rfl (lv_at hl 1 rfl) ?_
      refine lv_iload_n C.1 C.2.1 dX11_judge_25 rfl (lv_at hl 2 rfl) ?_
      refine g_calli M (g_runV (As := [.int (nI nl), .int known, .int day]) (rest := []) C M 10 (x_tlatest l E σ Z 10 6 (by decide) rfl rfl (by decide) nl hnl6 known day) clX10_latestOf ivX10_latestOf lk11_198 (by decide) rfl rfl ⟨Nat.le_of_ble_eq_true rfl, Nat.le_of_ble_eq_true rfl⟩ hl.1 rfl (Nat.le_of_ble_eq_true rfl) dX11_judge_26 ⟨Nat.le_of_ble_eq_true rfl, Nat.le_of_ble_eq_true rfl⟩) (fun r3 u H locs hR M => ?_)
      refine W.widen (k := 0) (n := 0) (Nat.le_of_ble_eq_true rfl) (Nat.le_of_ble_eq_true rfl) ?_
      obtain ⟨rfl, rfl⟩ := hR
      have M : hM E A s H locs σ Z := M
      refine lv_istore_n (lv' := [(3, .int (ltB (fun i => (¬ known < hA σ 10 1 0 i) ∧ (¬ day < hA σ 10 0 0 i)) (hA σ 10 0 0) nl)), (0, .ref (hO E 0)), (1, .int known), (2, .int day)]) C.1 C.2.1 dX11_judge_29 rfl hl (by decide) rfl (fun ls hl => ?_)
      refine lv_iload_n C.1 C.2.1 dX11_judge_30 rfl (lv_at hl 0 rfl) ?_
      refine lv_if_ge (tgt := 36) C.1 C.2.1 dX11_judge_31 (by decide) (fun c_31 => ?_) (fun c_31 => ?_)
      · skip
        obtain ⟨ro, hro6, hroE⟩ : ∃ j, j < nl ∧ ltB (fun i => (¬ known < hA σ 10 1 0 i) ∧ (¬ day < hA σ 10 0 0 i)) (hA σ 10 0 0) nl = nI j := (ltB_in _ _ nl).elim (fun h9 => absurd c_31 (by rw [h9]; decide)) id
        have hl : lv_has ls 5 [(3, .int (nI ro)), (0, .ref (hO E 0)), (1, .int known), (2, .int day)] := by rw [hroE] at hl; exact hl
        refine lv_aload_n C.1 C.2.1 dX11_judge_36 rfl (lv_at hl 1 rfl) ?_
        refine g_getQ C M 0 4 (by decide) rfl rfl (by decide) fl11_39 dX11_judge_37 ?_
        refine lv_iload_n C.1 C.2.1 dX11_judge_40 rfl (lv_at hl 0 rfl) ?_
        refine g_aald7 C M 0 4 (by decide) rfl (by decide) ro (nI_clamp (by omega)) (vp_in_nI (by omega) (by decide)) dX11_judge_41 ?_
        refine lv_astore (lv' := [(4, .ref (hO E (13 + ro))), (3, .int (nI ro)), (0, .ref (hO E 0)), (1, .int known), (2, .int day)]) C.1 C.2.1 dX11_judge_42 hl (by decide) rfl (fun ls hl => ?_)
        refine lv_aload_n C.1 C.2.1 dX11_judge_44 rfl (lv_at hl 2 rfl) ?_
        refine g_getO C M 0 8 12 (by decide) rfl rfl (by decide) fl11_68 dX11_judge_45 ?_
        refine lv_iload_n C.1 C.2.1 dX11_judge_48 rfl (lv_at hl 1 rfl) ?_
        refine g_putI C M 12 3 (by decide) rfl rfl (by decide) fl11_202 rfl rfl dX11_judge_49 (fun H locs M => ?_)
        refine lv_aload_n C.1 C.2.1 dX11_judge_52 rfl (lv_at hl 2 rfl) ?_
        refine g_getO C M 0 8 12 (by decide) rfl rfl (by decide) fl11_68 dX11_judge_53 ?_
        refine lv_aload_n C.1 C.2.1 dX11_judge_56 rfl (lv_at hl 2 rfl) ?_
        refine g_getO C M 0 2 6 (by decide) rfl rfl (by decide) fl11_26 dX11_judge_57 ?_
        refine lv_aload C.1 C.2.1 dX11_judge_60 (lv_at hl 0 rfl) ?_
        refine lv_aload_n C.1 C.2.1 dX11_judge_62 rfl (lv_at hl 2 rfl) ?_
        refine g_getI C M 0 10 (by decide) rfl rfl (by decide) fl11_135 (v := hI σ 0 10) rfl dX11_judge_63 ?_
        refine lv_iload_n C.1 C.2.1 dX11_judge_66 rfl (lv_at hl 3 rfl) ?_
        refine lv_iload_n C.1 C.2.1 dX11_judge_67 rfl (lv_at hl 4 rfl) ?_
        refine lv_aload_n C.1 C.2.1 dX11_judge_68 rfl (lv_at hl 2 rfl) ?_
        refine g_getO C M 0 8 12 (by decide) rfl rfl (by decide) fl11_68 dX11_judge_69 ?_
        refine g_getA C M 12 0 (by decide) rfl rfl (by decide) fl11_205 dX11_judge_72 ?_
        refine g_calli M (g_runV (As := [.ref (hO E (13 + ro)), .int (hI σ 0 10), .int known, .int day, .ref (hR E 12 0 0)]) (rest := [.ref (hO E 12)]) C M 6 (x_csfind l E (sI σ 12 3 (nI ro)) Z (13 + ro) (by omega) (lay13 (by omega)) (ci13 (by omega)) (by omega) nc hnc hnc40 (hI σ 0 10) known day) clX1_findLike ivX1_findLike lk11_209 (by decide) rfl rfl ⟨Nat.le_of_ble_eq_true rfl, Nat.le_of_ble_eq_true rfl⟩ hl.1 rfl (Nat.le_of_ble_eq_true rfl) dX11_judge_75 ⟨Nat.le_of_ble_eq_true rfl, Nat.le_of_ble_eq_true rfl⟩) (fun r4 u H locs hR M => ?_)
        refine W.widen (k := 0) (n := 0) (Nat.le_of_ble_eq_true rfl) (Nat.le_of_ble_eq_true rfl) ?_
        replace hR : r4 = nI ((lkC σ ro nc known day).1) ∧ u = (sA (sI σ 12 3 (nI ro)) 12 0 0 ((lkC σ ro nc known day).2), Z) := hR
        obtain ⟨rfl, rfl⟩ := hR
        have M : hM E A s H locs (sA (sI σ 12 3 (nI ro)) 12 0 0 ((lkC σ ro nc known day).2)) Z := M
        refine g_putI C M 12 4 (by decide) rfl rfl (by decide) fl11_213 rfl rfl dX11_judge_78 (fun H locs M => ?_)
        have hc40 : (lkC σ ro nc known day).1 ≤ 40 := Nat.le_trans (lkF_le _ _ nc) hnc40
        have hlk9 : ∀ i, i < (lkC σ ro nc known day).1 → vp_in ((lkC σ ro nc known day).2 i) 40 := fun i hi => by obtain ⟨j9, h1, _, h3⟩ := lkF_in _ _ nc i hi; rw [show (lkC σ ro nc known day).2 i = nI j9 from h3]; exact vp_in_nI (by omega) (by decide)
        refine lv_aload_n C.1 C.2.1 dX11_judge_81 rfl (lv_at hl 2 rfl) ?_
        refine g_getO C M 0 2 6 (by decide) rfl rfl (by decide) fl11_26 dX11_judge_82 ?_
        refine lv_aload_n C.1 C.2.1 dX11_judge_85 rfl (lv_at hl 2 rfl) ?_
        refine g_getO C M 0 8 12 (by decide) rfl rfl (by decide) fl11_68 dX11_judge_86 ?_
        refine g_getA C M 12 0 (by decide) rfl rfl (by decide) fl11_205 dX11_judge_89 ?_
        refine lv_aload_n C.1 C.2.1 dX11_judge_92 rfl (lv_at hl 2 rfl) ?_
        refine g_getO C M 0 8 12 (by decide) rfl rfl (by decide) fl11_68 dX11_judge_93 ?_
        refine g_getI C M 12 4 (by decide) rfl rfl (by decide) fl11_213 (v := nI ((lkC σ ro nc known day).1)) rfl dX11_judge_96 ?_
        refine lv_aload_n C.1 C.2.1 dX11_judge_99 rfl (lv_at hl 2 rfl) ?_
        refine g_getO C M 0 8 12 (by decide) rfl rfl (by decide) fl11_68 dX11_judge_100 ?_
        refine g_getA C M 12 1 (by decide) rfl rfl (by decide) fl11_216 dX11_judge_103 ?_
        refine g_callv M (g_runV (As := [.ref (hR E 12 0 0), .int (nI ((lkC σ ro nc known day).1)), .ref (hR E 12 1 0)]) (rest := []) C M 6 (x_cssort l E (sI (sA (sI σ 12 3 (nI ro)) 12 0 0 ((lkC σ ro nc known day).2)) 12 4 (nI ((lkC σ ro nc known day).1))) Z ((lkC σ ro nc known day).1) hc40 hlk9) clX1_sortAwards ivX1_sortAwards lk11_219 (by decide) rfl rfl ⟨Nat.le_of_ble_eq_true rfl, Nat.le_of_ble_eq_true rfl⟩ hl.1 rfl (Nat.le_of_ble_eq_true rfl) dX11_judge_106 ⟨Nat.le_of_ble_eq_true rfl, Nat.le_of_ble_eq_true rfl⟩) (fun u H locs hR M => ?_)
        refine W.widen (k := 0) (n := 0) (Nat.le_of_ble_eq_true rfl) (Nat.le_of_ble_eq_true rfl) ?_
        subst hR
        have M : hM E A s H locs (cJ1 σ ro ((lkC σ ro nc known day).1) ((lkC σ ro nc known day).2) (srt (hA σ 12 1 0) (fun i => hA σ 6 1 0 ((lkC σ ro nc known day).2 i).toNatClampNeg) (lkC σ ro nc known day).1)) Z := M
        refine lv_aload_n C.1 C.2.1 dX11_judge_109 rfl (lv_at hl 2 rfl) ?_
        refine g_getO C M 0 8 12 (by decide) rfl rfl (by decide) fl11_68 dX11_judge_110 ?_
        refine lv_aload C.1 C.2.1 dX11_judge_113 (lv_at hl 0 rfl) ?_
        refine lv_aload_n C.1 C.2.1 dX11_judge_115 rfl (lv_at hl 2 rfl) ?_
        refine g_getO C M 0 8 12 (by decide) rfl rfl (by decide) fl11_68 dX11_judge_116 ?_
        refine g_getA C M 12 1 (by decide) rfl rfl (by decide) fl11_216 dX11_judge_119 ?_
        refine lv_aload_n C.1 C.2.1 dX11_judge_122 rfl (lv_at hl 2 rfl) ?_
        refine g_getO C M 0 8 12 (by decide) rfl rfl (by decide) fl11_68 dX11_judge_123 ?_
        refine g_getI C M 12 4 (by decide) rfl rfl (by decide) fl11_213 (v := nI ((lkC σ ro nc known day).1)) rfl dX11_judge_126 ?_
        refine lv_aload_n C.1 C.2.1 dX11_judge_129 rfl (lv_at hl 2 rfl) ?_
        refine g_getI C M 0 11 (by decide) rfl rfl (by decide) fl11_138 (v := hI σ 0 11) rfl dX11_judge_130 ?_
        refine g_calli M (g_runV (As := [.ref (hR E 12 1 0), .int (nI ((lkC σ ro nc known day).1)), .int (hI σ 0 11)]) (rest := [.ref (hO E 12)]) C M (13 + ro) (x_lrate l E (cJ1 σ ro ((lkC σ ro nc known day).1) ((lkC σ ro nc known day).2) (srt (hA σ 12 1 0) (fun i => hA σ 6 1 0 ((lkC σ ro nc known day).2 i).toNatClampNeg) (lkC σ ro nc known day).1)) Z (13 + ro) (by omega) (lay13 (by omega)) (ci13 (by omega)) ((lkC σ ro nc known day).1) hc40 (hI σ 0 11)) clX5_rateOf ivX5_rateOf lk11_223 (by omega) (by rw [ci13 (by omega)]; rfl) rfl ⟨Nat.le_of_ble_eq_true rfl, Nat.le_of_ble_eq_true rfl⟩ hl.1 rfl (Nat.le_of_ble_eq_true rfl) dX11_judge_133 ⟨Nat.le_of_ble_eq_true rfl, Nat.le_of_ble_eq_true rfl⟩) (fun r5 u H locs hR M => ?_)
        refine W.widen (k := 0) (n := 0) (Nat.le_of_ble_eq_true rfl) (Nat.le_of_ble_eq_true rfl) ?_
        obtain ⟨rfl, rfl⟩ := hR
        have M : hM E A s H locs (cJ1 σ ro ((lkC σ ro nc known day).1) ((lkC σ ro nc known day).2) (srt (hA σ 12 1 0) (fun i => hA σ 6 1 0 ((lkC σ ro nc known day).2 i).toNatClampNeg) (lkC σ ro nc known day).1)) Z := M
        refine g_putI C M 12 5 (by decide) rfl rfl (by decide) fl11_227 rfl rfl dX11_judge_136 (fun H locs M => ?_)
        refine lv_aload_n C.1 C.2.1 dX11_judge_139 rfl (lv_at hl 2 rfl) ?_
        refine g_getO C M 0 8 12 (by decide) rfl rfl (by decide) fl11_68 dX11_judge_140 ?_
        refine lv_aload_n C.1 C.2.1 dX11_judge_143 rfl (lv_at hl 2 rfl) ?_
        refine g_getO C M 0 1 4 (by decide) rfl rfl (by decide) fl11_19 dX11_judge_144 ?_
        refine lv_iload_n C.1 C.2.1 dX11_judge_147 rfl (lv_at hl 3 rfl) ?_
        refine lv_iload_n C.1 C.2.1 dX11_judge_148 rfl (lv_at hl 4 rfl) ?_
        refine g_calll M (g_runV (As := [.int known, .int day]) (rest := [.ref (hO E 12)]) C M 4 (x_gall l E (sI (cJ1 σ ro ((lkC σ ro nc known day).1) ((lkC σ ro nc known day).2) (srt (hA σ 12 1 0) (fun i => hA σ 6 1 0 ((lkC σ ro nc known day).2 i).toNatClampNeg) (lkC σ ro nc known day).1)) 12 5 (cRat (cJ1 σ ro ((lkC σ ro nc known day).1) ((lkC σ ro nc known day).2) (srt (hA σ 12 1 0) (fun i => hA σ 6 1 0 ((lkC σ ro nc known day).2 i).toNatClampNeg) (lkC σ ro nc known day).1)) (13 + ro) ((lkC σ ro nc known day).1) (hI σ 0 11))) Z nv hnv hnv60 known day) clX3_worthOfAll ivX3_worthOfAll lk11_230 (by decide) rfl rfl ⟨Nat.le_of_ble_eq_true rfl, Nat.le_of_ble_eq_true rfl⟩ hl.1 rfl (Nat.le_of_ble_eq_true rfl) dX11_judge_149 ⟨Nat.le_of_ble_eq_true rfl, Nat.le_of_ble_eq_true rfl⟩) (fun r6 u H locs hR M => ?_)
        refine W.widen (k := 0) (n := 0) (Nat.le_of_ble_eq_true rfl) (Nat.le_of_ble_eq_true rfl) ?_
        replace hR : r6 = (cWs σ nv known day 10) ∧ u = ((sI (cJ1 σ ro ((lkC σ ro nc known day).1) ((lkC σ ro nc known day).2) (srt (hA σ 12 1 0) (fun i => hA σ 6 1 0 ((lkC σ ro nc known day).2 i).toNatClampNeg) (lkC σ ro nc known day).1)) 12 5 (cRat (cJ1 σ ro ((lkC σ ro nc known day).1) ((lkC σ ro nc known day).2) (srt (hA σ 12 1 0) (fun i => hA σ 6 1 0 ((lkC σ ro nc known day).2 i).toNatClampNeg) (lkC σ ro nc known day).1)) (13 + ro) ((lkC σ ro nc known day).1) (hI σ 0 11))), Z) := hR
        obtain ⟨rfl, rfl⟩ := hR
        have M : hM E A s H locs (sI (cJ1 σ ro ((lkC σ ro nc known day).1) ((lkC σ ro nc known day).2) (srt (hA σ 12 1 0) (fun i => hA σ 6 1 0 ((lkC σ ro nc known day).2 i).toNatClampNeg) (lkC σ ro nc known day).1)) 12 5 (cRat (cJ1 σ ro ((lkC σ ro nc known day).1) ((lkC σ ro nc known day).2) (srt (hA σ 12 1 0) (fun i => hA σ 6 1 0 ((lkC σ ro nc known day).2 i).toNatClampNeg) (lkC σ ro nc known day).1)) (13 + ro) ((lkC σ ro nc known day).1) (hI σ 0 11))) Z := M
        refine g_putL C M 12 6 (by decide) rfl rfl (by decide) fl11_234 rfl rfl dX11_judge_152 (fun H locs M => ?_)
        have M : hM E A s H locs (cJ2 σ ro ((lkC σ ro nc known day).1) ((lkC σ ro nc known day).2) (srt (hA σ 12 1 0) (fun i => hA σ 6 1 0 ((lkC σ ro nc known day).2 i).toNatClampNeg) (lkC σ ro nc known day).1) (cRat (cJ1 σ ro ((lkC σ ro nc known day).1) ((lkC σ ro nc known day).2) (srt (hA σ 12 1 0) (fun i => hA σ 6 1 0 ((lkC σ ro nc known day).2 i).toNatClampNeg) (lkC σ ro nc known day).1)) (13 + ro) ((lkC σ ro nc known day).1) (hI σ 0 11)) (cWs σ nv known day 10)) Z := M
        have hs2 : csh (cJ2 σ ro ((lkC σ ro nc known day).1) ((lkC σ ro nc known day).2) (srt (hA σ 12 1 0) (fun i => hA σ 6 1 0 ((lkC σ ro nc known day).2 i).toNatClampNeg) (lkC σ ro nc known day).1) (cRat (cJ1 σ ro ((lkC σ ro nc known day).1) ((lkC σ ro nc known day).2) (srt (hA σ 12 1 0) (fun i => hA σ 6 1 0 ((lkC σ ro nc known day).2 i).toNatClampNeg) (lkC σ ro nc known day).1)) (13 + ro) ((lkC σ ro nc known day).1) (hI σ 0 11)) (cWs σ nv known day 10)) ns := hs.tr (fun j k _ h => cJ2_I h) (fun _ => cJ2_A (by omega))
        refine lv_aload_n C.1 C.2.1 dX11_judge_155 rfl (lv_at hl 2 rfl) ?_
        refine g_getO C M 0 8 12 (by decide) rfl rfl (by decide) fl11_68 dX11_judge_156 ?_
        refine lv_aload_n C.1 C.2.1 dX11_judge_159 rfl (lv_at hl 2 rfl) ?_
        refine g_getQ C M 0 7 (by decide) rfl rfl (by decide) fl11_61 dX11_judge_160 ?_
        refine lv_aload_n C.1 C.2.1 dX11_judge_163 rfl (lv_at hl 2 rfl) ?_
        refine g_getI C M 0 13 (by decide) rfl rfl (by decide) fl11_167 (v := nI ns) hns dX11_judge_164 ?_
        refine lv_aload_n C.1 C.2.1 dX11_judge_167 rfl (lv_at hl 2 rfl) ?_
        refine g_getO C M 0 0 1 (by decide) rfl rfl (by decide) fl11_10 dX11_judge_168 ?_
        refine g_callv M (g_runV (As := [.ref (hR E 0 7 0), .int (nI ns), .ref (hO E 1)]) (rest := []) C M 12 (x_weigh l E (cJ2 σ ro ((lkC σ ro nc known day).1) ((lkC σ ro nc known day).2) (srt (hA σ 12 1 0) (fun i => hA σ 6 1 0 ((lkC σ ro nc known day).2 i).toNatClampNeg) (lkC σ ro nc known day).1) (cRat (cJ1 σ ro ((lkC σ ro nc known day).1) ((lkC σ ro nc known day).2) (srt (hA σ 12 1 0) (fun i => hA σ 6 1 0 ((lkC σ ro nc known day).2 i).toNatClampNeg) (lkC σ ro nc known day).1)) (13 + ro) ((lkC σ ro nc known day).1) (hI σ 0 11)) (cWs σ nv known day 10)) Z n hn hn40 hW hlg htr hg01 hcach ns hns8 hs2) clX4_weighShips ivX4_weighShips lk11_238 (by decide) rfl rfl ⟨Nat.le_of_ble_eq_true rfl, Nat.le_of_ble_eq_true rfl⟩ hl.1 rfl (Nat.le_of_ble_eq_true rfl) dX11_judge_171 ⟨Nat.le_of_ble_eq_true rfl, Nat.le_of_ble_eq_true rfl⟩) (fun u H locs hR M => ?_)
        refine W.widen (k := 0) (n := 0) (Nat.le_of_ble_eq_true rfl) (Nat.le_of_ble_eq_true rfl) ?_
        obtain ⟨Y, P, AW, hu, hY, hP, hAW⟩ := hR
        subst hu
        subst hAW
        generalize hL (cJ2 σ ro ((lkC σ ro nc known day).1) ((lkC σ ro nc known day).2) (srt (hA σ 12 1 0) (fun i => hA σ 6 1 0 ((lkC σ ro nc known day).2 i).toNatClampNeg) (lkC σ ro nc known day).1) (cRat (cJ1 σ ro ((lkC σ ro nc known day).1) ((lkC σ ro nc known day).2) (srt (hA σ 12 1 0) (fun i => hA σ 6 1 0 ((lkC σ ro nc known day).2 i).toNatClampNeg) (lkC σ ro nc known day).1)) (13 + ro) ((lkC σ ro nc known day).1) (hI σ 0 11)) (cWs σ nv known day 10)) 12 7 = G0 at M
        generalize hL (cJ2 σ ro ((lkC σ ro nc known day).1) ((lkC σ ro nc known day).2) (srt (hA σ 12 1 0) (fun i => hA σ 6 1 0 ((lkC σ ro nc known day).2 i).toNatClampNeg) (lkC σ ro nc known day).1) (cRat (cJ1 σ ro ((lkC σ ro nc known day).1) ((lkC σ ro nc known day).2) (srt (hA σ 12 1 0) (fun i => hA σ 6 1 0 ((lkC σ ro nc known day).2 i).toNatClampNeg) (lkC σ ro nc known day).1)) (13 + ro) ((lkC σ ro nc known day).1) (hI σ 0 11)) (cWs σ nv known day 10)) 12 8 = K0 at M
        generalize (fun i b => hI (cJ2 σ ro ((lkC σ ro nc known day).1) ((lkC σ ro nc known day).2) (srt (hA σ 12 1 0) (fun i => hA σ 6 1 0 ((lkC σ ro nc known day).2 i).toNatClampNeg) (lkC σ ro nc known day).1) (cRat (cJ1 σ ro ((lkC σ ro nc known day).1) ((lkC σ ro nc known day).2) (srt (hA σ 12 1 0) (fun i => hA σ 6 1 0 ((lkC σ ro nc known day).2 i).toNatClampNeg) (lkC σ ro nc known day).1)) (13 + ro) ((lkC σ ro nc known day).1) (hI σ 0 11)) (cWs σ nv known day 10)) (35 + i) b) = Q0 at M
        generalize (fun i => hB (cJ2 σ ro ((lkC σ ro nc known day).1) ((lkC σ ro nc known day).2) (srt (hA σ 12 1 0) (fun i => hA σ 6 1 0 ((lkC σ ro nc known day).2 i).toNatClampNeg) (lkC σ ro nc known day).1) (cRat (cJ1 σ ro ((lkC σ ro nc known day).1) ((lkC σ ro nc known day).2) (srt (hA σ 12 1 0) (fun i => hA σ 6 1 0 ((lkC σ ro nc known day).2 i).toNatClampNeg) (lkC σ ro nc known day).1)) (13 + ro) ((lkC σ ro nc known day).1) (hI σ 0 11)) (cWs σ nv known day 10)) (35 + i) 0 0) = T0 at M
        have hsY : csh Y ns := hs2.tr (fun j k h _ => hY.I h) hY.A27
        obtain ⟨V, c9, hWp, hcN, hVN, hVn, hV0⟩ := part_c (Y := Y) (all := hL Y 12 6) (rate := hI Y 12 5) hs2 hns8 hP (by rw [hY.L]; exact hal) (by rw [hY.I (by decide)]; exact hrt ro hro6)
        have M : hM E A s H locs (cM Y ns (sumL (fun i => P i 2) ns) G0 K0 P Q0 T0) Z := M
        refine lv_aload_n C.1 C.2.1 dX11_judge_174 rfl (lv_at hl 2 rfl) ?_
        refine g_getO C M 0 8 12 (by decide) rfl rfl (by decide) fl11_68 dX11_judge_175 ?_
        refine g_callv M (g_runV (As := []) (rest := []) C M 12 (x_among l E Y Z ns G0 K0 P Q0 T0 hns8 (fun i => P i 1) (fun i => P i 2) (fun _ _ => rfl) (fun _ _ => rfl) hWp V hVN hVn hV0) clX4_partAmongShips ivX4_partAmongShips lk11_242 (by decide) rfl rfl ⟨Nat.le_of_ble_eq_true rfl, Nat.le_of_ble_eq_true rfl⟩ hl.1 rfl (Nat.le_of_ble_eq_true rfl) dX11_judge_178 ⟨Nat.le_of_ble_eq_true rfl, Nat.le_of_ble_eq_true rfl⟩) (fun u H locs hR M => ?_)
        refine W.widen (k := 0) (n := 0) (Nat.le_of_ble_eq_true rfl) (Nat.le_of_ble_eq_true rfl) ?_
        obtain ⟨P1, hu, h1, hwt, h4⟩ := hR
        subst hu
        have M : hM E A s H locs (cM Y ns (sumL (fun i => P i 2) ns) (gvF (hL Y 12 6) (hI Y 12 5) (sumL (fun i => P i 2) ns)) K0 P1 Q0 T0) Z := M
        refine lv_aload_n C.1 C.2.1 dX11_judge_181 rfl (lv_at hl 2 rfl) ?_
        refine g_getO C M 0 8 12 (by decide) rfl rfl (by decide) fl11_68 dX11_judge_182 ?_
        refine lv_aload_n C.1 C.2.1 dX11_judge_185 rfl (lv_at hl 2 rfl) ?_
        refine g_getQ C M 0 7 (by decide) rfl rfl (by decide) fl11_61 dX11_judge_186 ?_
        refine lv_aload C.1 C.2.1 dX11_judge_189 (lv_at hl 0 rfl) ?_
        refine g_callv M (g_runV (As := [.ref (hR E 0 7 0), .ref (hO E (13 + ro))]) (rest := []) C M 12 (x_settle l E Y Z ns (sumL (fun i => P i 2) ns) (gvF (hL Y 12 6) (hI Y 12 5) (sumL (fun i => P i 2) ns)) K0 P1 Q0 T0 (13 + ro) (by omega) (lay13 (by omega)) (ci13 (by omega)) (by omega) hns8 hsY (by rw [hY.I (by omega), cJ2_I (by omega)]; exact (hlaw ro hro6).1) (by rw [hY.I (by omega), cJ2_I (by omega)]; exact (hlaw ro hro6).2) (fun i => P i 1) (fun i => P i 2) (pkS ns (rsF (gvF (hL Y 12 6) (hI Y 12 5) (sumL (fun i => P i 2) ns)) (fun i => P i 2) (sumL (fun i => P i 2) ns)) (coF (gvF (hL Y 12 6) (hI Y 12 5) (sumL (fun i => P i 2) ns)) (fun i => P i 2) (sumL (fun i => P i 2) ns)) V).2 h1 hwt h4 (fun i hi => cf_ok hns8 hcN hVn (fun q => (hV0 q).2) hi)) clX4_settle ivX4_settle lk11_245 (by decide) rfl rfl ⟨Nat.le_of_ble_eq_true rfl, Nat.le_of_ble_eq_true rfl⟩ hl.1 rfl (Nat.le_of_ble_eq_true rfl) dX11_judge_191 ⟨Nat.le_of_ble_eq_true rfl, Nat.le_of_ble_eq_true rfl⟩) (fun u H locs hR M => ?_)
        refine W.widen (k := 0) (n := 0) (Nat.le_of_ble_eq_true rfl) (Nat.le_of_ble_eq_true rfl) ?_
        obtain ⟨K2, P2, Q2, T2, hu, hPI⟩ := hR
        subst hu
        have M : hM E A s H locs (cM Y ns (sumL (fun i => P i 2) ns) (gvF (hL Y 12 6) (hI Y 12 5) (sumL (fun i => P i 2) ns)) K2 P2 Q2 T2) Z := M
        refine lv_iconst (v := 0) C.1 C.2.1 dX11_judge_194 (by decide) ?_
        refine g_iret C M hr hlk ?_ (Nat.le_of_ble_eq_true rfl) (Nat.le_of_ble_eq_true rfl) dX11_judge_195
        exact Or.inr (Or.inr ⟨⟨c_4, c_11⟩, ro, hro6, hroE, rfl, Y, P, P2, Q2, T2, K2, V, rfl, hY, hP, hVN, hVn, hPI⟩)
      · skip
        have hno : ltB (fun i => (¬ known < hA σ 10 1 0 i) ∧ (¬ day < hA σ 10 0 0 i)) (hA σ 10 0 0) nl = -1 := (ltB_in _ _ nl).elim id (fun ⟨j9, h1, h2⟩ => absurd (by rw [h2]; exact Int32.not_lt.mp (nI_pos (by omega))) c_31)
        refine lv_iconst (v := 1) C.1 C.2.1 dX11_judge_34 (by decide) ?_
        refine g_iret C M hr hlk ?_ (Nat.le_of_ble_eq_true rfl) (Nat.le_of_ble_eq_true rfl) dX11_judge_35
        exact Or.inr (Or.inl ⟨⟨c_4, c_11⟩, hno, rfl, rfl⟩)
    · skip
      have c_11 : ¬ inB day 0 5000 = true := bz_0.mp c_11
      refine lv_iconst (v := (-1)) C.1 C.2.1 dX11_judge_14 (by decide) ?_
      refine g_iret C M hr hlk ?_ (Nat.le_of_ble_eq_true rfl) (Nat.le_of_ble_eq_true rfl) dX11_judge_15
      exact Or.inl ⟨fun h9 => c_11 h9.2, rfl, rfl⟩
