theorem ite_fl {W a b : Int64} (h : 0 < W ↔ ¬ W = 0) : (if 0 < W then a else b) = if W = 0 then b else a := by
  by_cases e : W = 0
  · rw [if_pos e, if_neg (fun q => h.mp q e)]
  · rw [if_neg e, if_pos (h.mpr e)]
def rcF (g : Int64) (wt : Nat → Int64) (W : Int64) (i : Nat) : Int64 := g * wt i - coF g wt W i * W
theorem rc_rs {g W : Int64} {wt : Nat → Int64} {i : Nat} (h : ¬ W = 0) : rcF g wt W i = rsF g wt W i := by
  unfold rcF rsF coF
  rw [if_neg h]
theorem sc.pu {S : Nat → Nat → Int64} {c : Nat} {f : Nat → Int64} {n b : Nat} {v : Int64} (h : sc S c f n) : sc (up2 S b c v) c (vp_updL f b v) n := by
  intro i hi
  by_cases e : i = b
  · rw [e, up2_s]; exact pk_uLs.symm
  · rw [up2_r e, pk_uLn e]; exact h i hi
def cs (c : Nat) : Nat := match c with
  | 0 => 1
  | 1 => 2
  | 2 => 4
  | 3 => 6
  | 4 => 7
  | 5 => 8
  | _ => 5
def PS (P : Nat → Nat → Int64) : Nat → Nat → Int64 := fun i c => P i (cs c)
def hdC (σ : hMem) (i : Nat) : Nat := (hI σ (27 + i) 1).toNatClampNeg
section PC
variable {ns : Nat} {hr wt cf : Nat → Int64} {af la : Int32} {cl ow ma : Nat → Int32} {hd : Nat → Nat} {w : Nat → Nat → Int32} {S S' : Nat → Nat → Int64} {B : Int64} {HT : Nat → Nat → Int64} {HN HN' : Nat → Int32} {k : Nat}
theorem PI.cg (h : PI ns hr wt cf af la cl ow ma hd w S B HT HN k) (h1 : ∀ i c, c < 7 → S i c = S' i c) (h2 : ∀ i, HN i = HN' i) : PI ns hr wt cf af la cl ow ma hd w S' B HT HN' k := by
  obtain ⟨a, b, c, d, e, f⟩ := h
  refine ⟨fun i hi => ?_, fun i hi hi2 => ?_, fun i hi => ?_, d, fun i hi => ?_, f⟩
  · rw [← h1 i 0 (by decide), ← h1 i 1 (by decide)]; exact a i hi
  · rw [← h1 i 2 (by decide)]; exact b i hi hi2
  · rw [← h1 i 2 (by decide), ← h1 i 3 (by decide), ← h1 i 4 (by decide), ← h1 i 5 (by decide), ← h1 i 6 (by decide)]; exact c i hi
  · rw [← h2 i]; exact e i hi
end PC
theorem csh.hd {σ : hMem} {ns : Nat} (h : csh σ ns) {i : Nat} (hi : i < ns) : hI σ (27 + i) 1 = nI (hdC σ i) ∧ 0 < hdC σ i ∧ hdC σ i ≤ 60 ∧ hI σ (27 + i) 2 = sumI (hA σ (27 + i) 0 0) (hdC σ i) := by
  obtain ⟨_, _, _, _, _, q, h1, h2, h3, h4, _⟩ := h i hi
  have e : hdC σ i = q := by unfold hdC; rw [h3, nI_clamp (by omega)]
  rw [e]
  exact ⟨h3, h1, h2, h4⟩
theorem ab_c {σ : hMem} {ns j : Nat} (h : csh σ ns) (hl : (∃ a, a ≤ 5000 ∧ hI σ j 6 = nI a) ∧ ∃ a, a ≤ 1000 ∧ hI σ j 5 = nI a) {k : Nat} (hk : k < ns) {c : Int64} (hc : ∃ x, c = lN x ∧ x ≤ 10000001) : 0 < hI σ (27 + k) 2 ∧ ¬ (hI σ (27 + k) 2).toInt64 = 0 ∧ ∃ V, subL (cr9 c (hI σ (19 + k) 4) (hI σ j 6) (hI σ j 5) (hI σ (19 + k) 5) (hI σ (19 + k) 6)) (hcF (cr9 c (hI σ (19 + k) 4) (hI σ j 6) (hI σ j 5) (hI σ (19 + k) 5) (hI σ (19 + k) 6)) (hA σ (27 + k) 0 0) (hI σ (27 + k) 2)) (hdC σ k) = lN V ∧ V ≤ hdC σ k := by
  obtain ⟨_, _, _, ⟨a1, h1, h1'⟩, ⟨o, m, hom, h4, h5⟩, q, hq0, hq6, hq, hsm, hw⟩ := h k hk
  obtain ⟨⟨a2, h2, h2'⟩, a3, h3, h3'⟩ := hl
  obtain ⟨x, hx, hx'⟩ := hc
  have e : hdC σ k = q := by unfold hdC; rw [hq, nI_clamp (by omega)]
  rw [e, hsm]
  have hw' : ∀ y, y < q → hA σ (27 + k) 0 0 y = nI ((hA σ (27 + k) 0 0 y).toNatClampNeg) ∧ 1 ≤ (hA σ (27 + k) 0 0 y).toNatClampNeg ∧ (hA σ (27 + k) 0 0 y).toNatClampNeg ≤ 9 := fun y hy => by
    obtain ⟨z, z1, z2, z3⟩ := hw y hy
    have ez : (hA σ (27 + k) 0 0 y).toNatClampNeg = z := by rw [z3, nI_clamp (by omega)]
    rw [ez]
    exact ⟨z3, z1, z2⟩
  obtain ⟨g1, g2⟩ := ab_ok (q := fun y => (hA σ (27 + k) 0 0 y).toNatClampNeg) hx hx' h1' h1 h2' h2 h3' h3 h4 h5 hom hq0 hq6 hw'
  refine ⟨?_, g1, g2⟩
  rw [sumI_N q (fun y hy => (hw' y hy).1)]
  have hb : sumN (fun y => (hA σ (27 + k) 0 0 y).toNatClampNeg) q ≤ q * 9 := sumN_le q (fun y hy => (hw' y hy).2.2)
  have hp := sumN_ge (f := fun y => (hA σ (27 + k) 0 0 y).toNatClampNeg) q 0 hq0
  have hp' := (hw' 0 hq0).2.1
  exact (nI_ltI (a := 0) (by decide) (by omega)).mpr (by omega)
theorem PIc_s {ns j k V : Nat} {σ : hMem} {hr wt cf : Nat → Int64} {P : Nat → Nat → Int64} {Q : Nat → Nat → Int32} {K : Int64} {HT : Nat → Nat → Int64} (h : PI ns hr wt cf (hI σ j 6) (hI σ j 5) (fun i => hI σ (19 + i) 4) (fun i => hI σ (19 + i) 5) (fun i => hI σ (19 + i) 6) (hdC σ) (fun i => hA σ (27 + i) 0 0) (PS P) K HT (fun i => Q i 9) k) (hk : k < ns) (hs : csh σ ns) (hV : subL (cr9 (P k 4) (hI σ (19 + k) 4) (hI σ j 6) (hI σ j 5) (hI σ (19 + k) 5) (hI σ (19 + k) 6)) (hcF (cr9 (P k 4) (hI σ (19 + k) 4) (hI σ j 6) (hI σ j 5) (hI σ (19 + k) 5) (hI σ (19 + k) 6)) (hA σ (27 + k) 0 0) (hI σ (27 + k) 2)) (hdC σ k) = lN V) (hVd : V ≤ hdC σ k) : PI ns hr wt cf (hI σ j 6) (hI σ j 5) (fun i => hI σ (19 + i) 4) (fun i => hI σ (19 + i) 5) (fun i => hI σ (19 + i) 6) (hdC σ) (fun i => hA σ (27 + i) 0 0) (PS (up2 (up2 (up2 (up2 (up2 P k 5 (ls9 (P k 4) (hI σ (19 + k) 4) (hI σ j 6) (hI σ j 5))) k 4 (cc9 (P k 4) (hI σ (19 + k) 4) (hI σ j 6) (hI σ j 5))) k 6 (ow9 (P k 4) (hI σ (19 + k) 4) (hI σ j 6) (hI σ j 5) (hI σ (19 + k) 5))) k 7 (ow9 (P k 4) (hI σ (19 + k) 4) (hI σ j 6) (hI σ j 5) (hI σ (19 + k) 6))) k 8 (cr9 (P k 4) (hI σ (19 + k) 4) (hI σ j 6) (hI σ j 5) (hI σ (19 + k) 5) (hI σ (19 + k) 6)))) (K + ls9 (P k 4) (hI σ (19 + k) 4) (hI σ j 6) (hI σ j 5)) (preU (preU HT k (hcF (cr9 (P k 4) (hI σ (19 + k) 4) (hI σ j 6) (hI σ j 5) (hI σ (19 + k) 5) (hI σ (19 + k) 6)) (hA σ (27 + k) 0 0) (hI σ (27 + k) 2)) (hdC σ k)) k (fun y => hcF (cr9 (P k 4) (hI σ (19 + k) 4) (hI σ j 6) (hI σ j 5) (hI σ (19 + k) 5) (hI σ (19 + k) 6)) (hA σ (27 + k) 0 0) (hI σ (27 + k) 2) y + 1) V) (fun i => u2 Q k 9 (nI (hdC σ k)) i 9) (k + 1) := by
  rw [(hs.hd hk).2.2.2] at hV ⊢
  refine PI.cg (h.s hk hV hVd) (fun i c hc => ?_) (fun i => ?_)
  · by_cases e : i = k
    · subst e
      rcases (show c = 0 ∨ c = 1 ∨ c = 2 ∨ c = 3 ∨ c = 4 ∨ c = 5 ∨ c = 6 by omega) with rfl | rfl | rfl | rfl | rfl | rfl | rfl <;> simp [up2, PS, cs]
    · unfold PS
      rw [up2_r e, up2_r e, up2_r e, up2_r e, up2_r e, up2_r e, up2_r e, up2_r e, up2_r e, up2_r e]
  · by_cases e : i = k
    · subst e
      rw [u2_s]; exact pk_us
    · rw [u2_r e]; exact if_neg e

set_option maxHeartbeats 4000000 in
set_option maxRecDepth 100000 in
theorem x_among (l : Launch) (E : hEnv) (σ : hMem) (Z : va_W) (ns : Nat) (G K : Int64) (P : Nat → Nat → Int64) (Q : Nat → Nat → Int32) (HT : Nat → Nat → Int64) (hns8 : ns ≤ 8) (hh wt : Nat → Int64) (h1 : sc P 1 hh ns) (hwt : sc P 2 wt ns) (hWp : 0 < (sumL wt ns) ↔ ¬ (sumL wt ns) = 0) (V : Nat) (hVN : subL (gvF (hL σ 12 6) (hI σ 12 5) (sumL wt ns)) (coF (gvF (hL σ 12 6) (hI σ 12 5) (sumL wt ns)) wt (sumL wt ns)) ns = lN V) (hVn : V ≤ ns) (hV0 : 0 < V → ¬ (sumL wt ns) = 0 ∧ ∀ i, i < ns → ¬ (rsF (gvF (hL σ 12 6) (hI σ 12 5) (sumL wt ns)) wt (sumL wt ns)) i < 0) : hMet l yX4_partAmongShips cX4_partAmongShips 5 none (1, 0, 0, 22) E (cM σ ns (sumL wt ns) G K P Q HT) Z [.ref (hO E 12)] (hQv E (fun u => ∃ P', u = (cM σ ns (sumL wt ns) (gvF (hL σ 12 6) (hI σ 12 5) (sumL wt ns)) K P' Q HT, Z) ∧ sc P' 1 hh ns ∧ sc P' 2 wt ns ∧ sc P' 4 (pkS ns (rsF (gvF (hL σ 12 6) (hI σ 12 5) (sumL wt ns)) wt (sumL wt ns)) (coF (gvF (hL σ 12 6) (hI σ 12 5) (sumL wt ns)) wt (sumL wt ns)) V).2 ns)) := by
  refine hMet.of (by decide) (Nat.le_of_ble_eq_true rfl) (fun p e s m below meth c A ls C M hr hlk hl => ?_)
  have hl : lv_has ls 5 [(0, .ref (hO E 12))] := hl
  generalize s.heap = H at M ⊢
  generalize ([] : List Loc) = locs at M ⊢
  refine lv_aload_n C.1 C.2.1 dX4_partAmongShips_0 rfl (lv_at hl 0 rfl) ?_
  refine lv_aload_n C.1 C.2.1 dX4_partAmongShips_1 rfl (lv_at hl 0 rfl) ?_
  refine g_getL C M 12 10 (by decide) rfl rfl (by decide) fl4_32 (v := (sumL wt ns)) rfl dX4_partAmongShips_2 ?_
  refine lv_lconst (v := 0) C.1 C.2.1 dX4_partAmongShips_5 (by decide) ?_
  refine W.lcmp C.1 C.2.1 dX4_partAmongShips_6 ?_
  have J2 : ∀ (v1 : Int64) (ev1 : v1 = (if 0 < (sumL wt ns) then ((hL σ 12 6) * ((hI σ 12 5).toInt64)) / 1000 else 0)) (H : Heap) (locs : List Loc) (ls : Array Slot), hM E A s H locs (cM σ ns (sumL wt ns) G K P Q HT) Z → lv_has ls 5 [(0, .ref (hO E 12))] → W p l e (hRm (1, 0, 0, 22)) s m [.ref (hO E 12)].toArray below meth c H locs 0 0 (MQ below (hQv E (fun u => ∃ P', u = (cM σ ns (sumL wt ns) (gvF (hL σ 12 6) (hI σ 12 5) (sumL wt ns)) K P' Q HT, Z) ∧ sc P' 1 hh ns ∧ sc P' 2 wt ns ∧ sc P' 4 (pkS ns (rsF (gvF (hL σ 12 6) (hI σ 12 5) (sumL wt ns)) wt (sumL wt ns)) (coF (gvF (hL σ 12 6) (hI σ 12 5) (sumL wt ns)) wt (sumL wt ns)) V).2 ns) A) [.ref (hO E 12)].toArray s 0 0 A) (F0 m 28 ls [.long v1, .ref (hO E 12)]) := by
    intro v1 ev1 H locs ls M hl
    subst ev1
    refine g_rel (v := (gvF (hL σ 12 6) (hI σ 12 5) (sumL wt ns))) (ite_fl hWp) ?_
    refine g_putL C M 12 7 (by decide) rfl rfl (by decide) fl4_72 rfl rfl dX4_partAmongShips_28 (fun H locs M => ?_)
    rw [cM_G] at M
    refine lv_aload_n C.1 C.2.1 dX4_partAmongShips_31 rfl (lv_at hl 0 rfl) ?_
    refine g_getL C M 12 7 (by decide) rfl rfl (by decide) fl4_72 (v := (gvF (hL σ 12 6) (hI σ 12 5) (sumL wt ns))) rfl dX4_partAmongShips_32 ?_
    refine lv_lstore_n (lv' := [(1, .long (gvF (hL σ 12 6) (hI σ 12 5) (sumL wt ns))), (0, .ref (hO E 12))]) C.1 C.2.1 dX4_partAmongShips_35 rfl hl (by decide) rfl (fun ls hl => ?_)
    refine lv_iconst (v := 0) C.1 C.2.1 dX4_partAmongShips_36 (by decide) ?_
    refine lv_istore_n (lv' := [(3, .int 0), (1, .long (gvF (hL σ 12 6) (hI σ 12 5) (sumL wt ns))), (0, .ref (hO E 12))]) C.1 C.2.1 dX4_partAmongShips_37 rfl hl (by decide) rfl (fun ls hl => ?_)
    have L38 : ∀ (n9 : Nat) (k : Nat) (P : Nat → Nat → Int64), (k ≤ ns) → (sc P 1 hh ns) → (sc P 2 wt ns) → (sc P 4 (coF (gvF (hL σ 12 6) (hI σ 12 5) (sumL wt ns)) wt (sumL wt ns)) k) → (sc P 3 (rcF (gvF (hL σ 12 6) (hI σ 12 5) (sumL wt ns)) wt (sumL wt ns)) k) → ns - k < n9 → ∀ (H : Heap) (locs : List Loc) (ls : Array Slot), hM E A s H locs (cM σ ns (sumL wt ns) (gvF (hL σ 12 6) (hI σ 12 5) (sumL wt ns)) K P Q HT) Z → lv_has ls 5 [(1, .long (subL (gvF (hL σ 12 6) (hI σ 12 5) (sumL wt ns)) (coF (gvF (hL σ 12 6) (hI σ 12 5) (sumL wt ns)) wt (sumL wt ns)) k)), (3, .int (nI k)), (0, .ref (hO E 12))] → W p l e (hRm (1, 0, 0, 22)) s m [.ref (hO E 12)].toArray below meth c H locs 0 0 (MQ below (hQv E (fun u => ∃ P', u = (cM σ ns (sumL wt ns) (gvF (hL σ 12 6) (hI σ 12 5) (sumL wt ns)) K P' Q HT, Z) ∧ sc P' 1 hh ns ∧ sc P' 2 wt ns ∧ sc P' 4 (pkS ns (rsF (gvF (hL σ 12 6) (hI σ 12 5) (sumL wt ns)) wt (sumL wt ns)) (coF (gvF (hL σ 12 6) (hI σ 12 5) (sumL wt ns)) wt (sumL wt ns)) V).2 ns) A) [.ref (hO E 12)].toArray s 0 0 A) (F0 m 38 ls []) := by
      intro n9
      induction n9 with
      | zero =>
        intro k P hk h1 hwt h4 h3 hn9
        exact absurd hn9 (Nat.not_lt_zero _)
      | succ n9 ih38 =>
        intro k P hk h1 hwt h4 h3 hn38 H locs ls M hl
        refine lv_iload_n C.1 C.2.1 dX4_partAmongShips_38 rfl (lv_at hl 1 rfl) ?_
        refine lv_aload_n C.1 C.2.1 dX4_partAmongShips_39 rfl (lv_at hl 2 rfl) ?_
        refine g_getI C M 12 9 (by decide) rfl rfl (by decide) fl4_29 (v := nI ns) rfl dX4_partAmongShips_40 ?_
        refine lv_icmp_ge (tgt := 127) C.1 C.2.1 dX4_partAmongShips_43 (by decide) (fun c_43 => ?_) (fun c_43 => ?_)
        · skip
          have hkn : k = ns := by have := ct_ge (n := ns) (k := k) c_43; omega
          have hl : lv_has ls 5 [(1, .long (subL (gvF (hL σ 12 6) (hI σ 12 5) (sumL wt ns)) (coF (gvF (hL σ 12 6) (hI σ 12 5) (sumL wt ns)) wt (sumL wt ns)) ns)), (3, .int (nI ns)), (0, .ref (hO E 12))] := by first | exact hl | (rw [hkn] at hl; exact hl)
          have M : hM E A s H locs (cM σ ns (sumL wt ns) (gvF (hL σ 12 6) (hI σ 12 5) (sumL wt ns)) K P Q HT) Z := by first | exact M | (rw [hkn] at M; exact M)
          refine lv_iconst (v := 0) C.1 C.2.1 dX4_partAmongShips_127 (by decide) ?_
          refine lv_istore_n (lv' := [(3, .int 0), (1, .long (subL (gvF (hL σ 12 6) (hI σ 12 5) (sumL wt ns)) (coF (gvF (hL σ 12 6) (hI σ 12 5) (sumL wt ns)) wt (sumL wt ns)) ns)), (0, .ref (hO E 12))]) C.1 C.2.1 dX4_partAmongShips_128 rfl hl (by decide) rfl (fun ls hl => ?_)
          have L129 : ∀ (n9 : Nat) (v : Nat) (P : Nat → Nat → Int64), (v ≤ V) → (sc P 1 hh ns) → (sc P 2 wt ns) → (sc P 4 (pkS ns (rsF (gvF (hL σ 12 6) (hI σ 12 5) (sumL wt ns)) wt (sumL wt ns)) (coF (gvF (hL σ 12 6) (hI σ 12 5) (sumL wt ns)) wt (sumL wt ns)) v).2 ns) → (0 < V → sc P 3 (rsS ns (rsF (gvF (hL σ 12 6) (hI σ 12 5) (sumL wt ns)) wt (sumL wt ns)) (coF (gvF (hL σ 12 6) (hI σ 12 5) (sumL wt ns)) wt (sumL wt ns)) v) ns) → V - v < n9 → ∀ (H : Heap) (locs : List Loc) (ls : Array Slot), hM E A s H locs (cM σ ns (sumL wt ns) (gvF (hL σ 12 6) (hI σ 12 5) (sumL wt ns)) K P Q HT) Z → lv_has ls 5 [(1, .long (lN V)), (3, .int (nI v)), (0, .ref (hO E 12))] → W p l e (hRm (1, 0, 0, 22)) s m [.ref (hO E 12)].toArray below meth c H locs 0 0 (MQ below (hQv E (fun u => ∃ P', u = (cM σ ns (sumL wt ns) (gvF (hL σ 12 6) (hI σ 12 5) (sumL wt ns)) K P' Q HT, Z) ∧ sc P' 1 hh ns ∧ sc P' 2 wt ns ∧ sc P' 4 (pkS ns (rsF (gvF (hL σ 12 6) (hI σ 12 5) (sumL wt ns)) wt (sumL wt ns)) (coF (gvF (hL σ 12 6) (hI σ 12 5) (sumL wt ns)) wt (sumL wt ns)) V).2 ns) A) [.ref (hO E 12)].toArray s 0 0 A) (F0 m 129 ls []) := by
            intro n9
            induction n9 with
            | zero =>
              intro v P hv h1 hwt h4 h3 hn9
              exact absurd hn9 (Nat.not_lt_zero _)
            | succ n9 ih129 =>
              intro v P hv h1 hwt h4 h3 hn129 H locs ls M hl
              refine lv_iload_n C.1 C.2.1 dX4_partAmongShips_129 rfl (lv_at hl 1 rfl) ?_
              refine lv_aload_n C.1 C.2.1 dX4_partAmongShips_130 rfl (lv_at hl 2 rfl) ?_
              refine g_getI C M 12 9 (by decide) rfl rfl (by decide) fl4_29 (v := nI ns) rfl dX4_partAmongShips_131 ?_
              refine lv_icmp_ge (tgt := 180) C.1 C.2.1 dX4_partAmongShips_134 (by decide) (fun c_134 => ?_) (fun c_134 => ?_)
              · skip
                have hvV : v = V := by have := ct_ge (n := ns) (k := v) c_134; omega
                refine g_vret C M hr hlk ?_ (Nat.le_of_ble_eq_true rfl) (Nat.le_of_ble_eq_true rfl) dX4_partAmongShips_180
                rw [hvV] at h4; exact ⟨P, rfl, h1, hwt, h4⟩
              · skip
                have hv1 : v < ns := ct_nge (n := ns) (k := v) c_134
                refine lv_iload_n C.1 C.2.1 dX4_partAmongShips_137 rfl (lv_at hl 1 rfl) ?_
                refine lv_i2l C.1 C.2.1 dX4_partAmongShips_138 rfl ?_
                refine lv_lload_n C.1 C.2.1 dX4_partAmongShips_139 rfl (lv_at hl 0 rfl) ?_
                refine W.lcmp C.1 C.2.1 dX4_partAmongShips_140 ?_
                refine lv_if_ge (tgt := 180) C.1 C.2.1 dX4_partAmongShips_141 (by decide) (fun c_141 => ?_) (fun c_141 => ?_)
                · skip
                  have c_141 : ¬ ((nI v).toInt64) < (lN V) := lc_ge0.mp c_141
                  have hvV : v = V := by have h9 : ¬ v < V := fun q => c_141 (by rw [nI_l (by omega)]; exact (pk_lLT (by omega) (by omega)).mpr q); omega
                  refine g_vret C M hr hlk ?_ (Nat.le_of_ble_eq_true rfl) (Nat.le_of_ble_eq_true rfl) dX4_partAmongShips_180
                  rw [hvV] at h4; exact ⟨P, rfl, h1, hwt, h4⟩
                · skip
                  have c_141 : ((nI v).toInt64) < (lN V) := lc_ge1.mp c_141
                  have hvV : v < V := by rw [nI_l (by omega)] at c_141; exact (pk_lLT (by omega) (by omega)).mp c_141
                  refine lv_aload_n C.1 C.2.1 dX4_partAmongShips_144 rfl (lv_at hl 2 rfl) ?_
                  refine g_getQ C M 12 2 (by decide) rfl rfl (by decide) fl4_20 dX4_partAmongShips_145 ?_
                  refine lv_aload_n C.1 C.2.1 dX4_partAmongShips_148 rfl (lv_at hl 2 rfl) ?_
                  refine g_calli M (g_runV (As := []) (rest := [.ref (hR E 12 2 0)]) C M 12 (x_great l E σ Z ns (sumL wt ns) (gvF (hL σ 12 6) (hI σ 12 5) (sumL wt ns)) K P Q HT (by omega) hns8) clX4_greatestRest ivX4_greatestRest lk4_81 (by decide) rfl rfl ⟨Nat.le_of_ble_eq_true rfl, Nat.le_of_ble_eq_true rfl⟩ hl.1 rfl (Nat.le_of_ble_eq_true rfl) dX4_partAmongShips_149 ⟨Nat.le_of_ble_eq_true rfl, Nat.le_of_ble_eq_true rfl⟩) (fun r3 u H locs hR M => ?_)
                  refine W.widen (k := 0) (n := 0) (Nat.le_of_ble_eq_true rfl) (Nat.le_of_ble_eq_true rfl) ?_
                  obtain ⟨hr9, hu⟩ := hR
                  subst hu
                  rw [gr_congr ns (h3 (by omega))] at hr9
                  obtain ⟨hb, _, hb3, hb4⟩ := rsS_gr (c := (coF (gvF (hL σ 12 6) (hI σ 12 5) (sumL wt ns)) wt (sumL wt ns))) (by omega) (hV0 (by omega)).2 (show v < ns by omega)
                  generalize gr (rsS ns (rsF (gvF (hL σ 12 6) (hI σ 12 5) (sumL wt ns)) wt (sumL wt ns)) (coF (gvF (hL σ 12 6) (hI σ 12 5) (sumL wt ns)) wt (sumL wt ns)) v) ns = b9 at hr9 hb hb3 hb4
                  subst hr9
                  have M : hM E A s H locs (cM σ ns (sumL wt ns) (gvF (hL σ 12 6) (hI σ 12 5) (sumL wt ns)) K P Q HT) Z := M
                  refine g_aald7 C M 12 2 (by decide) rfl (by decide) b9 (nI_clamp (by omega)) (vp_in_nI (by omega) (by decide)) dX4_partAmongShips_152 ?_
                  refine lv_astore (lv' := [(4, .ref (hO E (35 + b9))), (1, .long (lN V)), (3, .int (nI v)), (0, .ref (hO E 12))]) C.1 C.2.1 dX4_partAmongShips_153 hl (by decide) rfl (fun ls hl => ?_)
                  refine lv_aload C.1 C.2.1 dX4_partAmongShips_155 (lv_at hl 0 rfl) ?_
                  refine lv_dup C.1 C.2.1 dX4_partAmongShips_157 rfl ?_
                  refine g_getL C M (35 + b9) 4 (by omega) (by rw [lay35 (by omega)]; rfl) (by rw [ci35 (by omega)]; rfl) (by decide) fl4_75 (v := (pkS ns (rsF (gvF (hL σ 12 6) (hI σ 12 5) (sumL wt ns)) wt (sumL wt ns)) (coF (gvF (hL σ 12 6) (hI σ 12 5) (sumL wt ns)) wt (sumL wt ns)) v).2 b9) ((cM_L (by omega)).trans (h4 b9 hb)) dX4_partAmongShips_158 ?_
                  refine lv_lconst (v := 1) C.1 C.2.1 dX4_partAmongShips_161 (by decide) ?_
                  refine lv_ladd C.1 C.2.1 dX4_partAmongShips_162 ?_
                  refine g_putL C M (35 + b9) 4 (by omega) (by rw [lay35 (by omega)]; rfl) (by rw [ci35 (by omega)]; rfl) (by decide) fl4_75 rfl (by rw [ci35 (by omega)]; rfl) dX4_partAmongShips_163 (fun H locs M => ?_)
                  rw [cM_sL (by omega)] at M
                  refine lv_aload C.1 C.2.1 dX4_partAmongShips_166 (lv_at hl 0 rfl) ?_
                  refine lv_ldc2 (v := (-1)) C.1 C.2.1 C.2.2.2.1 (C.2.2.2.2.1.1.use kc4_85 rfl) dX4_partAmongShips_168 ?_
                  refine g_putL C M (35 + b9) 3 (by omega) (by rw [lay35 (by omega)]; rfl) (by rw [ci35 (by omega)]; rfl) (by decide) fl4_78 rfl (by rw [ci35 (by omega)]; rfl) dX4_partAmongShips_171 (fun H locs M => ?_)
                  rw [cM_sL (by omega)] at M
                  refine lv_iinc (v := nI (v + 1)) (lv' := [(3, .int (nI (v + 1))), (4, .ref (hO E (35 + b9))), (1, .long (lN V)), (0, .ref (hO E 12))]) C.1 C.2.1 dX4_partAmongShips_174 hl (k := 2) rfl (nI_succ _).symm (by decide) rfl (fun ls hl => ?_)
                  refine lv_goto (tgt := 129) C.1 C.2.1 dX4_partAmongShips_177 (by decide) ?_
                  exact ih129 (v + 1) (up2 (up2 P b9 4 (((pkS ns (rsF (gvF (hL σ 12 6) (hI σ 12 5) (sumL wt ns)) wt (sumL wt ns)) (coF (gvF (hL σ 12 6) (hI σ 12 5) (sumL wt ns)) wt (sumL wt ns)) v).2 b9) + 1)) b9 3 (-1)) hvV ((h1.o (by decide)).o (by decide)) ((hwt.o (by decide)).o (by decide)) (by rw [← hb4]; exact h4.pu.o (by decide)) (fun q => by rw [← hb3]; exact ((h3 q).o (by decide)).pu) (by omega) _ _ _ M (lv_sub hl [2, 0, 3] rfl)
          have q4 : subL (gvF (hL σ 12 6) (hI σ 12 5) (sumL wt ns)) (coF (gvF (hL σ 12 6) (hI σ 12 5) (sumL wt ns)) wt (sumL wt ns)) ns = lN V := by first | rfl | exact hVN
          have q5 : 0 = nI 0 := by first | rfl | exact hVN
          have hl : lv_has ls 5 [(1, .long (lN V)), (3, .int (nI 0)), (0, .ref (hO E 12))] := by
            rw [← q4, ← q5]
            exact lv_sub hl [1, 0, 2] rfl
          exact L129 ((V - 0) + 1) 0 P (Nat.zero_le _) h1 hwt (by rw [hkn] at h4; exact h4) (fun q i hi => by rw [hkn] at h3; rw [h3 i hi, rc_rs (hV0 q).1]; exact (if_pos rfl).symm) (Nat.lt_succ_self _) _ _ _ M hl
        · skip
          have hk1 : k < ns := ct_nge (n := ns) (k := k) c_43
          refine lv_aload_n C.1 C.2.1 dX4_partAmongShips_46 rfl (lv_at hl 2 rfl) ?_
          refine g_getQ C M 12 2 (by decide) rfl rfl (by decide) fl4_20 dX4_partAmongShips_47 ?_
          refine lv_iload_n C.1 C.2.1 dX4_partAmongShips_50 rfl (lv_at hl 1 rfl) ?_
          refine g_aald7 C M 12 2 (by decide) rfl (by decide) k (nI_clamp (by omega)) (vp_in_nI (by omega) (by decide)) dX4_partAmongShips_51 ?_
          refine lv_astore (lv' := [(4, .ref (hO E (35 + k))), (1, .long (subL (gvF (hL σ 12 6) (hI σ 12 5) (sumL wt ns)) (coF (gvF (hL σ 12 6) (hI σ 12 5) (sumL wt ns)) wt (sumL wt ns)) k)), (3, .int (nI k)), (0, .ref (hO E 12))]) C.1 C.2.1 dX4_partAmongShips_52 hl (by decide) rfl (fun ls hl => ?_)
          refine lv_aload C.1 C.2.1 dX4_partAmongShips_54 (lv_at hl 0 rfl) ?_
          refine lv_aload_n C.1 C.2.1 dX4_partAmongShips_56 rfl (lv_at hl 3 rfl) ?_
          refine g_getL C M 12 10 (by decide) rfl rfl (by decide) fl4_32 (v := (sumL wt ns)) rfl dX4_partAmongShips_57 ?_
          refine lv_lconst (v := 0) C.1 C.2.1 dX4_partAmongShips_60 (by decide) ?_
          refine W.lcmp C.1 C.2.1 dX4_partAmongShips_61 ?_
          have J7 : ∀ (v6 : Int64) (ev6 : v6 = (if 0 < (sumL wt ns) then ((gvF (hL σ 12 6) (hI σ 12 5) (sumL wt ns)) * (wt k)) / (sumL wt ns) else 0)) (H : Heap) (locs : List Loc) (ls : Array Slot), hM E A s H locs (cM σ ns (sumL wt ns) (gvF (hL σ 12 6) (hI σ 12 5) (sumL wt ns)) K P Q HT) Z → lv_has ls 5 [(4, .ref (hO E (35 + k))), (1, .long (subL (gvF (hL σ 12 6) (hI σ 12 5) (sumL wt ns)) (coF (gvF (hL σ 12 6) (hI σ 12 5) (sumL wt ns)) wt (sumL wt ns)) k)), (3, .int (nI k)), (0, .ref (hO E 12))] → W p l e (hRm (1, 0, 0, 22)) s m [.ref (hO E 12)].toArray below meth c H locs 0 0 (MQ below (hQv E (fun u => ∃ P', u = (cM σ ns (sumL wt ns) (gvF (hL σ 12 6) (hI σ 12 5) (sumL wt ns)) K P' Q HT, Z) ∧ sc P' 1 hh ns ∧ sc P' 2 wt ns ∧ sc P' 4 (pkS ns (rsF (gvF (hL σ 12 6) (hI σ 12 5) (sumL wt ns)) wt (sumL wt ns)) (coF (gvF (hL σ 12 6) (hI σ 12 5) (sumL wt ns)) wt (sumL wt ns)) V).2 ns) A) [.ref (hO E 12)].toArray s 0 0 A) (F0 m 84 ls [.long v6, .ref (hO E (35 + k))]) := by
            intro v6 ev6 H locs ls M hl
            subst ev6
            refine g_rel (v := (coF (gvF (hL σ 12 6) (hI σ 12 5) (sumL wt ns)) wt (sumL wt ns)) k) (ite_fl hWp) ?_
            refine g_putL C M (35 + k) 4 (by omega) (by rw [lay35 (by omega)]; rfl) (by rw [ci35 (by omega)]; rfl) (by decide) fl4_75 rfl (by rw [ci35 (by omega)]; rfl) dX4_partAmongShips_84 (fun H locs M => ?_)
            rw [cM_sL (by omega)] at M
            refine lv_aload C.1 C.2.1 dX4_partAmongShips_87 (lv_at hl 0 rfl) ?_
            refine lv_aload_n C.1 C.2.1 dX4_partAmongShips_89 rfl (lv_at hl 3 rfl) ?_
            refine g_getL C M 12 7 (by decide) rfl rfl (by decide) fl4_72 (v := (gvF (hL σ 12 6) (hI σ 12 5) (sumL wt ns))) rfl dX4_partAmongShips_90 ?_
            refine lv_aload C.1 C.2.1 dX4_partAmongShips_93 (lv_at hl 0 rfl) ?_
            refine g_getL C M (35 + k) 2 (by omega) (by rw [lay35 (by omega)]; rfl) (by rw [ci35 (by omega)]; rfl) (by decide) fl4_61 (v := wt k) (((cM_L (by omega)).trans (by simp [up2])).trans (hwt k hk1)) dX4_partAmongShips_95 ?_
            refine lv_lmul C.1 C.2.1 dX4_partAmongShips_98 ?_
            refine lv_aload C.1 C.2.1 dX4_partAmongShips_99 (lv_at hl 0 rfl) ?_
            refine g_getL C M (35 + k) 4 (by omega) (by rw [lay35 (by omega)]; rfl) (by rw [ci35 (by omega)]; rfl) (by decide) fl4_75 (v := ((coF (gvF (hL σ 12 6) (hI σ 12 5) (sumL wt ns)) wt (sumL wt ns)) k)) ((cM_L (by omega)).trans (by simp [up2])) dX4_partAmongShips_101 ?_
            refine lv_aload_n C.1 C.2.1 dX4_partAmongShips_104 rfl (lv_at hl 3 rfl) ?_
            refine g_getL C M 12 10 (by decide) rfl rfl (by decide) fl4_32 (v := (sumL wt ns)) rfl dX4_partAmongShips_105 ?_
            refine lv_lmul C.1 C.2.1 dX4_partAmongShips_108 ?_
            refine lv_lsub C.1 C.2.1 dX4_partAmongShips_109 ?_
            refine g_rel (v := (rcF (gvF (hL σ 12 6) (hI σ 12 5) (sumL wt ns)) wt (sumL wt ns)) k) rfl ?_
            refine g_putL C M (35 + k) 3 (by omega) (by rw [lay35 (by omega)]; rfl) (by rw [ci35 (by omega)]; rfl) (by decide) fl4_78 rfl (by rw [ci35 (by omega)]; rfl) dX4_partAmongShips_110 (fun H locs M => ?_)
            rw [cM_sL (by omega)] at M
            refine lv_lload_n C.1 C.2.1 dX4_partAmongShips_113 rfl (lv_at hl 1 rfl) ?_
            refine lv_aload C.1 C.2.1 dX4_partAmongShips_114 (lv_at hl 0 rfl) ?_
            refine g_getL C M (35 + k) 4 (by omega) (by rw [lay35 (by omega)]; rfl) (by rw [ci35 (by omega)]; rfl) (by decide) fl4_75 (v := ((coF (gvF (hL σ 12 6) (hI σ 12 5) (sumL wt ns)) wt (sumL wt ns)) k)) ((cM_L (by omega)).trans (by simp [up2])) dX4_partAmongShips_116 ?_
            refine lv_lsub C.1 C.2.1 dX4_partAmongShips_119 ?_
            refine lv_lstore_n (lv' := [(1, .long ((subL (gvF (hL σ 12 6) (hI σ 12 5) (sumL wt ns)) (coF (gvF (hL σ 12 6) (hI σ 12 5) (sumL wt ns)) wt (sumL wt ns)) k) - ((coF (gvF (hL σ 12 6) (hI σ 12 5) (sumL wt ns)) wt (sumL wt ns)) k))), (4, .ref (hO E (35 + k))), (3, .int (nI k)), (0, .ref (hO E 12))]) C.1 C.2.1 dX4_partAmongShips_120 rfl hl (by decide) rfl (fun ls hl => ?_)
            refine lv_iinc (v := nI (k + 1)) (lv' := [(3, .int (nI (k + 1))), (1, .long ((subL (gvF (hL σ 12 6) (hI σ 12 5) (sumL wt ns)) (coF (gvF (hL σ 12 6) (hI σ 12 5) (sumL wt ns)) wt (sumL wt ns)) k) - ((coF (gvF (hL σ 12 6) (hI σ 12 5) (sumL wt ns)) wt (sumL wt ns)) k))), (4, .ref (hO E (35 + k))), (0, .ref (hO E 12))]) C.1 C.2.1 dX4_partAmongShips_121 hl (k := 2) rfl (nI_succ _).symm (by decide) rfl (fun ls hl => ?_)
            refine lv_goto (tgt := 38) C.1 C.2.1 dX4_partAmongShips_124 (by decide) ?_
            have q8 : (subL (gvF (hL σ 12 6) (hI σ 12 5) (sumL wt ns)) (coF (gvF (hL σ 12 6) (hI σ 12 5) (sumL wt ns)) wt (sumL wt ns)) k) - ((coF (gvF (hL σ 12 6) (hI σ 12 5) (sumL wt ns)) wt (sumL wt ns)) k) = subL (gvF (hL σ 12 6) (hI σ 12 5) (sumL wt ns)) (coF (gvF (hL σ 12 6) (hI σ 12 5) (sumL wt ns)) wt (sumL wt ns)) (k + 1) := by rfl
            have hl : lv_has ls 5 [(1, .long (subL (gvF (hL σ 12 6) (hI σ 12 5) (sumL wt ns)) (coF (gvF (hL σ 12 6) (hI σ 12 5) (sumL wt ns)) wt (sumL wt ns)) (k + 1))), (3, .int (nI (k + 1))), (0, .ref (hO E 12))] := by
              rw [← q8]
              exact lv_sub hl [1, 0, 3] rfl
            exact ih38 (k + 1) (up2 (up2 P k 4 ((coF (gvF (hL σ 12 6) (hI σ 12 5) (sumL wt ns)) wt (sumL wt ns)) k)) k 3 ((rcF (gvF (hL σ 12 6) (hI σ 12 5) (sumL wt ns)) wt (sumL wt ns)) k)) hk1 ((h1.o (by decide)).o (by decide)) ((hwt.o (by decide)).o (by decide)) ((h4.s rfl).o (by decide)) ((h3.o (by decide)).s rfl) (by omega) _ _ _ M hl
          refine lv_if_le (tgt := 83) C.1 C.2.1 dX4_partAmongShips_62 (by decide) (fun c_62 => ?_) (fun c_62 => ?_)
          · skip
            have c_62 : ¬ 0 < (sumL wt ns) := lc_le0.mp c_62
            refine lv_lconst (v := 0) C.1 C.2.1 dX4_partAmongShips_83 (by decide) ?_
            exact J7 _ (by first | (simp only [c_62, not_false_eq_true, not_true_eq_false, and_self, and_true, true_and, and_false, false_and, or_true, true_or, or_false, false_or, Bool.false_eq_true, if_true, if_false, ↓reduceIte]; done) | simp [c_62]) _ _ _ M (lv_sub hl [0, 1, 2, 3] rfl)
          · skip
            have c_62 : 0 < (sumL wt ns) := lc_le1.mp c_62
            refine lv_aload_n C.1 C.2.1 dX4_partAmongShips_65 rfl (lv_at hl 3 rfl) ?_
            refine g_getL C M 12 7 (by decide) rfl rfl (by decide) fl4_72 (v := (gvF (hL σ 12 6) (hI σ 12 5) (sumL wt ns))) rfl dX4_partAmongShips_66 ?_
            refine lv_aload C.1 C.2.1 dX4_partAmongShips_69 (lv_at hl 0 rfl) ?_
            refine g_getL C M (35 + k) 2 (by omega) (by rw [lay35 (by omega)]; rfl) (by rw [ci35 (by omega)]; rfl) (by decide) fl4_61 (v := wt k) ((cM_L (by omega)).trans (hwt k hk1)) dX4_partAmongShips_71 ?_
            refine lv_lmul C.1 C.2.1 dX4_partAmongShips_74 ?_
            refine lv_aload_n C.1 C.2.1 dX4_partAmongShips_75 rfl (lv_at hl 3 rfl) ?_
            refine g_getL C M 12 10 (by decide) rfl rfl (by decide) fl4_32 (v := (sumL wt ns)) rfl dX4_partAmongShips_76 ?_
            refine lv_ldiv C.1 C.2.1 dX4_partAmongShips_79 (hWp.mp c_62) ?_
            refine lv_goto (tgt := 84) C.1 C.2.1 dX4_partAmongShips_80 (by decide) ?_
            exact J7 _ (by first | (simp only [c_62, not_false_eq_true, not_true_eq_false, and_self, and_true, true_and, and_false, false_and, or_true, true_or, or_false, false_or, Bool.false_eq_true, if_true, if_false, ↓reduceIte]; done) | simp [c_62]) _ _ _ M (lv_sub hl [0, 1, 2, 3] rfl)
    have q9 : (gvF (hL σ 12 6) (hI σ 12 5) (sumL wt ns)) = subL (gvF (hL σ 12 6) (hI σ 12 5) (sumL wt ns)) (coF (gvF (hL σ 12 6) (hI σ 12 5) (sumL wt ns)) wt (sumL wt ns)) 0 := by rfl
    have q10 : 0 = nI 0 := by rfl
    have hl : lv_has ls 5 [(1, .long (subL (gvF (hL σ 12 6) (hI σ 12 5) (sumL wt ns)) (coF (gvF (hL σ 12 6) (hI σ 12 5) (sumL wt ns)) wt (sumL wt ns)) 0)), (3, .int (nI 0)), (0, .ref (hO E 12))] := by
      rw [← q9, ← q10]
      exact lv_sub hl [1, 0, 2] rfl
    exact L38 ((ns - 0) + 1) 0 P (Nat.zero_le _) h1 hwt (sc.z _ _ _) (sc.z _ _ _) (Nat.lt_succ_self _) _ _ _ M hl
  refine lv_if_le (tgt := 27) C.1 C.2.1 dX4_partAmongShips_7 (by decide) (fun c_7 => ?_) (fun c_7 => ?_)
  · skip
    have c_7 : ¬ 0 < (sumL wt ns) := lc_le0.mp c_7
    refine lv_lconst (v := 0) C.1 C.2.1 dX4_partAmongShips_27 (by decide) ?_
    exact J2 _ (by first | (simp only [c_7, not_false_eq_true, not_true_eq_false, and_self, and_true, true_and, and_false, false_and, or_true, true_or, or_false, false_or, Bool.false_eq_true, if_true, if_false, ↓reduceIte]; done) | simp [c_7]) _ _ _ M (lv_sub hl [0] rfl)
  · skip
    have c_7 : 0 < (sumL wt ns) := lc_le1.mp c_7
    refine lv_aload_n C.1 C.2.1 dX4_partAmongShips_10 rfl (lv_at hl 0 rfl) ?_
    refine g_getL C M 12 6 (by decide) rfl rfl (by decide) fl4_64 (v := hL σ 12 6) rfl dX4_partAmongShips_11 ?_
    refine lv_aload_n C.1 C.2.1 dX4_partAmongShips_14 rfl (lv_at hl 0 rfl) ?_
    refine g_getI C M 12 5 (by decide) rfl rfl (by decide) fl4_67 (v := hI σ 12 5) rfl dX4_partAmongShips_15 ?_
    refine lv_i2l C.1 C.2.1 dX4_partAmongShips_18 rfl ?_
    refine lv_lmul C.1 C.2.1 dX4_partAmongShips_19 ?_
    refine lv_ldc2 (v := 1000) C.1 C.2.1 C.2.2.2.1 (C.2.2.2.2.1.1.use kc4_70 rfl) dX4_partAmongShips_20 ?_
    refine lv_ldiv C.1 C.2.1 dX4_partAmongShips_23 (by decide) ?_
    refine lv_goto (tgt := 28) C.1 C.2.1 dX4_partAmongShips_24 (by decide) ?_
    exact J2 _ (by first | (simp only [c_7, not_false_eq_true, not_true_eq_false, and_self, and_true, true_and, and_false, false_and, or_true, true_or, or_false, false_or, Bool.false_eq_true, if_true, if_false, ↓reduceIte]; done) | simp [c_7]) _ _ _ M (lv_sub hl [0] rfl)

set_option maxHeartbeats 4000000 in
set_option maxRecDepth 100000 in
theorem x_settle (l : Launch) (E : hEnv) (σ : hMem) (Z : va_W) (ns : Nat) (AW G K : Int64) (P : Nat → Nat → Int64) (Q : Nat → Nat → Int32) (HT : Nat → Nat → Int64) (j : Nat) (hj : j < 44) (hL : hLay j = layLaw) (hC : hCi j = 5) (hjo : 13 ≤ j ∧ j < 35) (hns8 : ns ≤ 8) (hs : csh σ ns) (haf : ∃ a, a ≤ 5000 ∧ hI σ j 6 = nI a) (hla : ∃ a, a ≤ 1000 ∧ hI σ j 5 = nI a) (hh wt cf : Nat → Int64) (h1 : sc P 1 hh ns) (hwt : sc P 2 wt ns) (h4 : sc P 4 cf ns) (hcf : ∀ i, i < ns → ∃ x, cf i = lN x ∧ x ≤ 10000001) : hMet l yX4_settle cX4_settle 4 none (2, 0, 0, 45) E (cM σ ns AW G K P Q HT) Z [.ref (hO E 12), .ref (hR E 0 7 0), .ref (hO E j)] (hQv E (fun u => ∃ K' P' Q' HT', u = (cM σ ns AW G K' P' Q' HT', Z) ∧ PI ns hh wt cf (hI σ j 6) (hI σ j 5) (fun i => hI σ (19 + i) 4) (fun i => hI σ (19 + i) 5) (fun i => hI σ (19 + i) 6) (hdC σ) (fun i => hA σ (27 + i) 0 0) (PS P') K' HT' (fun i => Q' i 9) ns)) := by
  refine hMet.of (by decide) (Nat.le_of_ble_eq_true rfl) (fun p e s m below meth c A ls C M hr hlk hl => ?_)
  have hl : lv_has ls 4 [(0, .ref (hO E 12)), (1, .ref (hR E 0 7 0)), (2, .ref (hO E j))] := hl
  generalize s.heap = H at M ⊢
  generalize ([] : List Loc) = locs at M ⊢
  refine lv_aload_n C.1 C.2.1 dX4_settle_0 rfl (lv_at hl 0 rfl) ?_
  refine lv_lconst (v := 0) C.1 C.2.1 dX4_settle_1 (by decide) ?_
  refine g_putL C M 12 8 (by decide) rfl rfl (by decide) fl4_87 rfl rfl dX4_settle_2 (fun H locs M => ?_)
  rw [cM_K] at M
  refine lv_iconst (v := 0) C.1 C.2.1 dX4_settle_5 (by decide) ?_
  refine lv_istore_n (lv' := [(3, .int 0), (0, .ref (hO E 12)), (1, .ref (hR E 0 7 0)), (2, .ref (hO E j))]) C.1 C.2.1 dX4_settle_6 rfl hl (by decide) rfl (fun ls hl => ?_)
  have L7 : ∀ (n9 : Nat) (k : Nat) (K : Int64) (P : Nat → Nat → Int64) (Q : Nat → Nat → Int32) (HT : Nat → Nat → Int64), (k ≤ ns) → (PI ns hh wt cf (hI σ j 6) (hI σ j 5) (fun i => hI σ (19 + i) 4) (fun i => hI σ (19 + i) 5) (fun i => hI σ (19 + i) 6) (hdC σ) (fun i => hA σ (27 + i) 0 0) (PS P) K HT (fun i => Q i 9) k) → ns - k < n9 → ∀ (H : Heap) (locs : List Loc) (ls : Array Slot), hM E A s H locs (cM σ ns AW G K P Q HT) Z → lv_has ls 4 [(3, .int (nI k)), (0, .ref (hO E 12)), (1, .ref (hR E 0 7 0)), (2, .ref (hO E j))] → W p l e (hRm (2, 0, 0, 45)) s m [.ref (hO E 12), .ref (hR E 0 7 0), .ref (hO E j)].toArray below meth c H locs 0 0 (MQ below (hQv E (fun u => ∃ K' P' Q' HT', u = (cM σ ns AW G K' P' Q' HT', Z) ∧ PI ns hh wt cf (hI σ j 6) (hI σ j 5) (fun i => hI σ (19 + i) 4) (fun i => hI σ (19 + i) 5) (fun i => hI σ (19 + i) 6) (hdC σ) (fun i => hA σ (27 + i) 0 0) (PS P') K' HT' (fun i => Q' i 9) ns) A) [.ref (hO E 12), .ref (hR E 0 7 0), .ref (hO E j)].toArray s 0 0 A) (F0 m 7 ls []) := by
    intro n9
    induction n9 with
    | zero =>
      intro k K P Q HT hk hPI hn9
      exact absurd hn9 (Nat.not_lt_zero _)
    | succ n9 ih7 =>
      intro k K P Q HT hk hPI hn7 H locs ls M hl
      refine lv_iload_n C.1 C.2.1 dX4_settle_7 rfl (lv_at hl 0 rfl) ?_
      refine lv_aload_n C.1 C.2.1 dX4_settle_8 rfl (lv_at hl 1 rfl) ?_
      refine g_getI C M 12 9 (by decide) rfl rfl (by decide) fl4_29 (v := nI ns) rfl dX4_settle_9 ?_
      refine lv_icmp_ge (tgt := 67) C.1 C.2.1 dX4_settle_12 (by decide) (fun c_12 => ?_) (fun c_12 => ?_)
      · skip
        have hkn : k = ns := by have := ct_ge (n := ns) (k := k) c_12; omega
        have hl : lv_has ls 4 [(3, .int (nI ns)), (0, .ref (hO E 12)), (1, .ref (hR E 0 7 0)), (2, .ref (hO E j))] := by first | exact hl | (rw [hkn] at hl; exact hl)
        have M : hM E A s H locs (cM σ ns AW G K P Q HT) Z := by first | exact M | (rw [hkn] at M; exact M)
        refine g_vret C M hr hlk ?_ (Nat.le_of_ble_eq_true rfl) (Nat.le_of_ble_eq_true rfl) dX4_settle_67
        rw [hkn] at hPI; exact ⟨K, P, Q, HT, rfl, hPI⟩
      · skip
        have hk1 : k < ns := ct_nge (n := ns) (k := k) c_12
        have hc9 : P k 4 = cf k := hPI.2.1 k (Nat.le_refl k) hk1
        obtain ⟨hws9, hws0, V9, hV9, hVd9⟩ := ab_c hs ⟨haf, hla⟩ hk1 (c := P k 4) (by rw [hc9]; exact hcf k hk1)
        have hPI1 := PIc_s hPI hk1 hs hV9 hVd9
        refine lv_aload_n C.1 C.2.1 dX4_settle_15 rfl (lv_at hl 1 rfl) ?_
        refine g_getQ C M 12 2 (by decide) rfl rfl (by decide) fl4_20 dX4_settle_16 ?_
        refine lv_iload_n C.1 C.2.1 dX4_settle_19 rfl (lv_at hl 0 rfl) ?_
        refine g_aald7 C M 12 2 (by decide) rfl (by decide) k (nI_clamp (by omega)) (vp_in_nI (by omega) (by decide)) dX4_settle_20 ?_
        refine lv_aload_n C.1 C.2.1 dX4_settle_21 rfl (lv_at hl 2 rfl) ?_
        refine lv_iload_n C.1 C.2.1 dX4_settle_22 rfl (lv_at hl 0 rfl) ?_
        refine g_aald7 C M 0 7 (by decide) rfl (by decide) k (nI_clamp (by omega)) (vp_in_nI (by omega) (by decide)) dX4_settle_23 ?_
        refine g_getI C M (19 + k) 4 (by omega) (by rw [lay19 (by omega)]; rfl) (by rw [ci19 (by omega)]; rfl) (by decide) fl4_90 (v := hI σ (19 + k) 4) (cM_Io (by omega) (by omega)) dX4_settle_24 ?_
        refine lv_aload_n C.1 C.2.1 dX4_settle_27 rfl (lv_at hl 3 rfl) ?_
        refine g_callv M (g_runV (As := [.int (hI σ (19 + k) 4), .ref (hO E j)]) (rest := []) C M (35 + k) (x_plose l E σ Z ns AW G K P Q HT k (by omega) j hj hL hC hjo (hI σ (19 + k) 4) (hs k hk1).2.2.2.1 haf) clX6_loseLate ivX6_loseLate lk4_93 (by omega) (by rw [ci35 (by omega)]; rfl) rfl ⟨Nat.le_of_ble_eq_true rfl, Nat.le_of_ble_eq_true rfl⟩ hl.1 rfl (Nat.le_of_ble_eq_true rfl) dX4_settle_28 ⟨Nat.le_of_ble_eq_true rfl, Nat.le_of_ble_eq_true rfl⟩) (fun u H locs hR M => ?_)
        refine W.widen (k := 0) (n := 0) (Nat.le_of_ble_eq_true rfl) (Nat.le_of_ble_eq_true rfl) ?_
        subst hR
        have M : hM E A s H locs (cM σ ns AW G K (up2 (up2 P k 5 (ls9 (P k 4) (hI σ (19 + k) 4) (hI σ j 6) (hI σ j 5))) k 4 (cc9 (P k 4) (hI σ (19 + k) 4) (hI σ j 6) (hI σ j 5))) Q HT) Z := M
        refine lv_aload_n C.1 C.2.1 dX4_settle_31 rfl (lv_at hl 1 rfl) ?_
        refine lv_dup C.1 C.2.1 dX4_settle_32 rfl ?_
        refine g_getL C M 12 8 (by decide) rfl rfl (by decide) fl4_87 (v := K) rfl dX4_settle_33 ?_
        refine lv_aload_n C.1 C.2.1 dX4_settle_36 rfl (lv_at hl 1 rfl) ?_
        refine g_getQ C M 12 2 (by decide) rfl rfl (by decide) fl4_20 dX4_settle_37 ?_
        refine lv_iload_n C.1 C.2.1 dX4_settle_40 rfl (lv_at hl 0 rfl) ?_
        refine g_aald7 C M 12 2 (by decide) rfl (by decide) k (nI_clamp (by omega)) (vp_in_nI (by omega) (by decide)) dX4_settle_41 ?_
        refine g_getL C M (35 + k) 5 (by omega) (by rw [lay35 (by omega)]; rfl) (by rw [ci35 (by omega)]; rfl) (by decide) fl4_97 (v := (ls9 (P k 4) (hI σ (19 + k) 4) (hI σ j 6) (hI σ j 5))) ((cM_L (by omega)).trans (by simp [up2])) dX4_settle_42 ?_
        refine lv_ladd C.1 C.2.1 dX4_settle_45 ?_
        refine g_putL C M 12 8 (by decide) rfl rfl (by decide) fl4_87 rfl rfl dX4_settle_46 (fun H locs M => ?_)
        rw [cM_K] at M
        refine lv_aload_n C.1 C.2.1 dX4_settle_49 rfl (lv_at hl 1 rfl) ?_
        refine g_getQ C M 12 2 (by decide) rfl rfl (by decide) fl4_20 dX4_settle_50 ?_
        refine lv_iload_n C.1 C.2.1 dX4_settle_53 rfl (lv_at hl 0 rfl) ?_
        refine g_aald7 C M 12 2 (by decide) rfl (by decide) k (nI_clamp (by omega)) (vp_in_nI (by omega) (by decide)) dX4_settle_54 ?_
        refine lv_aload_n C.1 C.2.1 dX4_settle_55 rfl (lv_at hl 2 rfl) ?_
        refine lv_iload_n C.1 C.2.1 dX4_settle_56 rfl (lv_at hl 0 rfl) ?_
        refine g_aald7 C M 0 7 (by decide) rfl (by decide) k (nI_clamp (by omega)) (vp_in_nI (by omega) (by decide)) dX4_settle_57 ?_
        refine g_callv M (g_runV (As := [.ref (hO E (19 + k))]) (rest := []) C M (35 + k) (x_ppay l E σ Z ns AW G (K + (ls9 (P k 4) (hI σ (19 + k) 4) (hI σ j 6) (hI σ j 5))) (up2 (up2 P k 5 (ls9 (P k 4) (hI σ (19 + k) 4) (hI σ j 6) (hI σ j 5))) k 4 (cc9 (P k 4) (hI σ (19 + k) 4) (hI σ j 6) (hI σ j 5))) Q HT k (by omega) (hdC σ k) V9 (hs.hd hk1).1 (hs.hd hk1).2.2.1 hws9 hws0 hVd9 (by rw [show (up2 (up2 P k 5 (ls9 (P k 4) (hI σ (19 + k) 4) (hI σ j 6) (hI σ j 5))) k 4 (cc9 (P k 4) (hI σ (19 + k) 4) (hI σ j 6) (hI σ j 5))) k 4 = (cc9 (P k 4) (hI σ (19 + k) 4) (hI σ j 6) (hI σ j 5)) from up2_s]; exact hV9)) clX6_pay ivX6_pay lk4_100 (by omega) (by rw [ci35 (by omega)]; rfl) rfl ⟨Nat.le_of_ble_eq_true rfl, Nat.le_of_ble_eq_true rfl⟩ hl.1 rfl (Nat.le_of_ble_eq_true rfl) dX4_settle_58 ⟨Nat.le_of_ble_eq_true rfl, Nat.le_of_ble_eq_true rfl⟩) (fun u H locs hR M => ?_)
        refine W.widen (k := 0) (n := 0) (Nat.le_of_ble_eq_true rfl) (Nat.le_of_ble_eq_true rfl) ?_
        rw [show (up2 (up2 P k 5 (ls9 (P k 4) (hI σ (19 + k) 4) (hI σ j 6) (hI σ j 5))) k 4 (cc9 (P k 4) (hI σ (19 + k) 4) (hI σ j 6) (hI σ j 5))) k 4 = (cc9 (P k 4) (hI σ (19 + k) 4) (hI σ j 6) (hI σ j 5)) from up2_s] at hR
        subst hR
        have M : hM E A s H locs (cM σ ns AW G (K + (ls9 (P k 4) (hI σ (19 + k) 4) (hI σ j 6) (hI σ j 5))) (up2 (up2 (up2 (up2 (up2 P k 5 (ls9 (P k 4) (hI σ (19 + k) 4) (hI σ j 6) (hI σ j 5))) k 4 (cc9 (P k 4) (hI σ (19 + k) 4) (hI σ j 6) (hI σ j 5))) k 6 (ow9 (P k 4) (hI σ (19 + k) 4) (hI σ j 6) (hI σ j 5) (hI σ (19 + k) 5))) k 7 (ow9 (P k 4) (hI σ (19 + k) 4) (hI σ j 6) (hI σ j 5) (hI σ (19 + k) 6))) k 8 (cr9 (P k 4) (hI σ (19 + k) 4) (hI σ j 6) (hI σ j 5) (hI σ (19 + k) 5) (hI σ (19 + k) 6))) (u2 Q k 9 (nI (hdC σ k))) (preU (preU HT k (hcF (cr9 (P k 4) (hI σ (19 + k) 4) (hI σ j 6) (hI σ j 5) (hI σ (19 + k) 5) (hI σ (19 + k) 6)) (hA σ (27 + k) 0 0) (hI σ (27 + k) 2)) (hdC σ k)) k (fun y => (hcF (cr9 (P k 4) (hI σ (19 + k) 4) (hI σ j 6) (hI σ j 5) (hI σ (19 + k) 5) (hI σ (19 + k) 6)) (hA σ (27 + k) 0 0) (hI σ (27 + k) 2)) y + 1) V9)) Z := M
        refine lv_iinc (v := nI (k + 1)) (lv' := [(3, .int (nI (k + 1))), (0, .ref (hO E 12)), (1, .ref (hR E 0 7 0)), (2, .ref (hO E j))]) C.1 C.2.1 dX4_settle_61 hl (k := 0) rfl (nI_succ _).symm (by decide) rfl (fun ls hl => ?_)
        refine lv_goto (tgt := 7) C.1 C.2.1 dX4_settle_64 (by decide) ?_
        exact ih7 (k + 1) (K + (ls9 (P k 4) (hI σ (19 + k) 4) (hI σ j 6) (hI σ j 5))) (up2 (up2 (up2 (up2 (up2 P k 5 (ls9 (P k 4) (hI σ (19 + k) 4) (hI σ j 6) (hI σ j 5))) k 4 (cc9 (P k 4) (hI σ (19 + k) 4) (hI σ j 6) (hI σ j 5))) k 6 (ow9 (P k 4) (hI σ (19 + k) 4) (hI σ j 6) (hI σ j 5) (hI σ (19 + k) 5))) k 7 (ow9 (P k 4) (hI σ (19 + k) 4) (hI σ j 6) (hI σ j 5) (hI σ (19 + k) 6))) k 8 (cr9 (P k 4) (hI σ (19 + k) 4) (hI σ j 6) (hI σ j 5) (hI σ (19 + k) 5) (hI σ (19 + k) 6))) (u2 Q k 9 (nI (hdC σ k))) (preU (preU HT k (hcF (cr9 (P k 4) (hI σ (19 + k) 4) (hI σ j 6) (hI σ j 5) (hI σ (19 + k) 5) (hI σ (19 + k) 6)) (hA σ (27 + k) 0 0) (hI σ (27 + k) 2)) (hdC σ k)) k (fun y => (hcF (cr9 (P k 4) (hI σ (19 + k) 4) (hI σ j 6) (hI σ j 5) (hI σ (19 + k) 5) (hI σ (19 + k) 6)) (hA σ (27 + k) 0 0) (hI σ (27 + k) 2)) y + 1) V9) hk1 hPI1 (by omega) _ _ _ M (lv_sub hl [0, 1, 2, 3] rfl)
  have q1 : 0 = nI 0 := by rfl
  have hl : lv_has ls 4 [(3, .int (nI 0)), (0, .ref (hO E 12)), (1, .ref (hR E 0 7 0)), (2, .ref (hO E j))] := by
    rw [← q1]
    exact lv_sub hl [0, 1, 2, 3] rfl
  exact L7 ((ns - 0) + 1) 0 0 P Q HT (Nat.zero_le _) (PI.z h1 hwt h4) (Nat.lt_succ_self _) _ _ _ M hl
