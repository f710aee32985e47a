/-! Constructors. -/
theorem df_0 : ∀ j, j < 1 → defaultValue (hTyOf 0 j) = vp_V [.null] j := fun j hj => by
  rcases (show j = 0 by omega) with rfl <;> rfl
theorem df_1 : ∀ j, j < 5 → defaultValue (hTyOf 1 j) = vp_V [.null, .null, .null, .null, .int 0] j := fun j hj => by
  rcases (show j = 0 ∨ j = 1 ∨ j = 2 ∨ j = 3 ∨ j = 4 by omega) with rfl | rfl | rfl | rfl | rfl <;> rfl
theorem df_2 : ∀ j, j < 3 → defaultValue (hTyOf 2 j) = vp_V [.null, .int 0, .int 0] j := fun j hj => by
  rcases (show j = 0 ∨ j = 1 ∨ j = 2 by omega) with rfl | rfl | rfl <;> rfl
theorem df_3 : ∀ j, j < 4 → defaultValue (hTyOf 3 j) = vp_V [.null, .null, .null, .int 0] j := fun j hj => by
  rcases (show j = 0 ∨ j = 1 ∨ j = 2 ∨ j = 3 by omega) with rfl | rfl | rfl | rfl <;> rfl
theorem df_4 : ∀ j, j < 11 → defaultValue (hTyOf 4 j) = vp_V [.null, .null, .null, .int 0, .int 0, .int 0, .long 0, .long 0, .long 0, .int 0, .long 0] j := fun j hj => by
  rcases (show j = 0 ∨ j = 1 ∨ j = 2 ∨ j = 3 ∨ j = 4 ∨ j = 5 ∨ j = 6 ∨ j = 7 ∨ j = 8 ∨ j = 9 ∨ j = 10 by omega) with rfl | rfl | rfl | rfl | rfl | rfl | rfl | rfl | rfl | rfl | rfl <;> rfl
theorem df_5 : ∀ j, j < 7 → defaultValue (hTyOf 5 j) = vp_V [.null, .int 0, .int 0, .int 0, .int 0, .int 0, .int 0] j := fun j hj => by
  rcases (show j = 0 ∨ j = 1 ∨ j = 2 ∨ j = 3 ∨ j = 4 ∨ j = 5 ∨ j = 6 by omega) with rfl | rfl | rfl | rfl | rfl | rfl | rfl <;> rfl
theorem df_6 : ∀ j, j < 10 → defaultValue (hTyOf 6 j) = vp_V [.null, .long 0, .long 0, .long 0, .long 0, .long 0, .long 0, .long 0, .long 0, .int 0] j := fun j hj => by
  rcases (show j = 0 ∨ j = 1 ∨ j = 2 ∨ j = 3 ∨ j = 4 ∨ j = 5 ∨ j = 6 ∨ j = 7 ∨ j = 8 ∨ j = 9 by omega) with rfl | rfl | rfl | rfl | rfl | rfl | rfl | rfl | rfl | rfl <;> rfl
theorem df_7 : ∀ j, j < 7 → defaultValue (hTyOf 7 j) = vp_V [.null, .int 0, .int 0, .int 0, .int 0, .int 0, .int 0] j := fun j hj => by
  rcases (show j = 0 ∨ j = 1 ∨ j = 2 ∨ j = 3 ∨ j = 4 ∨ j = 5 ∨ j = 6 by omega) with rfl | rfl | rfl | rfl | rfl | rfl | rfl <;> rfl
theorem df_8 : ∀ j, j < 15 → defaultValue (hTyOf 8 j) = vp_V [.null, .null, .null, .null, .null, .null, .int 0, .null, .null, .int 0, .int 0, .null, .null, .int 0, .int 0] j := fun j hj => by
  rcases (show j = 0 ∨ j = 1 ∨ j = 2 ∨ j = 3 ∨ j = 4 ∨ j = 5 ∨ j = 6 ∨ j = 7 ∨ j = 8 ∨ j = 9 ∨ j = 10 ∨ j = 11 ∨ j = 12 ∨ j = 13 ∨ j = 14 by omega) with rfl | rfl | rfl | rfl | rfl | rfl | rfl | rfl | rfl | rfl | rfl | rfl | rfl | rfl | rfl <;> rfl
theorem df_9 : ∀ j, j < 6 → defaultValue (hTyOf 9 j) = vp_V [.null, .int 0, .int 0, .int 0, .int 0, .int 0] j := fun j hj => by
  rcases (show j = 0 ∨ j = 1 ∨ j = 2 ∨ j = 3 ∨ j = 4 ∨ j = 5 by omega) with rfl | rfl | rfl | rfl | rfl | rfl <;> rfl
theorem df_10 : ∀ j, j < 2 → defaultValue (hTyOf 10 j) = vp_V [.null, .null] j := fun j hj => by
  rcases (show j = 0 ∨ j = 1 by omega) with rfl | rfl <;> rfl
theorem df_11 : ∀ j, j < 14 → defaultValue (hTyOf 11 j) = vp_V [.null, .null, .null, .null, .null, .null, .null, .null, .null, .int 0, .int 0, .int 0, .int 0, .int 0] j := fun j hj => by
  rcases (show j = 0 ∨ j = 1 ∨ j = 2 ∨ j = 3 ∨ j = 4 ∨ j = 5 ∨ j = 6 ∨ j = 7 ∨ j = 8 ∨ j = 9 ∨ j = 10 ∨ j = 11 ∨ j = 12 ∨ j = 13 by omega) with rfl | rfl | rfl | rfl | rfl | rfl | rfl | rfl | rfl | rfl | rfl | rfl | rfl | rfl <;> rfl
theorem df_12 : ∀ j, j < 59 → defaultValue (hTyOf 12 j) = vp_V [.int 0, .int 0, .null, .int 0, .null, .null, .null, .null, .null, .null, .null, .int 0, .null, .null, .null, .null, .null, .int 0, .null, .null, .null, .null, .null, .null, .int 0, .int 0, .int 0, .null, .null, .null, .null, .int 0, .int 0, .int 0, .int 0, .int 0, .int 0, .null, .int 0, .null, .null, .null, .null, .null, .null, .null, .null, .int 0, .int 0, .int 0, .int 0, .int 0, .null, .long 0, .long 0, .long 0, .null, .null, .null] j := fun j hj => by
  rcases (show j = 0 ∨ j = 1 ∨ j = 2 ∨ j = 3 ∨ j = 4 ∨ j = 5 ∨ j = 6 ∨ j = 7 ∨ j = 8 ∨ j = 9 ∨ j = 10 ∨ j = 11 ∨ j = 12 ∨ j = 13 ∨ j = 14 ∨ j = 15 ∨ j = 16 ∨ j = 17 ∨ j = 18 ∨ j = 19 ∨ j = 20 ∨ j = 21 ∨ j = 22 ∨ j = 23 ∨ j = 24 ∨ j = 25 ∨ j = 26 ∨ j = 27 ∨ j = 28 ∨ j = 29 ∨ j = 30 ∨ j = 31 ∨ j = 32 ∨ j = 33 ∨ j = 34 ∨ j = 35 ∨ j = 36 ∨ j = 37 ∨ j = 38 ∨ j = 39 ∨ j = 40 ∨ j = 41 ∨ j = 42 ∨ j = 43 ∨ j = 44 ∨ j = 45 ∨ j = 46 ∨ j = 47 ∨ j = 48 ∨ j = 49 ∨ j = 50 ∨ j = 51 ∨ j = 52 ∨ j = 53 ∨ j = 54 ∨ j = 55 ∨ j = 56 ∨ j = 57 ∨ j = 58 by omega) with rfl | rfl | rfl | rfl | rfl | rfl | rfl | rfl | rfl | rfl | rfl | rfl | rfl | rfl | rfl | rfl | rfl | rfl | rfl | rfl | rfl | rfl | rfl | rfl | rfl | rfl | rfl | rfl | rfl | rfl | rfl | rfl | rfl | rfl | rfl | rfl | rfl | rfl | rfl | rfl | rfl | rfl | rfl | rfl | rfl | rfl | rfl | rfl | rfl | rfl | rfl | rfl | rfl | rfl | rfl | rfl | rfl | rfl | rfl <;> rfl
def nth : List Nat → Nat → Nat
  | [], _ => 0
  | a :: _, 0 => a
  | _ :: t, k + 1 => nth t k
theorem nS_at {w0 S L : va_W} {i : Nat} {x : Nat × va_E} (h : S[i]? = some x) : ((w0 ++ S) ++ L)[w0.length + i]? = some x := by
  have hl : i < S.length := (List.getElem?_eq_some_iff.mp h).1
  rw [List.getElem?_append_left (by rw [List.length_append]; omega)]
  exact nL_at h
theorem up6 {f : Nat → Nat} {a0 a1 a2 a3 a4 a5 : Nat} (h0 : f 0 = a0) (h1 : f 1 = a1) (h2 : f 2 = a2) (h3 : f 3 = a3) (h4 : f 4 = a4) (h5 : f 5 = a5) : (va_up (va_up (va_up (va_up (va_up (va_up (fun _ => none) 0 (some a0)) 1 (some a1)) 2 (some a2)) 3 (some a3)) 4 (some a4)) 5 (some a5)) = fun i => if i < 6 then some (f i) else none := by
  funext i
  unfold va_up
  by_cases e0 : i = 0
  · subst e0; simp [h0]
  by_cases e1 : i = 1
  · subst e1; simp [h1]
  by_cases e2 : i = 2
  · subst e2; simp [h2]
  by_cases e3 : i = 3
  · subst e3; simp [h3]
  by_cases e4 : i = 4
  · subst e4; simp [h4]
  by_cases e5 : i = 5
  · subst e5; simp [h5]
  have q : ¬ i < 6 := by omega
  simp [q, e0, e1, e2, e3, e4, e5]
theorem up8 {f : Nat → Nat} {a0 a1 a2 a3 a4 a5 a6 a7 : Nat} (h0 : f 0 = a0) (h1 : f 1 = a1) (h2 : f 2 = a2) (h3 : f 3 = a3) (h4 : f 4 = a4) (h5 : f 5 = a5) (h6 : f 6 = a6) (h7 : f 7 = a7) : (va_up (va_up (va_up (va_up (va_up (va_up (va_up (va_up (fun _ => none) 0 (some a0)) 1 (some a1)) 2 (some a2)) 3 (some a3)) 4 (some a4)) 5 (some a5)) 6 (some a6)) 7 (some a7)) = fun i => if i < 8 then some (f i) else none := by
  funext i
  unfold va_up
  by_cases e0 : i = 0
  · subst e0; simp [h0]
  by_cases e1 : i = 1
  · subst e1; simp [h1]
  by_cases e2 : i = 2
  · subst e2; simp [h2]
  by_cases e3 : i = 3
  · subst e3; simp [h3]
  by_cases e4 : i = 4
  · subst e4; simp [h4]
  by_cases e5 : i = 5
  · subst e5; simp [h5]
  by_cases e6 : i = 6
  · subst e6; simp [h6]
  by_cases e7 : i = 7
  · subst e7; simp [h7]
  have q : ¬ i < 8 := by omega
  simp [q, e0, e1, e2, e3, e4, e5, e6, e7]
set_option maxHeartbeats 4000000 in
set_option maxRecDepth 100000 in
theorem n_fill (l : Launch) (E : hEnv) (w0 L : va_W) (i : Nat) {a k : Nat} {f : Nat → Int32} (he : L[i]? = some (a, .inl (E.2.1 0, k, .inl f))) (hk : k < 2 ^ 31) (v : Int32) : nMet l yJ7_fill_53178 cJ7_fill_53178 4 (0, 0, 0, 0) E (w0 ++ L) [.ref a, .int v] (fun ws => ws = w0 ++ L.set i (a, .inl (E.2.1 0, k, .inl (pre (fun _ => v) f k)))) := by
  refine nMet.of (by decide) (Nat.le_of_ble_eq_true rfl) (fun p e s m below meth c A ls C M hr hlk hin hl => ?_)
  have hl : lv_has ls 4 [(0, .ref a), (1, .int v)] := hl
  have hli : i < L.length := (List.getElem?_eq_some_iff.mp he).1
  refine lv_iconst (v := 0) C.1 C.2.1 dJ7_fill_53178_0 (by decide) ?_
  refine lv_istore_n (lv' := [(2, .int 0), (0, .ref a), (1, .int v)]) C.1 C.2.1 dJ7_fill_53178_1 rfl hl (by decide) rfl (fun ls hl => ?_)
  refine lv_aload_n C.1 C.2.1 dJ7_fill_53178_2 rfl (lv_at hl 1 rfl) ?_
  refine n_alen C M i he dJ7_fill_53178_3 ?_
  refine lv_istore_n (lv' := [(3, .int (nI k)), (2, .int 0), (0, .ref a), (1, .int v)]) C.1 C.2.1 dJ7_fill_53178_4 rfl hl (by decide) rfl (fun ls hl => ?_)
  have L5 : ∀ (n9 : Nat) (j : Nat), (j ≤ k) → k - j < n9 → ∀ (H : Heap) (locs : List Loc) (ls : Array Slot), nM E A s H locs (w0 ++ L.set i (a, .inl (E.2.1 0, k, .inl (pre (fun _ => v) f j)))) → lv_has ls 4 [(2, .int (nI j)), (0, .ref a), (1, .int v), (3, .int (nI k))] → W p l e (hRm (0, 0, 0, 0)) s m [.ref a, .int v].toArray below meth c H locs 0 0 (MQ below (nQ E (fun ws => ws = w0 ++ L.set i (a, .inl (E.2.1 0, k, .inl (pre (fun _ => v) f k)))) A) [.ref a, .int v].toArray s 0 0 A) (F0 m 5 ls []) := by
    intro n9
    induction n9 with
    | zero =>
      intro j hj hn9
      exact absurd hn9 (Nat.not_lt_zero _)
    | succ n9 ih5 =>
      intro j hj hn5 H locs ls M hl
      refine lv_iload_n C.1 C.2.1 dJ7_fill_53178_5 rfl (lv_at hl 0 rfl) ?_
      refine lv_iload_n C.1 C.2.1 dJ7_fill_53178_6 rfl (lv_at hl 3 rfl) ?_
      refine lv_icmp_ge (tgt := 20) C.1 C.2.1 dJ7_fill_53178_7 (by decide) (fun c_7 => ?_) (fun c_7 => ?_)
      · have hjk : j = k := by have := ct_ge (n := k) (k := j) c_7; omega
        subst hjk
        exact n_vret C M hr hlk rfl (Nat.le_of_ble_eq_true rfl) (Nat.le_of_ble_eq_true rfl) dJ7_fill_53178_20
      · have hj1 : j < k := ct_nge (n := k) (k := j) c_7
        refine lv_aload_n C.1 C.2.1 dJ7_fill_53178_10 rfl (lv_at hl 1 rfl) ?_
        refine lv_iload_n C.1 C.2.1 dJ7_fill_53178_11 rfl (lv_at hl 0 rfl) ?_
        refine lv_iload_n C.1 C.2.1 dJ7_fill_53178_12 rfl (lv_at hl 2 rfl) ?_
        refine n_iast C M i (List.getElem?_set_self hli) j (nI_clamp (by omega)) (vp_in_nI (by omega) (by omega)) dJ7_fill_53178_13 (fun H locs M => ?_)
        have M : nM E A s H locs (w0 ++ L.set i (a, .inl (E.2.1 0, k, .inl (pre (fun _ => v) f (j + 1))))) := by
          rw [List.set_set, pre_s] at M
          exact M
        refine lv_iinc (v := nI (j + 1)) (lv' := [(2, .int (nI (j + 1))), (0, .ref a), (1, .int v), (3, .int (nI k))]) C.1 C.2.1 dJ7_fill_53178_14 hl (k := 0) rfl (nI_succ _).symm (by decide) rfl (fun ls hl => ?_)
        refine lv_goto (tgt := 5) C.1 C.2.1 dJ7_fill_53178_17 (by decide) ?_
        exact ih5 (j + 1) hj1 (by omega) _ _ _ M (lv_sub hl [0, 1, 2, 3] rfl)
  have e0 : L.set i (a, .inl (E.2.1 0, k, .inl (pre (fun _ => v) f 0))) = L := by
    rw [← pre_0]
    apply List.ext_getElem?
    intro j
    by_cases q : j = i
    · subst q
      rw [List.getElem?_set_self hli, he]
    · rw [List.getElem?_set_ne (fun z => q z.symm)]
  exact L5 (k + 1) 0 (Nat.zero_le _) (by omega) _ _ ls (by rw [e0]; exact M) (lv_sub hl [1, 2, 3, 0] rfl)
/-- the cell i of a list goes ahead of the rest -/
theorem n_pick {α : Type} : ∀ {l : List α} (i : Nat) {x : α}, l[i]? = some x → l.Perm ([x] ++ l.eraseIdx i)
  | [], i, x, h => by cases i <;> cases h
  | a :: l, 0, x, h => by
    cases h
    exact List.Perm.refl _
  | a :: l, i + 1, x, h => by
    have ih := n_pick (l := l) i (x := x) h
    exact (ih.cons a).trans (List.Perm.swap x a _)
def wBounds (E : hEnv) (g : Nat → Nat) (o : Nat) : va_W := [(g (o + 0), .inr (0, [.ref (g (o + 1))])), (g (o + 1), .inl (E.2.1 0, 256, .inl (fun _ => 0)))]
set_option maxHeartbeats 4000000 in
set_option maxRecDepth 100000 in
theorem k_Bounds (l : Launch) (E : hEnv) (w0 : va_W) (b : Nat) : nMet l yX0_init cX0_init 1 (1, 1, 256, 20) E (w0 ++ [(b, .inr (0, [.null]))]) [.ref b] (fun ws => ∃ g : Nat → Nat, g 0 = b ∧ ws = w0 ++ wBounds E g 0) := by
  refine nMet.of (by decide) (Nat.le_of_ble_eq_true rfl) (fun p e s m below meth c A ls C M hr hlk hin hl => ?_)
  have hin : meth.name = "<init>" := hin
  have hl : lv_has ls 1 [(0, .ref b)] := hl
  generalize hH : s.heap = H at M ⊢
  generalize hlocs : ([] : List Loc) = locs at M ⊢
  have M : nM E A s H locs (w0 ++ [(b, .inr (0, [.null]))]) := M
  refine lv_aload_n C.1 C.2.1 dX0_init_0 rfl (lv_at hl 0 rfl) ?_
  refine n_obj (rest := []) C lo0_3 hl.1 (Nat.le_of_ble_eq_true rfl) (Nat.le_of_ble_eq_true rfl) (Nat.le_of_ble_eq_true rfl) dX0_init_1 ?_
  refine lv_aload_n C.1 C.2.1 dX0_init_4 rfl (lv_at hl 0 rfl) ?_
  refine lv_sipush (v := 256) C.1 C.2.1 dX0_init_5 (by decide) ?_
  refine n_ari (k := 256) C M (by decide) (by decide) (by decide) (Nat.le_of_ble_eq_true rfl) (Nat.le_of_ble_eq_true rfl) dX0_init_8 (fun a1 H M => ?_)
  have M : nM E A s H locs (w0 ++ [(b, .inr (0, [.null])), (a1, .inl (E.2.1 0, 256, .inl (fun _ => 0)))]) := M
  refine W.widen (k := 1) (n := 256) (Nat.le_of_ble_eq_true rfl) (Nat.le_of_ble_eq_true rfl) ?_
  refine n_put C hin M 0 rfl (T := TX0) rfl 0 (by decide) (List.mem_of_getElem? (i := 73) (by decide +kernel)) (v := .ref a1) rfl rfl rfl (Nat.le_of_ble_eq_true rfl) dX0_init_10 (fun H locs M => ?_)
  have M : nM E A s H locs (w0 ++ [(b, .inr (0, [.ref a1])), (a1, .inl (E.2.1 0, 256, .inl (fun _ => 0)))]) := M
  obtain ⟨G, hG⟩ : ∃ G : Nat → Nat, G = nth [b, a1] := ⟨_, rfl⟩
  refine n_vret C M hr hlk ⟨G, by rw [hG]; rfl, ?_⟩ (Nat.le_of_ble_eq_true rfl) (Nat.le_of_ble_eq_true rfl) dX0_init_13
  try simp only [List.append_assoc]
  subst hG
  rfl
def wCrew (E : hEnv) (g : Nat → Nat) (o : Nat) : va_W := [(g (o + 0), .inr (2, [.ref (g (o + 1)), .int 0, .int 0])), (g (o + 1), .inl (E.2.1 0, 60, .inl (fun _ => 0)))]
set_option maxHeartbeats 4000000 in
set_option maxRecDepth 100000 in
theorem k_Crew (l : Launch) (E : hEnv) (w0 : va_W) (b : Nat) : nMet l yX2_init cX2_init 1 (1, 1, 60, 20) E (w0 ++ [(b, .inr (2, [.null, .int 0, .int 0]))]) [.ref b] (fun ws => ∃ g : Nat → Nat, g 0 = b ∧ ws = w0 ++ wCrew E g 0) := by
  refine nMet.of (by decide) (Nat.le_of_ble_eq_true rfl) (fun p e s m below meth c A ls C M hr hlk hin hl => ?_)
  have hin : meth.name = "<init>" := hin
  have hl : lv_has ls 1 [(0, .ref b)] := hl
  generalize hH : s.heap = H at M ⊢
  generalize hlocs : ([] : List Loc) = locs at M ⊢
  have M : nM E A s H locs (w0 ++ [(b, .inr (2, [.null, .int 0, .int 0]))]) := M
  refine lv_aload_n C.1 C.2.1 dX2_init_0 rfl (lv_at hl 0 rfl) ?_
  refine n_obj (rest := []) C lo2_3 hl.1 (Nat.le_of_ble_eq_true rfl) (Nat.le_of_ble_eq_true rfl) (Nat.le_of_ble_eq_true rfl) dX2_init_1 ?_
  refine lv_aload_n C.1 C.2.1 dX2_init_4 rfl (lv_at hl 0 rfl) ?_
  refine lv_bipush (v := 60) C.1 C.2.1 dX2_init_5 (by decide) ?_
  refine n_ari (k := 60) C M (by decide) (by decide) (by decide) (Nat.le_of_ble_eq_true rfl) (Nat.le_of_ble_eq_true rfl) dX2_init_7 (fun a1 H M => ?_)
  have M : nM E A s H locs (w0 ++ [(b, .inr (2, [.null, .int 0, .int 0])), (a1, .inl (E.2.1 0, 60, .inl (fun _ => 0)))]) := M
  refine W.widen (k := 1) (n := 60) (Nat.le_of_ble_eq_true rfl) (Nat.le_of_ble_eq_true rfl) ?_
  refine n_put C hin M 0 rfl (T := TX2) rfl 0 (by decide) (List.mem_of_getElem? (i := 225) (by decide +kernel)) (v := .ref a1) rfl rfl rfl (Nat.le_of_ble_eq_true rfl) dX2_init_9 (fun H locs M => ?_)
  have M : nM E A s H locs (w0 ++ [(b, .inr (2, [.ref a1, .int 0, .int 0])), (a1, .inl (E.2.1 0, 60, .inl (fun _ => 0)))]) := M
  obtain ⟨G, hG⟩ : ∃ G : Nat → Nat, G = nth [b, a1] := ⟨_, rfl⟩
  refine n_vret C M hr hlk ⟨G, by rw [hG]; rfl, ?_⟩ (Nat.le_of_ble_eq_true rfl) (Nat.le_of_ble_eq_true rfl) dX2_init_12
  try simp only [List.append_assoc]
  subst hG
  rfl
def wLaw (E : hEnv) (g : Nat → Nat) (o : Nat) : va_W := [(g (o + 0), .inr (5, [.ref (g (o + 1)), .int 0, .int 0, .int 0, .int 0, .int 0, .int 0])), (g (o + 1), .inl (E.2.1 0, 5, .inl (fun _ => 0)))]
set_option maxHeartbeats 4000000 in
set_option maxRecDepth 100000 in
theorem k_Law (l : Launch) (E : hEnv) (w0 : va_W) (b : Nat) : nMet l yX5_init cX5_init 1 (1, 1, 5, 20) E (w0 ++ [(b, .inr (5, [.null, .int 0, .int 0, .int 0, .int 0, .int 0, .int 0]))]) [.ref b] (fun ws => ∃ g : Nat → Nat, g 0 = b ∧ ws = w0 ++ wLaw E g 0) := by
  refine nMet.of (by decide) (Nat.le_of_ble_eq_true rfl) (fun p e s m below meth c A ls C M hr hlk hin hl => ?_)
  have hin : meth.name = "<init>" := hin
  have hl : lv_has ls 1 [(0, .ref b)] := hl
  generalize hH : s.heap = H at M ⊢
  generalize hlocs : ([] : List Loc) = locs at M ⊢
  have M : nM E A s H locs (w0 ++ [(b, .inr (5, [.null, .int 0, .int 0, .int 0, .int 0, .int 0, .int 0]))]) := M
  refine lv_aload_n C.1 C.2.1 dX5_init_0 rfl (lv_at hl 0 rfl) ?_
  refine n_obj (rest := []) C lo5_3 hl.1 (Nat.le_of_ble_eq_true rfl) (Nat.le_of_ble_eq_true rfl) (Nat.le_of_ble_eq_true rfl) dX5_init_1 ?_
  refine lv_aload_n C.1 C.2.1 dX5_init_4 rfl (lv_at hl 0 rfl) ?_
  refine lv_iconst (v := 5) C.1 C.2.1 dX5_init_5 (by decide) ?_
  refine n_ari (k := 5) C M (by decide) (by decide) (by decide) (Nat.le_of_ble_eq_true rfl) (Nat.le_of_ble_eq_true rfl) dX5_init_6 (fun a1 H M => ?_)
  have M : nM E A s H locs (w0 ++ [(b, .inr (5, [.null, .int 0, .int 0, .int 0, .int 0, .int 0, .int 0])), (a1, .inl (E.2.1 0, 5, .inl (fun _ => 0)))]) := M
  refine W.widen (k := 1) (n := 5) (Nat.le_of_ble_eq_true rfl) (Nat.le_of_ble_eq_true rfl) ?_
  refine n_put C hin M 0 rfl (T := TX5) rfl 0 (by decide) (List.mem_of_getElem? (i := 345) (by decide +kernel)) (v := .ref a1) rfl rfl rfl (Nat.le_of_ble_eq_true rfl) dX5_init_8 (fun H locs M => ?_)
  have M : nM E A s H locs (w0 ++ [(b, .inr (5, [.ref a1, .int 0, .int 0, .int 0, .int 0, .int 0, .int 0])), (a1, .inl (E.2.1 0, 5, .inl (fun _ => 0)))]) := M
  obtain ⟨G, hG⟩ : ∃ G : Nat → Nat, G = nth [b, a1] := ⟨_, rfl⟩
  refine n_vret C M hr hlk ⟨G, by rw [hG]; rfl, ?_⟩ (Nat.le_of_ble_eq_true rfl) (Nat.le_of_ble_eq_true rfl) dX5_init_11
  try simp only [List.append_assoc]
  subst hG
  rfl
def wPart (E : hEnv) (g : Nat → Nat) (o : Nat) : va_W := [(g (o + 0), .inr (6, [.ref (g (o + 1)), .long 0, .long 0, .long 0, .long 0, .long 0, .long 0, .long 0, .long 0, .int 0])), (g (o + 1), .inl (E.2.1 1, 60, .inr (.inl (fun _ => 0))))]
set_option maxHeartbeats 4000000 in
set_option maxRecDepth 100000 in
theorem k_Part (l : Launch) (E : hEnv) (w0 : va_W) (b : Nat) : nMet l yX6_init cX6_init 1 (1, 1, 60, 20) E (w0 ++ [(b, .inr (6, [.null, .long 0, .long 0, .long 0, .long 0, .long 0, .long 0, .long 0, .long 0, .int 0]))]) [.ref b] (fun ws => ∃ g : Nat → Nat, g 0 = b ∧ ws = w0 ++ wPart E g 0) := by
  refine nMet.of (by decide) (Nat.le_of_ble_eq_true rfl) (fun p e s m below meth c A ls C M hr hlk hin hl => ?_)
  have hin : meth.name = "<init>" := hin
  have hl : lv_has ls 1 [(0, .ref b)] := hl
  generalize hH : s.heap = H at M ⊢
  generalize hlocs : ([] : List Loc) = locs at M ⊢
  have M : nM E A s H locs (w0 ++ [(b, .inr (6, [.null, .long 0, .long 0, .long 0, .long 0, .long 0, .long 0, .long 0, .long 0, .int 0]))]) := M
  refine lv_aload_n C.1 C.2.1 dX6_init_0 rfl (lv_at hl 0 rfl) ?_
  refine n_obj (rest := []) C lo6_3 hl.1 (Nat.le_of_ble_eq_true rfl) (Nat.le_of_ble_eq_true rfl) (Nat.le_of_ble_eq_true rfl) dX6_init_1 ?_
  refine lv_aload_n C.1 C.2.1 dX6_init_4 rfl (lv_at hl 0 rfl) ?_
  refine lv_bipush (v := 60) C.1 C.2.1 dX6_init_5 (by decide) ?_
  refine n_arj (k := 60) C M (by decide) (by decide) (by decide) (Nat.le_of_ble_eq_true rfl) (Nat.le_of_ble_eq_true rfl) dX6_init_7 (fun a1 H M => ?_)
  have M : nM E A s H locs (w0 ++ [(b, .inr (6, [.null, .long 0, .long 0, .long 0, .long 0, .long 0, .long 0, .long 0, .long 0, .int 0])), (a1, .inl (E.2.1 1, 60, .inr (.inl (fun _ => 0))))]) := M
  refine W.widen (k := 1) (n := 60) (Nat.le_of_ble_eq_true rfl) (Nat.le_of_ble_eq_true rfl) ?_
  refine n_put C hin M 0 rfl (T := TX6) rfl 0 (by decide) (List.mem_of_getElem? (i := 254) (by decide +kernel)) (v := .ref a1) rfl rfl rfl (Nat.le_of_ble_eq_true rfl) dX6_init_9 (fun H locs M => ?_)
  have M : nM E A s H locs (w0 ++ [(b, .inr (6, [.ref a1, .long 0, .long 0, .long 0, .long 0, .long 0, .long 0, .long 0, .long 0, .int 0])), (a1, .inl (E.2.1 1, 60, .inr (.inl (fun _ => 0))))]) := M
  obtain ⟨G, hG⟩ : ∃ G : Nat → Nat, G = nth [b, a1] := ⟨_, rfl⟩
  refine n_vret C M hr hlk ⟨G, by rw [hG]; rfl, ?_⟩ (Nat.le_of_ble_eq_true rfl) (Nat.le_of_ble_eq_true rfl) dX6_init_12
  try simp only [List.append_assoc]
  subst hG
  rfl
def wTape (E : hEnv) (g : Nat → Nat) (o : Nat) : va_W := [(g (o + 0), .inr (9, [.ref (g (o + 1)), .int 0, .int 0, .int 0, .int 0, .int 0])), (g (o + 1), .inl (E.2.1 3, 300, .inl (fun _ => 0)))]
set_option maxHeartbeats 4000000 in
set_option maxRecDepth 100000 in
theorem k_Tape (l : Launch) (E : hEnv) (w0 : va_W) (b : Nat) : nMet l yX9_init cX9_init 1 (1, 1, 300, 20) E (w0 ++ [(b, .inr (9, [.null, .int 0, .int 0, .int 0, .int 0, .int 0]))]) [.ref b] (fun ws => ∃ g : Nat → Nat, g 0 = b ∧ ws = w0 ++ wTape E g 0) := by
  refine nMet.of (by decide) (Nat.le_of_ble_eq_true rfl) (fun p e s m below meth c A ls C M hr hlk hin hl => ?_)
  have hin : meth.name = "<init>" := hin
  have hl : lv_has ls 1 [(0, .ref b)] := hl
  generalize hH : s.heap = H at M ⊢
  generalize hlocs : ([] : List Loc) = locs at M ⊢
  have M : nM E A s H locs (w0 ++ [(b, .inr (9, [.null, .int 0, .int 0, .int 0, .int 0, .int 0]))]) := M
  refine lv_aload_n C.1 C.2.1 dX9_init_0 rfl (lv_at hl 0 rfl) ?_
  refine n_obj (rest := []) C lo9_3 hl.1 (Nat.le_of_ble_eq_true rfl) (Nat.le_of_ble_eq_true rfl) (Nat.le_of_ble_eq_true rfl) dX9_init_1 ?_
  refine lv_aload_n C.1 C.2.1 dX9_init_4 rfl (lv_at hl 0 rfl) ?_
  refine lv_sipush (v := 300) C.1 C.2.1 dX9_init_5 (by decide) ?_
  refine n_arb (k := 300) C M (by decide) (by decide) (by decide) (Nat.le_of_ble_eq_true rfl) (Nat.le_of_ble_eq_true rfl) dX9_init_8 (fun a1 H M => ?_)
  have M : nM E A s H locs (w0 ++ [(b, .inr (9, [.null, .int 0, .int 0, .int 0, .int 0, .int 0])), (a1, .inl (E.2.1 3, 300, .inl (fun _ => 0)))]) := M
  refine W.widen (k := 1) (n := 300) (Nat.le_of_ble_eq_true rfl) (Nat.le_of_ble_eq_true rfl) ?_
  refine n_put C hin M 0 rfl (T := TX9) rfl 0 (by decide) (List.mem_of_getElem? (i := 194) (by decide +kernel)) (v := .ref a1) rfl rfl rfl (Nat.le_of_ble_eq_true rfl) dX9_init_10 (fun H locs M => ?_)
  have M : nM E A s H locs (w0 ++ [(b, .inr (9, [.ref a1, .int 0, .int 0, .int 0, .int 0, .int 0])), (a1, .inl (E.2.1 3, 300, .inl (fun _ => 0)))]) := M
  obtain ⟨G, hG⟩ : ∃ G : Nat → Nat, G = nth [b, a1] := ⟨_, rfl⟩
  refine n_vret C M hr hlk ⟨G, by rw [hG]; rfl, ?_⟩ (Nat.le_of_ble_eq_true rfl) (Nat.le_of_ble_eq_true rfl) dX9_init_13
  try simp only [List.append_assoc]
  subst hG
  rfl
def wTimes60 (E : hEnv) (g : Nat → Nat) (o : Nat) : va_W := [(g (o + 0), .inr (10, [.ref (g (o + 1)), .ref (g (o + 2))])), (g (o + 1), .inl (E.2.1 0, 60, .inl (pre (fun _ => 5001) (fun _ => 0) 60))), (g (o + 2), .inl (E.2.1 0, 60, .inl (pre (fun _ => 5001) (fun _ => 0) 60)))]
set_option maxHeartbeats 4000000 in
set_option maxRecDepth 100000 in
theorem k_Times60 (l : Launch) (E : hEnv) (w0 : va_W) (b : Nat) : nMet l yX10_init cX10_init 2 (1, 2, 120, 23) E (w0 ++ [(b, .inr (10, [.null, .null]))]) [.ref b, .int 60] (fun ws => ∃ g : Nat → Nat, g 0 = b ∧ ws = w0 ++ wTimes60 E g 0) := by
  refine nMet.of (by decide) (Nat.le_of_ble_eq_true rfl) (fun p e s m below meth c A ls C M hr hlk hin hl => ?_)
  have hin : meth.name = "<init>" := hin
  have hl : lv_has ls 2 [(0, .ref b), (1, .int 60)] := hl
  generalize hH : s.heap = H at M ⊢
  generalize hlocs : ([] : List Loc) = locs at M ⊢
  have M : nM E A s H locs (w0 ++ [(b, .inr (10, [.null, .null]))]) := M
  refine lv_aload_n C.1 C.2.1 dX10_init_0 rfl (lv_at hl 0 rfl) ?_
  refine n_obj (rest := []) C lo10_3 hl.1 (Nat.le_of_ble_eq_true rfl) (Nat.le_of_ble_eq_true rfl) (Nat.le_of_ble_eq_true rfl) dX10_init_1 ?_
  refine lv_aload_n C.1 C.2.1 dX10_init_4 rfl (lv_at hl 0 rfl) ?_
  refine lv_iload_n C.1 C.2.1 dX10_init_5 rfl (lv_at hl 1 rfl) ?_
  refine n_ari (k := 60) C M (by decide) (by decide) (by decide) (Nat.le_of_ble_eq_true rfl) (Nat.le_of_ble_eq_true rfl) dX10_init_6 (fun a1 H M => ?_)
  have M : nM E A s H locs (w0 ++ [(b, .inr (10, [.null, .null])), (a1, .inl (E.2.1 0, 60, .inl (fun _ => 0)))]) := M
  refine W.widen (k := 1) (n := 60) (Nat.le_of_ble_eq_true rfl) (Nat.le_of_ble_eq_true rfl) ?_
  refine n_put C hin M 0 rfl (T := TX10) rfl 0 (by decide) (List.mem_of_getElem? (i := 142) (by decide +kernel)) (v := .ref a1) rfl rfl rfl (Nat.le_of_ble_eq_true rfl) dX10_init_8 (fun H locs M => ?_)
  have M : nM E A s H locs (w0 ++ [(b, .inr (10, [.ref a1, .null])), (a1, .inl (E.2.1 0, 60, .inl (fun _ => 0)))]) := M
  refine lv_aload_n C.1 C.2.1 dX10_init_11 rfl (lv_at hl 0 rfl) ?_
  refine lv_iload_n C.1 C.2.1 dX10_init_12 rfl (lv_at hl 1 rfl) ?_
  refine n_ari (k := 60) C M (by decide) (by decide) (by decide) (Nat.le_of_ble_eq_true rfl) (Nat.le_of_ble_eq_true rfl) dX10_init_13 (fun a2 H M => ?_)
  have M : nM E A s H locs (w0 ++ [(b, .inr (10, [.ref a1, .null])), (a1, .inl (E.2.1 0, 60, .inl (fun _ => 0))), (a2, .inl (E.2.1 0, 60, .inl (fun _ => 0)))]) := M
  refine W.widen (k := 2) (n := 120) (Nat.le_of_ble_eq_true rfl) (Nat.le_of_ble_eq_true rfl) ?_
  refine n_put C hin M 0 rfl (T := TX10) rfl 1 (by decide) (List.mem_of_getElem? (i := 143) (by decide +kernel)) (v := .ref a2) rfl rfl rfl (Nat.le_of_ble_eq_true rfl) dX10_init_15 (fun H locs M => ?_)
  have M : nM E A s H locs (w0 ++ [(b, .inr (10, [.ref a1, .ref a2])), (a1, .inl (E.2.1 0, 60, .inl (fun _ => 0))), (a2, .inl (E.2.1 0, 60, .inl (fun _ => 0)))]) := M
  refine lv_aload_n C.1 C.2.1 dX10_init_18 rfl (lv_at hl 0 rfl) ?_
  refine n_get C M 0 rfl (T := TX10) rfl 0 (by decide) (List.mem_of_getElem? (i := 142) (by decide +kernel)) (v := .ref a1) rfl dX10_init_19 ?_
  refine lv_sipush (v := 5001) C.1 C.2.1 dX10_init_22 (by decide) ?_
  refine n_callS (As := [.ref a1, .int 5001]) (rest := []) C M (n_fill l E w0 [(b, .inr (10, [.ref a1, .ref a2])), (a1, .inl (E.2.1 0, 60, .inl (fun _ => 0))), (a2, .inl (E.2.1 0, 60, .inl (fun _ => 0)))] 1 rfl (by decide) 5001) clJ7_fill_53178 stJ7_fill_53178 lk10_18 rfl ⟨Nat.le_of_ble_eq_true rfl, Nat.le_of_ble_eq_true rfl⟩ hl.1 rfl (Nat.le_of_ble_eq_true rfl) dX10_init_25 ⟨Nat.le_of_ble_eq_true rfl, Nat.le_of_ble_eq_true rfl⟩ (fun ws H locs hR M => ?_)
  subst hR
  refine W.widen (k := 2) (n := 120) (Nat.le_of_ble_eq_true rfl) (Nat.le_of_ble_eq_true rfl) ?_
  have M : nM E A s H locs (w0 ++ [(b, .inr (10, [.ref a1, .ref a2])), (a1, .inl (E.2.1 0, 60, .inl (pre (fun _ => 5001) (fun _ => 0) 60))), (a2, .inl (E.2.1 0, 60, .inl (fun _ => 0)))]) := M
  refine lv_aload_n C.1 C.2.1 dX10_init_28 rfl (lv_at hl 0 rfl) ?_
  refine n_get C M 0 rfl (T := TX10) rfl 1 (by decide) (List.mem_of_getElem? (i := 143) (by decide +kernel)) (v := .ref a2) rfl dX10_init_29 ?_
  refine lv_sipush (v := 5001) C.1 C.2.1 dX10_init_32 (by decide) ?_
  refine n_callS (As := [.ref a2, .int 5001]) (rest := []) C M (n_fill l E w0 [(b, .inr (10, [.ref a1, .ref a2])), (a1, .inl (E.2.1 0, 60, .inl (pre (fun _ => 5001) (fun _ => 0) 60))), (a2, .inl (E.2.1 0, 60, .inl (fun _ => 0)))] 2 rfl (by decide) 5001) clJ7_fill_53178 stJ7_fill_53178 lk10_18 rfl ⟨Nat.le_of_ble_eq_true rfl, Nat.le_of_ble_eq_true rfl⟩ hl.1 rfl (Nat.le_of_ble_eq_true rfl) dX10_init_35 ⟨Nat.le_of_ble_eq_true rfl, Nat.le_of_ble_eq_true rfl⟩ (fun ws H locs hR M => ?_)
  subst hR
  refine W.widen (k := 2) (n := 120) (Nat.le_of_ble_eq_true rfl) (Nat.le_of_ble_eq_true rfl) ?_
  have M : nM E A s H locs (w0 ++ [(b, .inr (10, [.ref a1, .ref a2])), (a1, .inl (E.2.1 0, 60, .inl (pre (fun _ => 5001) (fun _ => 0) 60))), (a2, .inl (E.2.1 0, 60, .inl (pre (fun _ => 5001) (fun _ => 0) 60)))]) := M
  obtain ⟨G, hG⟩ : ∃ G : Nat → Nat, G = nth [b, a1, a2] := ⟨_, rfl⟩
  refine n_vret C M hr hlk ⟨G, by rw [hG]; rfl, ?_⟩ (Nat.le_of_ble_eq_true rfl) (Nat.le_of_ble_eq_true rfl) dX10_init_38
  try simp only [List.append_assoc]
  subst hG
  rfl
def wTimes40 (E : hEnv) (g : Nat → Nat) (o : Nat) : va_W := [(g (o + 0), .inr (10, [.ref (g (o + 1)), .ref (g (o + 2))])), (g (o + 1), .inl (E.2.1 0, 40, .inl (pre (fun _ => 5001) (fun _ => 0) 40))), (g (o + 2), .inl (E.2.1 0, 40, .inl (pre (fun _ => 5001) (fun _ => 0) 40)))]
set_option maxHeartbeats 4000000 in
set_option maxRecDepth 100000 in
theorem k_Times40 (l : Launch) (E : hEnv) (w0 : va_W) (b : Nat) : nMet l yX10_init cX10_init 2 (1, 2, 80, 23) E (w0 ++ [(b, .inr (10, [.null, .null]))]) [.ref b, .int 40] (fun ws => ∃ g : Nat → Nat, g 0 = b ∧ ws = w0 ++ wTimes40 E g 0) := by
  refine nMet.of (by decide) (Nat.le_of_ble_eq_true rfl) (fun p e s m below meth c A ls C M hr hlk hin hl => ?_)
  have hin : meth.name = "<init>" := hin
  have hl : lv_has ls 2 [(0, .ref b), (1, .int 40)] := hl
  generalize hH : s.heap = H at M ⊢
  generalize hlocs : ([] : List Loc) = locs at M ⊢
  have M : nM E A s H locs (w0 ++ [(b, .inr (10, [.null, .null]))]) := M
  refine lv_aload_n C.1 C.2.1 dX10_init_0 rfl (lv_at hl 0 rfl) ?_
  refine n_obj (rest := []) C lo10_3 hl.1 (Nat.le_of_ble_eq_true rfl) (Nat.le_of_ble_eq_true rfl) (Nat.le_of_ble_eq_true rfl) dX10_init_1 ?_
  refine lv_aload_n C.1 C.2.1 dX10_init_4 rfl (lv_at hl 0 rfl) ?_
  refine lv_iload_n C.1 C.2.1 dX10_init_5 rfl (lv_at hl 1 rfl) ?_
  refine n_ari (k := 40) C M (by decide) (by decide) (by decide) (Nat.le_of_ble_eq_true rfl) (Nat.le_of_ble_eq_true rfl) dX10_init_6 (fun a1 H M => ?_)
  have M : nM E A s H locs (w0 ++ [(b, .inr (10, [.null, .null])), (a1, .inl (E.2.1 0, 40, .inl (fun _ => 0)))]) := M
  refine W.widen (k := 1) (n := 40) (Nat.le_of_ble_eq_true rfl) (Nat.le_of_ble_eq_true rfl) ?_
  refine n_put C hin M 0 rfl (T := TX10) rfl 0 (by decide) (List.mem_of_getElem? (i := 142) (by decide +kernel)) (v := .ref a1) rfl rfl rfl (Nat.le_of_ble_eq_true rfl) dX10_init_8 (fun H locs M => ?_)
  have M : nM E A s H locs (w0 ++ [(b, .inr (10, [.ref a1, .null])), (a1, .inl (E.2.1 0, 40, .inl (fun _ => 0)))]) := M
  refine lv_aload_n C.1 C.2.1 dX10_init_11 rfl (lv_at hl 0 rfl) ?_
  refine lv_iload_n C.1 C.2.1 dX10_init_12 rfl (lv_at hl 1 rfl) ?_
  refine n_ari (k := 40) C M (by decide) (by decide) (by decide) (Nat.le_of_ble_eq_true rfl) (Nat.le_of_ble_eq_true rfl) dX10_init_13 (fun a2 H M => ?_)
  have M : nM E A s H locs (w0 ++ [(b, .inr (10, [.ref a1, .null])), (a1, .inl (E.2.1 0, 40, .inl (fun _ => 0))), (a2, .inl (E.2.1 0, 40, .inl (fun _ => 0)))]) := M
  refine W.widen (k := 2) (n := 80) (Nat.le_of_ble_eq_true rfl) (Nat.le_of_ble_eq_true rfl) ?_
  refine n_put C hin M 0 rfl (T := TX10) rfl 1 (by decide) (List.mem_of_getElem? (i := 143) (by decide +kernel)) (v := .ref a2) rfl rfl rfl (Nat.le_of_ble_eq_true rfl) dX10_init_15 (fun H locs M => ?_)
  have M : nM E A s H locs (w0 ++ [(b, .inr (10, [.ref a1, .ref a2])), (a1, .inl (E.2.1 0, 40, .inl (fun _ => 0))), (a2, .inl (E.2.1 0, 40, .inl (fun _ => 0)))]) := M
  refine lv_aload_n C.1 C.2.1 dX10_init_18 rfl (lv_at hl 0 rfl) ?_
  refine n_get C M 0 rfl (T := TX10) rfl 0 (by decide) (List.mem_of_getElem? (i := 142) (by decide +kernel)) (v := .ref a1) rfl dX10_init_19 ?_
  refine lv_sipush (v := 5001) C.1 C.2.1 dX10_init_22 (by decide) ?_
  refine n_callS (As := [.ref a1, .int 5001]) (rest := []) C M (n_fill l E w0 [(b, .inr (10, [.ref a1, .ref a2])), (a1, .inl (E.2.1 0, 40, .inl (fun _ => 0))), (a2, .inl (E.2.1 0, 40, .inl (fun _ => 0)))] 1 rfl (by decide) 5001) clJ7_fill_53178 stJ7_fill_53178 lk10_18 rfl ⟨Nat.le_of_ble_eq_true rfl, Nat.le_of_ble_eq_true rfl⟩ hl.1 rfl (Nat.le_of_ble_eq_true rfl) dX10_init_25 ⟨Nat.le_of_ble_eq_true rfl, Nat.le_of_ble_eq_true rfl⟩ (fun ws H locs hR M => ?_)
  subst hR
  refine W.widen (k := 2) (n := 80) (Nat.le_of_ble_eq_true rfl) (Nat.le_of_ble_eq_true rfl) ?_
  have M : nM E A s H locs (w0 ++ [(b, .inr (10, [.ref a1, .ref a2])), (a1, .inl (E.2.1 0, 40, .inl (pre (fun _ => 5001) (fun _ => 0) 40))), (a2, .inl (E.2.1 0, 40, .inl (fun _ => 0)))]) := M
  refine lv_aload_n C.1 C.2.1 dX10_init_28 rfl (lv_at hl 0 rfl) ?_
  refine n_get C M 0 rfl (T := TX10) rfl 1 (by decide) (List.mem_of_getElem? (i := 143) (by decide +kernel)) (v := .ref a2) rfl dX10_init_29 ?_
  refine lv_sipush (v := 5001) C.1 C.2.1 dX10_init_32 (by decide) ?_
  refine n_callS (As := [.ref a2, .int 5001]) (rest := []) C M (n_fill l E w0 [(b, .inr (10, [.ref a1, .ref a2])), (a1, .inl (E.2.1 0, 40, .inl (pre (fun _ => 5001) (fun _ => 0) 40))), (a2, .inl (E.2.1 0, 40, .inl (fun _ => 0)))] 2 rfl (by decide) 5001) clJ7_fill_53178 stJ7_fill_53178 lk10_18 rfl ⟨Nat.le_of_ble_eq_true rfl, Nat.le_of_ble_eq_true rfl⟩ hl.1 rfl (Nat.le_of_ble_eq_true rfl) dX10_init_35 ⟨Nat.le_of_ble_eq_true rfl, Nat.le_of_ble_eq_true rfl⟩ (fun ws H locs hR M => ?_)
  subst hR
  refine W.widen (k := 2) (n := 80) (Nat.le_of_ble_eq_true rfl) (Nat.le_of_ble_eq_true rfl) ?_
  have M : nM E A s H locs (w0 ++ [(b, .inr (10, [.ref a1, .ref a2])), (a1, .inl (E.2.1 0, 40, .inl (pre (fun _ => 5001) (fun _ => 0) 40))), (a2, .inl (E.2.1 0, 40, .inl (pre (fun _ => 5001) (fun _ => 0) 40)))]) := M
  obtain ⟨G, hG⟩ : ∃ G : Nat → Nat, G = nth [b, a1, a2] := ⟨_, rfl⟩
  refine n_vret C M hr hlk ⟨G, by rw [hG]; rfl, ?_⟩ (Nat.le_of_ble_eq_true rfl) (Nat.le_of_ble_eq_true rfl) dX10_init_38
  try simp only [List.append_assoc]
  subst hG
  rfl
def wTimes6 (E : hEnv) (g : Nat → Nat) (o : Nat) : va_W := [(g (o + 0), .inr (10, [.ref (g (o + 1)), .ref (g (o + 2))])), (g (o + 1), .inl (E.2.1 0, 6, .inl (pre (fun _ => 5001) (fun _ => 0) 6))), (g (o + 2), .inl (E.2.1 0, 6, .inl (pre (fun _ => 5001) (fun _ => 0) 6)))]
set_option maxHeartbeats 4000000 in
set_option maxRecDepth 100000 in
theorem k_Times6 (l : Launch) (E : hEnv) (w0 : va_W) (b : Nat) : nMet l yX10_init cX10_init 2 (1, 2, 12, 23) E (w0 ++ [(b, .inr (10, [.null, .null]))]) [.ref b, .int 6] (fun ws => ∃ g : Nat → Nat, g 0 = b ∧ ws = w0 ++ wTimes6 E g 0) := by
  refine nMet.of (by decide) (Nat.le_of_ble_eq_true rfl) (fun p e s m below meth c A ls C M hr hlk hin hl => ?_)
  have hin : meth.name = "<init>" := hin
  have hl : lv_has ls 2 [(0, .ref b), (1, .int 6)] := hl
  generalize hH : s.heap = H at M ⊢
  generalize hlocs : ([] : List Loc) = locs at M ⊢
  have M : nM E A s H locs (w0 ++ [(b, .inr (10, [.null, .null]))]) := M
  refine lv_aload_n C.1 C.2.1 dX10_init_0 rfl (lv_at hl 0 rfl) ?_
  refine n_obj (rest := []) C lo10_3 hl.1 (Nat.le_of_ble_eq_true rfl) (Nat.le_of_ble_eq_true rfl) (Nat.le_of_ble_eq_true rfl) dX10_init_1 ?_
  refine lv_aload_n C.1 C.2.1 dX10_init_4 rfl (lv_at hl 0 rfl) ?_
  refine lv_iload_n C.1 C.2.1 dX10_init_5 rfl (lv_at hl 1 rfl) ?_
  refine n_ari (k := 6) C M (by decide) (by decide) (by decide) (Nat.le_of_ble_eq_true rfl) (Nat.le_of_ble_eq_true rfl) dX10_init_6 (fun a1 H M => ?_)
  have M : nM E A s H locs (w0 ++ [(b, .inr (10, [.null, .null])), (a1, .inl (E.2.1 0, 6, .inl (fun _ => 0)))]) := M
  refine W.widen (k := 1) (n := 6) (Nat.le_of_ble_eq_true rfl) (Nat.le_of_ble_eq_true rfl) ?_
  refine n_put C hin M 0 rfl (T := TX10) rfl 0 (by decide) (List.mem_of_getElem? (i := 142) (by decide +kernel)) (v := .ref a1) rfl rfl rfl (Nat.le_of_ble_eq_true rfl) dX10_init_8 (fun H locs M => ?_)
  have M : nM E A s H locs (w0 ++ [(b, .inr (10, [.ref a1, .null])), (a1, .inl (E.2.1 0, 6, .inl (fun _ => 0)))]) := M
  refine lv_aload_n C.1 C.2.1 dX10_init_11 rfl (lv_at hl 0 rfl) ?_
  refine lv_iload_n C.1 C.2.1 dX10_init_12 rfl (lv_at hl 1 rfl) ?_
  refine n_ari (k := 6) C M (by decide) (by decide) (by decide) (Nat.le_of_ble_eq_true rfl) (Nat.le_of_ble_eq_true rfl) dX10_init_13 (fun a2 H M => ?_)
  have M : nM E A s H locs (w0 ++ [(b, .inr (10, [.ref a1, .null])), (a1, .inl (E.2.1 0, 6, .inl (fun _ => 0))), (a2, .inl (E.2.1 0, 6, .inl (fun _ => 0)))]) := M
  refine W.widen (k := 2) (n := 12) (Nat.le_of_ble_eq_true rfl) (Nat.le_of_ble_eq_true rfl) ?_
  refine n_put C hin M 0 rfl (T := TX10) rfl 1 (by decide) (List.mem_of_getElem? (i := 143) (by decide +kernel)) (v := .ref a2) rfl rfl rfl (Nat.le_of_ble_eq_true rfl) dX10_init_15 (fun H locs M => ?_)
  have M : nM E A s H locs (w0 ++ [(b, .inr (10, [.ref a1, .ref a2])), (a1, .inl (E.2.1 0, 6, .inl (fun _ => 0))), (a2, .inl (E.2.1 0, 6, .inl (fun _ => 0)))]) := M
  refine lv_aload_n C.1 C.2.1 dX10_init_18 rfl (lv_at hl 0 rfl) ?_
  refine n_get C M 0 rfl (T := TX10) rfl 0 (by decide) (List.mem_of_getElem? (i := 142) (by decide +kernel)) (v := .ref a1) rfl dX10_init_19 ?_
  refine lv_sipush (v := 5001) C.1 C.2.1 dX10_init_22 (by decide) ?_
  refine n_callS (As := [.ref a1, .int 5001]) (rest := []) C M (n_fill l E w0 [(b, .inr (10, [.ref a1, .ref a2])), (a1, .inl (E.2.1 0, 6, .inl (fun _ => 0))), (a2, .inl (E.2.1 0, 6, .inl (fun _ => 0)))] 1 rfl (by decide) 5001) clJ7_fill_53178 stJ7_fill_53178 lk10_18 rfl ⟨Nat.le_of_ble_eq_true rfl, Nat.le_of_ble_eq_true rfl⟩ hl.1 rfl (Nat.le_of_ble_eq_true rfl) dX10_init_25 ⟨Nat.le_of_ble_eq_true rfl, Nat.le_of_ble_eq_true rfl⟩ (fun ws H locs hR M => ?_)
  subst hR
  refine W.widen (k := 2) (n := 12) (Nat.le_of_ble_eq_true rfl) (Nat.le_of_ble_eq_true rfl) ?_
  have M : nM E A s H locs (w0 ++ [(b, .inr (10, [.ref a1, .ref a2])), (a1, .inl (E.2.1 0, 6, .inl (pre (fun _ => 5001) (fun _ => 0) 6))), (a2, .inl (E.2.1 0, 6, .inl (fun _ => 0)))]) := M
  refine lv_aload_n C.1 C.2.1 dX10_init_28 rfl (lv_at hl 0 rfl) ?_
  refine n_get C M 0 rfl (T := TX10) rfl 1 (by decide) (List.mem_of_getElem? (i := 143) (by decide +kernel)) (v := .ref a2) rfl dX10_init_29 ?_
  refine lv_sipush (v := 5001) C.1 C.2.1 dX10_init_32 (by decide) ?_
  refine n_callS (As := [.ref a2, .int 5001]) (rest := []) C M (n_fill l E w0 [(b, .inr (10, [.ref a1, .ref a2])), (a1, .inl (E.2.1 0, 6, .inl (pre (fun _ => 5001) (fun _ => 0) 6))), (a2, .inl (E.2.1 0, 6, .inl (fun _ => 0)))] 2 rfl (by decide) 5001) clJ7_fill_53178 stJ7_fill_53178 lk10_18 rfl ⟨Nat.le_of_ble_eq_true rfl, Nat.le_of_ble_eq_true rfl⟩ hl.1 rfl (Nat.le_of_ble_eq_true rfl) dX10_init_35 ⟨Nat.le_of_ble_eq_true rfl, Nat.le_of_ble_eq_true rfl⟩ (fun ws H locs hR M => ?_)
  subst hR
  refine W.widen (k := 2) (n := 12) (Nat.le_of_ble_eq_true rfl) (Nat.le_of_ble_eq_true rfl) ?_
  have M : nM E A s H locs (w0 ++ [(b, .inr (10, [.ref a1, .ref a2])), (a1, .inl (E.2.1 0, 6, .inl (pre (fun _ => 5001) (fun _ => 0) 6))), (a2, .inl (E.2.1 0, 6, .inl (pre (fun _ => 5001) (fun _ => 0) 6)))]) := M
  obtain ⟨G, hG⟩ : ∃ G : Nat → Nat, G = nth [b, a1, a2] := ⟨_, rfl⟩
  refine n_vret C M hr hlk ⟨G, by rw [hG]; rfl, ?_⟩ (Nat.le_of_ble_eq_true rfl) (Nat.le_of_ble_eq_true rfl) dX10_init_38
  try simp only [List.append_assoc]
  subst hG
  rfl
def wShip (E : hEnv) (g : Nat → Nat) (o : Nat) : va_W := wCrew E g (o + 1) ++ ([(g (o + 0), .inr (7, [.ref (g (o + 1)), .int 0, .int 0, .int 0, .int 0, .int 0, .int 0]))])
set_option maxHeartbeats 4000000 in
set_option maxRecDepth 100000 in
theorem k_Ship (l : Launch) (E : hEnv) (w0 : va_W) (b : Nat) : nMet l yX7_init cX7_init 1 (2, 2, 63, 40) E (w0 ++ [(b, .inr (7, [.null, .int 0, .int 0, .int 0, .int 0, .int 0, .int 0]))]) [.ref b] (fun ws => ∃ g : Nat → Nat, g 0 = b ∧ ws = w0 ++ wShip E g 0) := by
  refine nMet.of (by decide) (Nat.le_of_ble_eq_true rfl) (fun p e s m below meth c A ls C M hr hlk hin hl => ?_)
  have hin : meth.name = "<init>" := hin
  have hl : lv_has ls 1 [(0, .ref b)] := hl
  generalize hH : s.heap = H at M ⊢
  generalize hlocs : ([] : List Loc) = locs at M ⊢
  have M : nM E A s H locs (w0 ++ [(b, .inr (7, [.null, .int 0, .int 0, .int 0, .int 0, .int 0, .int 0]))]) := M
  refine lv_aload_n C.1 C.2.1 dX7_init_0 rfl (lv_at hl 0 rfl) ?_
  refine n_obj (rest := []) C lo7_1 hl.1 (Nat.le_of_ble_eq_true rfl) (Nat.le_of_ble_eq_true rfl) (Nat.le_of_ble_eq_true rfl) dX7_init_1 ?_
  refine lv_aload_n C.1 C.2.1 dX7_init_4 rfl (lv_at hl 0 rfl) ?_
  refine n_new (ci := 2) C M rfl lc7_7 in2 ini2 [.null, .int 0, .int 0] df_2 (Nat.le_of_ble_eq_true rfl) (Nat.le_of_ble_eq_true rfl) dX7_init_5 (fun q1 H M => ?_)
  have M : nM E A s H locs (w0 ++ [(b, .inr (7, [.null, .int 0, .int 0, .int 0, .int 0, .int 0, .int 0])), (q1, .inr (2, [.null, .int 0, .int 0]))]) := M
  refine W.widen (k := 1) (n := 3) (Nat.le_of_ble_eq_true rfl) (Nat.le_of_ble_eq_true rfl) ?_
  refine lv_dup C.1 C.2.1 dX7_init_8 rfl ?_
  have M : nM E A s H locs ((w0 ++ [(b, .inr (7, [.null, .int 0, .int 0, .int 0, .int 0, .int 0, .int 0]))]) ++ [(q1, .inr (2, [.null, .int 0, .int 0]))]) := by rw [List.append_assoc]; exact M
  refine n_callI (As := []) (rest := [.ref q1, .ref b]) C M (k_Crew l E (w0 ++ [(b, .inr (7, [.null, .int 0, .int 0, .int 0, .int 0, .int 0, .int 0]))]) q1) clX2_init imX2_init lk7_9 rfl rfl ⟨Nat.le_of_ble_eq_true rfl, Nat.le_of_ble_eq_true rfl⟩ hl.1 rfl (Nat.le_of_ble_eq_true rfl) dX7_init_9 ⟨Nat.le_of_ble_eq_true rfl, Nat.le_of_ble_eq_true rfl⟩ (fun ws H locs hR Mg2 => ?_)
  obtain ⟨g2, hg2, rfl⟩ := hR
  subst hg2
  refine W.widen (k := 2) (n := 63) (Nat.le_of_ble_eq_true rfl) (Nat.le_of_ble_eq_true rfl) ?_
  have M := n_bury Mg2
  generalize hw1 : w0 ++ wCrew E g2 0 = w1 at M
  refine n_put C hin M 0 rfl (T := TX7) rfl 0 (by decide) (List.mem_of_getElem? (i := 384) (by decide +kernel)) (v := .ref (g2 0)) rfl rfl rfl (Nat.le_of_ble_eq_true rfl) dX7_init_12 (fun H locs M => ?_)
  have M : nM E A s H locs (w1 ++ [(b, .inr (7, [.ref (g2 0), .int 0, .int 0, .int 0, .int 0, .int 0, .int 0]))]) := M
  obtain ⟨G, hG⟩ : ∃ G : Nat → Nat, G = nth [b, g2 0, g2 1] := ⟨_, rfl⟩
  refine n_vret C M hr hlk ⟨G, by rw [hG]; rfl, ?_⟩ (Nat.le_of_ble_eq_true rfl) (Nat.le_of_ble_eq_true rfl) dX7_init_15
  rw [← hw1]
  try simp only [List.append_assoc]
  subst hG
  rfl
def wGoods (E : hEnv) (g : Nat → Nat) (o : Nat) : va_W := wTimes60 E g (o + 3) ++ ([(g (o + 0), .inr (3, [.ref (g (o + 1)), .ref (g (o + 2)), .ref (g (o + 3)), .int 0])), (g (o + 1), .inl (E.2.1 0, 60, .inl (fun _ => 0))), (g (o + 2), .inl (E.2.1 0, 60, .inl (fun _ => 0)))])
set_option maxHeartbeats 4000000 in
set_option maxRecDepth 100000 in
theorem k_Goods (l : Launch) (E : hEnv) (w0 : va_W) (b : Nat) : nMet l yX3_init cX3_init 1 (2, 5, 242, 44) E (w0 ++ [(b, .inr (3, [.null, .null, .null, .int 0]))]) [.ref b] (fun ws => ∃ g : Nat → Nat, g 0 = b ∧ ws = w0 ++ wGoods E g 0) := by
  refine nMet.of (by decide) (Nat.le_of_ble_eq_true rfl) (fun p e s m below meth c A ls C M hr hlk hin hl => ?_)
  have hin : meth.name = "<init>" := hin
  have hl : lv_has ls 1 [(0, .ref b)] := hl
  generalize hH : s.heap = H at M ⊢
  generalize hlocs : ([] : List Loc) = locs at M ⊢
  have M : nM E A s H locs (w0 ++ [(b, .inr (3, [.null, .null, .null, .int 0]))]) := M
  refine lv_aload_n C.1 C.2.1 dX3_init_0 rfl (lv_at hl 0 rfl) ?_
  refine n_obj (rest := []) C lo3_3 hl.1 (Nat.le_of_ble_eq_true rfl) (Nat.le_of_ble_eq_true rfl) (Nat.le_of_ble_eq_true rfl) dX3_init_1 ?_
  refine lv_aload_n C.1 C.2.1 dX3_init_4 rfl (lv_at hl 0 rfl) ?_
  refine lv_bipush (v := 60) C.1 C.2.1 dX3_init_5 (by decide) ?_
  refine n_ari (k := 60) C M (by decide) (by decide) (by decide) (Nat.le_of_ble_eq_true rfl) (Nat.le_of_ble_eq_true rfl) dX3_init_7 (fun a1 H M => ?_)
  have M : nM E A s H locs (w0 ++ [(b, .inr (3, [.null, .null, .null, .int 0])), (a1, .inl (E.2.1 0, 60, .inl (fun _ => 0)))]) := M
  refine W.widen (k := 1) (n := 60) (Nat.le_of_ble_eq_true rfl) (Nat.le_of_ble_eq_true rfl) ?_
  refine n_put C hin M 0 rfl (T := TX3) rfl 0 (by decide) (List.mem_of_getElem? (i := 149) (by decide +kernel)) (v := .ref a1) rfl rfl rfl (Nat.le_of_ble_eq_true rfl) dX3_init_9 (fun H locs M => ?_)
  have M : nM E A s H locs (w0 ++ [(b, .inr (3, [.ref a1, .null, .null, .int 0])), (a1, .inl (E.2.1 0, 60, .inl (fun _ => 0)))]) := M
  refine lv_aload_n C.1 C.2.1 dX3_init_12 rfl (lv_at hl 0 rfl) ?_
  refine lv_bipush (v := 60) C.1 C.2.1 dX3_init_13 (by decide) ?_
  refine n_ari (k := 60) C M (by decide) (by decide) (by decide) (Nat.le_of_ble_eq_true rfl) (Nat.le_of_ble_eq_true rfl) dX3_init_15 (fun a2 H M => ?_)
  have M : nM E A s H locs (w0 ++ [(b, .inr (3, [.ref a1, .null, .null, .int 0])), (a1, .inl (E.2.1 0, 60, .inl (fun _ => 0))), (a2, .inl (E.2.1 0, 60, .inl (fun _ => 0)))]) := M
  refine W.widen (k := 2) (n := 120) (Nat.le_of_ble_eq_true rfl) (Nat.le_of_ble_eq_true rfl) ?_
  refine n_put C hin M 0 rfl (T := TX3) rfl 1 (by decide) (List.mem_of_getElem? (i := 150) (by decide +kernel)) (v := .ref a2) rfl rfl rfl (Nat.le_of_ble_eq_true rfl) dX3_init_17 (fun H locs M => ?_)
  have M : nM E A s H locs (w0 ++ [(b, .inr (3, [.ref a1, .ref a2, .null, .int 0])), (a1, .inl (E.2.1 0, 60, .inl (fun _ => 0))), (a2, .inl (E.2.1 0, 60, .inl (fun _ => 0)))]) := M
  refine lv_aload_n C.1 C.2.1 dX3_init_20 rfl (lv_at hl 0 rfl) ?_
  refine n_new (ci := 10) C M rfl lc3_18 in10 ini10 [.null, .null] df_10 (Nat.le_of_ble_eq_true rfl) (Nat.le_of_ble_eq_true rfl) dX3_init_21 (fun q3 H M => ?_)
  have M : nM E A s H locs (w0 ++ [(b, .inr (3, [.ref a1, .ref a2, .null, .int 0])), (a1, .inl (E.2.1 0, 60, .inl (fun _ => 0))), (a2, .inl (E.2.1 0, 60, .inl (fun _ => 0))), (q3, .inr (10, [.null, .null]))]) := M
  refine W.widen (k := 3) (n := 122) (Nat.le_of_ble_eq_true rfl) (Nat.le_of_ble_eq_true rfl) ?_
  refine lv_dup C.1 C.2.1 dX3_init_24 rfl ?_
  refine lv_bipush (v := 60) C.1 C.2.1 dX3_init_25 (by decide) ?_
  have M : nM E A s H locs ((w0 ++ [(b, .inr (3, [.ref a1, .ref a2, .null, .int 0])), (a1, .inl (E.2.1 0, 60, .inl (fun _ => 0))), (a2, .inl (E.2.1 0, 60, .inl (fun _ => 0)))]) ++ [(q3, .inr (10, [.null, .null]))]) := by rw [List.append_assoc]; exact M
  refine n_callI (As := [.int 60]) (rest := [.ref q3, .ref b]) C M (k_Times60 l E (w0 ++ [(b, .inr (3, [.ref a1, .ref a2, .null, .int 0])), (a1, .inl (E.2.1 0, 60, .inl (fun _ => 0))), (a2, .inl (E.2.1 0, 60, .inl (fun _ => 0)))]) q3) clX10_init imX10_init lk3_20 rfl rfl ⟨Nat.le_of_ble_eq_true rfl, Nat.le_of_ble_eq_true rfl⟩ hl.1 rfl (Nat.le_of_ble_eq_true rfl) dX3_init_27 ⟨Nat.le_of_ble_eq_true rfl, Nat.le_of_ble_eq_true rfl⟩ (fun ws H locs hR Mg4 => ?_)
  obtain ⟨g4, hg4, rfl⟩ := hR
  subst hg4
  refine W.widen (k := 5) (n := 242) (Nat.le_of_ble_eq_true rfl) (Nat.le_of_ble_eq_true rfl) ?_
  have M := n_bury Mg4
  generalize hw1 : w0 ++ wTimes60 E g4 0 = w1 at M
  refine n_put C hin M 0 rfl (T := TX3) rfl 2 (by decide) (List.mem_of_getElem? (i := 151) (by decide +kernel)) (v := .ref (g4 0)) rfl rfl rfl (Nat.le_of_ble_eq_true rfl) dX3_init_30 (fun H locs M => ?_)
  have M : nM E A s H locs (w1 ++ [(b, .inr (3, [.ref a1, .ref a2, .ref (g4 0), .int 0])), (a1, .inl (E.2.1 0, 60, .inl (fun _ => 0))), (a2, .inl (E.2.1 0, 60, .inl (fun _ => 0)))]) := M
  obtain ⟨G, hG⟩ : ∃ G : Nat → Nat, G = nth [b, a1, a2, g4 0, g4 1, g4 2] := ⟨_, rfl⟩
  refine n_vret C M hr hlk ⟨G, by rw [hG]; rfl, ?_⟩ (Nat.le_of_ble_eq_true rfl) (Nat.le_of_ble_eq_true rfl) dX3_init_33
  rw [← hw1]
  try simp only [List.append_assoc]
  subst hG
  rfl
def wCases (E : hEnv) (g : Nat → Nat) (o : Nat) : va_W := wTimes40 E g (o + 3) ++ (wTimes40 E g (o + 6) ++ ([(g (o + 0), .inr (1, [.ref (g (o + 1)), .ref (g (o + 2)), .ref (g (o + 3)), .ref (g (o + 6)), .int 0])), (g (o + 1), .inl (E.2.1 0, 40, .inl (fun _ => 0))), (g (o + 2), .inl (E.2.1 0, 40, .inl (fun _ => 0)))]))
set_option maxHeartbeats 4000000 in
set_option maxRecDepth 100000 in
theorem k_Cases (l : Launch) (E : hEnv) (w0 : va_W) (b : Nat) : nMet l yX1_init cX1_init 1 (2, 8, 244, 44) E (w0 ++ [(b, .inr (1, [.null, .null, .null, .null, .int 0]))]) [.ref b] (fun ws => ∃ g : Nat → Nat, g 0 = b ∧ ws = w0 ++ wCases E g 0) := by
  refine nMet.of (by decide) (Nat.le_of_ble_eq_true rfl) (fun p e s m below meth c A ls C M hr hlk hin hl => ?_)
  have hin : meth.name = "<init>" := hin
  have hl : lv_has ls 1 [(0, .ref b)] := hl
  generalize hH : s.heap = H at M ⊢
  generalize hlocs : ([] : List Loc) = locs at M ⊢
  have M : nM E A s H locs (w0 ++ [(b, .inr (1, [.null, .null, .null, .null, .int 0]))]) := M
  refine lv_aload_n C.1 C.2.1 dX1_init_0 rfl (lv_at hl 0 rfl) ?_
  refine n_obj (rest := []) C lo1_3 hl.1 (Nat.le_of_ble_eq_true rfl) (Nat.le_of_ble_eq_true rfl) (Nat.le_of_ble_eq_true rfl) dX1_init_1 ?_
  refine lv_aload_n C.1 C.2.1 dX1_init_4 rfl (lv_at hl 0 rfl) ?_
  refine lv_bipush (v := 40) C.1 C.2.1 dX1_init_5 (by decide) ?_
  refine n_ari (k := 40) C M (by decide) (by decide) (by decide) (Nat.le_of_ble_eq_true rfl) (Nat.le_of_ble_eq_true rfl) dX1_init_7 (fun a1 H M => ?_)
  have M : nM E A s H locs (w0 ++ [(b, .inr (1, [.null, .null, .null, .null, .int 0])), (a1, .inl (E.2.1 0, 40, .inl (fun _ => 0)))]) := M
  refine W.widen (k := 1) (n := 40) (Nat.le_of_ble_eq_true rfl) (Nat.le_of_ble_eq_true rfl) ?_
  refine n_put C hin M 0 rfl (T := TX1) rfl 0 (by decide) (List.mem_of_getElem? (i := 171) (by decide +kernel)) (v := .ref a1) rfl rfl rfl (Nat.le_of_ble_eq_true rfl) dX1_init_9 (fun H locs M => ?_)
  have M : nM E A s H locs (w0 ++ [(b, .inr (1, [.ref a1, .null, .null, .null, .int 0])), (a1, .inl (E.2.1 0, 40, .inl (fun _ => 0)))]) := M
  refine lv_aload_n C.1 C.2.1 dX1_init_12 rfl (lv_at hl 0 rfl) ?_
  refine lv_bipush (v := 40) C.1 C.2.1 dX1_init_13 (by decide) ?_
  refine n_ari (k := 40) C M (by decide) (by decide) (by decide) (Nat.le_of_ble_eq_true rfl) (Nat.le_of_ble_eq_true rfl) dX1_init_15 (fun a2 H M => ?_)
  have M : nM E A s H locs (w0 ++ [(b, .inr (1, [.ref a1, .null, .null, .null, .int 0])), (a1, .inl (E.2.1 0, 40, .inl (fun _ => 0))), (a2, .inl (E.2.1 0, 40, .inl (fun _ => 0)))]) := M
  refine W.widen (k := 2) (n := 80) (Nat.le_of_ble_eq_true rfl) (Nat.le_of_ble_eq_true rfl) ?_
  refine n_put C hin M 0 rfl (T := TX1) rfl 1 (by decide) (List.mem_of_getElem? (i := 172) (by decide +kernel)) (v := .ref a2) rfl rfl rfl (Nat.le_of_ble_eq_true rfl) dX1_init_17 (fun H locs M => ?_)
  have M : nM E A s H locs (w0 ++ [(b, .inr (1, [.ref a1, .ref a2, .null, .null, .int 0])), (a1, .inl (E.2.1 0, 40, .inl (fun _ => 0))), (a2, .inl (E.2.1 0, 40, .inl (fun _ => 0)))]) := M
  refine lv_aload_n C.1 C.2.1 dX1_init_20 rfl (lv_at hl 0 rfl) ?_
  refine n_new (ci := 10) C M rfl lc1_18 in10 ini10 [.null, .null] df_10 (Nat.le_of_ble_eq_true rfl) (Nat.le_of_ble_eq_true rfl) dX1_init_21 (fun q3 H M => ?_)
  have M : nM E A s H locs (w0 ++ [(b, .inr (1, [.ref a1, .ref a2, .null, .null, .int 0])), (a1, .inl (E.2.1 0, 40, .inl (fun _ => 0))), (a2, .inl (E.2.1 0, 40, .inl (fun _ => 0))), (q3, .inr (10, [.null, .null]))]) := M
  refine W.widen (k := 3) (n := 82) (Nat.le_of_ble_eq_true rfl) (Nat.le_of_ble_eq_true rfl) ?_
  refine lv_dup C.1 C.2.1 dX1_init_24 rfl ?_
  refine lv_bipush (v := 40) C.1 C.2.1 dX1_init_25 (by decide) ?_
  have M : nM E A s H locs ((w0 ++ [(b, .inr (1, [.ref a1, .ref a2, .null, .null, .int 0])), (a1, .inl (E.2.1 0, 40, .inl (fun _ => 0))), (a2, .inl (E.2.1 0, 40, .inl (fun _ => 0)))]) ++ [(q3, .inr (10, [.null, .null]))]) := by rw [List.append_assoc]; exact M
  refine n_callI (As := [.int 40]) (rest := [.ref q3, .ref b]) C M (k_Times40 l E (w0 ++ [(b, .inr (1, [.ref a1, .ref a2, .null, .null, .int 0])), (a1, .inl (E.2.1 0, 40, .inl (fun _ => 0))), (a2, .inl (E.2.1 0, 40, .inl (fun _ => 0)))]) q3) clX10_init imX10_init lk1_20 rfl rfl ⟨Nat.le_of_ble_eq_true rfl, Nat.le_of_ble_eq_true rfl⟩ hl.1 rfl (Nat.le_of_ble_eq_true rfl) dX1_init_27 ⟨Nat.le_of_ble_eq_true rfl, Nat.le_of_ble_eq_true rfl⟩ (fun ws H locs hR Mg4 => ?_)
  obtain ⟨g4, hg4, rfl⟩ := hR
  subst hg4
  refine W.widen (k := 5) (n := 162) (Nat.le_of_ble_eq_true rfl) (Nat.le_of_ble_eq_true rfl) ?_
  have M := n_bury Mg4
  generalize hw1 : w0 ++ wTimes40 E g4 0 = w1 at M
  refine n_put C hin M 0 rfl (T := TX1) rfl 2 (by decide) (List.mem_of_getElem? (i := 173) (by decide +kernel)) (v := .ref (g4 0)) rfl rfl rfl (Nat.le_of_ble_eq_true rfl) dX1_init_30 (fun H locs M => ?_)
  have M : nM E A s H locs (w1 ++ [(b, .inr (1, [.ref a1, .ref a2, .ref (g4 0), .null, .int 0])), (a1, .inl (E.2.1 0, 40, .inl (fun _ => 0))), (a2, .inl (E.2.1 0, 40, .inl (fun _ => 0)))]) := M
  refine lv_aload_n C.1 C.2.1 dX1_init_33 rfl (lv_at hl 0 rfl) ?_
  refine n_new (ci := 10) C M rfl lc1_18 in10 ini10 [.null, .null] df_10 (Nat.le_of_ble_eq_true rfl) (Nat.le_of_ble_eq_true rfl) dX1_init_34 (fun q5 H M => ?_)
  have M : nM E A s H locs (w1 ++ [(b, .inr (1, [.ref a1, .ref a2, .ref (g4 0), .null, .int 0])), (a1, .inl (E.2.1 0, 40, .inl (fun _ => 0))), (a2, .inl (E.2.1 0, 40, .inl (fun _ => 0))), (q5, .inr (10, [.null, .null]))]) := M
  refine W.widen (k := 6) (n := 164) (Nat.le_of_ble_eq_true rfl) (Nat.le_of_ble_eq_true rfl) ?_
  refine lv_dup C.1 C.2.1 dX1_init_37 rfl ?_
  refine lv_bipush (v := 40) C.1 C.2.1 dX1_init_38 (by decide) ?_
  have M : nM E A s H locs ((w1 ++ [(b, .inr (1, [.ref a1, .ref a2, .ref (g4 0), .null, .int 0])), (a1, .inl (E.2.1 0, 40, .inl (fun _ => 0))), (a2, .inl (E.2.1 0, 40, .inl (fun _ => 0)))]) ++ [(q5, .inr (10, [.null, .null]))]) := by rw [List.append_assoc]; exact M
  refine n_callI (As := [.int 40]) (rest := [.ref q5, .ref b]) C M (k_Times40 l E (w1 ++ [(b, .inr (1, [.ref a1, .ref a2, .ref (g4 0), .null, .int 0])), (a1, .inl (E.2.1 0, 40, .inl (fun _ => 0))), (a2, .inl (E.2.1 0, 40, .inl (fun _ => 0)))]) q5) clX10_init imX10_init lk1_20 rfl rfl ⟨Nat.le_of_ble_eq_true rfl, Nat.le_of_ble_eq_true rfl⟩ hl.1 rfl (Nat.le_of_ble_eq_true rfl) dX1_init_40 ⟨Nat.le_of_ble_eq_true rfl, Nat.le_of_ble_eq_true rfl⟩ (fun ws H locs hR Mg6 => ?_)
  obtain ⟨g6, hg6, rfl⟩ := hR
  subst hg6
  refine W.widen (k := 8) (n := 244) (Nat.le_of_ble_eq_true rfl) (Nat.le_of_ble_eq_true rfl) ?_
  have M := n_bury Mg6
  generalize hw2 : w1 ++ wTimes40 E g6 0 = w2 at M
  refine n_put C hin M 0 rfl (T := TX1) rfl 3 (by decide) (List.mem_of_getElem? (i := 174) (by decide +kernel)) (v := .ref (g6 0)) rfl rfl rfl (Nat.le_of_ble_eq_true rfl) dX1_init_43 (fun H locs M => ?_)
  have M : nM E A s H locs (w2 ++ [(b, .inr (1, [.ref a1, .ref a2, .ref (g4 0), .ref (g6 0), .int 0])), (a1, .inl (E.2.1 0, 40, .inl (fun _ => 0))), (a2, .inl (E.2.1 0, 40, .inl (fun _ => 0)))]) := M
  obtain ⟨G, hG⟩ : ∃ G : Nat → Nat, G = nth [b, a1, a2, g4 0, g4 1, g4 2, g6 0, g6 1, g6 2] := ⟨_, rfl⟩
  refine n_vret C M hr hlk ⟨G, by rw [hG]; rfl, ?_⟩ (Nat.le_of_ble_eq_true rfl) (Nat.le_of_ble_eq_true rfl) dX1_init_46
  rw [← hw2, ← hw1]
  try simp only [List.append_assoc]
  subst hG
  rfl
def wTale (E : hEnv) (g : Nat → Nat) (o : Nat) : va_W := wBounds E g (o + 9) ++ (wBounds E g (o + 11) ++ ([(g (o + 0), .inr (8, [.ref (g (o + 1)), .ref (g (o + 2)), .ref (g (o + 3)), .ref (g (o + 4)), .ref (g (o + 5)), .ref (g (o + 6)), .int 0, .ref (g (o + 9)), .ref (g (o + 7)), .int 0, .int 0, .ref (g (o + 11)), .ref (g (o + 8)), .int 0, .int 0])), (g (o + 1), .inl (E.2.1 0, 6, .inl (pre (fun _ => 5) (fun _ => 0) 6))), (g (o + 2), .inl (E.2.1 0, 40, .inl (fun _ => 0))), (g (o + 3), .inl (E.2.1 0, 40, .inl (fun _ => 0))), (g (o + 4), .inl (E.2.1 0, 40, .inl (fun _ => 0))), (g (o + 5), .inl (E.2.1 0, 40, .inl (fun _ => 0))), (g (o + 6), .inl (E.2.1 0, 40, .inl (fun _ => 0))), (g (o + 7), .inl (E.2.1 2, 40, .inl (fun _ => 0))), (g (o + 8), .inl (E.2.1 2, 40, .inl (fun _ => 0)))]))
set_option maxHeartbeats 4000000 in
set_option maxRecDepth 100000 in
theorem k_Tale (l : Launch) (E : hEnv) (w0 : va_W) (b : Nat) : nMet l yX8_init cX8_init 1 (2, 12, 800, 40) E (w0 ++ [(b, .inr (8, [.null, .null, .null, .null, .null, .null, .int 0, .null, .null, .int 0, .int 0, .null, .null, .int 0, .int 0]))]) [.ref b] (fun ws => ∃ g : Nat → Nat, g 0 = b ∧ ws = w0 ++ wTale E g 0) := by
  refine nMet.of (by decide) (Nat.le_of_ble_eq_true rfl) (fun p e s m below meth c A ls C M hr hlk hin hl => ?_)
  have hin : meth.name = "<init>" := hin
  have hl : lv_has ls 1 [(0, .ref b)] := hl
  generalize hH : s.heap = H at M ⊢
  generalize hlocs : ([] : List Loc) = locs at M ⊢
  have M : nM E A s H locs (w0 ++ [(b, .inr (8, [.null, .null, .null, .null, .null, .null, .int 0, .null, .null, .int 0, .int 0, .null, .null, .int 0, .int 0]))]) := M
  refine lv_aload_n C.1 C.2.1 dX8_init_0 rfl (lv_at hl 0 rfl) ?_
  refine n_obj (rest := []) C lo8_3 hl.1 (Nat.le_of_ble_eq_true rfl) (Nat.le_of_ble_eq_true rfl) (Nat.le_of_ble_eq_true rfl) dX8_init_1 ?_
  refine lv_aload_n C.1 C.2.1 dX8_init_4 rfl (lv_at hl 0 rfl) ?_
  refine lv_bipush (v := 6) C.1 C.2.1 dX8_init_5 (by decide) ?_
  refine n_ari (k := 6) C M (by decide) (by decide) (by decide) (Nat.le_of_ble_eq_true rfl) (Nat.le_of_ble_eq_true rfl) dX8_init_7 (fun a1 H M => ?_)
  have M : nM E A s H locs (w0 ++ [(b, .inr (8, [.null, .null, .null, .null, .null, .null, .int 0, .null, .null, .int 0, .int 0, .null, .null, .int 0, .int 0])), (a1, .inl (E.2.1 0, 6, .inl (fun _ => 0)))]) := M
  refine W.widen (k := 1) (n := 6) (Nat.le_of_ble_eq_true rfl) (Nat.le_of_ble_eq_true rfl) ?_
  refine n_put C hin M 0 rfl (T := TX8) rfl 0 (by decide) (List.mem_of_getElem? (i := 81) (by decide +kernel)) (v := .ref a1) rfl rfl rfl (Nat.le_of_ble_eq_true rfl) dX8_init_9 (fun H locs M => ?_)
  have M : nM E A s H locs (w0 ++ [(b, .inr (8, [.ref a1, .null, .null, .null, .null, .null, .int 0, .null, .null, .int 0, .int 0, .null, .null, .int 0, .int 0])), (a1, .inl (E.2.1 0, 6, .inl (fun _ => 0)))]) := M
  refine lv_aload_n C.1 C.2.1 dX8_init_12 rfl (lv_at hl 0 rfl) ?_
  refine lv_bipush (v := 40) C.1 C.2.1 dX8_init_13 (by decide) ?_
  refine n_ari (k := 40) C M (by decide) (by decide) (by decide) (Nat.le_of_ble_eq_true rfl) (Nat.le_of_ble_eq_true rfl) dX8_init_15 (fun a2 H M => ?_)
  have M : nM E A s H locs (w0 ++ [(b, .inr (8, [.ref a1, .null, .null, .null, .null, .null, .int 0, .null, .null, .int 0, .int 0, .null, .null, .int 0, .int 0])), (a1, .inl (E.2.1 0, 6, .inl (fun _ => 0))), (a2, .inl (E.2.1 0, 40, .inl (fun _ => 0)))]) := M
  refine W.widen (k := 2) (n := 46) (Nat.le_of_ble_eq_true rfl) (Nat.le_of_ble_eq_true rfl) ?_
  refine n_put C hin M 0 rfl (T := TX8) rfl 1 (by decide) (List.mem_of_getElem? (i := 82) (by decide +kernel)) (v := .ref a2) rfl rfl rfl (Nat.le_of_ble_eq_true rfl) dX8_init_17 (fun H locs M => ?_)
  have M : nM E A s H locs (w0 ++ [(b, .inr (8, [.ref a1, .ref a2, .null, .null, .null, .null, .int 0, .null, .null, .int 0, .int 0, .null, .null, .int 0, .int 0])), (a1, .inl (E.2.1 0, 6, .inl (fun _ => 0))), (a2, .inl (E.2.1 0, 40, .inl (fun _ => 0)))]) := M
  refine lv_aload_n C.1 C.2.1 dX8_init_20 rfl (lv_at hl 0 rfl) ?_
  refine lv_bipush (v := 40) C.1 C.2.1 dX8_init_21 (by decide) ?_
  refine n_ari (k := 40) C M (by decide) (by decide) (by decide) (Nat.le_of_ble_eq_true rfl) (Nat.le_of_ble_eq_true rfl) dX8_init_23 (fun a3 H M => ?_)
  have M : nM E A s H locs (w0 ++ [(b, .inr (8, [.ref a1, .ref a2, .null, .null, .null, .null, .int 0, .null, .null, .int 0, .int 0, .null, .null, .int 0, .int 0])), (a1, .inl (E.2.1 0, 6, .inl (fun _ => 0))), (a2, .inl (E.2.1 0, 40, .inl (fun _ => 0))), (a3, .inl (E.2.1 0, 40, .inl (fun _ => 0)))]) := M
  refine W.widen (k := 3) (n := 86) (Nat.le_of_ble_eq_true rfl) (Nat.le_of_ble_eq_true rfl) ?_
  refine n_put C hin M 0 rfl (T := TX8) rfl 2 (by decide) (List.mem_of_getElem? (i := 83) (by decide +kernel)) (v := .ref a3) rfl rfl rfl (Nat.le_of_ble_eq_true rfl) dX8_init_25 (fun H locs M => ?_)
  have M : nM E A s H locs (w0 ++ [(b, .inr (8, [.ref a1, .ref a2, .ref a3, .null, .null, .null, .int 0, .null, .null, .int 0, .int 0, .null, .null, .int 0, .int 0])), (a1, .inl (E.2.1 0, 6, .inl (fun _ => 0))), (a2, .inl (E.2.1 0, 40, .inl (fun _ => 0))), (a3, .inl (E.2.1 0, 40, .inl (fun _ => 0)))]) := M
  refine lv_aload_n C.1 C.2.1 dX8_init_28 rfl (lv_at hl 0 rfl) ?_
  refine lv_bipush (v := 40) C.1 C.2.1 dX8_init_29 (by decide) ?_
  refine n_ari (k := 40) C M (by decide) (by decide) (by decide) (Nat.le_of_ble_eq_true rfl) (Nat.le_of_ble_eq_true rfl) dX8_init_31 (fun a4 H M => ?_)
  have M : nM E A s H locs (w0 ++ [(b, .inr (8, [.ref a1, .ref a2, .ref a3, .null, .null, .null, .int 0, .null, .null, .int 0, .int 0, .null, .null, .int 0, .int 0])), (a1, .inl (E.2.1 0, 6, .inl (fun _ => 0))), (a2, .inl (E.2.1 0, 40, .inl (fun _ => 0))), (a3, .inl (E.2.1 0, 40, .inl (fun _ => 0))), (a4, .inl (E.2.1 0, 40, .inl (fun _ => 0)))]) := M
  refine W.widen (k := 4) (n := 126) (Nat.le_of_ble_eq_true rfl) (Nat.le_of_ble_eq_true rfl) ?_
  refine n_put C hin M 0 rfl (T := TX8) rfl 3 (by decide) (List.mem_of_getElem? (i := 84) (by decide +kernel)) (v := .ref a4) rfl rfl rfl (Nat.le_of_ble_eq_true rfl) dX8_init_33 (fun H locs M => ?_)
  have M : nM E A s H locs (w0 ++ [(b, .inr (8, [.ref a1, .ref a2, .ref a3, .ref a4, .null, .null, .int 0, .null, .null, .int 0, .int 0, .null, .null, .int 0, .int 0])), (a1, .inl (E.2.1 0, 6, .inl (fun _ => 0))), (a2, .inl (E.2.1 0, 40, .inl (fun _ => 0))), (a3, .inl (E.2.1 0, 40, .inl (fun _ => 0))), (a4, .inl (E.2.1 0, 40, .inl (fun _ => 0)))]) := M
  refine lv_aload_n C.1 C.2.1 dX8_init_36 rfl (lv_at hl 0 rfl) ?_
  refine lv_bipush (v := 40) C.1 C.2.1 dX8_init_37 (by decide) ?_
  refine n_ari (k := 40) C M (by decide) (by decide) (by decide) (Nat.le_of_ble_eq_true rfl) (Nat.le_of_ble_eq_true rfl) dX8_init_39 (fun a5 H M => ?_)
  have M : nM E A s H locs (w0 ++ [(b, .inr (8, [.ref a1, .ref a2, .ref a3, .ref a4, .null, .null, .int 0, .null, .null, .int 0, .int 0, .null, .null, .int 0, .int 0])), (a1, .inl (E.2.1 0, 6, .inl (fun _ => 0))), (a2, .inl (E.2.1 0, 40, .inl (fun _ => 0))), (a3, .inl (E.2.1 0, 40, .inl (fun _ => 0))), (a4, .inl (E.2.1 0, 40, .inl (fun _ => 0))), (a5, .inl (E.2.1 0, 40, .inl (fun _ => 0)))]) := M
  refine W.widen (k := 5) (n := 166) (Nat.le_of_ble_eq_true rfl) (Nat.le_of_ble_eq_true rfl) ?_
  refine n_put C hin M 0 rfl (T := TX8) rfl 4 (by decide) (List.mem_of_getElem? (i := 85) (by decide +kernel)) (v := .ref a5) rfl rfl rfl (Nat.le_of_ble_eq_true rfl) dX8_init_41 (fun H locs M => ?_)
  have M : nM E A s H locs (w0 ++ [(b, .inr (8, [.ref a1, .ref a2, .ref a3, .ref a4, .ref a5, .null, .int 0, .null, .null, .int 0, .int 0, .null, .null, .int 0, .int 0])), (a1, .inl (E.2.1 0, 6, .inl (fun _ => 0))), (a2, .inl (E.2.1 0, 40, .inl (fun _ => 0))), (a3, .inl (E.2.1 0, 40, .inl (fun _ => 0))), (a4, .inl (E.2.1 0, 40, .inl (fun _ => 0))), (a5, .inl (E.2.1 0, 40, .inl (fun _ => 0)))]) := M
  refine lv_aload_n C.1 C.2.1 dX8_init_44 rfl (lv_at hl 0 rfl) ?_
  refine lv_bipush (v := 40) C.1 C.2.1 dX8_init_45 (by decide) ?_
  refine n_ari (k := 40) C M (by decide) (by decide) (by decide) (Nat.le_of_ble_eq_true rfl) (Nat.le_of_ble_eq_true rfl) dX8_init_47 (fun a6 H M => ?_)
  have M : nM E A s H locs (w0 ++ [(b, .inr (8, [.ref a1, .ref a2, .ref a3, .ref a4, .ref a5, .null, .int 0, .null, .null, .int 0, .int 0, .null, .null, .int 0, .int 0])), (a1, .inl (E.2.1 0, 6, .inl (fun _ => 0))), (a2, .inl (E.2.1 0, 40, .inl (fun _ => 0))), (a3, .inl (E.2.1 0, 40, .inl (fun _ => 0))), (a4, .inl (E.2.1 0, 40, .inl (fun _ => 0))), (a5, .inl (E.2.1 0, 40, .inl (fun _ => 0))), (a6, .inl (E.2.1 0, 40, .inl (fun _ => 0)))]) := M
  refine W.widen (k := 6) (n := 206) (Nat.le_of_ble_eq_true rfl) (Nat.le_of_ble_eq_true rfl) ?_
  refine n_put C hin M 0 rfl (T := TX8) rfl 5 (by decide) (List.mem_of_getElem? (i := 86) (by decide +kernel)) (v := .ref a6) rfl rfl rfl (Nat.le_of_ble_eq_true rfl) dX8_init_49 (fun H locs M => ?_)
  have M : nM E A s H locs (w0 ++ [(b, .inr (8, [.ref a1, .ref a2, .ref a3, .ref a4, .ref a5, .ref a6, .int 0, .null, .null, .int 0, .int 0, .null, .null, .int 0, .int 0])), (a1, .inl (E.2.1 0, 6, .inl (fun _ => 0))), (a2, .inl (E.2.1 0, 40, .inl (fun _ => 0))), (a3, .inl (E.2.1 0, 40, .inl (fun _ => 0))), (a4, .inl (E.2.1 0, 40, .inl (fun _ => 0))), (a5, .inl (E.2.1 0, 40, .inl (fun _ => 0))), (a6, .inl (E.2.1 0, 40, .inl (fun _ => 0)))]) := M
  refine lv_aload_n C.1 C.2.1 dX8_init_52 rfl (lv_at hl 0 rfl) ?_
  refine n_new (ci := 0) C M rfl lc8_30 in0 ini0 [.null] df_0 (Nat.le_of_ble_eq_true rfl) (Nat.le_of_ble_eq_true rfl) dX8_init_53 (fun q7 H M => ?_)
  have M : nM E A s H locs (w0 ++ [(b, .inr (8, [.ref a1, .ref a2, .ref a3, .ref a4, .ref a5, .ref a6, .int 0, .null, .null, .int 0, .int 0, .null, .null, .int 0, .int 0])), (a1, .inl (E.2.1 0, 6, .inl (fun _ => 0))), (a2, .inl (E.2.1 0, 40, .inl (fun _ => 0))), (a3, .inl (E.2.1 0, 40, .inl (fun _ => 0))), (a4, .inl (E.2.1 0, 40, .inl (fun _ => 0))), (a5, .inl (E.2.1 0, 40, .inl (fun _ => 0))), (a6, .inl (E.2.1 0, 40, .inl (fun _ => 0))), (q7, .inr (0, [.null]))]) := M
  refine W.widen (k := 7) (n := 207) (Nat.le_of_ble_eq_true rfl) (Nat.le_of_ble_eq_true rfl) ?_
  refine lv_dup C.1 C.2.1 dX8_init_56 rfl ?_
  have M : nM E A s H locs ((w0 ++ [(b, .inr (8, [.ref a1, .ref a2, .ref a3, .ref a4, .ref a5, .ref a6, .int 0, .null, .null, .int 0, .int 0, .null, .null, .int 0, .int 0])), (a1, .inl (E.2.1 0, 6, .inl (fun _ => 0))), (a2, .inl (E.2.1 0, 40, .inl (fun _ => 0))), (a3, .inl (E.2.1 0, 40, .inl (fun _ => 0))), (a4, .inl (E.2.1 0, 40, .inl (fun _ => 0))), (a5, .inl (E.2.1 0, 40, .inl (fun _ => 0))), (a6, .inl (E.2.1 0, 40, .inl (fun _ => 0)))]) ++ [(q7, .inr (0, [.null]))]) := by rw [List.append_assoc]; exact M
  refine n_callI (As := []) (rest := [.ref q7, .ref b]) C M (k_Bounds l E (w0 ++ [(b, .inr (8, [.ref a1, .ref a2, .ref a3, .ref a4, .ref a5, .ref a6, .int 0, .null, .null, .int 0, .int 0, .null, .null, .int 0, .int 0])), (a1, .inl (E.2.1 0, 6, .inl (fun _ => 0))), (a2, .inl (E.2.1 0, 40, .inl (fun _ => 0))), (a3, .inl (E.2.1 0, 40, .inl (fun _ => 0))), (a4, .inl (E.2.1 0, 40, .inl (fun _ => 0))), (a5, .inl (E.2.1 0, 40, .inl (fun _ => 0))), (a6, .inl (E.2.1 0, 40, .inl (fun _ => 0)))]) q7) clX0_init imX0_init lk8_32 rfl rfl ⟨Nat.le_of_ble_eq_true rfl, Nat.le_of_ble_eq_true rfl⟩ hl.1 rfl (Nat.le_of_ble_eq_true rfl) dX8_init_57 ⟨Nat.le_of_ble_eq_true rfl, Nat.le_of_ble_eq_true rfl⟩ (fun ws H locs hR Mg8 => ?_)
  obtain ⟨g8, hg8, rfl⟩ := hR
  subst hg8
  refine W.widen (k := 8) (n := 463) (Nat.le_of_ble_eq_true rfl) (Nat.le_of_ble_eq_true rfl) ?_
  have M := n_bury Mg8
  generalize hw1 : w0 ++ wBounds E g8 0 = w1 at M
  refine n_put C hin M 0 rfl (T := TX8) rfl 7 (by decide) (List.mem_of_getElem? (i := 89) (by decide +kernel)) (v := .ref (g8 0)) rfl rfl rfl (Nat.le_of_ble_eq_true rfl) dX8_init_60 (fun H locs M => ?_)
  have M : nM E A s H locs (w1 ++ [(b, .inr (8, [.ref a1, .ref a2, .ref a3, .ref a4, .ref a5, .ref a6, .int 0, .ref (g8 0), .null, .int 0, .int 0, .null, .null, .int 0, .int 0])), (a1, .inl (E.2.1 0, 6, .inl (fun _ => 0))), (a2, .inl (E.2.1 0, 40, .inl (fun _ => 0))), (a3, .inl (E.2.1 0, 40, .inl (fun _ => 0))), (a4, .inl (E.2.1 0, 40, .inl (fun _ => 0))), (a5, .inl (E.2.1 0, 40, .inl (fun _ => 0))), (a6, .inl (E.2.1 0, 40, .inl (fun _ => 0)))]) := M
  refine lv_aload_n C.1 C.2.1 dX8_init_63 rfl (lv_at hl 0 rfl) ?_
  refine lv_bipush (v := 40) C.1 C.2.1 dX8_init_64 (by decide) ?_
  refine n_arz (k := 40) C M (by decide) (by decide) (by decide) (Nat.le_of_ble_eq_true rfl) (Nat.le_of_ble_eq_true rfl) dX8_init_66 (fun a9 H M => ?_)
  have M : nM E A s H locs (w1 ++ [(b, .inr (8, [.ref a1, .ref a2, .ref a3, .ref a4, .ref a5, .ref a6, .int 0, .ref (g8 0), .null, .int 0, .int 0, .null, .null, .int 0, .int 0])), (a1, .inl (E.2.1 0, 6, .inl (fun _ => 0))), (a2, .inl (E.2.1 0, 40, .inl (fun _ => 0))), (a3, .inl (E.2.1 0, 40, .inl (fun _ => 0))), (a4, .inl (E.2.1 0, 40, .inl (fun _ => 0))), (a5, .inl (E.2.1 0, 40, .inl (fun _ => 0))), (a6, .inl (E.2.1 0, 40, .inl (fun _ => 0))), (a9, .inl (E.2.1 2, 40, .inl (fun _ => 0)))]) := M
  refine W.widen (k := 9) (n := 503) (Nat.le_of_ble_eq_true rfl) (Nat.le_of_ble_eq_true rfl) ?_
  refine n_put C hin M 0 rfl (T := TX8) rfl 8 (by decide) (List.mem_of_getElem? (i := 90) (by decide +kernel)) (v := .ref a9) rfl rfl rfl (Nat.le_of_ble_eq_true rfl) dX8_init_68 (fun H locs M => ?_)
  have M : nM E A s H locs (w1 ++ [(b, .inr (8, [.ref a1, .ref a2, .ref a3, .ref a4, .ref a5, .ref a6, .int 0, .ref (g8 0), .ref a9, .int 0, .int 0, .null, .null, .int 0, .int 0])), (a1, .inl (E.2.1 0, 6, .inl (fun _ => 0))), (a2, .inl (E.2.1 0, 40, .inl (fun _ => 0))), (a3, .inl (E.2.1 0, 40, .inl (fun _ => 0))), (a4, .inl (E.2.1 0, 40, .inl (fun _ => 0))), (a5, .inl (E.2.1 0, 40, .inl (fun _ => 0))), (a6, .inl (E.2.1 0, 40, .inl (fun _ => 0))), (a9, .inl (E.2.1 2, 40, .inl (fun _ => 0)))]) := M
  refine lv_aload_n C.1 C.2.1 dX8_init_71 rfl (lv_at hl 0 rfl) ?_
  refine n_new (ci := 0) C M rfl lc8_30 in0 ini0 [.null] df_0 (Nat.le_of_ble_eq_true rfl) (Nat.le_of_ble_eq_true rfl) dX8_init_72 (fun q10 H M => ?_)
  have M : nM E A s H locs (w1 ++ [(b, .inr (8, [.ref a1, .ref a2, .ref a3, .ref a4, .ref a5, .ref a6, .int 0, .ref (g8 0), .ref a9, .int 0, .int 0, .null, .null, .int 0, .int 0])), (a1, .inl (E.2.1 0, 6, .inl (fun _ => 0))), (a2, .inl (E.2.1 0, 40, .inl (fun _ => 0))), (a3, .inl (E.2.1 0, 40, .inl (fun _ => 0))), (a4, .inl (E.2.1 0, 40, .inl (fun _ => 0))), (a5, .inl (E.2.1 0, 40, .inl (fun _ => 0))), (a6, .inl (E.2.1 0, 40, .inl (fun _ => 0))), (a9, .inl (E.2.1 2, 40, .inl (fun _ => 0))), (q10, .inr (0, [.null]))]) := M
  refine W.widen (k := 10) (n := 504) (Nat.le_of_ble_eq_true rfl) (Nat.le_of_ble_eq_true rfl) ?_
  refine lv_dup C.1 C.2.1 dX8_init_75 rfl ?_
  have M : nM E A s H locs ((w1 ++ [(b, .inr (8, [.ref a1, .ref a2, .ref a3, .ref a4, .ref a5, .ref a6, .int 0, .ref (g8 0), .ref a9, .int 0, .int 0, .null, .null, .int 0, .int 0])), (a1, .inl (E.2.1 0, 6, .inl (fun _ => 0))), (a2, .inl (E.2.1 0, 40, .inl (fun _ => 0))), (a3, .inl (E.2.1 0, 40, .inl (fun _ => 0))), (a4, .inl (E.2.1 0, 40, .inl (fun _ => 0))), (a5, .inl (E.2.1 0, 40, .inl (fun _ => 0))), (a6, .inl (E.2.1 0, 40, .inl (fun _ => 0))), (a9, .inl (E.2.1 2, 40, .inl (fun _ => 0)))]) ++ [(q10, .inr (0, [.null]))]) := by rw [List.append_assoc]; exact M
  refine n_callI (As := []) (rest := [.ref q10, .ref b]) C M (k_Bounds l E (w1 ++ [(b, .inr (8, [.ref a1, .ref a2, .ref a3, .ref a4, .ref a5, .ref a6, .int 0, .ref (g8 0), .ref a9, .int 0, .int 0, .null, .null, .int 0, .int 0])), (a1, .inl (E.2.1 0, 6, .inl (fun _ => 0))), (a2, .inl (E.2.1 0, 40, .inl (fun _ => 0))), (a3, .inl (E.2.1 0, 40, .inl (fun _ => 0))), (a4, .inl (E.2.1 0, 40, .inl (fun _ => 0))), (a5, .inl (E.2.1 0, 40, .inl (fun _ => 0))), (a6, .inl (E.2.1 0, 40, .inl (fun _ => 0))), (a9, .inl (E.2.1 2, 40, .inl (fun _ => 0)))]) q10) clX0_init imX0_init lk8_32 rfl rfl ⟨Nat.le_of_ble_eq_true rfl, Nat.le_of_ble_eq_true rfl⟩ hl.1 rfl (Nat.le_of_ble_eq_true rfl) dX8_init_76 ⟨Nat.le_of_ble_eq_true rfl, Nat.le_of_ble_eq_true rfl⟩ (fun ws H locs hR Mg11 => ?_)
  obtain ⟨g11, hg11, rfl⟩ := hR
  subst hg11
  refine W.widen (k := 11) (n := 760) (Nat.le_of_ble_eq_true rfl) (Nat.le_of_ble_eq_true rfl) ?_
  have M := n_bury Mg11
  generalize hw2 : w1 ++ wBounds E g11 0 = w2 at M
  refine n_put C hin M 0 rfl (T := TX8) rfl 11 (by decide) (List.mem_of_getElem? (i := 93) (by decide +kernel)) (v := .ref (g11 0)) rfl rfl rfl (Nat.le_of_ble_eq_true rfl) dX8_init_79 (fun H locs M => ?_)
  have M : nM E A s H locs (w2 ++ [(b, .inr (8, [.ref a1, .ref a2, .ref a3, .ref a4, .ref a5, .ref a6, .int 0, .ref (g8 0), .ref a9, .int 0, .int 0, .ref (g11 0), .null, .int 0, .int 0])), (a1, .inl (E.2.1 0, 6, .inl (fun _ => 0))), (a2, .inl (E.2.1 0, 40, .inl (fun _ => 0))), (a3, .inl (E.2.1 0, 40, .inl (fun _ => 0))), (a4, .inl (E.2.1 0, 40, .inl (fun _ => 0))), (a5, .inl (E.2.1 0, 40, .inl (fun _ => 0))), (a6, .inl (E.2.1 0, 40, .inl (fun _ => 0))), (a9, .inl (E.2.1 2, 40, .inl (fun _ => 0)))]) := M
  refine lv_aload_n C.1 C.2.1 dX8_init_82 rfl (lv_at hl 0 rfl) ?_
  refine lv_bipush (v := 40) C.1 C.2.1 dX8_init_83 (by decide) ?_
  refine n_arz (k := 40) C M (by decide) (by decide) (by decide) (Nat.le_of_ble_eq_true rfl) (Nat.le_of_ble_eq_true rfl) dX8_init_85 (fun a12 H M => ?_)
  have M : nM E A s H locs (w2 ++ [(b, .inr (8, [.ref a1, .ref a2, .ref a3, .ref a4, .ref a5, .ref a6, .int 0, .ref (g8 0), .ref a9, .int 0, .int 0, .ref (g11 0), .null, .int 0, .int 0])), (a1, .inl (E.2.1 0, 6, .inl (fun _ => 0))), (a2, .inl (E.2.1 0, 40, .inl (fun _ => 0))), (a3, .inl (E.2.1 0, 40, .inl (fun _ => 0))), (a4, .inl (E.2.1 0, 40, .inl (fun _ => 0))), (a5, .inl (E.2.1 0, 40, .inl (fun _ => 0))), (a6, .inl (E.2.1 0, 40, .inl (fun _ => 0))), (a9, .inl (E.2.1 2, 40, .inl (fun _ => 0))), (a12, .inl (E.2.1 2, 40, .inl (fun _ => 0)))]) := M
  refine W.widen (k := 12) (n := 800) (Nat.le_of_ble_eq_true rfl) (Nat.le_of_ble_eq_true rfl) ?_
  refine n_put C hin M 0 rfl (T := TX8) rfl 12 (by decide) (List.mem_of_getElem? (i := 94) (by decide +kernel)) (v := .ref a12) rfl rfl rfl (Nat.le_of_ble_eq_true rfl) dX8_init_87 (fun H locs M => ?_)
  have M : nM E A s H locs (w2 ++ [(b, .inr (8, [.ref a1, .ref a2, .ref a3, .ref a4, .ref a5, .ref a6, .int 0, .ref (g8 0), .ref a9, .int 0, .int 0, .ref (g11 0), .ref a12, .int 0, .int 0])), (a1, .inl (E.2.1 0, 6, .inl (fun _ => 0))), (a2, .inl (E.2.1 0, 40, .inl (fun _ => 0))), (a3, .inl (E.2.1 0, 40, .inl (fun _ => 0))), (a4, .inl (E.2.1 0, 40, .inl (fun _ => 0))), (a5, .inl (E.2.1 0, 40, .inl (fun _ => 0))), (a6, .inl (E.2.1 0, 40, .inl (fun _ => 0))), (a9, .inl (E.2.1 2, 40, .inl (fun _ => 0))), (a12, .inl (E.2.1 2, 40, .inl (fun _ => 0)))]) := M
  refine lv_aload_n C.1 C.2.1 dX8_init_90 rfl (lv_at hl 0 rfl) ?_
  refine n_get C M 0 rfl (T := TX8) rfl 0 (by decide) (List.mem_of_getElem? (i := 81) (by decide +kernel)) (v := .ref a1) rfl dX8_init_91 ?_
  refine lv_iconst (v := 5) C.1 C.2.1 dX8_init_94 (by decide) ?_
  refine n_callS (As := [.ref a1, .int 5]) (rest := []) C M (n_fill l E w2 [(b, .inr (8, [.ref a1, .ref a2, .ref a3, .ref a4, .ref a5, .ref a6, .int 0, .ref (g8 0), .ref a9, .int 0, .int 0, .ref (g11 0), .ref a12, .int 0, .int 0])), (a1, .inl (E.2.1 0, 6, .inl (fun _ => 0))), (a2, .inl (E.2.1 0, 40, .inl (fun _ => 0))), (a3, .inl (E.2.1 0, 40, .inl (fun _ => 0))), (a4, .inl (E.2.1 0, 40, .inl (fun _ => 0))), (a5, .inl (E.2.1 0, 40, .inl (fun _ => 0))), (a6, .inl (E.2.1 0, 40, .inl (fun _ => 0))), (a9, .inl (E.2.1 2, 40, .inl (fun _ => 0))), (a12, .inl (E.2.1 2, 40, .inl (fun _ => 0)))] 1 rfl (by decide) 5) clJ7_fill_53178 stJ7_fill_53178 lk8_47 rfl ⟨Nat.le_of_ble_eq_true rfl, Nat.le_of_ble_eq_true rfl⟩ hl.1 rfl (Nat.le_of_ble_eq_true rfl) dX8_init_95 ⟨Nat.le_of_ble_eq_true rfl, Nat.le_of_ble_eq_true rfl⟩ (fun ws H locs hR M => ?_)
  subst hR
  refine W.widen (k := 12) (n := 800) (Nat.le_of_ble_eq_true rfl) (Nat.le_of_ble_eq_true rfl) ?_
  have M : nM E A s H locs (w2 ++ [(b, .inr (8, [.ref a1, .ref a2, .ref a3, .ref a4, .ref a5, .ref a6, .int 0, .ref (g8 0), .ref a9, .int 0, .int 0, .ref (g11 0), .ref a12, .int 0, .int 0])), (a1, .inl (E.2.1 0, 6, .inl (pre (fun _ => 5) (fun _ => 0) 6))), (a2, .inl (E.2.1 0, 40, .inl (fun _ => 0))), (a3, .inl (E.2.1 0, 40, .inl (fun _ => 0))), (a4, .inl (E.2.1 0, 40, .inl (fun _ => 0))), (a5, .inl (E.2.1 0, 40, .inl (fun _ => 0))), (a6, .inl (E.2.1 0, 40, .inl (fun _ => 0))), (a9, .inl (E.2.1 2, 40, .inl (fun _ => 0))), (a12, .inl (E.2.1 2, 40, .inl (fun _ => 0)))]) := M
  obtain ⟨G, hG⟩ : ∃ G : Nat → Nat, G = nth [b, a1, a2, a3, a4, a5, a6, a9, a12, g8 0, g8 1, g11 0, g11 1] := ⟨_, rfl⟩
  refine n_vret C M hr hlk ⟨G, by rw [hG]; rfl, ?_⟩ (Nat.le_of_ble_eq_true rfl) (Nat.le_of_ble_eq_true rfl) dX8_init_98
  rw [← hw2, ← hw1]
  try simp only [List.append_assoc]
  subst hG
  rfl
def wJudg (E : hEnv) (g : Nat → Nat) (o : Nat) : va_W := wPart E g (o + 4) ++ (wPart E g (o + 6) ++ (wPart E g (o + 8) ++ (wPart E g (o + 10) ++ (wPart E g (o + 12) ++ (wPart E g (o + 14) ++ (wPart E g (o + 16) ++ (wPart E g (o + 18) ++ ([(g (o + 0), .inr (4, [.ref (g (o + 1)), .ref (g (o + 2)), .ref (g (o + 3)), .int (-1), .int 0, .int 0, .long 0, .long 0, .long 0, .int 0, .long 0])), (g (o + 1), .inl (E.2.1 0, 40, .inl (fun _ => 0))), (g (o + 2), .inl (E.2.1 0, 40, .inl (fun _ => 0))), (g (o + 3), .inl (E.2.1 8, 8, .inr (.inr (.inr (.inr (fun i => if i < 8 then some (g (o + (4 + 2 * i))) else none))))))]))))))))
set_option maxHeartbeats 4000000 in
set_option maxRecDepth 100000 in
theorem k_Judg (l : Launch) (E : hEnv) (w0 : va_W) (b : Nat) : nMet l yX4_init cX4_init 2 (2, 19, 648, 40) E (w0 ++ [(b, .inr (4, [.null, .null, .null, .int 0, .int 0, .int 0, .long 0, .long 0, .long 0, .int 0, .long 0]))]) [.ref b] (fun ws => ∃ g : Nat → Nat, g 0 = b ∧ ws = w0 ++ wJudg E g 0) := by
  refine nMet.of (by decide) (Nat.le_of_ble_eq_true rfl) (fun p e s m below meth c A ls C M hr hlk hin hl => ?_)
  have hin : meth.name = "<init>" := hin
  have hl : lv_has ls 2 [(0, .ref b)] := hl
  generalize hH : s.heap = H at M ⊢
  generalize hlocs : ([] : List Loc) = locs at M ⊢
  have M : nM E A s H locs (w0 ++ [(b, .inr (4, [.null, .null, .null, .int 0, .int 0, .int 0, .long 0, .long 0, .long 0, .int 0, .long 0]))]) := M
  refine lv_aload_n C.1 C.2.1 dX4_init_0 rfl (lv_at hl 0 rfl) ?_
  refine n_obj (rest := []) C lo4_3 hl.1 (Nat.le_of_ble_eq_true rfl) (Nat.le_of_ble_eq_true rfl) (Nat.le_of_ble_eq_true rfl) dX4_init_1 ?_
  refine lv_aload_n C.1 C.2.1 dX4_init_4 rfl (lv_at hl 0 rfl) ?_
  refine lv_bipush (v := 40) C.1 C.2.1 dX4_init_5 (by decide) ?_
  refine n_ari (k := 40) C M (by decide) (by decide) (by decide) (Nat.le_of_ble_eq_true rfl) (Nat.le_of_ble_eq_true rfl) dX4_init_7 (fun a1 H M => ?_)
  have M : nM E A s H locs (w0 ++ [(b, .inr (4, [.null, .null, .null, .int 0, .int 0, .int 0, .long 0, .long 0, .long 0, .int 0, .long 0])), (a1, .inl (E.2.1 0, 40, .inl (fun _ => 0)))]) := M
  refine W.widen (k := 1) (n := 40) (Nat.le_of_ble_eq_true rfl) (Nat.le_of_ble_eq_true rfl) ?_
  refine n_put C hin M 0 rfl (T := TX4) rfl 0 (by decide) (List.mem_of_getElem? (i := 297) (by decide +kernel)) (v := .ref a1) rfl rfl rfl (Nat.le_of_ble_eq_true rfl) dX4_init_9 (fun H locs M => ?_)
  have M : nM E A s H locs (w0 ++ [(b, .inr (4, [.ref a1, .null, .null, .int 0, .int 0, .int 0, .long 0, .long 0, .long 0, .int 0, .long 0])), (a1, .inl (E.2.1 0, 40, .inl (fun _ => 0)))]) := M
  refine lv_aload_n C.1 C.2.1 dX4_init_12 rfl (lv_at hl 0 rfl) ?_
  refine lv_bipush (v := 40) C.1 C.2.1 dX4_init_13 (by decide) ?_
  refine n_ari (k := 40) C M (by decide) (by decide) (by decide) (Nat.le_of_ble_eq_true rfl) (Nat.le_of_ble_eq_true rfl) dX4_init_15 (fun a2 H M => ?_)
  have M : nM E A s H locs (w0 ++ [(b, .inr (4, [.ref a1, .null, .null, .int 0, .int 0, .int 0, .long 0, .long 0, .long 0, .int 0, .long 0])), (a1, .inl (E.2.1 0, 40, .inl (fun _ => 0))), (a2, .inl (E.2.1 0, 40, .inl (fun _ => 0)))]) := M
  refine W.widen (k := 2) (n := 80) (Nat.le_of_ble_eq_true rfl) (Nat.le_of_ble_eq_true rfl) ?_
  refine n_put C hin M 0 rfl (T := TX4) rfl 1 (by decide) (List.mem_of_getElem? (i := 299) (by decide +kernel)) (v := .ref a2) rfl rfl rfl (Nat.le_of_ble_eq_true rfl) dX4_init_17 (fun H locs M => ?_)
  have M : nM E A s H locs (w0 ++ [(b, .inr (4, [.ref a1, .ref a2, .null, .int 0, .int 0, .int 0, .long 0, .long 0, .long 0, .int 0, .long 0])), (a1, .inl (E.2.1 0, 40, .inl (fun _ => 0))), (a2, .inl (E.2.1 0, 40, .inl (fun _ => 0)))]) := M
  refine lv_aload_n C.1 C.2.1 dX4_init_20 rfl (lv_at hl 0 rfl) ?_
  refine lv_bipush (v := 8) C.1 C.2.1 dX4_init_21 (by decide) ?_
  refine n_arq (k := 8) C M 8 rfl C.2.2.2.2.2.2.2.1 lc4_18 (by decide) (by decide) (by decide) (Nat.le_of_ble_eq_true rfl) (Nat.le_of_ble_eq_true rfl) dX4_init_23 (fun a3 H M => ?_)
  have M : nM E A s H locs (w0 ++ [(b, .inr (4, [.ref a1, .ref a2, .null, .int 0, .int 0, .int 0, .long 0, .long 0, .long 0, .int 0, .long 0])), (a1, .inl (E.2.1 0, 40, .inl (fun _ => 0))), (a2, .inl (E.2.1 0, 40, .inl (fun _ => 0))), (a3, .inl (E.2.1 8, 8, .inr (.inr (.inr (.inr (fun _ => none))))))]) := M
  refine W.widen (k := 3) (n := 88) (Nat.le_of_ble_eq_true rfl) (Nat.le_of_ble_eq_true rfl) ?_
  refine n_put C hin M 0 rfl (T := TX4) rfl 2 (by decide) (List.mem_of_getElem? (i := 301) (by decide +kernel)) (v := .ref a3) rfl rfl rfl (Nat.le_of_ble_eq_true rfl) dX4_init_26 (fun H locs M => ?_)
  have M : nM E A s H locs (w0 ++ [(b, .inr (4, [.ref a1, .ref a2, .ref a3, .int 0, .int 0, .int 0, .long 0, .long 0, .long 0, .int 0, .long 0])), (a1, .inl (E.2.1 0, 40, .inl (fun _ => 0))), (a2, .inl (E.2.1 0, 40, .inl (fun _ => 0))), (a3, .inl (E.2.1 8, 8, .inr (.inr (.inr (.inr (fun _ => none))))))]) := M
  refine lv_aload_n C.1 C.2.1 dX4_init_29 rfl (lv_at hl 0 rfl) ?_
  refine lv_iconst (v := -1) C.1 C.2.1 dX4_init_30 (by decide) ?_
  refine n_put C hin M 0 rfl (T := TX4) rfl 3 (by decide) (List.mem_of_getElem? (i := 303) (by decide +kernel)) (v := .int (-1)) rfl rfl rfl (Nat.le_of_ble_eq_true rfl) dX4_init_31 (fun H locs M => ?_)
  have M : nM E A s H locs (w0 ++ [(b, .inr (4, [.ref a1, .ref a2, .ref a3, .int (-1), .int 0, .int 0, .long 0, .long 0, .long 0, .int 0, .long 0])), (a1, .inl (E.2.1 0, 40, .inl (fun _ => 0))), (a2, .inl (E.2.1 0, 40, .inl (fun _ => 0))), (a3, .inl (E.2.1 8, 8, .inr (.inr (.inr (.inr (fun _ => none))))))]) := M
  refine lv_iconst (v := 0) C.1 C.2.1 dX4_init_34 (by decide) ?_
  refine lv_istore_n (lv' := [(1, .int 0), (0, .ref b)]) C.1 C.2.1 dX4_init_35 rfl hl (by decide) rfl (fun ls hl => ?_)
  refine lv_iload_n C.1 C.2.1 dX4_init_36 rfl (lv_at hl 0 rfl) ?_
  refine lv_bipush (v := 8) C.1 C.2.1 dX4_init_37 (by decide) ?_
  refine lv_icmp_ge (tgt := 61) C.1 C.2.1 dX4_init_39 (by decide) (fun c9 => absurd c9 (by decide)) (fun _ => ?_)
  refine lv_aload_n C.1 C.2.1 dX4_init_42 rfl (lv_at hl 1 rfl) ?_
  refine n_get C M 0 rfl (T := TX4) rfl 2 (by decide) (List.mem_of_getElem? (i := 301) (by decide +kernel)) (v := .ref a3) rfl dX4_init_43 ?_
  refine lv_iload_n C.1 C.2.1 dX4_init_46 rfl (lv_at hl 0 rfl) ?_
  refine n_new (ci := 6) C M rfl lc4_18 in6 ini6 [.null, .long 0, .long 0, .long 0, .long 0, .long 0, .long 0, .long 0, .long 0, .int 0] df_6 (Nat.le_of_ble_eq_true rfl) (Nat.le_of_ble_eq_true rfl) dX4_init_47 (fun q4 H M => ?_)
  have M : nM E A s H locs (w0 ++ [(b, .inr (4, [.ref a1, .ref a2, .ref a3, .int (-1), .int 0, .int 0, .long 0, .long 0, .long 0, .int 0, .long 0])), (a1, .inl (E.2.1 0, 40, .inl (fun _ => 0))), (a2, .inl (E.2.1 0, 40, .inl (fun _ => 0))), (a3, .inl (E.2.1 8, 8, .inr (.inr (.inr (.inr (fun _ => none)))))), (q4, .inr (6, [.null, .long 0, .long 0, .long 0, .long 0, .long 0, .long 0, .long 0, .long 0, .int 0]))]) := M
  refine W.widen (k := 4) (n := 98) (Nat.le_of_ble_eq_true rfl) (Nat.le_of_ble_eq_true rfl) ?_
  refine lv_dup C.1 C.2.1 dX4_init_50 rfl ?_
  have M : nM E A s H locs ((w0 ++ [(b, .inr (4, [.ref a1, .ref a2, .ref a3, .int (-1), .int 0, .int 0, .long 0, .long 0, .long 0, .int 0, .long 0])), (a1, .inl (E.2.1 0, 40, .inl (fun _ => 0))), (a2, .inl (E.2.1 0, 40, .inl (fun _ => 0))), (a3, .inl (E.2.1 8, 8, .inr (.inr (.inr (.inr (fun _ => none))))))]) ++ [(q4, .inr (6, [.null, .long 0, .long 0, .long 0, .long 0, .long 0, .long 0, .long 0, .long 0, .int 0]))]) := by rw [List.append_assoc]; exact M
  refine n_callI (As := []) (rest := [.ref q4, .int 0, .ref a3]) C M (k_Part l E (w0 ++ [(b, .inr (4, [.ref a1, .ref a2, .ref a3, .int (-1), .int 0, .int 0, .long 0, .long 0, .long 0, .int 0, .long 0])), (a1, .inl (E.2.1 0, 40, .inl (fun _ => 0))), (a2, .inl (E.2.1 0, 40, .inl (fun _ => 0))), (a3, .inl (E.2.1 8, 8, .inr (.inr (.inr (.inr (fun _ => none))))))]) q4) clX6_init imX6_init lk4_28 rfl rfl ⟨Nat.le_of_ble_eq_true rfl, Nat.le_of_ble_eq_true rfl⟩ hl.1 rfl (Nat.le_of_ble_eq_true rfl) dX4_init_51 ⟨Nat.le_of_ble_eq_true rfl, Nat.le_of_ble_eq_true rfl⟩ (fun ws H locs hR Mg5 => ?_)
  obtain ⟨g5, hg5, rfl⟩ := hR
  subst hg5
  refine W.widen (k := 5) (n := 158) (Nat.le_of_ble_eq_true rfl) (Nat.le_of_ble_eq_true rfl) ?_
  have M := n_bury Mg5
  refine n_astq C M 3 (w0.length + 0) 8 rfl rfl (nS_at (by rfl)) (ci := 6) rfl (x := 0) (by unfold vp_in; decide) dX4_init_54 (fun H locs M => ?_)
  have M : nM E A s H locs ((w0 ++ wPart E g5 0) ++ [(b, .inr (4, [.ref a1, .ref a2, .ref a3, .int (-1), .int 0, .int 0, .long 0, .long 0, .long 0, .int 0, .long 0])), (a1, .inl (E.2.1 0, 40, .inl (fun _ => 0))), (a2, .inl (E.2.1 0, 40, .inl (fun _ => 0))), (a3, .inl (E.2.1 8, 8, .inr (.inr (.inr (.inr (va_up (fun _ => none) 0 (some (g5 0))))))))]) := M
  generalize hw1 : w0 ++ wPart E g5 0 = w1 at M
  refine lv_iinc (v := 1) (lv' := [(1, .int 1), (0, .ref b)]) C.1 C.2.1 dX4_init_55 hl (k := 0) rfl (by decide) (by decide) rfl (fun ls hl => ?_)
  refine lv_goto (tgt := 36) C.1 C.2.1 dX4_init_58 (by decide) ?_
  refine lv_iload_n C.1 C.2.1 dX4_init_36 rfl (lv_at hl 0 rfl) ?_
  refine lv_bipush (v := 8) C.1 C.2.1 dX4_init_37 (by decide) ?_
  refine lv_icmp_ge (tgt := 61) C.1 C.2.1 dX4_init_39 (by decide) (fun c9 => absurd c9 (by decide)) (fun _ => ?_)
  refine lv_aload_n C.1 C.2.1 dX4_init_42 rfl (lv_at hl 1 rfl) ?_
  refine n_get C M 0 rfl (T := TX4) rfl 2 (by decide) (List.mem_of_getElem? (i := 301) (by decide +kernel)) (v := .ref a3) rfl dX4_init_43 ?_
  refine lv_iload_n C.1 C.2.1 dX4_init_46 rfl (lv_at hl 0 rfl) ?_
  refine n_new (ci := 6) C M rfl lc4_18 in6 ini6 [.null, .long 0, .long 0, .long 0, .long 0, .long 0, .long 0, .long 0, .long 0, .int 0] df_6 (Nat.le_of_ble_eq_true rfl) (Nat.le_of_ble_eq_true rfl) dX4_init_47 (fun q6 H M => ?_)
  have M : nM E A s H locs (w1 ++ [(b, .inr (4, [.ref a1, .ref a2, .ref a3, .int (-1), .int 0, .int 0, .long 0, .long 0, .long 0, .int 0, .long 0])), (a1, .inl (E.2.1 0, 40, .inl (fun _ => 0))), (a2, .inl (E.2.1 0, 40, .inl (fun _ => 0))), (a3, .inl (E.2.1 8, 8, .inr (.inr (.inr (.inr (va_up (fun _ => none) 0 (some (g5 0)))))))), (q6, .inr (6, [.null, .long 0, .long 0, .long 0, .long 0, .long 0, .long 0, .long 0, .long 0, .int 0]))]) := M
  refine W.widen (k := 6) (n := 168) (Nat.le_of_ble_eq_true rfl) (Nat.le_of_ble_eq_true rfl) ?_
  refine lv_dup C.1 C.2.1 dX4_init_50 rfl ?_
  have M : nM E A s H locs ((w1 ++ [(b, .inr (4, [.ref a1, .ref a2, .ref a3, .int (-1), .int 0, .int 0, .long 0, .long 0, .long 0, .int 0, .long 0])), (a1, .inl (E.2.1 0, 40, .inl (fun _ => 0))), (a2, .inl (E.2.1 0, 40, .inl (fun _ => 0))), (a3, .inl (E.2.1 8, 8, .inr (.inr (.inr (.inr (va_up (fun _ => none) 0 (some (g5 0))))))))]) ++ [(q6, .inr (6, [.null, .long 0, .long 0, .long 0, .long 0, .long 0, .long 0, .long 0, .long 0, .int 0]))]) := by rw [List.append_assoc]; exact M
  refine n_callI (As := []) (rest := [.ref q6, .int 1, .ref a3]) C M (k_Part l E (w1 ++ [(b, .inr (4, [.ref a1, .ref a2, .ref a3, .int (-1), .int 0, .int 0, .long 0, .long 0, .long 0, .int 0, .long 0])), (a1, .inl (E.2.1 0, 40, .inl (fun _ => 0))), (a2, .inl (E.2.1 0, 40, .inl (fun _ => 0))), (a3, .inl (E.2.1 8, 8, .inr (.inr (.inr (.inr (va_up (fun _ => none) 0 (some (g5 0))))))))]) q6) clX6_init imX6_init lk4_28 rfl rfl ⟨Nat.le_of_ble_eq_true rfl, Nat.le_of_ble_eq_true rfl⟩ hl.1 rfl (Nat.le_of_ble_eq_true rfl) dX4_init_51 ⟨Nat.le_of_ble_eq_true rfl, Nat.le_of_ble_eq_true rfl⟩ (fun ws H locs hR Mg7 => ?_)
  obtain ⟨g7, hg7, rfl⟩ := hR
  subst hg7
  refine W.widen (k := 7) (n := 228) (Nat.le_of_ble_eq_true rfl) (Nat.le_of_ble_eq_true rfl) ?_
  have M := n_bury Mg7
  refine n_astq C M 3 (w1.length + 0) 8 rfl rfl (nS_at (by rfl)) (ci := 6) rfl (x := 1) (by unfold vp_in; decide) dX4_init_54 (fun H locs M => ?_)
  have M : nM E A s H locs ((w1 ++ wPart E g7 0) ++ [(b, .inr (4, [.ref a1, .ref a2, .ref a3, .int (-1), .int 0, .int 0, .long 0, .long 0, .long 0, .int 0, .long 0])), (a1, .inl (E.2.1 0, 40, .inl (fun _ => 0))), (a2, .inl (E.2.1 0, 40, .inl (fun _ => 0))), (a3, .inl (E.2.1 8, 8, .inr (.inr (.inr (.inr (va_up (va_up (fun _ => none) 0 (some (g5 0))) 1 (some (g7 0))))))))]) := M
  generalize hw2 : w1 ++ wPart E g7 0 = w2 at M
  refine lv_iinc (v := 2) (lv' := [(1, .int 2), (0, .ref b)]) C.1 C.2.1 dX4_init_55 hl (k := 0) rfl (by decide) (by decide) rfl (fun ls hl => ?_)
  refine lv_goto (tgt := 36) C.1 C.2.1 dX4_init_58 (by decide) ?_
  refine lv_iload_n C.1 C.2.1 dX4_init_36 rfl (lv_at hl 0 rfl) ?_
  refine lv_bipush (v := 8) C.1 C.2.1 dX4_init_37 (by decide) ?_
  refine lv_icmp_ge (tgt := 61) C.1 C.2.1 dX4_init_39 (by decide) (fun c9 => absurd c9 (by decide)) (fun _ => ?_)
  refine lv_aload_n C.1 C.2.1 dX4_init_42 rfl (lv_at hl 1 rfl) ?_
  refine n_get C M 0 rfl (T := TX4) rfl 2 (by decide) (List.mem_of_getElem? (i := 301) (by decide +kernel)) (v := .ref a3) rfl dX4_init_43 ?_
  refine lv_iload_n C.1 C.2.1 dX4_init_46 rfl (lv_at hl 0 rfl) ?_
  refine n_new (ci := 6) C M rfl lc4_18 in6 ini6 [.null, .long 0, .long 0, .long 0, .long 0, .long 0, .long 0, .long 0, .long 0, .int 0] df_6 (Nat.le_of_ble_eq_true rfl) (Nat.le_of_ble_eq_true rfl) dX4_init_47 (fun q8 H M => ?_)
  have M : nM E A s H locs (w2 ++ [(b, .inr (4, [.ref a1, .ref a2, .ref a3, .int (-1), .int 0, .int 0, .long 0, .long 0, .long 0, .int 0, .long 0])), (a1, .inl (E.2.1 0, 40, .inl (fun _ => 0))), (a2, .inl (E.2.1 0, 40, .inl (fun _ => 0))), (a3, .inl (E.2.1 8, 8, .inr (.inr (.inr (.inr (va_up (va_up (fun _ => none) 0 (some (g5 0))) 1 (some (g7 0)))))))), (q8, .inr (6, [.null, .long 0, .long 0, .long 0, .long 0, .long 0, .long 0, .long 0, .long 0, .int 0]))]) := M
  refine W.widen (k := 8) (n := 238) (Nat.le_of_ble_eq_true rfl) (Nat.le_of_ble_eq_true rfl) ?_
  refine lv_dup C.1 C.2.1 dX4_init_50 rfl ?_
  have M : nM E A s H locs ((w2 ++ [(b, .inr (4, [.ref a1, .ref a2, .ref a3, .int (-1), .int 0, .int 0, .long 0, .long 0, .long 0, .int 0, .long 0])), (a1, .inl (E.2.1 0, 40, .inl (fun _ => 0))), (a2, .inl (E.2.1 0, 40, .inl (fun _ => 0))), (a3, .inl (E.2.1 8, 8, .inr (.inr (.inr (.inr (va_up (va_up (fun _ => none) 0 (some (g5 0))) 1 (some (g7 0))))))))]) ++ [(q8, .inr (6, [.null, .long 0, .long 0, .long 0, .long 0, .long 0, .long 0, .long 0, .long 0, .int 0]))]) := by rw [List.append_assoc]; exact M
  refine n_callI (As := []) (rest := [.ref q8, .int 2, .ref a3]) C M (k_Part l E (w2 ++ [(b, .inr (4, [.ref a1, .ref a2, .ref a3, .int (-1), .int 0, .int 0, .long 0, .long 0, .long 0, .int 0, .long 0])), (a1, .inl (E.2.1 0, 40, .inl (fun _ => 0))), (a2, .inl (E.2.1 0, 40, .inl (fun _ => 0))), (a3, .inl (E.2.1 8, 8, .inr (.inr (.inr (.inr (va_up (va_up (fun _ => none) 0 (some (g5 0))) 1 (some (g7 0))))))))]) q8) clX6_init imX6_init lk4_28 rfl rfl ⟨Nat.le_of_ble_eq_true rfl, Nat.le_of_ble_eq_true rfl⟩ hl.1 rfl (Nat.le_of_ble_eq_true rfl) dX4_init_51 ⟨Nat.le_of_ble_eq_true rfl, Nat.le_of_ble_eq_true rfl⟩ (fun ws H locs hR Mg9 => ?_)
  obtain ⟨g9, hg9, rfl⟩ := hR
  subst hg9
  refine W.widen (k := 9) (n := 298) (Nat.le_of_ble_eq_true rfl) (Nat.le_of_ble_eq_true rfl) ?_
  have M := n_bury Mg9
  refine n_astq C M 3 (w2.length + 0) 8 rfl rfl (nS_at (by rfl)) (ci := 6) rfl (x := 2) (by unfold vp_in; decide) dX4_init_54 (fun H locs M => ?_)
  have M : nM E A s H locs ((w2 ++ wPart E g9 0) ++ [(b, .inr (4, [.ref a1, .ref a2, .ref a3, .int (-1), .int 0, .int 0, .long 0, .long 0, .long 0, .int 0, .long 0])), (a1, .inl (E.2.1 0, 40, .inl (fun _ => 0))), (a2, .inl (E.2.1 0, 40, .inl (fun _ => 0))), (a3, .inl (E.2.1 8, 8, .inr (.inr (.inr (.inr (va_up (va_up (va_up (fun _ => none) 0 (some (g5 0))) 1 (some (g7 0))) 2 (some (g9 0))))))))]) := M
  generalize hw3 : w2 ++ wPart E g9 0 = w3 at M
  refine lv_iinc (v := 3) (lv' := [(1, .int 3), (0, .ref b)]) C.1 C.2.1 dX4_init_55 hl (k := 0) rfl (by decide) (by decide) rfl (fun ls hl => ?_)
  refine lv_goto (tgt := 36) C.1 C.2.1 dX4_init_58 (by decide) ?_
  refine lv_iload_n C.1 C.2.1 dX4_init_36 rfl (lv_at hl 0 rfl) ?_
  refine lv_bipush (v := 8) C.1 C.2.1 dX4_init_37 (by decide) ?_
  refine lv_icmp_ge (tgt := 61) C.1 C.2.1 dX4_init_39 (by decide) (fun c9 => absurd c9 (by decide)) (fun _ => ?_)
  refine lv_aload_n C.1 C.2.1 dX4_init_42 rfl (lv_at hl 1 rfl) ?_
  refine n_get C M 0 rfl (T := TX4) rfl 2 (by decide) (List.mem_of_getElem? (i := 301) (by decide +kernel)) (v := .ref a3) rfl dX4_init_43 ?_
  refine lv_iload_n C.1 C.2.1 dX4_init_46 rfl (lv_at hl 0 rfl) ?_
  refine n_new (ci := 6) C M rfl lc4_18 in6 ini6 [.null, .long 0, .long 0, .long 0, .long 0, .long 0, .long 0, .long 0, .long 0, .int 0] df_6 (Nat.le_of_ble_eq_true rfl) (Nat.le_of_ble_eq_true rfl) dX4_init_47 (fun q10 H M => ?_)
  have M : nM E A s H locs (w3 ++ [(b, .inr (4, [.ref a1, .ref a2, .ref a3, .int (-1), .int 0, .int 0, .long 0, .long 0, .long 0, .int 0, .long 0])), (a1, .inl (E.2.1 0, 40, .inl (fun _ => 0))), (a2, .inl (E.2.1 0, 40, .inl (fun _ => 0))), (a3, .inl (E.2.1 8, 8, .inr (.inr (.inr (.inr (va_up (va_up (va_up (fun _ => none) 0 (some (g5 0))) 1 (some (g7 0))) 2 (some (g9 0)))))))), (q10, .inr (6, [.null, .long 0, .long 0, .long 0, .long 0, .long 0, .long 0, .long 0, .long 0, .int 0]))]) := M
  refine W.widen (k := 10) (n := 308) (Nat.le_of_ble_eq_true rfl) (Nat.le_of_ble_eq_true rfl) ?_
  refine lv_dup C.1 C.2.1 dX4_init_50 rfl ?_
  have M : nM E A s H locs ((w3 ++ [(b, .inr (4, [.ref a1, .ref a2, .ref a3, .int (-1), .int 0, .int 0, .long 0, .long 0, .long 0, .int 0, .long 0])), (a1, .inl (E.2.1 0, 40, .inl (fun _ => 0))), (a2, .inl (E.2.1 0, 40, .inl (fun _ => 0))), (a3, .inl (E.2.1 8, 8, .inr (.inr (.inr (.inr (va_up (va_up (va_up (fun _ => none) 0 (some (g5 0))) 1 (some (g7 0))) 2 (some (g9 0))))))))]) ++ [(q10, .inr (6, [.null, .long 0, .long 0, .long 0, .long 0, .long 0, .long 0, .long 0, .long 0, .int 0]))]) := by rw [List.append_assoc]; exact M
  refine n_callI (As := []) (rest := [.ref q10, .int 3, .ref a3]) C M (k_Part l E (w3 ++ [(b, .inr (4, [.ref a1, .ref a2, .ref a3, .int (-1), .int 0, .int 0, .long 0, .long 0, .long 0, .int 0, .long 0])), (a1, .inl (E.2.1 0, 40, .inl (fun _ => 0))), (a2, .inl (E.2.1 0, 40, .inl (fun _ => 0))), (a3, .inl (E.2.1 8, 8, .inr (.inr (.inr (.inr (va_up (va_up (va_up (fun _ => none) 0 (some (g5 0))) 1 (some (g7 0))) 2 (some (g9 0))))))))]) q10) clX6_init imX6_init lk4_28 rfl rfl ⟨Nat.le_of_ble_eq_true rfl, Nat.le_of_ble_eq_true rfl⟩ hl.1 rfl (Nat.le_of_ble_eq_true rfl) dX4_init_51 ⟨Nat.le_of_ble_eq_true rfl, Nat.le_of_ble_eq_true rfl⟩ (fun ws H locs hR Mg11 => ?_)
  obtain ⟨g11, hg11, rfl⟩ := hR
  subst hg11
  refine W.widen (k := 11) (n := 368) (Nat.le_of_ble_eq_true rfl) (Nat.le_of_ble_eq_true rfl) ?_
  have M := n_bury Mg11
  refine n_astq C M 3 (w3.length + 0) 8 rfl rfl (nS_at (by rfl)) (ci := 6) rfl (x := 3) (by unfold vp_in; decide) dX4_init_54 (fun H locs M => ?_)
  have M : nM E A s H locs ((w3 ++ wPart E g11 0) ++ [(b, .inr (4, [.ref a1, .ref a2, .ref a3, .int (-1), .int 0, .int 0, .long 0, .long 0, .long 0, .int 0, .long 0])), (a1, .inl (E.2.1 0, 40, .inl (fun _ => 0))), (a2, .inl (E.2.1 0, 40, .inl (fun _ => 0))), (a3, .inl (E.2.1 8, 8, .inr (.inr (.inr (.inr (va_up (va_up (va_up (va_up (fun _ => none) 0 (some (g5 0))) 1 (some (g7 0))) 2 (some (g9 0))) 3 (some (g11 0))))))))]) := M
  generalize hw4 : w3 ++ wPart E g11 0 = w4 at M
  refine lv_iinc (v := 4) (lv' := [(1, .int 4), (0, .ref b)]) C.1 C.2.1 dX4_init_55 hl (k := 0) rfl (by decide) (by decide) rfl (fun ls hl => ?_)
  refine lv_goto (tgt := 36) C.1 C.2.1 dX4_init_58 (by decide) ?_
  refine lv_iload_n C.1 C.2.1 dX4_init_36 rfl (lv_at hl 0 rfl) ?_
  refine lv_bipush (v := 8) C.1 C.2.1 dX4_init_37 (by decide) ?_
  refine lv_icmp_ge (tgt := 61) C.1 C.2.1 dX4_init_39 (by decide) (fun c9 => absurd c9 (by decide)) (fun _ => ?_)
  refine lv_aload_n C.1 C.2.1 dX4_init_42 rfl (lv_at hl 1 rfl) ?_
  refine n_get C M 0 rfl (T := TX4) rfl 2 (by decide) (List.mem_of_getElem? (i := 301) (by decide +kernel)) (v := .ref a3) rfl dX4_init_43 ?_
  refine lv_iload_n C.1 C.2.1 dX4_init_46 rfl (lv_at hl 0 rfl) ?_
  refine n_new (ci := 6) C M rfl lc4_18 in6 ini6 [.null, .long 0, .long 0, .long 0, .long 0, .long 0, .long 0, .long 0, .long 0, .int 0] df_6 (Nat.le_of_ble_eq_true rfl) (Nat.le_of_ble_eq_true rfl) dX4_init_47 (fun q12 H M => ?_)
  have M : nM E A s H locs (w4 ++ [(b, .inr (4, [.ref a1, .ref a2, .ref a3, .int (-1), .int 0, .int 0, .long 0, .long 0, .long 0, .int 0, .long 0])), (a1, .inl (E.2.1 0, 40, .inl (fun _ => 0))), (a2, .inl (E.2.1 0, 40, .inl (fun _ => 0))), (a3, .inl (E.2.1 8, 8, .inr (.inr (.inr (.inr (va_up (va_up (va_up (va_up (fun _ => none) 0 (some (g5 0))) 1 (some (g7 0))) 2 (some (g9 0))) 3 (some (g11 0)))))))), (q12, .inr (6, [.null, .long 0, .long 0, .long 0, .long 0, .long 0, .long 0, .long 0, .long 0, .int 0]))]) := M
  refine W.widen (k := 12) (n := 378) (Nat.le_of_ble_eq_true rfl) (Nat.le_of_ble_eq_true rfl) ?_
  refine lv_dup C.1 C.2.1 dX4_init_50 rfl ?_
  have M : nM E A s H locs ((w4 ++ [(b, .inr (4, [.ref a1, .ref a2, .ref a3, .int (-1), .int 0, .int 0, .long 0, .long 0, .long 0, .int 0, .long 0])), (a1, .inl (E.2.1 0, 40, .inl (fun _ => 0))), (a2, .inl (E.2.1 0, 40, .inl (fun _ => 0))), (a3, .inl (E.2.1 8, 8, .inr (.inr (.inr (.inr (va_up (va_up (va_up (va_up (fun _ => none) 0 (some (g5 0))) 1 (some (g7 0))) 2 (some (g9 0))) 3 (some (g11 0))))))))]) ++ [(q12, .inr (6, [.null, .long 0, .long 0, .long 0, .long 0, .long 0, .long 0, .long 0, .long 0, .int 0]))]) := by rw [List.append_assoc]; exact M
  refine n_callI (As := []) (rest := [.ref q12, .int 4, .ref a3]) C M (k_Part l E (w4 ++ [(b, .inr (4, [.ref a1, .ref a2, .ref a3, .int (-1), .int 0, .int 0, .long 0, .long 0, .long 0, .int 0, .long 0])), (a1, .inl (E.2.1 0, 40, .inl (fun _ => 0))), (a2, .inl (E.2.1 0, 40, .inl (fun _ => 0))), (a3, .inl (E.2.1 8, 8, .inr (.inr (.inr (.inr (va_up (va_up (va_up (va_up (fun _ => none) 0 (some (g5 0))) 1 (some (g7 0))) 2 (some (g9 0))) 3 (some (g11 0))))))))]) q12) clX6_init imX6_init lk4_28 rfl rfl ⟨Nat.le_of_ble_eq_true rfl, Nat.le_of_ble_eq_true rfl⟩ hl.1 rfl (Nat.le_of_ble_eq_true rfl) dX4_init_51 ⟨Nat.le_of_ble_eq_true rfl, Nat.le_of_ble_eq_true rfl⟩ (fun ws H locs hR Mg13 => ?_)
  obtain ⟨g13, hg13, rfl⟩ := hR
  subst hg13
  refine W.widen (k := 13) (n := 438) (Nat.le_of_ble_eq_true rfl) (Nat.le_of_ble_eq_true rfl) ?_
  have M := n_bury Mg13
  refine n_astq C M 3 (w4.length + 0) 8 rfl rfl (nS_at (by rfl)) (ci := 6) rfl (x := 4) (by unfold vp_in; decide) dX4_init_54 (fun H locs M => ?_)
  have M : nM E A s H locs ((w4 ++ wPart E g13 0) ++ [(b, .inr (4, [.ref a1, .ref a2, .ref a3, .int (-1), .int 0, .int 0, .long 0, .long 0, .long 0, .int 0, .long 0])), (a1, .inl (E.2.1 0, 40, .inl (fun _ => 0))), (a2, .inl (E.2.1 0, 40, .inl (fun _ => 0))), (a3, .inl (E.2.1 8, 8, .inr (.inr (.inr (.inr (va_up (va_up (va_up (va_up (va_up (fun _ => none) 0 (some (g5 0))) 1 (some (g7 0))) 2 (some (g9 0))) 3 (some (g11 0))) 4 (some (g13 0))))))))]) := M
  generalize hw5 : w4 ++ wPart E g13 0 = w5 at M
  refine lv_iinc (v := 5) (lv' := [(1, .int 5), (0, .ref b)]) C.1 C.2.1 dX4_init_55 hl (k := 0) rfl (by decide) (by decide) rfl (fun ls hl => ?_)
  refine lv_goto (tgt := 36) C.1 C.2.1 dX4_init_58 (by decide) ?_
  refine lv_iload_n C.1 C.2.1 dX4_init_36 rfl (lv_at hl 0 rfl) ?_
  refine lv_bipush (v := 8) C.1 C.2.1 dX4_init_37 (by decide) ?_
  refine lv_icmp_ge (tgt := 61) C.1 C.2.1 dX4_init_39 (by decide) (fun c9 => absurd c9 (by decide)) (fun _ => ?_)
  refine lv_aload_n C.1 C.2.1 dX4_init_42 rfl (lv_at hl 1 rfl) ?_
  refine n_get C M 0 rfl (T := TX4) rfl 2 (by decide) (List.mem_of_getElem? (i := 301) (by decide +kernel)) (v := .ref a3) rfl dX4_init_43 ?_
  refine lv_iload_n C.1 C.2.1 dX4_init_46 rfl (lv_at hl 0 rfl) ?_
  refine n_new (ci := 6) C M rfl lc4_18 in6 ini6 [.null, .long 0, .long 0, .long 0, .long 0, .long 0, .long 0, .long 0, .long 0, .int 0] df_6 (Nat.le_of_ble_eq_true rfl) (Nat.le_of_ble_eq_true rfl) dX4_init_47 (fun q14 H M => ?_)
  have M : nM E A s H locs (w5 ++ [(b, .inr (4, [.ref a1, .ref a2, .ref a3, .int (-1), .int 0, .int 0, .long 0, .long 0, .long 0, .int 0, .long 0])), (a1, .inl (E.2.1 0, 40, .inl (fun _ => 0))), (a2, .inl (E.2.1 0, 40, .inl (fun _ => 0))), (a3, .inl (E.2.1 8, 8, .inr (.inr (.inr (.inr (va_up (va_up (va_up (va_up (va_up (fun _ => none) 0 (some (g5 0))) 1 (some (g7 0))) 2 (some (g9 0))) 3 (some (g11 0))) 4 (some (g13 0)))))))), (q14, .inr (6, [.null, .long 0, .long 0, .long 0, .long 0, .long 0, .long 0, .long 0, .long 0, .int 0]))]) := M
  refine W.widen (k := 14) (n := 448) (Nat.le_of_ble_eq_true rfl) (Nat.le_of_ble_eq_true rfl) ?_
  refine lv_dup C.1 C.2.1 dX4_init_50 rfl ?_
  have M : nM E A s H locs ((w5 ++ [(b, .inr (4, [.ref a1, .ref a2, .ref a3, .int (-1), .int 0, .int 0, .long 0, .long 0, .long 0, .int 0, .long 0])), (a1, .inl (E.2.1 0, 40, .inl (fun _ => 0))), (a2, .inl (E.2.1 0, 40, .inl (fun _ => 0))), (a3, .inl (E.2.1 8, 8, .inr (.inr (.inr (.inr (va_up (va_up (va_up (va_up (va_up (fun _ => none) 0 (some (g5 0))) 1 (some (g7 0))) 2 (some (g9 0))) 3 (some (g11 0))) 4 (some (g13 0))))))))]) ++ [(q14, .inr (6, [.null, .long 0, .long 0, .long 0, .long 0, .long 0, .long 0, .long 0, .long 0, .int 0]))]) := by rw [List.append_assoc]; exact M
  refine n_callI (As := []) (rest := [.ref q14, .int 5, .ref a3]) C M (k_Part l E (w5 ++ [(b, .inr (4, [.ref a1, .ref a2, .ref a3, .int (-1), .int 0, .int 0, .long 0, .long 0, .long 0, .int 0, .long 0])), (a1, .inl (E.2.1 0, 40, .inl (fun _ => 0))), (a2, .inl (E.2.1 0, 40, .inl (fun _ => 0))), (a3, .inl (E.2.1 8, 8, .inr (.inr (.inr (.inr (va_up (va_up (va_up (va_up (va_up (fun _ => none) 0 (some (g5 0))) 1 (some (g7 0))) 2 (some (g9 0))) 3 (some (g11 0))) 4 (some (g13 0))))))))]) q14) clX6_init imX6_init lk4_28 rfl rfl ⟨Nat.le_of_ble_eq_true rfl, Nat.le_of_ble_eq_true rfl⟩ hl.1 rfl (Nat.le_of_ble_eq_true rfl) dX4_init_51 ⟨Nat.le_of_ble_eq_true rfl, Nat.le_of_ble_eq_true rfl⟩ (fun ws H locs hR Mg15 => ?_)
  obtain ⟨g15, hg15, rfl⟩ := hR
  subst hg15
  refine W.widen (k := 15) (n := 508) (Nat.le_of_ble_eq_true rfl) (Nat.le_of_ble_eq_true rfl) ?_
  have M := n_bury Mg15
  refine n_astq C M 3 (w5.length + 0) 8 rfl rfl (nS_at (by rfl)) (ci := 6) rfl (x := 5) (by unfold vp_in; decide) dX4_init_54 (fun H locs M => ?_)
  have M : nM E A s H locs ((w5 ++ wPart E g15 0) ++ [(b, .inr (4, [.ref a1, .ref a2, .ref a3, .int (-1), .int 0, .int 0, .long 0, .long 0, .long 0, .int 0, .long 0])), (a1, .inl (E.2.1 0, 40, .inl (fun _ => 0))), (a2, .inl (E.2.1 0, 40, .inl (fun _ => 0))), (a3, .inl (E.2.1 8, 8, .inr (.inr (.inr (.inr (va_up (va_up (va_up (va_up (va_up (va_up (fun _ => none) 0 (some (g5 0))) 1 (some (g7 0))) 2 (some (g9 0))) 3 (some (g11 0))) 4 (some (g13 0))) 5 (some (g15 0))))))))]) := M
  generalize hw6 : w5 ++ wPart E g15 0 = w6 at M
  refine lv_iinc (v := 6) (lv' := [(1, .int 6), (0, .ref b)]) C.1 C.2.1 dX4_init_55 hl (k := 0) rfl (by decide) (by decide) rfl (fun ls hl => ?_)
  refine lv_goto (tgt := 36) C.1 C.2.1 dX4_init_58 (by decide) ?_
  refine lv_iload_n C.1 C.2.1 dX4_init_36 rfl (lv_at hl 0 rfl) ?_
  refine lv_bipush (v := 8) C.1 C.2.1 dX4_init_37 (by decide) ?_
  refine lv_icmp_ge (tgt := 61) C.1 C.2.1 dX4_init_39 (by decide) (fun c9 => absurd c9 (by decide)) (fun _ => ?_)
  refine lv_aload_n C.1 C.2.1 dX4_init_42 rfl (lv_at hl 1 rfl) ?_
  refine n_get C M 0 rfl (T := TX4) rfl 2 (by decide) (List.mem_of_getElem? (i := 301) (by decide +kernel)) (v := .ref a3) rfl dX4_init_43 ?_
  refine lv_iload_n C.1 C.2.1 dX4_init_46 rfl (lv_at hl 0 rfl) ?_
  refine n_new (ci := 6) C M rfl lc4_18 in6 ini6 [.null, .long 0, .long 0, .long 0, .long 0, .long 0, .long 0, .long 0, .long 0, .int 0] df_6 (Nat.le_of_ble_eq_true rfl) (Nat.le_of_ble_eq_true rfl) dX4_init_47 (fun q16 H M => ?_)
  have M : nM E A s H locs (w6 ++ [(b, .inr (4, [.ref a1, .ref a2, .ref a3, .int (-1), .int 0, .int 0, .long 0, .long 0, .long 0, .int 0, .long 0])), (a1, .inl (E.2.1 0, 40, .inl (fun _ => 0))), (a2, .inl (E.2.1 0, 40, .inl (fun _ => 0))), (a3, .inl (E.2.1 8, 8, .inr (.inr (.inr (.inr (va_up (va_up (va_up (va_up (va_up (va_up (fun _ => none) 0 (some (g5 0))) 1 (some (g7 0))) 2 (some (g9 0))) 3 (some (g11 0))) 4 (some (g13 0))) 5 (some (g15 0)))))))), (q16, .inr (6, [.null, .long 0, .long 0, .long 0, .long 0, .long 0, .long 0, .long 0, .long 0, .int 0]))]) := M
  refine W.widen (k := 16) (n := 518) (Nat.le_of_ble_eq_true rfl) (Nat.le_of_ble_eq_true rfl) ?_
  refine lv_dup C.1 C.2.1 dX4_init_50 rfl ?_
  have M : nM E A s H locs ((w6 ++ [(b, .inr (4, [.ref a1, .ref a2, .ref a3, .int (-1), .int 0, .int 0, .long 0, .long 0, .long 0, .int 0, .long 0])), (a1, .inl (E.2.1 0, 40, .inl (fun _ => 0))), (a2, .inl (E.2.1 0, 40, .inl (fun _ => 0))), (a3, .inl (E.2.1 8, 8, .inr (.inr (.inr (.inr (va_up (va_up (va_up (va_up (va_up (va_up (fun _ => none) 0 (some (g5 0))) 1 (some (g7 0))) 2 (some (g9 0))) 3 (some (g11 0))) 4 (some (g13 0))) 5 (some (g15 0))))))))]) ++ [(q16, .inr (6, [.null, .long 0, .long 0, .long 0, .long 0, .long 0, .long 0, .long 0, .long 0, .int 0]))]) := by rw [List.append_assoc]; exact M
  refine n_callI (As := []) (rest := [.ref q16, .int 6, .ref a3]) C M (k_Part l E (w6 ++ [(b, .inr (4, [.ref a1, .ref a2, .ref a3, .int (-1), .int 0, .int 0, .long 0, .long 0, .long 0, .int 0, .long 0])), (a1, .inl (E.2.1 0, 40, .inl (fun _ => 0))), (a2, .inl (E.2.1 0, 40, .inl (fun _ => 0))), (a3, .inl (E.2.1 8, 8, .inr (.inr (.inr (.inr (va_up (va_up (va_up (va_up (va_up (va_up (fun _ => none) 0 (some (g5 0))) 1 (some (g7 0))) 2 (some (g9 0))) 3 (some (g11 0))) 4 (some (g13 0))) 5 (some (g15 0))))))))]) q16) clX6_init imX6_init lk4_28 rfl rfl ⟨Nat.le_of_ble_eq_true rfl, Nat.le_of_ble_eq_true rfl⟩ hl.1 rfl (Nat.le_of_ble_eq_true rfl) dX4_init_51 ⟨Nat.le_of_ble_eq_true rfl, Nat.le_of_ble_eq_true rfl⟩ (fun ws H locs hR Mg17 => ?_)
  obtain ⟨g17, hg17, rfl⟩ := hR
  subst hg17
  refine W.widen (k := 17) (n := 578) (Nat.le_of_ble_eq_true rfl) (Nat.le_of_ble_eq_true rfl) ?_
  have M := n_bury Mg17
  refine n_astq C M 3 (w6.length + 0) 8 rfl rfl (nS_at (by rfl)) (ci := 6) rfl (x := 6) (by unfold vp_in; decide) dX4_init_54 (fun H locs M => ?_)
  have M : nM E A s H locs ((w6 ++ wPart E g17 0) ++ [(b, .inr (4, [.ref a1, .ref a2, .ref a3, .int (-1), .int 0, .int 0, .long 0, .long 0, .long 0, .int 0, .long 0])), (a1, .inl (E.2.1 0, 40, .inl (fun _ => 0))), (a2, .inl (E.2.1 0, 40, .inl (fun _ => 0))), (a3, .inl (E.2.1 8, 8, .inr (.inr (.inr (.inr (va_up (va_up (va_up (va_up (va_up (va_up (va_up (fun _ => none) 0 (some (g5 0))) 1 (some (g7 0))) 2 (some (g9 0))) 3 (some (g11 0))) 4 (some (g13 0))) 5 (some (g15 0))) 6 (some (g17 0))))))))]) := M
  generalize hw7 : w6 ++ wPart E g17 0 = w7 at M
  refine lv_iinc (v := 7) (lv' := [(1, .int 7), (0, .ref b)]) C.1 C.2.1 dX4_init_55 hl (k := 0) rfl (by decide) (by decide) rfl (fun ls hl => ?_)
  refine lv_goto (tgt := 36) C.1 C.2.1 dX4_init_58 (by decide) ?_
  refine lv_iload_n C.1 C.2.1 dX4_init_36 rfl (lv_at hl 0 rfl) ?_
  refine lv_bipush (v := 8) C.1 C.2.1 dX4_init_37 (by decide) ?_
  refine lv_icmp_ge (tgt := 61) C.1 C.2.1 dX4_init_39 (by decide) (fun c9 => absurd c9 (by decide)) (fun _ => ?_)
  refine lv_aload_n C.1 C.2.1 dX4_init_42 rfl (lv_at hl 1 rfl) ?_
  refine n_get C M 0 rfl (T := TX4) rfl 2 (by decide) (List.mem_of_getElem? (i := 301) (by decide +kernel)) (v := .ref a3) rfl dX4_init_43 ?_
  refine lv_iload_n C.1 C.2.1 dX4_init_46 rfl (lv_at hl 0 rfl) ?_
  refine n_new (ci := 6) C M rfl lc4_18 in6 ini6 [.null, .long 0, .long 0, .long 0, .long 0, .long 0, .long 0, .long 0, .long 0, .int 0] df_6 (Nat.le_of_ble_eq_true rfl) (Nat.le_of_ble_eq_true rfl) dX4_init_47 (fun q18 H M => ?_)
  have M : nM E A s H locs (w7 ++ [(b, .inr (4, [.ref a1, .ref a2, .ref a3, .int (-1), .int 0, .int 0, .long 0, .long 0, .long 0, .int 0, .long 0])), (a1, .inl (E.2.1 0, 40, .inl (fun _ => 0))), (a2, .inl (E.2.1 0, 40, .inl (fun _ => 0))), (a3, .inl (E.2.1 8, 8, .inr (.inr (.inr (.inr (va_up (va_up (va_up (va_up (va_up (va_up (va_up (fun _ => none) 0 (some (g5 0))) 1 (some (g7 0))) 2 (some (g9 0))) 3 (some (g11 0))) 4 (some (g13 0))) 5 (some (g15 0))) 6 (some (g17 0)))))))), (q18, .inr (6, [.null, .long 0, .long 0, .long 0, .long 0, .long 0, .long 0, .long 0, .long 0, .int 0]))]) := M
  refine W.widen (k := 18) (n := 588) (Nat.le_of_ble_eq_true rfl) (Nat.le_of_ble_eq_true rfl) ?_
  refine lv_dup C.1 C.2.1 dX4_init_50 rfl ?_
  have M : nM E A s H locs ((w7 ++ [(b, .inr (4, [.ref a1, .ref a2, .ref a3, .int (-1), .int 0, .int 0, .long 0, .long 0, .long 0, .int 0, .long 0])), (a1, .inl (E.2.1 0, 40, .inl (fun _ => 0))), (a2, .inl (E.2.1 0, 40, .inl (fun _ => 0))), (a3, .inl (E.2.1 8, 8, .inr (.inr (.inr (.inr (va_up (va_up (va_up (va_up (va_up (va_up (va_up (fun _ => none) 0 (some (g5 0))) 1 (some (g7 0))) 2 (some (g9 0))) 3 (some (g11 0))) 4 (some (g13 0))) 5 (some (g15 0))) 6 (some (g17 0))))))))]) ++ [(q18, .inr (6, [.null, .long 0, .long 0, .long 0, .long 0, .long 0, .long 0, .long 0, .long 0, .int 0]))]) := by rw [List.append_assoc]; exact M
  refine n_callI (As := []) (rest := [.ref q18, .int 7, .ref a3]) C M (k_Part l E (w7 ++ [(b, .inr (4, [.ref a1, .ref a2, .ref a3, .int (-1), .int 0, .int 0, .long 0, .long 0, .long 0, .int 0, .long 0])), (a1, .inl (E.2.1 0, 40, .inl (fun _ => 0))), (a2, .inl (E.2.1 0, 40, .inl (fun _ => 0))), (a3, .inl (E.2.1 8, 8, .inr (.inr (.inr (.inr (va_up (va_up (va_up (va_up (va_up (va_up (va_up (fun _ => none) 0 (some (g5 0))) 1 (some (g7 0))) 2 (some (g9 0))) 3 (some (g11 0))) 4 (some (g13 0))) 5 (some (g15 0))) 6 (some (g17 0))))))))]) q18) clX6_init imX6_init lk4_28 rfl rfl ⟨Nat.le_of_ble_eq_true rfl, Nat.le_of_ble_eq_true rfl⟩ hl.1 rfl (Nat.le_of_ble_eq_true rfl) dX4_init_51 ⟨Nat.le_of_ble_eq_true rfl, Nat.le_of_ble_eq_true rfl⟩ (fun ws H locs hR Mg19 => ?_)
  obtain ⟨g19, hg19, rfl⟩ := hR
  subst hg19
  refine W.widen (k := 19) (n := 648) (Nat.le_of_ble_eq_true rfl) (Nat.le_of_ble_eq_true rfl) ?_
  have M := n_bury Mg19
  refine n_astq C M 3 (w7.length + 0) 8 rfl rfl (nS_at (by rfl)) (ci := 6) rfl (x := 7) (by unfold vp_in; decide) dX4_init_54 (fun H locs M => ?_)
  have M : nM E A s H locs ((w7 ++ wPart E g19 0) ++ [(b, .inr (4, [.ref a1, .ref a2, .ref a3, .int (-1), .int 0, .int 0, .long 0, .long 0, .long 0, .int 0, .long 0])), (a1, .inl (E.2.1 0, 40, .inl (fun _ => 0))), (a2, .inl (E.2.1 0, 40, .inl (fun _ => 0))), (a3, .inl (E.2.1 8, 8, .inr (.inr (.inr (.inr (va_up (va_up (va_up (va_up (va_up (va_up (va_up (va_up (fun _ => none) 0 (some (g5 0))) 1 (some (g7 0))) 2 (some (g9 0))) 3 (some (g11 0))) 4 (some (g13 0))) 5 (some (g15 0))) 6 (some (g17 0))) 7 (some (g19 0))))))))]) := M
  generalize hw8 : w7 ++ wPart E g19 0 = w8 at M
  refine lv_iinc (v := 8) (lv' := [(1, .int 8), (0, .ref b)]) C.1 C.2.1 dX4_init_55 hl (k := 0) rfl (by decide) (by decide) rfl (fun ls hl => ?_)
  refine lv_goto (tgt := 36) C.1 C.2.1 dX4_init_58 (by decide) ?_
  refine lv_iload_n C.1 C.2.1 dX4_init_36 rfl (lv_at hl 0 rfl) ?_
  refine lv_bipush (v := 8) C.1 C.2.1 dX4_init_37 (by decide) ?_
  refine lv_icmp_ge (tgt := 61) C.1 C.2.1 dX4_init_39 (by decide) (fun _ => ?_) (fun c9 => absurd (by decide) c9)
  obtain ⟨G, hG⟩ : ∃ G : Nat → Nat, G = nth [b, a1, a2, a3, g5 0, g5 1, g7 0, g7 1, g9 0, g9 1, g11 0, g11 1, g13 0, g13 1, g15 0, g15 1, g17 0, g17 1, g19 0, g19 1] := ⟨_, rfl⟩
  have e9 : (va_up (va_up (va_up (va_up (va_up (va_up (va_up (va_up (fun _ => none) 0 (some (g5 0))) 1 (some (g7 0))) 2 (some (g9 0))) 3 (some (g11 0))) 4 (some (g13 0))) 5 (some (g15 0))) 6 (some (g17 0))) 7 (some (g19 0))) = (fun i => if i < 8 then some (G (0 + (4 + 2 * i))) else none) := up8 (f := fun i => G (0 + (4 + 2 * i))) (by rw [hG]; rfl) (by rw [hG]; rfl) (by rw [hG]; rfl) (by rw [hG]; rfl) (by rw [hG]; rfl) (by rw [hG]; rfl) (by rw [hG]; rfl) (by rw [hG]; rfl)
  have M : nM E A s H locs (w8 ++ [(b, .inr (4, [.ref a1, .ref a2, .ref a3, .int (-1), .int 0, .int 0, .long 0, .long 0, .long 0, .int 0, .long 0])), (a1, .inl (E.2.1 0, 40, .inl (fun _ => 0))), (a2, .inl (E.2.1 0, 40, .inl (fun _ => 0))), (a3, .inl (E.2.1 8, 8, .inr (.inr (.inr (.inr (fun i => if i < 8 then some (G (0 + (4 + 2 * i))) else none))))))]) := by rw [← e9]; exact M
  refine n_vret C M hr hlk ⟨G, by rw [hG]; rfl, ?_⟩ (Nat.le_of_ble_eq_true rfl) (Nat.le_of_ble_eq_true rfl) dX4_init_61
  rw [← hw8, ← hw7, ← hw6, ← hw5, ← hw4, ← hw3, ← hw2, ← hw1]
  try simp only [List.append_assoc]
  subst hG
  rfl
