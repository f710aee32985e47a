/-! The court itself. -/
def nthF : List (Nat → Nat) → Nat → Nat → Nat
  | [], _ => fun _ => 0
  | a :: _, 0 => a
  | _ :: t, k + 1 => nthF t k
def wCourt (E : hEnv) (b a1 a2 : Nat) (gT gG gC gP gM gS gJ : Nat → Nat) (gL gH : Nat → Nat → Nat) : va_W := wTale E gT 0 ++ (wGoods E gG 0 ++ (wCases E gC 0 ++ (wTape E gP 0 ++ (wTimes6 E gM 0 ++ (wCrew E gS 0 ++ (wJudg E gJ 0 ++ (wLaw E (gL 0) 0 ++ (wLaw E (gL 1) 0 ++ (wLaw E (gL 2) 0 ++ (wLaw E (gL 3) 0 ++ (wLaw E (gL 4) 0 ++ (wLaw E (gL 5) 0 ++ (wShip E (gH 0) 0 ++ (wShip E (gH 1) 0 ++ (wShip E (gH 2) 0 ++ (wShip E (gH 3) 0 ++ (wShip E (gH 4) 0 ++ (wShip E (gH 5) 0 ++ (wShip E (gH 6) 0 ++ (wShip E (gH 7) 0 ++ ([(b, .inr (11, [.ref (gT 0), .ref (gG 0), .ref (gC 0), .ref (gP 0), .ref a1, .ref (gM 0), .ref (gS 0), .ref a2, .ref (gJ 0), .int 0, .int 0, .int 0, .int 0, .int 0])), (a1, .inl (E.2.1 6, 6, .inr (.inr (.inr (.inr (fun i => if i < 6 then some (gL i 0) else none)))))), (a2, .inl (E.2.1 7, 8, .inr (.inr (.inr (.inr (fun i => if i < 8 then some (gH i 0) else none))))))])))))))))))))))))))))
set_option maxHeartbeats 4000000 in
set_option maxRecDepth 100000 in
theorem k_Court (l : Launch) (E : hEnv) (w0 : va_W) (b : Nat) : nMet l yX11_init cX11_init 2 (3, 93, 2998, 64) E (w0 ++ [(b, .inr (11, [.null, .null, .null, .null, .null, .null, .null, .null, .null, .int 0, .int 0, .int 0, .int 0, .int 0]))]) [.ref b] (fun ws => ∃ (a1 a2 : Nat) (gT gG gC gP gM gS gJ : Nat → Nat) (gL gH : Nat → Nat → Nat), ws = w0 ++ wCourt E b a1 a2 gT gG gC gP gM gS gJ gL gH) := by
  refine nMet.of (by decide) (Nat.le_of_ble_eq_true rfl) (fun p e s m below meth c A ls C M hr hlk hin hl => ?_)
  have hin : meth.name = "<init>" := hin
  have hl : lv_has ls 2 [(0, .ref b)] := hl
  generalize hH : s.heap = H at M ⊢
  generalize hlocs : ([] : List Loc) = locs at M ⊢
  have M : nM E A s H locs (w0 ++ [(b, .inr (11, [.null, .null, .null, .null, .null, .null, .null, .null, .null, .int 0, .int 0, .int 0, .int 0, .int 0]))]) := M
  refine lv_aload_n C.1 C.2.1 dX11_init_0 rfl (lv_at hl 0 rfl) ?_
  refine n_obj (rest := []) C lo11_1 hl.1 (Nat.le_of_ble_eq_true rfl) (Nat.le_of_ble_eq_true rfl) (Nat.le_of_ble_eq_true rfl) dX11_init_1 ?_
  refine lv_aload_n C.1 C.2.1 dX11_init_4 rfl (lv_at hl 0 rfl) ?_
  refine n_new (ci := 8) C M rfl lc11_7 in8 ini8 [.null, .null, .null, .null, .null, .null, .int 0, .null, .null, .int 0, .int 0, .null, .null, .int 0, .int 0] df_8 (Nat.le_of_ble_eq_true rfl) (Nat.le_of_ble_eq_true rfl) dX11_init_5 (fun q1 H M => ?_)
  have M : nM E A s H locs (w0 ++ [(b, .inr (11, [.null, .null, .null, .null, .null, .null, .null, .null, .null, .int 0, .int 0, .int 0, .int 0, .int 0])), (q1, .inr (8, [.null, .null, .null, .null, .null, .null, .int 0, .null, .null, .int 0, .int 0, .null, .null, .int 0, .int 0]))]) := M
  refine W.widen (k := 1) (n := 15) (Nat.le_of_ble_eq_true rfl) (Nat.le_of_ble_eq_true rfl) ?_
  refine lv_dup C.1 C.2.1 dX11_init_8 rfl ?_
  have M : nM E A s H locs ((w0 ++ [(b, .inr (11, [.null, .null, .null, .null, .null, .null, .null, .null, .null, .int 0, .int 0, .int 0, .int 0, .int 0]))]) ++ [(q1, .inr (8, [.null, .null, .null, .null, .null, .null, .int 0, .null, .null, .int 0, .int 0, .null, .null, .int 0, .int 0]))]) := by rw [List.append_assoc]; exact M
  refine n_callI (As := []) (rest := [.ref q1, .ref b]) C M (k_Tale l E (w0 ++ [(b, .inr (11, [.null, .null, .null, .null, .null, .null, .null, .null, .null, .int 0, .int 0, .int 0, .int 0, .int 0]))]) q1) clX8_init imX8_init lk11_9 rfl rfl ⟨Nat.le_of_ble_eq_true rfl, Nat.le_of_ble_eq_true rfl⟩ hl.1 rfl (Nat.le_of_ble_eq_true rfl) dX11_init_9 ⟨Nat.le_of_ble_eq_true rfl, Nat.le_of_ble_eq_true rfl⟩ (fun ws H locs hR Mg2 => ?_)
  obtain ⟨g2, hg2, rfl⟩ := hR
  subst hg2
  refine W.widen (k := 13) (n := 815) (Nat.le_of_ble_eq_true rfl) (Nat.le_of_ble_eq_true rfl) ?_
  have M := n_bury Mg2
  generalize hw1 : w0 ++ wTale E g2 0 = w1 at M
  refine n_put C hin M 0 rfl (T := TX11) rfl 0 (by decide) (List.mem_of_getElem? (i := 414) (by decide +kernel)) (v := .ref (g2 0)) rfl rfl rfl (Nat.le_of_ble_eq_true rfl) dX11_init_12 (fun H locs M => ?_)
  have M : nM E A s H locs (w1 ++ [(b, .inr (11, [.ref (g2 0), .null, .null, .null, .null, .null, .null, .null, .null, .int 0, .int 0, .int 0, .int 0, .int 0]))]) := M
  refine lv_aload_n C.1 C.2.1 dX11_init_15 rfl (lv_at hl 0 rfl) ?_
  refine n_new (ci := 3) C M rfl lc11_16 in3 ini3 [.null, .null, .null, .int 0] df_3 (Nat.le_of_ble_eq_true rfl) (Nat.le_of_ble_eq_true rfl) dX11_init_16 (fun q3 H M => ?_)
  have M : nM E A s H locs (w1 ++ [(b, .inr (11, [.ref (g2 0), .null, .null, .null, .null, .null, .null, .null, .null, .int 0, .int 0, .int 0, .int 0, .int 0])), (q3, .inr (3, [.null, .null, .null, .int 0]))]) := M
  refine W.widen (k := 14) (n := 819) (Nat.le_of_ble_eq_true rfl) (Nat.le_of_ble_eq_true rfl) ?_
  refine lv_dup C.1 C.2.1 dX11_init_19 rfl ?_
  have M : nM E A s H locs ((w1 ++ [(b, .inr (11, [.ref (g2 0), .null, .null, .null, .null, .null, .null, .null, .null, .int 0, .int 0, .int 0, .int 0, .int 0]))]) ++ [(q3, .inr (3, [.null, .null, .null, .int 0]))]) := by rw [List.append_assoc]; exact M
  refine n_callI (As := []) (rest := [.ref q3, .ref b]) C M (k_Goods l E (w1 ++ [(b, .inr (11, [.ref (g2 0), .null, .null, .null, .null, .null, .null, .null, .null, .int 0, .int 0, .int 0, .int 0, .int 0]))]) q3) clX3_init imX3_init lk11_18 rfl rfl ⟨Nat.le_of_ble_eq_true rfl, Nat.le_of_ble_eq_true rfl⟩ hl.1 rfl (Nat.le_of_ble_eq_true rfl) dX11_init_20 ⟨Nat.le_of_ble_eq_true rfl, Nat.le_of_ble_eq_true rfl⟩ (fun ws H locs hR Mg4 => ?_)
  obtain ⟨g4, hg4, rfl⟩ := hR
  subst hg4
  refine W.widen (k := 19) (n := 1061) (Nat.le_of_ble_eq_true rfl) (Nat.le_of_ble_eq_true rfl) ?_
  have M := n_bury Mg4
  generalize hw2 : w1 ++ wGoods E g4 0 = w2 at M
  refine n_put C hin M 0 rfl (T := TX11) rfl 1 (by decide) (List.mem_of_getElem? (i := 415) (by decide +kernel)) (v := .ref (g4 0)) rfl rfl rfl (Nat.le_of_ble_eq_true rfl) dX11_init_23 (fun H locs M => ?_)
  have M : nM E A s H locs (w2 ++ [(b, .inr (11, [.ref (g2 0), .ref (g4 0), .null, .null, .null, .null, .null, .null, .null, .int 0, .int 0, .int 0, .int 0, .int 0]))]) := M
  refine lv_aload_n C.1 C.2.1 dX11_init_26 rfl (lv_at hl 0 rfl) ?_
  refine n_new (ci := 1) C M rfl lc11_23 in1 ini1 [.null, .null, .null, .null, .int 0] df_1 (Nat.le_of_ble_eq_true rfl) (Nat.le_of_ble_eq_true rfl) dX11_init_27 (fun q5 H M => ?_)
  have M : nM E A s H locs (w2 ++ [(b, .inr (11, [.ref (g2 0), .ref (g4 0), .null, .null, .null, .null, .null, .null, .null, .int 0, .int 0, .int 0, .int 0, .int 0])), (q5, .inr (1, [.null, .null, .null, .null, .int 0]))]) := M
  refine W.widen (k := 20) (n := 1066) (Nat.le_of_ble_eq_true rfl) (Nat.le_of_ble_eq_true rfl) ?_
  refine lv_dup C.1 C.2.1 dX11_init_30 rfl ?_
  have M : nM E A s H locs ((w2 ++ [(b, .inr (11, [.ref (g2 0), .ref (g4 0), .null, .null, .null, .null, .null, .null, .null, .int 0, .int 0, .int 0, .int 0, .int 0]))]) ++ [(q5, .inr (1, [.null, .null, .null, .null, .int 0]))]) := by rw [List.append_assoc]; exact M
  refine n_callI (As := []) (rest := [.ref q5, .ref b]) C M (k_Cases l E (w2 ++ [(b, .inr (11, [.ref (g2 0), .ref (g4 0), .null, .null, .null, .null, .null, .null, .null, .int 0, .int 0, .int 0, .int 0, .int 0]))]) q5) clX1_init imX1_init lk11_25 rfl rfl ⟨Nat.le_of_ble_eq_true rfl, Nat.le_of_ble_eq_true rfl⟩ hl.1 rfl (Nat.le_of_ble_eq_true rfl) dX11_init_31 ⟨Nat.le_of_ble_eq_true rfl, Nat.le_of_ble_eq_true rfl⟩ (fun ws H locs hR Mg6 => ?_)
  obtain ⟨g6, hg6, rfl⟩ := hR
  subst hg6
  refine W.widen (k := 28) (n := 1310) (Nat.le_of_ble_eq_true rfl) (Nat.le_of_ble_eq_true rfl) ?_
  have M := n_bury Mg6
  generalize hw3 : w2 ++ wCases E g6 0 = w3 at M
  refine n_put C hin M 0 rfl (T := TX11) rfl 2 (by decide) (List.mem_of_getElem? (i := 416) (by decide +kernel)) (v := .ref (g6 0)) rfl rfl rfl (Nat.le_of_ble_eq_true rfl) dX11_init_34 (fun H locs M => ?_)
  have M : nM E A s H locs (w3 ++ [(b, .inr (11, [.ref (g2 0), .ref (g4 0), .ref (g6 0), .null, .null, .null, .null, .null, .null, .int 0, .int 0, .int 0, .int 0, .int 0]))]) := M
  refine lv_aload_n C.1 C.2.1 dX11_init_37 rfl (lv_at hl 0 rfl) ?_
  refine n_new (ci := 9) C M rfl lc11_30 in9 ini9 [.null, .int 0, .int 0, .int 0, .int 0, .int 0] df_9 (Nat.le_of_ble_eq_true rfl) (Nat.le_of_ble_eq_true rfl) dX11_init_38 (fun q7 H M => ?_)
  have M : nM E A s H locs (w3 ++ [(b, .inr (11, [.ref (g2 0), .ref (g4 0), .ref (g6 0), .null, .null, .null, .null, .null, .null, .int 0, .int 0, .int 0, .int 0, .int 0])), (q7, .inr (9, [.null, .int 0, .int 0, .int 0, .int 0, .int 0]))]) := M
  refine W.widen (k := 29) (n := 1316) (Nat.le_of_ble_eq_true rfl) (Nat.le_of_ble_eq_true rfl) ?_
  refine lv_dup C.1 C.2.1 dX11_init_41 rfl ?_
  have M : nM E A s H locs ((w3 ++ [(b, .inr (11, [.ref (g2 0), .ref (g4 0), .ref (g6 0), .null, .null, .null, .null, .null, .null, .int 0, .int 0, .int 0, .int 0, .int 0]))]) ++ [(q7, .inr (9, [.null, .int 0, .int 0, .int 0, .int 0, .int 0]))]) := by rw [List.append_assoc]; exact M
  refine n_callI (As := []) (rest := [.ref q7, .ref b]) C M (k_Tape l E (w3 ++ [(b, .inr (11, [.ref (g2 0), .ref (g4 0), .ref (g6 0), .null, .null, .null, .null, .null, .null, .int 0, .int 0, .int 0, .int 0, .int 0]))]) q7) clX9_init imX9_init lk11_32 rfl rfl ⟨Nat.le_of_ble_eq_true rfl, Nat.le_of_ble_eq_true rfl⟩ hl.1 rfl (Nat.le_of_ble_eq_true rfl) dX11_init_42 ⟨Nat.le_of_ble_eq_true rfl, Nat.le_of_ble_eq_true rfl⟩ (fun ws H locs hR Mg8 => ?_)
  obtain ⟨g8, hg8, rfl⟩ := hR
  subst hg8
  refine W.widen (k := 30) (n := 1616) (Nat.le_of_ble_eq_true rfl) (Nat.le_of_ble_eq_true rfl) ?_
  have M := n_bury Mg8
  generalize hw4 : w3 ++ wTape E g8 0 = w4 at M
  refine n_put C hin M 0 rfl (T := TX11) rfl 3 (by decide) (List.mem_of_getElem? (i := 417) (by decide +kernel)) (v := .ref (g8 0)) rfl rfl rfl (Nat.le_of_ble_eq_true rfl) dX11_init_45 (fun H locs M => ?_)
  have M : nM E A s H locs (w4 ++ [(b, .inr (11, [.ref (g2 0), .ref (g4 0), .ref (g6 0), .ref (g8 0), .null, .null, .null, .null, .null, .int 0, .int 0, .int 0, .int 0, .int 0]))]) := M
  refine lv_aload_n C.1 C.2.1 dX11_init_48 rfl (lv_at hl 0 rfl) ?_
  refine lv_bipush (v := 6) C.1 C.2.1 dX11_init_49 (by decide) ?_
  refine n_arq (k := 6) C M 6 rfl C.2.2.2.2.2.1 lc11_37 (by decide) (by decide) (by decide) (Nat.le_of_ble_eq_true rfl) (Nat.le_of_ble_eq_true rfl) dX11_init_51 (fun a9 H M => ?_)
  have M : nM E A s H locs (w4 ++ [(b, .inr (11, [.ref (g2 0), .ref (g4 0), .ref (g6 0), .ref (g8 0), .null, .null, .null, .null, .null, .int 0, .int 0, .int 0, .int 0, .int 0])), (a9, .inl (E.2.1 6, 6, .inr (.inr (.inr (.inr (fun _ => none))))))]) := M
  refine W.widen (k := 31) (n := 1622) (Nat.le_of_ble_eq_true rfl) (Nat.le_of_ble_eq_true rfl) ?_
  refine n_put C hin M 0 rfl (T := TX11) rfl 4 (by decide) (List.mem_of_getElem? (i := 418) (by decide +kernel)) (v := .ref a9) rfl rfl rfl (Nat.le_of_ble_eq_true rfl) dX11_init_54 (fun H locs M => ?_)
  have M : nM E A s H locs (w4 ++ [(b, .inr (11, [.ref (g2 0), .ref (g4 0), .ref (g6 0), .ref (g8 0), .ref a9, .null, .null, .null, .null, .int 0, .int 0, .int 0, .int 0, .int 0])), (a9, .inl (E.2.1 6, 6, .inr (.inr (.inr (.inr (fun _ => none))))))]) := M
  refine lv_aload_n C.1 C.2.1 dX11_init_57 rfl (lv_at hl 0 rfl) ?_
  refine n_new (ci := 10) C M rfl lc11_43 in10 ini10 [.null, .null] df_10 (Nat.le_of_ble_eq_true rfl) (Nat.le_of_ble_eq_true rfl) dX11_init_58 (fun q10 H M => ?_)
  have M : nM E A s H locs (w4 ++ [(b, .inr (11, [.ref (g2 0), .ref (g4 0), .ref (g6 0), .ref (g8 0), .ref a9, .null, .null, .null, .null, .int 0, .int 0, .int 0, .int 0, .int 0])), (a9, .inl (E.2.1 6, 6, .inr (.inr (.inr (.inr (fun _ => none)))))), (q10, .inr (10, [.null, .null]))]) := M
  refine W.widen (k := 32) (n := 1624) (Nat.le_of_ble_eq_true rfl) (Nat.le_of_ble_eq_true rfl) ?_
  refine lv_dup C.1 C.2.1 dX11_init_61 rfl ?_
  refine lv_bipush (v := 6) C.1 C.2.1 dX11_init_62 (by decide) ?_
  have M : nM E A s H locs ((w4 ++ [(b, .inr (11, [.ref (g2 0), .ref (g4 0), .ref (g6 0), .ref (g8 0), .ref a9, .null, .null, .null, .null, .int 0, .int 0, .int 0, .int 0, .int 0])), (a9, .inl (E.2.1 6, 6, .inr (.inr (.inr (.inr (fun _ => none))))))]) ++ [(q10, .inr (10, [.null, .null]))]) := by rw [List.append_assoc]; exact M
  refine n_callI (As := [.int 6]) (rest := [.ref q10, .ref b]) C M (k_Times6 l E (w4 ++ [(b, .inr (11, [.ref (g2 0), .ref (g4 0), .ref (g6 0), .ref (g8 0), .ref a9, .null, .null, .null, .null, .int 0, .int 0, .int 0, .int 0, .int 0])), (a9, .inl (E.2.1 6, 6, .inr (.inr (.inr (.inr (fun _ => none))))))]) q10) clX10_init imX10_init lk11_45 rfl rfl ⟨Nat.le_of_ble_eq_true rfl, Nat.le_of_ble_eq_true rfl⟩ hl.1 rfl (Nat.le_of_ble_eq_true rfl) dX11_init_64 ⟨Nat.le_of_ble_eq_true rfl, Nat.le_of_ble_eq_true rfl⟩ (fun ws H locs hR Mg11 => ?_)
  obtain ⟨g11, hg11, rfl⟩ := hR
  subst hg11
  refine W.widen (k := 34) (n := 1636) (Nat.le_of_ble_eq_true rfl) (Nat.le_of_ble_eq_true rfl) ?_
  have M := n_bury Mg11
  generalize hw5 : w4 ++ wTimes6 E g11 0 = w5 at M
  refine n_put C hin M 0 rfl (T := TX11) rfl 5 (by decide) (List.mem_of_getElem? (i := 419) (by decide +kernel)) (v := .ref (g11 0)) rfl rfl rfl (Nat.le_of_ble_eq_true rfl) dX11_init_67 (fun H locs M => ?_)
  have M : nM E A s H locs (w5 ++ [(b, .inr (11, [.ref (g2 0), .ref (g4 0), .ref (g6 0), .ref (g8 0), .ref a9, .ref (g11 0), .null, .null, .null, .int 0, .int 0, .int 0, .int 0, .int 0])), (a9, .inl (E.2.1 6, 6, .inr (.inr (.inr (.inr (fun _ => none))))))]) := M
  refine lv_aload_n C.1 C.2.1 dX11_init_70 rfl (lv_at hl 0 rfl) ?_
  refine n_new (ci := 2) C M rfl lc11_52 in2 ini2 [.null, .int 0, .int 0] df_2 (Nat.le_of_ble_eq_true rfl) (Nat.le_of_ble_eq_true rfl) dX11_init_71 (fun q12 H M => ?_)
  have M : nM E A s H locs (w5 ++ [(b, .inr (11, [.ref (g2 0), .ref (g4 0), .ref (g6 0), .ref (g8 0), .ref a9, .ref (g11 0), .null, .null, .null, .int 0, .int 0, .int 0, .int 0, .int 0])), (a9, .inl (E.2.1 6, 6, .inr (.inr (.inr (.inr (fun _ => none)))))), (q12, .inr (2, [.null, .int 0, .int 0]))]) := M
  refine W.widen (k := 35) (n := 1639) (Nat.le_of_ble_eq_true rfl) (Nat.le_of_ble_eq_true rfl) ?_
  refine lv_dup C.1 C.2.1 dX11_init_74 rfl ?_
  have M : nM E A s H locs ((w5 ++ [(b, .inr (11, [.ref (g2 0), .ref (g4 0), .ref (g6 0), .ref (g8 0), .ref a9, .ref (g11 0), .null, .null, .null, .int 0, .int 0, .int 0, .int 0, .int 0])), (a9, .inl (E.2.1 6, 6, .inr (.inr (.inr (.inr (fun _ => none))))))]) ++ [(q12, .inr (2, [.null, .int 0, .int 0]))]) := by rw [List.append_assoc]; exact M
  refine n_callI (As := []) (rest := [.ref q12, .ref b]) C M (k_Crew l E (w5 ++ [(b, .inr (11, [.ref (g2 0), .ref (g4 0), .ref (g6 0), .ref (g8 0), .ref a9, .ref (g11 0), .null, .null, .null, .int 0, .int 0, .int 0, .int 0, .int 0])), (a9, .inl (E.2.1 6, 6, .inr (.inr (.inr (.inr (fun _ => none))))))]) q12) clX2_init imX2_init lk11_54 rfl rfl ⟨Nat.le_of_ble_eq_true rfl, Nat.le_of_ble_eq_true rfl⟩ hl.1 rfl (Nat.le_of_ble_eq_true rfl) dX11_init_75 ⟨Nat.le_of_ble_eq_true rfl, Nat.le_of_ble_eq_true rfl⟩ (fun ws H locs hR Mg13 => ?_)
  obtain ⟨g13, hg13, rfl⟩ := hR
  subst hg13
  refine W.widen (k := 36) (n := 1699) (Nat.le_of_ble_eq_true rfl) (Nat.le_of_ble_eq_true rfl) ?_
  have M := n_bury Mg13
  generalize hw6 : w5 ++ wCrew E g13 0 = w6 at M
  refine n_put C hin M 0 rfl (T := TX11) rfl 6 (by decide) (List.mem_of_getElem? (i := 420) (by decide +kernel)) (v := .ref (g13 0)) rfl rfl rfl (Nat.le_of_ble_eq_true rfl) dX11_init_78 (fun H locs M => ?_)
  have M : nM E A s H locs (w6 ++ [(b, .inr (11, [.ref (g2 0), .ref (g4 0), .ref (g6 0), .ref (g8 0), .ref a9, .ref (g11 0), .ref (g13 0), .null, .null, .int 0, .int 0, .int 0, .int 0, .int 0])), (a9, .inl (E.2.1 6, 6, .inr (.inr (.inr (.inr (fun _ => none))))))]) := M
  refine lv_aload_n C.1 C.2.1 dX11_init_81 rfl (lv_at hl 0 rfl) ?_
  refine lv_bipush (v := 8) C.1 C.2.1 dX11_init_82 (by decide) ?_
  refine n_arq (k := 8) C M 7 rfl C.2.2.2.2.2.2.1 lc11_59 (by decide) (by decide) (by decide) (Nat.le_of_ble_eq_true rfl) (Nat.le_of_ble_eq_true rfl) dX11_init_84 (fun a14 H M => ?_)
  have M : nM E A s H locs (w6 ++ [(b, .inr (11, [.ref (g2 0), .ref (g4 0), .ref (g6 0), .ref (g8 0), .ref a9, .ref (g11 0), .ref (g13 0), .null, .null, .int 0, .int 0, .int 0, .int 0, .int 0])), (a9, .inl (E.2.1 6, 6, .inr (.inr (.inr (.inr (fun _ => none)))))), (a14, .inl (E.2.1 7, 8, .inr (.inr (.inr (.inr (fun _ => none))))))]) := M
  refine W.widen (k := 37) (n := 1707) (Nat.le_of_ble_eq_true rfl) (Nat.le_of_ble_eq_true rfl) ?_
  refine n_put C hin M 0 rfl (T := TX11) rfl 7 (by decide) (List.mem_of_getElem? (i := 421) (by decide +kernel)) (v := .ref a14) rfl rfl rfl (Nat.le_of_ble_eq_true rfl) dX11_init_87 (fun H locs M => ?_)
  have M : nM E A s H locs (w6 ++ [(b, .inr (11, [.ref (g2 0), .ref (g4 0), .ref (g6 0), .ref (g8 0), .ref a9, .ref (g11 0), .ref (g13 0), .ref a14, .null, .int 0, .int 0, .int 0, .int 0, .int 0])), (a9, .inl (E.2.1 6, 6, .inr (.inr (.inr (.inr (fun _ => none)))))), (a14, .inl (E.2.1 7, 8, .inr (.inr (.inr (.inr (fun _ => none))))))]) := M
  refine lv_aload_n C.1 C.2.1 dX11_init_90 rfl (lv_at hl 0 rfl) ?_
  refine n_new (ci := 4) C M rfl lc11_65 in4 ini4 [.null, .null, .null, .int 0, .int 0, .int 0, .long 0, .long 0, .long 0, .int 0, .long 0] df_4 (Nat.le_of_ble_eq_true rfl) (Nat.le_of_ble_eq_true rfl) dX11_init_91 (fun q15 H M => ?_)
  have M : nM E A s H locs (w6 ++ [(b, .inr (11, [.ref (g2 0), .ref (g4 0), .ref (g6 0), .ref (g8 0), .ref a9, .ref (g11 0), .ref (g13 0), .ref a14, .null, .int 0, .int 0, .int 0, .int 0, .int 0])), (a9, .inl (E.2.1 6, 6, .inr (.inr (.inr (.inr (fun _ => none)))))), (a14, .inl (E.2.1 7, 8, .inr (.inr (.inr (.inr (fun _ => none)))))), (q15, .inr (4, [.null, .null, .null, .int 0, .int 0, .int 0, .long 0, .long 0, .long 0, .int 0, .long 0]))]) := M
  refine W.widen (k := 38) (n := 1718) (Nat.le_of_ble_eq_true rfl) (Nat.le_of_ble_eq_true rfl) ?_
  refine lv_dup C.1 C.2.1 dX11_init_94 rfl ?_
  have M : nM E A s H locs ((w6 ++ [(b, .inr (11, [.ref (g2 0), .ref (g4 0), .ref (g6 0), .ref (g8 0), .ref a9, .ref (g11 0), .ref (g13 0), .ref a14, .null, .int 0, .int 0, .int 0, .int 0, .int 0])), (a9, .inl (E.2.1 6, 6, .inr (.inr (.inr (.inr (fun _ => none)))))), (a14, .inl (E.2.1 7, 8, .inr (.inr (.inr (.inr (fun _ => none))))))]) ++ [(q15, .inr (4, [.null, .null, .null, .int 0, .int 0, .int 0, .long 0, .long 0, .long 0, .int 0, .long 0]))]) := by rw [List.append_assoc]; exact M
  refine n_callI (As := []) (rest := [.ref q15, .ref b]) C M (k_Judg l E (w6 ++ [(b, .inr (11, [.ref (g2 0), .ref (g4 0), .ref (g6 0), .ref (g8 0), .ref a9, .ref (g11 0), .ref (g13 0), .ref a14, .null, .int 0, .int 0, .int 0, .int 0, .int 0])), (a9, .inl (E.2.1 6, 6, .inr (.inr (.inr (.inr (fun _ => none)))))), (a14, .inl (E.2.1 7, 8, .inr (.inr (.inr (.inr (fun _ => none))))))]) q15) clX4_init imX4_init lk11_67 rfl rfl ⟨Nat.le_of_ble_eq_true rfl, Nat.le_of_ble_eq_true rfl⟩ hl.1 rfl (Nat.le_of_ble_eq_true rfl) dX11_init_95 ⟨Nat.le_of_ble_eq_true rfl, Nat.le_of_ble_eq_true rfl⟩ (fun ws H locs hR Mg16 => ?_)
  obtain ⟨g16, hg16, rfl⟩ := hR
  subst hg16
  refine W.widen (k := 57) (n := 2366) (Nat.le_of_ble_eq_true rfl) (Nat.le_of_ble_eq_true rfl) ?_
  have M := n_bury Mg16
  generalize hw7 : w6 ++ wJudg E g16 0 = w7 at M
  refine n_put C hin M 0 rfl (T := TX11) rfl 8 (by decide) (List.mem_of_getElem? (i := 422) (by decide +kernel)) (v := .ref (g16 0)) rfl rfl rfl (Nat.le_of_ble_eq_true rfl) dX11_init_98 (fun H locs M => ?_)
  have M : nM E A s H locs (w7 ++ [(b, .inr (11, [.ref (g2 0), .ref (g4 0), .ref (g6 0), .ref (g8 0), .ref a9, .ref (g11 0), .ref (g13 0), .ref a14, .ref (g16 0), .int 0, .int 0, .int 0, .int 0, .int 0])), (a9, .inl (E.2.1 6, 6, .inr (.inr (.inr (.inr (fun _ => none)))))), (a14, .inl (E.2.1 7, 8, .inr (.inr (.inr (.inr (fun _ => none))))))]) := M
  refine lv_iconst (v := 0) C.1 C.2.1 dX11_init_101 (by decide) ?_
  refine lv_istore_n (lv' := [(1, .int 0), (0, .ref b)]) C.1 C.2.1 dX11_init_102 rfl hl (by decide) rfl (fun ls hl => ?_)
  refine lv_iload_n C.1 C.2.1 dX11_init_103 rfl (lv_at hl 0 rfl) ?_
  refine lv_bipush (v := 6) C.1 C.2.1 dX11_init_104 (by decide) ?_
  refine lv_icmp_ge (tgt := 128) C.1 C.2.1 dX11_init_106 (by decide) (fun c9 => absurd c9 (by decide)) (fun _ => ?_)
  refine lv_aload_n C.1 C.2.1 dX11_init_109 rfl (lv_at hl 1 rfl) ?_
  refine n_get C M 0 rfl (T := TX11) rfl 4 (by decide) (List.mem_of_getElem? (i := 418) (by decide +kernel)) (v := .ref a9) rfl dX11_init_110 ?_
  refine lv_iload_n C.1 C.2.1 dX11_init_113 rfl (lv_at hl 0 rfl) ?_
  refine n_new (ci := 5) C M rfl lc11_37 in5 ini5 [.null, .int 0, .int 0, .int 0, .int 0, .int 0, .int 0] df_5 (Nat.le_of_ble_eq_true rfl) (Nat.le_of_ble_eq_true rfl) dX11_init_114 (fun q17 H M => ?_)
  have M : nM E A s H locs (w7 ++ [(b, .inr (11, [.ref (g2 0), .ref (g4 0), .ref (g6 0), .ref (g8 0), .ref a9, .ref (g11 0), .ref (g13 0), .ref a14, .ref (g16 0), .int 0, .int 0, .int 0, .int 0, .int 0])), (a9, .inl (E.2.1 6, 6, .inr (.inr (.inr (.inr (fun _ => none)))))), (a14, .inl (E.2.1 7, 8, .inr (.inr (.inr (.inr (fun _ => none)))))), (q17, .inr (5, [.null, .int 0, .int 0, .int 0, .int 0, .int 0, .int 0]))]) := M
  refine W.widen (k := 58) (n := 2373) (Nat.le_of_ble_eq_true rfl) (Nat.le_of_ble_eq_true rfl) ?_
  refine lv_dup C.1 C.2.1 dX11_init_117 rfl ?_
  have M : nM E A s H locs ((w7 ++ [(b, .inr (11, [.ref (g2 0), .ref (g4 0), .ref (g6 0), .ref (g8 0), .ref a9, .ref (g11 0), .ref (g13 0), .ref a14, .ref (g16 0), .int 0, .int 0, .int 0, .int 0, .int 0])), (a9, .inl (E.2.1 6, 6, .inr (.inr (.inr (.inr (fun _ => none)))))), (a14, .inl (E.2.1 7, 8, .inr (.inr (.inr (.inr (fun _ => none))))))]) ++ [(q17, .inr (5, [.null, .int 0, .int 0, .int 0, .int 0, .int 0, .int 0]))]) := by rw [List.append_assoc]; exact M
  refine n_callI (As := []) (rest := [.ref q17, .int 0, .ref a9]) C M (k_Law l E (w7 ++ [(b, .inr (11, [.ref (g2 0), .ref (g4 0), .ref (g6 0), .ref (g8 0), .ref a9, .ref (g11 0), .ref (g13 0), .ref a14, .ref (g16 0), .int 0, .int 0, .int 0, .int 0, .int 0])), (a9, .inl (E.2.1 6, 6, .inr (.inr (.inr (.inr (fun _ => none)))))), (a14, .inl (E.2.1 7, 8, .inr (.inr (.inr (.inr (fun _ => none))))))]) q17) clX5_init imX5_init lk11_72 rfl rfl ⟨Nat.le_of_ble_eq_true rfl, Nat.le_of_ble_eq_true rfl⟩ hl.1 rfl (Nat.le_of_ble_eq_true rfl) dX11_init_118 ⟨Nat.le_of_ble_eq_true rfl, Nat.le_of_ble_eq_true rfl⟩ (fun ws H locs hR Mg18 => ?_)
  obtain ⟨g18, hg18, rfl⟩ := hR
  subst hg18
  refine W.widen (k := 59) (n := 2378) (Nat.le_of_ble_eq_true rfl) (Nat.le_of_ble_eq_true rfl) ?_
  have M := n_bury Mg18
  refine n_astq C M 1 (w7.length + 0) 6 rfl rfl (nS_at (by rfl)) (ci := 5) rfl (x := 0) (by unfold vp_in; decide) dX11_init_121 (fun H locs M => ?_)
  have M : nM E A s H locs ((w7 ++ wLaw E g18 0) ++ [(b, .inr (11, [.ref (g2 0), .ref (g4 0), .ref (g6 0), .ref (g8 0), .ref a9, .ref (g11 0), .ref (g13 0), .ref a14, .ref (g16 0), .int 0, .int 0, .int 0, .int 0, .int 0])), (a9, .inl (E.2.1 6, 6, .inr (.inr (.inr (.inr (va_up (fun _ => none) 0 (some (g18 0)))))))), (a14, .inl (E.2.1 7, 8, .inr (.inr (.inr (.inr (fun _ => none))))))]) := M
  generalize hw8 : w7 ++ wLaw E g18 0 = w8 at M
  refine lv_iinc (v := 1) (lv' := [(1, .int 1), (0, .ref b)]) C.1 C.2.1 dX11_init_122 hl (k := 0) rfl (by decide) (by decide) rfl (fun ls hl => ?_)
  refine lv_goto (tgt := 103) C.1 C.2.1 dX11_init_125 (by decide) ?_
  refine lv_iload_n C.1 C.2.1 dX11_init_103 rfl (lv_at hl 0 rfl) ?_
  refine lv_bipush (v := 6) C.1 C.2.1 dX11_init_104 (by decide) ?_
  refine lv_icmp_ge (tgt := 128) C.1 C.2.1 dX11_init_106 (by decide) (fun c9 => absurd c9 (by decide)) (fun _ => ?_)
  refine lv_aload_n C.1 C.2.1 dX11_init_109 rfl (lv_at hl 1 rfl) ?_
  refine n_get C M 0 rfl (T := TX11) rfl 4 (by decide) (List.mem_of_getElem? (i := 418) (by decide +kernel)) (v := .ref a9) rfl dX11_init_110 ?_
  refine lv_iload_n C.1 C.2.1 dX11_init_113 rfl (lv_at hl 0 rfl) ?_
  refine n_new (ci := 5) C M rfl lc11_37 in5 ini5 [.null, .int 0, .int 0, .int 0, .int 0, .int 0, .int 0] df_5 (Nat.le_of_ble_eq_true rfl) (Nat.le_of_ble_eq_true rfl) dX11_init_114 (fun q19 H M => ?_)
  have M : nM E A s H locs (w8 ++ [(b, .inr (11, [.ref (g2 0), .ref (g4 0), .ref (g6 0), .ref (g8 0), .ref a9, .ref (g11 0), .ref (g13 0), .ref a14, .ref (g16 0), .int 0, .int 0, .int 0, .int 0, .int 0])), (a9, .inl (E.2.1 6, 6, .inr (.inr (.inr (.inr (va_up (fun _ => none) 0 (some (g18 0)))))))), (a14, .inl (E.2.1 7, 8, .inr (.inr (.inr (.inr (fun _ => none)))))), (q19, .inr (5, [.null, .int 0, .int 0, .int 0, .int 0, .int 0, .int 0]))]) := M
  refine W.widen (k := 60) (n := 2385) (Nat.le_of_ble_eq_true rfl) (Nat.le_of_ble_eq_true rfl) ?_
  refine lv_dup C.1 C.2.1 dX11_init_117 rfl ?_
  have M : nM E A s H locs ((w8 ++ [(b, .inr (11, [.ref (g2 0), .ref (g4 0), .ref (g6 0), .ref (g8 0), .ref a9, .ref (g11 0), .ref (g13 0), .ref a14, .ref (g16 0), .int 0, .int 0, .int 0, .int 0, .int 0])), (a9, .inl (E.2.1 6, 6, .inr (.inr (.inr (.inr (va_up (fun _ => none) 0 (some (g18 0)))))))), (a14, .inl (E.2.1 7, 8, .inr (.inr (.inr (.inr (fun _ => none))))))]) ++ [(q19, .inr (5, [.null, .int 0, .int 0, .int 0, .int 0, .int 0, .int 0]))]) := by rw [List.append_assoc]; exact M
  refine n_callI (As := []) (rest := [.ref q19, .int 1, .ref a9]) C M (k_Law l E (w8 ++ [(b, .inr (11, [.ref (g2 0), .ref (g4 0), .ref (g6 0), .ref (g8 0), .ref a9, .ref (g11 0), .ref (g13 0), .ref a14, .ref (g16 0), .int 0, .int 0, .int 0, .int 0, .int 0])), (a9, .inl (E.2.1 6, 6, .inr (.inr (.inr (.inr (va_up (fun _ => none) 0 (some (g18 0)))))))), (a14, .inl (E.2.1 7, 8, .inr (.inr (.inr (.inr (fun _ => none))))))]) q19) clX5_init imX5_init lk11_72 rfl rfl ⟨Nat.le_of_ble_eq_true rfl, Nat.le_of_ble_eq_true rfl⟩ hl.1 rfl (Nat.le_of_ble_eq_true rfl) dX11_init_118 ⟨Nat.le_of_ble_eq_true rfl, Nat.le_of_ble_eq_true rfl⟩ (fun ws H locs hR Mg20 => ?_)
  obtain ⟨g20, hg20, rfl⟩ := hR
  subst hg20
  refine W.widen (k := 61) (n := 2390) (Nat.le_of_ble_eq_true rfl) (Nat.le_of_ble_eq_true rfl) ?_
  have M := n_bury Mg20
  refine n_astq C M 1 (w8.length + 0) 6 rfl rfl (nS_at (by rfl)) (ci := 5) rfl (x := 1) (by unfold vp_in; decide) dX11_init_121 (fun H locs M => ?_)
  have M : nM E A s H locs ((w8 ++ wLaw E g20 0) ++ [(b, .inr (11, [.ref (g2 0), .ref (g4 0), .ref (g6 0), .ref (g8 0), .ref a9, .ref (g11 0), .ref (g13 0), .ref a14, .ref (g16 0), .int 0, .int 0, .int 0, .int 0, .int 0])), (a9, .inl (E.2.1 6, 6, .inr (.inr (.inr (.inr (va_up (va_up (fun _ => none) 0 (some (g18 0))) 1 (some (g20 0)))))))), (a14, .inl (E.2.1 7, 8, .inr (.inr (.inr (.inr (fun _ => none))))))]) := M
  generalize hw9 : w8 ++ wLaw E g20 0 = w9 at M
  refine lv_iinc (v := 2) (lv' := [(1, .int 2), (0, .ref b)]) C.1 C.2.1 dX11_init_122 hl (k := 0) rfl (by decide) (by decide) rfl (fun ls hl => ?_)
  refine lv_goto (tgt := 103) C.1 C.2.1 dX11_init_125 (by decide) ?_
  refine lv_iload_n C.1 C.2.1 dX11_init_103 rfl (lv_at hl 0 rfl) ?_
  refine lv_bipush (v := 6) C.1 C.2.1 dX11_init_104 (by decide) ?_
  refine lv_icmp_ge (tgt := 128) C.1 C.2.1 dX11_init_106 (by decide) (fun c9 => absurd c9 (by decide)) (fun _ => ?_)
  refine lv_aload_n C.1 C.2.1 dX11_init_109 rfl (lv_at hl 1 rfl) ?_
  refine n_get C M 0 rfl (T := TX11) rfl 4 (by decide) (List.mem_of_getElem? (i := 418) (by decide +kernel)) (v := .ref a9) rfl dX11_init_110 ?_
  refine lv_iload_n C.1 C.2.1 dX11_init_113 rfl (lv_at hl 0 rfl) ?_
  refine n_new (ci := 5) C M rfl lc11_37 in5 ini5 [.null, .int 0, .int 0, .int 0, .int 0, .int 0, .int 0] df_5 (Nat.le_of_ble_eq_true rfl) (Nat.le_of_ble_eq_true rfl) dX11_init_114 (fun q21 H M => ?_)
  have M : nM E A s H locs (w9 ++ [(b, .inr (11, [.ref (g2 0), .ref (g4 0), .ref (g6 0), .ref (g8 0), .ref a9, .ref (g11 0), .ref (g13 0), .ref a14, .ref (g16 0), .int 0, .int 0, .int 0, .int 0, .int 0])), (a9, .inl (E.2.1 6, 6, .inr (.inr (.inr (.inr (va_up (va_up (fun _ => none) 0 (some (g18 0))) 1 (some (g20 0)))))))), (a14, .inl (E.2.1 7, 8, .inr (.inr (.inr (.inr (fun _ => none)))))), (q21, .inr (5, [.null, .int 0, .int 0, .int 0, .int 0, .int 0, .int 0]))]) := M
  refine W.widen (k := 62) (n := 2397) (Nat.le_of_ble_eq_true rfl) (Nat.le_of_ble_eq_true rfl) ?_
  refine lv_dup C.1 C.2.1 dX11_init_117 rfl ?_
  have M : nM E A s H locs ((w9 ++ [(b, .inr (11, [.ref (g2 0), .ref (g4 0), .ref (g6 0), .ref (g8 0), .ref a9, .ref (g11 0), .ref (g13 0), .ref a14, .ref (g16 0), .int 0, .int 0, .int 0, .int 0, .int 0])), (a9, .inl (E.2.1 6, 6, .inr (.inr (.inr (.inr (va_up (va_up (fun _ => none) 0 (some (g18 0))) 1 (some (g20 0)))))))), (a14, .inl (E.2.1 7, 8, .inr (.inr (.inr (.inr (fun _ => none))))))]) ++ [(q21, .inr (5, [.null, .int 0, .int 0, .int 0, .int 0, .int 0, .int 0]))]) := by rw [List.append_assoc]; exact M
  refine n_callI (As := []) (rest := [.ref q21, .int 2, .ref a9]) C M (k_Law l E (w9 ++ [(b, .inr (11, [.ref (g2 0), .ref (g4 0), .ref (g6 0), .ref (g8 0), .ref a9, .ref (g11 0), .ref (g13 0), .ref a14, .ref (g16 0), .int 0, .int 0, .int 0, .int 0, .int 0])), (a9, .inl (E.2.1 6, 6, .inr (.inr (.inr (.inr (va_up (va_up (fun _ => none) 0 (some (g18 0))) 1 (some (g20 0)))))))), (a14, .inl (E.2.1 7, 8, .inr (.inr (.inr (.inr (fun _ => none))))))]) q21) clX5_init imX5_init lk11_72 rfl rfl ⟨Nat.le_of_ble_eq_true rfl, Nat.le_of_ble_eq_true rfl⟩ hl.1 rfl (Nat.le_of_ble_eq_true rfl) dX11_init_118 ⟨Nat.le_of_ble_eq_true rfl, Nat.le_of_ble_eq_true rfl⟩ (fun ws H locs hR Mg22 => ?_)
  obtain ⟨g22, hg22, rfl⟩ := hR
  subst hg22
  refine W.widen (k := 63) (n := 2402) (Nat.le_of_ble_eq_true rfl) (Nat.le_of_ble_eq_true rfl) ?_
  have M := n_bury Mg22
  refine n_astq C M 1 (w9.length + 0) 6 rfl rfl (nS_at (by rfl)) (ci := 5) rfl (x := 2) (by unfold vp_in; decide) dX11_init_121 (fun H locs M => ?_)
  have M : nM E A s H locs ((w9 ++ wLaw E g22 0) ++ [(b, .inr (11, [.ref (g2 0), .ref (g4 0), .ref (g6 0), .ref (g8 0), .ref a9, .ref (g11 0), .ref (g13 0), .ref a14, .ref (g16 0), .int 0, .int 0, .int 0, .int 0, .int 0])), (a9, .inl (E.2.1 6, 6, .inr (.inr (.inr (.inr (va_up (va_up (va_up (fun _ => none) 0 (some (g18 0))) 1 (some (g20 0))) 2 (some (g22 0)))))))), (a14, .inl (E.2.1 7, 8, .inr (.inr (.inr (.inr (fun _ => none))))))]) := M
  generalize hw10 : w9 ++ wLaw E g22 0 = w10 at M
  refine lv_iinc (v := 3) (lv' := [(1, .int 3), (0, .ref b)]) C.1 C.2.1 dX11_init_122 hl (k := 0) rfl (by decide) (by decide) rfl (fun ls hl => ?_)
  refine lv_goto (tgt := 103) C.1 C.2.1 dX11_init_125 (by decide) ?_
  refine lv_iload_n C.1 C.2.1 dX11_init_103 rfl (lv_at hl 0 rfl) ?_
  refine lv_bipush (v := 6) C.1 C.2.1 dX11_init_104 (by decide) ?_
  refine lv_icmp_ge (tgt := 128) C.1 C.2.1 dX11_init_106 (by decide) (fun c9 => absurd c9 (by decide)) (fun _ => ?_)
  refine lv_aload_n C.1 C.2.1 dX11_init_109 rfl (lv_at hl 1 rfl) ?_
  refine n_get C M 0 rfl (T := TX11) rfl 4 (by decide) (List.mem_of_getElem? (i := 418) (by decide +kernel)) (v := .ref a9) rfl dX11_init_110 ?_
  refine lv_iload_n C.1 C.2.1 dX11_init_113 rfl (lv_at hl 0 rfl) ?_
  refine n_new (ci := 5) C M rfl lc11_37 in5 ini5 [.null, .int 0, .int 0, .int 0, .int 0, .int 0, .int 0] df_5 (Nat.le_of_ble_eq_true rfl) (Nat.le_of_ble_eq_true rfl) dX11_init_114 (fun q23 H M => ?_)
  have M : nM E A s H locs (w10 ++ [(b, .inr (11, [.ref (g2 0), .ref (g4 0), .ref (g6 0), .ref (g8 0), .ref a9, .ref (g11 0), .ref (g13 0), .ref a14, .ref (g16 0), .int 0, .int 0, .int 0, .int 0, .int 0])), (a9, .inl (E.2.1 6, 6, .inr (.inr (.inr (.inr (va_up (va_up (va_up (fun _ => none) 0 (some (g18 0))) 1 (some (g20 0))) 2 (some (g22 0)))))))), (a14, .inl (E.2.1 7, 8, .inr (.inr (.inr (.inr (fun _ => none)))))), (q23, .inr (5, [.null, .int 0, .int 0, .int 0, .int 0, .int 0, .int 0]))]) := M
  refine W.widen (k := 64) (n := 2409) (Nat.le_of_ble_eq_true rfl) (Nat.le_of_ble_eq_true rfl) ?_
  refine lv_dup C.1 C.2.1 dX11_init_117 rfl ?_
  have M : nM E A s H locs ((w10 ++ [(b, .inr (11, [.ref (g2 0), .ref (g4 0), .ref (g6 0), .ref (g8 0), .ref a9, .ref (g11 0), .ref (g13 0), .ref a14, .ref (g16 0), .int 0, .int 0, .int 0, .int 0, .int 0])), (a9, .inl (E.2.1 6, 6, .inr (.inr (.inr (.inr (va_up (va_up (va_up (fun _ => none) 0 (some (g18 0))) 1 (some (g20 0))) 2 (some (g22 0)))))))), (a14, .inl (E.2.1 7, 8, .inr (.inr (.inr (.inr (fun _ => none))))))]) ++ [(q23, .inr (5, [.null, .int 0, .int 0, .int 0, .int 0, .int 0, .int 0]))]) := by rw [List.append_assoc]; exact M
  refine n_callI (As := []) (rest := [.ref q23, .int 3, .ref a9]) C M (k_Law l E (w10 ++ [(b, .inr (11, [.ref (g2 0), .ref (g4 0), .ref (g6 0), .ref (g8 0), .ref a9, .ref (g11 0), .ref (g13 0), .ref a14, .ref (g16 0), .int 0, .int 0, .int 0, .int 0, .int 0])), (a9, .inl (E.2.1 6, 6, .inr (.inr (.inr (.inr (va_up (va_up (va_up (fun _ => none) 0 (some (g18 0))) 1 (some (g20 0))) 2 (some (g22 0)))))))), (a14, .inl (E.2.1 7, 8, .inr (.inr (.inr (.inr (fun _ => none))))))]) q23) clX5_init imX5_init lk11_72 rfl rfl ⟨Nat.le_of_ble_eq_true rfl, Nat.le_of_ble_eq_true rfl⟩ hl.1 rfl (Nat.le_of_ble_eq_true rfl) dX11_init_118 ⟨Nat.le_of_ble_eq_true rfl, Nat.le_of_ble_eq_true rfl⟩ (fun ws H locs hR Mg24 => ?_)
  obtain ⟨g24, hg24, rfl⟩ := hR
  subst hg24
  refine W.widen (k := 65) (n := 2414) (Nat.le_of_ble_eq_true rfl) (Nat.le_of_ble_eq_true rfl) ?_
  have M := n_bury Mg24
  refine n_astq C M 1 (w10.length + 0) 6 rfl rfl (nS_at (by rfl)) (ci := 5) rfl (x := 3) (by unfold vp_in; decide) dX11_init_121 (fun H locs M => ?_)
  have M : nM E A s H locs ((w10 ++ wLaw E g24 0) ++ [(b, .inr (11, [.ref (g2 0), .ref (g4 0), .ref (g6 0), .ref (g8 0), .ref a9, .ref (g11 0), .ref (g13 0), .ref a14, .ref (g16 0), .int 0, .int 0, .int 0, .int 0, .int 0])), (a9, .inl (E.2.1 6, 6, .inr (.inr (.inr (.inr (va_up (va_up (va_up (va_up (fun _ => none) 0 (some (g18 0))) 1 (some (g20 0))) 2 (some (g22 0))) 3 (some (g24 0)))))))), (a14, .inl (E.2.1 7, 8, .inr (.inr (.inr (.inr (fun _ => none))))))]) := M
  generalize hw11 : w10 ++ wLaw E g24 0 = w11 at M
  refine lv_iinc (v := 4) (lv' := [(1, .int 4), (0, .ref b)]) C.1 C.2.1 dX11_init_122 hl (k := 0) rfl (by decide) (by decide) rfl (fun ls hl => ?_)
  refine lv_goto (tgt := 103) C.1 C.2.1 dX11_init_125 (by decide) ?_
  refine lv_iload_n C.1 C.2.1 dX11_init_103 rfl (lv_at hl 0 rfl) ?_
  refine lv_bipush (v := 6) C.1 C.2.1 dX11_init_104 (by decide) ?_
  refine lv_icmp_ge (tgt := 128) C.1 C.2.1 dX11_init_106 (by decide) (fun c9 => absurd c9 (by decide)) (fun _ => ?_)
  refine lv_aload_n C.1 C.2.1 dX11_init_109 rfl (lv_at hl 1 rfl) ?_
  refine n_get C M 0 rfl (T := TX11) rfl 4 (by decide) (List.mem_of_getElem? (i := 418) (by decide +kernel)) (v := .ref a9) rfl dX11_init_110 ?_
  refine lv_iload_n C.1 C.2.1 dX11_init_113 rfl (lv_at hl 0 rfl) ?_
  refine n_new (ci := 5) C M rfl lc11_37 in5 ini5 [.null, .int 0, .int 0, .int 0, .int 0, .int 0, .int 0] df_5 (Nat.le_of_ble_eq_true rfl) (Nat.le_of_ble_eq_true rfl) dX11_init_114 (fun q25 H M => ?_)
  have M : nM E A s H locs (w11 ++ [(b, .inr (11, [.ref (g2 0), .ref (g4 0), .ref (g6 0), .ref (g8 0), .ref a9, .ref (g11 0), .ref (g13 0), .ref a14, .ref (g16 0), .int 0, .int 0, .int 0, .int 0, .int 0])), (a9, .inl (E.2.1 6, 6, .inr (.inr (.inr (.inr (va_up (va_up (va_up (va_up (fun _ => none) 0 (some (g18 0))) 1 (some (g20 0))) 2 (some (g22 0))) 3 (some (g24 0)))))))), (a14, .inl (E.2.1 7, 8, .inr (.inr (.inr (.inr (fun _ => none)))))), (q25, .inr (5, [.null, .int 0, .int 0, .int 0, .int 0, .int 0, .int 0]))]) := M
  refine W.widen (k := 66) (n := 2421) (Nat.le_of_ble_eq_true rfl) (Nat.le_of_ble_eq_true rfl) ?_
  refine lv_dup C.1 C.2.1 dX11_init_117 rfl ?_
  have M : nM E A s H locs ((w11 ++ [(b, .inr (11, [.ref (g2 0), .ref (g4 0), .ref (g6 0), .ref (g8 0), .ref a9, .ref (g11 0), .ref (g13 0), .ref a14, .ref (g16 0), .int 0, .int 0, .int 0, .int 0, .int 0])), (a9, .inl (E.2.1 6, 6, .inr (.inr (.inr (.inr (va_up (va_up (va_up (va_up (fun _ => none) 0 (some (g18 0))) 1 (some (g20 0))) 2 (some (g22 0))) 3 (some (g24 0)))))))), (a14, .inl (E.2.1 7, 8, .inr (.inr (.inr (.inr (fun _ => none))))))]) ++ [(q25, .inr (5, [.null, .int 0, .int 0, .int 0, .int 0, .int 0, .int 0]))]) := by rw [List.append_assoc]; exact M
  refine n_callI (As := []) (rest := [.ref q25, .int 4, .ref a9]) C M (k_Law l E (w11 ++ [(b, .inr (11, [.ref (g2 0), .ref (g4 0), .ref (g6 0), .ref (g8 0), .ref a9, .ref (g11 0), .ref (g13 0), .ref a14, .ref (g16 0), .int 0, .int 0, .int 0, .int 0, .int 0])), (a9, .inl (E.2.1 6, 6, .inr (.inr (.inr (.inr (va_up (va_up (va_up (va_up (fun _ => none) 0 (some (g18 0))) 1 (some (g20 0))) 2 (some (g22 0))) 3 (some (g24 0)))))))), (a14, .inl (E.2.1 7, 8, .inr (.inr (.inr (.inr (fun _ => none))))))]) q25) clX5_init imX5_init lk11_72 rfl rfl ⟨Nat.le_of_ble_eq_true rfl, Nat.le_of_ble_eq_true rfl⟩ hl.1 rfl (Nat.le_of_ble_eq_true rfl) dX11_init_118 ⟨Nat.le_of_ble_eq_true rfl, Nat.le_of_ble_eq_true rfl⟩ (fun ws H locs hR Mg26 => ?_)
  obtain ⟨g26, hg26, rfl⟩ := hR
  subst hg26
  refine W.widen (k := 67) (n := 2426) (Nat.le_of_ble_eq_true rfl) (Nat.le_of_ble_eq_true rfl) ?_
  have M := n_bury Mg26
  refine n_astq C M 1 (w11.length + 0) 6 rfl rfl (nS_at (by rfl)) (ci := 5) rfl (x := 4) (by unfold vp_in; decide) dX11_init_121 (fun H locs M => ?_)
  have M : nM E A s H locs ((w11 ++ wLaw E g26 0) ++ [(b, .inr (11, [.ref (g2 0), .ref (g4 0), .ref (g6 0), .ref (g8 0), .ref a9, .ref (g11 0), .ref (g13 0), .ref a14, .ref (g16 0), .int 0, .int 0, .int 0, .int 0, .int 0])), (a9, .inl (E.2.1 6, 6, .inr (.inr (.inr (.inr (va_up (va_up (va_up (va_up (va_up (fun _ => none) 0 (some (g18 0))) 1 (some (g20 0))) 2 (some (g22 0))) 3 (some (g24 0))) 4 (some (g26 0)))))))), (a14, .inl (E.2.1 7, 8, .inr (.inr (.inr (.inr (fun _ => none))))))]) := M
  generalize hw12 : w11 ++ wLaw E g26 0 = w12 at M
  refine lv_iinc (v := 5) (lv' := [(1, .int 5), (0, .ref b)]) C.1 C.2.1 dX11_init_122 hl (k := 0) rfl (by decide) (by decide) rfl (fun ls hl => ?_)
  refine lv_goto (tgt := 103) C.1 C.2.1 dX11_init_125 (by decide) ?_
  refine lv_iload_n C.1 C.2.1 dX11_init_103 rfl (lv_at hl 0 rfl) ?_
  refine lv_bipush (v := 6) C.1 C.2.1 dX11_init_104 (by decide) ?_
  refine lv_icmp_ge (tgt := 128) C.1 C.2.1 dX11_init_106 (by decide) (fun c9 => absurd c9 (by decide)) (fun _ => ?_)
  refine lv_aload_n C.1 C.2.1 dX11_init_109 rfl (lv_at hl 1 rfl) ?_
  refine n_get C M 0 rfl (T := TX11) rfl 4 (by decide) (List.mem_of_getElem? (i := 418) (by decide +kernel)) (v := .ref a9) rfl dX11_init_110 ?_
  refine lv_iload_n C.1 C.2.1 dX11_init_113 rfl (lv_at hl 0 rfl) ?_
  refine n_new (ci := 5) C M rfl lc11_37 in5 ini5 [.null, .int 0, .int 0, .int 0, .int 0, .int 0, .int 0] df_5 (Nat.le_of_ble_eq_true rfl) (Nat.le_of_ble_eq_true rfl) dX11_init_114 (fun q27 H M => ?_)
  have M : nM E A s H locs (w12 ++ [(b, .inr (11, [.ref (g2 0), .ref (g4 0), .ref (g6 0), .ref (g8 0), .ref a9, .ref (g11 0), .ref (g13 0), .ref a14, .ref (g16 0), .int 0, .int 0, .int 0, .int 0, .int 0])), (a9, .inl (E.2.1 6, 6, .inr (.inr (.inr (.inr (va_up (va_up (va_up (va_up (va_up (fun _ => none) 0 (some (g18 0))) 1 (some (g20 0))) 2 (some (g22 0))) 3 (some (g24 0))) 4 (some (g26 0)))))))), (a14, .inl (E.2.1 7, 8, .inr (.inr (.inr (.inr (fun _ => none)))))), (q27, .inr (5, [.null, .int 0, .int 0, .int 0, .int 0, .int 0, .int 0]))]) := M
  refine W.widen (k := 68) (n := 2433) (Nat.le_of_ble_eq_true rfl) (Nat.le_of_ble_eq_true rfl) ?_
  refine lv_dup C.1 C.2.1 dX11_init_117 rfl ?_
  have M : nM E A s H locs ((w12 ++ [(b, .inr (11, [.ref (g2 0), .ref (g4 0), .ref (g6 0), .ref (g8 0), .ref a9, .ref (g11 0), .ref (g13 0), .ref a14, .ref (g16 0), .int 0, .int 0, .int 0, .int 0, .int 0])), (a9, .inl (E.2.1 6, 6, .inr (.inr (.inr (.inr (va_up (va_up (va_up (va_up (va_up (fun _ => none) 0 (some (g18 0))) 1 (some (g20 0))) 2 (some (g22 0))) 3 (some (g24 0))) 4 (some (g26 0)))))))), (a14, .inl (E.2.1 7, 8, .inr (.inr (.inr (.inr (fun _ => none))))))]) ++ [(q27, .inr (5, [.null, .int 0, .int 0, .int 0, .int 0, .int 0, .int 0]))]) := by rw [List.append_assoc]; exact M
  refine n_callI (As := []) (rest := [.ref q27, .int 5, .ref a9]) C M (k_Law l E (w12 ++ [(b, .inr (11, [.ref (g2 0), .ref (g4 0), .ref (g6 0), .ref (g8 0), .ref a9, .ref (g11 0), .ref (g13 0), .ref a14, .ref (g16 0), .int 0, .int 0, .int 0, .int 0, .int 0])), (a9, .inl (E.2.1 6, 6, .inr (.inr (.inr (.inr (va_up (va_up (va_up (va_up (va_up (fun _ => none) 0 (some (g18 0))) 1 (some (g20 0))) 2 (some (g22 0))) 3 (some (g24 0))) 4 (some (g26 0)))))))), (a14, .inl (E.2.1 7, 8, .inr (.inr (.inr (.inr (fun _ => none))))))]) q27) clX5_init imX5_init lk11_72 rfl rfl ⟨Nat.le_of_ble_eq_true rfl, Nat.le_of_ble_eq_true rfl⟩ hl.1 rfl (Nat.le_of_ble_eq_true rfl) dX11_init_118 ⟨Nat.le_of_ble_eq_true rfl, Nat.le_of_ble_eq_true rfl⟩ (fun ws H locs hR Mg28 => ?_)
  obtain ⟨g28, hg28, rfl⟩ := hR
  subst hg28
  refine W.widen (k := 69) (n := 2438) (Nat.le_of_ble_eq_true rfl) (Nat.le_of_ble_eq_true rfl) ?_
  have M := n_bury Mg28
  refine n_astq C M 1 (w12.length + 0) 6 rfl rfl (nS_at (by rfl)) (ci := 5) rfl (x := 5) (by unfold vp_in; decide) dX11_init_121 (fun H locs M => ?_)
  have M : nM E A s H locs ((w12 ++ wLaw E g28 0) ++ [(b, .inr (11, [.ref (g2 0), .ref (g4 0), .ref (g6 0), .ref (g8 0), .ref a9, .ref (g11 0), .ref (g13 0), .ref a14, .ref (g16 0), .int 0, .int 0, .int 0, .int 0, .int 0])), (a9, .inl (E.2.1 6, 6, .inr (.inr (.inr (.inr (va_up (va_up (va_up (va_up (va_up (va_up (fun _ => none) 0 (some (g18 0))) 1 (some (g20 0))) 2 (some (g22 0))) 3 (some (g24 0))) 4 (some (g26 0))) 5 (some (g28 0)))))))), (a14, .inl (E.2.1 7, 8, .inr (.inr (.inr (.inr (fun _ => none))))))]) := M
  generalize hw13 : w12 ++ wLaw E g28 0 = w13 at M
  refine lv_iinc (v := 6) (lv' := [(1, .int 6), (0, .ref b)]) C.1 C.2.1 dX11_init_122 hl (k := 0) rfl (by decide) (by decide) rfl (fun ls hl => ?_)
  refine lv_goto (tgt := 103) C.1 C.2.1 dX11_init_125 (by decide) ?_
  refine lv_iload_n C.1 C.2.1 dX11_init_103 rfl (lv_at hl 0 rfl) ?_
  refine lv_bipush (v := 6) C.1 C.2.1 dX11_init_104 (by decide) ?_
  refine lv_icmp_ge (tgt := 128) C.1 C.2.1 dX11_init_106 (by decide) (fun _ => ?_) (fun c9 => absurd (by decide) c9)
  refine lv_iconst (v := 0) C.1 C.2.1 dX11_init_128 (by decide) ?_
  refine lv_istore_n (lv' := [(1, .int 0), (0, .ref b)]) C.1 C.2.1 dX11_init_129 rfl hl (by decide) rfl (fun ls hl => ?_)
  refine lv_iload_n C.1 C.2.1 dX11_init_130 rfl (lv_at hl 0 rfl) ?_
  refine lv_bipush (v := 8) C.1 C.2.1 dX11_init_131 (by decide) ?_
  refine lv_icmp_ge (tgt := 155) C.1 C.2.1 dX11_init_133 (by decide) (fun c9 => absurd c9 (by decide)) (fun _ => ?_)
  refine lv_aload_n C.1 C.2.1 dX11_init_136 rfl (lv_at hl 1 rfl) ?_
  refine n_get C M 0 rfl (T := TX11) rfl 7 (by decide) (List.mem_of_getElem? (i := 421) (by decide +kernel)) (v := .ref a14) rfl dX11_init_137 ?_
  refine lv_iload_n C.1 C.2.1 dX11_init_140 rfl (lv_at hl 0 rfl) ?_
  refine n_new (ci := 7) C M rfl lc11_59 in7 ini7 [.null, .int 0, .int 0, .int 0, .int 0, .int 0, .int 0] df_7 (Nat.le_of_ble_eq_true rfl) (Nat.le_of_ble_eq_true rfl) dX11_init_141 (fun q29 H M => ?_)
  have M : nM E A s H locs (w13 ++ [(b, .inr (11, [.ref (g2 0), .ref (g4 0), .ref (g6 0), .ref (g8 0), .ref a9, .ref (g11 0), .ref (g13 0), .ref a14, .ref (g16 0), .int 0, .int 0, .int 0, .int 0, .int 0])), (a9, .inl (E.2.1 6, 6, .inr (.inr (.inr (.inr (va_up (va_up (va_up (va_up (va_up (va_up (fun _ => none) 0 (some (g18 0))) 1 (some (g20 0))) 2 (some (g22 0))) 3 (some (g24 0))) 4 (some (g26 0))) 5 (some (g28 0)))))))), (a14, .inl (E.2.1 7, 8, .inr (.inr (.inr (.inr (fun _ => none)))))), (q29, .inr (7, [.null, .int 0, .int 0, .int 0, .int 0, .int 0, .int 0]))]) := M
  refine W.widen (k := 70) (n := 2445) (Nat.le_of_ble_eq_true rfl) (Nat.le_of_ble_eq_true rfl) ?_
  refine lv_dup C.1 C.2.1 dX11_init_144 rfl ?_
  have M : nM E A s H locs ((w13 ++ [(b, .inr (11, [.ref (g2 0), .ref (g4 0), .ref (g6 0), .ref (g8 0), .ref a9, .ref (g11 0), .ref (g13 0), .ref a14, .ref (g16 0), .int 0, .int 0, .int 0, .int 0, .int 0])), (a9, .inl (E.2.1 6, 6, .inr (.inr (.inr (.inr (va_up (va_up (va_up (va_up (va_up (va_up (fun _ => none) 0 (some (g18 0))) 1 (some (g20 0))) 2 (some (g22 0))) 3 (some (g24 0))) 4 (some (g26 0))) 5 (some (g28 0)))))))), (a14, .inl (E.2.1 7, 8, .inr (.inr (.inr (.inr (fun _ => none))))))]) ++ [(q29, .inr (7, [.null, .int 0, .int 0, .int 0, .int 0, .int 0, .int 0]))]) := by rw [List.append_assoc]; exact M
  refine n_callI (As := []) (rest := [.ref q29, .int 0, .ref a14]) C M (k_Ship l E (w13 ++ [(b, .inr (11, [.ref (g2 0), .ref (g4 0), .ref (g6 0), .ref (g8 0), .ref a9, .ref (g11 0), .ref (g13 0), .ref a14, .ref (g16 0), .int 0, .int 0, .int 0, .int 0, .int 0])), (a9, .inl (E.2.1 6, 6, .inr (.inr (.inr (.inr (va_up (va_up (va_up (va_up (va_up (va_up (fun _ => none) 0 (some (g18 0))) 1 (some (g20 0))) 2 (some (g22 0))) 3 (some (g24 0))) 4 (some (g26 0))) 5 (some (g28 0)))))))), (a14, .inl (E.2.1 7, 8, .inr (.inr (.inr (.inr (fun _ => none))))))]) q29) clX7_init imX7_init lk11_73 rfl rfl ⟨Nat.le_of_ble_eq_true rfl, Nat.le_of_ble_eq_true rfl⟩ hl.1 rfl (Nat.le_of_ble_eq_true rfl) dX11_init_145 ⟨Nat.le_of_ble_eq_true rfl, Nat.le_of_ble_eq_true rfl⟩ (fun ws H locs hR Mg30 => ?_)
  obtain ⟨g30, hg30, rfl⟩ := hR
  subst hg30
  refine W.widen (k := 72) (n := 2508) (Nat.le_of_ble_eq_true rfl) (Nat.le_of_ble_eq_true rfl) ?_
  have M := n_bury Mg30
  refine n_astq C M 2 (w13.length + 2) 7 rfl rfl (nS_at (by rfl)) (ci := 7) rfl (x := 0) (by unfold vp_in; decide) dX11_init_148 (fun H locs M => ?_)
  have M : nM E A s H locs ((w13 ++ wShip E g30 0) ++ [(b, .inr (11, [.ref (g2 0), .ref (g4 0), .ref (g6 0), .ref (g8 0), .ref a9, .ref (g11 0), .ref (g13 0), .ref a14, .ref (g16 0), .int 0, .int 0, .int 0, .int 0, .int 0])), (a9, .inl (E.2.1 6, 6, .inr (.inr (.inr (.inr (va_up (va_up (va_up (va_up (va_up (va_up (fun _ => none) 0 (some (g18 0))) 1 (some (g20 0))) 2 (some (g22 0))) 3 (some (g24 0))) 4 (some (g26 0))) 5 (some (g28 0)))))))), (a14, .inl (E.2.1 7, 8, .inr (.inr (.inr (.inr (va_up (fun _ => none) 0 (some (g30 0))))))))]) := M
  generalize hw14 : w13 ++ wShip E g30 0 = w14 at M
  refine lv_iinc (v := 1) (lv' := [(1, .int 1), (0, .ref b)]) C.1 C.2.1 dX11_init_149 hl (k := 0) rfl (by decide) (by decide) rfl (fun ls hl => ?_)
  refine lv_goto (tgt := 130) C.1 C.2.1 dX11_init_152 (by decide) ?_
  refine lv_iload_n C.1 C.2.1 dX11_init_130 rfl (lv_at hl 0 rfl) ?_
  refine lv_bipush (v := 8) C.1 C.2.1 dX11_init_131 (by decide) ?_
  refine lv_icmp_ge (tgt := 155) C.1 C.2.1 dX11_init_133 (by decide) (fun c9 => absurd c9 (by decide)) (fun _ => ?_)
  refine lv_aload_n C.1 C.2.1 dX11_init_136 rfl (lv_at hl 1 rfl) ?_
  refine n_get C M 0 rfl (T := TX11) rfl 7 (by decide) (List.mem_of_getElem? (i := 421) (by decide +kernel)) (v := .ref a14) rfl dX11_init_137 ?_
  refine lv_iload_n C.1 C.2.1 dX11_init_140 rfl (lv_at hl 0 rfl) ?_
  refine n_new (ci := 7) C M rfl lc11_59 in7 ini7 [.null, .int 0, .int 0, .int 0, .int 0, .int 0, .int 0] df_7 (Nat.le_of_ble_eq_true rfl) (Nat.le_of_ble_eq_true rfl) dX11_init_141 (fun q31 H M => ?_)
  have M : nM E A s H locs (w14 ++ [(b, .inr (11, [.ref (g2 0), .ref (g4 0), .ref (g6 0), .ref (g8 0), .ref a9, .ref (g11 0), .ref (g13 0), .ref a14, .ref (g16 0), .int 0, .int 0, .int 0, .int 0, .int 0])), (a9, .inl (E.2.1 6, 6, .inr (.inr (.inr (.inr (va_up (va_up (va_up (va_up (va_up (va_up (fun _ => none) 0 (some (g18 0))) 1 (some (g20 0))) 2 (some (g22 0))) 3 (some (g24 0))) 4 (some (g26 0))) 5 (some (g28 0)))))))), (a14, .inl (E.2.1 7, 8, .inr (.inr (.inr (.inr (va_up (fun _ => none) 0 (some (g30 0)))))))), (q31, .inr (7, [.null, .int 0, .int 0, .int 0, .int 0, .int 0, .int 0]))]) := M
  refine W.widen (k := 73) (n := 2515) (Nat.le_of_ble_eq_true rfl) (Nat.le_of_ble_eq_true rfl) ?_
  refine lv_dup C.1 C.2.1 dX11_init_144 rfl ?_
  have M : nM E A s H locs ((w14 ++ [(b, .inr (11, [.ref (g2 0), .ref (g4 0), .ref (g6 0), .ref (g8 0), .ref a9, .ref (g11 0), .ref (g13 0), .ref a14, .ref (g16 0), .int 0, .int 0, .int 0, .int 0, .int 0])), (a9, .inl (E.2.1 6, 6, .inr (.inr (.inr (.inr (va_up (va_up (va_up (va_up (va_up (va_up (fun _ => none) 0 (some (g18 0))) 1 (some (g20 0))) 2 (some (g22 0))) 3 (some (g24 0))) 4 (some (g26 0))) 5 (some (g28 0)))))))), (a14, .inl (E.2.1 7, 8, .inr (.inr (.inr (.inr (va_up (fun _ => none) 0 (some (g30 0))))))))]) ++ [(q31, .inr (7, [.null, .int 0, .int 0, .int 0, .int 0, .int 0, .int 0]))]) := by rw [List.append_assoc]; exact M
  refine n_callI (As := []) (rest := [.ref q31, .int 1, .ref a14]) C M (k_Ship l E (w14 ++ [(b, .inr (11, [.ref (g2 0), .ref (g4 0), .ref (g6 0), .ref (g8 0), .ref a9, .ref (g11 0), .ref (g13 0), .ref a14, .ref (g16 0), .int 0, .int 0, .int 0, .int 0, .int 0])), (a9, .inl (E.2.1 6, 6, .inr (.inr (.inr (.inr (va_up (va_up (va_up (va_up (va_up (va_up (fun _ => none) 0 (some (g18 0))) 1 (some (g20 0))) 2 (some (g22 0))) 3 (some (g24 0))) 4 (some (g26 0))) 5 (some (g28 0)))))))), (a14, .inl (E.2.1 7, 8, .inr (.inr (.inr (.inr (va_up (fun _ => none) 0 (some (g30 0))))))))]) q31) clX7_init imX7_init lk11_73 rfl rfl ⟨Nat.le_of_ble_eq_true rfl, Nat.le_of_ble_eq_true rfl⟩ hl.1 rfl (Nat.le_of_ble_eq_true rfl) dX11_init_145 ⟨Nat.le_of_ble_eq_true rfl, Nat.le_of_ble_eq_true rfl⟩ (fun ws H locs hR Mg32 => ?_)
  obtain ⟨g32, hg32, rfl⟩ := hR
  subst hg32
  refine W.widen (k := 75) (n := 2578) (Nat.le_of_ble_eq_true rfl) (Nat.le_of_ble_eq_true rfl) ?_
  have M := n_bury Mg32
  refine n_astq C M 2 (w14.length + 2) 7 rfl rfl (nS_at (by rfl)) (ci := 7) rfl (x := 1) (by unfold vp_in; decide) dX11_init_148 (fun H locs M => ?_)
  have M : nM E A s H locs ((w14 ++ wShip E g32 0) ++ [(b, .inr (11, [.ref (g2 0), .ref (g4 0), .ref (g6 0), .ref (g8 0), .ref a9, .ref (g11 0), .ref (g13 0), .ref a14, .ref (g16 0), .int 0, .int 0, .int 0, .int 0, .int 0])), (a9, .inl (E.2.1 6, 6, .inr (.inr (.inr (.inr (va_up (va_up (va_up (va_up (va_up (va_up (fun _ => none) 0 (some (g18 0))) 1 (some (g20 0))) 2 (some (g22 0))) 3 (some (g24 0))) 4 (some (g26 0))) 5 (some (g28 0)))))))), (a14, .inl (E.2.1 7, 8, .inr (.inr (.inr (.inr (va_up (va_up (fun _ => none) 0 (some (g30 0))) 1 (some (g32 0))))))))]) := M
  generalize hw15 : w14 ++ wShip E g32 0 = w15 at M
  refine lv_iinc (v := 2) (lv' := [(1, .int 2), (0, .ref b)]) C.1 C.2.1 dX11_init_149 hl (k := 0) rfl (by decide) (by decide) rfl (fun ls hl => ?_)
  refine lv_goto (tgt := 130) C.1 C.2.1 dX11_init_152 (by decide) ?_
  refine lv_iload_n C.1 C.2.1 dX11_init_130 rfl (lv_at hl 0 rfl) ?_
  refine lv_bipush (v := 8) C.1 C.2.1 dX11_init_131 (by decide) ?_
  refine lv_icmp_ge (tgt := 155) C.1 C.2.1 dX11_init_133 (by decide) (fun c9 => absurd c9 (by decide)) (fun _ => ?_)
  refine lv_aload_n C.1 C.2.1 dX11_init_136 rfl (lv_at hl 1 rfl) ?_
  refine n_get C M 0 rfl (T := TX11) rfl 7 (by decide) (List.mem_of_getElem? (i := 421) (by decide +kernel)) (v := .ref a14) rfl dX11_init_137 ?_
  refine lv_iload_n C.1 C.2.1 dX11_init_140 rfl (lv_at hl 0 rfl) ?_
  refine n_new (ci := 7) C M rfl lc11_59 in7 ini7 [.null, .int 0, .int 0, .int 0, .int 0, .int 0, .int 0] df_7 (Nat.le_of_ble_eq_true rfl) (Nat.le_of_ble_eq_true rfl) dX11_init_141 (fun q33 H M => ?_)
  have M : nM E A s H locs (w15 ++ [(b, .inr (11, [.ref (g2 0), .ref (g4 0), .ref (g6 0), .ref (g8 0), .ref a9, .ref (g11 0), .ref (g13 0), .ref a14, .ref (g16 0), .int 0, .int 0, .int 0, .int 0, .int 0])), (a9, .inl (E.2.1 6, 6, .inr (.inr (.inr (.inr (va_up (va_up (va_up (va_up (va_up (va_up (fun _ => none) 0 (some (g18 0))) 1 (some (g20 0))) 2 (some (g22 0))) 3 (some (g24 0))) 4 (some (g26 0))) 5 (some (g28 0)))))))), (a14, .inl (E.2.1 7, 8, .inr (.inr (.inr (.inr (va_up (va_up (fun _ => none) 0 (some (g30 0))) 1 (some (g32 0)))))))), (q33, .inr (7, [.null, .int 0, .int 0, .int 0, .int 0, .int 0, .int 0]))]) := M
  refine W.widen (k := 76) (n := 2585) (Nat.le_of_ble_eq_true rfl) (Nat.le_of_ble_eq_true rfl) ?_
  refine lv_dup C.1 C.2.1 dX11_init_144 rfl ?_
  have M : nM E A s H locs ((w15 ++ [(b, .inr (11, [.ref (g2 0), .ref (g4 0), .ref (g6 0), .ref (g8 0), .ref a9, .ref (g11 0), .ref (g13 0), .ref a14, .ref (g16 0), .int 0, .int 0, .int 0, .int 0, .int 0])), (a9, .inl (E.2.1 6, 6, .inr (.inr (.inr (.inr (va_up (va_up (va_up (va_up (va_up (va_up (fun _ => none) 0 (some (g18 0))) 1 (some (g20 0))) 2 (some (g22 0))) 3 (some (g24 0))) 4 (some (g26 0))) 5 (some (g28 0)))))))), (a14, .inl (E.2.1 7, 8, .inr (.inr (.inr (.inr (va_up (va_up (fun _ => none) 0 (some (g30 0))) 1 (some (g32 0))))))))]) ++ [(q33, .inr (7, [.null, .int 0, .int 0, .int 0, .int 0, .int 0, .int 0]))]) := by rw [List.append_assoc]; exact M
  refine n_callI (As := []) (rest := [.ref q33, .int 2, .ref a14]) C M (k_Ship l E (w15 ++ [(b, .inr (11, [.ref (g2 0), .ref (g4 0), .ref (g6 0), .ref (g8 0), .ref a9, .ref (g11 0), .ref (g13 0), .ref a14, .ref (g16 0), .int 0, .int 0, .int 0, .int 0, .int 0])), (a9, .inl (E.2.1 6, 6, .inr (.inr (.inr (.inr (va_up (va_up (va_up (va_up (va_up (va_up (fun _ => none) 0 (some (g18 0))) 1 (some (g20 0))) 2 (some (g22 0))) 3 (some (g24 0))) 4 (some (g26 0))) 5 (some (g28 0)))))))), (a14, .inl (E.2.1 7, 8, .inr (.inr (.inr (.inr (va_up (va_up (fun _ => none) 0 (some (g30 0))) 1 (some (g32 0))))))))]) q33) clX7_init imX7_init lk11_73 rfl rfl ⟨Nat.le_of_ble_eq_true rfl, Nat.le_of_ble_eq_true rfl⟩ hl.1 rfl (Nat.le_of_ble_eq_true rfl) dX11_init_145 ⟨Nat.le_of_ble_eq_true rfl, Nat.le_of_ble_eq_true rfl⟩ (fun ws H locs hR Mg34 => ?_)
  obtain ⟨g34, hg34, rfl⟩ := hR
  subst hg34
  refine W.widen (k := 78) (n := 2648) (Nat.le_of_ble_eq_true rfl) (Nat.le_of_ble_eq_true rfl) ?_
  have M := n_bury Mg34
  refine n_astq C M 2 (w15.length + 2) 7 rfl rfl (nS_at (by rfl)) (ci := 7) rfl (x := 2) (by unfold vp_in; decide) dX11_init_148 (fun H locs M => ?_)
  have M : nM E A s H locs ((w15 ++ wShip E g34 0) ++ [(b, .inr (11, [.ref (g2 0), .ref (g4 0), .ref (g6 0), .ref (g8 0), .ref a9, .ref (g11 0), .ref (g13 0), .ref a14, .ref (g16 0), .int 0, .int 0, .int 0, .int 0, .int 0])), (a9, .inl (E.2.1 6, 6, .inr (.inr (.inr (.inr (va_up (va_up (va_up (va_up (va_up (va_up (fun _ => none) 0 (some (g18 0))) 1 (some (g20 0))) 2 (some (g22 0))) 3 (some (g24 0))) 4 (some (g26 0))) 5 (some (g28 0)))))))), (a14, .inl (E.2.1 7, 8, .inr (.inr (.inr (.inr (va_up (va_up (va_up (fun _ => none) 0 (some (g30 0))) 1 (some (g32 0))) 2 (some (g34 0))))))))]) := M
  generalize hw16 : w15 ++ wShip E g34 0 = w16 at M
  refine lv_iinc (v := 3) (lv' := [(1, .int 3), (0, .ref b)]) C.1 C.2.1 dX11_init_149 hl (k := 0) rfl (by decide) (by decide) rfl (fun ls hl => ?_)
  refine lv_goto (tgt := 130) C.1 C.2.1 dX11_init_152 (by decide) ?_
  refine lv_iload_n C.1 C.2.1 dX11_init_130 rfl (lv_at hl 0 rfl) ?_
  refine lv_bipush (v := 8) C.1 C.2.1 dX11_init_131 (by decide) ?_
  refine lv_icmp_ge (tgt := 155) C.1 C.2.1 dX11_init_133 (by decide) (fun c9 => absurd c9 (by decide)) (fun _ => ?_)
  refine lv_aload_n C.1 C.2.1 dX11_init_136 rfl (lv_at hl 1 rfl) ?_
  refine n_get C M 0 rfl (T := TX11) rfl 7 (by decide) (List.mem_of_getElem? (i := 421) (by decide +kernel)) (v := .ref a14) rfl dX11_init_137 ?_
  refine lv_iload_n C.1 C.2.1 dX11_init_140 rfl (lv_at hl 0 rfl) ?_
  refine n_new (ci := 7) C M rfl lc11_59 in7 ini7 [.null, .int 0, .int 0, .int 0, .int 0, .int 0, .int 0] df_7 (Nat.le_of_ble_eq_true rfl) (Nat.le_of_ble_eq_true rfl) dX11_init_141 (fun q35 H M => ?_)
  have M : nM E A s H locs (w16 ++ [(b, .inr (11, [.ref (g2 0), .ref (g4 0), .ref (g6 0), .ref (g8 0), .ref a9, .ref (g11 0), .ref (g13 0), .ref a14, .ref (g16 0), .int 0, .int 0, .int 0, .int 0, .int 0])), (a9, .inl (E.2.1 6, 6, .inr (.inr (.inr (.inr (va_up (va_up (va_up (va_up (va_up (va_up (fun _ => none) 0 (some (g18 0))) 1 (some (g20 0))) 2 (some (g22 0))) 3 (some (g24 0))) 4 (some (g26 0))) 5 (some (g28 0)))))))), (a14, .inl (E.2.1 7, 8, .inr (.inr (.inr (.inr (va_up (va_up (va_up (fun _ => none) 0 (some (g30 0))) 1 (some (g32 0))) 2 (some (g34 0)))))))), (q35, .inr (7, [.null, .int 0, .int 0, .int 0, .int 0, .int 0, .int 0]))]) := M
  refine W.widen (k := 79) (n := 2655) (Nat.le_of_ble_eq_true rfl) (Nat.le_of_ble_eq_true rfl) ?_
  refine lv_dup C.1 C.2.1 dX11_init_144 rfl ?_
  have M : nM E A s H locs ((w16 ++ [(b, .inr (11, [.ref (g2 0), .ref (g4 0), .ref (g6 0), .ref (g8 0), .ref a9, .ref (g11 0), .ref (g13 0), .ref a14, .ref (g16 0), .int 0, .int 0, .int 0, .int 0, .int 0])), (a9, .inl (E.2.1 6, 6, .inr (.inr (.inr (.inr (va_up (va_up (va_up (va_up (va_up (va_up (fun _ => none) 0 (some (g18 0))) 1 (some (g20 0))) 2 (some (g22 0))) 3 (some (g24 0))) 4 (some (g26 0))) 5 (some (g28 0)))))))), (a14, .inl (E.2.1 7, 8, .inr (.inr (.inr (.inr (va_up (va_up (va_up (fun _ => none) 0 (some (g30 0))) 1 (some (g32 0))) 2 (some (g34 0))))))))]) ++ [(q35, .inr (7, [.null, .int 0, .int 0, .int 0, .int 0, .int 0, .int 0]))]) := by rw [List.append_assoc]; exact M
  refine n_callI (As := []) (rest := [.ref q35, .int 3, .ref a14]) C M (k_Ship l E (w16 ++ [(b, .inr (11, [.ref (g2 0), .ref (g4 0), .ref (g6 0), .ref (g8 0), .ref a9, .ref (g11 0), .ref (g13 0), .ref a14, .ref (g16 0), .int 0, .int 0, .int 0, .int 0, .int 0])), (a9, .inl (E.2.1 6, 6, .inr (.inr (.inr (.inr (va_up (va_up (va_up (va_up (va_up (va_up (fun _ => none) 0 (some (g18 0))) 1 (some (g20 0))) 2 (some (g22 0))) 3 (some (g24 0))) 4 (some (g26 0))) 5 (some (g28 0)))))))), (a14, .inl (E.2.1 7, 8, .inr (.inr (.inr (.inr (va_up (va_up (va_up (fun _ => none) 0 (some (g30 0))) 1 (some (g32 0))) 2 (some (g34 0))))))))]) q35) clX7_init imX7_init lk11_73 rfl rfl ⟨Nat.le_of_ble_eq_true rfl, Nat.le_of_ble_eq_true rfl⟩ hl.1 rfl (Nat.le_of_ble_eq_true rfl) dX11_init_145 ⟨Nat.le_of_ble_eq_true rfl, Nat.le_of_ble_eq_true rfl⟩ (fun ws H locs hR Mg36 => ?_)
  obtain ⟨g36, hg36, rfl⟩ := hR
  subst hg36
  refine W.widen (k := 81) (n := 2718) (Nat.le_of_ble_eq_true rfl) (Nat.le_of_ble_eq_true rfl) ?_
  have M := n_bury Mg36
  refine n_astq C M 2 (w16.length + 2) 7 rfl rfl (nS_at (by rfl)) (ci := 7) rfl (x := 3) (by unfold vp_in; decide) dX11_init_148 (fun H locs M => ?_)
  have M : nM E A s H locs ((w16 ++ wShip E g36 0) ++ [(b, .inr (11, [.ref (g2 0), .ref (g4 0), .ref (g6 0), .ref (g8 0), .ref a9, .ref (g11 0), .ref (g13 0), .ref a14, .ref (g16 0), .int 0, .int 0, .int 0, .int 0, .int 0])), (a9, .inl (E.2.1 6, 6, .inr (.inr (.inr (.inr (va_up (va_up (va_up (va_up (va_up (va_up (fun _ => none) 0 (some (g18 0))) 1 (some (g20 0))) 2 (some (g22 0))) 3 (some (g24 0))) 4 (some (g26 0))) 5 (some (g28 0)))))))), (a14, .inl (E.2.1 7, 8, .inr (.inr (.inr (.inr (va_up (va_up (va_up (va_up (fun _ => none) 0 (some (g30 0))) 1 (some (g32 0))) 2 (some (g34 0))) 3 (some (g36 0))))))))]) := M
  generalize hw17 : w16 ++ wShip E g36 0 = w17 at M
  refine lv_iinc (v := 4) (lv' := [(1, .int 4), (0, .ref b)]) C.1 C.2.1 dX11_init_149 hl (k := 0) rfl (by decide) (by decide) rfl (fun ls hl => ?_)
  refine lv_goto (tgt := 130) C.1 C.2.1 dX11_init_152 (by decide) ?_
  refine lv_iload_n C.1 C.2.1 dX11_init_130 rfl (lv_at hl 0 rfl) ?_
  refine lv_bipush (v := 8) C.1 C.2.1 dX11_init_131 (by decide) ?_
  refine lv_icmp_ge (tgt := 155) C.1 C.2.1 dX11_init_133 (by decide) (fun c9 => absurd c9 (by decide)) (fun _ => ?_)
  refine lv_aload_n C.1 C.2.1 dX11_init_136 rfl (lv_at hl 1 rfl) ?_
  refine n_get C M 0 rfl (T := TX11) rfl 7 (by decide) (List.mem_of_getElem? (i := 421) (by decide +kernel)) (v := .ref a14) rfl dX11_init_137 ?_
  refine lv_iload_n C.1 C.2.1 dX11_init_140 rfl (lv_at hl 0 rfl) ?_
  refine n_new (ci := 7) C M rfl lc11_59 in7 ini7 [.null, .int 0, .int 0, .int 0, .int 0, .int 0, .int 0] df_7 (Nat.le_of_ble_eq_true rfl) (Nat.le_of_ble_eq_true rfl) dX11_init_141 (fun q37 H M => ?_)
  have M : nM E A s H locs (w17 ++ [(b, .inr (11, [.ref (g2 0), .ref (g4 0), .ref (g6 0), .ref (g8 0), .ref a9, .ref (g11 0), .ref (g13 0), .ref a14, .ref (g16 0), .int 0, .int 0, .int 0, .int 0, .int 0])), (a9, .inl (E.2.1 6, 6, .inr (.inr (.inr (.inr (va_up (va_up (va_up (va_up (va_up (va_up (fun _ => none) 0 (some (g18 0))) 1 (some (g20 0))) 2 (some (g22 0))) 3 (some (g24 0))) 4 (some (g26 0))) 5 (some (g28 0)))))))), (a14, .inl (E.2.1 7, 8, .inr (.inr (.inr (.inr (va_up (va_up (va_up (va_up (fun _ => none) 0 (some (g30 0))) 1 (some (g32 0))) 2 (some (g34 0))) 3 (some (g36 0)))))))), (q37, .inr (7, [.null, .int 0, .int 0, .int 0, .int 0, .int 0, .int 0]))]) := M
  refine W.widen (k := 82) (n := 2725) (Nat.le_of_ble_eq_true rfl) (Nat.le_of_ble_eq_true rfl) ?_
  refine lv_dup C.1 C.2.1 dX11_init_144 rfl ?_
  have M : nM E A s H locs ((w17 ++ [(b, .inr (11, [.ref (g2 0), .ref (g4 0), .ref (g6 0), .ref (g8 0), .ref a9, .ref (g11 0), .ref (g13 0), .ref a14, .ref (g16 0), .int 0, .int 0, .int 0, .int 0, .int 0])), (a9, .inl (E.2.1 6, 6, .inr (.inr (.inr (.inr (va_up (va_up (va_up (va_up (va_up (va_up (fun _ => none) 0 (some (g18 0))) 1 (some (g20 0))) 2 (some (g22 0))) 3 (some (g24 0))) 4 (some (g26 0))) 5 (some (g28 0)))))))), (a14, .inl (E.2.1 7, 8, .inr (.inr (.inr (.inr (va_up (va_up (va_up (va_up (fun _ => none) 0 (some (g30 0))) 1 (some (g32 0))) 2 (some (g34 0))) 3 (some (g36 0))))))))]) ++ [(q37, .inr (7, [.null, .int 0, .int 0, .int 0, .int 0, .int 0, .int 0]))]) := by rw [List.append_assoc]; exact M
  refine n_callI (As := []) (rest := [.ref q37, .int 4, .ref a14]) C M (k_Ship l E (w17 ++ [(b, .inr (11, [.ref (g2 0), .ref (g4 0), .ref (g6 0), .ref (g8 0), .ref a9, .ref (g11 0), .ref (g13 0), .ref a14, .ref (g16 0), .int 0, .int 0, .int 0, .int 0, .int 0])), (a9, .inl (E.2.1 6, 6, .inr (.inr (.inr (.inr (va_up (va_up (va_up (va_up (va_up (va_up (fun _ => none) 0 (some (g18 0))) 1 (some (g20 0))) 2 (some (g22 0))) 3 (some (g24 0))) 4 (some (g26 0))) 5 (some (g28 0)))))))), (a14, .inl (E.2.1 7, 8, .inr (.inr (.inr (.inr (va_up (va_up (va_up (va_up (fun _ => none) 0 (some (g30 0))) 1 (some (g32 0))) 2 (some (g34 0))) 3 (some (g36 0))))))))]) q37) clX7_init imX7_init lk11_73 rfl rfl ⟨Nat.le_of_ble_eq_true rfl, Nat.le_of_ble_eq_true rfl⟩ hl.1 rfl (Nat.le_of_ble_eq_true rfl) dX11_init_145 ⟨Nat.le_of_ble_eq_true rfl, Nat.le_of_ble_eq_true rfl⟩ (fun ws H locs hR Mg38 => ?_)
  obtain ⟨g38, hg38, rfl⟩ := hR
  subst hg38
  refine W.widen (k := 84) (n := 2788) (Nat.le_of_ble_eq_true rfl) (Nat.le_of_ble_eq_true rfl) ?_
  have M := n_bury Mg38
  refine n_astq C M 2 (w17.length + 2) 7 rfl rfl (nS_at (by rfl)) (ci := 7) rfl (x := 4) (by unfold vp_in; decide) dX11_init_148 (fun H locs M => ?_)
  have M : nM E A s H locs ((w17 ++ wShip E g38 0) ++ [(b, .inr (11, [.ref (g2 0), .ref (g4 0), .ref (g6 0), .ref (g8 0), .ref a9, .ref (g11 0), .ref (g13 0), .ref a14, .ref (g16 0), .int 0, .int 0, .int 0, .int 0, .int 0])), (a9, .inl (E.2.1 6, 6, .inr (.inr (.inr (.inr (va_up (va_up (va_up (va_up (va_up (va_up (fun _ => none) 0 (some (g18 0))) 1 (some (g20 0))) 2 (some (g22 0))) 3 (some (g24 0))) 4 (some (g26 0))) 5 (some (g28 0)))))))), (a14, .inl (E.2.1 7, 8, .inr (.inr (.inr (.inr (va_up (va_up (va_up (va_up (va_up (fun _ => none) 0 (some (g30 0))) 1 (some (g32 0))) 2 (some (g34 0))) 3 (some (g36 0))) 4 (some (g38 0))))))))]) := M
  generalize hw18 : w17 ++ wShip E g38 0 = w18 at M
  refine lv_iinc (v := 5) (lv' := [(1, .int 5), (0, .ref b)]) C.1 C.2.1 dX11_init_149 hl (k := 0) rfl (by decide) (by decide) rfl (fun ls hl => ?_)
  refine lv_goto (tgt := 130) C.1 C.2.1 dX11_init_152 (by decide) ?_
  refine lv_iload_n C.1 C.2.1 dX11_init_130 rfl (lv_at hl 0 rfl) ?_
  refine lv_bipush (v := 8) C.1 C.2.1 dX11_init_131 (by decide) ?_
  refine lv_icmp_ge (tgt := 155) C.1 C.2.1 dX11_init_133 (by decide) (fun c9 => absurd c9 (by decide)) (fun _ => ?_)
  refine lv_aload_n C.1 C.2.1 dX11_init_136 rfl (lv_at hl 1 rfl) ?_
  refine n_get C M 0 rfl (T := TX11) rfl 7 (by decide) (List.mem_of_getElem? (i := 421) (by decide +kernel)) (v := .ref a14) rfl dX11_init_137 ?_
  refine lv_iload_n C.1 C.2.1 dX11_init_140 rfl (lv_at hl 0 rfl) ?_
  refine n_new (ci := 7) C M rfl lc11_59 in7 ini7 [.null, .int 0, .int 0, .int 0, .int 0, .int 0, .int 0] df_7 (Nat.le_of_ble_eq_true rfl) (Nat.le_of_ble_eq_true rfl) dX11_init_141 (fun q39 H M => ?_)
  have M : nM E A s H locs (w18 ++ [(b, .inr (11, [.ref (g2 0), .ref (g4 0), .ref (g6 0), .ref (g8 0), .ref a9, .ref (g11 0), .ref (g13 0), .ref a14, .ref (g16 0), .int 0, .int 0, .int 0, .int 0, .int 0])), (a9, .inl (E.2.1 6, 6, .inr (.inr (.inr (.inr (va_up (va_up (va_up (va_up (va_up (va_up (fun _ => none) 0 (some (g18 0))) 1 (some (g20 0))) 2 (some (g22 0))) 3 (some (g24 0))) 4 (some (g26 0))) 5 (some (g28 0)))))))), (a14, .inl (E.2.1 7, 8, .inr (.inr (.inr (.inr (va_up (va_up (va_up (va_up (va_up (fun _ => none) 0 (some (g30 0))) 1 (some (g32 0))) 2 (some (g34 0))) 3 (some (g36 0))) 4 (some (g38 0)))))))), (q39, .inr (7, [.null, .int 0, .int 0, .int 0, .int 0, .int 0, .int 0]))]) := M
  refine W.widen (k := 85) (n := 2795) (Nat.le_of_ble_eq_true rfl) (Nat.le_of_ble_eq_true rfl) ?_
  refine lv_dup C.1 C.2.1 dX11_init_144 rfl ?_
  have M : nM E A s H locs ((w18 ++ [(b, .inr (11, [.ref (g2 0), .ref (g4 0), .ref (g6 0), .ref (g8 0), .ref a9, .ref (g11 0), .ref (g13 0), .ref a14, .ref (g16 0), .int 0, .int 0, .int 0, .int 0, .int 0])), (a9, .inl (E.2.1 6, 6, .inr (.inr (.inr (.inr (va_up (va_up (va_up (va_up (va_up (va_up (fun _ => none) 0 (some (g18 0))) 1 (some (g20 0))) 2 (some (g22 0))) 3 (some (g24 0))) 4 (some (g26 0))) 5 (some (g28 0)))))))), (a14, .inl (E.2.1 7, 8, .inr (.inr (.inr (.inr (va_up (va_up (va_up (va_up (va_up (fun _ => none) 0 (some (g30 0))) 1 (some (g32 0))) 2 (some (g34 0))) 3 (some (g36 0))) 4 (some (g38 0))))))))]) ++ [(q39, .inr (7, [.null, .int 0, .int 0, .int 0, .int 0, .int 0, .int 0]))]) := by rw [List.append_assoc]; exact M
  refine n_callI (As := []) (rest := [.ref q39, .int 5, .ref a14]) C M (k_Ship l E (w18 ++ [(b, .inr (11, [.ref (g2 0), .ref (g4 0), .ref (g6 0), .ref (g8 0), .ref a9, .ref (g11 0), .ref (g13 0), .ref a14, .ref (g16 0), .int 0, .int 0, .int 0, .int 0, .int 0])), (a9, .inl (E.2.1 6, 6, .inr (.inr (.inr (.inr (va_up (va_up (va_up (va_up (va_up (va_up (fun _ => none) 0 (some (g18 0))) 1 (some (g20 0))) 2 (some (g22 0))) 3 (some (g24 0))) 4 (some (g26 0))) 5 (some (g28 0)))))))), (a14, .inl (E.2.1 7, 8, .inr (.inr (.inr (.inr (va_up (va_up (va_up (va_up (va_up (fun _ => none) 0 (some (g30 0))) 1 (some (g32 0))) 2 (some (g34 0))) 3 (some (g36 0))) 4 (some (g38 0))))))))]) q39) clX7_init imX7_init lk11_73 rfl rfl ⟨Nat.le_of_ble_eq_true rfl, Nat.le_of_ble_eq_true rfl⟩ hl.1 rfl (Nat.le_of_ble_eq_true rfl) dX11_init_145 ⟨Nat.le_of_ble_eq_true rfl, Nat.le_of_ble_eq_true rfl⟩ (fun ws H locs hR Mg40 => ?_)
  obtain ⟨g40, hg40, rfl⟩ := hR
  subst hg40
  refine W.widen (k := 87) (n := 2858) (Nat.le_of_ble_eq_true rfl) (Nat.le_of_ble_eq_true rfl) ?_
  have M := n_bury Mg40
  refine n_astq C M 2 (w18.length + 2) 7 rfl rfl (nS_at (by rfl)) (ci := 7) rfl (x := 5) (by unfold vp_in; decide) dX11_init_148 (fun H locs M => ?_)
  have M : nM E A s H locs ((w18 ++ wShip E g40 0) ++ [(b, .inr (11, [.ref (g2 0), .ref (g4 0), .ref (g6 0), .ref (g8 0), .ref a9, .ref (g11 0), .ref (g13 0), .ref a14, .ref (g16 0), .int 0, .int 0, .int 0, .int 0, .int 0])), (a9, .inl (E.2.1 6, 6, .inr (.inr (.inr (.inr (va_up (va_up (va_up (va_up (va_up (va_up (fun _ => none) 0 (some (g18 0))) 1 (some (g20 0))) 2 (some (g22 0))) 3 (some (g24 0))) 4 (some (g26 0))) 5 (some (g28 0)))))))), (a14, .inl (E.2.1 7, 8, .inr (.inr (.inr (.inr (va_up (va_up (va_up (va_up (va_up (va_up (fun _ => none) 0 (some (g30 0))) 1 (some (g32 0))) 2 (some (g34 0))) 3 (some (g36 0))) 4 (some (g38 0))) 5 (some (g40 0))))))))]) := M
  generalize hw19 : w18 ++ wShip E g40 0 = w19 at M
  refine lv_iinc (v := 6) (lv' := [(1, .int 6), (0, .ref b)]) C.1 C.2.1 dX11_init_149 hl (k := 0) rfl (by decide) (by decide) rfl (fun ls hl => ?_)
  refine lv_goto (tgt := 130) C.1 C.2.1 dX11_init_152 (by decide) ?_
  refine lv_iload_n C.1 C.2.1 dX11_init_130 rfl (lv_at hl 0 rfl) ?_
  refine lv_bipush (v := 8) C.1 C.2.1 dX11_init_131 (by decide) ?_
  refine lv_icmp_ge (tgt := 155) C.1 C.2.1 dX11_init_133 (by decide) (fun c9 => absurd c9 (by decide)) (fun _ => ?_)
  refine lv_aload_n C.1 C.2.1 dX11_init_136 rfl (lv_at hl 1 rfl) ?_
  refine n_get C M 0 rfl (T := TX11) rfl 7 (by decide) (List.mem_of_getElem? (i := 421) (by decide +kernel)) (v := .ref a14) rfl dX11_init_137 ?_
  refine lv_iload_n C.1 C.2.1 dX11_init_140 rfl (lv_at hl 0 rfl) ?_
  refine n_new (ci := 7) C M rfl lc11_59 in7 ini7 [.null, .int 0, .int 0, .int 0, .int 0, .int 0, .int 0] df_7 (Nat.le_of_ble_eq_true rfl) (Nat.le_of_ble_eq_true rfl) dX11_init_141 (fun q41 H M => ?_)
  have M : nM E A s H locs (w19 ++ [(b, .inr (11, [.ref (g2 0), .ref (g4 0), .ref (g6 0), .ref (g8 0), .ref a9, .ref (g11 0), .ref (g13 0), .ref a14, .ref (g16 0), .int 0, .int 0, .int 0, .int 0, .int 0])), (a9, .inl (E.2.1 6, 6, .inr (.inr (.inr (.inr (va_up (va_up (va_up (va_up (va_up (va_up (fun _ => none) 0 (some (g18 0))) 1 (some (g20 0))) 2 (some (g22 0))) 3 (some (g24 0))) 4 (some (g26 0))) 5 (some (g28 0)))))))), (a14, .inl (E.2.1 7, 8, .inr (.inr (.inr (.inr (va_up (va_up (va_up (va_up (va_up (va_up (fun _ => none) 0 (some (g30 0))) 1 (some (g32 0))) 2 (some (g34 0))) 3 (some (g36 0))) 4 (some (g38 0))) 5 (some (g40 0)))))))), (q41, .inr (7, [.null, .int 0, .int 0, .int 0, .int 0, .int 0, .int 0]))]) := M
  refine W.widen (k := 88) (n := 2865) (Nat.le_of_ble_eq_true rfl) (Nat.le_of_ble_eq_true rfl) ?_
  refine lv_dup C.1 C.2.1 dX11_init_144 rfl ?_
  have M : nM E A s H locs ((w19 ++ [(b, .inr (11, [.ref (g2 0), .ref (g4 0), .ref (g6 0), .ref (g8 0), .ref a9, .ref (g11 0), .ref (g13 0), .ref a14, .ref (g16 0), .int 0, .int 0, .int 0, .int 0, .int 0])), (a9, .inl (E.2.1 6, 6, .inr (.inr (.inr (.inr (va_up (va_up (va_up (va_up (va_up (va_up (fun _ => none) 0 (some (g18 0))) 1 (some (g20 0))) 2 (some (g22 0))) 3 (some (g24 0))) 4 (some (g26 0))) 5 (some (g28 0)))))))), (a14, .inl (E.2.1 7, 8, .inr (.inr (.inr (.inr (va_up (va_up (va_up (va_up (va_up (va_up (fun _ => none) 0 (some (g30 0))) 1 (some (g32 0))) 2 (some (g34 0))) 3 (some (g36 0))) 4 (some (g38 0))) 5 (some (g40 0))))))))]) ++ [(q41, .inr (7, [.null, .int 0, .int 0, .int 0, .int 0, .int 0, .int 0]))]) := by rw [List.append_assoc]; exact M
  refine n_callI (As := []) (rest := [.ref q41, .int 6, .ref a14]) C M (k_Ship l E (w19 ++ [(b, .inr (11, [.ref (g2 0), .ref (g4 0), .ref (g6 0), .ref (g8 0), .ref a9, .ref (g11 0), .ref (g13 0), .ref a14, .ref (g16 0), .int 0, .int 0, .int 0, .int 0, .int 0])), (a9, .inl (E.2.1 6, 6, .inr (.inr (.inr (.inr (va_up (va_up (va_up (va_up (va_up (va_up (fun _ => none) 0 (some (g18 0))) 1 (some (g20 0))) 2 (some (g22 0))) 3 (some (g24 0))) 4 (some (g26 0))) 5 (some (g28 0)))))))), (a14, .inl (E.2.1 7, 8, .inr (.inr (.inr (.inr (va_up (va_up (va_up (va_up (va_up (va_up (fun _ => none) 0 (some (g30 0))) 1 (some (g32 0))) 2 (some (g34 0))) 3 (some (g36 0))) 4 (some (g38 0))) 5 (some (g40 0))))))))]) q41) clX7_init imX7_init lk11_73 rfl rfl ⟨Nat.le_of_ble_eq_true rfl, Nat.le_of_ble_eq_true rfl⟩ hl.1 rfl (Nat.le_of_ble_eq_true rfl) dX11_init_145 ⟨Nat.le_of_ble_eq_true rfl, Nat.le_of_ble_eq_true rfl⟩ (fun ws H locs hR Mg42 => ?_)
  obtain ⟨g42, hg42, rfl⟩ := hR
  subst hg42
  refine W.widen (k := 90) (n := 2928) (Nat.le_of_ble_eq_true rfl) (Nat.le_of_ble_eq_true rfl) ?_
  have M := n_bury Mg42
  refine n_astq C M 2 (w19.length + 2) 7 rfl rfl (nS_at (by rfl)) (ci := 7) rfl (x := 6) (by unfold vp_in; decide) dX11_init_148 (fun H locs M => ?_)
  have M : nM E A s H locs ((w19 ++ wShip E g42 0) ++ [(b, .inr (11, [.ref (g2 0), .ref (g4 0), .ref (g6 0), .ref (g8 0), .ref a9, .ref (g11 0), .ref (g13 0), .ref a14, .ref (g16 0), .int 0, .int 0, .int 0, .int 0, .int 0])), (a9, .inl (E.2.1 6, 6, .inr (.inr (.inr (.inr (va_up (va_up (va_up (va_up (va_up (va_up (fun _ => none) 0 (some (g18 0))) 1 (some (g20 0))) 2 (some (g22 0))) 3 (some (g24 0))) 4 (some (g26 0))) 5 (some (g28 0)))))))), (a14, .inl (E.2.1 7, 8, .inr (.inr (.inr (.inr (va_up (va_up (va_up (va_up (va_up (va_up (va_up (fun _ => none) 0 (some (g30 0))) 1 (some (g32 0))) 2 (some (g34 0))) 3 (some (g36 0))) 4 (some (g38 0))) 5 (some (g40 0))) 6 (some (g42 0))))))))]) := M
  generalize hw20 : w19 ++ wShip E g42 0 = w20 at M
  refine lv_iinc (v := 7) (lv' := [(1, .int 7), (0, .ref b)]) C.1 C.2.1 dX11_init_149 hl (k := 0) rfl (by decide) (by decide) rfl (fun ls hl => ?_)
  refine lv_goto (tgt := 130) C.1 C.2.1 dX11_init_152 (by decide) ?_
  refine lv_iload_n C.1 C.2.1 dX11_init_130 rfl (lv_at hl 0 rfl) ?_
  refine lv_bipush (v := 8) C.1 C.2.1 dX11_init_131 (by decide) ?_
  refine lv_icmp_ge (tgt := 155) C.1 C.2.1 dX11_init_133 (by decide) (fun c9 => absurd c9 (by decide)) (fun _ => ?_)
  refine lv_aload_n C.1 C.2.1 dX11_init_136 rfl (lv_at hl 1 rfl) ?_
  refine n_get C M 0 rfl (T := TX11) rfl 7 (by decide) (List.mem_of_getElem? (i := 421) (by decide +kernel)) (v := .ref a14) rfl dX11_init_137 ?_
  refine lv_iload_n C.1 C.2.1 dX11_init_140 rfl (lv_at hl 0 rfl) ?_
  refine n_new (ci := 7) C M rfl lc11_59 in7 ini7 [.null, .int 0, .int 0, .int 0, .int 0, .int 0, .int 0] df_7 (Nat.le_of_ble_eq_true rfl) (Nat.le_of_ble_eq_true rfl) dX11_init_141 (fun q43 H M => ?_)
  have M : nM E A s H locs (w20 ++ [(b, .inr (11, [.ref (g2 0), .ref (g4 0), .ref (g6 0), .ref (g8 0), .ref a9, .ref (g11 0), .ref (g13 0), .ref a14, .ref (g16 0), .int 0, .int 0, .int 0, .int 0, .int 0])), (a9, .inl (E.2.1 6, 6, .inr (.inr (.inr (.inr (va_up (va_up (va_up (va_up (va_up (va_up (fun _ => none) 0 (some (g18 0))) 1 (some (g20 0))) 2 (some (g22 0))) 3 (some (g24 0))) 4 (some (g26 0))) 5 (some (g28 0)))))))), (a14, .inl (E.2.1 7, 8, .inr (.inr (.inr (.inr (va_up (va_up (va_up (va_up (va_up (va_up (va_up (fun _ => none) 0 (some (g30 0))) 1 (some (g32 0))) 2 (some (g34 0))) 3 (some (g36 0))) 4 (some (g38 0))) 5 (some (g40 0))) 6 (some (g42 0)))))))), (q43, .inr (7, [.null, .int 0, .int 0, .int 0, .int 0, .int 0, .int 0]))]) := M
  refine W.widen (k := 91) (n := 2935) (Nat.le_of_ble_eq_true rfl) (Nat.le_of_ble_eq_true rfl) ?_
  refine lv_dup C.1 C.2.1 dX11_init_144 rfl ?_
  have M : nM E A s H locs ((w20 ++ [(b, .inr (11, [.ref (g2 0), .ref (g4 0), .ref (g6 0), .ref (g8 0), .ref a9, .ref (g11 0), .ref (g13 0), .ref a14, .ref (g16 0), .int 0, .int 0, .int 0, .int 0, .int 0])), (a9, .inl (E.2.1 6, 6, .inr (.inr (.inr (.inr (va_up (va_up (va_up (va_up (va_up (va_up (fun _ => none) 0 (some (g18 0))) 1 (some (g20 0))) 2 (some (g22 0))) 3 (some (g24 0))) 4 (some (g26 0))) 5 (some (g28 0)))))))), (a14, .inl (E.2.1 7, 8, .inr (.inr (.inr (.inr (va_up (va_up (va_up (va_up (va_up (va_up (va_up (fun _ => none) 0 (some (g30 0))) 1 (some (g32 0))) 2 (some (g34 0))) 3 (some (g36 0))) 4 (some (g38 0))) 5 (some (g40 0))) 6 (some (g42 0))))))))]) ++ [(q43, .inr (7, [.null, .int 0, .int 0, .int 0, .int 0, .int 0, .int 0]))]) := by rw [List.append_assoc]; exact M
  refine n_callI (As := []) (rest := [.ref q43, .int 7, .ref a14]) C M (k_Ship l E (w20 ++ [(b, .inr (11, [.ref (g2 0), .ref (g4 0), .ref (g6 0), .ref (g8 0), .ref a9, .ref (g11 0), .ref (g13 0), .ref a14, .ref (g16 0), .int 0, .int 0, .int 0, .int 0, .int 0])), (a9, .inl (E.2.1 6, 6, .inr (.inr (.inr (.inr (va_up (va_up (va_up (va_up (va_up (va_up (fun _ => none) 0 (some (g18 0))) 1 (some (g20 0))) 2 (some (g22 0))) 3 (some (g24 0))) 4 (some (g26 0))) 5 (some (g28 0)))))))), (a14, .inl (E.2.1 7, 8, .inr (.inr (.inr (.inr (va_up (va_up (va_up (va_up (va_up (va_up (va_up (fun _ => none) 0 (some (g30 0))) 1 (some (g32 0))) 2 (some (g34 0))) 3 (some (g36 0))) 4 (some (g38 0))) 5 (some (g40 0))) 6 (some (g42 0))))))))]) q43) clX7_init imX7_init lk11_73 rfl rfl ⟨Nat.le_of_ble_eq_true rfl, Nat.le_of_ble_eq_true rfl⟩ hl.1 rfl (Nat.le_of_ble_eq_true rfl) dX11_init_145 ⟨Nat.le_of_ble_eq_true rfl, Nat.le_of_ble_eq_true rfl⟩ (fun ws H locs hR Mg44 => ?_)
  obtain ⟨g44, hg44, rfl⟩ := hR
  subst hg44
  refine W.widen (k := 93) (n := 2998) (Nat.le_of_ble_eq_true rfl) (Nat.le_of_ble_eq_true rfl) ?_
  have M := n_bury Mg44
  refine n_astq C M 2 (w20.length + 2) 7 rfl rfl (nS_at (by rfl)) (ci := 7) rfl (x := 7) (by unfold vp_in; decide) dX11_init_148 (fun H locs M => ?_)
  have M : nM E A s H locs ((w20 ++ wShip E g44 0) ++ [(b, .inr (11, [.ref (g2 0), .ref (g4 0), .ref (g6 0), .ref (g8 0), .ref a9, .ref (g11 0), .ref (g13 0), .ref a14, .ref (g16 0), .int 0, .int 0, .int 0, .int 0, .int 0])), (a9, .inl (E.2.1 6, 6, .inr (.inr (.inr (.inr (va_up (va_up (va_up (va_up (va_up (va_up (fun _ => none) 0 (some (g18 0))) 1 (some (g20 0))) 2 (some (g22 0))) 3 (some (g24 0))) 4 (some (g26 0))) 5 (some (g28 0)))))))), (a14, .inl (E.2.1 7, 8, .inr (.inr (.inr (.inr (va_up (va_up (va_up (va_up (va_up (va_up (va_up (va_up (fun _ => none) 0 (some (g30 0))) 1 (some (g32 0))) 2 (some (g34 0))) 3 (some (g36 0))) 4 (some (g38 0))) 5 (some (g40 0))) 6 (some (g42 0))) 7 (some (g44 0))))))))]) := M
  generalize hw21 : w20 ++ wShip E g44 0 = w21 at M
  refine lv_iinc (v := 8) (lv' := [(1, .int 8), (0, .ref b)]) C.1 C.2.1 dX11_init_149 hl (k := 0) rfl (by decide) (by decide) rfl (fun ls hl => ?_)
  refine lv_goto (tgt := 130) C.1 C.2.1 dX11_init_152 (by decide) ?_
  refine lv_iload_n C.1 C.2.1 dX11_init_130 rfl (lv_at hl 0 rfl) ?_
  refine lv_bipush (v := 8) C.1 C.2.1 dX11_init_131 (by decide) ?_
  refine lv_icmp_ge (tgt := 155) C.1 C.2.1 dX11_init_133 (by decide) (fun _ => ?_) (fun c9 => absurd (by decide) c9)
  have e9 : (va_up (va_up (va_up (va_up (va_up (va_up (fun _ => none) 0 (some (g18 0))) 1 (some (g20 0))) 2 (some (g22 0))) 3 (some (g24 0))) 4 (some (g26 0))) 5 (some (g28 0))) = (fun i => if i < 6 then some (nthF [g18, g20, g22, g24, g26, g28] i 0) else none) := up6 (f := fun i => nthF [g18, g20, g22, g24, g26, g28] i 0) rfl rfl rfl rfl rfl rfl
  have M : nM E A s H locs (w21 ++ [(b, .inr (11, [.ref (g2 0), .ref (g4 0), .ref (g6 0), .ref (g8 0), .ref a9, .ref (g11 0), .ref (g13 0), .ref a14, .ref (g16 0), .int 0, .int 0, .int 0, .int 0, .int 0])), (a9, .inl (E.2.1 6, 6, .inr (.inr (.inr (.inr (fun i => if i < 6 then some (nthF [g18, g20, g22, g24, g26, g28] i 0) else none)))))), (a14, .inl (E.2.1 7, 8, .inr (.inr (.inr (.inr (va_up (va_up (va_up (va_up (va_up (va_up (va_up (va_up (fun _ => none) 0 (some (g30 0))) 1 (some (g32 0))) 2 (some (g34 0))) 3 (some (g36 0))) 4 (some (g38 0))) 5 (some (g40 0))) 6 (some (g42 0))) 7 (some (g44 0))))))))]) := by rw [← e9]; exact M
  have e9 : (va_up (va_up (va_up (va_up (va_up (va_up (va_up (va_up (fun _ => none) 0 (some (g30 0))) 1 (some (g32 0))) 2 (some (g34 0))) 3 (some (g36 0))) 4 (some (g38 0))) 5 (some (g40 0))) 6 (some (g42 0))) 7 (some (g44 0))) = (fun i => if i < 8 then some (nthF [g30, g32, g34, g36, g38, g40, g42, g44] i 0) else none) := up8 (f := fun i => nthF [g30, g32, g34, g36, g38, g40, g42, g44] i 0) rfl rfl rfl rfl rfl rfl rfl rfl
  have M : nM E A s H locs (w21 ++ [(b, .inr (11, [.ref (g2 0), .ref (g4 0), .ref (g6 0), .ref (g8 0), .ref a9, .ref (g11 0), .ref (g13 0), .ref a14, .ref (g16 0), .int 0, .int 0, .int 0, .int 0, .int 0])), (a9, .inl (E.2.1 6, 6, .inr (.inr (.inr (.inr (fun i => if i < 6 then some (nthF [g18, g20, g22, g24, g26, g28] i 0) else none)))))), (a14, .inl (E.2.1 7, 8, .inr (.inr (.inr (.inr (fun i => if i < 8 then some (nthF [g30, g32, g34, g36, g38, g40, g42, g44] i 0) else none))))))]) := by rw [← e9]; exact M
  refine n_vret C M hr hlk ⟨a9, a14, g2, g4, g6, g8, g11, g13, g16, nthF [g18, g20, g22, g24, g26, g28], nthF [g30, g32, g34, g36, g38, g40, g42, g44], ?_⟩ (Nat.le_of_ble_eq_true rfl) (Nat.le_of_ble_eq_true rfl) dX11_init_155
  rw [← hw21, ← hw20, ← hw19, ← hw18, ← hw17, ← hw16, ← hw15, ← hw14, ← hw13, ← hw12, ← hw11, ← hw10, ← hw9, ← hw8, ← hw7, ← hw6, ← hw5, ← hw4, ← hw3, ← hw2, ← hw1]
  simp only [List.append_assoc]
  rfl
