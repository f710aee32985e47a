/-! The start: the memory of a new court and a new model. -/
def rows0 (j k : Nat) : Nat → Int32 := if (j = 1 ∧ k = 0) ∨ (j = 43 ∧ k = 2) then pre (fun _ => 5) (fun _ => 0) 6 else if j = 5 then pre (fun _ => 5001) (fun _ => 0) 60 else if j = 7 ∨ j = 8 then pre (fun _ => 5001) (fun _ => 0) 40 else if j = 10 then pre (fun _ => 5001) (fun _ => 0) 6 else fun _ => 0
def σ0 : hMem := (fun j k => if j = 12 ∧ k = 3 then -1 else 0, fun _ _ => 0, fun j k _ => rows0 j k, fun _ _ _ _ => 0)
theorem Rel_0 : Rel σ0 := by
  refine ⟨0, 0, 0, 0, 0, 0, 0, ⟨rfl, 0, by decide, rfl⟩, ?_, ?_, ?_, ⟨rfl, rfl, ⟨0, by decide, rfl⟩, 0, by decide, rfl⟩, ⟨rfl, rfl, by decide, rfl⟩, ?_, ?_, ?_, ?_⟩
  · refine ⟨rfl, rfl, by decide, rfl, rfl, rfl, rfl, rfl, rfl, fun k hk => absurd hk (Nat.not_lt_zero k), fun k hk => absurd hk (Nat.not_lt_zero k), fun x hx => ?_, fun k => Or.inl rfl, fun k => Or.inl rfl, fun k => Or.inl rfl, fun q => absurd rfl q, fun q => absurd rfl q⟩
    have e : hA σ0 1 0 0 x = 5 := by
      show pre (fun _ => 5) (fun _ => 0) 6 x = 5
      exact pre_lt hx
    rw [e]
    decide
  · exact ⟨rfl, rfl, by decide, rfl, fun i hi => absurd hi (Nat.not_lt_zero i)⟩
  · refine ⟨rfl, rfl, by decide, rfl, rfl, fun i hi => absurd hi (Nat.not_lt_zero i), fun i _ hi => ?_⟩
    have e : hA σ0 8 0 0 i = 5001 ∧ hA σ0 8 1 0 i = 5001 := by
      show pre (fun _ => 5001) (fun _ => 0) 40 i = 5001 ∧ pre (fun _ => 5001) (fun _ => 0) 40 i = 5001
      exact ⟨pre_lt hi, pre_lt hi⟩
    exact e
  · exact ⟨rfl, rfl, by decide, fun i hi => absurd hi (Nat.not_lt_zero i), fun i hi => absurd hi (Nat.not_lt_zero i)⟩
  · exact ⟨rfl, rfl, by decide, ⟨fun _ => rfl, fun _ => rfl⟩, fun i hi => absurd hi (Nat.not_lt_zero i)⟩
  · exact ⟨rfl, rfl, by decide, fun i hi => absurd hi (Nat.not_lt_zero i), fun i hi => absurd hi (Nat.not_lt_zero i)⟩
  · exact ⟨0, 0, by decide, by decide, rfl, rfl, rfl, rfl, Or.inl ⟨rfl, rfl, rfl, rfl⟩⟩
/-- where the model's arrays lie among its addresses -/
def mix (k : Nat) : Nat := if k < 4 then k - 2 else if k < 12 then k - 3 else if k < 18 then k - 4 else if k < 25 then k - 5 else if k < 32 then k - 8 else if k < 39 then k - 14 else if k < 48 then k - 15 else if k < 54 then k - 20 else k - 23
def tix (k : Nat) : Nat := if k < 7 then k else if k < 10 then 7 else 8
def adM (gX : Nat → Nat) (k i : Nat) : Nat := if (k = 10 ∨ k = 30 ∨ k = 47 ∨ k = 57 ∨ k = 58) ∧ i < 1000 then gX (mix k) + 1 + i else gX (mix k)
def adr (b a1 a2 : Nat) (gT gG gC gP gM gS gJ : Nat → Nat) (gL gH : Nat → Nat → Nat) (gX : Nat → Nat) (j k i : Nat) : Nat :=
  if j < 13 then (match j with
    | 0 => if k = 5 then a1 else if k = 8 then a2 else b
    | 1 => gT (tix k)
    | 2 => gT (9 + k)
    | 3 => gT (11 + k)
    | 4 => gG k
    | 5 => gG (3 + k)
    | 6 => gC k
    | 7 => gC (3 + k)
    | 8 => gC (6 + k)
    | 9 => gP k
    | 10 => gM k
    | 11 => gS k
    | _ => gJ k)
  else if j < 19 then gL (j - 13) k else if j < 27 then gH (j - 19) k else if j < 35 then gH (j - 27) (1 + k) else if j < 43 then gJ (4 + 2 * (j - 35) + k) else adM gX k i
def eAt (E : hEnv) (ad : Nat → Nat → Nat → Nat) : hEnv := (E.1, E.2.1, ad, E.2.2.2)
def hObj (E : hEnv) (σ : hMem) (j : Nat) : va_W := (hIdsOf j).map (fun c => (hAd E c, hCont E σ c))
def hSeg (E : hEnv) (σ : hMem) (j k : Nat) (e : hEn) : va_W := (hSub j k e).map (fun c => (hAd E c, hCont E σ c))
theorem ref_cg {n : Nat} {f g : Nat → Nat} (h : ∀ i, i < n → f i = g i) : (fun i => if i < n then some (f i) else none) = (fun i => if i < n then some (g i) else none) := by
  funext i
  by_cases q : i < n
  · rw [if_pos q, if_pos q, h i q]
  · rw [if_neg q, if_neg q]
set_option maxRecDepth 100000 in
theorem hW_objs (E : hEnv) (σ : hMem) : hW E σ = hObj E σ 0 ++ (hObj E σ 1 ++ (hObj E σ 2 ++ (hObj E σ 3 ++ (hObj E σ 4 ++ (hObj E σ 5 ++ (hObj E σ 6 ++ (hObj E σ 7 ++ (hObj E σ 8 ++ (hObj E σ 9 ++ (hObj E σ 10 ++ (hObj E σ 11 ++ (hObj E σ 12 ++ (hObj E σ 13 ++ (hObj E σ 14 ++ (hObj E σ 15 ++ (hObj E σ 16 ++ (hObj E σ 17 ++ (hObj E σ 18 ++ (hObj E σ 19 ++ (hObj E σ 20 ++ (hObj E σ 21 ++ (hObj E σ 22 ++ (hObj E σ 23 ++ (hObj E σ 24 ++ (hObj E σ 25 ++ (hObj E σ 26 ++ (hObj E σ 27 ++ (hObj E σ 28 ++ (hObj E σ 29 ++ (hObj E σ 30 ++ (hObj E σ 31 ++ (hObj E σ 32 ++ (hObj E σ 33 ++ (hObj E σ 34 ++ (hObj E σ 35 ++ (hObj E σ 36 ++ (hObj E σ 37 ++ (hObj E σ 38 ++ (hObj E σ 39 ++ (hObj E σ 40 ++ (hObj E σ 41 ++ (hObj E σ 42 ++ (hObj E σ 43 ++ []))))))))))))))))))))))))))))))))))))))))))) := by
  rw [hW_eq]
  unfold hIds
  rw [List.map_flatMap]
  rfl
theorem rows_i {E : hEnv} {σ : hMem} {j k n w q : Nat} (hl : (hLay j)[k]? = some (eII n w)) (hn : n ≤ 1000) (h0 : hR E j k 1000 = q) (h1 : ∀ x, x < n → hR E j k x = q + 1 + x) {f : Nat → Int32} (h2 : ∀ x, x < n → hA σ j k x = f) : hSeg E σ j k (eII n w) = wRows (E.2.1 4) (E.2.1 0) q n w (.inl f) := by
  unfold hSeg wRows
  show (hAd E (j, k + 1, 1000), hCont E σ (j, k + 1, 1000)) :: ((List.range n).map (fun i => (j, k + 1, i))).map (fun c => (hAd E c, hCont E σ c)) = _
  rw [List.map_map]
  congr 1
  · rw [hCont_s hl]
    show (hR E j k 1000, (if 1000 = 1000 then (.inl (E.2.1 4, hRefs n (fun x => hR E j k x)) : va_E) else (.inl (E.2.1 0, w, .inl (hA σ j k 1000)) : va_E))) = _
    rw [if_pos rfl, h0]
    unfold hRefs
    rw [ref_cg h1]
  · apply List.map_congr_left
    intro i hi
    have hi' := List.mem_range.mp hi
    show (hR E j k i, hCont E σ (j, k + 1, i)) = _
    rw [hCont_s hl, h1 i hi']
    show (q + 1 + i, (if i = 1000 then (.inl (E.2.1 4, hRefs n (fun x => hR E j k x)) : va_E) else (.inl (E.2.1 0, w, .inl (hA σ j k i)) : va_E))) = _
    rw [if_neg (by omega), h2 i hi']
theorem rows_j {E : hEnv} {σ : hMem} {j k n w q : Nat} (hl : (hLay j)[k]? = some (eJJ n w)) (hn : n ≤ 1000) (h0 : hR E j k 1000 = q) (h1 : ∀ x, x < n → hR E j k x = q + 1 + x) {f : Nat → Int64} (h2 : ∀ x, x < n → hB σ j k x = f) : hSeg E σ j k (eJJ n w) = wRows (E.2.1 5) (E.2.1 1) q n w (.inr (.inl f)) := by
  unfold hSeg wRows
  show (hAd E (j, k + 1, 1000), hCont E σ (j, k + 1, 1000)) :: ((List.range n).map (fun i => (j, k + 1, i))).map (fun c => (hAd E c, hCont E σ c)) = _
  rw [List.map_map]
  congr 1
  · rw [hCont_s hl]
    show (hR E j k 1000, (if 1000 = 1000 then (.inl (E.2.1 5, hRefs n (fun x => hR E j k x)) : va_E) else (.inl (E.2.1 1, w, .inr (.inl (hB σ j k 1000))) : va_E))) = _
    rw [if_pos rfl, h0]
    unfold hRefs
    rw [ref_cg h1]
  · apply List.map_congr_left
    intro i hi
    have hi' := List.mem_range.mp hi
    show (hR E j k i, hCont E σ (j, k + 1, i)) = _
    rw [hCont_s hl, h1 i hi']
    show (q + 1 + i, (if i = 1000 then (.inl (E.2.1 5, hRefs n (fun x => hR E j k x)) : va_E) else (.inl (E.2.1 1, w, .inr (.inl (hB σ j k i))) : va_E))) = _
    rw [if_neg (by omega), h2 i hi']
section ST
variable (E : hEnv) (b a1 a2 : Nat) (gT gG gC gP gM gS gJ : Nat → Nat) (gL gH : Nat → Nat → Nat) (gX : Nat → Nat)
theorem sg_2 : hSeg (eAt E (adr b a1 a2 gT gG gC gP gM gS gJ gL gH gX)) σ0 43 2 (eI 6) = [(gX (0 + 1), .inl (E.2.1 0, 6, .inl (pre (fun _ => 5) (fun _ => 0) 6)))] := rfl
theorem sg_4 : hSeg (eAt E (adr b a1 a2 gT gG gC gP gM gS gJ gL gH gX)) σ0 43 4 (eI 40) = [(gX (0 + 2), .inl (E.2.1 0, 40, .inl (fun _ => 0)))] := rfl
theorem sg_5 : hSeg (eAt E (adr b a1 a2 gT gG gC gP gM gS gJ gL gH gX)) σ0 43 5 (eI 40) = [(gX (0 + 3), .inl (E.2.1 0, 40, .inl (fun _ => 0)))] := rfl
theorem sg_6 : hSeg (eAt E (adr b a1 a2 gT gG gC gP gM gS gJ gL gH gX)) σ0 43 6 (eI 40) = [(gX (0 + 4), .inl (E.2.1 0, 40, .inl (fun _ => 0)))] := rfl
theorem sg_7 : hSeg (eAt E (adr b a1 a2 gT gG gC gP gM gS gJ gL gH gX)) σ0 43 7 (eI 40) = [(gX (0 + 5), .inl (E.2.1 0, 40, .inl (fun _ => 0)))] := rfl
theorem sg_8 : hSeg (eAt E (adr b a1 a2 gT gG gC gP gM gS gJ gL gH gX)) σ0 43 8 (eI 40) = [(gX (0 + 6), .inl (E.2.1 0, 40, .inl (fun _ => 0)))] := rfl
theorem sg_9 : hSeg (eAt E (adr b a1 a2 gT gG gC gP gM gS gJ gL gH gX)) σ0 43 9 (eJJ 16 16) = wRows (E.2.1 5) (E.2.1 1) (gX (0 + 7)) 16 16 (.inr (.inl (fun _ => 0))) := rows_j rfl (by decide) rfl (fun x hx => by show adM gX 10 x = _; unfold adM; rw [if_pos ⟨by decide, by omega⟩]; rfl) (fun x hx => rfl)
theorem sg_10 : hSeg (eAt E (adr b a1 a2 gT gG gC gP gM gS gJ gL gH gX)) σ0 43 10 (eZ 40) = [(gX (0 + 8), .inl (E.2.1 2, 40, .inl (fun _ => 0)))] := rfl
theorem sg_12 : hSeg (eAt E (adr b a1 a2 gT gG gC gP gM gS gJ gL gH gX)) σ0 43 12 (eI 60) = [(gX (0 + 9), .inl (E.2.1 0, 60, .inl (fun _ => 0)))] := rfl
theorem sg_13 : hSeg (eAt E (adr b a1 a2 gT gG gC gP gM gS gJ gL gH gX)) σ0 43 13 (eI 60) = [(gX (0 + 10), .inl (E.2.1 0, 60, .inl (fun _ => 0)))] := rfl
theorem sg_14 : hSeg (eAt E (adr b a1 a2 gT gG gC gP gM gS gJ gL gH gX)) σ0 43 14 (eI 60) = [(gX (0 + 11), .inl (E.2.1 0, 60, .inl (fun _ => 0)))] := rfl
theorem sg_15 : hSeg (eAt E (adr b a1 a2 gT gG gC gP gM gS gJ gL gH gX)) σ0 43 15 (eI 60) = [(gX (0 + 12), .inl (E.2.1 0, 60, .inl (fun _ => 0)))] := rfl
theorem sg_16 : hSeg (eAt E (adr b a1 a2 gT gG gC gP gM gS gJ gL gH gX)) σ0 43 16 (eI 60) = [(gX (0 + 13), .inl (E.2.1 0, 60, .inl (fun _ => 0)))] := rfl
theorem sg_18 : hSeg (eAt E (adr b a1 a2 gT gG gC gP gM gS gJ gL gH gX)) σ0 43 18 (eI 40) = [(gX (0 + 14), .inl (E.2.1 0, 40, .inl (fun _ => 0)))] := rfl
theorem sg_19 : hSeg (eAt E (adr b a1 a2 gT gG gC gP gM gS gJ gL gH gX)) σ0 43 19 (eI 40) = [(gX (0 + 15), .inl (E.2.1 0, 40, .inl (fun _ => 0)))] := rfl
theorem sg_20 : hSeg (eAt E (adr b a1 a2 gT gG gC gP gM gS gJ gL gH gX)) σ0 43 20 (eI 40) = [(gX (0 + 16), .inl (E.2.1 0, 40, .inl (fun _ => 0)))] := rfl
theorem sg_21 : hSeg (eAt E (adr b a1 a2 gT gG gC gP gM gS gJ gL gH gX)) σ0 43 21 (eI 40) = [(gX (0 + 17), .inl (E.2.1 0, 40, .inl (fun _ => 0)))] := rfl
theorem sg_22 : hSeg (eAt E (adr b a1 a2 gT gG gC gP gM gS gJ gL gH gX)) σ0 43 22 (eI 40) = [(gX (0 + 18), .inl (E.2.1 0, 40, .inl (fun _ => 0)))] := rfl
theorem sg_23 : hSeg (eAt E (adr b a1 a2 gT gG gC gP gM gS gJ gL gH gX)) σ0 43 23 (eI 40) = [(gX (0 + 19), .inl (E.2.1 0, 40, .inl (fun _ => 0)))] := rfl
theorem sg_27 : hSeg (eAt E (adr b a1 a2 gT gG gC gP gM gS gJ gL gH gX)) σ0 43 27 (eI 6) = [(gX (0 + 20), .inl (E.2.1 0, 6, .inl (fun _ => 0)))] := rfl
theorem sg_28 : hSeg (eAt E (adr b a1 a2 gT gG gC gP gM gS gJ gL gH gX)) σ0 43 28 (eI 6) = [(gX (0 + 21), .inl (E.2.1 0, 6, .inl (fun _ => 0)))] := rfl
theorem sg_29 : hSeg (eAt E (adr b a1 a2 gT gG gC gP gM gS gJ gL gH gX)) σ0 43 29 (eII 7 11) = wRows (E.2.1 4) (E.2.1 0) (gX (0 + 22)) 7 11 (.inl (fun _ => 0)) := rows_i rfl (by decide) rfl (fun x hx => by show adM gX 30 x = _; unfold adM; rw [if_pos ⟨by decide, by omega⟩]; rfl) (fun x hx => rfl)
theorem sg_30 : hSeg (eAt E (adr b a1 a2 gT gG gC gP gM gS gJ gL gH gX)) σ0 43 30 (eB 300) = [(gX (0 + 23), .inl (E.2.1 3, 300, .inl (fun _ => 0)))] := rfl
theorem sg_37 : hSeg (eAt E (adr b a1 a2 gT gG gC gP gM gS gJ gL gH gX)) σ0 43 37 (eI 60) = [(gX (0 + 24), .inl (E.2.1 0, 60, .inl (fun _ => 0)))] := rfl
theorem sg_39 : hSeg (eAt E (adr b a1 a2 gT gG gC gP gM gS gJ gL gH gX)) σ0 43 39 (eI 8) = [(gX (0 + 25), .inl (E.2.1 0, 8, .inl (fun _ => 0)))] := rfl
theorem sg_40 : hSeg (eAt E (adr b a1 a2 gT gG gC gP gM gS gJ gL gH gX)) σ0 43 40 (eI 8) = [(gX (0 + 26), .inl (E.2.1 0, 8, .inl (fun _ => 0)))] := rfl
theorem sg_41 : hSeg (eAt E (adr b a1 a2 gT gG gC gP gM gS gJ gL gH gX)) σ0 43 41 (eI 8) = [(gX (0 + 27), .inl (E.2.1 0, 8, .inl (fun _ => 0)))] := rfl
theorem sg_42 : hSeg (eAt E (adr b a1 a2 gT gG gC gP gM gS gJ gL gH gX)) σ0 43 42 (eI 8) = [(gX (0 + 28), .inl (E.2.1 0, 8, .inl (fun _ => 0)))] := rfl
theorem sg_43 : hSeg (eAt E (adr b a1 a2 gT gG gC gP gM gS gJ gL gH gX)) σ0 43 43 (eI 8) = [(gX (0 + 29), .inl (E.2.1 0, 8, .inl (fun _ => 0)))] := rfl
theorem sg_44 : hSeg (eAt E (adr b a1 a2 gT gG gC gP gM gS gJ gL gH gX)) σ0 43 44 (eI 8) = [(gX (0 + 30), .inl (E.2.1 0, 8, .inl (fun _ => 0)))] := rfl
theorem sg_45 : hSeg (eAt E (adr b a1 a2 gT gG gC gP gM gS gJ gL gH gX)) σ0 43 45 (eI 8) = [(gX (0 + 31), .inl (E.2.1 0, 8, .inl (fun _ => 0)))] := rfl
theorem sg_46 : hSeg (eAt E (adr b a1 a2 gT gG gC gP gM gS gJ gL gH gX)) σ0 43 46 (eII 8 60) = wRows (E.2.1 4) (E.2.1 0) (gX (0 + 32)) 8 60 (.inl (fun _ => 0)) := rows_i rfl (by decide) rfl (fun x hx => by show adM gX 47 x = _; unfold adM; rw [if_pos ⟨by decide, by omega⟩]; rfl) (fun x hx => rfl)
theorem sg_52 : hSeg (eAt E (adr b a1 a2 gT gG gC gP gM gS gJ gL gH gX)) σ0 43 52 (eI 40) = [(gX (0 + 33), .inl (E.2.1 0, 40, .inl (fun _ => 0)))] := rfl
theorem sg_56 : hSeg (eAt E (adr b a1 a2 gT gG gC gP gM gS gJ gL gH gX)) σ0 43 56 (eJJ 8 7) = wRows (E.2.1 5) (E.2.1 1) (gX (0 + 34)) 8 7 (.inr (.inl (fun _ => 0))) := rows_j rfl (by decide) rfl (fun x hx => by show adM gX 57 x = _; unfold adM; rw [if_pos ⟨by decide, by omega⟩]; rfl) (fun x hx => rfl)
theorem sg_57 : hSeg (eAt E (adr b a1 a2 gT gG gC gP gM gS gJ gL gH gX)) σ0 43 57 (eJJ 8 60) = wRows (E.2.1 5) (E.2.1 1) (gX (0 + 35)) 8 60 (.inr (.inl (fun _ => 0))) := rows_j rfl (by decide) rfl (fun x hx => by show adM gX 58 x = _; unfold adM; rw [if_pos ⟨by decide, by omega⟩]; rfl) (fun x hx => rfl)
theorem sg_58 : hSeg (eAt E (adr b a1 a2 gT gG gC gP gM gS gJ gL gH gX)) σ0 43 58 (eI 8) = [(gX (0 + 36), .inl (E.2.1 0, 8, .inl (fun _ => 0)))] := rfl
theorem hObj_eq (σ : hMem) (j : Nat) : hObj E σ j = (hO E j, .inr (hCi j, hFs E σ j)) :: (hLay j).zipIdx.flatMap (fun q => hSeg E σ j q.2 q.1) := by
  unfold hObj hIdsOf
  rw [List.map_cons, List.map_flatMap]
  rfl
theorem sg_e0 (σ : hMem) (j k : Nat) : hSeg E σ j k (0, 0, 0, 0) = [] := rfl
theorem sg_e1 (σ : hMem) (j k : Nat) : hSeg E σ j k (1, 0, 0, 0) = [] := rfl
set_option maxRecDepth 100000 in
theorem fs_43 : hFs (eAt E (adr b a1 a2 gT gG gC gP gM gS gJ gL gH gX)) σ0 43 = [.int 0, .int 0, .ref (gX (0 + 1)), .int 0, .ref (gX (0 + 2)), .ref (gX (0 + 3)), .ref (gX (0 + 4)), .ref (gX (0 + 5)), .ref (gX (0 + 6)), .ref (gX (0 + 7)), .ref (gX (0 + 8)), .int 0, .ref (gX (0 + 9)), .ref (gX (0 + 10)), .ref (gX (0 + 11)), .ref (gX (0 + 12)), .ref (gX (0 + 13)), .int 0, .ref (gX (0 + 14)), .ref (gX (0 + 15)), .ref (gX (0 + 16)), .ref (gX (0 + 17)), .ref (gX (0 + 18)), .ref (gX (0 + 19)), .int 0, .int 0, .int 0, .ref (gX (0 + 20)), .ref (gX (0 + 21)), .ref (gX (0 + 22)), .ref (gX (0 + 23)), .int 0, .int 0, .int 0, .int 0, .int 0, .int 0, .ref (gX (0 + 24)), .int 0, .ref (gX (0 + 25)), .ref (gX (0 + 26)), .ref (gX (0 + 27)), .ref (gX (0 + 28)), .ref (gX (0 + 29)), .ref (gX (0 + 30)), .ref (gX (0 + 31)), .ref (gX (0 + 32)), .int 0, .int 0, .int 0, .int 0, .int 0, .ref (gX (0 + 33)), .long 0, .long 0, .long 0, .ref (gX (0 + 34)), .ref (gX (0 + 35)), .ref (gX (0 + 36))] := by
  unfold hFs
  rw [show hLay 43 = layModel from rfl]
  unfold layModel
  simp only [List.mapIdx_cons, List.mapIdx_nil]
  rfl
set_option maxRecDepth 100000 in
theorem fl_43 : (hLay 43).zipIdx.flatMap (fun q => hSeg (eAt E (adr b a1 a2 gT gG gC gP gM gS gJ gL gH gX)) σ0 43 q.2 q.1) = [(gX (0 + 1), .inl (E.2.1 0, 6, .inl (pre (fun _ => 5) (fun _ => 0) 6)))] ++ ([(gX (0 + 2), .inl (E.2.1 0, 40, .inl (fun _ => 0)))] ++ ([(gX (0 + 3), .inl (E.2.1 0, 40, .inl (fun _ => 0)))] ++ ([(gX (0 + 4), .inl (E.2.1 0, 40, .inl (fun _ => 0)))] ++ ([(gX (0 + 5), .inl (E.2.1 0, 40, .inl (fun _ => 0)))] ++ ([(gX (0 + 6), .inl (E.2.1 0, 40, .inl (fun _ => 0)))] ++ (wRows (E.2.1 5) (E.2.1 1) (gX (0 + 7)) 16 16 (.inr (.inl (fun _ => 0))) ++ ([(gX (0 + 8), .inl (E.2.1 2, 40, .inl (fun _ => 0)))] ++ ([(gX (0 + 9), .inl (E.2.1 0, 60, .inl (fun _ => 0)))] ++ ([(gX (0 + 10), .inl (E.2.1 0, 60, .inl (fun _ => 0)))] ++ ([(gX (0 + 11), .inl (E.2.1 0, 60, .inl (fun _ => 0)))] ++ ([(gX (0 + 12), .inl (E.2.1 0, 60, .inl (fun _ => 0)))] ++ ([(gX (0 + 13), .inl (E.2.1 0, 60, .inl (fun _ => 0)))] ++ ([(gX (0 + 14), .inl (E.2.1 0, 40, .inl (fun _ => 0)))] ++ ([(gX (0 + 15), .inl (E.2.1 0, 40, .inl (fun _ => 0)))] ++ ([(gX (0 + 16), .inl (E.2.1 0, 40, .inl (fun _ => 0)))] ++ ([(gX (0 + 17), .inl (E.2.1 0, 40, .inl (fun _ => 0)))] ++ ([(gX (0 + 18), .inl (E.2.1 0, 40, .inl (fun _ => 0)))] ++ ([(gX (0 + 19), .inl (E.2.1 0, 40, .inl (fun _ => 0)))] ++ ([(gX (0 + 20), .inl (E.2.1 0, 6, .inl (fun _ => 0)))] ++ ([(gX (0 + 21), .inl (E.2.1 0, 6, .inl (fun _ => 0)))] ++ (wRows (E.2.1 4) (E.2.1 0) (gX (0 + 22)) 7 11 (.inl (fun _ => 0)) ++ ([(gX (0 + 23), .inl (E.2.1 3, 300, .inl (fun _ => 0)))] ++ ([(gX (0 + 24), .inl (E.2.1 0, 60, .inl (fun _ => 0)))] ++ ([(gX (0 + 25), .inl (E.2.1 0, 8, .inl (fun _ => 0)))] ++ ([(gX (0 + 26), .inl (E.2.1 0, 8, .inl (fun _ => 0)))] ++ ([(gX (0 + 27), .inl (E.2.1 0, 8, .inl (fun _ => 0)))] ++ ([(gX (0 + 28), .inl (E.2.1 0, 8, .inl (fun _ => 0)))] ++ ([(gX (0 + 29), .inl (E.2.1 0, 8, .inl (fun _ => 0)))] ++ ([(gX (0 + 30), .inl (E.2.1 0, 8, .inl (fun _ => 0)))] ++ ([(gX (0 + 31), .inl (E.2.1 0, 8, .inl (fun _ => 0)))] ++ (wRows (E.2.1 4) (E.2.1 0) (gX (0 + 32)) 8 60 (.inl (fun _ => 0)) ++ ([(gX (0 + 33), .inl (E.2.1 0, 40, .inl (fun _ => 0)))] ++ (wRows (E.2.1 5) (E.2.1 1) (gX (0 + 34)) 8 7 (.inr (.inl (fun _ => 0))) ++ (wRows (E.2.1 5) (E.2.1 1) (gX (0 + 35)) 8 60 (.inr (.inl (fun _ => 0))) ++ ([(gX (0 + 36), .inl (E.2.1 0, 8, .inl (fun _ => 0)))] ++ ([])))))))))))))))))))))))))))))))))))) := by
  rw [show hLay 43 = layModel from rfl]
  unfold layModel
  simp only [List.zipIdx_cons, List.zipIdx_nil, List.flatMap_cons, List.flatMap_nil, Nat.zero_add, Nat.reduceAdd, sg_e0, sg_e1, List.nil_append]
  rw [sg_2, sg_4, sg_5, sg_6, sg_7, sg_8, sg_9, sg_10, sg_12, sg_13, sg_14, sg_15, sg_16, sg_18, sg_19, sg_20, sg_21, sg_22, sg_23, sg_27, sg_28, sg_29, sg_30, sg_37, sg_39, sg_40, sg_41, sg_42, sg_43, sg_44, sg_45, sg_46, sg_52, sg_56, sg_57, sg_58]
theorem ob_43 : hObj (eAt E (adr b a1 a2 gT gG gC gP gM gS gJ gL gH gX)) σ0 43 = [(gX (0 + 0), .inr (12, [.int 0, .int 0, .ref (gX (0 + 1)), .int 0, .ref (gX (0 + 2)), .ref (gX (0 + 3)), .ref (gX (0 + 4)), .ref (gX (0 + 5)), .ref (gX (0 + 6)), .ref (gX (0 + 7)), .ref (gX (0 + 8)), .int 0, .ref (gX (0 + 9)), .ref (gX (0 + 10)), .ref (gX (0 + 11)), .ref (gX (0 + 12)), .ref (gX (0 + 13)), .int 0, .ref (gX (0 + 14)), .ref (gX (0 + 15)), .ref (gX (0 + 16)), .ref (gX (0 + 17)), .ref (gX (0 + 18)), .ref (gX (0 + 19)), .int 0, .int 0, .int 0, .ref (gX (0 + 20)), .ref (gX (0 + 21)), .ref (gX (0 + 22)), .ref (gX (0 + 23)), .int 0, .int 0, .int 0, .int 0, .int 0, .int 0, .ref (gX (0 + 24)), .int 0, .ref (gX (0 + 25)), .ref (gX (0 + 26)), .ref (gX (0 + 27)), .ref (gX (0 + 28)), .ref (gX (0 + 29)), .ref (gX (0 + 30)), .ref (gX (0 + 31)), .ref (gX (0 + 32)), .int 0, .int 0, .int 0, .int 0, .int 0, .ref (gX (0 + 33)), .long 0, .long 0, .long 0, .ref (gX (0 + 34)), .ref (gX (0 + 35)), .ref (gX (0 + 36))]))] ++ ([(gX (0 + 1), .inl (E.2.1 0, 6, .inl (pre (fun _ => 5) (fun _ => 0) 6)))] ++ ([(gX (0 + 2), .inl (E.2.1 0, 40, .inl (fun _ => 0)))] ++ ([(gX (0 + 3), .inl (E.2.1 0, 40, .inl (fun _ => 0)))] ++ ([(gX (0 + 4), .inl (E.2.1 0, 40, .inl (fun _ => 0)))] ++ ([(gX (0 + 5), .inl (E.2.1 0, 40, .inl (fun _ => 0)))] ++ ([(gX (0 + 6), .inl (E.2.1 0, 40, .inl (fun _ => 0)))] ++ (wRows (E.2.1 5) (E.2.1 1) (gX (0 + 7)) 16 16 (.inr (.inl (fun _ => 0))) ++ ([(gX (0 + 8), .inl (E.2.1 2, 40, .inl (fun _ => 0)))] ++ ([(gX (0 + 9), .inl (E.2.1 0, 60, .inl (fun _ => 0)))] ++ ([(gX (0 + 10), .inl (E.2.1 0, 60, .inl (fun _ => 0)))] ++ ([(gX (0 + 11), .inl (E.2.1 0, 60, .inl (fun _ => 0)))] ++ ([(gX (0 + 12), .inl (E.2.1 0, 60, .inl (fun _ => 0)))] ++ ([(gX (0 + 13), .inl (E.2.1 0, 60, .inl (fun _ => 0)))] ++ ([(gX (0 + 14), .inl (E.2.1 0, 40, .inl (fun _ => 0)))] ++ ([(gX (0 + 15), .inl (E.2.1 0, 40, .inl (fun _ => 0)))] ++ ([(gX (0 + 16), .inl (E.2.1 0, 40, .inl (fun _ => 0)))] ++ ([(gX (0 + 17), .inl (E.2.1 0, 40, .inl (fun _ => 0)))] ++ ([(gX (0 + 18), .inl (E.2.1 0, 40, .inl (fun _ => 0)))] ++ ([(gX (0 + 19), .inl (E.2.1 0, 40, .inl (fun _ => 0)))] ++ ([(gX (0 + 20), .inl (E.2.1 0, 6, .inl (fun _ => 0)))] ++ ([(gX (0 + 21), .inl (E.2.1 0, 6, .inl (fun _ => 0)))] ++ (wRows (E.2.1 4) (E.2.1 0) (gX (0 + 22)) 7 11 (.inl (fun _ => 0)) ++ ([(gX (0 + 23), .inl (E.2.1 3, 300, .inl (fun _ => 0)))] ++ ([(gX (0 + 24), .inl (E.2.1 0, 60, .inl (fun _ => 0)))] ++ ([(gX (0 + 25), .inl (E.2.1 0, 8, .inl (fun _ => 0)))] ++ ([(gX (0 + 26), .inl (E.2.1 0, 8, .inl (fun _ => 0)))] ++ ([(gX (0 + 27), .inl (E.2.1 0, 8, .inl (fun _ => 0)))] ++ ([(gX (0 + 28), .inl (E.2.1 0, 8, .inl (fun _ => 0)))] ++ ([(gX (0 + 29), .inl (E.2.1 0, 8, .inl (fun _ => 0)))] ++ ([(gX (0 + 30), .inl (E.2.1 0, 8, .inl (fun _ => 0)))] ++ ([(gX (0 + 31), .inl (E.2.1 0, 8, .inl (fun _ => 0)))] ++ (wRows (E.2.1 4) (E.2.1 0) (gX (0 + 32)) 8 60 (.inl (fun _ => 0)) ++ ([(gX (0 + 33), .inl (E.2.1 0, 40, .inl (fun _ => 0)))] ++ (wRows (E.2.1 5) (E.2.1 1) (gX (0 + 34)) 8 7 (.inr (.inl (fun _ => 0))) ++ (wRows (E.2.1 5) (E.2.1 1) (gX (0 + 35)) 8 60 (.inr (.inl (fun _ => 0))) ++ ([(gX (0 + 36), .inl (E.2.1 0, 8, .inl (fun _ => 0)))] ++ ([]))))))))))))))))))))))))))))))))))))) := by
  rw [hObj_eq, fs_43, fl_43]
  rfl
noncomputable def decW : DecidableEq (Nat × va_E) := fun a b => Classical.propDecidable (a = b)
theorem perm_ct {w w' : va_W} (h : ∀ a, @List.count _ (@instBEqOfDecidableEq _ decW) a w = @List.count _ (@instBEqOfDecidableEq _ decW) a w') : w.Perm w' := by
  letI := decW
  exact List.perm_iff_count.mpr h
theorem pm_43 : (wModel E gX 0).Perm (hObj (eAt E (adr b a1 a2 gT gG gC gP gM gS gJ gL gH gX)) σ0 43) := by
  rw [ob_43]
  unfold wModel
  apply perm_ct
  intro a
  simp only [List.count_append, List.count_cons, List.count_nil]
  omega
theorem ob_2 : hObj (eAt E (adr b a1 a2 gT gG gC gP gM gS gJ gL gH gX)) σ0 2 = wBounds E gT (0 + 9) := rfl
theorem ob_3 : hObj (eAt E (adr b a1 a2 gT gG gC gP gM gS gJ gL gH gX)) σ0 3 = wBounds E gT (0 + 11) := rfl
theorem ob_5 : hObj (eAt E (adr b a1 a2 gT gG gC gP gM gS gJ gL gH gX)) σ0 5 = wTimes60 E gG (0 + 3) := rfl
theorem ob_7 : hObj (eAt E (adr b a1 a2 gT gG gC gP gM gS gJ gL gH gX)) σ0 7 = wTimes40 E gC (0 + 3) := rfl
theorem ob_8 : hObj (eAt E (adr b a1 a2 gT gG gC gP gM gS gJ gL gH gX)) σ0 8 = wTimes40 E gC (0 + 6) := rfl
theorem ob_9 : hObj (eAt E (adr b a1 a2 gT gG gC gP gM gS gJ gL gH gX)) σ0 9 = wTape E gP 0 := rfl
theorem ob_10 : hObj (eAt E (adr b a1 a2 gT gG gC gP gM gS gJ gL gH gX)) σ0 10 = wTimes6 E gM 0 := rfl
theorem ob_11 : hObj (eAt E (adr b a1 a2 gT gG gC gP gM gS gJ gL gH gX)) σ0 11 = wCrew E gS 0 := rfl
theorem ob_13 : hObj (eAt E (adr b a1 a2 gT gG gC gP gM gS gJ gL gH gX)) σ0 13 = wLaw E (gL 0) 0 := rfl
theorem ob_14 : hObj (eAt E (adr b a1 a2 gT gG gC gP gM gS gJ gL gH gX)) σ0 14 = wLaw E (gL 1) 0 := rfl
theorem ob_15 : hObj (eAt E (adr b a1 a2 gT gG gC gP gM gS gJ gL gH gX)) σ0 15 = wLaw E (gL 2) 0 := rfl
theorem ob_16 : hObj (eAt E (adr b a1 a2 gT gG gC gP gM gS gJ gL gH gX)) σ0 16 = wLaw E (gL 3) 0 := rfl
theorem ob_17 : hObj (eAt E (adr b a1 a2 gT gG gC gP gM gS gJ gL gH gX)) σ0 17 = wLaw E (gL 4) 0 := rfl
theorem ob_18 : hObj (eAt E (adr b a1 a2 gT gG gC gP gM gS gJ gL gH gX)) σ0 18 = wLaw E (gL 5) 0 := rfl
theorem ob_27 : hObj (eAt E (adr b a1 a2 gT gG gC gP gM gS gJ gL gH gX)) σ0 27 = wCrew E (gH 0) (0 + 1) := rfl
theorem ob_28 : hObj (eAt E (adr b a1 a2 gT gG gC gP gM gS gJ gL gH gX)) σ0 28 = wCrew E (gH 1) (0 + 1) := rfl
theorem ob_29 : hObj (eAt E (adr b a1 a2 gT gG gC gP gM gS gJ gL gH gX)) σ0 29 = wCrew E (gH 2) (0 + 1) := rfl
theorem ob_30 : hObj (eAt E (adr b a1 a2 gT gG gC gP gM gS gJ gL gH gX)) σ0 30 = wCrew E (gH 3) (0 + 1) := rfl
theorem ob_31 : hObj (eAt E (adr b a1 a2 gT gG gC gP gM gS gJ gL gH gX)) σ0 31 = wCrew E (gH 4) (0 + 1) := rfl
theorem ob_32 : hObj (eAt E (adr b a1 a2 gT gG gC gP gM gS gJ gL gH gX)) σ0 32 = wCrew E (gH 5) (0 + 1) := rfl
theorem ob_33 : hObj (eAt E (adr b a1 a2 gT gG gC gP gM gS gJ gL gH gX)) σ0 33 = wCrew E (gH 6) (0 + 1) := rfl
theorem ob_34 : hObj (eAt E (adr b a1 a2 gT gG gC gP gM gS gJ gL gH gX)) σ0 34 = wCrew E (gH 7) (0 + 1) := rfl
theorem ob_35 : hObj (eAt E (adr b a1 a2 gT gG gC gP gM gS gJ gL gH gX)) σ0 35 = wPart E gJ (0 + 4) := rfl
theorem ob_36 : hObj (eAt E (adr b a1 a2 gT gG gC gP gM gS gJ gL gH gX)) σ0 36 = wPart E gJ (0 + 6) := rfl
theorem ob_37 : hObj (eAt E (adr b a1 a2 gT gG gC gP gM gS gJ gL gH gX)) σ0 37 = wPart E gJ (0 + 8) := rfl
theorem ob_38 : hObj (eAt E (adr b a1 a2 gT gG gC gP gM gS gJ gL gH gX)) σ0 38 = wPart E gJ (0 + 10) := rfl
theorem ob_39 : hObj (eAt E (adr b a1 a2 gT gG gC gP gM gS gJ gL gH gX)) σ0 39 = wPart E gJ (0 + 12) := rfl
theorem ob_40 : hObj (eAt E (adr b a1 a2 gT gG gC gP gM gS gJ gL gH gX)) σ0 40 = wPart E gJ (0 + 14) := rfl
theorem ob_41 : hObj (eAt E (adr b a1 a2 gT gG gC gP gM gS gJ gL gH gX)) σ0 41 = wPart E gJ (0 + 16) := rfl
theorem ob_42 : hObj (eAt E (adr b a1 a2 gT gG gC gP gM gS gJ gL gH gX)) σ0 42 = wPart E gJ (0 + 18) := rfl
theorem sm_1 : wTale E gT 0 = hObj (eAt E (adr b a1 a2 gT gG gC gP gM gS gJ gL gH gX)) σ0 2 ++ (hObj (eAt E (adr b a1 a2 gT gG gC gP gM gS gJ gL gH gX)) σ0 3 ++ hObj (eAt E (adr b a1 a2 gT gG gC gP gM gS gJ gL gH gX)) σ0 1) := rfl
theorem sm_4 : wGoods E gG 0 = hObj (eAt E (adr b a1 a2 gT gG gC gP gM gS gJ gL gH gX)) σ0 5 ++ hObj (eAt E (adr b a1 a2 gT gG gC gP gM gS gJ gL gH gX)) σ0 4 := rfl
theorem sm_6 : wCases E gC 0 = hObj (eAt E (adr b a1 a2 gT gG gC gP gM gS gJ gL gH gX)) σ0 7 ++ (hObj (eAt E (adr b a1 a2 gT gG gC gP gM gS gJ gL gH gX)) σ0 8 ++ hObj (eAt E (adr b a1 a2 gT gG gC gP gM gS gJ gL gH gX)) σ0 6) := rfl
theorem sm_19 : wShip E (gH 0) 0 = hObj (eAt E (adr b a1 a2 gT gG gC gP gM gS gJ gL gH gX)) σ0 27 ++ hObj (eAt E (adr b a1 a2 gT gG gC gP gM gS gJ gL gH gX)) σ0 19 := rfl
theorem sm_20 : wShip E (gH 1) 0 = hObj (eAt E (adr b a1 a2 gT gG gC gP gM gS gJ gL gH gX)) σ0 28 ++ hObj (eAt E (adr b a1 a2 gT gG gC gP gM gS gJ gL gH gX)) σ0 20 := rfl
theorem sm_21 : wShip E (gH 2) 0 = hObj (eAt E (adr b a1 a2 gT gG gC gP gM gS gJ gL gH gX)) σ0 29 ++ hObj (eAt E (adr b a1 a2 gT gG gC gP gM gS gJ gL gH gX)) σ0 21 := rfl
theorem sm_22 : wShip E (gH 3) 0 = hObj (eAt E (adr b a1 a2 gT gG gC gP gM gS gJ gL gH gX)) σ0 30 ++ hObj (eAt E (adr b a1 a2 gT gG gC gP gM gS gJ gL gH gX)) σ0 22 := rfl
theorem sm_23 : wShip E (gH 4) 0 = hObj (eAt E (adr b a1 a2 gT gG gC gP gM gS gJ gL gH gX)) σ0 31 ++ hObj (eAt E (adr b a1 a2 gT gG gC gP gM gS gJ gL gH gX)) σ0 23 := rfl
theorem sm_24 : wShip E (gH 5) 0 = hObj (eAt E (adr b a1 a2 gT gG gC gP gM gS gJ gL gH gX)) σ0 32 ++ hObj (eAt E (adr b a1 a2 gT gG gC gP gM gS gJ gL gH gX)) σ0 24 := rfl
theorem sm_25 : wShip E (gH 6) 0 = hObj (eAt E (adr b a1 a2 gT gG gC gP gM gS gJ gL gH gX)) σ0 33 ++ hObj (eAt E (adr b a1 a2 gT gG gC gP gM gS gJ gL gH gX)) σ0 25 := rfl
theorem sm_26 : wShip E (gH 7) 0 = hObj (eAt E (adr b a1 a2 gT gG gC gP gM gS gJ gL gH gX)) σ0 34 ++ hObj (eAt E (adr b a1 a2 gT gG gC gP gM gS gJ gL gH gX)) σ0 26 := rfl
theorem ob_12 : hObj (eAt E (adr b a1 a2 gT gG gC gP gM gS gJ gL gH gX)) σ0 12 = [(gJ (0 + 0), .inr (4, [.ref (gJ (0 + 1)), .ref (gJ (0 + 2)), .ref (gJ (0 + 3)), .int (-1), .int 0, .int 0, .long 0, .long 0, .long 0, .int 0, .long 0])), (gJ (0 + 1), .inl (E.2.1 0, 40, .inl (fun _ => 0))), (gJ (0 + 2), .inl (E.2.1 0, 40, .inl (fun _ => 0))), (gJ (0 + 3), .inl (E.2.1 8, 8, .inr (.inr (.inr (.inr (fun i => if i < 8 then some (gJ (0 + (4 + 2 * i))) else none))))))] := by
  have e : (fun i => if i < 8 then some (gJ (0 + (4 + 2 * i))) else none) = (fun i => if i < 8 then some (hO (eAt E (adr b a1 a2 gT gG gC gP gM gS gJ gL gH gX)) (35 + i)) else none) := ref_cg (fun i hi => by
    show _ = adr b a1 a2 gT gG gC gP gM gS gJ gL gH gX (35 + i) 0 0
    unfold adr
    rw [if_neg (by omega), if_neg (by omega), if_neg (by omega), if_neg (by omega), if_pos (by omega), Nat.add_sub_cancel_left, Nat.zero_add, Nat.add_zero])
  rw [e]
  rfl
theorem ob_0 : hObj (eAt E (adr b a1 a2 gT gG gC gP gM gS gJ gL gH gX)) σ0 0 = [(b, .inr (11, [.ref (gT 0), .ref (gG 0), .ref (gC 0), .ref (gP 0), .ref a1, .ref (gM 0), .ref (gS 0), .ref a2, .ref (gJ 0), .int 0, .int 0, .int 0, .int 0, .int 0])), (a1, .inl (E.2.1 6, 6, .inr (.inr (.inr (.inr (fun i => if i < 6 then some (gL i 0) else none)))))), (a2, .inl (E.2.1 7, 8, .inr (.inr (.inr (.inr (fun i => if i < 8 then some (gH i 0) else none))))))] := by
  have e1 : (fun i => if i < 6 then some (gL i 0) else none) = (fun i => if i < 6 then some (hO (eAt E (adr b a1 a2 gT gG gC gP gM gS gJ gL gH gX)) (13 + i)) else none) := ref_cg (fun i hi => by
    show _ = adr b a1 a2 gT gG gC gP gM gS gJ gL gH gX (13 + i) 0 0
    unfold adr
    rw [if_neg (by omega), if_pos (by omega), Nat.add_sub_cancel_left])
  have e2 : (fun i => if i < 8 then some (gH i 0) else none) = (fun i => if i < 8 then some (hO (eAt E (adr b a1 a2 gT gG gC gP gM gS gJ gL gH gX)) (19 + i)) else none) := ref_cg (fun i hi => by
    show _ = adr b a1 a2 gT gG gC gP gM gS gJ gL gH gX (19 + i) 0 0
    unfold adr
    rw [if_neg (by omega), if_neg (by omega), if_pos (by omega), Nat.add_sub_cancel_left])
  rw [e1, e2]
  rfl
theorem sm_12 : wJudg E gJ 0 = hObj (eAt E (adr b a1 a2 gT gG gC gP gM gS gJ gL gH gX)) σ0 35 ++ (hObj (eAt E (adr b a1 a2 gT gG gC gP gM gS gJ gL gH gX)) σ0 36 ++ (hObj (eAt E (adr b a1 a2 gT gG gC gP gM gS gJ gL gH gX)) σ0 37 ++ (hObj (eAt E (adr b a1 a2 gT gG gC gP gM gS gJ gL gH gX)) σ0 38 ++ (hObj (eAt E (adr b a1 a2 gT gG gC gP gM gS gJ gL gH gX)) σ0 39 ++ (hObj (eAt E (adr b a1 a2 gT gG gC gP gM gS gJ gL gH gX)) σ0 40 ++ (hObj (eAt E (adr b a1 a2 gT gG gC gP gM gS gJ gL gH gX)) σ0 41 ++ (hObj (eAt E (adr b a1 a2 gT gG gC gP gM gS gJ gL gH gX)) σ0 42 ++ hObj (eAt E (adr b a1 a2 gT gG gC gP gM gS gJ gL gH gX)) σ0 12))))))) := by
  rw [ob_12, ob_35, ob_36, ob_37, ob_38, ob_39, ob_40, ob_41, ob_42]
  rfl
theorem pm_all : (wCourt E b a1 a2 gT gG gC gP gM gS gJ gL gH ++ wModel E gX 0).Perm (hW (eAt E (adr b a1 a2 gT gG gC gP gM gS gJ gL gH gX)) σ0) := by
  refine ((pm_43 E b a1 a2 gT gG gC gP gM gS gJ gL gH gX).append_left _).trans ?_
  rw [hW_objs]
  unfold wCourt
  have z0 := ob_0 E b a1 a2 gT gG gC gP gM gS gJ gL gH gX
  have z9 := ob_9 E b a1 a2 gT gG gC gP gM gS gJ gL gH gX
  have z10 := ob_10 E b a1 a2 gT gG gC gP gM gS gJ gL gH gX
  have z11 := ob_11 E b a1 a2 gT gG gC gP gM gS gJ gL gH gX
  rw [← z0, sm_1 E b a1 a2 gT gG gC gP gM gS gJ gL gH gX, sm_4 E b a1 a2 gT gG gC gP gM gS gJ gL gH gX, sm_6 E b a1 a2 gT gG gC gP gM gS gJ gL gH gX, sm_12 E b a1 a2 gT gG gC gP gM gS gJ gL gH gX, ← z9, ← z10, ← z11, ← ob_13 E b a1 a2 gT gG gC gP gM gS gJ gL gH gX, ← ob_14 E b a1 a2 gT gG gC gP gM gS gJ gL gH gX, ← ob_15 E b a1 a2 gT gG gC gP gM gS gJ gL gH gX, ← ob_16 E b a1 a2 gT gG gC gP gM gS gJ gL gH gX, ← ob_17 E b a1 a2 gT gG gC gP gM gS gJ gL gH gX, ← ob_18 E b a1 a2 gT gG gC gP gM gS gJ gL gH gX, sm_19 E b a1 a2 gT gG gC gP gM gS gJ gL gH gX, sm_20 E b a1 a2 gT gG gC gP gM gS gJ gL gH gX, sm_21 E b a1 a2 gT gG gC gP gM gS gJ gL gH gX, sm_22 E b a1 a2 gT gG gC gP gM gS gJ gL gH gX, sm_23 E b a1 a2 gT gG gC gP gM gS gJ gL gH gX, sm_24 E b a1 a2 gT gG gC gP gM gS gJ gL gH gX, sm_25 E b a1 a2 gT gG gC gP gM gS gJ gL gH gX, sm_26 E b a1 a2 gT gG gC gP gM gS gJ gL gH gX]
  apply perm_ct
  intro a
  simp only [List.count_append, List.count_nil]
  omega
theorem start_hM {A : Nat → Prop} {s : State} {H : Heap} {locs : List Loc} (M : nM E A s H locs (wCourt E b a1 a2 gT gG gC gP gM gS gJ gL gH ++ wModel E gX 0)) : hM (eAt E (adr b a1 a2 gT gG gC gP gM gS gJ gL gH gX)) A s H locs σ0 [] := by
  have M1 := M.perm (pm_all E b a1 a2 gT gG gC gP gM gS gJ gL gH gX)
  refine ⟨?_, ?_, M1.2.2.1, M1.2.2.2⟩
  · rw [List.append_nil]; exact M1.1
  · rw [List.append_nil]; exact M1.2.1
end ST
