/-! The entry: what the statement gives. -/
theorem vw_in {ci : Nat} {q : vw_C} (h : vwCl[ci]? = some q) : Cond.instantiable q.1 q.2.2 ∈ lw_tbl := by
  have hlt : ci < 13 := (List.getElem?_eq_some_iff.mp h).1
  match ci, h with
  | 0, h => cases h; exact in0
  | 1, h => cases h; exact in1
  | 2, h => cases h; exact in2
  | 3, h => cases h; exact in3
  | 4, h => cases h; exact in4
  | 5, h => cases h; exact in5
  | 6, h => cases h; exact in6
  | 7, h => cases h; exact in7
  | 8, h => cases h; exact in8
  | 9, h => cases h; exact in9
  | 10, h => cases h; exact in10
  | 11, h => cases h; exact in11
  | 12, h => cases h; exact in12
  | n + 13, h => exact absurd hlt (by omega)
section ENTRY
variable {s : State} {b : Nat}
theorem st_KT (hts : ∀ w ∈ lw_tbl, w.before #[Value.ref b] s = true) : hKT s := by
  intro w hw ok
  have h1 := hts w hw
  unfold okW at ok
  cases hg : goodWord w with
  | true => exact word_at (State.WarmedH.refl s) (good_of_word hg) h1
  | false =>
    rw [hg, Bool.false_or] at ok
    revert ok h1
    cases w <;> first | (intro ok h1; exact va_Nw.of rfl h1) | (intro ok h1; cases ok)
theorem st_prim (hts : ∀ w ∈ lw_tbl, w.before #[Value.ref b] s = true) {ty : FieldType} (hw : Cond.arrayClass ty ∈ lw_tbl) : ∃ cA : ClassId, ArrOfT s cA ty ∧ s.vm.findClass ("[" ++ ty.toString) = some cA := by
  obtain ⟨c, k, comp, f1, f2, f3⟩ := Cond.arrayClass_spec (hts _ hw)
  exact ⟨c, fun N z => ⟨fun k h => (by cases h), k, f2, comp, f3⟩, f1⟩
theorem st_rows (hts : ∀ w ∈ lw_tbl, w.before #[Value.ref b] s = true) {ty : FieldType} (hw : Cond.arrayOver (.array ty) ∈ lw_tbl) : ∃ cA : ClassId, ArrOfT s cA (.array ty) ∧ s.vm.findClass ("[" ++ (FieldType.array ty).toString) = some cA := by
  obtain ⟨comp, c, k, h1, h2, h3, h4, h5⟩ := arrayOverA_spec (hts _ hw)
  exact ⟨c, fun N z => ⟨fun k h => (by cases h), k, h3, comp, h4⟩, h5⟩
theorem st_obj (hts : ∀ w ∈ lw_tbl, w.before #[Value.ref b] s = true) {K : String} (hw : Cond.arrayOver (.object K) ∈ lw_tbl) : ∃ cA : ClassId, ArrOfT s cA (.object K) ∧ va_RA s cA (.object K) := by
  obtain ⟨comp, c, k, h1, h2, h3, h4, h5⟩ := Cond.arrayOver_spec (hts _ hw)
  exact ⟨c, fun N z => ⟨fun k h => (by cases h), k, h3, comp, h4⟩, k, comp, h3, h4, h1, h5⟩
theorem st_tys (hts : ∀ w ∈ lw_tbl, w.before #[Value.ref b] s = true) (t : Nat) : ∃ cA : ClassId, t < 9 → ArrOfT s cA (hTy t) ∧ va_RA s cA (hTy t) := by
  match t with
  | 0 => obtain ⟨cA, h1, h2⟩ := st_prim hts ac_int; exact ⟨cA, fun _ => ⟨h1, h2⟩⟩
  | 1 => obtain ⟨cA, h1, h2⟩ := st_prim hts ac_long; exact ⟨cA, fun _ => ⟨h1, h2⟩⟩
  | 2 => obtain ⟨cA, h1, h2⟩ := st_prim hts ac_boolean; exact ⟨cA, fun _ => ⟨h1, h2⟩⟩
  | 3 => obtain ⟨cA, h1, h2⟩ := st_prim hts ac_byte; exact ⟨cA, fun _ => ⟨h1, h2⟩⟩
  | 4 => obtain ⟨cA, h1, h2⟩ := st_rows hts ao_i; exact ⟨cA, fun _ => ⟨h1, h2⟩⟩
  | 5 => obtain ⟨cA, h1, h2⟩ := st_rows hts ao_j; exact ⟨cA, fun _ => ⟨h1, h2⟩⟩
  | 6 => obtain ⟨cA, h1, h2⟩ := st_obj hts ao_l; exact ⟨cA, fun _ => ⟨h1, h2⟩⟩
  | 7 => obtain ⟨cA, h1, h2⟩ := st_obj hts ao_s; exact ⟨cA, fun _ => ⟨h1, h2⟩⟩
  | 8 => obtain ⟨cA, h1, h2⟩ := st_obj hts ao_p; exact ⟨cA, fun _ => ⟨h1, h2⟩⟩
  | n + 9 =>
    obtain ⟨cA, _, _⟩ := st_prim hts ac_int
    exact ⟨cA, fun h => absurd h (by omega)⟩
theorem st_env (hts : ∀ w ∈ lw_tbl, w.before #[Value.ref b] s = true) (hgv : (Jvm.Cond.and given_1 narrow_1).before #[Value.ref b] s = true) : ∃ E : hEnv, hKS E s ∧ nAO s ∧ hSt E (fun q => s.heap.size ≤ q) s s.heap := by
  have hs : ∀ w, w ∈ flG → w.before #[Value.ref b] s = true := flat_of_before _ hgv
  have hA : ∀ a : Nat, a < s.heap.size → ¬ (fun q => s.heap.size ≤ q) a := fun a ha => Nat.not_le.mpr ha
  have hk : ∀ ci : Nat, ∃ q : ClassId × (Nat → Nat), ∀ r, vwCl[ci]? = some r → u_Kn s r.1 r.2.1 r.2.2 q.1 q.2 := by
    intro ci
    cases h : vwCl[ci]? with
    | none =>
      obtain ⟨cA, _⟩ := st_tys hts 0
      exact ⟨(cA, fun _ => 0), fun r hr => by cases hr⟩
    | some r =>
      obtain ⟨cC, iS, hK⟩ := u_known (C := r.1) (T := r.2.1) (N := r.2.2) hts (fun w hw => ((hCls h).1 w hw).1) (hts _ (vw_in h))
      exact ⟨(cC, iS), fun r' hr => by cases hr; exact hK⟩
  obtain ⟨ad, had⟩ := Classical.axiomOfChoice hk
  obtain ⟨ty, hty⟩ := Classical.axiomOfChoice (st_tys hts)
  obtain ⟨adK, adV, hS, hE⟩ := vk_Sof (args := #[Value.ref b]) (s := s) (N := 20) (tm := tmS) (len := sLen) (byt := sByt) (A := fun q => s.heap.size ≤ q) (by decide) (fun i hi => hs _ (gv_ex i hi)) (fun i hi => hs _ (gv_co i hi)) (fun i hi => hs _ (gv_ar i hi)) (fun i hi => hs _ (gv_le i hi)) (fun i hi j hj => hs _ (gv_el i hi j hj)) (fun i j hi hj hij => (gv_ne i hi j hj hij).imp (fun h => hs _ h) (fun h => hs _ h)) hA
  refine ⟨((fun c => (ad c).1, fun c => (ad c).2), ty, fun _ _ _ => 0, adK, adV), ⟨st_KT hts, fun c q hq => had c q hq, fun k q hq => ?_⟩, ⟨hts _ ao_l, hts _ ao_s, hts _ ao_p, hts _ ao_j, hts _ ao_i⟩, hS, fun i q hq => ?_, va_Zof (hts _ tb_cs) (hts _ tb_i1) (va_eqi (hs _ gv_cs)) hA, va_Zqof (hts _ tb_fm) (hts _ tb_i2) (hs _ gv_fm) hA⟩
  · unfold hTys at hq
    rw [List.getElem?_map] at hq
    cases hr : (List.range 9)[k]? with
    | none => rw [hr] at hq; cases hq
    | some t =>
      rw [hr] at hq
      obtain ⟨hl, ht⟩ := List.getElem?_eq_some_iff.mp hr
      rw [List.length_range] at hl
      rw [List.getElem_range] at ht
      subst ht
      cases hq
      exact hty k hl
  · have hl : i < 20 := (List.getElem?_eq_some_iff.mp hq).1
    have e : sTab.getD i ("", 0, "") = q := by rw [List.getD_eq_getElem?_getD, hq]; rfl
    have h1 := hts _ (tb_st i hl)
    have h2 := hE i hl
    unfold tmS at h2
    rw [e] at h1 h2
    exact vk_R.of h1 h2
end ENTRY
