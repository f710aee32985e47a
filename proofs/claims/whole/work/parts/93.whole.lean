def lw_P (b : Addr) (xs : List Int32) (args : Array Value) (s : State) : Prop := args = #[.ref b] ∧ s.IntsAt b xs ∧ xs.length ≤ 5120 ∧ (Jvm.Cond.and given_1 narrow_1).before args s = true
def lw_Q (_ : Array Value) (s : State) (o : Outcome) (t : State) : Prop := o = .returned (some (.int 1)) ∧ Framed s o t [] 600000 7302250
def lw_Z (below : List Frame) (a : Array Value) (s : State) : State → Prop := fun t => ∃ o, t.status = .running ∧ Ended t below o ∧ lw_Q a s o t
/-- the law's own end, with 1 on the stack, nothing written that was there before, its room as the claim has it -/
theorem lw_ret {p : Program} {l : Launch} {e : Env} {s : State} {m : MethodId} {below : List Frame} {meth : Method} {c : Code} {b : Nat} (hx : p.tables.exec = Jvm.exec) (hb : c.code = code) (hr : meth.sig.returnType = ret) (hlocks : meth.locks = false) {pc : Nat} {H : Heap} {ls : Array Slot} (hdg : decode code pc = .ok (.ireturn, 1)) : W p l e room_1 s m #[Value.ref b] below meth c H [] 600000 7302250 (lw_Z below #[Value.ref b] s) (F0 m pc ls [.int 1]) := by
  intro T hT X
  obtain ⟨fs, hret, hrun, hended, hW, hframe⟩ := X.leave (v := some (.int 1)) (hlocks := hlocks) (fun h => by rw [hr] at h; cases h)
  have hmeth' : T.vm.method? m = some meth := X.method'
  refine ⟨T.setFrames fs, ?_, .returned (some (.int 1)), hrun, hended, rfl, ⟨_, rfl⟩, hW, hframe⟩
  jvm_step X.here [X.here.top, hx, hb, hdg, hmeth', hr, ret, narrow_b1]
  (try refine ⟨rfl, ?_⟩); (try refine ⟨rfl, ?_⟩)
  first | (intro acts; rw [hret _ acts rfl rfl rfl]) | rw [hret _ _ rfl rfl rfl]
  exact Steps.refl _
/-- what holds at the law's entry: the machine, the code, the tables' words (any of lw_tbl by 'hts w (by decide +kernel)'), the script of L ints xs at the cell b, what the Statement gives of the start (any of its parts by flat_of_before) -/
def lw_At (p : Program) (s : State) (m : MethodId) (meth : Method) (c : Code) (b L : Nat) (xs : Nat → Int32) : Prop :=
  p.tables.exec = Jvm.exec ∧ c.code = code ∧ meth.sig.returnType = ret ∧ c.maxLocals = 4 ∧ s.vm.findClass R_law = some m.cls ∧ (∀ w ∈ lw_tbl, w.before #[Value.ref b] s = true) ∧ va_X b L xs s s.heap ∧ b < s.heap.size ∧ meth.locks = false ∧ (Jvm.Cond.and given_1 narrow_1).before #[Value.ref b] s = true
/-- from the entry, for every script of at most 5120 ints, the law comes to its end with true -/
theorem whole_start {p : Program} {e : Env} {s : State} {m : MethodId} {below : List Frame} {meth : Method} {c : Code} (l : Launch) {b L : Nat} {xs : Nat → Int32} (hL : L ≤ 5120) (C0 : lw_At p s m meth c b L xs) : W p l e room_1 s m #[Value.ref b] below meth c s.heap [] 0 0 (lw_Z below #[Value.ref b] s) (entryFrame m ([Value.ref b] : List Value).toArray 4) := by
  obtain ⟨hx, hb, hr, hml, hown, hts, hX, hbl, hlocks, hgv⟩ := id C0
  obtain ⟨E, hKE, hAO, hSE⟩ := st_env hts hgv
  generalize hAe : (fun q : Nat => s.heap.size ≤ q) = A at hSE
  have hA : ∀ q : Nat, s.heap.size ≤ q → A q := fun q h => by rw [← hAe]; exact h
  have hA2 : ∀ q : Nat, A q → s.heap.size ≤ q := fun q h => by rw [← hAe] at h; exact h
  have hbA : ¬ A b := fun h => absurd (hA2 b h) (Nat.not_le.mpr hbl)
  have C : kC E p s m c cL_law 4 R_law := ⟨hx, hb, hml, hown, hKE, hAO⟩
  have M : nM E A s s.heap [] ([] ++ []) := ⟨fun k q h => by simp at h, ⟨fun i j a d h => by simp at h, fun k q h => by simp at h⟩, va_S.rf, hA⟩
  have hl := lv_entry ([.ref b]) (n := 4) (Nat.le_of_ble_eq_true rfl)
  rw [lg_entry_eq]
  generalize (lg_sl ([.ref b]) ++ List.replicate (4 - (lg_sl ([.ref b])).length) Slot.unset).toArray = ls at hl ⊢
  have hl : lv_has ls 4 [(0, .ref b)] := hl
  refine n_new (ci := 11) C M rfl lclaw_7 in11 ini11 [.null, .null, .null, .null, .null, .null, .null, .null, .null, .int 0, .int 0, .int 0, .int 0, .int 0] df_11 (Nat.le_of_ble_eq_true rfl) (Nat.le_of_ble_eq_true rfl) dL_law_0 (fun q1 H M => ?_)
  have M : nM E A s H [] ([] ++ [(q1, .inr (11, [.null, .null, .null, .null, .null, .null, .null, .null, .null, .int 0, .int 0, .int 0, .int 0, .int 0]))]) := M
  refine W.widen (k := 1) (n := 14) (Nat.le_of_ble_eq_true rfl) (Nat.le_of_ble_eq_true rfl) ?_
  refine lv_dup C.1 C.2.1 dL_law_3 rfl ?_
  refine n_callI (As := []) (rest := [.ref q1]) C M (k_Court l E [] q1) clX11_init imX11_init lklaw_9 rfl rfl ⟨(Nat.le_of_ble_eq_true rfl), (Nat.le_of_ble_eq_true rfl)⟩ hl.1 rfl (Nat.le_of_ble_eq_true rfl) dL_law_4 ⟨(Nat.le_of_ble_eq_true rfl), (Nat.le_of_ble_eq_true rfl)⟩ (fun ws H locs hR M => ?_)
  obtain ⟨a1, a2, gT, gG, gC, gP, gM, gS, gJ, gL, gH, rfl⟩ := hR
  refine W.widen (k := 94) (n := 3012) (Nat.le_of_ble_eq_true rfl) (Nat.le_of_ble_eq_true rfl) ?_
  refine lv_astore_n (lv' := [(1, .ref q1), (0, .ref b)]) C.1 C.2.1 dL_law_7 rfl hl (by decide) rfl (fun ls hl => ?_)
  have M : nM E A s H locs (wCourt E q1 a1 a2 gT gG gC gP gM gS gJ gL gH ++ []) := by rw [List.append_nil]; exact M
  refine n_new (ci := 12) C M rfl lclaw_10 in12 ini12 [.int 0, .int 0, .null, .int 0, .null, .null, .null, .null, .null, .null, .null, .int 0, .null, .null, .null, .null, .null, .int 0, .null, .null, .null, .null, .null, .null, .int 0, .int 0, .int 0, .null, .null, .null, .null, .int 0, .int 0, .int 0, .int 0, .int 0, .int 0, .null, .int 0, .null, .null, .null, .null, .null, .null, .null, .null, .int 0, .int 0, .int 0, .int 0, .int 0, .null, .long 0, .long 0, .long 0, .null, .null, .null] df_12 (Nat.le_of_ble_eq_true rfl) (Nat.le_of_ble_eq_true rfl) dL_law_8 (fun q2 H M => ?_)
  have M : nM E A s H locs (wCourt E q1 a1 a2 gT gG gC gP gM gS gJ gL gH ++ [(q2, .inr (12, [.int 0, .int 0, .null, .int 0, .null, .null, .null, .null, .null, .null, .null, .int 0, .null, .null, .null, .null, .null, .int 0, .null, .null, .null, .null, .null, .null, .int 0, .int 0, .int 0, .null, .null, .null, .null, .int 0, .int 0, .int 0, .int 0, .int 0, .int 0, .null, .int 0, .null, .null, .null, .null, .null, .null, .null, .null, .int 0, .int 0, .int 0, .int 0, .int 0, .null, .long 0, .long 0, .long 0, .null, .null, .null]))]) := M
  refine W.widen (k := 95) (n := 3071) (Nat.le_of_ble_eq_true rfl) (Nat.le_of_ble_eq_true rfl) ?_
  refine lv_dup C.1 C.2.1 dL_law_11 rfl ?_
  refine n_callI (As := []) (rest := [.ref q2]) C M (k_Model l E (wCourt E q1 a1 a2 gT gG gC gP gM gS gJ gL gH) q2) clX12_init imX12_init lklaw_12 rfl rfl ⟨(Nat.le_of_ble_eq_true rfl), (Nat.le_of_ble_eq_true rfl)⟩ hl.1 rfl (Nat.le_of_ble_eq_true rfl) dL_law_12 ⟨(Nat.le_of_ble_eq_true rfl), (Nat.le_of_ble_eq_true rfl)⟩ (fun ws H locs hR M9 => ?_)
  obtain ⟨gX, hg, rfl⟩ := hR
  subst hg
  refine W.widen (k := 178) (n := 5729) (Nat.le_of_ble_eq_true rfl) (Nat.le_of_ble_eq_true rfl) ?_
  refine lv_astore_n (lv' := [(2, .ref (gX 0)), (1, .ref q1), (0, .ref b)]) C.1 C.2.1 dL_law_15 rfl hl (by decide) rfl (fun ls hl => ?_)
  refine lv_iconst (v := 0) C.1 C.2.1 dL_law_16 rfl ?_
  refine lv_istore_n (lv' := [(3, .int 0), (2, .ref (gX 0)), (1, .ref q1), (0, .ref b)]) C.1 C.2.1 dL_law_17 rfl hl (by decide) rfl (fun ls hl => ?_)
  have M2 := start_hM E q1 a1 a2 gT gG gC gP gM gS gJ gL gH gX M9
  have C2 : hC (eAt E (adr q1 a1 a2 gT gG gC gP gM gS gJ gL gH gX)) A p s m c cL_law 4 R_law := ⟨hx, hb, hml, hown, hKE, hSE⟩
  have o0 : hO (eAt E (adr q1 a1 a2 gT gG gC gP gM gS gJ gL gH gX)) 0 = q1 := rfl
  have o43 : hO (eAt E (adr q1 a1 a2 gT gG gC gP gM gS gJ gL gH gX)) 43 = gX 0 := rfl
  have hl2 : lv_has ls 4 (LV (eAt E (adr q1 a1 a2 gT gG gC gP gM gS gJ gL gH gX)) b (10 * 0)) := by
    have h := lv_sub hl [3, 2, 1, 0] rfl
    unfold LV
    rw [o0, o43]
    exact h
  refine law_loop C2 hX hbl hbA hL (fun H1 locs1 ls1 σ1 M1 => ?_) (L + 1) 0 (by omega) (by omega) H locs ls σ0 M2 Rel_0 hl2
  refine va_forget (fun q hq => hA2 _ (M1.2.2.1.2.2 q hq)) ?_
  refine lv_iconst (v := 1) C.1 C.2.1 dL_law_1118 rfl ?_
  exact lw_ret hx hb hr hlocks dL_law_1119
