/-! Texts: length and charAt of the constants. -/
section TXT
variable {p : Program} {l : Launch} {e : Env} {R : Room} {s : State} {m : MethodId} {args : Array Value} {below : List Frame} {meth : Method} {c : Code} {H : Heap} {locs : List Loc} {cells slots : Nat} {Q : State → Prop}
variable {cc : ByteArray} {pc nL : Nat} {ls : Array Slot} {rest : List Value} {E : hEnv} {A : Nat → Prop} {σ : hMem} {Z : va_W} {own : String}
variable {y : MethodName} {bytes : ByteArray} {maxL n idx : Nat} {ret : Option FieldType} {rm : hRmT} {As st0 : List Value} {Qf : hQf}
/-- a call of a text's method -/
theorem g_runT (C : hC E A p s m c cc nL own) (M : hM E A s H locs σ Z) (i : Nat) (hi : i < 20) (hm : hMet l y bytes maxL ret rm E σ Z (.ref (E.2.2.2.1 i) :: As) Qf) (hcl : hCl y bytes maxL ret n) (iv : hIv y) (lk : hLk own idx y) (hc : y.cls = "java/lang/String") (hn : As.length = n) (hR : rm.1 + 1 ≤ R.frames ∧ 8 + (maxL + 11) + rm.2.2.2 ≤ R.locals) (hls : ls.size = nL) (hst : st0 = As.reverse ++ .ref (E.2.2.2.1 i) :: rest) (hrest : (rest.map fun v => v.category).sum ≤ 8) (hdg : decode cc pc = .ok (.invokevirtual idx, 3)) (hcs : cells + rm.2.1 ≤ R.cells ∧ slots + rm.2.2.1 ≤ R.slots) :
    va_Run p l e R s m args below meth c H locs cells slots rm.2.1 rm.2.2.1 (F0 m pc ls st0) rest (Qf (va_A (hW E σ ++ Z) H.size) (.ref (E.2.2.2.1 i) :: As).toArray) (va_A (hW E σ ++ Z) H.size) := by
  have K := C.2.2.2.2.1.1
  have hfix : CallFix p m c cc nL s args [] own := ⟨C.1, C.2.1, C.2.2.1, C.2.2.2.1, fun w h => by cases h⟩
  have hpre : PreV s H y.cls (E.2.2.2.1 i) (hPre E σ Z H.size (.ref (E.2.2.2.1 i) :: As)) As := ⟨hPre.blind, by rw [hc]; exact vk_recv C.2.2.2.2.2.1 hi M.2.2.1, hPre.ok C M _⟩
  have hroom : 2 * (F0 m pc ls st0).monitorRoom + (rest.map fun v => v.category).sum ≤ 8 := lv_room hrest
  rcases lk with lk | ⟨host, lk⟩
  · exact va_runV hfix (hm H.size) ⟨⟨rfl, rfl, hR.1, hR.2, hPay C hcl, List.mem_singleton.mpr rfl, K.use hcl.1 rfl, K.use hcl.2.1 rfl, hcl.2.2.1, hNp hcl, K.use lk rfl⟩, K.use iv.1 rfl, K.use iv.2 rfl⟩ hpre rfl hn hls hst hroom hdg hcs
  · exact va_runVN hfix (hm H.size) ⟨⟨⟨rfl, rfl, hR.1, hR.2, hPay C hcl, List.mem_singleton.mpr rfl⟩, K.use hcl.1 rfl, K.use hcl.2.1 rfl, hcl.2.2.1, hNp hcl, K.use lk rfl⟩, K.use iv.1 rfl, K.use iv.2 rfl⟩ hpre rfl hn hls hst hroom hdg hcs
theorem g_rret {Rr : Nat → hMem × va_W → Prop} {mc ms : Nat} {a : Nat} {nm : String} (C : hC E A p s m c cc nL own) (M : hM E A s H locs σ Z) (hr : meth.sig.returnType = some (.object nm)) (hlk : meth.locks = false) (hR : Rr a (σ, Z)) (hc : cells ≤ mc) (hs : slots ≤ ms) (hdg : decode cc pc = .ok (.areturn, 1)) : W p l e R s m args below meth c H locs cells slots (MQ below (hQr E Rr A) args s mc ms A) (F0 m pc ls [.ref a]) :=
  W.widen hc hs (W.aret C.1 C.2.1 hr (Or.inl ⟨nm, rfl⟩) (Or.inr ⟨a, rfl⟩) (fun t ht _ => ⟨⟨(σ, Z), a, rfl, trivial, hR, by rw [ht]; exact M.1, M.2.1⟩, M.2.2.1.F ht⟩) M.2.2.1.2.2 hdg hlk)
end TXT
def chr (i k : Nat) : Int32 := (sByt.getD i []).getD k 0
theorem sLen_lt : ∀ i, i < 20 → sLen.getD i 0 ≤ 34 := by decide
theorem sLen_eq : ∀ i, i < 20 → (sByt.getD i []).length = sLen.getD i 0 := by decide +kernel
theorem sLen_sh : ∀ i, i < 20 → nI (sLen.getD i 0) >>> (0 &&& 31) = nI (sLen.getD i 0) := by decide +kernel
theorem chr_ok : ∀ i, i < 20 → ∀ k, k < 34 → (((sByt.getD i []).getD k 0 &&& 255).toUInt32 % 65536).toInt32 = chr i k := by decide +kernel
theorem chr_nar : ∀ i, i < 20 → ∀ k, k < 34 → narrow .char (.int (chr i k)) = .int (chr i k) := by
  have h : ∀ i, i < 20 → ∀ k, k < 34 → ((chr i k).toUInt32 % 65536).toInt32 = chr i k := by decide +kernel
  intro i hi k hk
  show Value.int _ = _
  congr 1
  exact h i hi k hk

set_option maxHeartbeats 4000000 in
set_option maxRecDepth 100000 in
theorem s_coder (l : Launch) (E : hEnv) (σ : hMem) (Z : va_W) (i : Nat) (hi : i < 20) : hMet l yJ0_coder_7d493 cJ0_coder_7d493 1 (some .byte) (0, 0, 0, 0) E σ Z [.ref (E.2.2.2.1 i)] (hQi E (fun r u => r = 0 ∧ u = (σ, Z))) := by
  refine hMet.of (by decide) (Nat.le_of_ble_eq_true rfl) (fun p e s m below meth c A ls C M hr hlk hl => ?_)
  have hl : lv_has ls 1 [(0, .ref (E.2.2.2.1 i))] := hl
  generalize s.heap = H at M ⊢
  generalize ([] : List Loc) = locs at M ⊢
  refine va_gets C.1 C.2.1 C.2.2.2.2.2.2.2.1 M.2.2.1 C.2.2.2.1 (C.2.2.2.2.1.1.use kfJ0_38 rfl) (fun _ h => h) dJ0_coder_7d493_0 ?_
  refine lv_if_eq (tgt := 13) C.1 C.2.1 dJ0_coder_7d493_3 (by decide) (fun h9 => absurd h9 (by decide)) (fun _ => ?_)
  refine lv_aload_n C.1 C.2.1 dJ0_coder_7d493_6 rfl (lv_at hl 0 rfl) ?_
  refine vk_getf C.1 C.2.1 (C.2.2.2.2.2.1.1 i hi).2.1 M.2.2.1 C.2.2.2.1 (C.2.2.2.2.1.1.use kfJ0_15 rfl) (fun _ h => h) dJ0_coder_7d493_7 ?_
  refine lv_goto (tgt := 14) C.1 C.2.1 dJ0_coder_7d493_10 (by decide) ?_
  refine g_zret rfl C M hr hlk ?_ (Nat.le_of_ble_eq_true rfl) (Nat.le_of_ble_eq_true rfl) dJ0_coder_7d493_14
  exact ⟨rfl, rfl⟩

set_option maxHeartbeats 4000000 in
set_option maxRecDepth 100000 in
theorem s_latin (l : Launch) (E : hEnv) (σ : hMem) (Z : va_W) (i : Nat) (hi : i < 20) : hMet l yJ0_isLatin1_aae02 cJ0_isLatin1_aae02 1 (some .boolean) (0, 0, 0, 0) E σ Z [.ref (E.2.2.2.1 i)] (hQi E (fun r u => r = 1 ∧ u = (σ, Z))) := by
  refine hMet.of (by decide) (Nat.le_of_ble_eq_true rfl) (fun p e s m below meth c A ls C M hr hlk hl => ?_)
  have hl : lv_has ls 1 [(0, .ref (E.2.2.2.1 i))] := hl
  generalize s.heap = H at M ⊢
  generalize ([] : List Loc) = locs at M ⊢
  refine va_gets C.1 C.2.1 C.2.2.2.2.2.2.2.1 M.2.2.1 C.2.2.2.1 (C.2.2.2.2.1.1.use kfJ0_38 rfl) (fun _ h => h) dJ0_isLatin1_aae02_0 ?_
  refine lv_if_eq (tgt := 17) C.1 C.2.1 dJ0_isLatin1_aae02_3 (by decide) (fun h9 => absurd h9 (by decide)) (fun _ => ?_)
  refine lv_aload_n C.1 C.2.1 dJ0_isLatin1_aae02_6 rfl (lv_at hl 0 rfl) ?_
  refine vk_getf C.1 C.2.1 (C.2.2.2.2.2.1.1 i hi).2.1 M.2.2.1 C.2.2.2.1 (C.2.2.2.2.1.1.use kfJ0_15 rfl) (fun _ h => h) dJ0_isLatin1_aae02_7 ?_
  refine lv_if_ne (tgt := 17) C.1 C.2.1 dJ0_isLatin1_aae02_10 (by decide) (fun h9 => absurd h9 (by decide)) (fun _ => ?_)
  refine lv_iconst (v := 1) C.1 C.2.1 dJ0_isLatin1_aae02_13 (by decide) ?_
  refine lv_goto (tgt := 18) C.1 C.2.1 dJ0_isLatin1_aae02_14 (by decide) ?_
  refine g_zret rfl C M hr hlk ?_ (Nat.le_of_ble_eq_true rfl) (Nat.le_of_ble_eq_true rfl) dJ0_isLatin1_aae02_18
  exact ⟨rfl, rfl⟩

set_option maxHeartbeats 4000000 in
set_option maxRecDepth 100000 in
theorem s_length (l : Launch) (E : hEnv) (σ : hMem) (Z : va_W) (i : Nat) (hi : i < 20) : hMet l yJ0_length_8abf5 cJ0_length_8abf5 1 (some .int) (1, 0, 0, 20) E σ Z [.ref (E.2.2.2.1 i)] (hQi E (fun r u => r = nI (sLen.getD i 0) ∧ u = (σ, Z))) := by
  refine hMet.of (by decide) (Nat.le_of_ble_eq_true rfl) (fun p e s m below meth c A ls C M hr hlk hl => ?_)
  have hl : lv_has ls 1 [(0, .ref (E.2.2.2.1 i))] := hl
  generalize s.heap = H at M ⊢
  generalize ([] : List Loc) = locs at M ⊢
  refine lv_aload_n C.1 C.2.1 dJ0_length_8abf5_0 rfl (lv_at hl 0 rfl) ?_
  refine vk_getf C.1 C.2.1 (C.2.2.2.2.2.1.1 i hi).2.2.1 M.2.2.1 C.2.2.2.1 (C.2.2.2.2.1.1.use kfJ0_9 rfl) (fun _ h => h) dJ0_length_8abf5_1 ?_
  refine va_tlen C.1 C.2.1 (C.2.2.2.2.2.1.1 i hi).2.2.2 M.2.2.1 (v := nI (sLen.getD i 0)) rfl dJ0_length_8abf5_4 ?_
  refine lv_aload_n C.1 C.2.1 dJ0_length_8abf5_5 rfl (lv_at hl 0 rfl) ?_
  refine g_calli M (g_runT (As := []) (rest := [.int (nI (sLen.getD i 0))]) C M i hi (s_coder l E σ Z i hi) clJ0_coder_7d493 ivJ0_coder_7d493 lkJ0_335 rfl rfl ⟨Nat.le_of_ble_eq_true rfl, Nat.le_of_ble_eq_true rfl⟩ hl.1 rfl (Nat.le_of_ble_eq_true rfl) dJ0_length_8abf5_6 ⟨Nat.le_of_ble_eq_true rfl, Nat.le_of_ble_eq_true rfl⟩) (fun r1 u H locs hR M => ?_)
  refine W.widen (k := 0) (n := 0) (Nat.le_of_ble_eq_true rfl) (Nat.le_of_ble_eq_true rfl) ?_
  obtain ⟨rfl, rfl⟩ := hR
  have M : hM E A s H locs σ Z := M
  refine lv_ishr C.1 C.2.1 dJ0_length_8abf5_9 ?_
  refine g_rei (v := nI (sLen.getD i 0)) (sLen_sh i hi) ?_
  refine g_iret C M hr hlk ?_ (Nat.le_of_ble_eq_true rfl) (Nat.le_of_ble_eq_true rfl) dJ0_length_8abf5_10
  exact ⟨rfl, rfl⟩

theorem nI_lt9 {k n : Nat} (hk : k < 2 ^ 31) (hn : n < 2 ^ 31) (h : k < n) : nI k < nI n := by
  rw [Int32.lt_iff_toInt_lt, nI_toInt hk, nI_toInt hn]
  omega

set_option maxHeartbeats 4000000 in
set_option maxRecDepth 100000 in
theorem s_pc0 (l : Launch) (E : hEnv) (σ : hMem) (Z : va_W) (k n : Nat) (hk : k < n) (hn : n ≤ 34) : hMet l yJ3_checkIndex_8e157 cJ3_checkIndex_8e157 3 (some .int) (0, 0, 0, 0) E σ Z [.int (nI k), .int (nI n), .null] (hQi E (fun r u => r = nI k ∧ u = (σ, Z))) := by
  refine hMet.of (by decide) (Nat.le_of_ble_eq_true rfl) (fun p e s m below meth c A ls C M hr hlk hl => ?_)
  have hl : lv_has ls 3 [(0, .int (nI k)), (1, .int (nI n)), (2, .null)] := hl
  generalize s.heap = H at M ⊢
  generalize ([] : List Loc) = locs at M ⊢
  refine lv_iload_n C.1 C.2.1 dJ3_checkIndex_8e157_0 rfl (lv_at hl 0 rfl) ?_
  refine lv_if_lt (tgt := 9) C.1 C.2.1 dJ3_checkIndex_8e157_1 (by decide) (fun c_1 => ?_) (fun c_1 => ?_)
  · skip
    exact absurd c_1 (nI_pos (by omega))
  · skip
    refine lv_iload_n C.1 C.2.1 dJ3_checkIndex_8e157_4 rfl (lv_at hl 0 rfl) ?_
    refine lv_iload_n C.1 C.2.1 dJ3_checkIndex_8e157_5 rfl (lv_at hl 1 rfl) ?_
    refine lv_icmp_lt (tgt := 16) C.1 C.2.1 dJ3_checkIndex_8e157_6 (by decide) (fun c_6 => ?_) (fun c_6 => ?_)
    · skip
      refine lv_iload_n C.1 C.2.1 dJ3_checkIndex_8e157_16 rfl (lv_at hl 0 rfl) ?_
      refine g_iret C M hr hlk ?_ (Nat.le_of_ble_eq_true rfl) (Nat.le_of_ble_eq_true rfl) dJ3_checkIndex_8e157_17
      exact ⟨rfl, rfl⟩
    · skip
      exact absurd (nI_lt9 (by omega) (by omega) hk) c_6

set_option maxHeartbeats 4000000 in
set_option maxRecDepth 100000 in
theorem s_pc1 (l : Launch) (E : hEnv) (σ : hMem) (Z : va_W) (k n : Nat) (hk : k < n) (hn : n ≤ 34) (t9 : Nat) : hMet l yJ3_checkIndex_8e157 cJ3_checkIndex_8e157 3 (some .int) (0, 0, 0, 0) E σ Z [.int (nI k), .int (nI n), .ref t9] (hQi E (fun r u => r = nI k ∧ u = (σ, Z))) := by
  refine hMet.of (by decide) (Nat.le_of_ble_eq_true rfl) (fun p e s m below meth c A ls C M hr hlk hl => ?_)
  have hl : lv_has ls 3 [(0, .int (nI k)), (1, .int (nI n)), (2, .ref t9)] := hl
  generalize s.heap = H at M ⊢
  generalize ([] : List Loc) = locs at M ⊢
  refine lv_iload_n C.1 C.2.1 dJ3_checkIndex_8e157_0 rfl (lv_at hl 0 rfl) ?_
  refine lv_if_lt (tgt := 9) C.1 C.2.1 dJ3_checkIndex_8e157_1 (by decide) (fun c_1 => ?_) (fun c_1 => ?_)
  · skip
    exact absurd c_1 (nI_pos (by omega))
  · skip
    refine lv_iload_n C.1 C.2.1 dJ3_checkIndex_8e157_4 rfl (lv_at hl 0 rfl) ?_
    refine lv_iload_n C.1 C.2.1 dJ3_checkIndex_8e157_5 rfl (lv_at hl 1 rfl) ?_
    refine lv_icmp_lt (tgt := 16) C.1 C.2.1 dJ3_checkIndex_8e157_6 (by decide) (fun c_6 => ?_) (fun c_6 => ?_)
    · skip
      refine lv_iload_n C.1 C.2.1 dJ3_checkIndex_8e157_16 rfl (lv_at hl 0 rfl) ?_
      refine g_iret C M hr hlk ?_ (Nat.le_of_ble_eq_true rfl) (Nat.le_of_ble_eq_true rfl) dJ3_checkIndex_8e157_17
      exact ⟨rfl, rfl⟩
    · skip
      exact absurd (nI_lt9 (by omega) (by omega) hk) c_6

set_option maxHeartbeats 4000000 in
set_option maxRecDepth 100000 in
theorem s_check (l : Launch) (E : hEnv) (σ : hMem) (Z : va_W) (k n : Nat) (hk : k < n) (hn : n ≤ 34) : hMet l yJ0_checkIndex_df160 cJ0_checkIndex_df160 2 none (1, 0, 0, 22) E σ Z [.int (nI k), .int (nI n)] (hQv E (fun u => u = (σ, Z))) := by
  refine hMet.of (by decide) (Nat.le_of_ble_eq_true rfl) (fun p e s m below meth c A ls C M hr hlk hl => ?_)
  have hl : lv_has ls 2 [(0, .int (nI k)), (1, .int (nI n))] := hl
  generalize s.heap = H at M ⊢
  generalize ([] : List Loc) = locs at M ⊢
  refine lv_iload_n C.1 C.2.1 dJ0_checkIndex_df160_0 rfl (lv_at hl 0 rfl) ?_
  refine lv_iload_n C.1 C.2.1 dJ0_checkIndex_df160_1 rfl (lv_at hl 1 rfl) ?_
  rcases C.2.2.2.2.2.2.2.2 with hz | ⟨t9, hz⟩
  · refine va_gets C.1 C.2.1 hz M.2.2.1 C.2.2.2.1 (C.2.2.2.2.1.1.use kfJ0_1053 rfl) (fun _ h => h) dJ0_checkIndex_df160_2 ?_
    refine g_calli M (g_runS (As := [.int (nI k), .int (nI n), .null]) (rest := []) C M (s_pc0 l E σ Z k n hk hn) clJ3_checkIndex_8e157 stJ3_checkIndex_8e157 lkJ0_1059 rfl ⟨Nat.le_of_ble_eq_true rfl, Nat.le_of_ble_eq_true rfl⟩ hl.1 rfl (Nat.le_of_ble_eq_true rfl) dJ0_checkIndex_df160_5 ⟨Nat.le_of_ble_eq_true rfl, Nat.le_of_ble_eq_true rfl⟩) (fun r1 u H locs hR M => ?_)
    refine W.widen (k := 0) (n := 0) (Nat.le_of_ble_eq_true rfl) (Nat.le_of_ble_eq_true rfl) ?_
    obtain ⟨rfl, rfl⟩ := hR
    have M : hM E A s H locs σ Z := M
    refine lv_pop C.1 C.2.1 dJ0_checkIndex_df160_8 rfl ?_
    refine g_vret C M hr hlk ?_ (Nat.le_of_ble_eq_true rfl) (Nat.le_of_ble_eq_true rfl) dJ0_checkIndex_df160_9
    rfl
  · refine va_gets C.1 C.2.1 hz M.2.2.1 C.2.2.2.1 (C.2.2.2.2.1.1.use kfJ0_1053 rfl) (fun _ h => h) dJ0_checkIndex_df160_2 ?_
    refine g_calli M (g_runS (As := [.int (nI k), .int (nI n), .ref t9]) (rest := []) C M (s_pc1 l E σ Z k n hk hn t9) clJ3_checkIndex_8e157 stJ3_checkIndex_8e157 lkJ0_1059 rfl ⟨Nat.le_of_ble_eq_true rfl, Nat.le_of_ble_eq_true rfl⟩ hl.1 rfl (Nat.le_of_ble_eq_true rfl) dJ0_checkIndex_df160_5 ⟨Nat.le_of_ble_eq_true rfl, Nat.le_of_ble_eq_true rfl⟩) (fun r2 u H locs hR M => ?_)
    refine W.widen (k := 0) (n := 0) (Nat.le_of_ble_eq_true rfl) (Nat.le_of_ble_eq_true rfl) ?_
    obtain ⟨rfl, rfl⟩ := hR
    have M : hM E A s H locs σ Z := M
    refine lv_pop C.1 C.2.1 dJ0_checkIndex_df160_8 rfl ?_
    refine g_vret C M hr hlk ?_ (Nat.le_of_ble_eq_true rfl) (Nat.le_of_ble_eq_true rfl) dJ0_checkIndex_df160_9
    rfl

set_option maxHeartbeats 4000000 in
set_option maxRecDepth 100000 in
theorem s_lchar (l : Launch) (E : hEnv) (σ : hMem) (Z : va_W) (i : Nat) (hi : i < 20) (k : Nat) (hk : k < sLen.getD i 0) : hMet l yJ1_charAt_3b067 cJ1_charAt_3b067 2 (some .char) (2, 0, 0, 43) E σ Z [.ref (E.2.2.2.2 i), .int (nI k)] (hQi E (fun r u => r = chr i k ∧ u = (σ, Z))) := by
  refine hMet.of (by decide) (Nat.le_of_ble_eq_true rfl) (fun p e s m below meth c A ls C M hr hlk hl => ?_)
  have hl : lv_has ls 2 [(0, .ref (E.2.2.2.2 i)), (1, .int (nI k))] := hl
  generalize s.heap = H at M ⊢
  generalize ([] : List Loc) = locs at M ⊢
  have hk34 := (Nat.lt_of_lt_of_le hk (sLen_lt i hi))
  refine lv_iload_n C.1 C.2.1 dJ1_charAt_3b067_0 rfl (lv_at hl 1 rfl) ?_
  refine lv_aload_n C.1 C.2.1 dJ1_charAt_3b067_1 rfl (lv_at hl 0 rfl) ?_
  refine va_tlen C.1 C.2.1 (C.2.2.2.2.2.1.1 i hi).2.2.2 M.2.2.1 (v := nI (sLen.getD i 0)) rfl dJ1_charAt_3b067_2 ?_
  refine g_callv M (g_runS (As := [.int (nI k), .int (nI (sLen.getD i 0))]) (rest := []) C M (s_check l E σ Z k (sLen.getD i 0) hk (sLen_lt i hi)) clJ0_checkIndex_df160 stJ0_checkIndex_df160 lkJ1_9 rfl ⟨Nat.le_of_ble_eq_true rfl, Nat.le_of_ble_eq_true rfl⟩ hl.1 rfl (Nat.le_of_ble_eq_true rfl) dJ1_charAt_3b067_3 ⟨Nat.le_of_ble_eq_true rfl, Nat.le_of_ble_eq_true rfl⟩) (fun u H locs hR M => ?_)
  refine W.widen (k := 0) (n := 0) (Nat.le_of_ble_eq_true rfl) (Nat.le_of_ble_eq_true rfl) ?_
  subst hR
  have M : hM E A s H locs σ Z := M
  refine lv_aload_n C.1 C.2.1 dJ1_charAt_3b067_6 rfl (lv_at hl 0 rfl) ?_
  refine lv_iload_n C.1 C.2.1 dJ1_charAt_3b067_7 rfl (lv_at hl 1 rfl) ?_
  refine va_tb C.1 C.2.1 (C.2.2.2.2.2.1.1 i hi).2.2.2 M.2.2.1 (vp_in_nI hk (by have := sLen_lt i hi; omega)) (v := .int ((sByt.getD i []).getD k 0)) (by rw [nI_clamp (by omega)]) dJ1_charAt_3b067_8 ?_
  refine lv_sipush (v := 255) C.1 C.2.1 dJ1_charAt_3b067_9 (by decide) ?_
  refine lv_iand C.1 C.2.1 dJ1_charAt_3b067_12 ?_
  refine lv_i2c C.1 C.2.1 dJ1_charAt_3b067_13 rfl ?_
  refine g_rei (v := chr i k) (chr_ok i hi k (Nat.lt_of_lt_of_le hk (sLen_lt i hi))) ?_
  refine g_zret (chr_nar i hi k (Nat.lt_of_lt_of_le hk (sLen_lt i hi))) C M hr hlk ?_ (Nat.le_of_ble_eq_true rfl) (Nat.le_of_ble_eq_true rfl) dJ1_charAt_3b067_14
  exact ⟨rfl, rfl⟩

set_option maxHeartbeats 4000000 in
set_option maxRecDepth 100000 in
theorem s_charAt (l : Launch) (E : hEnv) (σ : hMem) (Z : va_W) (i : Nat) (hi : i < 20) (k : Nat) (hk : k < sLen.getD i 0) : hMet l yJ0_charAt_5068e cJ0_charAt_5068e 2 (some .char) (3, 0, 0, 64) E σ Z [.ref (E.2.2.2.1 i), .int (nI k)] (hQi E (fun r u => r = chr i k ∧ u = (σ, Z))) := by
  refine hMet.of (by decide) (Nat.le_of_ble_eq_true rfl) (fun p e s m below meth c A ls C M hr hlk hl => ?_)
  have hl : lv_has ls 2 [(0, .ref (E.2.2.2.1 i)), (1, .int (nI k))] := hl
  generalize s.heap = H at M ⊢
  generalize ([] : List Loc) = locs at M ⊢
  refine lv_aload_n C.1 C.2.1 dJ0_charAt_5068e_0 rfl (lv_at hl 0 rfl) ?_
  refine g_calli M (g_runT (As := []) (rest := []) C M i hi (s_latin l E σ Z i hi) clJ0_isLatin1_aae02 ivJ0_isLatin1_aae02 lkJ0_492 rfl rfl ⟨Nat.le_of_ble_eq_true rfl, Nat.le_of_ble_eq_true rfl⟩ hl.1 rfl (Nat.le_of_ble_eq_true rfl) dJ0_charAt_5068e_1 ⟨Nat.le_of_ble_eq_true rfl, Nat.le_of_ble_eq_true rfl⟩) (fun r1 u H locs hR M => ?_)
  refine W.widen (k := 0) (n := 0) (Nat.le_of_ble_eq_true rfl) (Nat.le_of_ble_eq_true rfl) ?_
  obtain ⟨rfl, rfl⟩ := hR
  have M : hM E A s H locs σ Z := M
  refine lv_if_eq (tgt := 16) C.1 C.2.1 dJ0_charAt_5068e_4 (by decide) (fun h9 => absurd h9 (by decide)) (fun _ => ?_)
  refine lv_aload_n C.1 C.2.1 dJ0_charAt_5068e_7 rfl (lv_at hl 0 rfl) ?_
  refine vk_getf C.1 C.2.1 (C.2.2.2.2.2.1.1 i hi).2.2.1 M.2.2.1 C.2.2.2.1 (C.2.2.2.2.1.1.use kfJ0_9 rfl) (fun _ h => h) dJ0_charAt_5068e_8 ?_
  refine lv_iload_n C.1 C.2.1 dJ0_charAt_5068e_11 rfl (lv_at hl 1 rfl) ?_
  refine g_calli M (g_runS (As := [.ref (E.2.2.2.2 i), .int (nI k)]) (rest := []) C M (s_lchar l E σ Z i hi k hk) clJ1_charAt_3b067 stJ1_charAt_3b067 lkJ0_495 rfl ⟨Nat.le_of_ble_eq_true rfl, Nat.le_of_ble_eq_true rfl⟩ hl.1 rfl (Nat.le_of_ble_eq_true rfl) dJ0_charAt_5068e_12 ⟨Nat.le_of_ble_eq_true rfl, Nat.le_of_ble_eq_true rfl⟩) (fun r2 u H locs hR M => ?_)
  refine W.widen (k := 0) (n := 0) (Nat.le_of_ble_eq_true rfl) (Nat.le_of_ble_eq_true rfl) ?_
  obtain ⟨rfl, rfl⟩ := hR
  have M : hM E A s H locs σ Z := M
  refine g_zret (chr_nar i hi k (Nat.lt_of_lt_of_le hk (sLen_lt i hi))) C M hr hlk ?_ (Nat.le_of_ble_eq_true rfl) (Nat.le_of_ble_eq_true rfl) dJ0_charAt_5068e_15
  exact ⟨rfl, rfl⟩
