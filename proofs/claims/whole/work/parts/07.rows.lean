/-! The context of a method and the rows over the memory. -/
def isNest : Cond → Bool
  | .fieldLinkNest .. => true
  | .methodLinkNest .. => true
  | _ => false
def okW (w : Cond) : Bool := goodWord w || isNest w
def hKT (U : State) : Prop := ∀ w ∈ lw_tbl, okW w = true → va_Nw w U
theorem hKT.warm {s U : State} (h : hKT s) (hW : s.WarmedH U.vm) : hKT U := by
  intro w hw ok
  have h1 := h w hw ok
  unfold okW at ok
  cases hg : goodWord w with
  | true => exact word_at hW (good_of_word hg) h1
  | false =>
    rw [hg, Bool.false_or] at ok
    revert ok h1
    cases w <;> first | (intro ok h1; exact va_Nw.warmF hW h1) | (intro ok h1; exact va_Nw.warmM hW h1) | (intro ok h1; cases ok)
theorem hKT.use {s : State} (h : hKT s) {w : Cond} (hw : w ∈ lw_tbl) (ok : okW w = true) {args : Array Value} : w.before args s = true := by
  have h1 := h w hw ok
  unfold okW at ok
  cases hg : goodWord w with
  | true => exact word_at (State.WarmedH.refl s) (good_of_word hg) h1
  | false =>
    rw [hg, Bool.false_or] at ok
    revert ok h1
    cases w <;> first | (intro ok h1; exact va_Nw.use rfl h1) | (intro ok h1; cases ok)
def hKS (E : hEnv) (U : State) : Prop := hKT U ∧ va_K E.1 vwCl (hTys E) U
theorem hKS.warm {E : hEnv} {s U : State} (h : hKS E s) (hW : s.WarmedH U.vm) : hKS E U := ⟨h.1.warm hW, va_K.moved hW.alike h.2⟩
/-- the texts: whose, where, what -/
def sTab : List (String × Nat × String) := [("SalvageCourt$Tape", 44, "weigh like give else life late "), ("SalvageCourt$Tape", 86, "danger skill labour weather worth "), ("SalvageCourt$Tape", 64, "least middle greatest mean "), ("SalvageCourt$Tape", 78, "after "), ("SalvageCourtModel", 232, "weigh"), ("SalvageCourtModel", 198, "danger"), ("SalvageCourtModel", 200, "skill"), ("SalvageCourtModel", 202, "labour"), ("SalvageCourtModel", 204, "weather"), ("SalvageCourtModel", 206, "worth"), ("SalvageCourtModel", 208, "like"), ("SalvageCourtModel", 209, "give"), ("SalvageCourtModel", 211, "else"), ("SalvageCourtModel", 213, "life"), ("SalvageCourtModel", 215, "late"), ("SalvageCourtModel", 217, "least"), ("SalvageCourtModel", 223, "middle"), ("SalvageCourtModel", 225, "greatest"), ("SalvageCourtModel", 227, "mean"), ("SalvageCourtModel", 248, "after")]
def sLen : List Nat := [31, 34, 27, 6, 5, 6, 5, 6, 7, 5, 4, 4, 4, 4, 4, 5, 6, 8, 4, 5]
def sByt : List (List Int32) := [[119, 101, 105, 103, 104, 32, 108, 105, 107, 101, 32, 103, 105, 118, 101, 32, 101, 108, 115, 101, 32, 108, 105, 102, 101, 32, 108, 97, 116, 101, 32], [100, 97, 110, 103, 101, 114, 32, 115, 107, 105, 108, 108, 32, 108, 97, 98, 111, 117, 114, 32, 119, 101, 97, 116, 104, 101, 114, 32, 119, 111, 114, 116, 104, 32], [108, 101, 97, 115, 116, 32, 109, 105, 100, 100, 108, 101, 32, 103, 114, 101, 97, 116, 101, 115, 116, 32, 109, 101, 97, 110, 32], [97, 102, 116, 101, 114, 32], [119, 101, 105, 103, 104], [100, 97, 110, 103, 101, 114], [115, 107, 105, 108, 108], [108, 97, 98, 111, 117, 114], [119, 101, 97, 116, 104, 101, 114], [119, 111, 114, 116, 104], [108, 105, 107, 101], [103, 105, 118, 101], [101, 108, 115, 101], [108, 105, 102, 101], [108, 97, 116, 101], [108, 101, 97, 115, 116], [109, 105, 100, 100, 108, 101], [103, 114, 101, 97, 116, 101, 115, 116], [109, 101, 97, 110], [97, 102, 116, 101, 114]]
def hSt (E : hEnv) (A : Nat → Prop) (U : State) (H : Heap) : Prop := vk_S 20 sLen sByt E.2.2.2.1 E.2.2.2.2 A U H ∧ (∀ (i : Nat) (q : String × Nat × String), sTab[i]? = some q → vk_R q.1 q.2.1 q.2.2 (E.2.2.2.1 i) U) ∧ va_Z "java/lang/String" "COMPACT_STRINGS" "Z" (.int 1) A U H ∧ va_Zq "jdk/internal/util/Preconditions" "SIOOBE_FORMATTER" "Ljava/util/function/BiFunction;" A U H
theorem hSt.go {E : hEnv} {A B : Nat → Prop} {s U : State} {H H1 : Heap} (h : hSt E A s H) (hW : s.WarmedH U.vm) (hq : ∀ a : Nat, a < H.size → ¬ A a → H1[a]? = H[a]?) (hAB : ∀ q, B q → A q) : hSt E B U H1 :=
  ⟨((h.1.moved hW.alike).kept hq).narrow hAB, fun i q hi => (h.2.1 i q hi).warm hW, ((h.2.2.1.moved hW.alike).kept hq).narrow hAB, ((h.2.2.2.moved hW.alike).kept hq).narrow hAB⟩
def hC (E : hEnv) (A : Nat → Prop) (p : Program) (s : State) (m : MethodId) (c : Code) (cc : ByteArray) (nL : Nat) (own : String) : Prop :=
  p.tables.exec = Jvm.exec ∧ c.code = cc ∧ c.maxLocals = nL ∧ s.vm.findClass own = some m.cls ∧ hKS E s ∧ hSt E A s s.heap
def hM (E : hEnv) (A : Nat → Prop) (s : State) (H : Heap) (locs : List Loc) (σ : hMem) (Z : va_W) : Prop :=
  va_P E.1 vwCl (hW E σ ++ Z) H ∧ va_D A (hW E σ ++ Z) ∧ va_S A s.heap H locs ∧ ∀ q, s.heap.size ≤ q → A q
theorem i_X0 : ∀ w ∈ u_ws RX0 TX0 1, w ∈ lw_tbl ∧ okW w = true := by decide +kernel
theorem i_X1 : ∀ w ∈ u_ws RX1 TX1 5, w ∈ lw_tbl ∧ okW w = true := by decide +kernel
theorem i_X2 : ∀ w ∈ u_ws RX2 TX2 3, w ∈ lw_tbl ∧ okW w = true := by decide +kernel
theorem i_X3 : ∀ w ∈ u_ws RX3 TX3 4, w ∈ lw_tbl ∧ okW w = true := by decide +kernel
theorem i_X4 : ∀ w ∈ u_ws RX4 TX4 11, w ∈ lw_tbl ∧ okW w = true := by decide +kernel
theorem i_X5 : ∀ w ∈ u_ws RX5 TX5 7, w ∈ lw_tbl ∧ okW w = true := by decide +kernel
theorem i_X6 : ∀ w ∈ u_ws RX6 TX6 10, w ∈ lw_tbl ∧ okW w = true := by decide +kernel
theorem i_X7 : ∀ w ∈ u_ws RX7 TX7 7, w ∈ lw_tbl ∧ okW w = true := by decide +kernel
theorem i_X8 : ∀ w ∈ u_ws RX8 TX8 15, w ∈ lw_tbl ∧ okW w = true := by decide +kernel
theorem i_X9 : ∀ w ∈ u_ws RX9 TX9 6, w ∈ lw_tbl ∧ okW w = true := by decide +kernel
theorem i_X10 : ∀ w ∈ u_ws RX10 TX10 2, w ∈ lw_tbl ∧ okW w = true := by decide +kernel
theorem i_X11 : ∀ w ∈ u_ws RX11 TX11 14, w ∈ lw_tbl ∧ okW w = true := by decide +kernel
theorem i_X12 : ∀ w ∈ u_ws RX12 TX12 59, w ∈ lw_tbl ∧ okW w = true := by decide +kernel
def hTyOf (ci : Nat) : Nat → FieldType := match ci with
  | 0 => tyX0
  | 1 => tyX1
  | 2 => tyX2
  | 3 => tyX3
  | 4 => tyX4
  | 5 => tyX5
  | 6 => tyX6
  | 7 => tyX7
  | 8 => tyX8
  | 9 => tyX9
  | 10 => tyX10
  | 11 => tyX11
  | _ => tyX12
theorem hCls {ci : Nat} {q : vw_C} (h : vwCl[ci]? = some q) : (∀ w ∈ u_ws q.1 q.2.1 q.2.2, w ∈ lw_tbl ∧ okW w = true) ∧ (∀ k, k < q.2.2 → parseFieldDescriptor (q.2.1 k).2.2.1 = some (hTyOf ci k)) ∧ (∀ a, a < q.2.2 → ∀ b, b < q.2.2 → a ≠ b → (q.2.1 a).2.1 ≠ (q.2.1 b).2.1) := by
  have hlt : ci < 13 := (List.getElem?_eq_some_iff.mp h).1
  match ci, h with
  | 0, h => cases h; exact ⟨i_X0, tyX0_ok, nmX0⟩
  | 1, h => cases h; exact ⟨i_X1, tyX1_ok, nmX1⟩
  | 2, h => cases h; exact ⟨i_X2, tyX2_ok, nmX2⟩
  | 3, h => cases h; exact ⟨i_X3, tyX3_ok, nmX3⟩
  | 4, h => cases h; exact ⟨i_X4, tyX4_ok, nmX4⟩
  | 5, h => cases h; exact ⟨i_X5, tyX5_ok, nmX5⟩
  | 6, h => cases h; exact ⟨i_X6, tyX6_ok, nmX6⟩
  | 7, h => cases h; exact ⟨i_X7, tyX7_ok, nmX7⟩
  | 8, h => cases h; exact ⟨i_X8, tyX8_ok, nmX8⟩
  | 9, h => cases h; exact ⟨i_X9, tyX9_ok, nmX9⟩
  | 10, h => cases h; exact ⟨i_X10, tyX10_ok, nmX10⟩
  | 11, h => cases h; exact ⟨i_X11, tyX11_ok, nmX11⟩
  | 12, h => cases h; exact ⟨i_X12, tyX12_ok, nmX12⟩
  | n + 13, h => exact absurd hlt (by omega)
section ROWS
variable {p : Program} {l : Launch} {e : Env} {R : Room} {s : State} {m : MethodId} {args : Array Value} {below : List Frame} {meth : Method} {c : Code} {H : Heap} {locs : List Loc} {cells slots : Nat} {Q : State → Prop}
variable {cc : ByteArray} {pc nL : Nat} {ls : Array Slot} {rest : List Value} {E : hEnv} {A : Nat → Prop} {σ : hMem} {Z : va_W} {own : String}
theorem g_get (C : hC E A p s m c cc nL own) (M : hM E A s H locs σ Z) (j k : Nat) {en : hEn} (hj : j < 44) (hl : (hLay j)[k]? = some en) {K : String} {T : u_T} {N idx : Nat} (hc : vwCl[hCi j]? = some (K, T, N)) (hk : k < N) (hw : hFl own idx (T k)) (hdg : decode cc pc = .ok (.getfield idx, 3))
    (kk : W p l e R s m args below meth c H locs cells slots Q (F0 m (pc + 3) ls (hFv E σ j k en :: rest))) : W p l e R s m args below meth c H locs cells slots Q (F0 m pc ls (.ref (hO E j) :: rest)) := by
  obtain ⟨q, hq⟩ := hW_at (E := E) (σ := σ) (Z := Z) (hIds_o hj)
  obtain ⟨h1, h2, h3⟩ := hCls hc
  obtain ⟨hx, hb, hml, hown, hK, hS⟩ := C
  have hts : ∀ w ∈ u_ws K T N, w.before args s = true := fun w h => hK.1.use (h1 w h).1 (h1 w h).2
  rcases hw with hw | ⟨host, hw⟩
  · exact va_get hx hb hts (fun w h => h) hown hK.2 M.1 q hq hc k hk (hK.1.use hw rfl) (fun _ h => h) (hFs_at hl) hdg kk
  · exact va_getN hx hb hts (fun w h => h) hown hK.2 M.1 q hq hc k hk (hK.1.use hw rfl) (fun _ h => h) (hFs_at hl) hdg kk
theorem g_getI (C : hC E A p s m c cc nL own) (M : hM E A s H locs σ Z) (j k : Nat) (hj : j < 44) (hl : (hLay j)[k]? = some e0) {K : String} {T : u_T} {N idx : Nat} (hc : vwCl[hCi j]? = some (K, T, N)) (hk : k < N) (hw : hFl own idx (T k)) {v : Int32} (hv : hI σ j k = v) (hdg : decode cc pc = .ok (.getfield idx, 3))
    (kk : W p l e R s m args below meth c H locs cells slots Q (F0 m (pc + 3) ls (.int v :: rest))) : W p l e R s m args below meth c H locs cells slots Q (F0 m pc ls (.ref (hO E j) :: rest)) := by
  subst hv
  exact g_get C M j k hj hl hc hk hw hdg kk
theorem g_getL (C : hC E A p s m c cc nL own) (M : hM E A s H locs σ Z) (j k : Nat) (hj : j < 44) (hl : (hLay j)[k]? = some e1) {K : String} {T : u_T} {N idx : Nat} (hc : vwCl[hCi j]? = some (K, T, N)) (hk : k < N) (hw : hFl own idx (T k)) {v : Int64} (hv : hL σ j k = v) (hdg : decode cc pc = .ok (.getfield idx, 3))
    (kk : W p l e R s m args below meth c H locs cells slots Q (F0 m (pc + 3) ls (.long v :: rest))) : W p l e R s m args below meth c H locs cells slots Q (F0 m pc ls (.ref (hO E j) :: rest)) := by
  subst hv
  exact g_get C M j k hj hl hc hk hw hdg kk
theorem g_getO (C : hC E A p s m c cc nL own) (M : hM E A s H locs σ Z) (j k t : Nat) (hj : j < 44) (hl : (hLay j)[k]? = some (eO t)) {K : String} {T : u_T} {N idx : Nat} (hc : vwCl[hCi j]? = some (K, T, N)) (hk : k < N) (hw : hFl own idx (T k)) (hdg : decode cc pc = .ok (.getfield idx, 3))
    (kk : W p l e R s m args below meth c H locs cells slots Q (F0 m (pc + 3) ls (.ref (hO E t) :: rest))) : W p l e R s m args below meth c H locs cells slots Q (F0 m pc ls (.ref (hO E j) :: rest)) := g_get C M j k hj hl hc hk hw hdg kk
/-- an array's own field (one row) -/
theorem g_getA (C : hC E A p s m c cc nL own) (M : hM E A s H locs σ Z) (j k : Nat) (hj : j < 44) {t n b : Nat} (hl : (hLay j)[k]? = some (3, t, n, b)) {K : String} {T : u_T} {N idx : Nat} (hc : vwCl[hCi j]? = some (K, T, N)) (hk : k < N) (hw : hFl own idx (T k)) (hdg : decode cc pc = .ok (.getfield idx, 3))
    (kk : W p l e R s m args below meth c H locs cells slots Q (F0 m (pc + 3) ls (.ref (hR E j k 0) :: rest))) : W p l e R s m args below meth c H locs cells slots Q (F0 m pc ls (.ref (hO E j) :: rest)) := g_get C M j k hj hl hc hk hw hdg kk
theorem g_getJ (C : hC E A p s m c cc nL own) (M : hM E A s H locs σ Z) (j k : Nat) (hj : j < 44) {t n b : Nat} (hl : (hLay j)[k]? = some (4, t, n, b)) {K : String} {T : u_T} {N idx : Nat} (hc : vwCl[hCi j]? = some (K, T, N)) (hk : k < N) (hw : hFl own idx (T k)) (hdg : decode cc pc = .ok (.getfield idx, 3))
    (kk : W p l e R s m args below meth c H locs cells slots Q (F0 m (pc + 3) ls (.ref (hR E j k 0) :: rest))) : W p l e R s m args below meth c H locs cells slots Q (F0 m pc ls (.ref (hO E j) :: rest)) := g_get C M j k hj hl hc hk hw hdg kk
theorem g_getQ (C : hC E A p s m c cc nL own) (M : hM E A s H locs σ Z) (j k : Nat) (hj : j < 44) {t n b : Nat} (hl : (hLay j)[k]? = some (7, t, n, b)) {K : String} {T : u_T} {N idx : Nat} (hc : vwCl[hCi j]? = some (K, T, N)) (hk : k < N) (hw : hFl own idx (T k)) (hdg : decode cc pc = .ok (.getfield idx, 3))
    (kk : W p l e R s m args below meth c H locs cells slots Q (F0 m (pc + 3) ls (.ref (hR E j k 0) :: rest))) : W p l e R s m args below meth c H locs cells slots Q (F0 m pc ls (.ref (hO E j) :: rest)) := g_get C M j k hj hl hc hk hw hdg kk
theorem g_getII (C : hC E A p s m c cc nL own) (M : hM E A s H locs σ Z) (j k : Nat) (hj : j < 44) {t n b : Nat} (hl : (hLay j)[k]? = some (5, t, n, b)) {K : String} {T : u_T} {N idx : Nat} (hc : vwCl[hCi j]? = some (K, T, N)) (hk : k < N) (hw : hFl own idx (T k)) (hdg : decode cc pc = .ok (.getfield idx, 3))
    (kk : W p l e R s m args below meth c H locs cells slots Q (F0 m (pc + 3) ls (.ref (hR E j k 1000) :: rest))) : W p l e R s m args below meth c H locs cells slots Q (F0 m pc ls (.ref (hO E j) :: rest)) := g_get C M j k hj hl hc hk hw hdg kk
theorem g_getJJ (C : hC E A p s m c cc nL own) (M : hM E A s H locs σ Z) (j k : Nat) (hj : j < 44) {t n b : Nat} (hl : (hLay j)[k]? = some (6, t, n, b)) {K : String} {T : u_T} {N idx : Nat} (hc : vwCl[hCi j]? = some (K, T, N)) (hk : k < N) (hw : hFl own idx (T k)) (hdg : decode cc pc = .ok (.getfield idx, 3))
    (kk : W p l e R s m args below meth c H locs cells slots Q (F0 m (pc + 3) ls (.ref (hR E j k 1000) :: rest))) : W p l e R s m args below meth c H locs cells slots Q (F0 m pc ls (.ref (hO E j) :: rest)) := g_get C M j k hj hl hc hk hw hdg kk
theorem g_put (C : hC E A p s m c cc nL own) (M : hM E A s H locs σ Z) (j k : Nat) {en : hEn} {σ' : hMem} {v : Value} (hj : j < 44) (hl : (hLay j)[k]? = some en) {K : String} {T : u_T} {N idx : Nat} (hc : vwCl[hCi j]? = some (K, T, N)) (hk : k < N) (hw : hFl own idx (T k)) (hfin : (T k).2.2.2 = false) (hn : narrow (hTyOf (hCi j) k) v = v) (hf : fits (hTyOf (hCi j) k) v = true) (hF : (hFs E σ j).set k v = hFs E σ' j) (hOt : ∀ d, d ∈ hIds → d ≠ (j, 0, 0) → hCont E σ' d = hCont E σ d) (hdg : decode cc pc = .ok (.putfield idx, 3))
    (kk : ∀ (H1 : Heap) (locs1 : List Loc), hM E A s H1 locs1 σ' Z → W p l e R s m args below meth c H1 locs1 cells slots Q (F0 m (pc + 3) ls rest)) : W p l e R s m args below meth c H locs cells slots Q (F0 m pc ls (v :: .ref (hO E j) :: rest)) := by
  obtain ⟨q, hq⟩ := hW_at (E := E) (σ := σ) (Z := Z) (hIds_o hj)
  obtain ⟨h1, h2, h3⟩ := hCls hc
  obtain ⟨hx, hb, hml, hown, hK, hS⟩ := C
  obtain ⟨hP, hD, hS0, hA⟩ := M
  have hts : ∀ w ∈ u_ws K T N, w.before args s = true := fun w h => hK.1.use (h1 w h).1 (h1 w h).2
  have hle : k < (hFs E σ j).length := by
    rw [hFs, List.length_mapIdx]
    exact (List.getElem?_eq_some_iff.mp hl).1
  have hset := hW_set (E := E) (σ := σ) (σ' := σ') (e := .inr (hCi j, (hFs E σ j).set k v)) hD hq (hIds_o hj) (by rw [hF]; rfl) hOt
  have kk2 : ∀ (H1 : Heap) (locs1 : List Loc), va_P E.1 vwCl ((hW E σ ++ Z).set q (hAd E (j, 0, 0), .inr (hCi j, (hFs E σ j).set k v))) H1 → va_D A ((hW E σ ++ Z).set q (hAd E (j, 0, 0), .inr (hCi j, (hFs E σ j).set k v))) → va_S A s.heap H1 locs1 → W p l e R s m args below meth c H1 locs1 cells slots Q (F0 m (pc + 3) ls rest) := by
    intro H1 locs1 a1 a2 a3
    rw [hset] at a1 a2
    exact kk H1 locs1 ⟨a1, a2, a3, hA⟩
  rcases hw with hw | ⟨host, hw⟩
  · exact va_put hx hb hts (fun w h => h) _ h2 h3 hown hK.2 hP hD hS0 q hq hc k hk (hK.1.use hw rfl) (fun _ h => h) hfin (h2 k hk) hn hf hle hdg kk2
  · exact va_putN hx hb hts (fun w h => h) _ h2 h3 hown hK.2 hP hD hS0 q hq hc k hk (hK.1.use hw rfl) (fun _ h => h) hfin (h2 k hk) hn hf hle hdg kk2
theorem g_putI (C : hC E A p s m c cc nL own) (M : hM E A s H locs σ Z) (j k : Nat) {v : Int32} (hj : j < 44) (hl : (hLay j)[k]? = some e0) {K : String} {T : u_T} {N idx : Nat} (hc : vwCl[hCi j]? = some (K, T, N)) (hk : k < N) (hw : hFl own idx (T k)) (hfin : (T k).2.2.2 = false) (hty : hTyOf (hCi j) k = .int) (hdg : decode cc pc = .ok (.putfield idx, 3))
    (kk : ∀ (H1 : Heap) (locs1 : List Loc), hM E A s H1 locs1 (sI σ j k v) Z → W p l e R s m args below meth c H1 locs1 cells slots Q (F0 m (pc + 3) ls rest)) : W p l e R s m args below meth c H locs cells slots Q (F0 m pc ls (.int v :: .ref (hO E j) :: rest)) :=
  g_put C M j k hj hl hc hk hw hfin (by rw [hty]; rfl) (by rw [hty]; rfl) (hFs_set hl (show (Value.int (hI (sI σ j k v) j k)) = .int v by simp [hI_sI]) (fun k' e' h => hFv_sI E σ j k v j k' e' (fun q => h q.1))) (fun d hd h => hCont_sI E σ j k v d hd h) hdg kk
theorem g_putZ (C : hC E A p s m c cc nL own) (M : hM E A s H locs σ Z) (j k : Nat) {v : Int32} (hv : v = 0 ∨ v = 1) (hj : j < 44) (hl : (hLay j)[k]? = some e0) {K : String} {T : u_T} {N idx : Nat} (hc : vwCl[hCi j]? = some (K, T, N)) (hk : k < N) (hw : hFl own idx (T k)) (hfin : (T k).2.2.2 = false) (hty : hTyOf (hCi j) k = .boolean) (hdg : decode cc pc = .ok (.putfield idx, 3))
    (kk : ∀ (H1 : Heap) (locs1 : List Loc), hM E A s H1 locs1 (sI σ j k v) Z → W p l e R s m args below meth c H1 locs1 cells slots Q (F0 m (pc + 3) ls rest)) : W p l e R s m args below meth c H locs cells slots Q (F0 m pc ls (.int v :: .ref (hO E j) :: rest)) :=
  g_put C M j k hj hl hc hk hw hfin (by rw [hty]; rcases hv with rfl | rfl <;> rfl) (by rw [hty]; rcases hv with rfl | rfl <;> rfl) (hFs_set hl (show (Value.int (hI (sI σ j k v) j k)) = .int v by simp [hI_sI]) (fun k' e' h => hFv_sI E σ j k v j k' e' (fun q => h q.1))) (fun d hd h => hCont_sI E σ j k v d hd h) hdg kk
theorem g_putL (C : hC E A p s m c cc nL own) (M : hM E A s H locs σ Z) (j k : Nat) {v : Int64} (hj : j < 44) (hl : (hLay j)[k]? = some e1) {K : String} {T : u_T} {N idx : Nat} (hc : vwCl[hCi j]? = some (K, T, N)) (hk : k < N) (hw : hFl own idx (T k)) (hfin : (T k).2.2.2 = false) (hty : hTyOf (hCi j) k = .long) (hdg : decode cc pc = .ok (.putfield idx, 3))
    (kk : ∀ (H1 : Heap) (locs1 : List Loc), hM E A s H1 locs1 (sL σ j k v) Z → W p l e R s m args below meth c H1 locs1 cells slots Q (F0 m (pc + 3) ls rest)) : W p l e R s m args below meth c H locs cells slots Q (F0 m pc ls (.long v :: .ref (hO E j) :: rest)) :=
  g_put C M j k hj hl hc hk hw hfin (by rw [hty]; rfl) (by rw [hty]; rfl) (hFs_set hl (show (Value.long (hL (sL σ j k v) j k)) = .long v by simp [hL_sL]) (fun k' e' h => hFv_sL E σ j k v j k' e' (fun q => h q.1))) (fun d hd h => hCont_sL E σ j k v d hd h) hdg kk
/-- arrays: of ints, booleans, bytes, longs -/
theorem g_iald (C : hC E A p s m c cc nL own) (M : hM E A s H locs σ Z) (j k : Nat) (hj : j < 44) {n b : Nat} (hl : (hLay j)[k]? = some (3, 0, n, b)) {x : Int32} (i : Nat) (hx : x.toNatClampNeg = i) (hin : vp_in x n) {v : Int32} (hv : hA σ j k 0 i = v) (hdg : decode cc pc = .ok (.iaload, 1))
    (kk : W p l e R s m args below meth c H locs cells slots Q (F0 m (pc + 1) ls (.int v :: rest))) : W p l e R s m args below meth c H locs cells slots Q (F0 m pc ls (.int x :: .ref (hR E j k 0) :: rest)) := by
  obtain ⟨q, hq⟩ := hW_at (E := E) (σ := σ) (Z := Z) (c := (j, k + 1, 0)) (hIds_s hj hl (List.mem_singleton.mpr rfl))
  rw [hCont_s hl] at hq
  subst hx
  subst hv
  exact va_iald C.1 C.2.1 C.2.2.2.2.1.2 M.1 q 0 hq rfl hin hdg kk
theorem g_zald (C : hC E A p s m c cc nL own) (M : hM E A s H locs σ Z) (j k : Nat) (hj : j < 44) {n b : Nat} (hl : (hLay j)[k]? = some (3, 2, n, b)) {x : Int32} (i : Nat) (hx : x.toNatClampNeg = i) (hin : vp_in x n) {v : Int32} (hv : hA σ j k 0 i = v) (hdg : decode cc pc = .ok (.baload, 1))
    (kk : W p l e R s m args below meth c H locs cells slots Q (F0 m (pc + 1) ls (.int v :: rest))) : W p l e R s m args below meth c H locs cells slots Q (F0 m pc ls (.int x :: .ref (hR E j k 0) :: rest)) := by
  obtain ⟨q, hq⟩ := hW_at (E := E) (σ := σ) (Z := Z) (c := (j, k + 1, 0)) (hIds_s hj hl (List.mem_singleton.mpr rfl))
  rw [hCont_s hl] at hq
  subst hx
  subst hv
  exact va_zald C.1 C.2.1 C.2.2.2.2.1.2 M.1 q 2 hq rfl hin hdg kk
theorem g_bald (C : hC E A p s m c cc nL own) (M : hM E A s H locs σ Z) (j k : Nat) (hj : j < 44) {n b : Nat} (hl : (hLay j)[k]? = some (3, 3, n, b)) {x : Int32} (i : Nat) (hx : x.toNatClampNeg = i) (hin : vp_in x n) {v : Int32} (hv : hA σ j k 0 i = v) (hdg : decode cc pc = .ok (.baload, 1))
    (kk : W p l e R s m args below meth c H locs cells slots Q (F0 m (pc + 1) ls (.int v :: rest))) : W p l e R s m args below meth c H locs cells slots Q (F0 m pc ls (.int x :: .ref (hR E j k 0) :: rest)) := by
  obtain ⟨q, hq⟩ := hW_at (E := E) (σ := σ) (Z := Z) (c := (j, k + 1, 0)) (hIds_s hj hl (List.mem_singleton.mpr rfl))
  rw [hCont_s hl] at hq
  subst hx
  subst hv
  exact va_bald C.1 C.2.1 C.2.2.2.2.1.2 M.1 q 3 hq rfl hin hdg kk
theorem g_lald (C : hC E A p s m c cc nL own) (M : hM E A s H locs σ Z) (j k : Nat) (hj : j < 44) {n b : Nat} (hl : (hLay j)[k]? = some (4, 1, n, b)) {x : Int32} (i : Nat) (hx : x.toNatClampNeg = i) (hin : vp_in x n) {v : Int64} (hv : hB σ j k 0 i = v) (hdg : decode cc pc = .ok (.laload, 1))
    (kk : W p l e R s m args below meth c H locs cells slots Q (F0 m (pc + 1) ls (.long v :: rest))) : W p l e R s m args below meth c H locs cells slots Q (F0 m pc ls (.int x :: .ref (hR E j k 0) :: rest)) := by
  obtain ⟨q, hq⟩ := hW_at (E := E) (σ := σ) (Z := Z) (c := (j, k + 1, 0)) (hIds_s hj hl (List.mem_singleton.mpr rfl))
  rw [hCont_s hl] at hq
  subst hx
  subst hv
  exact va_lald C.1 C.2.1 C.2.2.2.2.1.2 M.1 q 1 hq rfl hin hdg kk
/-- a row of rows -/
theorem hSub5 {j k i t n b : Nat} (h : i < n) : (j, k + 1, i) ∈ hSub j k (5, t, n, b) := List.mem_cons_of_mem _ (List.mem_map.mpr ⟨i, List.mem_range.mpr h, rfl⟩)
theorem hSub6 {j k i t n b : Nat} (h : i < n) : (j, k + 1, i) ∈ hSub j k (6, t, n, b) := List.mem_cons_of_mem _ (List.mem_map.mpr ⟨i, List.mem_range.mpr h, rfl⟩)
theorem hArr5 {E : hEnv} {σ : hMem} {j k i t n b : Nat} (h : i ≠ 1000) : hArr E σ j k i (5, t, n, b) = .inl (E.2.1 0, b, .inl (hA σ j k i)) := if_neg h
theorem hArr6 {E : hEnv} {σ : hMem} {j k i t n b : Nat} (h : i ≠ 1000) : hArr E σ j k i (6, t, n, b) = .inl (E.2.1 1, b, .inr (.inl (hB σ j k i))) := if_neg h
theorem g_riald (C : hC E A p s m c cc nL own) (M : hM E A s H locs σ Z) (j k r : Nat) (hj : j < 44) {t n b : Nat} (hl : (hLay j)[k]? = some (5, t, n, b)) (hr : r < n) (hn : n ≤ 1000) {x : Int32} (i : Nat) (hx : x.toNatClampNeg = i) (hin : vp_in x b) {v : Int32} (hv : hA σ j k r i = v) (hdg : decode cc pc = .ok (.iaload, 1))
    (kk : W p l e R s m args below meth c H locs cells slots Q (F0 m (pc + 1) ls (.int v :: rest))) : W p l e R s m args below meth c H locs cells slots Q (F0 m pc ls (.int x :: .ref (hR E j k r) :: rest)) := by
  obtain ⟨q, hq⟩ := hW_at (E := E) (σ := σ) (Z := Z) (c := (j, k + 1, r)) (hIds_s hj hl (hSub5 hr))
  rw [hCont_s hl, hArr5 (by omega)] at hq
  subst hx
  subst hv
  exact va_iald C.1 C.2.1 C.2.2.2.2.1.2 M.1 q 0 hq rfl hin hdg kk
theorem g_rlald (C : hC E A p s m c cc nL own) (M : hM E A s H locs σ Z) (j k r : Nat) (hj : j < 44) {t n b : Nat} (hl : (hLay j)[k]? = some (6, t, n, b)) (hr : r < n) (hn : n ≤ 1000) {x : Int32} (i : Nat) (hx : x.toNatClampNeg = i) (hin : vp_in x b) {v : Int64} (hv : hB σ j k r i = v) (hdg : decode cc pc = .ok (.laload, 1))
    (kk : W p l e R s m args below meth c H locs cells slots Q (F0 m (pc + 1) ls (.long v :: rest))) : W p l e R s m args below meth c H locs cells slots Q (F0 m pc ls (.int x :: .ref (hR E j k r) :: rest)) := by
  obtain ⟨q, hq⟩ := hW_at (E := E) (σ := σ) (Z := Z) (c := (j, k + 1, r)) (hIds_s hj hl (hSub6 hr))
  rw [hCont_s hl, hArr6 (by omega)] at hq
  subst hx
  subst hv
  exact va_lald C.1 C.2.1 C.2.2.2.2.1.2 M.1 q 1 hq rfl hin hdg kk
theorem g_aald0 (C : hC E A p s m c cc nL own) (M : hM E A s H locs σ Z) {a : Nat} {ty : FieldType} (hty : ty.isReference = true) {q t0 : Nat} {cA : ClassId} {n : Nat} {f : Nat → Option Nat} (ha : (hW E σ ++ Z)[q]? = some (a, .inl (cA, n, .inr (.inr (.inr (.inr f)))))) (ht : (hTys E)[t0]? = some (cA, ty)) {x : Int32} (hin : vp_in x n) (hdg : decode cc pc = .ok (.aaload, 1))
    (kk : W p l e R s m args below meth c H locs cells slots Q (F0 m (pc + 1) ls (va_rf (f x.toNatClampNeg) :: rest))) : W p l e R s m args below meth c H locs cells slots Q (F0 m pc ls (.int x :: .ref a :: rest)) := by
  have hlt : x.toNatClampNeg < n := Nat.not_le.mp fun q => hin (Or.inr q)
  exact W.aald (v := va_rf (f x.toNatClampNeg)) (ty := ty) C.1 C.2.1 (M.1 q _ ha) ((C.2.2.2.2.1.2.2 t0 _ ht).1 n (fun j => va_rf (f j))) hty (fun q => by cases q) (by show ¬ (x < 0 ∨ (arrV _ _ _).slots.size ≤ _); rw [arrV_size]; exact hin) (by show (arrV _ _ _).slots[_]? = _; rw [arrV_read _ _ hlt]) rfl rfl hdg kk
theorem g_aald5 (C : hC E A p s m c cc nL own) (M : hM E A s H locs σ Z) (j k : Nat) (hj : j < 44) {t n b : Nat} (hl : (hLay j)[k]? = some (5, t, n, b)) {x : Int32} (i : Nat) (hx : x.toNatClampNeg = i) (hin : vp_in x n) (hdg : decode cc pc = .ok (.aaload, 1))
    (kk : W p l e R s m args below meth c H locs cells slots Q (F0 m (pc + 1) ls (.ref (hR E j k i) :: rest))) : W p l e R s m args below meth c H locs cells slots Q (F0 m pc ls (.int x :: .ref (hR E j k 1000) :: rest)) := by
  obtain ⟨q, hq⟩ := hW_at (E := E) (σ := σ) (Z := Z) (c := (j, k + 1, 1000)) (hIds_s hj hl List.mem_cons_self)
  rw [hCont_s hl] at hq
  subst hx
  have hlt : x.toNatClampNeg < n := Nat.not_le.mp fun q => hin (Or.inr q)
  refine g_aald0 C M (ty := .array .int) rfl (t0 := 4) hq rfl hin hdg ?_
  rw [if_pos hlt]
  exact kk
theorem g_aald6 (C : hC E A p s m c cc nL own) (M : hM E A s H locs σ Z) (j k : Nat) (hj : j < 44) {t n b : Nat} (hl : (hLay j)[k]? = some (6, t, n, b)) {x : Int32} (i : Nat) (hx : x.toNatClampNeg = i) (hin : vp_in x n) (hdg : decode cc pc = .ok (.aaload, 1))
    (kk : W p l e R s m args below meth c H locs cells slots Q (F0 m (pc + 1) ls (.ref (hR E j k i) :: rest))) : W p l e R s m args below meth c H locs cells slots Q (F0 m pc ls (.int x :: .ref (hR E j k 1000) :: rest)) := by
  obtain ⟨q, hq⟩ := hW_at (E := E) (σ := σ) (Z := Z) (c := (j, k + 1, 1000)) (hIds_s hj hl List.mem_cons_self)
  rw [hCont_s hl] at hq
  subst hx
  have hlt : x.toNatClampNeg < n := Nat.not_le.mp fun q => hin (Or.inr q)
  refine g_aald0 C M (ty := .array .long) rfl (t0 := 5) hq rfl hin hdg ?_
  rw [if_pos hlt]
  exact kk
/-- an object out of an array of objects -/
theorem g_aald7 (C : hC E A p s m c cc nL own) (M : hM E A s H locs σ Z) (j k : Nat) (hj : j < 44) {t n b : Nat} (hl : (hLay j)[k]? = some (7, t, n, b)) (ht : 6 ≤ t ∧ t < 9) {x : Int32} (i : Nat) (hx : x.toNatClampNeg = i) (hin : vp_in x n) (hdg : decode cc pc = .ok (.aaload, 1))
    (kk : W p l e R s m args below meth c H locs cells slots Q (F0 m (pc + 1) ls (.ref (hO E (b + i)) :: rest))) : W p l e R s m args below meth c H locs cells slots Q (F0 m pc ls (.int x :: .ref (hR E j k 0) :: rest)) := by
  obtain ⟨q, hq⟩ := hW_at (E := E) (σ := σ) (Z := Z) (c := (j, k + 1, 0)) (hIds_s hj hl (List.mem_singleton.mpr rfl))
  rw [hCont_s hl] at hq
  subst hx
  have hlt : x.toNatClampNeg < n := Nat.not_le.mp fun q => hin (Or.inr q)
  have hr : (hTy t).isReference = true := by
    rcases (show t = 6 ∨ t = 7 ∨ t = 8 by omega) with rfl | rfl | rfl <;> rfl
  refine g_aald0 C M (ty := hTy t) hr (t0 := t) hq ?_ hin hdg ?_
  · rw [hTys, List.getElem?_map, List.getElem?_range ht.2]
    rfl
  · rw [if_pos hlt]
    exact kk
theorem hM.setA {E : hEnv} {A : Nat → Prop} {s : State} {H H1 : Heap} {locs locs1 : List Loc} {σ : hMem} {Z : va_W} (M : hM E A s H locs σ Z) {j k i q : Nat} {en : hEn} {f : Nat → Int32} {x : va_E} (hl : (hLay j)[k]? = some en) (hi : (j, k + 1, i) ∈ hIds) (hq : (hW E σ ++ Z)[q]? = some (hAd E (j, k + 1, i), hCont E σ (j, k + 1, i))) (hx : hArr E (sA σ j k i f) j k i en = x) (a1 : va_P E.1 vwCl ((hW E σ ++ Z).set q (hAd E (j, k + 1, i), x)) H1) (a2 : va_D A ((hW E σ ++ Z).set q (hAd E (j, k + 1, i), x))) (a3 : va_S A s.heap H1 locs1) : hM E A s H1 locs1 (sA σ j k i f) Z := by
  rw [hW_set (σ' := sA σ j k i f) M.2.1 hq hi (by rw [hCont_s hl, hx]) (fun d hd h => hCont_sA E σ j k i f hl d hd h)] at a1 a2
  exact ⟨a1, a2, a3, M.2.2.2⟩
theorem hM.setB {E : hEnv} {A : Nat → Prop} {s : State} {H H1 : Heap} {locs locs1 : List Loc} {σ : hMem} {Z : va_W} (M : hM E A s H locs σ Z) {j k i q : Nat} {en : hEn} {f : Nat → Int64} {x : va_E} (hl : (hLay j)[k]? = some en) (hi : (j, k + 1, i) ∈ hIds) (hq : (hW E σ ++ Z)[q]? = some (hAd E (j, k + 1, i), hCont E σ (j, k + 1, i))) (hx : hArr E (sB σ j k i f) j k i en = x) (a1 : va_P E.1 vwCl ((hW E σ ++ Z).set q (hAd E (j, k + 1, i), x)) H1) (a2 : va_D A ((hW E σ ++ Z).set q (hAd E (j, k + 1, i), x))) (a3 : va_S A s.heap H1 locs1) : hM E A s H1 locs1 (sB σ j k i f) Z := by
  rw [hW_set (σ' := sB σ j k i f) M.2.1 hq hi (by rw [hCont_s hl, hx]) (fun d hd h => hCont_sB E σ j k i f hl d hd h)] at a1 a2
  exact ⟨a1, a2, a3, M.2.2.2⟩
theorem g_iast (C : hC E A p s m c cc nL own) (M : hM E A s H locs σ Z) (j k : Nat) (hj : j < 44) {n b : Nat} (hl : (hLay j)[k]? = some (3, 0, n, b)) {x v : Int32} (i : Nat) (hx : x.toNatClampNeg = i) (hin : vp_in x n) (hdg : decode cc pc = .ok (.iastore, 1))
    (kk : ∀ (H1 : Heap) (locs1 : List Loc), hM E A s H1 locs1 (sA σ j k 0 (upd (hA σ j k 0) i v)) Z → W p l e R s m args below meth c H1 locs1 cells slots Q (F0 m (pc + 1) ls rest)) : W p l e R s m args below meth c H locs cells slots Q (F0 m pc ls (.int v :: .int x :: .ref (hR E j k 0) :: rest)) := by
  have hi := hIds_s (c := (j, k + 1, 0)) hj hl (List.mem_singleton.mpr rfl)
  obtain ⟨q, hq0⟩ := hW_at (E := E) (σ := σ) (Z := Z) hi
  have hq := hq0
  rw [hCont_s hl] at hq
  subst hx
  exact va_iast C.1 C.2.1 C.2.2.2.2.1.2 M.1 M.2.1 M.2.2.1 q 0 hq rfl hin hdg (fun H1 locs1 a1 a2 a3 => kk H1 locs1 (M.setA hl hi hq0 (by simp [hArr, hA_sA]) a1 a2 a3))
theorem g_zast (C : hC E A p s m c cc nL own) (M : hM E A s H locs σ Z) (j k : Nat) (hj : j < 44) {n b : Nat} (hl : (hLay j)[k]? = some (3, 2, n, b)) {x v : Int32} (hv : v = 0 ∨ v = 1) (i : Nat) (hx : x.toNatClampNeg = i) (hin : vp_in x n) (hdg : decode cc pc = .ok (.bastore, 1))
    (kk : ∀ (H1 : Heap) (locs1 : List Loc), hM E A s H1 locs1 (sA σ j k 0 (upd (hA σ j k 0) i v)) Z → W p l e R s m args below meth c H1 locs1 cells slots Q (F0 m (pc + 1) ls rest)) : W p l e R s m args below meth c H locs cells slots Q (F0 m pc ls (.int v :: .int x :: .ref (hR E j k 0) :: rest)) := by
  have hi := hIds_s (c := (j, k + 1, 0)) hj hl (List.mem_singleton.mpr rfl)
  obtain ⟨q, hq0⟩ := hW_at (E := E) (σ := σ) (Z := Z) hi
  have hq := hq0
  rw [hCont_s hl] at hq
  subst hx
  have hvv : vp_nar .boolean v = v := by rcases hv with rfl | rfl <;> rfl
  exact va_zast C.1 C.2.1 C.2.2.2.2.1.2 M.1 M.2.1 M.2.2.1 q 2 hq rfl hin hdg (fun H1 locs1 a1 a2 a3 => by
    rw [hvv] at a1 a2
    exact kk H1 locs1 (M.setA hl hi hq0 (by simp [hArr, hA_sA]) a1 a2 a3))
theorem g_bast (C : hC E A p s m c cc nL own) (M : hM E A s H locs σ Z) (j k : Nat) (hj : j < 44) {n b : Nat} (hl : (hLay j)[k]? = some (3, 3, n, b)) {x v : Int32} (hv : vp_nar .byte v = v) (i : Nat) (hx : x.toNatClampNeg = i) (hin : vp_in x n) (hdg : decode cc pc = .ok (.bastore, 1))
    (kk : ∀ (H1 : Heap) (locs1 : List Loc), hM E A s H1 locs1 (sA σ j k 0 (upd (hA σ j k 0) i v)) Z → W p l e R s m args below meth c H1 locs1 cells slots Q (F0 m (pc + 1) ls rest)) : W p l e R s m args below meth c H locs cells slots Q (F0 m pc ls (.int v :: .int x :: .ref (hR E j k 0) :: rest)) := by
  have hi := hIds_s (c := (j, k + 1, 0)) hj hl (List.mem_singleton.mpr rfl)
  obtain ⟨q, hq0⟩ := hW_at (E := E) (σ := σ) (Z := Z) hi
  have hq := hq0
  rw [hCont_s hl] at hq
  subst hx
  exact va_bast C.1 C.2.1 C.2.2.2.2.1.2 M.1 M.2.1 M.2.2.1 q 3 hq rfl hin hdg (fun H1 locs1 a1 a2 a3 => by
    rw [hv] at a1 a2
    exact kk H1 locs1 (M.setA hl hi hq0 (by simp [hArr, hA_sA]) a1 a2 a3))
theorem g_last (C : hC E A p s m c cc nL own) (M : hM E A s H locs σ Z) (j k : Nat) (hj : j < 44) {n b : Nat} (hl : (hLay j)[k]? = some (4, 1, n, b)) {x : Int32} {v : Int64} (i : Nat) (hx : x.toNatClampNeg = i) (hin : vp_in x n) (hdg : decode cc pc = .ok (.lastore, 1))
    (kk : ∀ (H1 : Heap) (locs1 : List Loc), hM E A s H1 locs1 (sB σ j k 0 (vp_updL (hB σ j k 0) i v)) Z → W p l e R s m args below meth c H1 locs1 cells slots Q (F0 m (pc + 1) ls rest)) : W p l e R s m args below meth c H locs cells slots Q (F0 m pc ls (.long v :: .int x :: .ref (hR E j k 0) :: rest)) := by
  have hi := hIds_s (c := (j, k + 1, 0)) hj hl (List.mem_singleton.mpr rfl)
  obtain ⟨q, hq0⟩ := hW_at (E := E) (σ := σ) (Z := Z) hi
  have hq := hq0
  rw [hCont_s hl] at hq
  subst hx
  exact va_last C.1 C.2.1 C.2.2.2.2.1.2 M.1 M.2.1 M.2.2.1 q 1 hq rfl hin hdg (fun H1 locs1 a1 a2 a3 => kk H1 locs1 (M.setB hl hi hq0 (by simp [hArr, hB_sB]) a1 a2 a3))
theorem g_riast (C : hC E A p s m c cc nL own) (M : hM E A s H locs σ Z) (j k r : Nat) (hj : j < 44) {t n b : Nat} (hl : (hLay j)[k]? = some (5, t, n, b)) (hr : r < n) (hn : n ≤ 1000) {x v : Int32} (i : Nat) (hx : x.toNatClampNeg = i) (hin : vp_in x b) (hdg : decode cc pc = .ok (.iastore, 1))
    (kk : ∀ (H1 : Heap) (locs1 : List Loc), hM E A s H1 locs1 (sA σ j k r (upd (hA σ j k r) i v)) Z → W p l e R s m args below meth c H1 locs1 cells slots Q (F0 m (pc + 1) ls rest)) : W p l e R s m args below meth c H locs cells slots Q (F0 m pc ls (.int v :: .int x :: .ref (hR E j k r) :: rest)) := by
  have hi := hIds_s (c := (j, k + 1, r)) hj hl (hSub5 hr)
  obtain ⟨q, hq0⟩ := hW_at (E := E) (σ := σ) (Z := Z) hi
  have hq := hq0
  rw [hCont_s hl, hArr5 (by omega)] at hq
  subst hx
  exact va_iast C.1 C.2.1 C.2.2.2.2.1.2 M.1 M.2.1 M.2.2.1 q 0 hq rfl hin hdg (fun H1 locs1 a1 a2 a3 => kk H1 locs1 (M.setA hl hi hq0 (by rw [hArr5 (by omega)]; simp [hA_sA]) a1 a2 a3))
theorem g_rlast (C : hC E A p s m c cc nL own) (M : hM E A s H locs σ Z) (j k r : Nat) (hj : j < 44) {t n b : Nat} (hl : (hLay j)[k]? = some (6, t, n, b)) (hr : r < n) (hn : n ≤ 1000) {x : Int32} {v : Int64} (i : Nat) (hx : x.toNatClampNeg = i) (hin : vp_in x b) (hdg : decode cc pc = .ok (.lastore, 1))
    (kk : ∀ (H1 : Heap) (locs1 : List Loc), hM E A s H1 locs1 (sB σ j k r (vp_updL (hB σ j k r) i v)) Z → W p l e R s m args below meth c H1 locs1 cells slots Q (F0 m (pc + 1) ls rest)) : W p l e R s m args below meth c H locs cells slots Q (F0 m pc ls (.long v :: .int x :: .ref (hR E j k r) :: rest)) := by
  have hi := hIds_s (c := (j, k + 1, r)) hj hl (hSub6 hr)
  obtain ⟨q, hq0⟩ := hW_at (E := E) (σ := σ) (Z := Z) hi
  have hq := hq0
  rw [hCont_s hl, hArr6 (by omega)] at hq
  subst hx
  exact va_last C.1 C.2.1 C.2.2.2.2.1.2 M.1 M.2.1 M.2.2.1 q 1 hq rfl hin hdg (fun H1 locs1 a1 a2 a3 => kk H1 locs1 (M.setB hl hi hq0 (by rw [hArr6 (by omega)]; simp [hB_sB]) a1 a2 a3))
theorem g_alen (C : hC E A p s m c cc nL own) (M : hM E A s H locs σ Z) (j k : Nat) (hj : j < 44) {t n b : Nat} (hl : (hLay j)[k]? = some (3, t, n, b)) (ht : t < 9) (hdg : decode cc pc = .ok (.arraylength, 1))
    (kk : W p l e R s m args below meth c H locs cells slots Q (F0 m (pc + 1) ls (.int (nI n) :: rest))) : W p l e R s m args below meth c H locs cells slots Q (F0 m pc ls (.ref (hR E j k 0) :: rest)) := by
  obtain ⟨q, hq⟩ := hW_at (E := E) (σ := σ) (Z := Z) (c := (j, k + 1, 0)) (hIds_s hj hl (List.mem_singleton.mpr rfl))
  rw [hCont_s hl] at hq
  exact va_alen C.1 C.2.1 C.2.2.2.2.1.2 M.1 q t hq (show (hTys E)[t]? = some (E.2.1 t, hTy t) by rw [hTys, List.getElem?_map, List.getElem?_range ht]; rfl) rfl hdg kk
end ROWS
