/-! Contracts over the memory, calls, returns. -/
def hPre (E : hEnv) (σ : hMem) (Z : va_W) (sz : Nat) (av : List Value) : Array Value → State → Prop := va_Pc av (fun U => U.heap.size = sz ∧ va_P E.1 vwCl (hW E σ ++ Z) U.heap ∧ va_D (fun _ => True) (hW E σ ++ Z) ∧ hKS E U ∧ hSt E (va_A (hW E σ ++ Z) sz) U U.heap)
def hPost (E : hEnv) (A : Nat → Prop) (u : hMem × va_W) (t : State) : Prop := va_P E.1 vwCl (hW E u.1 ++ u.2) t.heap ∧ va_D A (hW E u.1 ++ u.2)
abbrev hRmT : Type := Nat × Nat × Nat × Nat
/-- room: frames, cells, slots, locals -/
def hRm (rm : hRmT) : Room := { frames := rm.1, cells := rm.2.1, slots := rm.2.2.1, locals := rm.2.2.2 }
abbrev hQf : Type := (Nat → Prop) → Array Value → State → Outcome → State → Prop
def hQi (E : hEnv) (Rr : Int32 → hMem × va_W → Prop) : hQf := fun A => va_Qi Rr (hPost E A) A
def hQl (E : hEnv) (Rr : Int64 → hMem × va_W → Prop) : hQf := fun A => va_Ql Rr (hPost E A) A
def hQv (E : hEnv) (Rr : hMem × va_W → Prop) : hQf := fun A => va_Qv Rr (hPost E A) A
def hQr (E : hEnv) (Rr : Nat → hMem × va_W → Prop) : hQf := fun A => va_Qr (fun _ : hMem × va_W => True) (fun u a t => Rr a u ∧ hPost E A u t) A
def hMet (l : Launch) (y : MethodName) (bytes : ByteArray) (maxL : Nat) (ret : Option FieldType) (rm : hRmT) (E : hEnv) (σ : hMem) (Z : va_W) (av : List Value) (Qf : hQf) : Prop :=
  ∀ sz : Nat, Met l y [.code y bytes maxL ret] (hRm rm) (hPre E σ Z sz av) (Qf (va_A (hW E σ ++ Z) sz)) rm.2.1 rm.2.2.1 (va_A (hW E σ ++ Z) sz)
theorem hMet.of {l : Launch} {y : MethodName} {bytes : ByteArray} {maxL : Nat} {ret : Option FieldType} {rm : hRmT} {E : hEnv} {σ : hMem} {Z : va_W} {av : List Value} {Qf : hQf} (hy : plainName y.cls = true) (hml0 : (lg_sl av).length ≤ maxL)
    (body : ∀ (p : Program) (e : Env) (s : State) (m : MethodId) (below : List Frame) (meth : Method) (c : Code) (A : Nat → Prop) (ls : Array Slot), hC E A p s m c bytes maxL y.cls → hM E A s s.heap [] σ Z → meth.sig.returnType = ret → meth.locks = false → lv_has ls maxL (lv_args 0 av) →
      W p l e (hRm rm) s m av.toArray below meth c s.heap [] 0 0 (MQ below (Qf A) av.toArray s rm.2.1 rm.2.2.1 A) (F0 m 0 ls [])) : hMet l y bytes maxL ret rm E σ Z av Qf := by
  intro sz
  refine Met.ofW (cc := bytes) (maxL := maxL) (ret := ret) hy rfl ?_
  intro p e s m args below meth c s₁ B hml hv
  obtain ⟨rfl, hsz, hP, hD0, hK, hS⟩ := hv
  have hown : s.vm.findClass y.cls = some m.cls := findClass_of_methodNamed B.named
  subst hsz
  have hD := hD0.self (sz := s.heap.size)
  rw [lg_entry_eq]
  exact body p e s m below meth c _ _ ⟨B.exec, B.bytes, hml, hown, hK, hS⟩ ⟨hP, hD, va_S.rf, fun q h => Or.inr h⟩ B.returns B.notSynchronized (lv_entry av hml0)
theorem hPre.blind {E : hEnv} {σ : hMem} {Z : va_W} {sz : Nat} {av : List Value} : FrameBlind (hPre E σ Z sz av) := by
  intro a U g mk h
  obtain ⟨h0, h1, h2, h3, h4, h5⟩ := h
  have hW : U.WarmedH (U.calling g mk a).vm := State.WarmedH.refl U
  exact ⟨h0, h1, h2, h3, h4.warm hW, h5.go hW (fun _ _ _ => rfl) (fun _ h => h)⟩
theorem hM.free {E : hEnv} {A : Nat → Prop} {s : State} {H : Heap} {locs : List Loc} {σ : hMem} {Z : va_W} (M : hM E A s H locs σ Z) : ∀ q, va_A (hW E σ ++ Z) H.size q → A q := by
  intro q h
  rcases h with ⟨k, e, h⟩ | h
  · exact M.2.1.2 k _ h
  · exact M.2.2.2 q (Nat.le_trans M.2.2.1.1 h)
theorem hPre.ok {E : hEnv} {A : Nat → Prop} {p : Program} {s : State} {m : MethodId} {c : Code} {cc : ByteArray} {nL : Nat} {own : String} {H : Heap} {locs : List Loc} {σ : hMem} {Z : va_W} (C : hC E A p s m c cc nL own) (M : hM E A s H locs σ Z) (av : List Value) : ∀ U : State, U.heap = H → s.WarmedH U.vm → hPre E σ Z H.size av av.toArray U := by
  intro U hU hW
  refine ⟨rfl, by rw [hU], by rw [hU]; exact M.1, M.2.1.weaken (fun _ _ _ _ => trivial), C.2.2.2.2.1.warm hW, ?_⟩
  rw [hU]
  exact C.2.2.2.2.2.go hW M.2.2.1.2.1 M.free
section CALLS
variable {p : Program} {l : Launch} {e : Env} {R : Room} {s : State} {m : MethodId} {args : Array Value} {below : List Frame} {meth : Method} {c : Code} {H : Heap} {locs : List Loc} {cells slots : Nat} {Q : State → Prop}
variable {cc : ByteArray} {pc nL : Nat} {ls : Array Slot} {rest : List Value} {E : hEnv} {A : Nat → Prop} {σ : hMem} {Z : va_W} {own : String}
variable {y : MethodName} {bytes : ByteArray} {maxL n idx : Nat} {ret : Option FieldType} {rm : hRmT} {As st0 : List Value} {Qf : hQf}
theorem hPay (C : hC E A p s m c cc nL own) (hcl : hCl y bytes maxL ret n) : ∀ w ∈ [Cond.code y bytes maxL ret], ∀ (a' : Array Value) (U : State), s.WarmedH U.vm → w.before a' U = true := by
  intro w hw a' U hW
  rw [List.mem_singleton.mp hw]
  exact word_at (args := #[]) hW (Or.inl rfl) (C.2.2.2.2.1.1.use hcl.1 rfl)
theorem hNp (hcl : hCl y bytes maxL ret n) : ∀ sig, parseMethodDescriptor y.desc = some sig → n = sig.parameters.length := by
  intro sig h
  have h2 := hcl.2.2.2
  rw [h] at h2
  exact (Option.some.inj h2).symm
theorem hRecv (C : hC E A p s m c cc nL own) (M : hM E A s H locs σ Z) {j : Nat} (hj : j < 44) {K : String} {T : u_T} {N : Nat} (hc : vwCl[hCi j]? = some (K, T, N)) : ∃ cell : Cell, H[hO E j]? = some cell ∧ cell.vm.isStatics = false ∧ s.vm.findClass K = some cell.cls := by
  obtain ⟨q, hq⟩ := hW_at (E := E) (σ := σ) (Z := Z) (hIds_o hj)
  exact va_recv C.2.2.2.2.1.2 M.1 hc hq
/-- a call of an object's method -/
theorem g_runV (C : hC E A p s m c cc nL own) (M : hM E A s H locs σ Z) (j : Nat) (hm : hMet l y bytes maxL ret rm E σ Z (.ref (hO E j) :: As) Qf) (hcl : hCl y bytes maxL ret n) (iv : hIv y) (lk : hLk own idx y) (hj : j < 44) {T : u_T} {N : Nat} (hc : vwCl[hCi j]? = some (y.cls, T, N)) (hn : As.length = n) (hR : rm.1 + 1 ≤ R.frames ∧ 8 + (maxL + 11) + rm.2.2.2 ≤ R.locals) (hls : ls.size = nL) (hst : st0 = As.reverse ++ .ref (hO E j) :: rest) (hrest : (rest.map fun v => v.category).sum ≤ 8) (hdg : decode cc pc = .ok (.invokevirtual idx, 3)) (hcs : cells + rm.2.1 ≤ R.cells ∧ slots + rm.2.2.1 ≤ R.slots) :
    va_Run p l e R s m args below meth c H locs cells slots rm.2.1 rm.2.2.1 (F0 m pc ls st0) rest (Qf (va_A (hW E σ ++ Z) H.size) (.ref (hO E j) :: As).toArray) (va_A (hW E σ ++ Z) H.size) := by
  have K := C.2.2.2.2.1.1
  have hfix : CallFix p m c cc nL s args [] own := ⟨C.1, C.2.1, C.2.2.1, C.2.2.2.1, fun w h => by cases h⟩
  have hpre : PreV s H y.cls (hO E j) (hPre E σ Z H.size (.ref (hO E j) :: As)) As := ⟨hPre.blind, hRecv C M hj hc, hPre.ok C M _⟩
  have hroom : 2 * (F0 m pc ls st0).monitorRoom + (rest.map fun v => v.category).sum ≤ 8 := lv_room hrest
  rcases lk with lk | ⟨host, lk⟩
  · exact va_runV hfix (hm H.size) ⟨⟨rfl, rfl, hR.1, hR.2, hPay C hcl, List.mem_singleton.mpr rfl, K.use hcl.1 rfl, K.use hcl.2.1 rfl, hcl.2.2.1, hNp hcl, K.use lk rfl⟩, K.use iv.1 rfl, K.use iv.2 rfl⟩ hpre rfl hn hls hst hroom hdg hcs
  · exact va_runVN hfix (hm H.size) ⟨⟨⟨rfl, rfl, hR.1, hR.2, hPay C hcl, List.mem_singleton.mpr rfl⟩, K.use hcl.1 rfl, K.use hcl.2.1 rfl, hcl.2.2.1, hNp hcl, K.use lk rfl⟩, K.use iv.1 rfl, K.use iv.2 rfl⟩ hpre rfl hn hls hst hroom hdg hcs
theorem g_runS (C : hC E A p s m c cc nL own) (M : hM E A s H locs σ Z) (hm : hMet l y bytes maxL ret rm E σ Z As Qf) (hcl : hCl y bytes maxL ret n) (sm : Cond.static y ∈ lw_tbl) (lk : hLk own idx y) (hn : As.length = n) (hR : rm.1 + 1 ≤ R.frames ∧ 8 + (maxL + 11) + rm.2.2.2 ≤ R.locals) (hls : ls.size = nL) (hst : st0 = As.reverse ++ rest) (hrest : (rest.map fun v => v.category).sum ≤ 8) (hdg : decode cc pc = .ok (.invokestatic idx, 3)) (hcs : cells + rm.2.1 ≤ R.cells ∧ slots + rm.2.2.1 ≤ R.slots) :
    va_Run p l e R s m args below meth c H locs cells slots rm.2.1 rm.2.2.1 (F0 m pc ls st0) rest (Qf (va_A (hW E σ ++ Z) H.size) As.toArray) (va_A (hW E σ ++ Z) H.size) := by
  have K := C.2.2.2.2.1.1
  have hfix : CallFix p m c cc nL s args [] own := ⟨C.1, C.2.1, C.2.2.1, C.2.2.2.1, fun w h => by cases h⟩
  have hpre : PreS s H (hPre E σ Z H.size As) As := ⟨hPre.blind, hPre.ok C M _⟩
  have hroom : 2 * (F0 m pc ls st0).monitorRoom + (rest.map fun v => v.category).sum ≤ 8 := lv_room hrest
  rcases lk with lk | ⟨host, lk⟩
  · exact va_runS hfix (hm H.size) ⟨⟨rfl, rfl, hR.1, hR.2, hPay C hcl, List.mem_singleton.mpr rfl, K.use hcl.1 rfl, K.use hcl.2.1 rfl, hcl.2.2.1, hNp hcl, K.use lk rfl⟩, K.use sm rfl⟩ hpre rfl hn hls hst hroom hdg hcs
  · exact va_runSN hfix (hm H.size) ⟨⟨⟨rfl, rfl, hR.1, hR.2, hPay C hcl, List.mem_singleton.mpr rfl⟩, K.use hcl.1 rfl, K.use hcl.2.1 rfl, hcl.2.2.1, hNp hcl, K.use lk rfl⟩, K.use sm rfl, trivial⟩ hpre rfl hn hls hst hroom hdg hcs
theorem hM.after {u : hMem × va_W} {t : State} {H1 : Heap} {locs1 : List Loc} (M : hM E A s H locs σ Z) (ht : t.heap = H1) (hB : hPost E (va_A (hW E σ ++ Z) H.size) u t) (hS : va_S A s.heap H1 locs1) : hM E A s H1 locs1 u.1 u.2 :=
  ⟨by rw [← ht]; exact hB.1, hB.2.weaken (fun _ _ _ h => M.free _ h), hS, M.2.2.2⟩
theorem g_calli {Rr : Int32 → hMem × va_W → Prop} {a : Array Value} {mc ms : Nat} (M : hM E A s H locs σ Z) (hr : va_Run p l e R s m args below meth c H locs cells slots mc ms (F0 m pc ls st0) rest (hQi E Rr (va_A (hW E σ ++ Z) H.size) a) (va_A (hW E σ ++ Z) H.size))
    (kk : ∀ (r : Int32) (u : hMem × va_W) (H1 : Heap) (locs1 : List Loc), Rr r u → hM E A s H1 locs1 u.1 u.2 → W p l e R s m args below meth c H1 locs1 (cells + mc) (slots + ms) Q (F0 m (pc + 3) ls (.int r :: rest))) : W p l e R s m args below meth c H locs cells slots Q (F0 m pc ls st0) :=
  va_calli hr M.2.2.1 (fun q _ h => M.free q h) M.free (fun r u _ H1 locs1 ht _ hp hB _ _ hS => kk r u H1 locs1 hp (M.after ht hB hS))
theorem g_calll {Rr : Int64 → hMem × va_W → Prop} {a : Array Value} {mc ms : Nat} (M : hM E A s H locs σ Z) (hr : va_Run p l e R s m args below meth c H locs cells slots mc ms (F0 m pc ls st0) rest (hQl E Rr (va_A (hW E σ ++ Z) H.size) a) (va_A (hW E σ ++ Z) H.size))
    (kk : ∀ (r : Int64) (u : hMem × va_W) (H1 : Heap) (locs1 : List Loc), Rr r u → hM E A s H1 locs1 u.1 u.2 → W p l e R s m args below meth c H1 locs1 (cells + mc) (slots + ms) Q (F0 m (pc + 3) ls (.long r :: rest))) : W p l e R s m args below meth c H locs cells slots Q (F0 m pc ls st0) :=
  va_calll hr M.2.2.1 (fun q _ h => M.free q h) M.free (fun r u _ H1 locs1 ht _ hp hB _ _ hS => kk r u H1 locs1 hp (M.after ht hB hS))
theorem g_callv {Rr : hMem × va_W → Prop} {a : Array Value} {mc ms : Nat} (M : hM E A s H locs σ Z) (hr : va_Run p l e R s m args below meth c H locs cells slots mc ms (F0 m pc ls st0) rest (hQv E Rr (va_A (hW E σ ++ Z) H.size) a) (va_A (hW E σ ++ Z) H.size))
    (kk : ∀ (u : hMem × va_W) (H1 : Heap) (locs1 : List Loc), Rr u → hM E A s H1 locs1 u.1 u.2 → W p l e R s m args below meth c H1 locs1 (cells + mc) (slots + ms) Q (F0 m (pc + 3) ls rest)) : W p l e R s m args below meth c H locs cells slots Q (F0 m pc ls st0) :=
  va_callv hr M.2.2.1 (fun q _ h => M.free q h) M.free (fun u _ H1 locs1 ht _ hp hB _ _ hS => kk u H1 locs1 hp (M.after ht hB hS))
theorem g_callr {Rr : Nat → hMem × va_W → Prop} {a : Array Value} {mc ms : Nat} (M : hM E A s H locs σ Z) (hr : va_Run p l e R s m args below meth c H locs cells slots mc ms (F0 m pc ls st0) rest (hQr E Rr (va_A (hW E σ ++ Z) H.size) a) (va_A (hW E σ ++ Z) H.size))
    (kk : ∀ (r : Nat) (u : hMem × va_W) (H1 : Heap) (locs1 : List Loc), Rr r u → hM E A s H1 locs1 u.1 u.2 → W p l e R s m args below meth c H1 locs1 (cells + mc) (slots + ms) Q (F0 m (pc + 3) ls (.ref r :: rest))) : W p l e R s m args below meth c H locs cells slots Q (F0 m pc ls st0) :=
  va_callr hr M.2.2.1 (fun q _ h => M.free q h) M.free (fun u r _ H1 locs1 ht _ _ hB _ _ hS => kk r u H1 locs1 hB.1 (M.after ht hB.2 hS))
/-- returns -/
theorem g_iret {Rr : Int32 → hMem × va_W → Prop} {mc ms : Nat} {v : Int32} (C : hC E A p s m c cc nL own) (M : hM E A s H locs σ Z) (hr : meth.sig.returnType = some .int) (hlk : meth.locks = false) (hR : Rr v (σ, Z)) (hc : cells ≤ mc) (hs : slots ≤ ms) (hdg : decode cc pc = .ok (.ireturn, 1)) : W p l e R s m args below meth c H locs cells slots (MQ below (hQi E Rr A) args s mc ms A) (F0 m pc ls [.int v]) :=
  W.widen hc hs (W.iret C.1 C.2.1 hr (fun t ht _ => ⟨⟨v, (σ, Z), rfl, hR, by rw [ht]; exact M.1, M.2.1⟩, M.2.2.1.F ht⟩) M.2.2.1.2.2 hdg hlk)
theorem g_zret {Rr : Int32 → hMem × va_W → Prop} {mc ms : Nat} {v : Int32} {ty : FieldType} (hn : narrow ty (.int v) = .int v) (C : hC E A p s m c cc nL own) (M : hM E A s H locs σ Z) (hr : meth.sig.returnType = some ty) (hlk : meth.locks = false) (hR : Rr v (σ, Z)) (hc : cells ≤ mc) (hs : slots ≤ ms) (hdg : decode cc pc = .ok (.ireturn, 1)) : W p l e R s m args below meth c H locs cells slots (MQ below (hQi E Rr A) args s mc ms A) (F0 m pc ls [.int v]) :=
  W.widen hc hs (W.zret C.1 C.2.1 hr hn (fun t ht _ => ⟨⟨v, (σ, Z), rfl, hR, by rw [ht]; exact M.1, M.2.1⟩, M.2.2.1.F ht⟩) M.2.2.1.2.2 hdg hlk)
theorem g_lret {Rr : Int64 → hMem × va_W → Prop} {mc ms : Nat} {v : Int64} (C : hC E A p s m c cc nL own) (M : hM E A s H locs σ Z) (hr : meth.sig.returnType = some .long) (hlk : meth.locks = false) (hR : Rr v (σ, Z)) (hc : cells ≤ mc) (hs : slots ≤ ms) (hdg : decode cc pc = .ok (.lreturn, 1)) : W p l e R s m args below meth c H locs cells slots (MQ below (hQl E Rr A) args s mc ms A) (F0 m pc ls [.long v]) :=
  W.widen hc hs (W.lret C.1 C.2.1 hr (fun t ht _ => ⟨⟨v, (σ, Z), rfl, hR, by rw [ht]; exact M.1, M.2.1⟩, M.2.2.1.F ht⟩) M.2.2.1.2.2 hdg hlk)
theorem g_vret {Rr : hMem × va_W → Prop} {mc ms : Nat} (C : hC E A p s m c cc nL own) (M : hM E A s H locs σ Z) (hr : meth.sig.returnType = none) (hlk : meth.locks = false) (hR : Rr (σ, Z)) (hc : cells ≤ mc) (hs : slots ≤ ms) (hdg : decode cc pc = .ok (.return_, 1)) : W p l e R s m args below meth c H locs cells slots (MQ below (hQv E Rr A) args s mc ms A) (F0 m pc ls []) :=
  W.widen hc hs (W.vret C.1 C.2.1 hr (fun t ht _ => ⟨⟨(σ, Z), rfl, hR, by rw [ht]; exact M.1, M.2.1⟩, M.2.2.1.F ht⟩) M.2.2.1.2.2 hdg hlk)
/-- the cells behind the memory: read, written, made, dropped -/
theorem hZ_at {z : Nat} {x : Nat × va_E} (h : Z[z]? = some x) : (hW E σ ++ Z)[(hW E σ).length + z]? = some x := by
  rw [List.getElem?_append_right (Nat.le_add_right _ _), Nat.add_sub_cancel_left]
  exact h
theorem hZ_set {z : Nat} {x : Nat × va_E} : (hW E σ ++ Z).set ((hW E σ).length + z) x = hW E σ ++ Z.set z x := by
  rw [List.set_append_right _ _ (Nat.le_add_right _ _), Nat.add_sub_cancel_left]
theorem g_xiald (C : hC E A p s m c cc nL own) (M : hM E A s H locs σ Z) (z : Nat) {a k : Nat} {f : Nat → Int32} (hz : Z[z]? = some (a, .inl (E.2.1 0, k, .inl f))) {x : Int32} (i : Nat) (hx : x.toNatClampNeg = i) (hin : vp_in x k) {v : Int32} (hv : f i = v) (hdg : decode cc pc = .ok (.iaload, 1))
    (kk : W p l e R s m args below meth c H locs cells slots Q (F0 m (pc + 1) ls (.int v :: rest))) : W p l e R s m args below meth c H locs cells slots Q (F0 m pc ls (.int x :: .ref a :: rest)) := by
  subst hx
  subst hv
  exact va_iald C.1 C.2.1 C.2.2.2.2.1.2 M.1 _ 0 (hZ_at hz) rfl hin hdg kk
theorem g_xzald (C : hC E A p s m c cc nL own) (M : hM E A s H locs σ Z) (z : Nat) {a k : Nat} {f : Nat → Int32} (hz : Z[z]? = some (a, .inl (E.2.1 2, k, .inl f))) {x : Int32} (i : Nat) (hx : x.toNatClampNeg = i) (hin : vp_in x k) {v : Int32} (hv : f i = v) (hdg : decode cc pc = .ok (.baload, 1))
    (kk : W p l e R s m args below meth c H locs cells slots Q (F0 m (pc + 1) ls (.int v :: rest))) : W p l e R s m args below meth c H locs cells slots Q (F0 m pc ls (.int x :: .ref a :: rest)) := by
  subst hx
  subst hv
  exact va_zald C.1 C.2.1 C.2.2.2.2.1.2 M.1 _ 2 (hZ_at hz) rfl hin hdg kk
theorem g_xiast (C : hC E A p s m c cc nL own) (M : hM E A s H locs σ Z) (z : Nat) {a k : Nat} {f : Nat → Int32} (hz : Z[z]? = some (a, .inl (E.2.1 0, k, .inl f))) {x v : Int32} (i : Nat) (hx : x.toNatClampNeg = i) (hin : vp_in x k) (hdg : decode cc pc = .ok (.iastore, 1))
    (kk : ∀ (H1 : Heap) (locs1 : List Loc), hM E A s H1 locs1 σ (Z.set z (a, .inl (E.2.1 0, k, .inl (upd f i v)))) → W p l e R s m args below meth c H1 locs1 cells slots Q (F0 m (pc + 1) ls rest)) : W p l e R s m args below meth c H locs cells slots Q (F0 m pc ls (.int v :: .int x :: .ref a :: rest)) := by
  subst hx
  exact va_iast C.1 C.2.1 C.2.2.2.2.1.2 M.1 M.2.1 M.2.2.1 _ 0 (hZ_at hz) rfl hin hdg (fun H1 locs1 a1 a2 a3 => by
    rw [hZ_set] at a1 a2
    exact kk H1 locs1 ⟨a1, a2, a3, M.2.2.2⟩)
theorem g_xzast (C : hC E A p s m c cc nL own) (M : hM E A s H locs σ Z) (z : Nat) {a k : Nat} {f : Nat → Int32} (hz : Z[z]? = some (a, .inl (E.2.1 2, k, .inl f))) {x v : Int32} (hv : v = 0 ∨ v = 1) (i : Nat) (hx : x.toNatClampNeg = i) (hin : vp_in x k) (hdg : decode cc pc = .ok (.bastore, 1))
    (kk : ∀ (H1 : Heap) (locs1 : List Loc), hM E A s H1 locs1 σ (Z.set z (a, .inl (E.2.1 2, k, .inl (upd f i v)))) → W p l e R s m args below meth c H1 locs1 cells slots Q (F0 m (pc + 1) ls rest)) : W p l e R s m args below meth c H locs cells slots Q (F0 m pc ls (.int v :: .int x :: .ref a :: rest)) := by
  subst hx
  have hvv : vp_nar .boolean v = v := by rcases hv with rfl | rfl <;> rfl
  exact va_zast C.1 C.2.1 C.2.2.2.2.1.2 M.1 M.2.1 M.2.2.1 _ 2 (hZ_at hz) rfl hin hdg (fun H1 locs1 a1 a2 a3 => by
    rw [hvv, hZ_set] at a1 a2
    exact kk H1 locs1 ⟨a1, a2, a3, M.2.2.2⟩)
/-- the last of them is forgotten -/
theorem hM.drop {x : va_W} (M : hM E A s H locs σ (Z ++ x)) : hM E A s H locs σ Z := by
  obtain ⟨h1, h2, h3, h4⟩ := M
  rw [← List.append_assoc] at h1 h2
  refine ⟨fun k q hk => ?_, ⟨fun i j a b hi hj => ?_, fun k q hk => ?_⟩, h3, h4⟩
  · have hl := (List.getElem?_eq_some_iff.mp hk).1
    exact h1 k q (by rw [List.getElem?_append_left hl]; exact hk)
  · have hl := (List.getElem?_eq_some_iff.mp hi).1
    have hl2 := (List.getElem?_eq_some_iff.mp hj).1
    exact h2.1 i j a b (by rw [List.getElem?_append_left hl]; exact hi) (by rw [List.getElem?_append_left hl2]; exact hj)
  · have hl := (List.getElem?_eq_some_iff.mp hk).1
    exact h2.2 k q (by rw [List.getElem?_append_left hl]; exact hk)
theorem g_newi (C : hC E A p s m c cc nL own) (M : hM E A s H locs σ Z) {x : Int32} {k : Nat} (hw : Cond.arrayClass .int ∈ lw_tbl) (hn : ¬ x < 0) (hN : x.toNatClampNeg = k) (hk : k ≤ 1000) (hcells : cells + 1 ≤ R.cells) (hslots : slots + k ≤ R.slots) (hdg : decode cc pc = .ok (.newarray .int, 2))
    (kk : ∀ (a : Nat) (H1 : Heap), hM E A s H1 locs σ (Z ++ [(a, .inl (E.2.1 0, k, .inl (fun _ => 0)))]) → W p l e R s m args below meth c H1 locs (cells + 1) (slots + k) Q (F0 m (pc + 2) ls (.ref a :: rest))) : W p l e R s m args below meth c H locs cells slots Q (F0 m pc ls (.int x :: rest)) := by
  refine va_newaK C.1 C.2.1 (atype := .int) (C.2.2.2.2.1.1.use hw rfl) rfl hdg rfl hn hN (by show k * 4 ≤ _; omega) hcells hslots rfl (fun H' cA e1 e2 e3 e4 e5 => ?_)
  have hRA := (C.2.2.2.2.1.2.2 0 _ (show (hTys E)[0]? = some (E.2.1 0, .int) from rfl)).2
  have hcA : cA = E.2.1 0 := Option.some.inj (e5.symm.trans hRA)
  subst hcA
  obtain ⟨h1, h2, h3, h4⟩ := M
  have hP0 : va_P E.1 vwCl (hW E σ ++ Z) H' := h1.kept (fun k9 q hq => e3 q.1 ((h1 k9 q hq).lt))
  refine kk H.size H' ⟨?_, ?_, ⟨by rw [e2]; exact Nat.le_succ_of_le h3.1, fun q a b => by rw [e3 q (Nat.lt_of_lt_of_le a h3.1)]; exact h3.2.1 q a b, h3.2.2⟩, h4⟩
  · rw [← List.append_assoc]
    refine hP0.app (fun k9 q hq => ?_)
    have h0 : k9 < 1 := (List.getElem?_eq_some_iff.mp hq).1
    rw [show k9 = 0 by omega] at hq
    cases hq
    exact e1
  · rw [← List.append_assoc]
    exact h2.push h1 rfl (h4 _ h3.1)
theorem g_newz (C : hC E A p s m c cc nL own) (M : hM E A s H locs σ Z) {x : Int32} {k : Nat} (hw : Cond.arrayClass .boolean ∈ lw_tbl) (hn : ¬ x < 0) (hN : x.toNatClampNeg = k) (hk : k ≤ 1000) (hcells : cells + 1 ≤ R.cells) (hslots : slots + k ≤ R.slots) (hdg : decode cc pc = .ok (.newarray .boolean, 2))
    (kk : ∀ (a : Nat) (H1 : Heap), hM E A s H1 locs σ (Z ++ [(a, .inl (E.2.1 2, k, .inl (fun _ => 0)))]) → W p l e R s m args below meth c H1 locs (cells + 1) (slots + k) Q (F0 m (pc + 2) ls (.ref a :: rest))) : W p l e R s m args below meth c H locs cells slots Q (F0 m pc ls (.int x :: rest)) := by
  refine va_newaK C.1 C.2.1 (atype := .boolean) (C.2.2.2.2.1.1.use hw rfl) rfl hdg rfl hn hN (by show k * 1 ≤ _; omega) hcells hslots rfl (fun H' cA e1 e2 e3 e4 e5 => ?_)
  have hRA := (C.2.2.2.2.1.2.2 2 _ (show (hTys E)[2]? = some (E.2.1 2, .boolean) from rfl)).2
  have hcA : cA = E.2.1 2 := Option.some.inj (e5.symm.trans hRA)
  subst hcA
  obtain ⟨h1, h2, h3, h4⟩ := M
  have hP0 : va_P E.1 vwCl (hW E σ ++ Z) H' := h1.kept (fun k9 q hq => e3 q.1 ((h1 k9 q hq).lt))
  refine kk H.size H' ⟨?_, ?_, ⟨by rw [e2]; exact Nat.le_succ_of_le h3.1, fun q a b => by rw [e3 q (Nat.lt_of_lt_of_le a h3.1)]; exact h3.2.1 q a b, h3.2.2⟩, h4⟩
  · rw [← List.append_assoc]
    refine hP0.app (fun k9 q hq => ?_)
    have h0 : k9 < 1 := (List.getElem?_eq_some_iff.mp hq).1
    rw [show k9 = 0 by omega] at hq
    cases hq
    exact e1
  · rw [← List.append_assoc]
    exact h2.push h1 rfl (h4 _ h3.1)
end CALLS
