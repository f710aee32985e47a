/-! Constructors: a world that is still being made. -/
def nA2 (t : FieldType) (U : State) : Prop := (Cond.arrayOver (.array t)).before #[] U = true
theorem nA2.moved {t : FieldType} {u U : State} (hvm : u.vm.Alike U.vm) (h : nA2 t u) : nA2 t U := by
  obtain ⟨comp, c, k, h1, h2, h3, h4, h5⟩ := arrayOverA_spec h
  obtain ⟨k', hk', he⟩ := hvm.2.2 _ _ h3
  have hi : (U.vm.classes.findIdx? fun (x : Class) => match x.kind with | .array component _ => component == comp | _ => false) = some c := by
    rw [hvm.findIdx?_eq _ (fun _ => rfl)]
    exact h2
  have hkind : k'.kind = .array comp (.array t) := by rw [he]; exact h4
  have f1 : U.vm.findClass (FieldType.array t).toString = some comp := by rw [hvm.findClass]; exact h1
  have f2 : U.vm.findClass ("[" ++ (FieldType.array t).toString) = some c := by rw [hvm.findClass]; exact h5
  unfold nA2 Cond.before Cond.holds
  simp only [Cond.value]
  rw [f1, Option.bind_some]
  refine (congrArg (fun o : Option Nat => (o.bind (fun c => (U.vm.classes[c]?).map fun (k : Class) => match k.kind with | .array _ ty => decide (ty = FieldType.array t) && decide (U.vm.findClass ("[" ++ (FieldType.array t).toString) = some c) | _ => false) == some true)) hi).trans ?_
  simp [hk', hkind, f2]
def nAO (U : State) : Prop := va_AO "SalvageCourt$Law" U ∧ va_AO "SalvageCourt$Ship" U ∧ va_AO "SalvageCourt$Part" U ∧ nA2 .long U ∧ nA2 .int U
theorem nAO.moved {u U : State} (hvm : u.vm.Alike U.vm) (h : nAO u) : nAO U := ⟨h.1.moved hvm, h.2.1.moved hvm, h.2.2.1.moved hvm, h.2.2.2.1.moved hvm, h.2.2.2.2.moved hvm⟩
def kC (E : hEnv) (p : Program) (s : State) (m : MethodId) (c : Code) (cc : ByteArray) (nL : Nat) (own : String) : Prop :=
  p.tables.exec = Jvm.exec ∧ c.code = cc ∧ c.maxLocals = nL ∧ s.vm.findClass own = some m.cls ∧ hKS E s ∧ nAO s
def nM (E : hEnv) (A : Nat → Prop) (s : State) (H : Heap) (locs : List Loc) (ws : va_W) : Prop :=
  va_P E.1 vwCl ws H ∧ va_D A ws ∧ va_S A s.heap H locs ∧ ∀ q, s.heap.size ≤ q → A q
theorem nL_at {w0 L : va_W} {i : Nat} {x : Nat × va_E} (h : L[i]? = some x) : (w0 ++ L)[w0.length + i]? = some x := by
  rw [List.getElem?_append_right (Nat.le_add_right _ _), Nat.add_sub_cancel_left]
  exact h
theorem nL_set {w0 L : va_W} {i : Nat} {x : Nat × va_E} : (w0 ++ L).set (w0.length + i) x = w0 ++ L.set i x := by
  rw [List.set_append_right _ _ (Nat.le_add_right _ _), Nat.add_sub_cancel_left]
theorem P_perm {D : va_G} {cl : List vw_C} {w w' : va_W} {H : Heap} (h : w.Perm w') (hP : va_P D cl w H) : va_P D cl w' H := fun k q hk => by
  obtain ⟨i, hi⟩ := List.getElem?_of_mem (h.mem_iff.mpr (List.mem_of_getElem? hk))
  exact hP i q hi
theorem D_nodup {A : Nat → Prop} {w : va_W} : va_D A w ↔ (w.map Prod.fst).Nodup ∧ ∀ x, x ∈ w → A x.1 := by
  constructor
  · rintro ⟨h1, h2⟩
    refine ⟨?_, fun x hx => ?_⟩
    · unfold List.Nodup
      rw [List.pairwise_iff_getElem]
      intro i j hi hj hij e
      rw [List.length_map] at hi hj
      rw [List.getElem_map, List.getElem_map] at e
      have := h1 i j w[i] w[j] (List.getElem?_eq_getElem hi) (List.getElem?_eq_getElem hj) e
      omega
    · obtain ⟨k, hk⟩ := List.getElem?_of_mem hx
      exact h2 k x hk
  · rintro ⟨h1, h2⟩
    refine ⟨fun i j a b hi hj e => ?_, fun k q hk => h2 q (List.mem_of_getElem? hk)⟩
    obtain ⟨li, ei⟩ := List.getElem?_eq_some_iff.mp hi
    obtain ⟨lj, ej⟩ := List.getElem?_eq_some_iff.mp hj
    unfold List.Nodup at h1
    rw [List.pairwise_iff_getElem] at h1
    rcases Nat.lt_trichotomy i j with q | q | q
    · exact absurd (show (w.map Prod.fst)[i]'(by rw [List.length_map]; exact li) = (w.map Prod.fst)[j]'(by rw [List.length_map]; exact lj) by rw [List.getElem_map, List.getElem_map, ei, ej]; exact e) (h1 i j _ _ q)
    · exact q
    · exact absurd (show (w.map Prod.fst)[j]'(by rw [List.length_map]; exact lj) = (w.map Prod.fst)[i]'(by rw [List.length_map]; exact li) by rw [List.getElem_map, List.getElem_map, ei, ej]; exact e.symm) (h1 j i _ _ q)
theorem D_perm {A : Nat → Prop} {w w' : va_W} (h : w.Perm w') (hD : va_D A w) : va_D A w' := by
  rw [D_nodup] at hD ⊢
  exact ⟨((h.map Prod.fst).nodup_iff).mp hD.1, fun x hx => hD.2 x (h.mem_iff.mpr hx)⟩
theorem nM.perm {E : hEnv} {A : Nat → Prop} {s : State} {H : Heap} {locs : List Loc} {w w' : va_W} (M : nM E A s H locs w) (h : w.Perm w') : nM E A s H locs w' := ⟨P_perm h M.1, D_perm h M.2.1, M.2.2⟩
theorem n_bury {E : hEnv} {A : Nat → Prop} {s : State} {H : Heap} {locs : List Loc} {w0 L N : va_W} (M : nM E A s H locs ((w0 ++ L) ++ N)) : nM E A s H locs ((w0 ++ N) ++ L) := M.perm (by rw [List.append_assoc, List.append_assoc]; exact List.Perm.append_left w0 List.perm_append_comm)
theorem nM.free {E : hEnv} {A : Nat → Prop} {s : State} {H : Heap} {locs : List Loc} {ws : va_W} (M : nM E A s H locs ws) : ∀ q, va_A ws H.size q → A q := by
  intro q h
  rcases h with ⟨k, e, h⟩ | h
  · exact M.2.1.2 k _ h
  · exact M.2.2.2 q (Nat.le_trans M.2.2.1.1 h)
def nPre (E : hEnv) (ws : va_W) (sz : Nat) (av : List Value) : Array Value → State → Prop := va_Pc av (fun U => U.heap.size = sz ∧ va_P E.1 vwCl ws U.heap ∧ va_D (fun _ => True) ws ∧ hKS E U ∧ nAO U)
def nPost (E : hEnv) (A : Nat → Prop) (ws : va_W) (t : State) : Prop := va_P E.1 vwCl ws t.heap ∧ va_D A ws
def nQ (E : hEnv) (Rr : va_W → Prop) : hQf := fun A => va_Qv Rr (nPost E A) A
def nMet (l : Launch) (y : MethodName) (bytes : ByteArray) (maxL : Nat) (rm : hRmT) (E : hEnv) (ws : va_W) (av : List Value) (Rr : va_W → Prop) : Prop :=
  ∀ sz : Nat, Met l y [.code y bytes maxL none] (hRm rm) (nPre E ws sz av) (nQ E Rr (va_A ws sz)) rm.2.1 rm.2.2.1 (va_A ws sz)
theorem nMet.of {l : Launch} {y : MethodName} {bytes : ByteArray} {maxL : Nat} {rm : hRmT} {E : hEnv} {ws : va_W} {av : List Value} {Rr : va_W → Prop} (hy : plainName y.cls = true) (hml0 : (lg_sl av).length ≤ maxL)
    (body : ∀ (p : Program) (e : Env) (s : State) (m : MethodId) (below : List Frame) (meth : Method) (c : Code) (A : Nat → Prop) (ls : Array Slot), kC E p s m c bytes maxL y.cls → nM E A s s.heap [] ws → meth.sig.returnType = none → meth.locks = false → meth.name = y.name → lv_has ls maxL (lv_args 0 av) →
      W p l e (hRm rm) s m av.toArray below meth c s.heap [] 0 0 (MQ below (nQ E Rr A) av.toArray s rm.2.1 rm.2.2.1 A) (F0 m 0 ls [])) : nMet l y bytes maxL rm E ws av Rr := by
  intro sz
  refine Met.ofW (cc := bytes) (maxL := maxL) (ret := none) hy rfl ?_
  intro p e s m args below meth c s₁ B hml hv
  obtain ⟨rfl, hsz, hP, hD0, hK, hO⟩ := hv
  have hown : s.vm.findClass y.cls = some m.cls := findClass_of_methodNamed B.named
  subst hsz
  have hD := hD0.self (sz := s.heap.size)
  rw [lg_entry_eq]
  exact body p e s m below meth c _ _ ⟨B.exec, B.bytes, hml, hown, hK, hO⟩ ⟨hP, hD, va_S.rf, fun q h => Or.inr h⟩ B.returns B.notSynchronized (name_of_methodNamed B.named B.method).1 (lv_entry av hml0)
theorem nPre.blind {E : hEnv} {ws : va_W} {sz : Nat} {av : List Value} : FrameBlind (nPre E ws sz av) := by
  intro a U g mk h
  obtain ⟨h0, h1, h2, h3, h4, h5⟩ := h
  have hW : U.WarmedH (U.calling g mk a).vm := State.WarmedH.refl U
  exact ⟨h0, h1, h2, h3, h4.warm hW, h5.moved hW.alike⟩
section NROWS
variable {p : Program} {l : Launch} {e : Env} {R : Room} {s : State} {m : MethodId} {args : Array Value} {below : List Frame} {meth : Method} {c : Code} {H : Heap} {locs : List Loc} {cells slots : Nat} {Q : State → Prop}
variable {cc : ByteArray} {pc nL : Nat} {ls : Array Slot} {rest : List Value} {E : hEnv} {A : Nat → Prop} {w0 L ws : va_W} {own : String}
variable {y : MethodName} {bytes : ByteArray} {maxL n idx : Nat} {rm : hRmT} {As st0 : List Value} {Rr : va_W → Prop}
theorem nPre.ok (C : kC E p s m c cc nL own) (M : nM E A s H locs ws) (av : List Value) : ∀ U : State, U.heap = H → s.WarmedH U.vm → nPre E ws H.size av av.toArray U := by
  intro U hU hW
  exact ⟨rfl, by rw [hU], by rw [hU]; exact M.1, M.2.1.weaken (fun _ _ _ _ => trivial), C.2.2.2.2.1.warm hW, C.2.2.2.2.2.moved hW.alike⟩
theorem nPay (C : kC E p s m c cc nL own) {ret : Option FieldType} (hcl : hCl y bytes maxL ret n) : ∀ w ∈ [Cond.code y bytes maxL ret], ∀ (a' : Array Value) (U : State), s.WarmedH U.vm → w.before a' U = true := by
  intro w hw a' U hW
  rw [List.mem_singleton.mp hw]
  exact word_at (args := #[]) hW (Or.inl rfl) (C.2.2.2.2.1.1.use hcl.1 rfl)
theorem n_after {t : State} {H1 : Heap} {locs1 : List Loc} {ws1 : va_W} (M : nM E A s H locs ws) (ht : t.heap = H1) (hB : nPost E (va_A ws H.size) ws1 t) (hS : va_S A s.heap H1 locs1) : nM E A s H1 locs1 ws1 :=
  ⟨by rw [← ht]; exact hB.1, hB.2.weaken (fun _ _ _ h => M.free _ h), hS, M.2.2.2⟩
theorem n_callI (C : kC E p s m c cc nL own) (M : nM E A s H locs ws) {b : Nat} (hm : nMet l y bytes maxL rm E ws (.ref b :: As) Rr) (hcl : hCl y bytes maxL none n) (im : Cond.instanceMethod y ∈ lw_tbl) (lk : hLk own idx y) (hy : y.name = "<init>") (hn : As.length = n) (hR : rm.1 + 1 ≤ R.frames ∧ 8 + (maxL + 11) + rm.2.2.2 ≤ R.locals) (hls : ls.size = nL) (hst : st0 = As.reverse ++ .ref b :: rest) (hrest : (rest.map fun v => v.category).sum ≤ 8) (hdg : decode cc pc = .ok (.invokespecial idx, 3)) (hcs : cells + rm.2.1 ≤ R.cells ∧ slots + rm.2.2.1 ≤ R.slots)
    (kk : ∀ (ws1 : va_W) (H1 : Heap) (locs1 : List Loc), Rr ws1 → nM E A s H1 locs1 ws1 → W p l e R s m args below meth c H1 locs1 (cells + rm.2.1) (slots + rm.2.2.1) Q (F0 m (pc + 3) ls rest)) : W p l e R s m args below meth c H locs cells slots Q (F0 m pc ls st0) := by
  have K := C.2.2.2.2.1.1
  have hfix : CallFix p m c cc nL s args [] own := ⟨C.1, C.2.1, C.2.2.1, C.2.2.2.1, fun w h => by cases h⟩
  have hpre : PreS s H (nPre E ws H.size (.ref b :: As)) (.ref b :: As) := ⟨nPre.blind, nPre.ok C M _⟩
  have hroom : 2 * (F0 m pc ls st0).monitorRoom + (rest.map fun v => v.category).sum ≤ 8 := lv_room hrest
  refine va_callv (post := Rr) (B := nPost E (va_A ws H.size)) (A1 := va_A ws H.size) (free := va_A ws H.size) (a := (Value.ref b :: As).toArray) ?_ M.2.2.1 (fun q _ h => M.free q h) M.free (fun u t H1 locs1 ht _ hp hB _ _ hS => kk u H1 locs1 hp (n_after M ht hB hS))
  rcases lk with lk | ⟨host, lk⟩
  · exact va_runI hfix (hm H.size) ⟨⟨rfl, rfl, hR.1, hR.2, nPay C hcl, List.mem_singleton.mpr rfl, K.use hcl.1 rfl, K.use hcl.2.1 rfl, hcl.2.2.1, hNp hcl, K.use lk rfl⟩, hy, K.use im rfl⟩ hpre rfl hn hls hst hroom hdg hcs
  · exact va_runIN hfix (hm H.size) ⟨⟨⟨rfl, rfl, hR.1, hR.2, nPay C hcl, List.mem_singleton.mpr rfl⟩, K.use hcl.1 rfl, K.use hcl.2.1 rfl, hcl.2.2.1, hNp hcl, K.use lk rfl⟩, hy, K.use im rfl⟩ hpre rfl hn hls hst hroom hdg hcs
theorem n_callS (C : kC E p s m c cc nL own) (M : nM E A s H locs ws) (hm : nMet l y bytes maxL rm E ws As Rr) (hcl : hCl y bytes maxL none n) (sm : Cond.static y ∈ lw_tbl) (lk : hLk own idx y) (hn : As.length = n) (hR : rm.1 + 1 ≤ R.frames ∧ 8 + (maxL + 11) + rm.2.2.2 ≤ R.locals) (hls : ls.size = nL) (hst : st0 = As.reverse ++ rest) (hrest : (rest.map fun v => v.category).sum ≤ 8) (hdg : decode cc pc = .ok (.invokestatic idx, 3)) (hcs : cells + rm.2.1 ≤ R.cells ∧ slots + rm.2.2.1 ≤ R.slots)
    (kk : ∀ (ws1 : va_W) (H1 : Heap) (locs1 : List Loc), Rr ws1 → nM E A s H1 locs1 ws1 → W p l e R s m args below meth c H1 locs1 (cells + rm.2.1) (slots + rm.2.2.1) Q (F0 m (pc + 3) ls rest)) : W p l e R s m args below meth c H locs cells slots Q (F0 m pc ls st0) := by
  have K := C.2.2.2.2.1.1
  have hfix : CallFix p m c cc nL s args [] own := ⟨C.1, C.2.1, C.2.2.1, C.2.2.2.1, fun w h => by cases h⟩
  have hpre : PreS s H (nPre E ws H.size As) As := ⟨nPre.blind, nPre.ok C M _⟩
  have hroom : 2 * (F0 m pc ls st0).monitorRoom + (rest.map fun v => v.category).sum ≤ 8 := lv_room hrest
  refine va_callv (post := Rr) (B := nPost E (va_A ws H.size)) (A1 := va_A ws H.size) (free := va_A ws H.size) (a := As.toArray) ?_ M.2.2.1 (fun q _ h => M.free q h) M.free (fun u t H1 locs1 ht _ hp hB _ _ hS => kk u H1 locs1 hp (n_after M ht hB hS))
  rcases lk with lk | ⟨host, lk⟩
  · exact va_runS hfix (hm H.size) ⟨⟨rfl, rfl, hR.1, hR.2, nPay C hcl, List.mem_singleton.mpr rfl, K.use hcl.1 rfl, K.use hcl.2.1 rfl, hcl.2.2.1, hNp hcl, K.use lk rfl⟩, K.use sm rfl⟩ hpre rfl hn hls hst hroom hdg hcs
  · exact va_runSN hfix (hm H.size) ⟨⟨⟨rfl, rfl, hR.1, hR.2, nPay C hcl, List.mem_singleton.mpr rfl⟩, K.use hcl.1 rfl, K.use hcl.2.1 rfl, hcl.2.2.1, hNp hcl, K.use lk rfl⟩, K.use sm rfl, trivial⟩ hpre rfl hn hls hst hroom hdg hcs
theorem n_vret {mc ms : Nat} (C : kC E p s m c cc nL own) (M : nM E A s H locs ws) (hr : meth.sig.returnType = none) (hlk : meth.locks = false) (hR : Rr ws) (hc : cells ≤ mc) (hs : slots ≤ ms) (hdg : decode cc pc = .ok (.return_, 1)) : W p l e R s m args below meth c H locs cells slots (MQ below (nQ E Rr A) args s mc ms A) (F0 m pc ls []) :=
  W.widen hc hs (W.vret C.1 C.2.1 hr (fun t ht _ => ⟨⟨ws, rfl, hR, by rw [ht]; exact M.1, M.2.1⟩, M.2.2.1.F ht⟩) M.2.2.1.2.2 hdg hlk)
theorem n_obj (C : kC E p s m c cc nL own) {a : Nat} (hw : Cond.methodLink own idx objectInit ∈ lw_tbl) (hls : ls.size = nL) (hf : 1 ≤ R.frames) (hlo : 20 ≤ R.locals) (hrest : (rest.map fun v => v.category).sum ≤ 8) (hdg : decode cc pc = .ok (.invokespecial idx, 3))
    (kk : W p l e R s m args below meth c H locs cells slots Q (F0 m (pc + 3) ls rest)) : W p l e R s m args below meth c H locs cells slots Q (F0 m pc ls (.ref a :: rest)) := by
  have K := C.2.2.2.2.1.1
  have hroom : 2 * (F0 m pc ls (.ref a :: rest)).monitorRoom + (rest.map fun v => v.category).sum ≤ 8 := lv_room hrest
  exact W.objInit C.1 C.2.1 C.2.2.2.1 (K.use hw rfl) (K.use im_obj rfl) (K.use co_obj rfl) rfl (by rw [C.2.2.1]; exact hls) rfl hdg hf (by omega) kk
theorem n_new (C : kC E p s m c cc nL own) (M : nM E A s H locs (w0 ++ L)) {ci N : Nat} {K : String} {T : u_T} (hc : vwCl[ci]? = some (K, T, N)) (h1 : Cond.classLink own idx K ∈ lw_tbl) (h2 : Cond.instantiable K N ∈ lw_tbl) (h3 : Cond.initialized K ∈ lw_tbl) (fs : List Value) (hfs : ∀ j, j < N → defaultValue (hTyOf ci j) = vp_V fs j) (hcells : cells + 1 ≤ R.cells) (hslots : slots + N ≤ R.slots) (hdg : decode cc pc = .ok (.new idx, 3))
    (kk : ∀ (q : Nat) (H1 : Heap), nM E A s H1 locs (w0 ++ (L ++ [(q, .inr (ci, fs))])) → W p l e R s m args below meth c H1 locs (cells + 1) (slots + N) Q (F0 m (pc + 3) ls (.ref q :: rest))) : W p l e R s m args below meth c H locs cells slots Q (F0 m pc ls rest) := by
  obtain ⟨g1, g2, g3⟩ := hCls hc
  obtain ⟨hP, hD, hS, hA⟩ := M
  have Kt := C.2.2.2.2.1.1
  exact va_new C.1 C.2.1 (fun w h => Kt.use (g1 w h).1 (g1 w h).2) (fun w h => h) _ g2 C.2.2.2.1 (Kt.use h1 rfl) (Kt.use h2 rfl) (Kt.use h3 rfl) C.2.2.2.2.1.2 hP hD hS hA hc hfs hcells hslots hdg (fun q H1 a1 a2 a3 => kk q H1 ⟨by rw [← List.append_assoc]; exact a1, by rw [← List.append_assoc]; exact a2, a3, hA⟩)
theorem n_put (C : kC E p s m c cc nL own) (hin : meth.name = "<init>") (M : nM E A s H locs (w0 ++ L)) (i : Nat) {a ci : Nat} {fs : List Value} (he : L[i]? = some (a, .inr (ci, fs))) {K : String} {T : u_T} {N : Nat} (hc : vwCl[ci]? = some (K, T, N)) (k : Nat) (hk : k < N) (hw : Cond.fieldLink own idx (T k).1 (T k).2.1 (T k).2.2.1 ∈ lw_tbl) (hdecl : (T k).1 = own) {v : Value} (hn : narrow (hTyOf ci k) v = v) (hf : fits (hTyOf ci k) v = true) (hl : k < fs.length) (hdg : decode cc pc = .ok (.putfield idx, 3))
    (kk : ∀ (H1 : Heap) (locs1 : List Loc), nM E A s H1 locs1 (w0 ++ L.set i (a, .inr (ci, fs.set k v))) → W p l e R s m args below meth c H1 locs1 cells slots Q (F0 m (pc + 3) ls rest)) : W p l e R s m args below meth c H locs cells slots Q (F0 m pc ls (v :: .ref a :: rest)) := by
  obtain ⟨g1, g2, g3⟩ := hCls hc
  obtain ⟨hP, hD, hS, hA⟩ := M
  have Kt := C.2.2.2.2.1.1
  have kk2 : ∀ (H1 : Heap) (locs1 : List Loc), va_P E.1 vwCl ((w0 ++ L).set (w0.length + i) (a, .inr (ci, fs.set k v))) H1 → va_D A ((w0 ++ L).set (w0.length + i) (a, .inr (ci, fs.set k v))) → va_S A s.heap H1 locs1 → W p l e R s m args below meth c H1 locs1 cells slots Q (F0 m (pc + 3) ls rest) := by
    intro H1 locs1 a1 a2 a3
    rw [nL_set] at a1 a2
    exact kk H1 locs1 ⟨a1, a2, a3, hA⟩
  cases hfin : (T k).2.2.2 with
  | true => exact va_putF C.1 C.2.1 (fun w h => Kt.use (g1 w h).1 (g1 w h).2) (fun w h => h) _ g2 g3 C.2.2.2.1 C.2.2.2.2.1.2 hP hD hS _ (nL_at he) hc k hk (Kt.use hw rfl) (fun _ h => h) hfin hin hdecl (g2 k hk) hn hf hl hdg kk2
  | false => exact va_put C.1 C.2.1 (fun w h => Kt.use (g1 w h).1 (g1 w h).2) (fun w h => h) _ g2 g3 C.2.2.2.1 C.2.2.2.2.1.2 hP hD hS _ (nL_at he) hc k hk (Kt.use hw rfl) (fun _ h => h) hfin (g2 k hk) hn hf hl hdg kk2
theorem n_get (C : kC E p s m c cc nL own) (M : nM E A s H locs (w0 ++ L)) (i : Nat) {a ci : Nat} {fs : List Value} (he : L[i]? = some (a, .inr (ci, fs))) {K : String} {T : u_T} {N : Nat} (hc : vwCl[ci]? = some (K, T, N)) (k : Nat) (hk : k < N) (hw : Cond.fieldLink own idx (T k).1 (T k).2.1 (T k).2.2.1 ∈ lw_tbl) {v : Value} (hv : fs[k]? = some v) (hdg : decode cc pc = .ok (.getfield idx, 3))
    (kk : W p l e R s m args below meth c H locs cells slots Q (F0 m (pc + 3) ls (v :: rest))) : W p l e R s m args below meth c H locs cells slots Q (F0 m pc ls (.ref a :: rest)) := by
  obtain ⟨g1, g2, g3⟩ := hCls hc
  have Kt := C.2.2.2.2.1.1
  exact va_get C.1 C.2.1 (fun w h => Kt.use (g1 w h).1 (g1 w h).2) (fun w h => h) C.2.2.2.1 C.2.2.2.2.1.2 M.1 _ (nL_at he) hc k hk (Kt.use hw rfl) (fun _ h => h) hv hdg kk
theorem n_iast (C : kC E p s m c cc nL own) (M : nM E A s H locs (w0 ++ L)) (i : Nat) {a k : Nat} {f : Nat → Int32} (he : L[i]? = some (a, .inl (E.2.1 0, k, .inl f))) {x v : Int32} (j : Nat) (hx : x.toNatClampNeg = j) (hin : vp_in x k) (hdg : decode cc pc = .ok (.iastore, 1))
    (kk : ∀ (H1 : Heap) (locs1 : List Loc), nM E A s H1 locs1 (w0 ++ L.set i (a, .inl (E.2.1 0, k, .inl (upd f j v)))) → W p l e R s m args below meth c H1 locs1 cells slots Q (F0 m (pc + 1) ls rest)) : W p l e R s m args below meth c H locs cells slots Q (F0 m pc ls (.int v :: .int x :: .ref a :: rest)) := by
  subst hx
  obtain ⟨hP, hD, hS, hA⟩ := M
  exact va_iast C.1 C.2.1 C.2.2.2.2.1.2 hP hD hS _ 0 (nL_at he) rfl hin hdg (fun H1 locs1 a1 a2 a3 => by
    rw [nL_set] at a1 a2
    exact kk H1 locs1 ⟨a1, a2, a3, hA⟩)
theorem n_alen (C : kC E p s m c cc nL own) (M : nM E A s H locs (w0 ++ L)) (i : Nat) {a k : Nat} {f : Nat → Int32} (he : L[i]? = some (a, .inl (E.2.1 0, k, .inl f))) (hdg : decode cc pc = .ok (.arraylength, 1))
    (kk : W p l e R s m args below meth c H locs cells slots Q (F0 m (pc + 1) ls (.int (nI k) :: rest))) : W p l e R s m args below meth c H locs cells slots Q (F0 m pc ls (.ref a :: rest)) :=
  va_alen C.1 C.2.1 C.2.2.2.2.1.2 M.1 _ 0 (nL_at he) rfl rfl hdg kk
theorem n_astq (C : kC E p s m c cc nL own) (M : nM E A s H locs (w0 ++ L)) (i j t : Nat) {a b k ci N : Nat} {K : String} {T : u_T} {fs : List Value} {f : Nat → Option Nat} (he : L[i]? = some (a, .inl (E.2.1 t, k, .inr (.inr (.inr (.inr f)))))) (ht : (hTys E)[t]? = some (E.2.1 t, .object K)) (hv : (w0 ++ L)[j]? = some (b, .inr (ci, fs))) (hc : vwCl[ci]? = some (K, T, N)) {x : Int32} (hin : vp_in x k) (hdg : decode cc pc = .ok (.aastore, 1))
    (kk : ∀ (H1 : Heap) (locs1 : List Loc), nM E A s H1 locs1 (w0 ++ L.set i (a, .inl (E.2.1 t, k, .inr (.inr (.inr (.inr (va_up f x.toNatClampNeg (some b)))))))) → W p l e R s m args below meth c H1 locs1 cells slots Q (F0 m (pc + 1) ls rest)) : W p l e R s m args below meth c H locs cells slots Q (F0 m pc ls (.ref b :: .int x :: .ref a :: rest)) := by
  obtain ⟨hP, hD, hS, hA⟩ := M
  exact va_astq C.1 C.2.1 C.2.2.2.2.1.2 hP hD hS _ t j ci (nL_at he) ht hv hc hin hdg (fun H1 locs1 a1 a2 a3 => by
    rw [nL_set] at a1 a2
    exact kk H1 locs1 ⟨a1, a2, a3, hA⟩)
/-- a new array of numbers -/
theorem n_arr (C : kC E p s m c cc nL own) (M : nM E A s H locs (w0 ++ L)) {atype : ArrayType} {x : Int32} {k t : Nat} {a0 : vp_A} (hw : Cond.arrayClass (newarray.typeOf atype) ∈ lw_tbl) (hRA : s.vm.findClass ("[" ++ (newarray.typeOf atype).toString) = some (E.2.1 t)) (ha : vp_cell (E.2.1 t) a0 = arrV (E.2.1 t) k (fun _ => defaultValue (newarray.typeOf atype))) (hn : ¬ x < 0) (hN : x.toNatClampNeg = k) (hb : k * componentBytes (newarray.typeOf atype) ≤ 536870912) (hcells : cells + 1 ≤ R.cells) (hslots : slots + k ≤ R.slots) (hdg : decode cc pc = .ok (.newarray atype, 2))
    (kk : ∀ (a : Nat) (H1 : Heap), nM E A s H1 locs (w0 ++ (L ++ [(a, .inl (E.2.1 t, a0))])) → W p l e R s m args below meth c H1 locs (cells + 1) (slots + k) Q (F0 m (pc + 2) ls (.ref a :: rest))) : W p l e R s m args below meth c H locs cells slots Q (F0 m pc ls (.int x :: rest)) := by
  refine va_newaK C.1 C.2.1 (atype := atype) (C.2.2.2.2.1.1.use hw rfl) rfl hdg rfl hn hN hb hcells hslots rfl (fun H' cA e1 e2 e3 e4 e5 => ?_)
  have hcA : cA = E.2.1 t := Option.some.inj (e5.symm.trans hRA)
  subst hcA
  obtain ⟨h1, h2, h3, h4⟩ := M
  have hP0 : va_P E.1 vwCl (w0 ++ L) H' := h1.kept (fun k9 q hq => e3 q.1 ((h1 k9 q hq).lt))
  refine kk H.size H' ⟨?_, ?_, ⟨by rw [e2]; exact Nat.le_succ_of_le h3.1, fun q a b => by rw [e3 q (Nat.lt_of_lt_of_le a h3.1)]; exact h3.2.1 q a b, h3.2.2⟩, h4⟩
  · rw [← List.append_assoc]
    refine hP0.app (fun k9 q hq => ?_)
    have h0 : k9 < 1 := (List.getElem?_eq_some_iff.mp hq).1
    rw [show k9 = 0 by omega] at hq
    cases hq
    show H'[H.size]? = some (vp_cell (E.2.1 t) a0)
    rw [ha]
    exact e1
  · rw [← List.append_assoc]
    exact h2.push h1 rfl (h4 _ h3.1)
theorem n_ari (C : kC E p s m c cc nL own) (M : nM E A s H locs (w0 ++ L)) {x : Int32} {k : Nat} (hn : ¬ x < 0) (hN : x.toNatClampNeg = k) (hk : k ≤ 1000) (hcells : cells + 1 ≤ R.cells) (hslots : slots + k ≤ R.slots) (hdg : decode cc pc = .ok (.newarray .int, 2))
    (kk : ∀ (a : Nat) (H1 : Heap), nM E A s H1 locs (w0 ++ (L ++ [(a, .inl (E.2.1 0, k, .inl (fun _ => 0)))])) → W p l e R s m args below meth c H1 locs (cells + 1) (slots + k) Q (F0 m (pc + 2) ls (.ref a :: rest))) : W p l e R s m args below meth c H locs cells slots Q (F0 m pc ls (.int x :: rest)) :=
  n_arr C M (atype := .int) ac_int (C.2.2.2.2.1.2.2 0 _ (show (hTys E)[0]? = some (E.2.1 0, .int) from rfl)).2 rfl hn hN (by show k * 4 ≤ _; omega) hcells hslots hdg kk
theorem n_arj (C : kC E p s m c cc nL own) (M : nM E A s H locs (w0 ++ L)) {x : Int32} {k : Nat} (hn : ¬ x < 0) (hN : x.toNatClampNeg = k) (hk : k ≤ 1000) (hcells : cells + 1 ≤ R.cells) (hslots : slots + k ≤ R.slots) (hdg : decode cc pc = .ok (.newarray .long, 2))
    (kk : ∀ (a : Nat) (H1 : Heap), nM E A s H1 locs (w0 ++ (L ++ [(a, .inl (E.2.1 1, k, .inr (.inl (fun _ => 0))))])) → W p l e R s m args below meth c H1 locs (cells + 1) (slots + k) Q (F0 m (pc + 2) ls (.ref a :: rest))) : W p l e R s m args below meth c H locs cells slots Q (F0 m pc ls (.int x :: rest)) :=
  n_arr C M (atype := .long) ac_long (C.2.2.2.2.1.2.2 1 _ (show (hTys E)[1]? = some (E.2.1 1, .long) from rfl)).2 rfl hn hN (by show k * 8 ≤ _; omega) hcells hslots hdg kk
theorem n_arz (C : kC E p s m c cc nL own) (M : nM E A s H locs (w0 ++ L)) {x : Int32} {k : Nat} (hn : ¬ x < 0) (hN : x.toNatClampNeg = k) (hk : k ≤ 1000) (hcells : cells + 1 ≤ R.cells) (hslots : slots + k ≤ R.slots) (hdg : decode cc pc = .ok (.newarray .boolean, 2))
    (kk : ∀ (a : Nat) (H1 : Heap), nM E A s H1 locs (w0 ++ (L ++ [(a, .inl (E.2.1 2, k, .inl (fun _ => 0)))])) → W p l e R s m args below meth c H1 locs (cells + 1) (slots + k) Q (F0 m (pc + 2) ls (.ref a :: rest))) : W p l e R s m args below meth c H locs cells slots Q (F0 m pc ls (.int x :: rest)) :=
  n_arr C M (atype := .boolean) ac_boolean (C.2.2.2.2.1.2.2 2 _ (show (hTys E)[2]? = some (E.2.1 2, .boolean) from rfl)).2 rfl hn hN (by show k * 1 ≤ _; omega) hcells hslots hdg kk
theorem n_arb (C : kC E p s m c cc nL own) (M : nM E A s H locs (w0 ++ L)) {x : Int32} {k : Nat} (hn : ¬ x < 0) (hN : x.toNatClampNeg = k) (hk : k ≤ 1000) (hcells : cells + 1 ≤ R.cells) (hslots : slots + k ≤ R.slots) (hdg : decode cc pc = .ok (.newarray .byte, 2))
    (kk : ∀ (a : Nat) (H1 : Heap), nM E A s H1 locs (w0 ++ (L ++ [(a, .inl (E.2.1 3, k, .inl (fun _ => 0)))])) → W p l e R s m args below meth c H1 locs (cells + 1) (slots + k) Q (F0 m (pc + 2) ls (.ref a :: rest))) : W p l e R s m args below meth c H locs cells slots Q (F0 m pc ls (.int x :: rest)) :=
  n_arr C M (atype := .byte) ac_byte (C.2.2.2.2.1.2.2 3 _ (show (hTys E)[3]? = some (E.2.1 3, .byte) from rfl)).2 rfl hn hN (by show k * 1 ≤ _; omega) hcells hslots hdg kk
/-- a new array of references to objects -/
theorem n_arq (C : kC E p s m c cc nL own) (M : nM E A s H locs (w0 ++ L)) {K : String} (t : Nat) (ht : (hTys E)[t]? = some (E.2.1 t, .object K)) (hov : va_AO K s) (hw : Cond.classLink own idx K ∈ lw_tbl) {x : Int32} {k : Nat} (hn : ¬ x < 0) (hN : x.toNatClampNeg = k) (hk : k ≤ 1000) (hcells : cells + 1 ≤ R.cells) (hslots : slots + k ≤ R.slots) (hdg : decode cc pc = .ok (.anewarray idx, 3))
    (kk : ∀ (a : Nat) (H1 : Heap), nM E A s H1 locs (w0 ++ (L ++ [(a, .inl (E.2.1 t, k, .inr (.inr (.inr (.inr (fun _ => none))))))])) → W p l e R s m args below meth c H1 locs (cells + 1) (slots + k) Q (F0 m (pc + 3) ls (.ref a :: rest))) : W p l e R s m args below meth c H locs cells slots Q (F0 m pc ls (.int x :: rest)) := by
  obtain ⟨hP, hD, hS, hA⟩ := M
  refine va_newq C.1 C.2.1 C.2.2.2.1 (C.2.2.2.2.1.1.use hw rfl) hov C.2.2.2.2.1.2 hP hD hS hA hn hN (by omega) hcells hslots hdg (fun q cA H1 hK1 a1 a2 a3 => ?_)
  have hl : (hTys E).length = 9 := rfl
  have r1 := (hK1.2 9 (cA, .object K) (by rw [List.getElem?_append_right (by omega), hl]; rfl)).2
  have r2 := (C.2.2.2.2.1.2.2 t _ ht).2
  obtain ⟨_, _, _, _, _, r1⟩ := r1
  obtain ⟨_, _, _, _, _, r2⟩ := r2
  have hcA : cA = E.2.1 t := Option.some.inj (r1.symm.trans r2)
  subst hcA
  exact kk q H1 ⟨by rw [← List.append_assoc]; exact a1, by rw [← List.append_assoc]; exact a2, a3, hA⟩
/-- rows of rows -/
def wRows (cA cB : ClassId) (q N M : Nat) (a0 : (Nat → Int32) ⊕ (Nat → Int64) ⊕ (Nat → UInt32) ⊕ (Nat → UInt64) ⊕ (Nat → Option Nat)) : va_W := (q, .inl (cA, hRefs N (fun x => q + 1 + x))) :: (List.range N).map (fun i => (q + 1 + i, .inl (cB, M, a0)))
theorem outer_eq (cA : ClassId) (N h0 : Nat) : Jvm.Free.Multi.outerC cA N h0 N = vp_cell cA (hRefs N (fun x => h0 + 1 + x)) := by
  rw [vp_cell_q]
  have key : ∀ i, i ≤ N → Jvm.Free.Multi.outerC cA N h0 i = arrV cA N (fun j => if j < i then .ref (h0 + 1 + j) else .null) := by
    intro i
    induction i with
    | zero =>
      intro _
      show ({ cls := cA, slots := Array.replicate N .null, vm := .none } : Cell) = _
      rw [arrV_new]
      congr 1
    | succ i ih =>
      intro hi
      show (Jvm.Free.Multi.outerC cA N h0 i).setSlot i (.ref (h0 + 1 + i)) = _
      rw [ih (by omega), arrV_store]
      congr 1
      funext j
      unfold updV
      by_cases e : j = i
      · subst e
        simp
      · by_cases q : j < i
        · simp [e, q, show j < i + 1 by omega]
        · simp [e, q, show ¬ j < i + 1 by omega]
  rw [key N (Nat.le_refl _)]
  congr 1
  funext j
  by_cases q : j < N <;> simp [q, va_rf]
theorem n_multi (C : kC E p s m c cc nL own) (M : nM E A s H locs (w0 ++ L)) {ty : FieldType} (t u : Nat) (hA2 : nA2 ty s) (hw : Cond.classLink own idx ("[" ++ (FieldType.array ty).toString) ∈ lw_tbl) (hac : Cond.arrayClass ty ∈ lw_tbl) (hct : s.vm.findClass ("[" ++ (FieldType.array ty).toString) = some (E.2.1 t)) (hcu : s.vm.findClass (FieldType.array ty).toString = some (E.2.1 u)) (hdf : fits ty (defaultValue ty) = true) (hdd : (defaultValue ty).isDefault = true) {a0 : (Nat → Int32) ⊕ (Nat → Int64) ⊕ (Nat → UInt32) ⊕ (Nat → UInt64) ⊕ (Nat → Option Nat)} {x y9 : Int32} {N M9 : Nat} (ha : vp_cell (E.2.1 u) (M9, a0) = arrV (E.2.1 u) M9 (fun _ => defaultValue ty)) (hn : ¬ x < 0) (hN : x.toNatClampNeg = N) (hN1 : N ≤ 1000) (hm : ¬ y9 < 0) (hM : y9.toNatClampNeg = M9) (hM1 : M9 ≤ 1000) (hcb : componentBytes ty ≤ 8) (hcells : cells + (1 + N) ≤ R.cells) (hslots : slots + (N + N * M9) ≤ R.slots) (hdg : decode cc pc = .ok (.multianewarray idx 2, 4))
    (kk : ∀ (a : Nat) (H1 : Heap), nM E A s H1 locs (w0 ++ (L ++ wRows (E.2.1 t) (E.2.1 u) a N M9 a0)) → W p l e R s m args below meth c H1 locs (cells + 1 + N) (slots + N + N * M9) Q (F0 m (pc + 4) ls (.ref a :: rest))) : W p l e R s m args below meth c H locs cells slots Q (F0 m pc ls (.int y9 :: .int x :: rest)) := by
  subst hN
  subst hM
  intro T hT X
  have K := C.2.2.2.2.1.1
  have hbb : y9.toNatClampNeg * componentBytes ty ≤ 1000 * 8 := Nat.mul_le_mul hM1 hcb
  obtain ⟨vm₁, cA, comp, hW, hfA, hfC, hO, hI, X1, step⟩ := X.multianewarray2F (own := own) (index := idx) (ty := ty) (g := F0 m pc ls (.int y9 :: .int x :: rest)) (n := x) (k := y9) (rest := rest) C.1 C.2.2.2.1 (K.use hw rfl) hA2 (K.use hac rfl) rfl (by rw [C.2.1]; exact hdg) rfl hn hm (by omega) (by omega) (by omega) hdf hdd hcells hslots
  have ec1 : cA = E.2.1 t := Option.some.inj (hfA.symm.trans hct)
  have ec2 : comp = E.2.1 u := Option.some.inj (hfC.symm.trans hcu)
  subst ec1
  subst ec2
  subst hT
  obtain ⟨h1, h2, h3, h4⟩ := M
  generalize hF : Jvm.Free.Multi.fill (T.setVm vm₁) (E.2.1 t) (E.2.1 u) x.toNatClampNeg y9.toNatClampNeg (defaultValue ty) x.toNatClampNeg = T1 at X1 step
  have e0 : (T.setVm vm₁).heap = T.heap := rfl
  obtain ⟨f1, f2, f3, f4⟩ := Jvm.Free.Multi.fill_facts (T.setVm vm₁) (E.2.1 t) (E.2.1 u) x.toNatClampNeg y9.toNatClampNeg (defaultValue ty) x.toNatClampNeg
  have fo : ∀ q, q < T.heap.size → T1.heap[q]? = T.heap[q]? := fun q hq => by
    rw [← hF]
    exact Jvm.Free.Multi.fill_old (T.setVm vm₁) (E.2.1 t) (E.2.1 u) x.toNatClampNeg y9.toNatClampNeg (defaultValue ty) hq _
  have fi : ∀ j, j < x.toNatClampNeg → T1.heap[T.heap.size + 1 + j]? = some (vp_cell (E.2.1 u) (y9.toNatClampNeg, a0)) := fun j hj => by
    rw [← hF, ha, ← arrV_new]
    exact Jvm.Free.Multi.fill_inner (T.setVm vm₁) (E.2.1 t) (E.2.1 u) x.toNatClampNeg y9.toNatClampNeg (defaultValue ty) _ j hj
  rw [hF, e0] at f1 f2
  rw [outer_eq] at f2
  have hmem : ∀ z, z ∈ wRows (E.2.1 t) (E.2.1 u) T.heap.size x.toNatClampNeg y9.toNatClampNeg a0 → z = (T.heap.size, .inl (E.2.1 t, hRefs x.toNatClampNeg (fun x => T.heap.size + 1 + x))) ∨ ∃ j, j < x.toNatClampNeg ∧ z = (T.heap.size + 1 + j, .inl (E.2.1 u, y9.toNatClampNeg, a0)) := fun z hz => by
    rcases List.mem_cons.mp hz with hz | hz
    · exact Or.inl hz
    · obtain ⟨j, j1, j2⟩ := List.mem_map.mp hz
      exact Or.inr ⟨j, List.mem_range.mp j1, j2.symm⟩
  have hP0 : va_P E.1 vwCl (w0 ++ L) T1.heap := h1.kept (fun k9 q hq => fo q.1 ((h1 k9 q hq).lt))
  have hP1 : va_P E.1 vwCl (w0 ++ (L ++ wRows (E.2.1 t) (E.2.1 u) T.heap.size x.toNatClampNeg y9.toNatClampNeg a0)) T1.heap := by
    rw [← List.append_assoc]
    refine hP0.app (fun k9 q hq => ?_)
    rcases hmem q (List.mem_of_getElem? hq) with rfl | ⟨j, hj, rfl⟩
    · exact f2
    · exact fi j hj
  have hD1 : va_D A (w0 ++ (L ++ wRows (E.2.1 t) (E.2.1 u) T.heap.size x.toNatClampNeg y9.toNatClampNeg a0)) := by
    rw [← List.append_assoc, D_nodup]
    rw [D_nodup] at h2
    refine ⟨?_, fun z hz => ?_⟩
    · rw [List.map_append, List.nodup_append]
      refine ⟨h2.1, ?_, fun a ha b hb => ?_⟩
      · unfold wRows
        rw [List.map_cons, List.map_map, List.nodup_cons]
        refine ⟨fun hh => ?_, ?_⟩
        · obtain ⟨j, _, hj⟩ := List.mem_map.mp hh
          have hj' : T.heap.size + 1 + j = T.heap.size := hj
          omega
        · unfold List.Nodup
          rw [List.pairwise_map]
          exact List.Pairwise.imp (fun {a b} (q : a < b) (z : T.heap.size + 1 + a = T.heap.size + 1 + b) => by omega) List.pairwise_lt_range
      · obtain ⟨z, hz, rfl⟩ := List.mem_map.mp ha
        obtain ⟨z', hz', rfl⟩ := List.mem_map.mp hb
        obtain ⟨k9, hk9⟩ := List.getElem?_of_mem hz
        have hlt : z.1 < T.heap.size := (h1 k9 z hk9).lt
        rcases hmem z' hz' with rfl | ⟨j, hj, rfl⟩
        · show z.1 ≠ T.heap.size
          omega
        · show z.1 ≠ T.heap.size + 1 + j
          omega
    · rcases List.mem_append.mp hz with hz | hz
      · exact h2.2 z hz
      · rcases hmem z hz with rfl | ⟨j, hj, rfl⟩
        · exact h4 _ h3.1
        · exact h4 _ (by have := h3.1; show _ ≤ T.heap.size + 1 + j; omega)
  obtain ⟨t', a1, b1⟩ := kk T.heap.size T1.heap ⟨hP1, hD1, ⟨by rw [f1]; have := h3.1; omega, fun q a b => by rw [fo q (Nat.lt_of_lt_of_le a h3.1)]; exact h3.2.1 q a b, h3.2.2⟩, h4⟩ T1 rfl X1
  exact ⟨t', step t' a1, b1⟩
end NROWS
