/-! The memory: all objects of one court and one model, by numbers. Pure contents; addresses apart. -/
abbrev hEnv : Type := va_G × (Nat → ClassId) × (Nat → Nat → Nat → Nat) × (Nat → Nat) × (Nat → Nat)
abbrev hMem : Type := (Nat → Nat → Int32) × (Nat → Nat → Int64) × (Nat → Nat → Nat → Nat → Int32) × (Nat → Nat → Nat → Nat → Int64)
abbrev hId : Type := Nat × Nat × Nat
def hI (σ : hMem) (j k : Nat) : Int32 := σ.1 j k
def hL (σ : hMem) (j k : Nat) : Int64 := σ.2.1 j k
def hA (σ : hMem) (j k i : Nat) : Nat → Int32 := σ.2.2.1 j k i
def hB (σ : hMem) (j k i : Nat) : Nat → Int64 := σ.2.2.2 j k i
def sI (σ : hMem) (j k : Nat) (v : Int32) : hMem := (fun a b => if b = k ∧ a = j then v else σ.1 a b, σ.2)
def sL (σ : hMem) (j k : Nat) (v : Int64) : hMem := (σ.1, fun a b => if b = k ∧ a = j then v else σ.2.1 a b, σ.2.2)
def sA (σ : hMem) (j k i : Nat) (f : Nat → Int32) : hMem := (σ.1, σ.2.1, fun a b d => if b = k ∧ d = i ∧ a = j then f else σ.2.2.1 a b d, σ.2.2.2)
def sB (σ : hMem) (j k i : Nat) (f : Nat → Int64) : hMem := (σ.1, σ.2.1, σ.2.2.1, fun a b d => if b = k ∧ d = i ∧ a = j then f else σ.2.2.2 a b d)
theorem hI_sI (σ : hMem) (j k : Nat) (v : Int32) (a b : Nat) : hI (sI σ j k v) a b = if b = k ∧ a = j then v else hI σ a b := rfl
theorem hI_sL (σ : hMem) (j k : Nat) (v : Int64) (a b : Nat) : hI (sL σ j k v) a b = hI σ a b := rfl
theorem hI_sA (σ : hMem) (j k i : Nat) (v : Nat → Int32) (a b : Nat) : hI (sA σ j k i v) a b = hI σ a b := rfl
theorem hI_sB (σ : hMem) (j k i : Nat) (v : Nat → Int64) (a b : Nat) : hI (sB σ j k i v) a b = hI σ a b := rfl
theorem hL_sI (σ : hMem) (j k : Nat) (v : Int32) (a b : Nat) : hL (sI σ j k v) a b = hL σ a b := rfl
theorem hL_sL (σ : hMem) (j k : Nat) (v : Int64) (a b : Nat) : hL (sL σ j k v) a b = if b = k ∧ a = j then v else hL σ a b := rfl
theorem hL_sA (σ : hMem) (j k i : Nat) (v : Nat → Int32) (a b : Nat) : hL (sA σ j k i v) a b = hL σ a b := rfl
theorem hL_sB (σ : hMem) (j k i : Nat) (v : Nat → Int64) (a b : Nat) : hL (sB σ j k i v) a b = hL σ a b := rfl
theorem hA_sI (σ : hMem) (j k : Nat) (v : Int32) (a b d : Nat) : hA (sI σ j k v) a b d = hA σ a b d := rfl
theorem hA_sL (σ : hMem) (j k : Nat) (v : Int64) (a b d : Nat) : hA (sL σ j k v) a b d = hA σ a b d := rfl
theorem hA_sA (σ : hMem) (j k i : Nat) (v : Nat → Int32) (a b d : Nat) : hA (sA σ j k i v) a b d = if b = k ∧ d = i ∧ a = j then v else hA σ a b d := rfl
theorem hA_sB (σ : hMem) (j k i : Nat) (v : Nat → Int64) (a b d : Nat) : hA (sB σ j k i v) a b d = hA σ a b d := rfl
theorem hB_sI (σ : hMem) (j k : Nat) (v : Int32) (a b d : Nat) : hB (sI σ j k v) a b d = hB σ a b d := rfl
theorem hB_sL (σ : hMem) (j k : Nat) (v : Int64) (a b d : Nat) : hB (sL σ j k v) a b d = hB σ a b d := rfl
theorem hB_sA (σ : hMem) (j k i : Nat) (v : Nat → Int32) (a b d : Nat) : hB (sA σ j k i v) a b d = hB σ a b d := rfl
theorem hB_sB (σ : hMem) (j k i : Nat) (v : Nat → Int64) (a b d : Nat) : hB (sB σ j k i v) a b d = if b = k ∧ d = i ∧ a = j then v else hB σ a b d := rfl
/-- a field: 0 int, 1 long, 2 the object t, 3 an array of ints (bytes, booleans) of type t and length n, 4 of longs, 5 rows of ints, 6 rows of longs, 7 an array of the objects from b on -/
abbrev hEn : Type := Nat × Nat × Nat × Nat
abbrev e0 : hEn := (0, 0, 0, 0)
abbrev e1 : hEn := (1, 0, 0, 0)
abbrev eO (t : Nat) : hEn := (2, t, 0, 0)
abbrev eI (n : Nat) : hEn := (3, 0, n, 0)
abbrev eZ (n : Nat) : hEn := (3, 2, n, 0)
abbrev eB (n : Nat) : hEn := (3, 3, n, 0)
abbrev eJ (n : Nat) : hEn := (4, 1, n, 0)
abbrev eII (n m : Nat) : hEn := (5, 0, n, m)
abbrev eJJ (n m : Nat) : hEn := (6, 1, n, m)
def layCourt : List hEn := [eO 1, eO 4, eO 6, eO 9, (7, 6, 6, 13), eO 10, eO 11, (7, 7, 8, 19), eO 12, e0, e0, e0, e0, e0]
def layTale : List hEn := [eI 6, eI 40, eI 40, eI 40, eI 40, eI 40, e0, eO 2, eZ 40, e0, e0, eO 3, eZ 40, e0, e0]
def layBounds : List hEn := [eI 256]
def layGoods : List hEn := [eI 60, eI 60, eO 5, e0]
def layTimes (n : Nat) : List hEn := [eI n, eI n]
def layCases : List hEn := [eI 40, eI 40, eO 7, eO 8, e0]
def layTape : List hEn := [eB 300, e0, e0, e0, e0, e0]
def layCrew : List hEn := [eI 60, e0, e0]
def layJudg : List hEn := [eI 40, eI 40, (7, 8, 8, 35), e0, e0, e0, e1, e1, e1, e0, e1]
def layLaw : List hEn := [eI 5, e0, e0, e0, e0, e0, e0]
def layShip (j : Nat) : List hEn := [eO j, e0, e0, e0, e0, e0, e0]
def layPart : List hEn := [eJ 60, e1, e1, e1, e1, e1, e1, e1, e1, e0]
def layModel : List hEn := [e0, e0, eI 6, e0, eI 40, eI 40, eI 40, eI 40, eI 40, eJJ 16 16, eZ 40, e0, eI 60, eI 60, eI 60, eI 60, eI 60, e0, eI 40, eI 40, eI 40, eI 40, eI 40, eI 40, e0, e0, e0, eI 6, eI 6, eII 7 11, eB 300, e0, e0, e0, e0, e0, e0, eI 60, e0, eI 8, eI 8, eI 8, eI 8, eI 8, eI 8, eI 8, eII 8 60, e0, e0, e0, e0, e0, eI 40, e1, e1, e1, eJJ 8 7, eJJ 8 60, eI 8]
def hLay (j : Nat) : List hEn :=
  if j < 13 then (match j with
    | 0 => layCourt
    | 1 => layTale
    | 2 => layBounds
    | 3 => layBounds
    | 4 => layGoods
    | 5 => layTimes 60
    | 6 => layCases
    | 7 => layTimes 40
    | 8 => layTimes 40
    | 9 => layTape
    | 10 => layTimes 6
    | 11 => layCrew
    | _ => layJudg)
  else if j < 19 then layLaw else if j < 27 then layShip (j + 8) else if j < 35 then layCrew else if j < 43 then layPart else if j = 43 then layModel else []
/-- the class of an object, by its place among the classes -/
def hCi (j : Nat) : Nat :=
  if j < 13 then (match j with
    | 0 => 11
    | 1 => 8
    | 2 => 0
    | 3 => 0
    | 4 => 3
    | 5 => 10
    | 6 => 1
    | 7 => 10
    | 8 => 10
    | 9 => 9
    | 10 => 10
    | 11 => 2
    | _ => 4)
  else if j < 19 then 5 else if j < 27 then 7 else if j < 35 then 2 else if j < 43 then 6 else 12
def hTy (t : Nat) : FieldType := match t with
  | 0 => .int
  | 1 => .long
  | 2 => .boolean
  | 3 => .byte
  | 4 => .array .int
  | 5 => .array .long
  | 6 => .object "SalvageCourt$Law"
  | 7 => .object "SalvageCourt$Ship"
  | _ => .object "SalvageCourt$Part"
def hTys (E : hEnv) : List (ClassId × FieldType) := (List.range 9).map (fun t => (E.2.1 t, hTy t))
def hAd (E : hEnv) (c : hId) : Nat := E.2.2.1 c.1 c.2.1 c.2.2
/-- the object j; the row i of its slot k (1000: the row of the rows) -/
def hO (E : hEnv) (j : Nat) : Nat := hAd E (j, 0, 0)
def hR (E : hEnv) (j k i : Nat) : Nat := hAd E (j, k + 1, i)
def hFv (E : hEnv) (σ : hMem) (j k : Nat) (e : hEn) : Value := match e.1 with
  | 0 => .int (hI σ j k)
  | 1 => .long (hL σ j k)
  | 2 => .ref (hO E e.2.1)
  | 3 => .ref (hR E j k 0)
  | 4 => .ref (hR E j k 0)
  | 7 => .ref (hR E j k 0)
  | _ => .ref (hR E j k 1000)
def hFs (E : hEnv) (σ : hMem) (j : Nat) : List Value := (hLay j).mapIdx (fun k e => hFv E σ j k e)
abbrev hRefs (n : Nat) (f : Nat → Nat) : vp_A := (n, .inr (.inr (.inr (.inr (fun i => if i < n then some (f i) else none)))))
def hArr (E : hEnv) (σ : hMem) (j k i : Nat) (e : hEn) : va_E := match e.1 with
  | 3 => .inl (E.2.1 e.2.1, e.2.2.1, .inl (hA σ j k 0))
  | 4 => .inl (E.2.1 e.2.1, e.2.2.1, .inr (.inl (hB σ j k 0)))
  | 5 => if i = 1000 then .inl (E.2.1 4, hRefs e.2.2.1 (fun x => hR E j k x)) else .inl (E.2.1 0, e.2.2.2, .inl (hA σ j k i))
  | 6 => if i = 1000 then .inl (E.2.1 5, hRefs e.2.2.1 (fun x => hR E j k x)) else .inl (E.2.1 1, e.2.2.2, .inr (.inl (hB σ j k i)))
  | _ => .inl (E.2.1 e.2.1, hRefs e.2.2.1 (fun x => hO E (e.2.2.2 + x)))
def hCont (E : hEnv) (σ : hMem) (c : hId) : va_E := match c.2.1 with
  | 0 => .inr (hCi c.1, hFs E σ c.1)
  | k + 1 => match (hLay c.1)[k]? with
    | some e => hArr E σ c.1 k c.2.2 e
    | none => .inr (0, [])
def hSub (j k : Nat) (e : hEn) : List hId := match e.1 with
  | 0 => []
  | 1 => []
  | 2 => []
  | 5 => (j, k + 1, 1000) :: (List.range e.2.2.1).map (fun i => (j, k + 1, i))
  | 6 => (j, k + 1, 1000) :: (List.range e.2.2.1).map (fun i => (j, k + 1, i))
  | _ => [(j, k + 1, 0)]
def hIdsOf (j : Nat) : List hId := (j, 0, 0) :: (hLay j).zipIdx.flatMap (fun q => hSub j q.2 q.1)
def hIds : List hId := (List.range 44).flatMap hIdsOf
theorem hW_ex : ∃ f : hEnv → hMem → va_W, ∀ E σ, f E σ = hIds.map (fun c => (hAd E c, hCont E σ c)) := ⟨_, fun _ _ => rfl⟩
/-- the world of a memory, closed: it is opened by hW_eq alone -/
noncomputable def hW (E : hEnv) (σ : hMem) : va_W := Classical.choose hW_ex E σ
theorem hW_eq (E : hEnv) (σ : hMem) : hW E σ = hIds.map (fun c => (hAd E c, hCont E σ c)) := Classical.choose_spec hW_ex E σ
theorem hIds_o {j : Nat} (h : j < 44) : (j, 0, 0) ∈ hIds := List.mem_flatMap.mpr ⟨j, List.mem_range.mpr h, List.mem_cons_self⟩
theorem hIds_s {j k : Nat} {e : hEn} {c : hId} (h : j < 44) (hl : (hLay j)[k]? = some e) (hc : c ∈ hSub j k e) : c ∈ hIds := by
  refine List.mem_flatMap.mpr ⟨j, List.mem_range.mpr h, List.mem_cons_of_mem _ (List.mem_flatMap.mpr ⟨(e, k), ?_, hc⟩)⟩
  rw [List.mem_zipIdx_iff_getElem?]
  exact hl
theorem hW_at {E : hEnv} {σ : hMem} {Z : va_W} {c : hId} (h : c ∈ hIds) : ∃ q : Nat, (hW E σ ++ Z)[q]? = some (hAd E c, hCont E σ c) := by
  have h1 : (hAd E c, hCont E σ c) ∈ hW E σ ++ Z := List.mem_append_left _ (by rw [hW_eq]; exact List.mem_map.mpr ⟨c, h, rfl⟩)
  exact List.getElem?_of_mem h1
theorem hW_set {E : hEnv} {σ σ' : hMem} {Z : va_W} {c : hId} {A : Nat → Prop} {q : Nat} {e : va_E} (hD : va_D A (hW E σ ++ Z)) (hq : (hW E σ ++ Z)[q]? = some (hAd E c, hCont E σ c)) (hc : c ∈ hIds) (h1 : hCont E σ' c = e) (h2 : ∀ d, d ∈ hIds → d ≠ c → hCont E σ' d = hCont E σ d) : (hW E σ ++ Z).set q (hAd E c, e) = hW E σ' ++ Z := by
  obtain ⟨p, hp⟩ := List.getElem?_of_mem hc
  have hpw : (hW E σ ++ Z)[p]? = some (hAd E c, hCont E σ c) := by
    have hl : p < (hW E σ).length := by
      rw [hW_eq, List.length_map]
      exact (List.getElem?_eq_some_iff.mp hp).1
    rw [List.getElem?_append_left hl, hW_eq, List.getElem?_map, hp]
    rfl
  have hpq : p = q := hD.1 p q _ _ hpw hq rfl
  subst hpq
  have hl : p < (hW E σ).length := by
    rw [hW_eq, List.length_map]
    exact (List.getElem?_eq_some_iff.mp hp).1
  rw [List.set_append_left _ _ hl]
  congr 1
  apply List.ext_getElem?
  intro i
  by_cases hi : i = p
  · subst hi
    rw [List.getElem?_set_self hl, hW_eq, List.getElem?_map, hp, ← h1]
    rfl
  · rw [List.getElem?_set_ne (fun h => hi h.symm), hW_eq, hW_eq, List.getElem?_map, List.getElem?_map]
    cases hx : hIds[i]? with
    | none => rfl
    | some d =>
      have hd : d ≠ c := fun h => by
        subst h
        have hiw : (hW E σ ++ Z)[i]? = some (hAd E d, hCont E σ d) := by
          have hl2 : i < (hW E σ).length := by
            rw [hW_eq, List.length_map]
            exact (List.getElem?_eq_some_iff.mp hx).1
          rw [List.getElem?_append_left hl2, hW_eq, List.getElem?_map, hx]
          rfl
        exact hi (hD.1 i p _ _ hiw hpw rfl)
      show some (hAd E d, hCont E σ d) = some (hAd E d, hCont E σ' d)
      rw [h2 d (List.mem_of_getElem? hx) hd]
theorem hFs_at {E : hEnv} {σ : hMem} {j k : Nat} {e : hEn} (h : (hLay j)[k]? = some e) : (hFs E σ j)[k]? = some (hFv E σ j k e) := by
  rw [hFs, List.getElem?_mapIdx, h]
  rfl
theorem hCont_o (E : hEnv) (σ : hMem) (j : Nat) : hCont E σ (j, 0, 0) = .inr (hCi j, hFs E σ j) := rfl
theorem hCont_s {E : hEnv} {σ : hMem} {j k i : Nat} {e : hEn} (h : (hLay j)[k]? = some e) : hCont E σ (j, k + 1, i) = hArr E σ j k i e := by
  show (match (hLay j)[k]? with | some e => hArr E σ j k i e | none => .inr (0, [])) = _
  rw [h]
/-- a scalar's new value -/
theorem hFs_set {E : hEnv} {σ σ' : hMem} {j k : Nat} {e : hEn} {v : Value} (h : (hLay j)[k]? = some e) (h1 : hFv E σ' j k e = v) (h2 : ∀ k' e', k' ≠ k → hFv E σ' j k' e' = hFv E σ j k' e') : (hFs E σ j).set k v = hFs E σ' j := by
  have hl : k < (hFs E σ j).length := by
    rw [hFs, List.length_mapIdx]
    exact (List.getElem?_eq_some_iff.mp h).1
  apply List.ext_getElem?
  intro i
  by_cases hi : i = k
  · subst hi
    rw [List.getElem?_set_self hl, hFs_at h, h1]
  · rw [List.getElem?_set_ne (fun q => hi q.symm), hFs, hFs, List.getElem?_mapIdx, List.getElem?_mapIdx]
    cases hx : (hLay j)[i]? with
    | none => rfl
    | some e' =>
      show some (hFv E σ j i e') = some (hFv E σ' j i e')
      rw [h2 i e' hi]
theorem hFv_sI (E : hEnv) (σ : hMem) (j k : Nat) (v : Int32) (a b : Nat) (e : hEn) (h : ¬ (b = k ∧ a = j)) : hFv E (sI σ j k v) a b e = hFv E σ a b e := by
  unfold hFv
  split <;> simp [hI_sI, hL_sI, h]
theorem hFv_sL (E : hEnv) (σ : hMem) (j k : Nat) (v : Int64) (a b : Nat) (e : hEn) (h : ¬ (b = k ∧ a = j)) : hFv E (sL σ j k v) a b e = hFv E σ a b e := by
  unfold hFv
  split <;> simp [hI_sL, hL_sL, h]
theorem hFv_sA (E : hEnv) (σ : hMem) (j k i : Nat) (v : Nat → Int32) (a b : Nat) (e : hEn) : hFv E (sA σ j k i v) a b e = hFv E σ a b e := rfl
theorem hFv_sB (E : hEnv) (σ : hMem) (j k i : Nat) (v : Nat → Int64) (a b : Nat) (e : hEn) : hFv E (sB σ j k i v) a b e = hFv E σ a b e := rfl
theorem hFs_oI (E : hEnv) (σ : hMem) (j k : Nat) (v : Int32) (a : Nat) (h : a ≠ j) : hFs E (sI σ j k v) a = hFs E σ a := by
  unfold hFs
  congr 1
  funext b e
  exact hFv_sI E σ j k v a b e (fun q => h q.2)
theorem hFs_oL (E : hEnv) (σ : hMem) (j k : Nat) (v : Int64) (a : Nat) (h : a ≠ j) : hFs E (sL σ j k v) a = hFs E σ a := by
  unfold hFs
  congr 1
  funext b e
  exact hFv_sL E σ j k v a b e (fun q => h q.2)
theorem hIds_0 {a i : Nat} (h : (a, 0, i) ∈ hIds) : i = 0 := by
  obtain ⟨j, -, h⟩ := List.mem_flatMap.mp h
  rcases List.mem_cons.mp h with h | h
  · cases h
    rfl
  · obtain ⟨q, -, h⟩ := List.mem_flatMap.mp h
    exfalso
    revert h
    unfold hSub
    split <;> intro h
    · cases h
    · cases h
    · cases h
    · rcases List.mem_cons.mp h with h | h
      · cases h
      · obtain ⟨x, -, h⟩ := List.mem_map.mp h
        cases h
    · rcases List.mem_cons.mp h with h | h
      · cases h
      · obtain ⟨x, -, h⟩ := List.mem_map.mp h
        cases h
    · rcases List.mem_cons.mp h with h | h
      · cases h
      · cases h
theorem hCont_sI (E : hEnv) (σ : hMem) (j k : Nat) (v : Int32) (d : hId) (hd : d ∈ hIds) (h : d ≠ (j, 0, 0)) : hCont E (sI σ j k v) d = hCont E σ d := by
  obtain ⟨a, b, i⟩ := d
  cases b with
  | zero =>
    have hi := hIds_0 hd
    subst hi
    have ha : a ≠ j := fun q => h (by rw [q])
    show (Sum.inr (hCi a, hFs E (sI σ j k v) a) : va_E) = .inr (hCi a, hFs E σ a)
    rw [hFs_oI E σ j k v a ha]
  | succ b => rfl
theorem hCont_sL (E : hEnv) (σ : hMem) (j k : Nat) (v : Int64) (d : hId) (hd : d ∈ hIds) (h : d ≠ (j, 0, 0)) : hCont E (sL σ j k v) d = hCont E σ d := by
  obtain ⟨a, b, i⟩ := d
  cases b with
  | zero =>
    have hi := hIds_0 hd
    subst hi
    have ha : a ≠ j := fun q => h (by rw [q])
    show (Sum.inr (hCi a, hFs E (sL σ j k v) a) : va_E) = .inr (hCi a, hFs E σ a)
    rw [hFs_oL E σ j k v a ha]
  | succ b => rfl
/-- a 1-dimensional slot has the row 0 alone -/
theorem hIds_1 {j k i : Nat} {e : hEn} (hl : (hLay j)[k]? = some e) (h5 : e.1 ≠ 5) (h6 : e.1 ≠ 6) (h : (j, k + 1, i) ∈ hIds) : i = 0 := by
  obtain ⟨j', -, h⟩ := List.mem_flatMap.mp h
  rcases List.mem_cons.mp h with h | h
  · cases h
  · obtain ⟨⟨e', k'⟩, hq, h⟩ := List.mem_flatMap.mp h
    rw [List.mem_zipIdx_iff_getElem?] at hq
    dsimp only at hq h
    have key : j = j' ∧ k = k' ∧ (i = 0 ∨ e'.1 = 5 ∨ e'.1 = 6) := by
      revert h
      unfold hSub
      split <;> intro h
      · cases h
      · cases h
      · cases h
      · rename_i h9
        rcases List.mem_cons.mp h with h | h
        · cases h
          exact ⟨rfl, rfl, Or.inr (Or.inl h9)⟩
        · obtain ⟨x, -, h⟩ := List.mem_map.mp h
          cases h
          exact ⟨rfl, rfl, Or.inr (Or.inl h9)⟩
      · rename_i h9
        rcases List.mem_cons.mp h with h | h
        · cases h
          exact ⟨rfl, rfl, Or.inr (Or.inr h9)⟩
        · obtain ⟨x, -, h⟩ := List.mem_map.mp h
          cases h
          exact ⟨rfl, rfl, Or.inr (Or.inr h9)⟩
      · rcases List.mem_cons.mp h with h | h
        · cases h
          exact ⟨rfl, rfl, Or.inl rfl⟩
        · cases h
    obtain ⟨rfl, rfl, hk⟩ := key
    rw [hl] at hq
    cases hq
    rcases hk with hk | hk | hk
    · exact hk
    · exact absurd hk h5
    · exact absurd hk h6
theorem hArr_sA (E : hEnv) (σ : hMem) (j k i : Nat) (f : Nat → Int32) (a b d : Nat) (e : hEn) (h : ¬ (b = k ∧ d = i ∧ a = j)) (h0 : ¬ (b = k ∧ 0 = i ∧ a = j) ∨ e.1 = 5 ∨ e.1 = 6) : hArr E (sA σ j k i f) a b d e = hArr E σ a b d e := by
  unfold hArr
  split
  · rename_i h9
    rcases h0 with h0 | h0 | h0
    · simp [hA_sA, h0]
    · rw [h0] at h9; cases h9
    · rw [h0] at h9; cases h9
  · rfl
  · simp [hA_sA, h]
  · rfl
  · rfl
theorem hArr_sB (E : hEnv) (σ : hMem) (j k i : Nat) (f : Nat → Int64) (a b d : Nat) (e : hEn) (h : ¬ (b = k ∧ d = i ∧ a = j)) (h0 : ¬ (b = k ∧ 0 = i ∧ a = j) ∨ e.1 = 5 ∨ e.1 = 6) : hArr E (sB σ j k i f) a b d e = hArr E σ a b d e := by
  unfold hArr
  split
  · rfl
  · rename_i h9
    rcases h0 with h0 | h0 | h0
    · simp [hB_sB, h0]
    · rw [h0] at h9; cases h9
    · rw [h0] at h9; cases h9
  · rfl
  · simp [hB_sB, h]
  · rfl
theorem hCont_sA (E : hEnv) (σ : hMem) (j k i : Nat) (f : Nat → Int32) {e : hEn} (hl : (hLay j)[k]? = some e) (d : hId) (hd : d ∈ hIds) (h : d ≠ (j, k + 1, i)) : hCont E (sA σ j k i f) d = hCont E σ d := by
  obtain ⟨a, b, x⟩ := d
  cases b with
  | zero => rfl
  | succ b =>
    cases hq : (hLay a)[b]? with
    | none => simp [hCont, hq]
    | some e' =>
      rw [hCont_s hq, hCont_s hq]
      have h1 : ¬ (b = k ∧ x = i ∧ a = j) := fun z => h (by rw [z.1, z.2.1, z.2.2])
      refine hArr_sA E σ j k i f a b x e' h1 ?_
      by_cases h5 : e'.1 = 5
      · exact Or.inr (Or.inl h5)
      · by_cases h6 : e'.1 = 6
        · exact Or.inr (Or.inr h6)
        · left
          have hx := hIds_1 hq h5 h6 hd
          subst hx
          exact h1
theorem hCont_sB (E : hEnv) (σ : hMem) (j k i : Nat) (f : Nat → Int64) {e : hEn} (hl : (hLay j)[k]? = some e) (d : hId) (hd : d ∈ hIds) (h : d ≠ (j, k + 1, i)) : hCont E (sB σ j k i f) d = hCont E σ d := by
  obtain ⟨a, b, x⟩ := d
  cases b with
  | zero => rfl
  | succ b =>
    cases hq : (hLay a)[b]? with
    | none => simp [hCont, hq]
    | some e' =>
      rw [hCont_s hq, hCont_s hq]
      have h1 : ¬ (b = k ∧ x = i ∧ a = j) := fun z => h (by rw [z.1, z.2.1, z.2.2])
      refine hArr_sB E σ j k i f a b x e' h1 ?_
      by_cases h5 : e'.1 = 5
      · exact Or.inr (Or.inl h5)
      · by_cases h6 : e'.1 = 6
        · exact Or.inr (Or.inr h6)
        · left
          have hx := hIds_1 hq h5 h6 hd
          subst hx
          exact h1
