/-! Differences of hours: edges, ways, tight tables. -/
def ole (x y : Option Int) : Prop := ∀ w, y = some w → ∃ u, x = some u ∧ u ≤ w
def oadd (x y : Option Int) : Option Int := match x, y with
  | some a, some b => some (a + b)
  | _, _ => none
def omin (x y : Option Int) : Option Int := match x, y with
  | none, z => z
  | z, none => z
  | some a, some b => some (if b < a then b else a)
theorem ole_rfl (x : Option Int) : ole x x := fun w h => ⟨w, h, Int.le_refl w⟩
theorem ole_tr {x y z : Option Int} (h1 : ole x y) (h2 : ole y z) : ole x z := by
  intro w hw
  obtain ⟨u, hu, h3⟩ := h2 w hw
  obtain ⟨t, ht, h4⟩ := h1 u hu
  exact ⟨t, ht, by omega⟩
theorem ole_some {x : Option Int} {w : Int} (h : ole x (some w)) : ∃ u, x = some u ∧ u ≤ w := h w rfl
theorem ole_none (x : Option Int) : ole x none := fun w h => by cases h
theorem omin_l (x y : Option Int) : ole (omin x y) x := by
  intro w hw
  subst hw
  cases y with
  | none => exact ⟨w, rfl, Int.le_refl w⟩
  | some b =>
    refine ⟨_, rfl, ?_⟩
    split <;> omega
theorem omin_r (x y : Option Int) : ole (omin x y) y := by
  intro w hw
  subst hw
  cases x with
  | none => exact ⟨w, rfl, Int.le_refl w⟩
  | some b =>
    refine ⟨_, rfl, ?_⟩
    split <;> omega
theorem omin_or (x y : Option Int) : omin x y = x ∨ omin x y = y := by
  cases x with
  | none => exact Or.inr rfl
  | some a =>
    cases y with
    | none => exact Or.inl rfl
    | some b =>
      by_cases h : b < a
      · right
        show some (if b < a then b else a) = some b
        rw [if_pos h]
      · left
        show some (if b < a then b else a) = some a
        rw [if_neg h]
theorem oadd_ole {x y x' y' : Option Int} (h1 : ole x x') (h2 : ole y y') : ole (oadd x y) (oadd x' y') := by
  cases x' with
  | none => exact ole_none _
  | some a =>
    cases y' with
    | none => exact ole_none _
    | some b =>
      obtain ⟨u, hu, h3⟩ := h1 a rfl
      obtain ⟨v, hv, h4⟩ := h2 b rfl
      subst hu
      subst hv
      intro w hw
      cases hw
      exact ⟨u + v, rfl, by omega⟩
/-- ways over edges, by what they come to -/
def WayE (Ed : Nat → Nat → Int → Prop) (a b : Nat) (w : Int) : Prop := ∀ R : Nat → Nat → Int → Prop, (∀ x, R x x 0) → (∀ x y z v w, R x y v → Ed y z w → R x z (v + w)) → R a b w
theorem way_rfl (Ed : Nat → Nat → Int → Prop) (a : Nat) : WayE Ed a a 0 := fun _ h _ => h a
theorem way_step {Ed : Nat → Nat → Int → Prop} {a b d : Nat} {v w : Int} (h : WayE Ed a b v) (he : Ed b d w) : WayE Ed a d (v + w) := fun R h1 h2 => h2 a b d v w (h R h1 h2) he
theorem way_edge {Ed : Nat → Nat → Int → Prop} {a b : Nat} {w : Int} (he : Ed a b w) : WayE Ed a b w := by
  have h := way_step (way_rfl Ed a) he
  rw [Int.zero_add] at h
  exact h
theorem way_tr {Ed : Nat → Nat → Int → Prop} {a b d : Nat} {v w : Int} (h1 : WayE Ed a b v) (h2 : WayE Ed b d w) : WayE Ed a d (v + w) := by
  refine h2 (fun x y u => ∀ v0, WayE Ed a x v0 → WayE Ed a y (v0 + u)) ?_ ?_ v h1
  · intro x v0 h
    rw [Int.add_zero]
    exact h
  · intro x y z p q hp hq v0 h
    rw [← Int.add_assoc]
    exact way_step (hp v0 h) hq
theorem way_mono {Ed Ed' : Nat → Nat → Int → Prop} (hm : ∀ a b w, Ed a b w → Ed' a b w) {a b : Nat} {w : Int} (h : WayE Ed a b w) : WayE Ed' a b w :=
  h (fun x y u => WayE Ed' x y u) (fun x => way_rfl Ed' x) (fun _ _ _ _ _ hp hq => way_step hp (hm _ _ _ hq))
/-- no way comes back below 0 -/
def NoNeg (Ed : Nat → Nat → Int → Prop) : Prop := ∀ a w, WayE Ed a a w → 0 ≤ w
def EdIn (Ed : Nat → Nat → Int → Prop) : Prop := ∀ a b w, Ed a b w → a < 16 ∧ b < 16
/-- tight as far as through things below m -/
def PT (Ed : Nat → Nat → Int → Prop) (m : Nat) (X : Nat → Nat → Option Int) : Prop :=
  (∀ a, a < 16 → X a a = some 0) ∧ (∀ a b d, a < 16 → b < 16 → d < m → ole (X a b) (oadd (X a d) (X d b))) ∧ (∀ a b w, Ed a b w → ole (X a b) (some w)) ∧ (∀ a b v, a < 16 → b < 16 → X a b = some v → WayE Ed a b v)
theorem pt_way {Ed : Nat → Nat → Int → Prop} {X : Nat → Nat → Option Int} (hE : EdIn Ed) (h : PT Ed 16 X) {a b : Nat} {w : Int} (ha : a < 16) (hw : WayE Ed a b w) : b < 16 ∧ ole (X a b) (some w) := by
  refine hw (fun x y u => x < 16 → y < 16 ∧ ole (X x y) (some u)) ?_ ?_ ha
  · intro x hx
    refine ⟨hx, ?_⟩
    rw [h.1 x hx]
    exact ole_rfl _
  · intro x y z v u hp hq hx
    obtain ⟨hy, h1⟩ := hp hx
    obtain ⟨_, hz⟩ := hE y z u hq
    exact ⟨hz, ole_tr (h.2.1 x z y hx hz hy) (oadd_ole h1 (h.2.2.1 y z u hq))⟩
theorem pt_nn {Ed : Nat → Nat → Int → Prop} {X : Nat → Nat → Option Int} (hE : EdIn Ed) (h : PT Ed 16 X) : NoNeg Ed := by
  intro a w hw
  by_cases ha : a < 16
  · obtain ⟨_, h1⟩ := pt_way hE h ha hw
    rw [h.1 a ha] at h1
    obtain ⟨u, hu, h2⟩ := ole_some h1
    cases hu
    exact h2
  · have h1 := hw (fun x y u => x < 16 ∨ (y = x ∧ u = 0)) (fun x => Or.inr ⟨rfl, rfl⟩) (fun x y z v u hp hq => by
      rcases hp with hp | ⟨hp, _⟩
      · exact Or.inl hp
      · left
        rw [← hp]
        exact (hE y z u hq).1)
    rcases h1 with h1 | ⟨_, h1⟩
    · exact absurd h1 ha
    · omega
theorem pt_uniq {Ed : Nat → Nat → Int → Prop} {X Y : Nat → Nat → Option Int} (hE : EdIn Ed) (hX : PT Ed 16 X) (hY : PT Ed 16 Y) {a b : Nat} (ha : a < 16) (hb : b < 16) : X a b = Y a b := by
  cases hx : X a b with
  | none =>
    cases hy : Y a b with
    | none => rfl
    | some v =>
      obtain ⟨u, hu, _⟩ := ole_some (pt_way hE hX ha (hY.2.2.2 a b v ha hb hy)).2
      rw [hx] at hu
      cases hu
  | some v =>
    obtain ⟨u, hu, h1⟩ := ole_some (pt_way hE hY ha (hX.2.2.2 a b v ha hb hx)).2
    obtain ⟨t, ht, h2⟩ := ole_some (pt_way hE hX ha (hY.2.2.2 a b u ha hb hu)).2
    rw [hx] at ht
    cases ht
    rw [hu]
    exact congrArg some (by omega)
/-- one thing more to go through -/
def stg (X : Nat → Nat → Option Int) (m : Nat) : Nat → Nat → Option Int := fun a b => omin (X a b) (oadd (X a m) (X m b))
theorem stg_pt {Ed : Nat → Nat → Int → Prop} {X : Nat → Nat → Option Int} {m : Nat} (hm : m < 16) (h : PT Ed m X) (hd : ∀ a v, a < 16 → stg X m a a = some v → 0 ≤ v) : PT Ed (m + 1) (stg X m) := by
  obtain ⟨h1, h2, h3, h4⟩ := h
  have hx : ∀ a b, a < 16 → b < 16 → ole (X a b) (oadd (X a m) (X m b)) ∨ stg X m a b = oadd (X a m) (X m b) := by
    intro a b _ _
    rcases omin_or (X a b) (oadd (X a m) (X m b)) with h | h
    · left
      have h9 := omin_r (X a b) (oadd (X a m) (X m b))
      rw [h] at h9
      exact h9
    · exact Or.inr h
  have ham : ∀ a, a < 16 → oadd (X a m) (X m m) = X a m := by
    intro a _
    rw [h1 m hm]
    cases X a m with
    | none => rfl
    | some v => show some (v + 0) = some v; rw [Int.add_zero]
  have hmb : ∀ b, b < 16 → oadd (X m m) (X m b) = X m b := by
    intro b _
    rw [h1 m hm]
    cases X m b with
    | none => rfl
    | some v => show some (0 + v) = some v; rw [Int.zero_add]
  have em : ∀ a, a < 16 → stg X m a m = X a m := by
    intro a ha
    unfold stg
    rw [ham a ha]
    rcases omin_or (X a m) (X a m) with h | h <;> exact h
  have eb : ∀ b, b < 16 → stg X m m b = X m b := by
    intro b hb
    unfold stg
    rw [hmb b hb]
    rcases omin_or (X m b) (X m b) with h | h <;> exact h
  refine ⟨?_, ?_, ?_, ?_⟩
  · intro a ha
    have h5 := omin_l (X a a) (oadd (X a m) (X m a))
    rw [h1 a ha] at h5
    obtain ⟨u, hu, h6⟩ := ole_some h5
    have hs : stg X m a a = some u := by
      unfold stg
      rw [h1 a ha]
      exact hu
    have h7 := hd a u ha hs
    rw [hs]
    exact congrArg some (by omega)
  · intro a b d ha hb hdm
    by_cases hd1 : d = m
    · subst hd1
      rw [em a ha, eb b hb]
      exact omin_r _ _
    · have hdm2 : d < m := by omega
      have hd16 : d < 16 := by omega
      have t1 := h2 a b d ha hb hdm2
      have t2 := h2 a m d ha hm hdm2
      have t3 := h2 m b d hm hb hdm2
      have t4 := h2 m m d hm hm hdm2
      have e1 : stg X m a b = omin (X a b) (oadd (X a m) (X m b)) := rfl
      have hl := omin_l (X a b) (oadd (X a m) (X m b))
      have hr := omin_r (X a b) (oadd (X a m) (X m b))
      rw [e1]
      rcases omin_or (X a d) (oadd (X a m) (X m d)) with q1 | q1 <;> rcases omin_or (X d b) (oadd (X d m) (X m b)) with q2 | q2
      · rw [show stg X m a d = _ from q1, show stg X m d b = _ from q2]
        exact ole_tr hl t1
      · rw [show stg X m a d = _ from q1, show stg X m d b = _ from q2]
        refine ole_tr hr ?_
        have h9 := oadd_ole t2 (ole_rfl (X m b))
        intro w hw
        refine h9 w ?_
        rw [← hw]
        cases X a d <;> cases X d m <;> cases X m b <;> simp [oadd, Int.add_assoc]
      · rw [show stg X m a d = _ from q1, show stg X m d b = _ from q2]
        refine ole_tr hr ?_
        have h9 := oadd_ole (ole_rfl (X a m)) t3
        intro w hw
        refine h9 w ?_
        rw [← hw]
        cases X a m <;> cases X m d <;> cases X d b <;> simp [oadd, Int.add_assoc]
      · rw [show stg X m a d = _ from q1, show stg X m d b = _ from q2]
        refine ole_tr hr ?_
        rw [h1 m hm] at t4
        intro w hw
        cases ea : X a m with
        | none => rw [ea] at hw; cases hw
        | some va =>
          cases eb2 : X m b with
          | none =>
            rw [eb2] at hw
            cases X d m <;> cases X m d <;> simp [oadd, ea] at hw
          | some vb =>
            cases ed : X m d with
            | none => rw [ed] at hw; simp [oadd, ea] at hw
            | some vd =>
              cases ee : X d m with
              | none => rw [ee] at hw; simp [oadd, ea, ed] at hw
              | some ve =>
                rw [ea, ed, ee, eb2] at hw
                rw [ed, ee] at t4
                obtain ⟨u, hu, h8⟩ := ole_some t4
                cases hu
                cases hw
                exact ⟨va + vb, rfl, by omega⟩
  · intro a b w hw
    exact ole_tr (omin_l _ _) (h3 a b w hw)
  · intro a b v ha hb hv
    rcases omin_or (X a b) (oadd (X a m) (X m b)) with q | q
    · exact h4 a b v ha hb (q.symm.trans hv)
    · have hv2 : oadd (X a m) (X m b) = some v := q.symm.trans hv
      cases ea : X a m with
      | none => rw [ea] at hv2; cases hv2
      | some va =>
        cases ec : X m b with
        | none => rw [ea, ec] at hv2; cases hv2
        | some vb =>
          rw [ea, ec] at hv2
          cases hv2
          exact way_tr (h4 a m va ha hm ea) (h4 m b vb hm hb ec)
/-- one edge more -/
def EdP (Ed : Nat → Nat → Int → Prop) (p q : Nat) (u : Int) : Nat → Nat → Int → Prop := fun a b w => Ed a b w ∨ (a = p ∧ b = q ∧ w = u)
def lim (X : Nat → Nat → Option Int) (p q : Nat) (u : Int) : Nat → Nat → Option Int := fun a b => omin (X a b) (oadd (oadd (X a p) (some u)) (X q b))
theorem lim_pt {Ed : Nat → Nat → Int → Prop} {X : Nat → Nat → Option Int} {p q : Nat} {u : Int} (hp : p < 16) (hq : q < 16) (h : PT Ed 16 X) (hc : ∀ v, X q p = some v → 0 ≤ v + u) : PT (EdP Ed p q u) 16 (lim X p q u) := by
  obtain ⟨h1, h2, h3, h4⟩ := h
  refine ⟨?_, ?_, ?_, ?_⟩
  · intro a ha
    have hl := omin_l (X a a) (oadd (oadd (X a p) (some u)) (X q a))
    rw [h1 a ha] at hl
    obtain ⟨t, ht, h5⟩ := ole_some hl
    have hs : lim X p q u a a = some t := by
      unfold lim
      rw [h1 a ha]
      exact ht
    rcases omin_or (some 0) (oadd (oadd (X a p) (some u)) (X q a)) with e | e
    · rw [e] at ht
      cases ht
      exact hs
    · rw [ht] at e
      have t1 := h2 q p a hq hp ha
      cases ea : X a p with
      | none => rw [ea] at e; cases e
      | some va =>
        cases eb : X q a with
        | none => rw [ea, eb] at e; cases e
        | some vb =>
          rw [ea, eb] at e t1
          obtain ⟨w, hw, h6⟩ := t1 _ rfl
          have h7 := hc w hw
          have e2 : t = va + u + vb := Option.some.inj e
          rw [hs]
          exact congrArg some (by omega)
  · intro a b d ha hb hd
    have t1 := h2 a b d ha hb hd
    have t2 := h2 a p d ha hp hd
    have t3 := h2 q b d hq hb hd
    have t4 := h2 q p d hq hp hd
    have hl := omin_l (X a b) (oadd (oadd (X a p) (some u)) (X q b))
    have hr := omin_r (X a b) (oadd (oadd (X a p) (some u)) (X q b))
    have e1 : lim X p q u a b = omin (X a b) (oadd (oadd (X a p) (some u)) (X q b)) := rfl
    rw [e1]
    rcases omin_or (X a d) (oadd (oadd (X a p) (some u)) (X q d)) with q1 | q1 <;> rcases omin_or (X d b) (oadd (oadd (X d p) (some u)) (X q b)) with q2 | q2
    · rw [show lim X p q u a d = _ from q1, show lim X p q u d b = _ from q2]
      exact ole_tr hl t1
    · rw [show lim X p q u a d = _ from q1, show lim X p q u d b = _ from q2]
      refine ole_tr hr ?_
      intro w hw
      cases ea : X a d with
      | none => rw [ea] at hw; cases hw
      | some va =>
        cases eb : X d p with
        | none => rw [ea, eb] at hw; cases hw
        | some vb =>
          cases ec : X q b with
          | none => rw [ea, eb, ec] at hw; cases hw
          | some vc =>
            rw [ea, eb, ec] at hw
            rw [ea, eb] at t2
            obtain ⟨t, ht, h6⟩ := t2 _ rfl
            rw [ht]
            cases hw
            exact ⟨t + u + vc, rfl, by omega⟩
    · rw [show lim X p q u a d = _ from q1, show lim X p q u d b = _ from q2]
      refine ole_tr hr ?_
      intro w hw
      cases ea : X a p with
      | none => rw [ea] at hw; cases hw
      | some va =>
        cases eb : X q d with
        | none => rw [ea, eb] at hw; cases hw
        | some vb =>
          cases ec : X d b with
          | none => rw [ea, eb, ec] at hw; cases hw
          | some vc =>
            rw [ea, eb, ec] at hw
            rw [eb, ec] at t3
            obtain ⟨t, ht, h6⟩ := t3 _ rfl
            rw [ht]
            cases hw
            exact ⟨va + u + t, rfl, by omega⟩
    · rw [show lim X p q u a d = _ from q1, show lim X p q u d b = _ from q2]
      refine ole_tr hr ?_
      intro w hw
      cases ea : X a p with
      | none => rw [ea] at hw; cases hw
      | some va =>
        cases eb : X q d with
        | none => rw [ea, eb] at hw; cases hw
        | some vb =>
          cases ec : X d p with
          | none => rw [ea, eb, ec] at hw; cases hw
          | some vc =>
            cases ee : X q b with
            | none => rw [ea, eb, ec, ee] at hw; cases hw
            | some ve =>
              rw [ea, eb, ec, ee] at hw
              rw [eb, ec] at t4
              obtain ⟨t, ht, h6⟩ := t4 _ rfl
              have h7 := hc t ht
              cases hw
              exact ⟨va + u + ve, rfl, by omega⟩
  · intro a b w hw
    rcases hw with hw | ⟨rfl, rfl, rfl⟩
    · exact ole_tr (omin_l _ _) (h3 a b w hw)
    · have hr := omin_r (X a b) (oadd (oadd (X a a) (some w)) (X b b))
      rw [h1 a hp, h1 b hq] at hr
      intro z hz
      cases hz
      obtain ⟨t, ht, h6⟩ := hr _ rfl
      refine ⟨t, ?_, by omega⟩
      show omin (X a b) (oadd (oadd (X a a) (some w)) (X b b)) = some t
      rw [h1 a hp, h1 b hq]
      exact ht
  · intro a b v ha hb hv
    have mono : ∀ {x y : Nat} {z : Int}, WayE Ed x y z → WayE (EdP Ed p q u) x y z := fun h => way_mono (fun _ _ _ h => Or.inl h) h
    rcases omin_or (X a b) (oadd (oadd (X a p) (some u)) (X q b)) with e | e
    · exact mono (h4 a b v ha hb (e.symm.trans hv))
    · have hv2 : oadd (oadd (X a p) (some u)) (X q b) = some v := e.symm.trans hv
      cases ea : X a p with
      | none => rw [ea] at hv2; cases hv2
      | some va =>
        cases eb : X q b with
        | none => rw [ea, eb] at hv2; cases hv2
        | some vb =>
          rw [ea, eb] at hv2
          cases hv2
          exact way_tr (way_step (mono (h4 a p va ha hp ea)) (Or.inr ⟨rfl, rfl, rfl⟩)) (mono (h4 q b vb hq hb eb))
