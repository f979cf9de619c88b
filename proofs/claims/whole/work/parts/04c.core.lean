/-! # core, 2: the judgement -/
/-- the locals as a list hold -/
def LR (ls : Array Slot) (nL : Nat) (al : LA) : Prop := ls.size = nL ∧ lv_wf ls ∧ ∀ (i : Nat) (v : AV), al[i]? = some (some v) → ls[i]? = some (.val (cv v))
def rmd (d mc ms : Nat) : Room := { frames := d, cells := mc, slots := ms, locals := 40 * d }
/-- a room is large enough -/
def Rok (R : Room) (d mc ms : Nat) : Prop := d ≤ R.frames ∧ 40 * d ≤ R.locals ∧ mc ≤ R.cells ∧ ms ≤ R.slots
theorem Rok.rf (d mc ms : Nat) : Rok (rmd d mc ms) d mc ms := ⟨Nat.le_refl _, Nat.le_refl _, Nat.le_refl _, Nat.le_refl _⟩
/-- a contract's start and ends -/
def PcA (G : GT) (avs : List AV) (M : Mm) : Array Value → State → Prop := va_Pc (avs.map cv) (fun U => GK G U ∧ Rel G M U.heap ∧ okS G M avs)
def QcA (G : GT) (x : Option Nat) (M : Mm) (Q : Option AV → Mm → Prop) : Array Value → State → Outcome → State → Prop := fun _ st o t =>
  ∃ (r : Option AV) (M' : Mm), o = .returned (r.map cv) ∧ Q r M' ∧ (∀ v, r = some v → okV G M' v) ∧ Grow x M M' ∧ Rel G M' t.heap ∧ va_F (gAb G) st t
def excN (k : Nat) : String := if k = 0 then "java/util/NoSuchElementException" else "java/lang/IllegalArgumentException"
def XcA (G : GT) (x : Option Nat) (M : Mm) (QX : Nat → Mm → Prop) : String → State → State → Prop := fun E st t =>
  ∃ (k : Nat) (M' : Mm), E = excN k ∧ QX k M' ∧ Grow x M M' ∧ Rel G M' t.heap ∧ va_F (gAb G) st t
/-- a method's run: program, environment, room, first state, method, arguments, frames below, method, code; the world, its memory at first, what is owed, cells and slots -/
abbrev ZT : Type := Program × Env × Room × State × MethodId × Array Value × List Frame × Method × Code × GT × Option Nat × Mm × (Option AV → Mm → Prop) × (Nat → Mm → Prop) × Nat × Nat
abbrev Fm : Type := LA → List AV → Mm → Nat → Nat → Prop
/-- since the method's start: kinds stay; cells and slots are within what is owed -/
def Gro (x : Option Nat) (M0 M : Mm) (cs ss mc ms : Nat) : Prop := Grow x M0 M ∧ cs ≤ mc ∧ ss ≤ ms
theorem Gro.kept {x : Option Nat} {M M1 M2 : Mm} {cs ss mc ms : Nat} (h : Gro x M M1 cs ss mc ms) (hn : nx M2 = nx M1) (hk : kd M2 = kd M1) : Gro x M M2 cs ss mc ms := ⟨⟨by rw [hn]; exact h.1.1, fun b h0 hx => by rw [hk]; exact h.1.2 b h0 hx⟩, h.2⟩
def Wm (Z : ZT) (pc : Nat) : Fm := fun al st M cs ss => match Z with
  | (p, e, R, s, m, args, below, meth, c, G, x, M0, Q, QX, mc, ms) =>
    ∀ (H : Heap) (locs : List Loc) (ls : Array Slot), LR ls c.maxLocals al → okL G M al → okS G M st → Gro x M0 M cs ss mc ms → Rel G M H → va_S (gAb G) s.heap H locs →
      W p (gl G) e R s m args below meth c H locs cs ss (vx_MQ below (QcA G x M0 Q) (XcA G x M0 QX) args s mc ms (gAb G)) (F0 m pc ls (st.map cv))
/-- what holds in the method's run -/
def Zok (Z : ZT) (cc : ByteArray) (own : String) (ret : Option FieldType) (d : Nat) (G : GT) (mc ms : Nat) (Q : Option AV → Mm → Prop) : Prop := match Z with
  | (p, _, R, s, m, args, _, meth, c, G', _, _, Q', _, mc', ms') =>
    p.tables.exec = Jvm.exec ∧ c.code = cc ∧ s.vm.findClass own = some m.cls ∧ (∀ w ∈ gtb, w.before args s = true) ∧ meth.locks = false ∧ meth.sig.returnType = ret ∧ GK G' s ∧ Rok R d mc' ms' ∧ Q' = Q ∧ G' = G ∧ mc' = mc ∧ ms' = ms ∧ (gB G').size ≤ s.heap.size
def Sd (Z : ZT) (φ : Fm) (pc : Nat) : Prop := ∀ (al : LA) (st : List AV) (M : Mm) (cs ss : Nat), φ al st M cs ss → Wm Z pc al st M cs ss
theorem Sd.leaf {Z : ZT} {pc : Nat} : Sd Z (Wm Z pc) pc := fun _ _ _ _ _ h => h
theorem okS.cons {G : GT} {M : Mm} {v : AV} {st : List AV} (h : okV G M v) (h2 : okS G M st) : okS G M (v :: st) := fun w hw => by
  rcases List.mem_cons.mp hw with e | e
  · rw [e]; exact h
  · exact h2 w e
theorem okS.tail {G : GT} {M : Mm} {v : AV} {st : List AV} (h : okS G M (v :: st)) : okS G M st := fun w hw => h w (List.mem_cons_of_mem _ hw)
theorem okS.head {G : GT} {M : Mm} {v : AV} {st : List AV} (h : okS G M (v :: st)) : okV G M v := h v List.mem_cons_self
/-! ## locals -/
def isLg (v : Option AV) : Bool := match v with
  | some (Sum.inr (Sum.inl _)) => true
  | _ => false
/-- a value stored at i -/
def lst (al : LA) (i : Nat) (v : AV) : LA :=
  let a1 := al.set i (some v)
  let a2 := bif isLg (some v) then a1.set (i + 1) none else a1
  match i with
  | 0 => a2
  | k + 1 => bif isLg (al.getD k none) then a2.set k none else a2
def asc (al : LA) : List (Nat × Value) := (al.zipIdx).filterMap (fun q => q.1.map (fun v => (q.2, cv v)))
theorem asc_mem {al : LA} {i : Nat} {w : Value} : (i, w) ∈ asc al ↔ ∃ v, al[i]? = some (some v) ∧ w = cv v := by
  unfold asc
  simp only [List.mem_filterMap, Prod.exists, List.mem_zipIdx_iff_getElem?, Option.map_eq_some_iff, Prod.mk.injEq]
  constructor
  · rintro ⟨o, k, h1, v, h2, h3, h4⟩
    subst h3; subst h2
    exact ⟨v, h1, h4.symm⟩
  · rintro ⟨v, h1, h2⟩
    exact ⟨some v, i, h1, v, rfl, rfl, h2.symm⟩
theorem LR.has {ls : Array Slot} {nL : Nat} {al : LA} (h : LR ls nL al) : lv_has ls nL (asc al) := by
  refine ⟨h.1, h.2.1, fun q hq => ?_⟩
  obtain ⟨v, h1, h2⟩ := asc_mem.mp hq
  rw [h2]; exact h.2.2 _ _ h1
theorem cv_cat (v : AV) : (cv v).category = bif isLg (some v) then 2 else 1 := by
  rcases v with x | x | _ | q <;> rfl
theorem lst_get {al : LA} {i j : Nat} {v w : AV} (h : (lst al i v)[j]? = some (some w)) : (j = i ∧ w = v) ∨ (j ≠ i ∧ al[j]? = some (some w) ∧ (isLg (some v) = true → j ≠ i + 1) ∧ ¬ (j + 1 = i ∧ isLg (some w) = true)) := by
  have key : ∀ (a : LA) (k : Nat) (o : Option AV), (a.set k o)[j]? = some (some w) → (j = k ∧ o = some w) ∨ (j ≠ k ∧ a[j]? = some (some w)) := by
    intro a k o hh
    rw [List.getElem?_set] at hh
    by_cases e : k = j
    · subst e
      rw [if_pos rfl] at hh
      split at hh
      · exact Or.inl ⟨rfl, Option.some.inj hh⟩
      · cases hh
    · rw [if_neg e] at hh
      exact Or.inr ⟨fun q => e q.symm, hh⟩
  have step2 : ∀ a2 : LA, a2 = (bif isLg (some v) then (al.set i (some v)).set (i + 1) none else al.set i (some v)) → a2[j]? = some (some w) → (j = i ∧ w = v) ∨ (j ≠ i ∧ al[j]? = some (some w) ∧ (isLg (some v) = true → j ≠ i + 1)) := by
    intro a2 e hh
    rw [e] at hh
    cases hv : isLg (some v) with
    | true =>
      rw [hv] at hh
      rcases key _ _ _ hh with ⟨_, h2⟩ | ⟨h1, h2⟩
      · cases h2
      · rcases key _ _ _ h2 with ⟨h3, h4⟩ | ⟨h3, h4⟩
        · exact Or.inl ⟨h3, (Option.some.inj h4).symm⟩
        · exact Or.inr ⟨h3, h4, fun _ => h1⟩
    | false =>
      rw [hv] at hh
      rcases key _ _ _ hh with ⟨h3, h4⟩ | ⟨h3, h4⟩
      · exact Or.inl ⟨h3, (Option.some.inj h4).symm⟩
      · exact Or.inr ⟨h3, h4, fun q => nomatch q⟩
  unfold lst at h
  cases i with
  | zero =>
    rcases step2 _ rfl h with q | ⟨q1, q2, q3⟩
    · exact Or.inl q
    · exact Or.inr ⟨q1, q2, q3, fun z => by omega⟩
  | succ k =>
    dsimp only at h
    cases hk : isLg (al.getD k none) with
    | true =>
      rw [hk] at h
      rcases key _ _ _ h with ⟨_, h2⟩ | ⟨h1, h2⟩
      · cases h2
      · rcases step2 _ rfl h2 with q | ⟨q1, q2, q3⟩
        · exact Or.inl q
        · exact Or.inr ⟨q1, q2, q3, fun z => h1 (by omega)⟩
    | false =>
      rw [hk] at h
      rcases step2 _ rfl h with q | ⟨q1, q2, q3⟩
      · exact Or.inl q
      · refine Or.inr ⟨q1, q2, q3, fun z => ?_⟩
        have e : j = k := by omega
        subst e
        rw [List.getD_eq_getElem?_getD, q2] at hk
        rw [show (some (some w) : Option (Option AV)).getD none = some w from rfl] at hk
        rw [hk] at z
        exact absurd z.2 (by decide)
theorem okL.lst {G : GT} {M : Mm} {al : LA} {i : Nat} {v : AV} (h : okL G M al) (hv : okV G M v) : okL G M (lst al i v) := by
  intro w hw
  obtain ⟨j, hj⟩ := List.getElem?_of_mem hw
  rcases lst_get hj with ⟨_, e⟩ | ⟨_, e, _⟩
  · rw [e]; exact hv
  · exact h w (List.mem_of_getElem? e)
theorem LR.st1 {ls' : Array Slot} {nL i : Nat} {al : LA} {v : AV} (hc : isLg (some v) = false) (h : lv_has ls' nL ((i, cv v) :: (asc al).filter (fun q => !(q.1 == i) && !(q.1 + 1 == i && q.2.category == 2)))) : LR ls' nL (lst al i v) := by
  refine ⟨h.1, h.2.1, fun j w hj => ?_⟩
  rcases lst_get hj with ⟨e1, e2⟩ | ⟨e1, e2, e3, e4⟩
  · rw [e1, e2]; exact h.2.2 (i, cv v) List.mem_cons_self
  · refine h.2.2 (j, cv w) (List.mem_cons_of_mem _ (List.mem_filter.mpr ⟨asc_mem.mpr ⟨w, e2, rfl⟩, ?_⟩))
    have q1 : (j == i) = false := by simpa using e1
    simp only [q1, Bool.not_false, Bool.true_and, Bool.not_eq_true', Bool.and_eq_false_iff]
    by_cases z : j + 1 = i
    · refine Or.inr ?_
      rw [cv_cat]
      cases hw : isLg (some w) with
      | true => exact absurd ⟨z, hw⟩ e4
      | false => rfl
    · exact Or.inl (by simpa using z)
theorem LR.st2 {ls' : Array Slot} {nL i : Nat} {al : LA} {v : AV} (hc : isLg (some v) = true) (h : lv_has ls' nL ((i, cv v) :: (asc al).filter (fun q => !(q.1 == i) && (!(q.1 == i + 1) && !(q.1 + 1 == i && q.2.category == 2))))) : LR ls' nL (lst al i v) := by
  refine ⟨h.1, h.2.1, fun j w hj => ?_⟩
  rcases lst_get hj with ⟨e1, e2⟩ | ⟨e1, e2, e3, e4⟩
  · rw [e1, e2]; exact h.2.2 (i, cv v) List.mem_cons_self
  · refine h.2.2 (j, cv w) (List.mem_cons_of_mem _ (List.mem_filter.mpr ⟨asc_mem.mpr ⟨w, e2, rfl⟩, ?_⟩))
    have q1 : (j == i) = false := by simpa using e1
    have q2 : (j == i + 1) = false := by simpa using e3 hc
    simp only [q1, q2, Bool.not_false, Bool.true_and, Bool.not_eq_true', Bool.and_eq_false_iff]
    by_cases z : j + 1 = i
    · refine Or.inr ?_
      rw [cv_cat]
      cases hw : isLg (some w) with
      | true => exact absurd ⟨z, hw⟩ e4
      | false => rfl
    · exact Or.inl (by simpa using z)
