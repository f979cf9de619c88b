/-! # extraction: a method as a function (printed by wip/gen/mk_ext.py) -/
def bI {R : Type} (x : Option (Int32 × Mm)) (K : Int32 → Mm → Option R) : Option R := match x with
  | none => none
  | some q => K q.1 q.2
def bL {R : Type} (x : Option (Int64 × Mm)) (K : Int64 → Mm → Option R) : Option R := match x with
  | none => none
  | some q => K q.1 q.2
def bR {R : Type} (x : Option (Nat × Mm)) (K : Nat → Mm → Option R) : Option R := match x with
  | none => none
  | some q => K q.1 q.2
def bV {R : Type} (x : Option Mm) (K : Mm → Option R) : Option R := match x with
  | none => none
  | some q => K q
def bG {R : Type} (x : Option Nat) (K : Nat → Option R) (k0 : Option R) : Option R := match x with
  | none => k0
  | some q => K q
def ck {R : Type} (i : Int32) (n : Nat) (x : Option R) : Option R := if i < 0 ∨ n ≤ i.toNatClampNeg then none else x
def nz {R : Type} (y : Int32) (x : Option R) : Option R := if y = 0 then none else x
def nzL {R : Type} (y : Int64) (x : Option R) : Option R := if y = 0 then none else x
def zk {R : Type} (y : Int32) (x : Option R) : Option R := if y = 0 ∨ y = 1 then x else none
theorem nn {R : Type} {r : R} (h : (none : Option R) = some r) : False := nomatch h
theorem ite_c {R : Type} {r : R} {c : Prop} {i : Decidable c} {a b : Option R} {A B : Prop} (h : (@ite (Option R) c i a b) = some r) (ha : a = some r → A) (hb : b = some r → B) : (c → A) ∧ (¬ c → B) :=
  ⟨fun hc => ha (by rw [if_pos hc] at h; exact h), fun hc => hb (by rw [if_neg hc] at h; exact h)⟩
theorem ck_c {R : Type} {r : R} {i : Int32} {n : Nat} {x : Option R} {F : Prop} (h : ck i n x = some r) (k : x = some r → F) : vp_in i n ∧ F := by
  unfold ck at h
  split at h
  · exact nomatch h
  · next h1 => exact ⟨h1, k h⟩
theorem nz_c {R : Type} {r : R} {y : Int32} {x : Option R} {F : Prop} (h : nz y x = some r) (k : x = some r → F) : (¬ y = 0) ∧ F := by
  unfold nz at h
  split at h
  · exact nomatch h
  · next h1 => exact ⟨h1, k h⟩
theorem nzL_c {R : Type} {r : R} {y : Int64} {x : Option R} {F : Prop} (h : nzL y x = some r) (k : x = some r → F) : (¬ y = 0) ∧ F := by
  unfold nzL at h
  split at h
  · exact nomatch h
  · next h1 => exact ⟨h1, k h⟩
theorem zk_c {R : Type} {r : R} {y : Int32} {x : Option R} {F : Prop} (h : zk y x = some r) (k : (y = 0 ∨ y = 1) → x = some r → F) : F := by
  unfold zk at h
  split at h
  · next h1 => exact k h1 h
  · exact nomatch h
theorem bG_c {R : Type} {r : R} {x : Option Nat} {K : Nat → Option R} {k0 : Option R} {F : Nat → Prop} {F0 : Prop} (h : bG x K k0 = some r) (k : ∀ b, K b = some r → F b) (hk0 : k0 = some r → F0) : (∀ b : Nat, x = some b → F b) ∧ (x = none → F0) :=
  ⟨fun b e => k b (by rw [e] at h; exact h), fun e => hk0 (by rw [e] at h; exact h)⟩
theorem ret_c {R : Type} {r x : R} (h : some x = some r) : r = x := (Option.some.inj h).symm
theorem cal_i {R : Type} {r : R} {x : Option (Int32 × Mm)} {K : Int32 → Mm → Option R} {C : (Int32 → Mm → Prop) → Prop} {F : Int32 → Mm → Prop} (h : bI x K = some r) (hc : ∀ q, x = some q → C (fun z M' => q = (z, M'))) (hk : ∀ z M', K z M' = some r → F z M') : ∃ P : Int32 → Mm → Prop, C P ∧ ∀ (z : Int32) (M' : Mm), P z M' → F z M' := by
  cases hx : x with
  | none => rw [hx] at h; exact nomatch h
  | some q => rw [hx] at h; exact ⟨_, hc q hx, fun z M' e => hk z M' (by rw [e] at h; exact h)⟩
theorem cal_b {R : Type} {r : R} {x : Option (Int32 × Mm)} {K : Int32 → Mm → Option R} {C : (Int32 → Mm → Prop) → Prop} {F : Int32 → Mm → Prop} (h : bI x K = some r) (hc : ∀ q, x = some q → C (fun z M' => q = (z, M') ∧ (z = 0 ∨ z = 1))) (hk : ∀ z M', (z = 0 ∨ z = 1) → K z M' = some r → F z M') : ∃ P : Int32 → Mm → Prop, C P ∧ ∀ (z : Int32) (M' : Mm), P z M' → F z M' := by
  cases hx : x with
  | none => rw [hx] at h; exact nomatch h
  | some q => rw [hx] at h; exact ⟨_, hc q hx, fun z M' e => hk z M' e.2 (by rw [e.1] at h; exact h)⟩
theorem cal_l {R : Type} {r : R} {x : Option (Int64 × Mm)} {K : Int64 → Mm → Option R} {C : (Int64 → Mm → Prop) → Prop} {F : Int64 → Mm → Prop} (h : bL x K = some r) (hc : ∀ q, x = some q → C (fun z M' => q = (z, M'))) (hk : ∀ z M', K z M' = some r → F z M') : ∃ P : Int64 → Mm → Prop, C P ∧ ∀ (z : Int64) (M' : Mm), P z M' → F z M' := by
  cases hx : x with
  | none => rw [hx] at h; exact nomatch h
  | some q => rw [hx] at h; exact ⟨_, hc q hx, fun z M' e => hk z M' (by rw [e] at h; exact h)⟩
theorem cal_r {R : Type} {r : R} {x : Option (Nat × Mm)} {K : Nat → Mm → Option R} {C : (Nat → Mm → Prop) → Prop} {F : Nat → Mm → Prop} (h : bR x K = some r) (hc : ∀ q, x = some q → C (fun z M' => q = (z, M'))) (hk : ∀ z M', K z M' = some r → F z M') : ∃ P : Nat → Mm → Prop, C P ∧ ∀ (z : Nat) (M' : Mm), P z M' → F z M' := by
  cases hx : x with
  | none => rw [hx] at h; exact nomatch h
  | some q => rw [hx] at h; exact ⟨_, hc q hx, fun z M' e => hk z M' (by rw [e] at h; exact h)⟩
theorem cal_v {R : Type} {r : R} {x : Option Mm} {K : Mm → Option R} {C : (Mm → Prop) → Prop} {F : Mm → Prop} (h : bV x K = some r) (hc : ∀ q, x = some q → C (fun M' => q = M')) (hk : ∀ M', K M' = some r → F M') : ∃ P : Mm → Prop, C P ∧ ∀ M' : Mm, P M' → F M' := by
  cases hx : x with
  | none => rw [hx] at h; exact nomatch h
  | some q => rw [hx] at h; exact ⟨_, hc q hx, fun M' e => hk M' (by rw [e] at h; exact h)⟩
theorem le_s {a b d : Nat} (h : Nat.ble (a + 1) b = true) (h2 : b ≤ d) : a ≤ d - 1 := by
  have := Nat.le_of_ble_eq_true h; omega
theorem le_t {a b d : Nat} (h : Nat.ble a b = true) (h2 : b ≤ d) : a ≤ d := by
  have := Nat.le_of_ble_eq_true h; omega
theorem le_r {D a b d : Nat} (h : Nat.ble (a + 1) b = true) (h2 : D + b ≤ d) : D + a ≤ d - 1 := by
  have := Nat.le_of_ble_eq_true h; omega
theorem le_r0 {D b d : Nat} (h : Nat.ble 1 b = true) (h2 : D + b ≤ d) : D ≤ d - 1 := by
  have := Nat.le_of_ble_eq_true h; omega
/-- what a throwing method's function answers: (value, memory), or what is thrown and the memory before the thrown object is made -/
def thrQ {β : Type} (r : β ⊕ (Nat × Mm)) : Nat → Mm → Prop := fun k M' => ∃ (Mr : Mm) (n : Nat), r = Sum.inr (k, Mr) ∧ nx Mr ≤ n ∧ M' = sXm Mr n
def bX {β : Type} (x : Option (Mm ⊕ (Nat × Mm))) (K : Mm → Option (β ⊕ (Nat × Mm))) : Option (β ⊕ (Nat × Mm)) := match x with
  | none => none
  | some (Sum.inl M') => K M'
  | some (Sum.inr q) => some (Sum.inr q)
theorem cal_x {β : Type} {r : β ⊕ (Nat × Mm)} {x : Option (Mm ⊕ (Nat × Mm))} {K : Mm → Option (β ⊕ (Nat × Mm))} {C : (Mm → Prop) → (Nat → Mm → Prop) → Prop} {F : Mm → Prop} (h : bX x K = some r) (hc : ∀ q, x = some q → C (fun M' => q = Sum.inl M') (thrQ q)) (hk : ∀ M', K M' = some r → F M') : ∃ (P : Mm → Prop) (PX : Nat → Mm → Prop), C P PX ∧ (∀ M' : Mm, P M' → F M') ∧ ∀ (k : Nat) (M' : Mm), PX k M' → thrQ r k M' := by
  cases hx : x with
  | none => rw [hx] at h; exact nomatch h
  | some q =>
    rw [hx] at h
    refine ⟨_, _, hc q hx, fun M' e => hk M' (by rw [e] at h; exact h), fun k M' e => ?_⟩
    obtain ⟨Mr, n, e1, e2, e3⟩ := e
    rw [e1] at h
    exact ⟨Mr, n, (Option.some.inj h).symm, e2, e3⟩
theorem txl_c {R : Type} {r : R} {n : Nat} {x : Option R} {F : Prop} (h : (if n < 100 then x else none) = some r) (k : x = some r → F) : n < 100 ∧ F := by
  split at h
  · next h1 => exact ⟨h1, k h⟩
  · exact nomatch h
theorem lgA {l : List AV} (h : l.all (fun v => !isLg (some v)) = true) : ∀ v ∈ l, isLg (some v) = false := fun v hv => by
  have := List.all_eq_true.mp h v hv
  simpa using this
def FU : Nat := 10000
def lt0 {R : Type} (m : Mm) (K : Mm → Option R) : Option R := K m
theorem lt0_c {R : Type} {r : R} {m : Mm} {K : Mm → Option R} {F : Mm → Prop} (h : lt0 m K = some r) (k : ∀ M1, K M1 = some r → F M1) : ∀ M1 : Mm, M1 = m → F M1 := fun M1 e => k M1 (by rw [e]; exact h)
