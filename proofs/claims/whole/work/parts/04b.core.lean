/-! # core, 1: values, memory, worlds -/
/-- abstract values: an int, a long, null, or a typed reference (address, kind, number) -/
abbrev AV : Type := Int32 ⊕ (Int64 ⊕ (Option (Nat × Nat × Nat)))
abbrev vI (x : Int32) : AV := Sum.inl x
abbrev vL (x : Int64) : AV := Sum.inr (Sum.inl x)
abbrev vN : AV := Sum.inr (Sum.inr none)
abbrev vR (a k n : Nat) : AV := Sum.inr (Sum.inr (some (a, k, n)))
def cv (v : AV) : Value := match v with
  | Sum.inl x => .int x
  | Sum.inr (Sum.inl x) => .long x
  | Sum.inr (Sum.inr none) => .null
  | Sum.inr (Sum.inr (some q)) => .ref q.1
abbrev LA : Type := List (Option AV)
/-- memory: next address, kinds, ints, longs, references -/
abbrev Mm : Type := Nat × (Nat → Nat × Nat) × (Nat → Nat → Int32) × (Nat → Nat → Int64) × (Nat → Nat → Option Nat)
def nx (M : Mm) : Nat := M.1
def kd (M : Mm) : Nat → Nat × Nat := M.2.1
def gI (M : Mm) (a j : Nat) : Int32 := M.2.2.1 a j
def gL (M : Mm) (a j : Nat) : Int64 := M.2.2.2.1 a j
def gR (M : Mm) (a j : Nat) : Option Nat := M.2.2.2.2 a j
def sI (M : Mm) (a j : Nat) (v : Int32) : Mm := (M.1, M.2.1, fun a' j' => if a' = a ∧ j' = j then v else M.2.2.1 a' j', M.2.2.2)
def sL (M : Mm) (a j : Nat) (v : Int64) : Mm := (M.1, M.2.1, M.2.2.1, fun a' j' => if a' = a ∧ j' = j then v else M.2.2.2.1 a' j', M.2.2.2.2)
def sR (M : Mm) (a j : Nat) (v : Option Nat) : Mm := (M.1, M.2.1, M.2.2.1, M.2.2.2.1, fun a' j' => if a' = a ∧ j' = j then v else M.2.2.2.2 a' j')
/-- a new cell of a kind, all 0 and null -/
def sN (M : Mm) (k n : Nat) : Mm := (M.1 + 1, fun a => if a = M.1 then (k, n) else M.2.1 a, fun a j => if a = M.1 then 0 else M.2.2.1 a j, fun a j => if a = M.1 then 0 else M.2.2.2.1 a j, fun a j => if a = M.1 then none else M.2.2.2.2 a j)
/-- a new grid: the outer row, then its rows of k ints -/
def sG (M : Mm) (n k : Nat) : Mm := (M.1 + (1 + n), fun a => if a = M.1 then (1000 + k, n) else if M.1 < a ∧ a < M.1 + (1 + n) then (14, k) else M.2.1 a, fun a j => if M.1 ≤ a ∧ a < M.1 + (1 + n) then 0 else M.2.2.1 a j, fun a j => if M.1 ≤ a ∧ a < M.1 + (1 + n) then 0 else M.2.2.2.1 a j, fun a j => if M.1 ≤ a ∧ a < M.1 + (1 + n) then none else M.2.2.2.2 a j)
/-- another kind -/
def sK (M : Mm) (a k : Nat) : Mm := (M.1, fun a' => if a' = a then (k, 0) else M.2.1 a', M.2.2)
theorem nx_sI (M : Mm) (a j : Nat) (v : Int32) : nx (sI M a j v) = nx M := rfl
theorem nx_sL (M : Mm) (a j : Nat) (v : Int64) : nx (sL M a j v) = nx M := rfl
theorem nx_sR (M : Mm) (a j : Nat) (v : Option Nat) : nx (sR M a j v) = nx M := rfl
theorem kd_sI (M : Mm) (a j : Nat) (v : Int32) : kd (sI M a j v) = kd M := rfl
theorem kd_sL (M : Mm) (a j : Nat) (v : Int64) : kd (sL M a j v) = kd M := rfl
theorem kd_sR (M : Mm) (a j : Nat) (v : Option Nat) : kd (sR M a j v) = kd M := rfl
theorem gI_sI (M : Mm) (a j : Nat) (v : Int32) (a' j' : Nat) : gI (sI M a j v) a' j' = if a' = a ∧ j' = j then v else gI M a' j' := rfl
theorem gI_sL (M : Mm) (a j : Nat) (v : Int64) (a' j' : Nat) : gI (sL M a j v) a' j' = gI M a' j' := rfl
theorem gI_sR (M : Mm) (a j : Nat) (v : Option Nat) (a' j' : Nat) : gI (sR M a j v) a' j' = gI M a' j' := rfl
theorem gL_sI (M : Mm) (a j : Nat) (v : Int32) (a' j' : Nat) : gL (sI M a j v) a' j' = gL M a' j' := rfl
theorem gL_sL (M : Mm) (a j : Nat) (v : Int64) (a' j' : Nat) : gL (sL M a j v) a' j' = if a' = a ∧ j' = j then v else gL M a' j' := rfl
theorem gL_sR (M : Mm) (a j : Nat) (v : Option Nat) (a' j' : Nat) : gL (sR M a j v) a' j' = gL M a' j' := rfl
theorem gR_sI (M : Mm) (a j : Nat) (v : Int32) (a' j' : Nat) : gR (sI M a j v) a' j' = gR M a' j' := rfl
theorem gR_sL (M : Mm) (a j : Nat) (v : Int64) (a' j' : Nat) : gR (sL M a j v) a' j' = gR M a' j' := rfl
theorem gR_sR (M : Mm) (a j : Nat) (v : Option Nat) (a' j' : Nat) : gR (sR M a j v) a' j' = if a' = a ∧ j' = j then v else gR M a' j' := rfl
/-! ## worlds -/
/-- launch, class numbers and slots, array classes, the heap at the law's entry, addresses of the texts and of their bytes, the script -/
abbrev GT : Type := Launch × va_G × (Nat → ClassId) × Heap × (Nat → Nat) × (Nat → Nat) × (Nat × Nat × (Nat → Int32))
def gl (G : GT) : Launch := G.1
def gD (G : GT) : va_G := G.2.1
def gA (G : GT) : Nat → ClassId := G.2.2.1
def gB (G : GT) : Heap := G.2.2.2.1
def gK (G : GT) : Nat → Nat := G.2.2.2.2.1
def gV (G : GT) : Nat → Nat := G.2.2.2.2.2.1
def gS (G : GT) : Nat × Nat × (Nat → Int32) := G.2.2.2.2.2.2
/-- what a field holds: (0) an int, (1, off, ..) the cell off behind the object, (2, ..) any reference -/
def fv (M : Mm) (a j : Nat) (t : Nat × Nat × Nat × Nat) : Value := match t.1 with
  | 0 => .int (gI M a j)
  | 1 => .ref (a + t.2.1)
  | _ => va_rf (gR M a j)
/-- the fields of a kind: 1 .. the finished objects, 201 .. those that are being made -/
def ftb (k : Nat) : List (Nat × Nat × Nat × Nat) := if 200 < k then (ftF.getD (k - 201) []).map (fun t => if t.1 = 1 then (2, 0, t.2.2) else t) else ftF.getD (k - 1 + 100 * (1 - k)) []
def cix (k : Nat) : Nat := if 200 < k then k - 201 else k - 1
def fvs (M : Mm) (a k : Nat) : List Value := (ftb k).zipIdx.map (fun q => fv M a q.2 q.1)
def ce (G : GT) (M : Mm) (a : Nat) : va_E :=
  if (kd M a).1 = 14 then .inl (gA G 14, ((kd M a).2, .inl (gI M a)))
  else if (kd M a).1 = 15 then .inl (gA G 15, ((kd M a).2, .inr (.inl (gL M a))))
  else if (kd M a).1 = 16 ∨ (kd M a).1 = 17 then .inl (gA G (kd M a).1, ((kd M a).2, .inr (.inr (.inr (.inr (gR M a))))))
  else if 1000 ≤ (kd M a).1 then .inl (gA G 18, ((kd M a).2, .inr (.inr (.inr (.inr (fun j => some (a + 1 + j)))))))
  else .inr (cix (kd M a).1, fvs M a (kd M a).1)
def tyO (M : Mm) : Prop := ∀ a : Nat,
  (∀ (j : Nat) (t : Nat × Nat × Nat × Nat), (kd M a).1 < 1000 → (ftb (kd M a).1)[j]? = some t → (t.1 = 1 → kd M (a + t.2.1) = (t.2.2.1, t.2.2.2)) ∧ (t.1 = 2 → ∀ b, gR M a j = some b → kd M b = (t.2.2.1, t.2.2.2))) ∧
  (1000 ≤ (kd M a).1 → ∀ j, j < (kd M a).2 → kd M (a + 1 + j) = (14, (kd M a).1 - 1000)) ∧
  ((kd M a).1 = 16 → ∀ j b, j < (kd M a).2 → gR M a j = some b → kd M b = (4, 0)) ∧
  ((kd M a).1 = 17 → ∀ j b, j < (kd M a).2 → gR M a j = some b → kd M b = (11, 0))
/-- the heap holds the memory -/
def Rel (G : GT) (M : Mm) (H : Heap) : Prop :=
  nx M = H.size ∧ (gB G).size ≤ H.size ∧ (∀ q : Nat, q < (gB G).size → H[q]? = (gB G)[q]?) ∧
  (∀ a : Nat, (kd M a).1 ≠ 0 → (gB G).size ≤ a ∧ a < nx M ∧ va_at (gD G) vwCl (a, ce G M a) H) ∧ tyO M
/-- a text (number n), or the row of its bytes (number 100 + n) -/
def okT (G : GT) (a n : Nat) : Prop := (n < strT.length ∧ a = gK G n) ∨ (100 ≤ n ∧ n < 100 + strT.length ∧ a = gV G (n - 100))
/-- a value's type is right -/
def okV (G : GT) (M : Mm) (v : AV) : Prop := match v with
  | Sum.inr (Sum.inr (some q)) => if q.2.1 = 30 then okT G q.1 q.2.2 else if q.2.1 = 31 then q.1 = (gS G).1 ∧ q.2.2 = (gS G).2.1 else if q.2.1 = 32 then True else (kd M q.1 = q.2 ∧ q.2.1 ≠ 0)
  | _ => True
def okS (G : GT) (M : Mm) (st : List AV) : Prop := ∀ v ∈ st, okV G M v
def okL (G : GT) (M : Mm) (al : LA) : Prop := ∀ v, some v ∈ al → okV G M v
/-- kinds stay, but for the object x that is being made -/
def Grow (x : Option Nat) (M M' : Mm) : Prop := nx M ≤ nx M' ∧ ∀ b, (kd M b).1 ≠ 0 → x ≠ some b → kd M' b = kd M b
theorem Grow.rf (x : Option Nat) (M : Mm) : Grow x M M := ⟨Nat.le_refl _, fun _ _ _ => rfl⟩
theorem Grow.trans {x : Option Nat} {M M1 M2 : Mm} (h : Grow x M M1) (h2 : Grow x M1 M2) : Grow x M M2 :=
  ⟨Nat.le_trans h.1 h2.1, fun b h0 hx => by rw [h2.2 b (by rw [h.2 b h0 hx]; exact h0) hx]; exact h.2 b h0 hx⟩
theorem Grow.weak {x : Option Nat} {M M1 : Mm} (h : Grow none M M1) : Grow x M M1 := ⟨h.1, fun b h0 _ => h.2 b h0 (fun e => nomatch e)⟩
theorem okV.kept {G : GT} {M M' : Mm} {v : AV} (hk : kd M' = kd M) (h : okV G M v) : okV G M' v := by
  rcases v with x | x | _ | q
  · trivial
  · trivial
  · trivial
  · simp only [okV, hk] at h ⊢; exact h
theorem okV.grow {G : GT} {M M' : Mm} {v : AV} (hg : Grow none M M') (h : okV G M v) : okV G M' v := by
  rcases v with x | x | _ | q
  · trivial
  · trivial
  · trivial
  · simp only [okV] at h ⊢
    split at h
    · next h1 => rw [if_pos h1]; exact h
    · next h1 =>
      rw [if_neg h1]
      split at h
      · next h2 => rw [if_pos h2]; exact h
      · next h2 =>
        rw [if_neg h2]
        split at h
        · next h3 => rw [if_pos h3]; trivial
        · next h3 =>
          rw [if_neg h3]
          exact ⟨by rw [hg.2 q.1 (by rw [h.1]; exact h.2) (fun e => nomatch e)]; exact h.1, h.2⟩
def wNest : Cond → Bool
  | .fieldLinkNest .. => true
  | .methodLinkNest .. => true
  | .castable .. => true
  | .declares _ => true
  | _ => false
/-- the words that go along with every call -/
def gtb : List Cond := lw_tbl.filter goodWord
abbrev tysG (G : GT) : List (ClassId × FieldType) := [(gA G 14, .int), (gA G 15, .long), (gA G 16, .object "ChalkWall$Image"), (gA G 17, .object "ChalkWall$Wall"), (gA G 18, .array .int)]
def gAb (G : GT) : Nat → Prop := fun q => (gB G).size ≤ q
/-- texts: where each is named, what it holds -/
def GStr (G : GT) (U : State) : Prop := ∀ (i : Nat) (t : String × Nat × String × List Int32), strT[i]? = some t →
  vk_R t.1 t.2.1 t.2.2.1 (gK G i) U ∧ va_O "java/lang/String" (gK G i) (gAb G) U (gB G) ∧ va_OF "java/lang/String" "coder" "B" (.int 0) (gK G i) (gAb G) U (gB G) ∧ va_OF "java/lang/String" "value" "[B" (.ref (gV G i)) (gK G i) (gAb G) U (gB G) ∧ va_T .byte (gV G i) t.2.2.2.length (fun j => .int (t.2.2.2.getD j 0)) (gAb G) U (gB G)
/-- what else is known of the start: statics, the script -/
def GSta (G : GT) (U : State) : Prop :=
  va_Z "java/lang/String" "COMPACT_STRINGS" "Z" (.int 1) (gAb G) U (gB G) ∧ vx_Zq Bundle.tN "UNASSIGNED_STACK" Bundle.steD (gAb G) U (gB G) ∧ vx_Zq Bundle.tN "SUPPRESSED_SENTINEL" Bundle.listD (gAb G) U (gB G) ∧
  va_X (gS G).1 (gS G).2.1 (gS G).2.2 U (gB G) ∧ (gS G).1 < (gB G).size ∧ (gl G).stackTraces = false ∧ va_Nc "java/lang/IllegalArgumentException" "java/util/NoSuchElementException" U ∧ va_Zq "jdk/internal/util/Preconditions" "SIOOBE_FORMATTER" "Ljava/util/function/BiFunction;" (gAb G) U (gB G)
theorem va_AOA.moved {ty : FieldType} {u U : State} (hvm : u.vm.Alike U.vm) (h : va_AOA ty u) : va_AOA ty U := by
  have e := Cond.arrayOver_setVmC (args := #[]) (s := u) hvm (.array ty)
  have h1 : (Cond.arrayOver (.array ty)).before #[] (u.setVm U.vm) = true := by rw [e]; exact h
  exact h1
/-- words on the tables that aren't kept by their form -/
def GWrd (U : State) : Prop := (∀ w ∈ lw_tbl, wNest w = true → va_Nw w U) ∧ va_AO "ChalkWall$Wall" U ∧ va_AO "ChalkWall$Image" U ∧ va_AOA .int U
def GK (G : GT) (U : State) : Prop := va_K (gD G) vwCl (tysG G) U ∧ GWrd U ∧ GStr G U ∧ GSta G U
theorem va_X.moved2 {b L : Nat} {xs : Nat → Int32} {u U : State} {H : Heap} (hvm : u.vm.Alike U.vm) (h : va_X b L xs u H) : va_X b L xs U H := by
  obtain ⟨scr, h1, h2, h3, h4, h5⟩ := h
  exact ⟨scr, h1, State.isArrayOf_alike hvm h2, h3, h4, h5⟩
theorem GK.warm {G : GT} {s U : State} (hW : s.WarmedH U.vm) (h : GK G s) : GK G U := by
  obtain ⟨h1, ⟨w1, w2, w3, w4⟩, h3, h4, h5, h6, h7, h8, h9, h10, h11⟩ := h
  have hal := hW.alike
  refine ⟨va_K.moved hal h1, ⟨fun w hw hn => ?_, va_AO.moved hal w2, va_AO.moved hal w3, va_AOA.moved hal w4⟩, fun i t ht => ?_, va_Z.moved hal h4, vx_Zq.moved hal h5, vx_Zq.moved hal h6, va_X.moved2 hal h7, h8, h9, va_Nc.moved hal h10, va_Zq.moved hal h11⟩
  · have hz := w1 w hw hn
    cases w <;> first | exact va_Nw.warmF hW hz | exact va_Nw.warmM hW hz | exact va_Nw.warmC hW hz | exact va_Nw.warmD hW hz | (simp [wNest] at hn)
  · obtain ⟨q1, q2, q3, q4, q5⟩ := h3 i t ht
    exact ⟨vk_R.warm hW q1, va_O.moved hal q2, va_OF.moved hal q3, va_OF.moved hal q4, va_T.moved hal q5⟩
theorem GK.same {G : GT} {s U : State} (hv : U.vm = s.vm) (h : GK G s) : GK G U := GK.warm (by rw [hv]; exact State.WarmedH.refl s) h
