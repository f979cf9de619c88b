/-! # functional level, 50: two numbers, one behind the other -/
section
variable {M M' M1 M2 N : Mm} {t m E a k f n s : Nat} {T : Nat → Nat} {p0 p1 p2 p3 : Int32}
/-- where the first number ends -/
def nE (T : Nat → Nat) (E a : Nat) : Nat := (dg T E (sk T E a)).1
def nV (T : Nat → Nat) (E a : Nat) : Nat := (dg T E (sk T E a)).2
def n2k (T : Nat → Nat) (E a : Nat) (p0 p1 p2 p3 : Int32) : Nat := if nK T E a p0 p1 ≠ 0 then nK T E a p0 p1 else nK T E (nE T E a) p2 p3
def n2f (T : Nat → Nat) (E a : Nat) (p0 p1 : Int32) : Nat := if nK T E a p0 p1 ≠ 0 then sk T E a else sk T E (nE T E a)
theorem C_two (h : CTp M t T E a 0 f) : ∃ z1 z2 M1 M2, f_Tape_number t p0 p1 M = some (z1, M1) ∧ f_Tape_number t p2 p3 M1 = some (z2, M2) ∧ FX (tD t) M M1 ∧ FX (tD t) M1 M2 ∧ ((n2k T E a p0 p1 p2 p3 = 0 ∧ nK T E a p0 p1 = 0 ∧ nK T E (nE T E a) p2 p3 = 0 ∧ z1 = nI (nV T E a) ∧ z2 = nI (nV T E (nE T E a)) ∧ CTp M2 t T E (nE T E (nE T E a)) 0 f) ∨ (n2k T E a p0 p1 p2 p3 ≠ 0 ∧ ∃ a', CTp M2 t T E a' (n2k T E a p0 p1 p2 p3) (n2f T E a p0 p1))) := by
  obtain ⟨M1, e1, f1, h1⟩ := C_number (p0 := p0) (p1 := p1) h
  obtain ⟨M2, e2, f2, h2⟩ := C_number (p0 := p2) (p1 := p3) h1
  refine ⟨_, _, M1, M2, e1, e2, f1, f2, ?_⟩
  by_cases c1 : nK T E a p0 p1 = 0
  · have ek : n2k T E a p0 p1 p2 p3 = nK T E (nE T E a) p2 p3 := if_neg (fun q => q c1)
    have ef : n2f T E a p0 p1 = sk T E (nE T E a) := if_neg (fun q => q c1)
    rw [nO_0 c1] at h2
    rw [ek, ef]
    by_cases c2 : nK T E (nE T E a) p2 p3 = 0
    · have h3 : CTp M2 t T E (nE T E (nE T E a)) (nO 0 f T E (nE T E a) p2 p3).1 (nO 0 f T E (nE T E a) p2 p3).2 := h2
      rw [nO_0 c2] at h3
      exact Or.inl ⟨c2, c1, c2, rfl, rfl, h3⟩
    · have h3 : CTp M2 t T E (nE T E (nE T E a)) (nO 0 f T E (nE T E a) p2 p3).1 (nO 0 f T E (nE T E a) p2 p3).2 := h2
      rw [nO_1 c2] at h3
      exact Or.inr ⟨c2, _, h3⟩
  · have ek : n2k T E a p0 p1 p2 p3 = nK T E a p0 p1 := if_pos c1
    have ef : n2f T E a p0 p1 = sk T E a := if_pos c1
    rw [nO_1 c1, nO_F c1] at h2
    rw [ek, ef]
    exact Or.inr ⟨c1, _, h2⟩
theorem M_two (h : MTp M m T E a 0 f) (hp : p1 < nI 100000) (hp3 : p3 < nI 100000) : ∃ z1 z2 M1 M2, f_M_number m p0 p1 M = some (z1, M1) ∧ f_M_number m p2 p3 M1 = some (z2, M2) ∧ FX (uD m) M M1 ∧ FX (uD m) M1 M2 ∧ ((n2k T E a p0 p1 p2 p3 = 0 ∧ z1 = nI (nV T E a) ∧ z2 = nI (nV T E (nE T E a)) ∧ MTp M2 m T E (nE T E (nE T E a)) 0 f) ∨ (n2k T E a p0 p1 p2 p3 ≠ 0 ∧ ∃ a', MTp M2 m T E a' (n2k T E a p0 p1 p2 p3) (n2f T E a p0 p1))) := by
  obtain ⟨z1, M1, e1, f1, h1, hz1⟩ := M_number (p0 := p0) (p1 := p1) h hp
  by_cases c1 : nK T E a p0 p1 = 0
  · have ek : n2k T E a p0 p1 p2 p3 = nK T E (nE T E a) p2 p3 := if_neg (fun q => q c1)
    have ef : n2f T E a p0 p1 = sk T E (nE T E a) := if_neg (fun q => q c1)
    have hz1 := hz1 (by rw [nO_0 c1])
    rw [nO_0 c1] at h1
    obtain ⟨z2, M2, e2, f2, h2, hz2⟩ := M_number (p0 := p2) (p1 := p3) h1 hp3
    refine ⟨z1, z2, M1, M2, e1, e2, f1, f2, ?_⟩
    rw [ek, ef]
    have h3 : MTp M2 m T E (nE T E (nE T E a)) (nO 0 f T E (nE T E a) p2 p3).1 (nO 0 f T E (nE T E a) p2 p3).2 := h2
    have hz3 : (nO 0 f T E (nE T E a) p2 p3).1 = 0 → z2 = nI (nV T E (nE T E a)) := hz2
    by_cases c2 : nK T E (nE T E a) p2 p3 = 0
    · rw [nO_0 c2] at h3 hz3
      exact Or.inl ⟨c2, hz1, hz3 rfl, h3⟩
    · rw [nO_1 c2] at h3
      exact Or.inr ⟨c2, _, h3⟩
  · have ek : n2k T E a p0 p1 p2 p3 = nK T E a p0 p1 := if_pos c1
    have ef : n2f T E a p0 p1 = sk T E a := if_pos c1
    rw [nO_1 c1] at h1
    refine ⟨z1, nI 0, M1, M1, e1, M_numberF h1 c1, f1, FX.rf _ M1, ?_⟩
    rw [ek, ef]
    exact Or.inr ⟨c1, _, h1⟩
/-! what a clause puts into a port -/
def qRow (Q : TT) (v : Nat) : TT := up (up Q 1 (Q 0 0) v) 0 0 (Q 0 0 + 1)
def qBid (Q : TT) (v w : Nat) : TT := up (up (up Q 2 (Q 0 2) v) 3 (Q 0 2) w) 0 2 (Q 0 2 + 1)
def qWri (Q : TT) (v w : Nat) : TT := up (up (up (up Q 4 (Q 0 5) v) 5 (Q 0 5) w) 6 (Q 0 5) 0) 0 5 (Q 0 5 + 1)
def qKin (Q : TT) (v w : Nat) : TT := up Q 7 v w
def qKno (Q : TT) (v w : Nat) : TT := up Q 6 v (Q 6 v ||| 2 ^ w)
end
