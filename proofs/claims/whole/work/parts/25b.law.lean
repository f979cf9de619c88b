/-! # functional level, 65: what a law's text says -/
/-- kind and place of the first fault, the place behind, codes -/
abbrev Ou : Type := Nat × Nat × Nat × Nat × (Nat → Nat)
def bO (r : Ou) (K : Nat → Nat → (Nat → Nat) → Ou) : Ou := if r.1 ≠ 0 then r else K r.2.2.1 r.2.2.2.1 r.2.2.2.2
def sgO (T : Nat → Nat) (E c a n : Nat) (L : Nat → Nat) : Ou := if sk T E a < E ∧ T (sk T E a) = c then (0, 4294967295, sk T E a + 1, n, L) else (1, sk T E a, 0, n, L)
def ptO (c a n : Nat) (L : Nat → Nat) : Ou := (0, 4294967295, a, n + 1, upv L n c)
def uO (ρ : Nat → Nat → (Nat → Nat) → Ou) (T : Nat → Nat) (E w a n : Nat) (L : Nat → Nat) : Ou :=
  bO (sgO T E 91 a n L) (fun a n L => bO (ρ a n L) (fun a n L => bO (sgO T E 44 a n L) (fun a n L => bO (ρ a n L) (fun a n L => bO (sgO T E 93 a n L) (ptO w)))))
def uB (ρ : Nat → Nat → (Nat → Nat) → Ou) (T : Nat → Nat) (E a n : Nat) (L : Nat → Nat) : Ou := bO (ρ a n L) (sgO T E 41)
def uU (ρ : Nat → Nat → (Nat → Nat) → Ou) (T : Nat → Nat) (E op a n : Nat) (L : Nat → Nat) : Ou :=
  if kgv (cR T E a) ≠ 8 then (0, 4294967295, sk T E a + (cR T E a).length, n + 1, upv L n (1000 + kgv (cR T E a)))
  else if sk T E a < E ∧ isDg (T (sk T E a)) = true then (if nK T E a (nI 0) (nI 999) ≠ 0 then (nK T E a (nI 0) (nI 999), sk T E a, 0, n, L) else (0, 4294967295, nE T E a, n + 1, upv L n (nV T E a)))
  else if cR T E a = wLea ∨ cR T E a = wMos then (if 6 ≤ op then (3, sk T E a, 0, n, L) else uO ρ T E (if cR T E a = wLea then 2005 else 2006) (sk T E a + (cR T E a).length) n L)
  else if sk T E a < E ∧ T (sk T E a) = 40 then (if 6 ≤ op then (3, sk T E a, 0, n, L) else uB ρ T E (sk T E a + 1) n L)
  else (1, sk T E a, 0, n, L)
def oP1 (x : Nat) : Nat := if x = 42 then 2002 else if x = 47 then 2003 else if x = 37 then 2004 else 0
def oS1 (x : Nat) : Nat := if x = 43 then 2000 else if x = 45 then 2001 else 0
def opA (T : Nat → Nat) (E : Nat) (φ : Nat → Nat) (a : Nat) : Nat := if sk T E a < E then φ (T (sk T E a)) else 0
def lpO (T : Nat → Nat) (E : Nat) (φ : Nat → Nat) (K : Nat → Nat → (Nat → Nat) → Ou) : Nat → Nat → Nat → (Nat → Nat) → Ou
  | 0, a, n, L => (0, 4294967295, sk T E a, n, L)
  | u + 1, a, n, L => if opA T E φ a = 0 then (0, 4294967295, sk T E a, n, L) else bO (K (sk T E a + 1) n L) (fun a' n' L' => lpO T E φ K u a' (n' + 1) (upv L' n' (opA T E φ a)))
def uP (ρ : Nat → Nat → (Nat → Nat) → Ou) (T : Nat → Nat) (E op a n : Nat) (L : Nat → Nat) : Ou := bO (uU ρ T E op a n L) (lpO T E oP1 (uU ρ T E op) (E + 1))
def uS0 (ρ : Nat → Nat → (Nat → Nat) → Ou) (T : Nat → Nat) (E op a n : Nat) (L : Nat → Nat) : Ou := bO (uP ρ T E op a n L) (lpO T E oS1 (uP ρ T E op) (E + 1))
def uS (T : Nat → Nat) (E : Nat) : Nat → Nat → Nat → Nat → (Nat → Nat) → Ou
  | 0 => fun _ _ n L => (1, 0, 0, n, L)
  | k + 1 => fun op a n L => uS0 (uS T E k (op + 1)) T E op a n L
section
variable {T : Nat → Nat} {E a n c k op : Nat} {L : Nat → Nat}
theorem bO_s {r : Ou} {K : Nat → Nat → (Nat → Nat) → Ou} (h : r.1 = 0) : bO r K = K r.2.2.1 r.2.2.2.1 r.2.2.2.2 := if_neg (fun q => q h)
theorem bO_f {r : Ou} {K : Nat → Nat → (Nat → Nat) → Ou} (h : r.1 ≠ 0) : bO r K = r := if_pos h
theorem bO_0 {r : Ou} {K : Nat → Nat → (Nat → Nat) → Ou} (h : (bO r K).1 = 0) : r.1 = 0 := by
  by_cases c : r.1 = 0
  · exact c
  · rw [bO_f c] at h; exact absurd h c
/-! heights -/
theorem ht_upv : ∀ k, k ≤ n → ht (upv L n c) k = ht L k
  | 0 => fun _ => rfl
  | k + 1 => fun h => by
    show (if upv L n c k < 2000 then ht (upv L n c) k + 1 else ht (upv L n c) k - 1) = if L k < 2000 then ht L k + 1 else ht L k - 1
    rw [upv_n (by omega), ht_upv k (by omega)]
def gd (n : Nat) (L : Nat → Nat) : Prop := ∀ k, k < n → ((L k < 1008 ∨ 2000 ≤ L k) ∧ L k ≤ 2006) ∧ (2000 ≤ L k → 2 ≤ ht L k)
theorem gd_up (h : gd n L) (h1 : c < 1008 ∨ 2000 ≤ c) (h2 : c ≤ 2006) (h3 : 2000 ≤ c → 2 ≤ ht L n) : gd (n + 1) (upv L n c) := by
  intro k hk
  by_cases q : k = n
  · rw [q, upv_s, ht_upv n (Nat.le_refl _)]; exact ⟨⟨h1, h2⟩, h3⟩
  · rw [upv_n q, ht_upv k (by omega)]; exact h k (by omega)
theorem ht_v (h : c < 2000) : ht (upv L n c) (n + 1) = ht L n + 1 := by
  show (if upv L n c n < 2000 then ht (upv L n c) n + 1 else ht (upv L n c) n - 1) = _
  rw [upv_s, if_pos h, ht_upv n (Nat.le_refl _)]
theorem ht_o (h : 2000 ≤ c) : ht (upv L n c) (n + 1) = ht L n - 1 := by
  show (if upv L n c n < 2000 then ht (upv L n c) n + 1 else ht (upv L n c) n - 1) = _
  rw [upv_s, if_neg (by omega), ht_upv n (Nat.le_refl _)]
/-! what is true of an outcome: e places more than codes, the stack d higher -/
def gO (E e d a n : Nat) (L : Nat → Nat) (r : Ou) : Prop := r.1 = 0 → (a + e ≤ r.2.2.1 ∧ r.2.2.1 ≤ E ∧ r.2.2.2.1 + a + e ≤ n + r.2.2.1 + d) ∧ (gd n L → gd r.2.2.2.1 r.2.2.2.2 ∧ ht r.2.2.2.2 r.2.2.2.1 = ht L n + d)
theorem sgO_g (ha : a ≤ E) : gO E 1 0 a n L (sgO T E c a n L) := by
  intro h
  have hs := sk_b (T := T) ha
  unfold sgO at h ⊢
  by_cases q : sk T E a < E ∧ T (sk T E a) = c
  · rw [if_pos q]
    exact ⟨⟨by show a + 1 ≤ sk T E a + 1; omega, by show sk T E a + 1 ≤ E; omega, by show n + a + 1 ≤ n + (sk T E a + 1) + 0; omega⟩, fun g => ⟨g, rfl⟩⟩
  · rw [if_neg q] at h; exact absurd h (by show ¬ (1 : Nat) = 0; omega)
theorem bO_g {r : Ou} {K : Nat → Nat → (Nat → Nat) → Ou} {e1 d1 e2 d2 : Nat} (h1 : gO E e1 d1 a n L r) (h2 : r.1 = 0 → gO E e2 d2 r.2.2.1 r.2.2.2.1 r.2.2.2.2 (K r.2.2.1 r.2.2.2.1 r.2.2.2.2)) : gO E (e1 + e2) (d1 + d2) a n L (bO r K) := by
  intro h
  have h0 := bO_0 h
  rw [bO_s h0] at h ⊢
  obtain ⟨⟨x1, x2, x3⟩, x4⟩ := h1 h0
  obtain ⟨⟨y1, y2, y3⟩, y4⟩ := h2 h0 h
  refine ⟨⟨by omega, y2, by omega⟩, fun g => ?_⟩
  obtain ⟨g1, g2⟩ := x4 g
  obtain ⟨g3, g4⟩ := y4 g1
  exact ⟨g3, by omega⟩
theorem gO_w {r : Ou} {e d e' : Nat} (h : gO E e d a n L r) (he : e' ≤ e) : gO E e' d a n L r := by
  intro h0
  obtain ⟨⟨x1, x2, x3⟩, x4⟩ := h h0
  exact ⟨⟨by omega, x2, by omega⟩, x4⟩
end
