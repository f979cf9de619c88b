/-! # functional level, 66: what is true of what a law's text says -/
section
variable {T : Nat → Nat} {E a n c k op w : Nat} {L : Nat → Nat} {ρ K : Nat → Nat → (Nat → Nat) → Ou} {φ : Nat → Nat}
theorem gO_a {r : Ou} {e d a' : Nat} (h : gO E e d a' n L r) (ha : a ≤ a') : gO E e d a n L r := by
  intro h0
  obtain ⟨⟨x1, x2, x3⟩, x4⟩ := h h0
  exact ⟨⟨by omega, x2, by omega⟩, x4⟩
theorem uO_g (hρ : ∀ a n L, a ≤ E → gO E 1 1 a n L (ρ a n L)) (ha : a ≤ E) (hw : 2000 ≤ w) (hw2 : w ≤ 2006) : gO E 1 1 a n L (uO ρ T E w a n L) := by
  intro h
  unfold uO at h ⊢
  have s1 := bO_0 h
  rw [bO_s s1] at h ⊢
  obtain ⟨⟨a1, a2, a3⟩, a4⟩ := sgO_g (n := n) (L := L) ha s1
  generalize sgO T E 91 a n L = r1 at h s1 a1 a2 a3 a4 ⊢
  have s2 := bO_0 h
  rw [bO_s s2] at h ⊢
  obtain ⟨⟨b1, b2, b3⟩, b4⟩ := hρ _ _ _ a2 s2
  generalize ρ r1.2.2.1 r1.2.2.2.1 r1.2.2.2.2 = r2 at h s2 b1 b2 b3 b4 ⊢
  have s3 := bO_0 h
  rw [bO_s s3] at h ⊢
  obtain ⟨⟨c1, c2, c3⟩, c4⟩ := sgO_g (n := r2.2.2.2.1) (L := r2.2.2.2.2) b2 s3
  generalize sgO T E 44 r2.2.2.1 r2.2.2.2.1 r2.2.2.2.2 = r3 at h s3 c1 c2 c3 c4 ⊢
  have s4 := bO_0 h
  rw [bO_s s4] at h ⊢
  obtain ⟨⟨d1, d2, d3⟩, d4⟩ := hρ _ _ _ c2 s4
  generalize ρ r3.2.2.1 r3.2.2.2.1 r3.2.2.2.2 = r4 at h s4 d1 d2 d3 d4 ⊢
  have s5 := bO_0 h
  rw [bO_s s5] at h ⊢
  obtain ⟨⟨e1, e2, e3⟩, e4⟩ := sgO_g (n := r4.2.2.2.1) (L := r4.2.2.2.2) d2 s5
  generalize sgO T E 93 r4.2.2.1 r4.2.2.2.1 r4.2.2.2.2 = r5 at h s5 e1 e2 e3 e4 ⊢
  refine ⟨⟨by show a + 1 ≤ r5.2.2.1; omega, e2, by show r5.2.2.2.1 + 1 + a + 1 ≤ n + r5.2.2.1 + 1; omega⟩, fun g => ?_⟩
  obtain ⟨g1, h1⟩ := a4 g
  obtain ⟨g2, h2⟩ := b4 g1
  obtain ⟨g3, h3⟩ := c4 g2
  obtain ⟨g4, h4⟩ := d4 g3
  obtain ⟨g5, h5⟩ := e4 g4
  refine ⟨gd_up g5 (Or.inr hw) hw2 (fun _ => by omega), ?_⟩
  show ht (upv r5.2.2.2.2 r5.2.2.2.1 w) (r5.2.2.2.1 + 1) = ht L n + 1
  rw [ht_o hw]; omega
theorem cR_len (ha : a ≤ E) : sk T E a + (cR T E a).length ≤ E := by
  have hs := sk_b (T := T) ha
  have hl : (cR T E a).length ≤ E - sk T E a := rl_len ..
  omega
theorem len_1 {r : List Nat} (h : r ≠ []) : 1 ≤ r.length := by
  cases r with
  | nil => exact absurd rfl h
  | cons x r => exact Nat.succ_le_succ (Nat.zero_le _)
theorem uU_g (hT : ∀ i, i < E → T i < 256) (hρ : op < 6 → ∀ a n L, a ≤ E → gO E 1 1 a n L (ρ a n L)) (ha : a ≤ E) : gO E 1 1 a n L (uU ρ T E op a n L) := by
  have hs := sk_b (T := T) ha
  have hl := cR_len (T := T) ha
  unfold uU
  by_cases c1 : kgv (cR T E a) ≠ 8
  · rw [if_pos c1]
    intro _
    have l1 := len_1 (r := cR T E a) (fun q => c1 (by rw [q]; exact kgv_nil))
    have k8 := kgv_8 (cR T E a)
    refine ⟨⟨by show a + 1 ≤ sk T E a + (cR T E a).length; omega, hl, by show n + 1 + a + 1 ≤ n + (sk T E a + (cR T E a).length) + 1; omega⟩, fun g => ⟨gd_up g (Or.inl (by omega)) (by omega) (fun q => by omega), ?_⟩⟩
    show ht (upv L n (1000 + kgv (cR T E a))) (n + 1) = ht L n + 1
    rw [ht_v (by omega)]
  · rw [if_neg c1]
    by_cases c2 : sk T E a < E ∧ isDg (T (sk T E a)) = true
    · rw [if_pos c2]
      by_cases c3 : nK T E a (nI 0) (nI 999) ≠ 0
      · rw [if_pos c3]; intro h; exact absurd h c3
      · rw [if_neg c3]
        intro _
        have c3 := Decidable.not_not.mp c3
        have v := nV_in ha hT (by omega) (by omega) c3
        have lt := nV_lt ha hT
        have b1 := nE_b (T := T) ha
        have b2 := (nK_v (T := T) (E := E) (a := a) (lo := 0) (hi := 999) (by omega) (by omega) (by unfold nV at lt; omega) c3).1
        have b2 : sk T E a < nE T E a := b2
        refine ⟨⟨by show a + 1 ≤ nE T E a; omega, b1.2, by show n + 1 + a + 1 ≤ n + nE T E a + 1; omega⟩, fun g => ⟨gd_up g (Or.inl (by omega)) (by omega) (fun q => by omega), ?_⟩⟩
        show ht (upv L n (nV T E a)) (n + 1) = ht L n + 1
        rw [ht_v (by omega)]
    · rw [if_neg c2]
      by_cases c3 : cR T E a = wLea ∨ cR T E a = wMos
      · rw [if_pos c3]
        by_cases c4 : 6 ≤ op
        · rw [if_pos c4]; intro h; exact absurd h (by show ¬ (3 : Nat) = 0; omega)
        · rw [if_neg c4]
          refine gO_a (uO_g (hρ (by omega)) hl ?_ ?_) (by omega)
          · split <;> omega
          · split <;> omega
      · rw [if_neg c3]
        by_cases c4 : sk T E a < E ∧ T (sk T E a) = 40
        · rw [if_pos c4]
          by_cases c5 : 6 ≤ op
          · rw [if_pos c5]; intro h; exact absurd h (by show ¬ (3 : Nat) = 0; omega)
          · rw [if_neg c5]
            have hr := hρ (by omega) (sk T E a + 1) n L (by omega)
            refine gO_w (e := 1 + 1) (gO_a (a' := sk T E a + 1) ?_ (by omega)) (by omega)
            refine bO_g (d1 := 1) (d2 := 0) hr (fun h0 => sgO_g (hr h0).1.2.1)
        · rw [if_neg c4]; intro h; exact absurd h (by show ¬ (1 : Nat) = 0; omega)
/-- of a loop -/
def gLo (E a n : Nat) (L : Nat → Nat) (r : Ou) : Prop := r.1 = 0 → (a ≤ r.2.2.1 ∧ r.2.2.1 ≤ E ∧ r.2.2.2.1 + a ≤ n + r.2.2.1) ∧ (gd n L → 1 ≤ ht L n → gd r.2.2.2.1 r.2.2.2.2 ∧ ht r.2.2.2.2 r.2.2.2.1 = ht L n)
theorem opA_lt (h : opA T E φ a ≠ 0) : sk T E a < E := by
  unfold opA at h
  by_cases c : sk T E a < E
  · exact c
  · rw [if_neg c] at h; exact absurd rfl h
theorem lpO_g (hφ : ∀ x, φ x ≠ 0 → 2000 ≤ φ x ∧ φ x ≤ 2006) (hK : ∀ a n L, a ≤ E → gO E 1 1 a n L (K a n L)) : ∀ u a n L, a ≤ E → gLo E a n L (lpO T E φ K u a n L)
  | 0, a, n, L => fun ha _ => by
    have hs := sk_b (T := T) ha
    exact ⟨⟨hs.1, hs.2, by show n + a ≤ n + sk T E a; omega⟩, fun g _ => ⟨g, rfl⟩⟩
  | u + 1, a, n, L => fun ha => by
    have hs := sk_b (T := T) ha
    unfold lpO
    by_cases c : opA T E φ a = 0
    · rw [if_pos c]
      intro _
      exact ⟨⟨hs.1, hs.2, by show n + a ≤ n + sk T E a; omega⟩, fun g _ => ⟨g, rfl⟩⟩
    · rw [if_neg c]
      intro h
      have h0 := bO_0 h
      rw [bO_s h0] at h ⊢
      have lt := opA_lt c
      have hf : 2000 ≤ opA T E φ a ∧ opA T E φ a ≤ 2006 := by
        have : opA T E φ a = φ (T (sk T E a)) := if_pos lt
        rw [this] at c ⊢
        exact hφ _ c
      obtain ⟨⟨x1, x2, x3⟩, x4⟩ := hK (sk T E a + 1) n L (by omega) h0
      generalize K (sk T E a + 1) n L = r at h h0 x1 x2 x3 x4 ⊢
      obtain ⟨⟨y1, y2, y3⟩, y4⟩ := lpO_g hφ hK u r.2.2.1 (r.2.2.2.1 + 1) (upv r.2.2.2.2 r.2.2.2.1 (opA T E φ a)) x2 h
      refine ⟨⟨by omega, y2, by omega⟩, fun g g1 => ?_⟩
      obtain ⟨z1, z2⟩ := x4 g
      have z3 := ht_o (L := r.2.2.2.2) (n := r.2.2.2.1) hf.1
      obtain ⟨z4, z5⟩ := y4 (gd_up z1 (Or.inr hf.1) hf.2 (fun _ => by omega)) (by omega)
      exact ⟨z4, by omega⟩
theorem oP1_r (x : Nat) (h : oP1 x ≠ 0) : 2000 ≤ oP1 x ∧ oP1 x ≤ 2006 := by
  unfold oP1 at h ⊢
  repeat' split at h
  all_goals simp_all
theorem oS1_r (x : Nat) (h : oS1 x ≠ 0) : 2000 ≤ oS1 x ∧ oS1 x ≤ 2006 := by
  unfold oS1 at h ⊢
  repeat' split at h
  all_goals simp_all
theorem bL_g {r : Ou} {G : Nat → Nat → (Nat → Nat) → Ou} (h1 : gO E 1 1 a n L r) (h2 : r.1 = 0 → gLo E r.2.2.1 r.2.2.2.1 r.2.2.2.2 (G r.2.2.1 r.2.2.2.1 r.2.2.2.2)) : gO E 1 1 a n L (bO r G) := by
  intro h
  have h0 := bO_0 h
  rw [bO_s h0] at h ⊢
  obtain ⟨⟨x1, x2, x3⟩, x4⟩ := h1 h0
  obtain ⟨⟨y1, y2, y3⟩, y4⟩ := h2 h0 h
  refine ⟨⟨by omega, y2, by omega⟩, fun g => ?_⟩
  obtain ⟨g1, g2⟩ := x4 g
  obtain ⟨g3, g4⟩ := y4 g1 (by omega)
  exact ⟨g3, by omega⟩
theorem uP_g (hT : ∀ i, i < E → T i < 256) (hρ : op < 6 → ∀ a n L, a ≤ E → gO E 1 1 a n L (ρ a n L)) (ha : a ≤ E) : gO E 1 1 a n L (uP ρ T E op a n L) := by
  have h1 := uU_g (n := n) (L := L) hT hρ ha
  exact bL_g h1 (fun h0 => lpO_g oP1_r (fun a n L ha => uU_g hT hρ ha) _ _ _ _ (h1 h0).1.2.1)
theorem uS_g (hT : ∀ i, i < E → T i < 256) : ∀ k op a n L, a ≤ E → gO E 1 1 a n L (uS T E k op a n L)
  | 0, op, a, n, L => fun _ h => absurd h (by show ¬ (1 : Nat) = 0; omega)
  | k + 1, op, a, n, L => fun ha => by
    have h1 := uP_g (op := op) (n := n) (L := L) hT (fun _ => uS_g hT k (op + 1)) ha
    exact bL_g h1 (fun h0 => lpO_g oS1_r (fun a n L ha => uP_g hT (fun _ => uS_g hT k (op + 1)) ha) _ _ _ _ (h1 h0).1.2.1)
end
