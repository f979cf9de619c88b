/-! # functional level, 75: what a work's text says -/
abbrev Ov : Type := Nat × Nat × Nat × Nat × TT
def bW (r : Ov) (K : Nat → Nat → TT → Ov) : Ov := if r.1 ≠ 0 then r else K r.2.2.1 r.2.2.2.1 r.2.2.2.2
def sgW (T : Nat → Nat) (E c a n : Nat) (B : TT) : Ov := if sk T E a < E ∧ T (sk T E a) = c then (0, 4294967295, sk T E a + 1, n, B) else (1, sk T E a, 0, n, B)
def nmW (T : Nat → Nat) (E : Nat) (lo hi : Int32) (a n : Nat) (B : TT) (K : Nat → Nat → Ov) : Ov := if nK T E a lo hi ≠ 0 then (nK T E a lo hi, sk T E a, 0, n, B) else K (nV T E a) (nE T E a)
/-- a step: B 0 kind, B 1 writer, lowest row or times, B 2 bid, B 3 row, B 4 the step behind -/
def bSt (B : TT) (n k x y z j : Nat) : TT := up (up (up (up (up B 0 n k) 1 n x) 2 n y) 3 n z) 4 n j
def wT0 (ρ : Nat → Nat → TT → Ov) (P : TT) (T : Nat → Nat) (E op a n : Nat) (B : TT) : Ov :=
  if kst (cR T E a) = 0 then nmW T E (nI 0) (nI (P 0 5) - nI 1) (sk T E a + (cR T E a).length) n B (fun v1 a1 => nmW T E (nI 0) (nI (P 0 2) - nI 1) a1 n B (fun v2 a2 => nmW T E (nI 0) (nI (P 0 0) - nI 1) a2 n B (fun v3 a3 => sgW T E 59 a3 (n + 1) (bSt B n 0 v1 v2 v3 (n + 1)))))
  else if kst (cR T E a) = 1 then nmW T E (nI 0) (nI (P 0 2) - nI 1) (sk T E a + (cR T E a).length) n B (fun v a1 => sgW T E 59 a1 (n + 1) (bSt B n 1 0 v 0 (n + 1)))
  else if kst (cR T E a) = 2 then nmW T E (nI 1) (nI 4) (sk T E a + (cR T E a).length) n B (fun v a1 => sgW T E 59 a1 (n + 1) (bSt B n 2 v 0 0 (n + 1)))
  else if kst (cR T E a) = 3 then sgW T E 59 (sk T E a + (cR T E a).length) (n + 1) (bSt B n 3 0 0 0 (n + 1))
  else if kst (cR T E a) = 4 then (if 6 ≤ op then (3, sk T E a, 0, n, B) else nmW T E (nI 0) (nI 30) (sk T E a + (cR T E a).length) n B (fun v a1 => bW (sgW T E 91 a1 (n + 1) (bSt B n 4 v 0 0 0)) (fun a2 n2 B2 => bW (ρ a2 n2 B2) (fun a3 n3 B3 => sgW T E 59 a3 n3 (up B3 4 n n3)))))
  else (1, sk T E a, 0, n, B)
def wI (F : Nat → Nat → TT → Ov) (T : Nat → Nat) (E : Nat) : Nat → Nat → Nat → TT → Ov
  | 0, _, n, B => (1, 0, 0, n, B)
  | u + 1, a, n, B => if sk T E a < E ∧ T (sk T E a) = 93 then (0, 4294967295, sk T E a + 1, n, B) else bW (F a n B) (wI F T E u)
def wTp (F : Nat → Nat → TT → Ov) (T : Nat → Nat) (E : Nat) : Nat → Nat → Nat → TT → Ov
  | 0, _, n, B => (1, 0, 0, n, B)
  | u + 1, a, n, B => if E ≤ sk T E a then (0, 4294967295, sk T E a, n, B) else bW (F a n B) (wTp F T E u)
def wT (P : TT) (T : Nat → Nat) (E : Nat) : Nat → Nat → Nat → Nat → TT → Ov
  | 0 => fun _ _ n B => (1, 0, 0, n, B)
  | k + 1 => fun op a n B => wT0 (wI (wT P T E k (op + 1)) T E (E + 1)) P T E op a n B
/-! well made -/
def okSp (P B : TT) (k : Nat) : Prop := (B 0 k = 0 → B 1 k < P 0 5 ∧ B 2 k < P 0 2 ∧ B 3 k < P 0 0) ∧ (B 0 k = 1 → B 2 k < P 0 2) ∧ (B 0 k = 2 → B 1 k ≤ 4) ∧ (B 0 k = 4 → B 1 k ≤ 30) ∧ B 0 k ≤ 4
def wfs (P B : TT) : Nat → Nat → Nat → Nat → Prop
  | 0, _, lo, hi => lo = hi
  | u + 1, d, lo, hi => lo = hi ∨ ((lo < hi ∧ okSp P B lo) ∧ (lo < B 4 lo ∧ B 4 lo ≤ hi) ∧ (B 0 lo ≠ 4 → B 4 lo = lo + 1) ∧ (B 0 lo = 4 → 1 ≤ d ∧ wfs P B u (d - 1) (lo + 1) (B 4 lo)) ∧ wfs P B u d (B 4 lo) hi)
section
variable {T : Nat → Nat} {E a n c k op : Nat} {B P : TT}
theorem bW_s {r : Ov} {K : Nat → Nat → TT → Ov} (h : r.1 = 0) : bW r K = K r.2.2.1 r.2.2.2.1 r.2.2.2.2 := if_neg (fun q => q h)
theorem bW_f {r : Ov} {K : Nat → Nat → TT → Ov} (h : r.1 ≠ 0) : bW r K = r := if_pos h
theorem bW_0 {r : Ov} {K : Nat → Nat → TT → Ov} (h : (bW r K).1 = 0) : r.1 = 0 := by
  by_cases c : r.1 = 0
  · exact c
  · rw [bW_f c] at h; exact absurd h c
theorem wfs_le : ∀ u d lo hi, wfs P B u d lo hi → lo ≤ hi
  | 0, d, lo, hi => fun h => Nat.le_of_eq h
  | u + 1, d, lo, hi => fun h => by
    rcases h with h | h
    · exact Nat.le_of_eq h
    · omega
theorem wfs_mono : ∀ u d lo hi, wfs P B u d lo hi → wfs P B (u + 1) d lo hi
  | 0, d, lo, hi => fun h => Or.inl h
  | u + 1, d, lo, hi => fun h => by
    rcases h with h | ⟨h1, h2, h3, h4, h5⟩
    · exact Or.inl h
    · exact Or.inr ⟨h1, h2, h3, fun q => ⟨(h4 q).1, wfs_mono u _ _ _ (h4 q).2⟩, wfs_mono u _ _ _ h5⟩
theorem wfs_up {d lo hi : Nat} (u v : Nat) (h : wfs P B u d lo hi) : wfs P B (u + v) d lo hi := by
  induction v with
  | zero => exact h
  | succ v ih => exact wfs_mono _ _ _ _ ih
theorem wfs_app {mid hi v : Nat} : ∀ u d lo, wfs P B u d lo mid → wfs P B v d mid hi → wfs P B (u + v) d lo hi
  | 0, d, lo => fun h1 h2 => by
    have h1 : lo = mid := h1
    rw [h1, Nat.zero_add]; exact h2
  | u + 1, d, lo => fun h1 h2 => by
    rw [show u + 1 + v = u + v + 1 by omega]
    have hl := wfs_le _ _ _ _ h2
    rcases h1 with h1 | ⟨k1, k2, k3, k4, k5⟩
    · rw [h1, show u + v + 1 = v + (u + 1) by omega]
      exact wfs_up v (u + 1) h2
    · exact Or.inr ⟨⟨by omega, k1.2⟩, ⟨k2.1, by omega⟩, k3, fun q => ⟨(k4 q).1, wfs_up u v (k4 q).2⟩, wfs_app u d _ k5 h2⟩
theorem wfs_cg {B' : TT} : ∀ u d lo hi, (∀ i k, lo ≤ k → k < hi → B' i k = B i k) → wfs P B u d lo hi → wfs P B' u d lo hi
  | 0, d, lo, hi => fun _ h => h
  | u + 1, d, lo, hi => fun e h => by
    rcases h with h | ⟨h1, h2, h3, h4, h5⟩
    · exact Or.inl h
    · have e4 := e 4 lo (Nat.le_refl _) h1.1
      have e0 := e 0 lo (Nat.le_refl _) h1.1
      refine Or.inr ⟨⟨h1.1, ?_⟩, ?_, ?_, ?_, ?_⟩
      · unfold okSp at h1 ⊢
        rw [e0, e 1 lo (Nat.le_refl _) h1.1, e 2 lo (Nat.le_refl _) h1.1, e 3 lo (Nat.le_refl _) h1.1]
        exact h1.2
      · rw [e4]; exact h2
      · rw [e0, e4]; exact h3
      · rw [e0, e4]
        exact fun q => ⟨(h4 q).1, wfs_cg u _ _ _ (fun i k q1 q2 => e i k (by omega) (by omega)) (h4 q).2⟩
      · rw [e4]
        exact wfs_cg u _ _ _ (fun i k q1 q2 => e i k (by omega) q2) h5
theorem bSt_o {x y z j i k' : Nat} (h : k' ≠ n) : bSt B n k x y z j i k' = B i k' := by unfold bSt; rw [up_n (Or.inr h), up_n (Or.inr h), up_n (Or.inr h), up_n (Or.inr h), up_n (Or.inr h)]
theorem bSt_0 {x y z j : Nat} : bSt B n k x y z j 0 n = k := by unfold bSt; rw [up_n (by omega), up_n (by omega), up_n (by omega), up_n (by omega), up_s]
theorem bSt_1 {x y z j : Nat} : bSt B n k x y z j 1 n = x := by unfold bSt; rw [up_n (by omega), up_n (by omega), up_n (by omega), up_s]
theorem bSt_2 {x y z j : Nat} : bSt B n k x y z j 2 n = y := by unfold bSt; rw [up_n (by omega), up_n (by omega), up_s]
theorem bSt_3 {x y z j : Nat} : bSt B n k x y z j 3 n = z := by unfold bSt; rw [up_n (by omega), up_s]
theorem bSt_4 {x y z j : Nat} : bSt B n k x y z j 4 n = j := by unfold bSt; rw [up_s]
/-- a single step that is none of those with others in it -/
theorem wf_one {x y z d : Nat} (hk : k ≠ 4) (ho : okSp P (bSt B n k x y z (n + 1)) n) : wfs P (bSt B n k x y z (n + 1)) 1 d n (n + 1) :=
  Or.inr ⟨⟨by omega, ho⟩, by rw [bSt_4]; omega, fun _ => bSt_4, fun q => absurd (bSt_0.symm.trans q) hk, bSt_4⟩
/-! what is true of an outcome -/
def gW (P : TT) (E op a n : Nat) (B : TT) (r : Ov) : Prop := r.1 = 0 → (a + 6 ≤ r.2.2.1 ∧ r.2.2.1 ≤ E ∧ 6 * r.2.2.2.1 + a ≤ 6 * n + r.2.2.1) ∧ (n < r.2.2.2.1 ∧ ∀ i k, k < n → r.2.2.2.2 i k = B i k) ∧ r.2.2.2.2 4 n = r.2.2.2.1 ∧ ∃ u, wfs P r.2.2.2.2 u (6 - op) n r.2.2.2.1
def gWl (P : TT) (E op a n : Nat) (B : TT) (r : Ov) : Prop := r.1 = 0 → (a ≤ r.2.2.1 ∧ r.2.2.1 ≤ E ∧ 6 * r.2.2.2.1 + a ≤ 6 * n + r.2.2.1) ∧ (n ≤ r.2.2.2.1 ∧ ∀ i k, k < n → r.2.2.2.2 i k = B i k) ∧ ∃ u, wfs P r.2.2.2.2 u (6 - op) n r.2.2.2.1
theorem sgW_g (ha : a ≤ E) (h : (sgW T E c a n B).1 = 0) : (a + 1 ≤ (sgW T E c a n B).2.2.1 ∧ (sgW T E c a n B).2.2.1 ≤ E) ∧ (sgW T E c a n B).2.2.2.1 = n ∧ (sgW T E c a n B).2.2.2.2 = B := by
  have hs := sk_b (T := T) ha
  unfold sgW at h ⊢
  by_cases q : sk T E a < E ∧ T (sk T E a) = c
  · rw [if_pos q]
    exact ⟨⟨by show a + 1 ≤ sk T E a + 1; omega, by show sk T E a + 1 ≤ E; omega⟩, rfl, rfl⟩
  · rw [if_neg q] at h; exact absurd h (by show ¬ (1 : Nat) = 0; omega)
theorem nmW_0 {lo hi : Int32} {K : Nat → Nat → Ov} (h : (nmW T E lo hi a n B K).1 = 0) : nK T E a lo hi = 0 := by
  unfold nmW at h
  by_cases c : nK T E a lo hi ≠ 0
  · rw [if_pos c] at h; exact absurd h c
  · exact Decidable.not_not.mp c
theorem nmW_s {lo hi : Int32} {K : Nat → Nat → Ov} (h : nK T E a lo hi = 0) : nmW T E lo hi a n B K = K (nV T E a) (nE T E a) := if_neg (fun q => q h)
theorem nmW_f {lo hi : Int32} {K : Nat → Nat → Ov} (h : nK T E a lo hi ≠ 0) : nmW T E lo hi a n B K = (nK T E a lo hi, sk T E a, 0, n, B) := if_pos h
theorem nE_gt {lo hi : Int32} (ha : a ≤ E) (h : nK T E a lo hi = 0) : a + 1 ≤ nE T E a := by
  have hs := sk_b (T := T) ha
  have hb := (dgN_b (T := T) (E - sk T E a) (sk T E a) 0).1
  unfold nK at h
  by_cases c : (dg T E (sk T E a)).1 = sk T E a
  · rw [if_pos c] at h; omega
  · unfold nE
    change sk T E a ≤ (dg T E (sk T E a)).1 ∧ _ at hb
    omega
theorem wI_g {F : Nat → Nat → TT → Ov} (hF : ∀ a n B, a ≤ E → gW P E op a n B (F a n B)) : ∀ u a n B, a ≤ E → gWl P E op a n B (wI F T E u a n B)
  | 0, a, n, B => fun _ h => absurd h (by show ¬ (1 : Nat) = 0; omega)
  | u + 1, a, n, B => fun ha => by
    have hs := sk_b (T := T) ha
    unfold wI
    by_cases c : sk T E a < E ∧ T (sk T E a) = 93
    · rw [if_pos c]
      intro _
      exact ⟨⟨by show a ≤ sk T E a + 1; omega, by show sk T E a + 1 ≤ E; omega, by show 6 * n + a ≤ 6 * n + (sk T E a + 1); omega⟩, ⟨Nat.le_refl _, fun _ _ _ => rfl⟩, 0, rfl⟩
    · rw [if_neg c]
      intro h
      have h0 := bW_0 h
      rw [bW_s h0] at h ⊢
      obtain ⟨⟨x1, x2, x3⟩, ⟨x4, x5⟩, _, v, x6⟩ := hF a n B ha h0
      generalize F a n B = r at h h0 x1 x2 x3 x4 x5 x6 ⊢
      obtain ⟨⟨y1, y2, y3⟩, ⟨y4, y5⟩, w, y6⟩ := wI_g hF u _ _ _ x2 h
      refine ⟨⟨by omega, y2, by omega⟩, ⟨by omega, fun i k hk => by rw [y5 i k (by omega), x5 i k hk]⟩, v + w, ?_⟩
      exact wfs_app v _ _ (wfs_cg v _ _ _ (fun i k q1 q2 => y5 i k q2) x6) y6
theorem wTp_g {F : Nat → Nat → TT → Ov} (hF : ∀ a n B, a ≤ E → gW P E op a n B (F a n B)) : ∀ u a n B, a ≤ E → gWl P E op a n B (wTp F T E u a n B)
  | 0, a, n, B => fun _ h => absurd h (by show ¬ (1 : Nat) = 0; omega)
  | u + 1, a, n, B => fun ha => by
    have hs := sk_b (T := T) ha
    unfold wTp
    by_cases c : E ≤ sk T E a
    · rw [if_pos c]
      intro _
      exact ⟨⟨hs.1, hs.2, by show 6 * n + a ≤ 6 * n + sk T E a; omega⟩, ⟨Nat.le_refl _, fun _ _ _ => rfl⟩, 0, rfl⟩
    · rw [if_neg c]
      intro h
      have h0 := bW_0 h
      rw [bW_s h0] at h ⊢
      obtain ⟨⟨x1, x2, x3⟩, ⟨x4, x5⟩, _, v, x6⟩ := hF a n B ha h0
      generalize F a n B = r at h h0 x1 x2 x3 x4 x5 x6 ⊢
      obtain ⟨⟨y1, y2, y3⟩, ⟨y4, y5⟩, w, y6⟩ := wTp_g hF u _ _ _ x2 h
      refine ⟨⟨by omega, y2, by omega⟩, ⟨by omega, fun i k hk => by rw [y5 i k (by omega), x5 i k hk]⟩, v + w, ?_⟩
      exact wfs_app v _ _ (wfs_cg v _ _ _ (fun i k q1 q2 => y5 i k q2) x6) y6
end
