/-! # functional level, 39: reading deeds, the class -/
section
variable {M M' M1 M2 N : Mm} {t d m E a k f : Nat} {T : Nat → Nat}
theorem sk_i (h : a ≤ E) : sk T E (sk T E a) = sk T E a := by
  have hb := sk_b (T := T) h
  rcases Nat.lt_or_ge (sk T E a) E with q | q
  · have e := sk_e h q
    generalize sk T E a = s at q e ⊢
    unfold sk
    obtain ⟨z, hz⟩ : ∃ z, E - s = z + 1 := ⟨E - s - 1, by omega⟩
    rw [hz]; exact if_neg e
  · generalize sk T E a = s at q hb ⊢
    unfold sk
    rw [show E - s = 0 by omega]; rfl
theorem nO_F {p0 p1 : Int32} (hk : k ≠ 0) : nO k f T E a p0 p1 = (k, f) := by
  unfold nO wkf
  rw [if_neg hk]
  split <;> rfl
theorem nO_0 {p0 p1 : Int32} (h : nK T E a p0 p1 = 0) : nO k f T E a p0 p1 = (k, f) := if_pos h
theorem nO_1 {p0 p1 : Int32} (h : nK T E a p0 p1 ≠ 0) : nO 0 f T E a p0 p1 = (nK T E a p0 p1, sk T E a) := (if_neg h).trans (if_pos rfl)
theorem nK_3 {p0 p1 : Int32} : nK T E a p0 p1 ≤ 3 := by unfold nK; repeat' split
                                                        all_goals omega
theorem nK_v {lo hi : Nat} (hl : lo < 2 ^ 31) (hh : hi < 2 ^ 31) (hv : (dg T E (sk T E a)).2 < 2 ^ 31) (h : nK T E a (nI lo) (nI hi) = 0) : sk T E a < (dg T E (sk T E a)).1 ∧ lo ≤ (dg T E (sk T E a)).2 ∧ (dg T E (sk T E a)).2 ≤ hi := by
  unfold nK at h
  have hb := (dgN_b (T := T) (E - sk T E a) (sk T E a) 0).1
  change sk T E a ≤ (dg T E (sk T E a)).1 ∧ _ at hb
  generalize dg T E (sk T E a) = q at h hb hv ⊢
  by_cases c : q.1 = sk T E a
  · rw [if_pos c] at h; omega
  · rw [if_neg c] at h
    by_cases c2 : inR (nI lo) (nI hi) q.2 = true
    · have := of_decide_eq_true c2
      rw [nI_ltE (by omega) (by omega), nI_leE (by omega) (by omega)] at this
      omega
    · rw [if_neg c2] at h; omega
theorem dg_lt (h : CTp M t T E a k f) : (dg T E (sk T E a)).2 < 1000000 := by
  have hs := sk_b (T := T) h.2.2.1.1
  exact (dgN_b (T := T) (E - sk T E a) (sk T E a) 0).2 (by omega) (fun i hi => h.2.2.2 i (by omega))
/-- what the lines say: kind and place of the first fault, how many lines, their acts, and whether each was -/
def dz (T : Nat → Nat) (E : Nat) : Nat → Nat → Nat → (Nat → Nat) → (Nat → Nat) → Nat × Nat × Nat × (Nat → Nat) × (Nat → Nat)
  | 0, _, n, A, B => (0, 4294967295, n, A, B)
  | u + 1, a, n, A, B =>
    if E ≤ sk T E a then (0, 4294967295, n, A, B)
    else if nK T E a (nI 0) (nI 9) ≠ 0 then (nK T E a (nI 0) (nI 9), sk T E a, n, A, B)
    else if hs (und n A) (dg T E (sk T E a)).2 = true then (2, sk T E a, n, A, B)
    else if nK T E (dg T E (sk T E a)).1 (nI 0) (nI 1) ≠ 0 then (nK T E (dg T E (sk T E a)).1 (nI 0) (nI 1), sk T E (dg T E (sk T E a)).1, n, A, B)
    else if ¬ (sk T E (dg T E (sk T E (dg T E (sk T E a)).1)).1 < E ∧ T (sk T E (dg T E (sk T E (dg T E (sk T E a)).1)).1) = 59) then (1, sk T E (dg T E (sk T E (dg T E (sk T E a)).1)).1, n, A, B)
    else dz T E u (sk T E (dg T E (sk T E (dg T E (sk T E a)).1)).1 + 1) (n + 1) (upv A n (dg T E (sk T E a)).2) (upv B n (dg T E (sk T E (dg T E (sk T E a)).1)).2)
theorem hB_any (x y : Int32) (M : Mm) : f_C_hasBit x y M = some (nI 0, M) ∨ f_C_hasBit x y M = some (nI 1, M) := by
  unfold f_C_hasBit
  split
  · exact Or.inr rfl
  · exact Or.inl rfl
def dD (t d a j : Nat) : Prop := tD t a j ∨ (a = d ∧ j ≤ 1)
theorem FX.td {t d : Nat} (h : FX (tD t) M M1) : FX (dD t d) M M1 := h.mono (fun _ _ q => Or.inl q)
theorem C_dtail (h : CTp M t T E a k f) (hk : k ≠ 0) (x2 x3 x4 : Int32) (w : Nat) : ∃ M', f_Deeds_read_c (f_Deeds_read_b (w + 1)) d t x2 x3 x4 M = some M' ∧ FX (tD t) M M' ∧ ∃ a', CTp M' t T E a' k f := by
  obtain ⟨M1, e1, f1, h1⟩ := C_number (p0 := nI 0) (p1 := nI 1) h
  rw [nO_F hk] at h1
  have e2 := C_fine h1
  rw [if_neg hk] at e2
  have e3 := C_needF h1 hk (nI 59)
  have e4 := C_moreF h1 hk
  refine ⟨M1, ?_, f1, _, h1⟩
  have e5 : f_Deeds_read_b (w + 1) d t (x2 + nI 1) M1 = some M1 := by
    unfold f_Deeds_read_b
    by_cases c : (10 : Int32) < x2 + nI 1
    · rw [if_pos c]
    · rw [if_neg c, e4]; rfl
  simp (disch := omega) only [f_Deeds_read_c, f_Deeds_add, f_Deeds_add_b, e1, e2, e3, e5, bI_s, bV_s, bL_s, bR_s, bG_s, bG_n, bX_l, bX_r, ck_nI, nI_clamp, nI_leT, nI_leF, nI_ltT, nI_ltF, nI_eqF, nI_add, pk_mul, ofN, bt_e, or0, Nat.zero_add, Nat.add_zero, ↓reduceIte, if_true, if_false, Bool.false_eq_true, eq_self, li0, li1, li2, li3, li4, li5, li6, li7, li8, li9, li10, li11, li12, li14, li15, li16, li18, li19, li20, li23, li24, li25, li26, li27, li30, li31, li32, li36, li40, li41, li42, li43, li44, li45, li47, li48, li57, li59, li60, li91, li93, li96, li97, li100, li105, li122, li150, li200, li255, li400, li500, li600, li999, li1000, li1001, li2000, li2001, li2002, li2003, li2004, li2005, li2006, li32767, li100000, li_neg, li13, li17, li21, li22, li28, li29, li33, li34, li35, li37, li38, li39, li46, li49, li50, li51, li52, li53, li63, li80, li115, li160]
theorem fo_cg {α : Type} {F G : Nat → α → α} {s : α} : ∀ n, (∀ k x, k < n → F k x = G k x) → fo n F s = fo n G s
  | 0 => fun _ => rfl
  | n + 1 => fun h => by
    show F n (fo n F s) = G n (fo n G s)
    rw [fo_cg n (fun k x hk => h k x (by omega)), h n _ (by omega)]
theorem upv_s (A : Nat → Nat) (n x : Nat) : upv A n x n = x := if_pos rfl
theorem upv_n {A : Nat → Nat} {n x k : Nat} (h : k ≠ n) : upv A n x k = A k := if_neg h
theorem dY_s {n x y v : Nat} {A B : Nat → Nat} : dY (n + 1) (upv A n x) (upv B n y) v = if y = v then dY n A B v ||| bt x else dY n A B v := by
  have e : dY n (upv A n x) (upv B n y) v = dY n A B v := fo_cg n (fun k s hk => by rw [upv_n (by omega), upv_n (by omega)])
  show (if decide (upv B n y n = v) = true then dY n (upv A n x) (upv B n y) v ||| bt (upv A n x n) else dY n (upv A n x) (upv B n y) v) = _
  rw [e, upv_s, upv_s]
  by_cases c : y = v
  · rw [if_pos c, if_pos (decide_eq_true c)]
  · rw [if_neg c, if_neg (fun q => c (of_decide_eq_true q))]
theorem und_s {n x : Nat} {A : Nat → Nat} : und (n + 1) (upv A n x) = und n A ||| bt x := by
  have e : und n (upv A n x) = und n A := fo_cg n (fun k s hk => by rw [upv_n (by omega)])
  show (if (fun _ : Nat => true) n = true then und n (upv A n x) ||| bt (upv A n x n) else und n (upv A n x)) = _
  rw [e, upv_s]; rfl
def okA (n : Nat) (A B : Nat → Nat) : Prop := (∀ k, k < n → A k < 10 ∧ B k ≤ 1) ∧ ∀ i k, i < k → k < n → A i ≠ A k
theorem okA.s {n x y : Nat} {A B : Nat → Nat} (h : okA n A B) (hx : x < 10) (hy : y ≤ 1) (hn : ¬ hs (und n A) x = true) : okA (n + 1) (upv A n x) (upv B n y) := by
  refine ⟨fun k hk => ?_, fun i k hik hk => ?_⟩
  · by_cases c : k = n
    · rw [c, upv_s, upv_s]; exact ⟨hx, hy⟩
    · rw [upv_n c, upv_n c]; exact h.1 k (by omega)
  · by_cases c : k = n
    · rw [c, upv_s, upv_n (by omega)]
      exact fun e => hn ((und_hs (fun k hk => (h.1 k hk).1) (by omega)).mpr ⟨i, by omega, e⟩)
    · rw [upv_n c, upv_n (by omega)]; exact h.2 i k hik (by omega)
/-- ten lines tell all: no eleventh -/
theorem okA.full {n x : Nat} {A B : Nat → Nat} (h : okA n A B) (hx : x < 10) (hn : ¬ hs (und n A) x = true) : n ≤ 9 := by
  have h2 := h.s (y := 0) hx (by omega) hn
  have e := und_bc (n + 1) (fun k hk => (h2.1 k hk).1) h2.2
  have hb : bc (und (n + 1) (upv A n x)) ≤ 10 := by
    unfold bc
    have := sm_le (f := fun x_1 => if hs (und (n + 1) (upv A n x)) x_1 = true then 1 else 0) (g := fun _ => 1) 10 (fun k _ => by split <;> omega)
    rw [sm_const] at this
    omega
  omega
end
