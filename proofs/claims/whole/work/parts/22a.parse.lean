/-! # functional level, 36: reading, its smallest pieces -/
section
variable {M M' M1 M2 N : Mm} {t m E a k f : Nat} {T : Nat → Nat}
/-- cells as before but for D -/
def FX (D : Nat → Nat → Prop) (M N : Mm) : Prop := (nx N = nx M ∧ kd N = kd M) ∧ (∀ a j, ¬ D a j → gI N a j = gI M a j) ∧ (∀ a j, gL N a j = gL M a j) ∧ ∀ a j, gR N a j = gR M a j
theorem FX.rf (D : Nat → Nat → Prop) (M : Mm) : FX D M M := ⟨⟨rfl, rfl⟩, fun _ _ _ => rfl, fun _ _ => rfl, fun _ _ => rfl⟩
theorem FX.trans {D : Nat → Nat → Prop} (h : FX D M M1) (h2 : FX D M1 M2) : FX D M M2 := ⟨⟨h2.1.1.trans h.1.1, h2.1.2.trans h.1.2⟩, fun a j hs => (h2.2.1 a j hs).trans (h.2.1 a j hs), fun a j => (h2.2.2.1 a j).trans (h.2.2.1 a j), fun a j => (h2.2.2.2 a j).trans (h.2.2.2 a j)⟩
theorem FX.sI {D : Nat → Nat → Prop} (h : FX D M M1) {a j : Nat} {v : Int32} (ha : D a j) : FX D M (sI M1 a j v) :=
  ⟨h.1, fun a' j' hs => by rw [gI_sI, if_neg (fun e => hs (by rw [e.1, e.2]; exact ha))]; exact h.2.1 a' j' hs, h.2.2.1, h.2.2.2⟩
theorem FX.mono {D D' : Nat → Nat → Prop} (h : FX D M M1) (hs : ∀ a j, D a j → D' a j) : FX D' M M1 := ⟨h.1, fun a j hd => h.2.1 a j (fun q => hd (hs a j q)), h.2.2⟩
def skN (T : Nat → Nat) : Nat → Nat → Nat
  | 0, a => a
  | d + 1, a => if T a = 32 then skN T d (a + 1) else a
def sk (T : Nat → Nat) (E a : Nat) : Nat := skN T (E - a) a
def isDg (x : Nat) : Bool := decide (48 ≤ x ∧ x ≤ 57)
theorem isDg_t {x : Nat} : isDg x = true ↔ 48 ≤ x ∧ x ≤ 57 := decide_eq_true_iff
def dgN (T : Nat → Nat) : Nat → Nat → Nat → Nat × Nat
  | 0, a, v => (a, v)
  | d + 1, a, v => if isDg (T a) = true then dgN T d (a + 1) (if 100000 ≤ v then v else v * 10 + T a - 48) else (a, v)
def dg (T : Nat → Nat) (E a : Nat) : Nat × Nat := dgN T (E - a) a 0
theorem skN_b {T : Nat → Nat} : ∀ d a, a ≤ skN T d a ∧ skN T d a ≤ a + d
  | 0, a => ⟨Nat.le_refl _, Nat.le_refl _⟩
  | d + 1, a => by
    unfold skN
    have i := skN_b (T := T) d (a + 1)
    split <;> omega
theorem sk_b (h : a ≤ E) : a ≤ sk T E a ∧ sk T E a ≤ E := by have := skN_b (T := T) (E - a) a; unfold sk; omega
theorem skN_e {T : Nat → Nat} : ∀ d a, skN T d a < a + d → T (skN T d a) ≠ 32
  | 0, a => fun h => by unfold skN at h; omega
  | d + 1, a => fun h => by
    unfold skN at h ⊢
    by_cases c : T a = 32
    · rw [if_pos c] at h ⊢; exact skN_e d (a + 1) (by omega)
    · rw [if_neg c]; exact c
theorem sk_e (h : a ≤ E) (h2 : sk T E a < E) : T (sk T E a) ≠ 32 := skN_e (E - a) a (by unfold sk at h2; omega)
theorem dgN_b {T : Nat → Nat} : ∀ d a v, (a ≤ (dgN T d a v).1 ∧ (dgN T d a v).1 ≤ a + d) ∧ (v < 1000000 → (∀ i, i < a + d → T i < 256) → (dgN T d a v).2 < 1000000)
  | 0, a, v => ⟨⟨Nat.le_refl _, Nat.le_refl _⟩, fun h _ => h⟩
  | d + 1, a, v => by
    unfold dgN
    have i := dgN_b (T := T) d (a + 1) (if 100000 ≤ v then v else v * 10 + T a - 48)
    by_cases c : isDg (T a) = true
    · rw [if_pos c]
      refine ⟨by omega, fun h1 h2 => i.2 ?_ (fun j hj => h2 j (by omega))⟩
      have c := isDg_t.mp c
      split <;> omega
    · rw [if_neg c]; exact ⟨by show a ≤ a ∧ a ≤ a + (d + 1); omega, fun h _ => h⟩
/-- the class's tape -/
def CTp (M : Mm) (t : Nat) (T : Nat → Nat) (E a k f : Nat) : Prop := (gI M t 2 = nI E ∧ gI M t 3 = nI a ∧ gI M t 4 = nI k ∧ gI M t 5 = nI f) ∧ (∀ i, i < E → gI M (t + 1) i = nI (T i)) ∧ (a ≤ E ∧ E ≤ 600 ∧ k ≤ 3) ∧ ∀ i, i < E → T i < 256
/-- the model's -/
def MTp (M : Mm) (m : Nat) (T : Nat → Nat) (E a k f : Nat) : Prop := (gI M m 2 = nI E ∧ gI M m 4 = nI a ∧ gI M m 5 = nI k ∧ gI M m 6 = nI f) ∧ (∀ i, i < E → gI M (m + 1) i = nI (T i)) ∧ (a ≤ E ∧ E ≤ 600 ∧ k ≤ 3) ∧ ∀ i, i < E → T i < 256
def tD (t a j : Nat) : Prop := a = t ∧ 3 ≤ j ∧ j ≤ 5
def uD (m a j : Nat) : Prop := a = m ∧ 4 ≤ j ∧ j ≤ 6
theorem CTp.at (h : CTp M t T E a k f) {a' : Nat} (ha : a' ≤ E) : CTp (sI M t 3 (nI a')) t T E a' k f :=
  ⟨⟨by rw [gI_ne (Or.inr (by omega))]; exact h.1.1, gI_same .., by rw [gI_ne (Or.inr (by omega))]; exact h.1.2.2.1, by rw [gI_ne (Or.inr (by omega))]; exact h.1.2.2.2⟩, fun i hi => by rw [gI_ne (Or.inl (by omega))]; exact h.2.1 i hi, ⟨ha, h.2.2.1.2⟩, h.2.2.2⟩
theorem MTp.at (h : MTp M m T E a k f) {a' : Nat} (ha : a' ≤ E) : MTp (sI M m 4 (nI a')) m T E a' k f :=
  ⟨⟨by rw [gI_ne (Or.inr (by omega))]; exact h.1.1, gI_same .., by rw [gI_ne (Or.inr (by omega))]; exact h.1.2.2.1, by rw [gI_ne (Or.inr (by omega))]; exact h.1.2.2.2⟩, fun i hi => by rw [gI_ne (Or.inl (by omega))]; exact h.2.1 i hi, ⟨ha, h.2.2.1.2⟩, h.2.2.2⟩
/-- the first fault stays -/
def wkf (k f k1 f1 : Nat) : Nat × Nat := if k = 0 then (k1, f1) else (k, f)
theorem C_wrong (h : CTp M t T E a k f) {k1 f1 : Nat} (hk : k1 ≤ 3) : ∃ M', f_Tape_wrong t (nI k1) (nI f1) M = some M' ∧ FX (tD t) M M' ∧ CTp M' t T E a (wkf k f k1 f1).1 (wkf k f k1 f1).2 := by
  obtain ⟨⟨h1, h2, h3, h4⟩, h5, h6, h7⟩ := h
  by_cases c : k = 0
  · have e : wkf k f k1 f1 = (k1, f1) := if_pos c
    rw [e]
    rw [c] at h3
    refine ⟨sI (sI M t 4 (nI k1)) t 5 (nI f1), ?_, ((FX.rf _ M).sI (by unfold tD; omega)).sI (by unfold tD; omega), ⟨?_, ?_, ?_, gI_same ..⟩, fun i hi => ?_, ⟨h6.1, h6.2.1, hk⟩, h7⟩
    · simp (disch := omega) only [f_Tape_wrong, h3, bI_s, bV_s, bL_s, bR_s, bG_s, bG_n, bX_l, bX_r, ck_nI, nI_clamp, nI_leT, nI_leF, nI_ltT, nI_ltF, nI_eqF, nI_add, pk_mul, ofN, bt_e, or0, Nat.zero_add, Nat.add_zero, ↓reduceIte, if_true, if_false, Bool.false_eq_true, eq_self, li0, li1, li2, li3, li4, li5, li6, li7, li8, li9, li10, li11, li12, li14, li15, li16, li18, li19, li20, li23, li24, li25, li26, li27, li30, li31, li32, li36, li40, li41, li42, li43, li44, li45, li47, li48, li57, li59, li60, li91, li93, li96, li97, li100, li105, li122, li150, li200, li255, li400, li500, li600, li999, li1000, li1001, li2000, li2001, li2002, li2003, li2004, li2005, li2006, li32767, li100000, li_neg, li13, li17, li21, li22, li28, li29, li33, li34, li35, li37, li38, li39, li46, li49, li50, li51, li52, li53, li63, li80, li115, li160]
    · rw [gI_ne (Or.inr (by omega)), gI_ne (Or.inr (by omega))]; exact h1
    · rw [gI_ne (Or.inr (by omega)), gI_ne (Or.inr (by omega))]; exact h2
    · rw [gI_ne (Or.inr (by omega)), gI_same]
    · rw [gI_ne (Or.inl (by omega)), gI_ne (Or.inl (by omega))]; exact h5 i hi
  · have e : wkf k f k1 f1 = (k, f) := if_neg c
    rw [e]
    refine ⟨M, ?_, FX.rf _ M, ⟨h1, h2, h3, h4⟩, h5, h6, h7⟩
    simp (disch := omega) only [f_Tape_wrong, h3, bI_s, bV_s, bL_s, bR_s, bG_s, bG_n, bX_l, bX_r, ck_nI, nI_clamp, nI_leT, nI_leF, nI_ltT, nI_ltF, nI_eqF, nI_add, pk_mul, ofN, bt_e, or0, Nat.zero_add, Nat.add_zero, ↓reduceIte, if_true, if_false, Bool.false_eq_true, eq_self, li0, li1, li2, li3, li4, li5, li6, li7, li8, li9, li10, li11, li12, li14, li15, li16, li18, li19, li20, li23, li24, li25, li26, li27, li30, li31, li32, li36, li40, li41, li42, li43, li44, li45, li47, li48, li57, li59, li60, li91, li93, li96, li97, li100, li105, li122, li150, li200, li255, li400, li500, li600, li999, li1000, li1001, li2000, li2001, li2002, li2003, li2004, li2005, li2006, li32767, li100000, li_neg, li13, li17, li21, li22, li28, li29, li33, li34, li35, li37, li38, li39, li46, li49, li50, li51, li52, li53, li63, li80, li115, li160]
theorem M_wrong (h : MTp M m T E a k f) {k1 f1 : Nat} (hk : k1 ≤ 3) : ∃ M', f_M_wrong m (nI k1) (nI f1) M = some M' ∧ FX (uD m) M M' ∧ MTp M' m T E a (wkf k f k1 f1).1 (wkf k f k1 f1).2 := by
  obtain ⟨⟨h1, h2, h3, h4⟩, h5, h6, h7⟩ := h
  by_cases c : k = 0
  · have e : wkf k f k1 f1 = (k1, f1) := if_pos c
    rw [e]
    rw [c] at h3
    refine ⟨sI (sI M m 5 (nI k1)) m 6 (nI f1), ?_, ((FX.rf _ M).sI (by unfold uD; omega)).sI (by unfold uD; omega), ⟨?_, ?_, ?_, gI_same ..⟩, fun i hi => ?_, ⟨h6.1, h6.2.1, hk⟩, h7⟩
    · simp (disch := omega) only [f_M_wrong, h3, bI_s, bV_s, bL_s, bR_s, bG_s, bG_n, bX_l, bX_r, ck_nI, nI_clamp, nI_leT, nI_leF, nI_ltT, nI_ltF, nI_eqF, nI_add, pk_mul, ofN, bt_e, or0, Nat.zero_add, Nat.add_zero, ↓reduceIte, if_true, if_false, Bool.false_eq_true, eq_self, li0, li1, li2, li3, li4, li5, li6, li7, li8, li9, li10, li11, li12, li14, li15, li16, li18, li19, li20, li23, li24, li25, li26, li27, li30, li31, li32, li36, li40, li41, li42, li43, li44, li45, li47, li48, li57, li59, li60, li91, li93, li96, li97, li100, li105, li122, li150, li200, li255, li400, li500, li600, li999, li1000, li1001, li2000, li2001, li2002, li2003, li2004, li2005, li2006, li32767, li100000, li_neg, li13, li17, li21, li22, li28, li29, li33, li34, li35, li37, li38, li39, li46, li49, li50, li51, li52, li53, li63, li80, li115, li160]
    · rw [gI_ne (Or.inr (by omega)), gI_ne (Or.inr (by omega))]; exact h1
    · rw [gI_ne (Or.inr (by omega)), gI_ne (Or.inr (by omega))]; exact h2
    · rw [gI_ne (Or.inr (by omega)), gI_same]
    · rw [gI_ne (Or.inl (by omega)), gI_ne (Or.inl (by omega))]; exact h5 i hi
  · have e : wkf k f k1 f1 = (k, f) := if_neg c
    rw [e]
    refine ⟨M, ?_, FX.rf _ M, ⟨h1, h2, h3, h4⟩, h5, h6, h7⟩
    simp (disch := omega) only [f_M_wrong, h3, bI_s, bV_s, bL_s, bR_s, bG_s, bG_n, bX_l, bX_r, ck_nI, nI_clamp, nI_leT, nI_leF, nI_ltT, nI_ltF, nI_eqF, nI_add, pk_mul, ofN, bt_e, or0, Nat.zero_add, Nat.add_zero, ↓reduceIte, if_true, if_false, Bool.false_eq_true, eq_self, li0, li1, li2, li3, li4, li5, li6, li7, li8, li9, li10, li11, li12, li14, li15, li16, li18, li19, li20, li23, li24, li25, li26, li27, li30, li31, li32, li36, li40, li41, li42, li43, li44, li45, li47, li48, li57, li59, li60, li91, li93, li96, li97, li100, li105, li122, li150, li200, li255, li400, li500, li600, li999, li1000, li1001, li2000, li2001, li2002, li2003, li2004, li2005, li2006, li32767, li100000, li_neg, li13, li17, li21, li22, li28, li29, li33, li34, li35, li37, li38, li39, li46, li49, li50, li51, li52, li53, li63, li80, li115, li160]
theorem C_next (h : CTp M t T E a k f) : ∃ M', f_Tape_next t M = some (nI (sk T E a), M') ∧ FX (tD t) M M' ∧ CTp M' t T E (sk T E a) k f := by
  have key : ∀ d a u M, a + d = E → d < u → CTp M t T E a k f → ∃ M', f_Tape_next_a u t M = some (nI (skN T d a), M') ∧ FX (tD t) M M' ∧ CTp M' t T E (skN T d a) k f := by
    intro d
    induction d with
    | zero =>
      intro a u M hd hu h
      obtain ⟨u, rfl⟩ : ∃ v, u = v + 1 := ⟨u - 1, by omega⟩
      have hE := h.2.2.1
      refine ⟨M, ?_, FX.rf _ M, h⟩
      have e1 := h.1.1
      have e2 := h.1.2.1
      have : skN T 0 a = a := rfl
      simp (disch := omega) only [f_Tape_next_a, e1, e2, this, bI_s, bV_s, bL_s, bR_s, bG_s, bG_n, bX_l, bX_r, ck_nI, nI_clamp, nI_leT, nI_leF, nI_ltT, nI_ltF, nI_eqF, nI_add, pk_mul, ofN, bt_e, or0, Nat.zero_add, Nat.add_zero, ↓reduceIte, if_true, if_false, Bool.false_eq_true, eq_self, li0, li1, li2, li3, li4, li5, li6, li7, li8, li9, li10, li11, li12, li14, li15, li16, li18, li19, li20, li23, li24, li25, li26, li27, li30, li31, li32, li36, li40, li41, li42, li43, li44, li45, li47, li48, li57, li59, li60, li91, li93, li96, li97, li100, li105, li122, li150, li200, li255, li400, li500, li600, li999, li1000, li1001, li2000, li2001, li2002, li2003, li2004, li2005, li2006, li32767, li100000, li_neg, li13, li17, li21, li22, li28, li29, li33, li34, li35, li37, li38, li39, li46, li49, li50, li51, li52, li53, li63, li80, li115, li160]
    | succ d ih =>
      intro a u M hd hu h
      obtain ⟨u, rfl⟩ : ∃ v, u = v + 1 := ⟨u - 1, by omega⟩
      have hE := h.2.2.1
      have e1 := h.1.1
      have e2 := h.1.2.1
      have e3 := h.2.1 a (by omega)
      have e4 := h.2.2.2 a (by omega)
      by_cases c : T a = 32
      · have e5 : skN T (d + 1) a = skN T d (a + 1) := if_pos c
        obtain ⟨M', n1, n2, n3⟩ := ih (a + 1) u (sI M t 3 (nI (a + 1))) (by omega) (by omega) (h.at (by omega))
        rw [e5]
        refine ⟨M', ?_, ((FX.rf _ M).sI (by unfold tD; omega)).trans n2, n3⟩
        rw [c] at e3
        simp (disch := omega) only [f_Tape_next_a, e1, e2, e3, n1, bI_s, bV_s, bL_s, bR_s, bG_s, bG_n, bX_l, bX_r, ck_nI, nI_clamp, nI_leT, nI_leF, nI_ltT, nI_ltF, nI_eqF, nI_add, pk_mul, ofN, bt_e, or0, Nat.zero_add, Nat.add_zero, ↓reduceIte, if_true, if_false, Bool.false_eq_true, eq_self, li0, li1, li2, li3, li4, li5, li6, li7, li8, li9, li10, li11, li12, li14, li15, li16, li18, li19, li20, li23, li24, li25, li26, li27, li30, li31, li32, li36, li40, li41, li42, li43, li44, li45, li47, li48, li57, li59, li60, li91, li93, li96, li97, li100, li105, li122, li150, li200, li255, li400, li500, li600, li999, li1000, li1001, li2000, li2001, li2002, li2003, li2004, li2005, li2006, li32767, li100000, li_neg, li13, li17, li21, li22, li28, li29, li33, li34, li35, li37, li38, li39, li46, li49, li50, li51, li52, li53, li63, li80, li115, li160]
      · have e5 : skN T (d + 1) a = a := if_neg c
        rw [e5]
        refine ⟨M, ?_, FX.rf _ M, h⟩
        simp (disch := omega) only [f_Tape_next_a, e1, e2, e3, nI_eqF c, bI_s, bV_s, bL_s, bR_s, bG_s, bG_n, bX_l, bX_r, ck_nI, nI_clamp, nI_leT, nI_leF, nI_ltT, nI_ltF, nI_eqF, nI_add, pk_mul, ofN, bt_e, or0, Nat.zero_add, Nat.add_zero, ↓reduceIte, if_true, if_false, Bool.false_eq_true, eq_self, li0, li1, li2, li3, li4, li5, li6, li7, li8, li9, li10, li11, li12, li14, li15, li16, li18, li19, li20, li23, li24, li25, li26, li27, li30, li31, li32, li36, li40, li41, li42, li43, li44, li45, li47, li48, li57, li59, li60, li91, li93, li96, li97, li100, li105, li122, li150, li200, li255, li400, li500, li600, li999, li1000, li1001, li2000, li2001, li2002, li2003, li2004, li2005, li2006, li32767, li100000, li_neg, li13, li17, li21, li22, li28, li29, li33, li34, li35, li37, li38, li39, li46, li49, li50, li51, li52, li53, li63, li80, li115, li160]
  have hE := h.2.2.1
  exact key (E - a) a FU M (by omega) (FU_lt (by omega)) h
theorem M_at {i : Nat} (h : MTp M m T E a k f) (hi : i < E) : f_M_byteAt m (nI i) M = some (nI (T i), M) := by
  have hE := h.2.2.1
  have e1 := h.1.1
  have e3 := h.2.1 i hi
  simp (disch := omega) only [f_M_byteAt, e1, e3, bI_s, bV_s, bL_s, bR_s, bG_s, bG_n, bX_l, bX_r, ck_nI, nI_clamp, nI_leT, nI_leF, nI_ltT, nI_ltF, nI_eqF, nI_add, pk_mul, ofN, bt_e, or0, Nat.zero_add, Nat.add_zero, ↓reduceIte, if_true, if_false, Bool.false_eq_true, eq_self, li0, li1, li2, li3, li4, li5, li6, li7, li8, li9, li10, li11, li12, li14, li15, li16, li18, li19, li20, li23, li24, li25, li26, li27, li30, li31, li32, li36, li40, li41, li42, li43, li44, li45, li47, li48, li57, li59, li60, li91, li93, li96, li97, li100, li105, li122, li150, li200, li255, li400, li500, li600, li999, li1000, li1001, li2000, li2001, li2002, li2003, li2004, li2005, li2006, li32767, li100000, li_neg, li13, li17, li21, li22, li28, li29, li33, li34, li35, li37, li38, li39, li46, li49, li50, li51, li52, li53, li63, li80, li115, li160]
theorem M_atE {i : Nat} (h : MTp M m T E a k f) (hi : E ≤ i) (hi2 : i < 2000) : f_M_byteAt m (nI i) M = some (nI 4294967295, M) := by
  have hE := h.2.2.1
  have e1 := h.1.1
  simp (disch := omega) only [f_M_byteAt, e1, bI_s, bV_s, bL_s, bR_s, bG_s, bG_n, bX_l, bX_r, ck_nI, nI_clamp, nI_leT, nI_leF, nI_ltT, nI_ltF, nI_eqF, nI_add, pk_mul, ofN, bt_e, or0, Nat.zero_add, Nat.add_zero, ↓reduceIte, if_true, if_false, Bool.false_eq_true, eq_self, li0, li1, li2, li3, li4, li5, li6, li7, li8, li9, li10, li11, li12, li14, li15, li16, li18, li19, li20, li23, li24, li25, li26, li27, li30, li31, li32, li36, li40, li41, li42, li43, li44, li45, li47, li48, li57, li59, li60, li91, li93, li96, li97, li100, li105, li122, li150, li200, li255, li400, li500, li600, li999, li1000, li1001, li2000, li2001, li2002, li2003, li2004, li2005, li2006, li32767, li100000, li_neg, li13, li17, li21, li22, li28, li29, li33, li34, li35, li37, li38, li39, li46, li49, li50, li51, li52, li53, li63, li80, li115, li160]
theorem M_blanks (h : MTp M m T E a k f) : ∃ M', f_M_blanks m M = some M' ∧ FX (uD m) M M' ∧ MTp M' m T E (sk T E a) k f := by
  have key : ∀ d a u M, a + d = E → d < u → MTp M m T E a k f → ∃ M', f_M_blanks_a u m M = some M' ∧ FX (uD m) M M' ∧ MTp M' m T E (skN T d a) k f := by
    intro d
    induction d with
    | zero =>
      intro a u M hd hu h
      obtain ⟨u, rfl⟩ : ∃ v, u = v + 1 := ⟨u - 1, by omega⟩
      have hE := h.2.2.1
      refine ⟨M, ?_, FX.rf _ M, h⟩
      have e2 := h.1.2.1
      have e3 := M_atE h (show E ≤ a by omega) (by omega)
      simp (disch := omega) only [f_M_blanks_a, e2, e3, bI_s, bV_s, bL_s, bR_s, bG_s, bG_n, bX_l, bX_r, ck_nI, nI_clamp, nI_leT, nI_leF, nI_ltT, nI_ltF, nI_eqF, nI_add, pk_mul, ofN, bt_e, or0, Nat.zero_add, Nat.add_zero, ↓reduceIte, if_true, if_false, Bool.false_eq_true, eq_self, li0, li1, li2, li3, li4, li5, li6, li7, li8, li9, li10, li11, li12, li14, li15, li16, li18, li19, li20, li23, li24, li25, li26, li27, li30, li31, li32, li36, li40, li41, li42, li43, li44, li45, li47, li48, li57, li59, li60, li91, li93, li96, li97, li100, li105, li122, li150, li200, li255, li400, li500, li600, li999, li1000, li1001, li2000, li2001, li2002, li2003, li2004, li2005, li2006, li32767, li100000, li_neg, li13, li17, li21, li22, li28, li29, li33, li34, li35, li37, li38, li39, li46, li49, li50, li51, li52, li53, li63, li80, li115, li160]
    | succ d ih =>
      intro a u M hd hu h
      obtain ⟨u, rfl⟩ : ∃ v, u = v + 1 := ⟨u - 1, by omega⟩
      have hE := h.2.2.1
      have e2 := h.1.2.1
      have e3 := M_at h (show a < E by omega)
      have e4 := h.2.2.2 a (by omega)
      by_cases c : T a = 32
      · have e5 : skN T (d + 1) a = skN T d (a + 1) := if_pos c
        obtain ⟨M', n1, n2, n3⟩ := ih (a + 1) u (sI M m 4 (nI (a + 1))) (by omega) (by omega) (h.at (by omega))
        rw [e5]
        refine ⟨M', ?_, ((FX.rf _ M).sI (by unfold uD; omega)).trans n2, n3⟩
        rw [c] at e3
        simp (disch := omega) only [f_M_blanks_a, e2, e3, n1, bI_s, bV_s, bL_s, bR_s, bG_s, bG_n, bX_l, bX_r, ck_nI, nI_clamp, nI_leT, nI_leF, nI_ltT, nI_ltF, nI_eqF, nI_add, pk_mul, ofN, bt_e, or0, Nat.zero_add, Nat.add_zero, ↓reduceIte, if_true, if_false, Bool.false_eq_true, eq_self, li0, li1, li2, li3, li4, li5, li6, li7, li8, li9, li10, li11, li12, li14, li15, li16, li18, li19, li20, li23, li24, li25, li26, li27, li30, li31, li32, li36, li40, li41, li42, li43, li44, li45, li47, li48, li57, li59, li60, li91, li93, li96, li97, li100, li105, li122, li150, li200, li255, li400, li500, li600, li999, li1000, li1001, li2000, li2001, li2002, li2003, li2004, li2005, li2006, li32767, li100000, li_neg, li13, li17, li21, li22, li28, li29, li33, li34, li35, li37, li38, li39, li46, li49, li50, li51, li52, li53, li63, li80, li115, li160]
      · have e5 : skN T (d + 1) a = a := if_neg c
        rw [e5]
        refine ⟨M, ?_, FX.rf _ M, h⟩
        simp (disch := omega) only [f_M_blanks_a, e2, e3, nI_eqF c, bI_s, bV_s, bL_s, bR_s, bG_s, bG_n, bX_l, bX_r, ck_nI, nI_clamp, nI_leT, nI_leF, nI_ltT, nI_ltF, nI_eqF, nI_add, pk_mul, ofN, bt_e, or0, Nat.zero_add, Nat.add_zero, ↓reduceIte, if_true, if_false, Bool.false_eq_true, eq_self, li0, li1, li2, li3, li4, li5, li6, li7, li8, li9, li10, li11, li12, li14, li15, li16, li18, li19, li20, li23, li24, li25, li26, li27, li30, li31, li32, li36, li40, li41, li42, li43, li44, li45, li47, li48, li57, li59, li60, li91, li93, li96, li97, li100, li105, li122, li150, li200, li255, li400, li500, li600, li999, li1000, li1001, li2000, li2001, li2002, li2003, li2004, li2005, li2006, li32767, li100000, li_neg, li13, li17, li21, li22, li28, li29, li33, li34, li35, li37, li38, li39, li46, li49, li50, li51, li52, li53, li63, li80, li115, li160]
  have hE := h.2.2.1
  exact key (E - a) a FU M (by omega) (FU_lt (by omega)) h
end
