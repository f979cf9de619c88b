/-! # functional level, 37: reading a number, a sign -/
section
variable {M M' M1 M2 N : Mm} {t m E a k f : Nat} {T : Nat → Nat} {p0 p1 : Int32}
def inR (p0 p1 : Int32) (v : Nat) : Bool := decide (¬ nI v < p0 ∧ nI v ≤ p1)
def nK (T : Nat → Nat) (E a : Nat) (p0 p1 : Int32) : Nat := if (dg T E (sk T E a)).1 = sk T E a then 1 else if inR p0 p1 (dg T E (sk T E a)).2 = true then 0 else 2
def nO (k f : Nat) (T : Nat → Nat) (E a : Nat) (p0 p1 : Int32) : Nat × Nat := if nK T E a p0 p1 = 0 then (k, f) else wkf k f (nK T E a p0 p1) (sk T E a)
theorem C_dgT {x : Nat} (h : isDg x = true) : f_Tape_isDigit (nI x) M = some (nI 1, M) := by
  have := isDg_t.mp h
  simp (disch := omega) only [f_Tape_isDigit, bI_s, bV_s, bL_s, bR_s, bG_s, bG_n, bX_l, bX_r, ck_nI, nI_clamp, nI_leT, nI_leF, nI_ltT, nI_ltF, nI_eqF, nI_add, pk_mul, ofN, bt_e, or0, Nat.zero_add, Nat.add_zero, ↓reduceIte, if_true, if_false, Bool.false_eq_true, eq_self, li0, li1, li2, li3, li4, li5, li6, li7, li8, li9, li10, li11, li12, li14, li15, li16, li18, li19, li20, li23, li24, li25, li26, li27, li30, li31, li32, li36, li40, li41, li42, li43, li44, li45, li47, li48, li57, li59, li60, li91, li93, li96, li97, li100, li105, li122, li150, li200, li255, li400, li500, li600, li999, li1000, li1001, li2000, li2001, li2002, li2003, li2004, li2005, li2006, li32767, li100000, li_neg, li13, li17, li21, li22, li28, li29, li33, li34, li35, li37, li38, li39, li46, li49, li50, li51, li52, li53, li63, li80, li115, li160]
theorem C_dgF {x : Nat} (h : ¬ isDg x = true) (hx : x < 256) : f_Tape_isDigit (nI x) M = some (nI 0, M) := by
  have : x < 48 ∨ 57 < x := by
    rcases Nat.lt_or_ge x 48 with q | q
    · exact Or.inl q
    · rcases Nat.lt_or_ge 57 x with q2 | q2
      · exact Or.inr q2
      · exact absurd (isDg_t.mpr ⟨q, q2⟩) h
  rcases this with q | q
  · simp (disch := omega) only [f_Tape_isDigit, bI_s, bV_s, bL_s, bR_s, bG_s, bG_n, bX_l, bX_r, ck_nI, nI_clamp, nI_leT, nI_leF, nI_ltT, nI_ltF, nI_eqF, nI_add, pk_mul, ofN, bt_e, or0, Nat.zero_add, Nat.add_zero, ↓reduceIte, if_true, if_false, Bool.false_eq_true, eq_self, li0, li1, li2, li3, li4, li5, li6, li7, li8, li9, li10, li11, li12, li14, li15, li16, li18, li19, li20, li23, li24, li25, li26, li27, li30, li31, li32, li36, li40, li41, li42, li43, li44, li45, li47, li48, li57, li59, li60, li91, li93, li96, li97, li100, li105, li122, li150, li200, li255, li400, li500, li600, li999, li1000, li1001, li2000, li2001, li2002, li2003, li2004, li2005, li2006, li32767, li100000, li_neg, li13, li17, li21, li22, li28, li29, li33, li34, li35, li37, li38, li39, li46, li49, li50, li51, li52, li53, li63, li80, li115, li160]
  · by_cases q2 : x < 48
    · simp (disch := omega) only [f_Tape_isDigit, bI_s, bV_s, bL_s, bR_s, bG_s, bG_n, bX_l, bX_r, ck_nI, nI_clamp, nI_leT, nI_leF, nI_ltT, nI_ltF, nI_eqF, nI_add, pk_mul, ofN, bt_e, or0, Nat.zero_add, Nat.add_zero, ↓reduceIte, if_true, if_false, Bool.false_eq_true, eq_self, li0, li1, li2, li3, li4, li5, li6, li7, li8, li9, li10, li11, li12, li14, li15, li16, li18, li19, li20, li23, li24, li25, li26, li27, li30, li31, li32, li36, li40, li41, li42, li43, li44, li45, li47, li48, li57, li59, li60, li91, li93, li96, li97, li100, li105, li122, li150, li200, li255, li400, li500, li600, li999, li1000, li1001, li2000, li2001, li2002, li2003, li2004, li2005, li2006, li32767, li100000, li_neg, li13, li17, li21, li22, li28, li29, li33, li34, li35, li37, li38, li39, li46, li49, li50, li51, li52, li53, li63, li80, li115, li160]
    · simp (disch := omega) only [f_Tape_isDigit, bI_s, bV_s, bL_s, bR_s, bG_s, bG_n, bX_l, bX_r, ck_nI, nI_clamp, nI_leT, nI_leF, nI_ltT, nI_ltF, nI_eqF, nI_add, pk_mul, ofN, bt_e, or0, Nat.zero_add, Nat.add_zero, ↓reduceIte, if_true, if_false, Bool.false_eq_true, eq_self, li0, li1, li2, li3, li4, li5, li6, li7, li8, li9, li10, li11, li12, li14, li15, li16, li18, li19, li20, li23, li24, li25, li26, li27, li30, li31, li32, li36, li40, li41, li42, li43, li44, li45, li47, li48, li57, li59, li60, li91, li93, li96, li97, li100, li105, li122, li150, li200, li255, li400, li500, li600, li999, li1000, li1001, li2000, li2001, li2002, li2003, li2004, li2005, li2006, li32767, li100000, li_neg, li13, li17, li21, li22, li28, li29, li33, li34, li35, li37, li38, li39, li46, li49, li50, li51, li52, li53, li63, li80, li115, li160]
theorem M_dgT {x : Nat} (h : isDg x = true) : f_M_isDigit (nI x) M = some (nI 1, M) := C_dgT h
theorem M_dgF {x : Nat} (h : ¬ isDg x = true) (hx : x < 256) : f_M_isDigit (nI x) M = some (nI 0, M) := C_dgF h hx
theorem M_dgE : f_M_isDigit (nI 4294967295) M = some (nI 0, M) := by
  unfold f_M_isDigit; rw [if_pos (show nI 4294967295 < (48 : Int32) by decide)]; rfl
theorem C_num {s : Nat} : ∀ d b v u M, b + d = E → d < u → v < 1000000 → CTp M t T E b k f → ∃ M', f_Tape_number_b u t p0 p1 (nI s) (nI v) M = f_Tape_number_c t p0 p1 (nI s) (nI (dgN T d b v).2) M' ∧ FX (tD t) M M' ∧ CTp M' t T E (dgN T d b v).1 k f := by
  intro d
  induction d with
  | zero =>
    intro b v u M hd hu hv h
    obtain ⟨u, rfl⟩ : ∃ v, u = v + 1 := ⟨u - 1, by omega⟩
    have hE := h.2.2.1
    have e1 := h.1.1
    have e2 := h.1.2.1
    refine ⟨M, ?_, FX.rf _ M, h⟩
    have : dgN T 0 b v = (b, v) := rfl
    simp (disch := omega) only [f_Tape_number_b, e1, e2, this, bI_s, bV_s, bL_s, bR_s, bG_s, bG_n, bX_l, bX_r, ck_nI, nI_clamp, nI_leT, nI_leF, nI_ltT, nI_ltF, nI_eqF, nI_add, pk_mul, ofN, bt_e, or0, Nat.zero_add, Nat.add_zero, ↓reduceIte, if_true, if_false, Bool.false_eq_true, eq_self, li0, li1, li2, li3, li4, li5, li6, li7, li8, li9, li10, li11, li12, li14, li15, li16, li18, li19, li20, li23, li24, li25, li26, li27, li30, li31, li32, li36, li40, li41, li42, li43, li44, li45, li47, li48, li57, li59, li60, li91, li93, li96, li97, li100, li105, li122, li150, li200, li255, li400, li500, li600, li999, li1000, li1001, li2000, li2001, li2002, li2003, li2004, li2005, li2006, li32767, li100000, li_neg, li13, li17, li21, li22, li28, li29, li33, li34, li35, li37, li38, li39, li46, li49, li50, li51, li52, li53, li63, li80, li115, li160]
  | succ d ih =>
    intro b v u M hd hu hv h
    obtain ⟨u, rfl⟩ : ∃ v, u = v + 1 := ⟨u - 1, by omega⟩
    have hE := h.2.2.1
    have e1 := h.1.1
    have e2 := h.1.2.1
    have e3 := h.2.1 b (by omega)
    have e4 := h.2.2.2 b (by omega)
    by_cases c : isDg (T b) = true
    · have c2 := isDg_t.mp c
      have e5 : dgN T (d + 1) b v = dgN T d (b + 1) (if 100000 ≤ v then v else v * 10 + T b - 48) := if_pos c
      rw [e5]
      by_cases c3 : 100000 ≤ v
      · rw [if_pos c3]
        obtain ⟨M', n1, n2, n3⟩ := ih (b + 1) v u (sI M t 3 (nI (b + 1))) (by omega) (by omega) hv (h.at (by omega))
        refine ⟨M', ?_, ((FX.rf _ M).sI (by unfold tD; omega)).trans n2, n3⟩
        simp (disch := omega) only [f_Tape_number_b, e1, e2, e3, C_dgT c, n1, bI_s, bV_s, bL_s, bR_s, bG_s, bG_n, bX_l, bX_r, ck_nI, nI_clamp, nI_leT, nI_leF, nI_ltT, nI_ltF, nI_eqF, nI_add, pk_mul, ofN, bt_e, or0, Nat.zero_add, Nat.add_zero, ↓reduceIte, if_true, if_false, Bool.false_eq_true, eq_self, li0, li1, li2, li3, li4, li5, li6, li7, li8, li9, li10, li11, li12, li14, li15, li16, li18, li19, li20, li23, li24, li25, li26, li27, li30, li31, li32, li36, li40, li41, li42, li43, li44, li45, li47, li48, li57, li59, li60, li91, li93, li96, li97, li100, li105, li122, li150, li200, li255, li400, li500, li600, li999, li1000, li1001, li2000, li2001, li2002, li2003, li2004, li2005, li2006, li32767, li100000, li_neg, li13, li17, li21, li22, li28, li29, li33, li34, li35, li37, li38, li39, li46, li49, li50, li51, li52, li53, li63, li80, li115, li160]
      · rw [if_neg c3]
        obtain ⟨M', n1, n2, n3⟩ := ih (b + 1) (v * 10 + T b - 48) u (sI M t 3 (nI (b + 1))) (by omega) (by omega) (by omega) (h.at (by omega))
        refine ⟨M', ?_, ((FX.rf _ M).sI (by unfold tD; omega)).trans n2, n3⟩
        have z : nI (v * 10 + T b) - nI 48 = nI (v * 10 + T b - 48) := pk_sub (by omega)
        simp (disch := omega) only [f_Tape_number_b, e1, e2, e3, C_dgT c, z, n1, bI_s, bV_s, bL_s, bR_s, bG_s, bG_n, bX_l, bX_r, ck_nI, nI_clamp, nI_leT, nI_leF, nI_ltT, nI_ltF, nI_eqF, nI_add, pk_mul, ofN, bt_e, or0, Nat.zero_add, Nat.add_zero, ↓reduceIte, if_true, if_false, Bool.false_eq_true, eq_self, li0, li1, li2, li3, li4, li5, li6, li7, li8, li9, li10, li11, li12, li14, li15, li16, li18, li19, li20, li23, li24, li25, li26, li27, li30, li31, li32, li36, li40, li41, li42, li43, li44, li45, li47, li48, li57, li59, li60, li91, li93, li96, li97, li100, li105, li122, li150, li200, li255, li400, li500, li600, li999, li1000, li1001, li2000, li2001, li2002, li2003, li2004, li2005, li2006, li32767, li100000, li_neg, li13, li17, li21, li22, li28, li29, li33, li34, li35, li37, li38, li39, li46, li49, li50, li51, li52, li53, li63, li80, li115, li160]
    · have e5 : dgN T (d + 1) b v = (b, v) := if_neg c
      rw [e5]
      refine ⟨M, ?_, FX.rf _ M, h⟩
      simp (disch := omega) only [f_Tape_number_b, e1, e2, e3, C_dgF c e4, bI_s, bV_s, bL_s, bR_s, bG_s, bG_n, bX_l, bX_r, ck_nI, nI_clamp, nI_leT, nI_leF, nI_ltT, nI_ltF, nI_eqF, nI_add, pk_mul, ofN, bt_e, or0, Nat.zero_add, Nat.add_zero, ↓reduceIte, if_true, if_false, Bool.false_eq_true, eq_self, li0, li1, li2, li3, li4, li5, li6, li7, li8, li9, li10, li11, li12, li14, li15, li16, li18, li19, li20, li23, li24, li25, li26, li27, li30, li31, li32, li36, li40, li41, li42, li43, li44, li45, li47, li48, li57, li59, li60, li91, li93, li96, li97, li100, li105, li122, li150, li200, li255, li400, li500, li600, li999, li1000, li1001, li2000, li2001, li2002, li2003, li2004, li2005, li2006, li32767, li100000, li_neg, li13, li17, li21, li22, li28, li29, li33, li34, li35, li37, li38, li39, li46, li49, li50, li51, li52, li53, li63, li80, li115, li160]
theorem C_number (h : CTp M t T E a k f) : ∃ M', f_Tape_number t p0 p1 M = some (nI (dg T E (sk T E a)).2, M') ∧ FX (tD t) M M' ∧ CTp M' t T E (dg T E (sk T E a)).1 (nO k f T E a p0 p1).1 (nO k f T E a p0 p1).2 := by
  have hE := h.2.2.1
  obtain ⟨M1, e1, f1, h1⟩ := C_next h
  have hs := sk_b (T := T) hE.1
  unfold nO nK
  generalize sk T E a = s at e1 h1 hs ⊢
  have key := C_num (p0 := p0) (p1 := p1) (s := s) (E - s) s 0 FU M1 (by omega) (FU_lt (by omega)) (by omega) h1
  have hb := dgN_b (T := T) (E - s) s 0
  unfold dg
  generalize dgN T (E - s) s 0 = q at key hb ⊢
  obtain ⟨e, v⟩ := q
  dsimp only at key hb ⊢
  obtain ⟨M2, e2, f2, h2⟩ := key
  have e3 := h2.1.2.1
  have e0 : f_Tape_number t p0 p1 M = f_Tape_number_c t p0 p1 (nI s) (nI v) M2 := by
    simp (disch := omega) only [f_Tape_number, e1, e2, bI_s, bV_s, bL_s, bR_s, bG_s, bG_n, bX_l, bX_r, ck_nI, nI_clamp, nI_leT, nI_leF, nI_ltT, nI_ltF, nI_eqF, nI_add, pk_mul, ofN, bt_e, or0, Nat.zero_add, Nat.add_zero, ↓reduceIte, if_true, if_false, Bool.false_eq_true, eq_self, li0, li1, li2, li3, li4, li5, li6, li7, li8, li9, li10, li11, li12, li14, li15, li16, li18, li19, li20, li23, li24, li25, li26, li27, li30, li31, li32, li36, li40, li41, li42, li43, li44, li45, li47, li48, li57, li59, li60, li91, li93, li96, li97, li100, li105, li122, li150, li200, li255, li400, li500, li600, li999, li1000, li1001, li2000, li2001, li2002, li2003, li2004, li2005, li2006, li32767, li100000, li_neg, li13, li17, li21, li22, li28, li29, li33, li34, li35, li37, li38, li39, li46, li49, li50, li51, li52, li53, li63, li80, li115, li160]
  rw [e0]
  by_cases c : e = s
  · subst c
    obtain ⟨M3, e4, f3, h3⟩ := C_wrong h2 (k1 := 1) (f1 := e) (by omega)
    refine ⟨M3, ?_, (f1.trans f2).trans f3, ?_⟩
    · simp (disch := omega) only [f_Tape_number_c, e3, e4, bI_s, bV_s, bL_s, bR_s, bG_s, bG_n, bX_l, bX_r, ck_nI, nI_clamp, nI_leT, nI_leF, nI_ltT, nI_ltF, nI_eqF, nI_add, pk_mul, ofN, bt_e, or0, Nat.zero_add, Nat.add_zero, ↓reduceIte, if_true, if_false, Bool.false_eq_true, eq_self, li0, li1, li2, li3, li4, li5, li6, li7, li8, li9, li10, li11, li12, li14, li15, li16, li18, li19, li20, li23, li24, li25, li26, li27, li30, li31, li32, li36, li40, li41, li42, li43, li44, li45, li47, li48, li57, li59, li60, li91, li93, li96, li97, li100, li105, li122, li150, li200, li255, li400, li500, li600, li999, li1000, li1001, li2000, li2001, li2002, li2003, li2004, li2005, li2006, li32767, li100000, li_neg, li13, li17, li21, li22, li28, li29, li33, li34, li35, li37, li38, li39, li46, li49, li50, li51, li52, li53, li63, li80, li115, li160]
    · rw [if_pos rfl, if_neg (by omega)]; exact h3
  · rw [if_neg c]
    unfold inR
    by_cases c2 : nI v < p0
    · obtain ⟨M3, e4, f3, h3⟩ := C_wrong h2 (k1 := 2) (f1 := s) (by omega)
      refine ⟨M3, ?_, (f1.trans f2).trans f3, ?_⟩
      · simp (disch := omega) only [f_Tape_number_c, f_Tape_number_d, e3, nI_eqF c, c2, e4, bI_s, bV_s, bL_s, bR_s, bG_s, bG_n, bX_l, bX_r, ck_nI, nI_clamp, nI_leT, nI_leF, nI_ltT, nI_ltF, nI_eqF, nI_add, pk_mul, ofN, bt_e, or0, Nat.zero_add, Nat.add_zero, ↓reduceIte, if_true, if_false, Bool.false_eq_true, eq_self, li0, li1, li2, li3, li4, li5, li6, li7, li8, li9, li10, li11, li12, li14, li15, li16, li18, li19, li20, li23, li24, li25, li26, li27, li30, li31, li32, li36, li40, li41, li42, li43, li44, li45, li47, li48, li57, li59, li60, li91, li93, li96, li97, li100, li105, li122, li150, li200, li255, li400, li500, li600, li999, li1000, li1001, li2000, li2001, li2002, li2003, li2004, li2005, li2006, li32767, li100000, li_neg, li13, li17, li21, li22, li28, li29, li33, li34, li35, li37, li38, li39, li46, li49, li50, li51, li52, li53, li63, li80, li115, li160]
      · rw [decide_eq_false (fun q => q.1 c2)]; exact h3
    · by_cases c3 : nI v ≤ p1
      · refine ⟨M2, ?_, f1.trans f2, ?_⟩
        · simp (disch := omega) only [f_Tape_number_c, f_Tape_number_d, e3, nI_eqF c, c2, c3, bI_s, bV_s, bL_s, bR_s, bG_s, bG_n, bX_l, bX_r, ck_nI, nI_clamp, nI_leT, nI_leF, nI_ltT, nI_ltF, nI_eqF, nI_add, pk_mul, ofN, bt_e, or0, Nat.zero_add, Nat.add_zero, ↓reduceIte, if_true, if_false, Bool.false_eq_true, eq_self, li0, li1, li2, li3, li4, li5, li6, li7, li8, li9, li10, li11, li12, li14, li15, li16, li18, li19, li20, li23, li24, li25, li26, li27, li30, li31, li32, li36, li40, li41, li42, li43, li44, li45, li47, li48, li57, li59, li60, li91, li93, li96, li97, li100, li105, li122, li150, li200, li255, li400, li500, li600, li999, li1000, li1001, li2000, li2001, li2002, li2003, li2004, li2005, li2006, li32767, li100000, li_neg, li13, li17, li21, li22, li28, li29, li33, li34, li35, li37, li38, li39, li46, li49, li50, li51, li52, li53, li63, li80, li115, li160]
        · rw [decide_eq_true ⟨c2, c3⟩, if_pos rfl, if_pos rfl]; exact h2
      · obtain ⟨M3, e4, f3, h3⟩ := C_wrong h2 (k1 := 2) (f1 := s) (by omega)
        refine ⟨M3, ?_, (f1.trans f2).trans f3, ?_⟩
        · simp (disch := omega) only [f_Tape_number_c, f_Tape_number_d, e3, nI_eqF c, c2, c3, e4, bI_s, bV_s, bL_s, bR_s, bG_s, bG_n, bX_l, bX_r, ck_nI, nI_clamp, nI_leT, nI_leF, nI_ltT, nI_ltF, nI_eqF, nI_add, pk_mul, ofN, bt_e, or0, Nat.zero_add, Nat.add_zero, ↓reduceIte, if_true, if_false, Bool.false_eq_true, eq_self, li0, li1, li2, li3, li4, li5, li6, li7, li8, li9, li10, li11, li12, li14, li15, li16, li18, li19, li20, li23, li24, li25, li26, li27, li30, li31, li32, li36, li40, li41, li42, li43, li44, li45, li47, li48, li57, li59, li60, li91, li93, li96, li97, li100, li105, li122, li150, li200, li255, li400, li500, li600, li999, li1000, li1001, li2000, li2001, li2002, li2003, li2004, li2005, li2006, li32767, li100000, li_neg, li13, li17, li21, li22, li28, li29, li33, li34, li35, li37, li38, li39, li46, li49, li50, li51, li52, li53, li63, li80, li115, li160]
        · rw [decide_eq_false (fun q => c3 q.2)]; exact h3
/-- the model's number, with no fault before -/
theorem M_num {s : Nat} : ∀ d b v u M, b + d = E → d < u → v < 1000000 → MTp M m T E b k f → ∃ M', f_M_number_b u m p0 p1 (nI s) (nI (min v 100000)) M = f_M_number_b 1 m p0 p1 (nI s) (nI (min (dgN T d b v).2 100000)) M' ∧ FX (uD m) M M' ∧ MTp M' m T E (dgN T d b v).1 k f ∧ ((dgN T d b v).1 < E → ¬ isDg (T (dgN T d b v).1) = true) := by
  intro d
  induction d with
  | zero =>
    intro b v u M hd hu hv h
    obtain ⟨u, rfl⟩ : ∃ v, u = v + 1 := ⟨u - 1, by omega⟩
    have hE := h.2.2.1
    have e2 := h.1.2.1
    refine ⟨M, ?_, FX.rf _ M, h, fun q => by unfold dgN at q; exact absurd q (by show ¬ b < E; omega)⟩
    have : dgN T 0 b v = (b, v) := rfl
    have e3 := M_atE h (show E ≤ b by omega) (by omega)
    simp (disch := omega) only [f_M_number_b, e2, e3, M_dgE, this, bI_s, bV_s, bL_s, bR_s, bG_s, bG_n, bX_l, bX_r, ck_nI, nI_clamp, nI_leT, nI_leF, nI_ltT, nI_ltF, nI_eqF, nI_add, pk_mul, ofN, bt_e, or0, Nat.zero_add, Nat.add_zero, ↓reduceIte, if_true, if_false, Bool.false_eq_true, eq_self, li0, li1, li2, li3, li4, li5, li6, li7, li8, li9, li10, li11, li12, li14, li15, li16, li18, li19, li20, li23, li24, li25, li26, li27, li30, li31, li32, li36, li40, li41, li42, li43, li44, li45, li47, li48, li57, li59, li60, li91, li93, li96, li97, li100, li105, li122, li150, li200, li255, li400, li500, li600, li999, li1000, li1001, li2000, li2001, li2002, li2003, li2004, li2005, li2006, li32767, li100000, li_neg, li13, li17, li21, li22, li28, li29, li33, li34, li35, li37, li38, li39, li46, li49, li50, li51, li52, li53, li63, li80, li115, li160]
  | succ d ih =>
    intro b v u M hd hu hv h
    obtain ⟨u, rfl⟩ : ∃ v, u = v + 1 := ⟨u - 1, by omega⟩
    have hE := h.2.2.1
    have e2 := h.1.2.1
    have e3 := M_at h (show b < E by omega)
    have e4 := h.2.2.2 b (by omega)
    by_cases c : isDg (T b) = true
    · have c2 := isDg_t.mp c
      have e5 : dgN T (d + 1) b v = dgN T d (b + 1) (if 100000 ≤ v then v else v * 10 + T b - 48) := if_pos c
      rw [e5]
      obtain ⟨M', n1, n2, n3⟩ := ih (b + 1) (if 100000 ≤ v then v else v * 10 + T b - 48) u (sI M m 4 (nI (b + 1))) (by omega) (by omega) (by split <;> omega) (h.at (by omega))
      refine ⟨M', ?_, ((FX.rf _ M).sI (by unfold uD; omega)).trans n2, n3⟩
      rw [← n1]
      have z : nI (10 * min v 100000 + T b) - nI 48 = nI (10 * min v 100000 + T b - 48) := pk_sub (by omega)
      by_cases c3 : 10 * min v 100000 + T b - 48 ≤ 100000
      · have e6 : min (if 100000 ≤ v then v else v * 10 + T b - 48) 100000 = 10 * min v 100000 + T b - 48 := by split <;> omega
        rw [e6]
        simp (disch := omega) only [f_M_number_b, e2, e3, M_dgT c, z, bI_s, bV_s, bL_s, bR_s, bG_s, bG_n, bX_l, bX_r, ck_nI, nI_clamp, nI_leT, nI_leF, nI_ltT, nI_ltF, nI_eqF, nI_add, pk_mul, ofN, bt_e, or0, Nat.zero_add, Nat.add_zero, ↓reduceIte, if_true, if_false, Bool.false_eq_true, eq_self, li0, li1, li2, li3, li4, li5, li6, li7, li8, li9, li10, li11, li12, li14, li15, li16, li18, li19, li20, li23, li24, li25, li26, li27, li30, li31, li32, li36, li40, li41, li42, li43, li44, li45, li47, li48, li57, li59, li60, li91, li93, li96, li97, li100, li105, li122, li150, li200, li255, li400, li500, li600, li999, li1000, li1001, li2000, li2001, li2002, li2003, li2004, li2005, li2006, li32767, li100000, li_neg, li13, li17, li21, li22, li28, li29, li33, li34, li35, li37, li38, li39, li46, li49, li50, li51, li52, li53, li63, li80, li115, li160]
      · have e6 : min (if 100000 ≤ v then v else v * 10 + T b - 48) 100000 = 100000 := by split <;> omega
        rw [e6]
        simp (disch := omega) only [f_M_number_b, e2, e3, M_dgT c, z, bI_s, bV_s, bL_s, bR_s, bG_s, bG_n, bX_l, bX_r, ck_nI, nI_clamp, nI_leT, nI_leF, nI_ltT, nI_ltF, nI_eqF, nI_add, pk_mul, ofN, bt_e, or0, Nat.zero_add, Nat.add_zero, ↓reduceIte, if_true, if_false, Bool.false_eq_true, eq_self, li0, li1, li2, li3, li4, li5, li6, li7, li8, li9, li10, li11, li12, li14, li15, li16, li18, li19, li20, li23, li24, li25, li26, li27, li30, li31, li32, li36, li40, li41, li42, li43, li44, li45, li47, li48, li57, li59, li60, li91, li93, li96, li97, li100, li105, li122, li150, li200, li255, li400, li500, li600, li999, li1000, li1001, li2000, li2001, li2002, li2003, li2004, li2005, li2006, li32767, li100000, li_neg, li13, li17, li21, li22, li28, li29, li33, li34, li35, li37, li38, li39, li46, li49, li50, li51, li52, li53, li63, li80, li115, li160]
    · have e5 : dgN T (d + 1) b v = (b, v) := if_neg c
      rw [e5]
      refine ⟨M, ?_, FX.rf _ M, h, fun _ => c⟩
      simp (disch := omega) only [f_M_number_b, e2, e3, M_dgF c e4, bI_s, bV_s, bL_s, bR_s, bG_s, bG_n, bX_l, bX_r, ck_nI, nI_clamp, nI_leT, nI_leF, nI_ltT, nI_ltF, nI_eqF, nI_add, pk_mul, ofN, bt_e, or0, Nat.zero_add, Nat.add_zero, ↓reduceIte, if_true, if_false, Bool.false_eq_true, eq_self, li0, li1, li2, li3, li4, li5, li6, li7, li8, li9, li10, li11, li12, li14, li15, li16, li18, li19, li20, li23, li24, li25, li26, li27, li30, li31, li32, li36, li40, li41, li42, li43, li44, li45, li47, li48, li57, li59, li60, li91, li93, li96, li97, li100, li105, li122, li150, li200, li255, li400, li500, li600, li999, li1000, li1001, li2000, li2001, li2002, li2003, li2004, li2005, li2006, li32767, li100000, li_neg, li13, li17, li21, li22, li28, li29, li33, li34, li35, li37, li38, li39, li46, li49, li50, li51, li52, li53, li63, li80, li115, li160]
theorem dgN_0 {T : Nat → Nat} {d b v : Nat} (h : ¬ isDg (T b) = true ∨ d = 0) : dgN T d b v = (b, v) := by
  cases d with
  | zero => rfl
  | succ d => exact if_neg (by rcases h with h | h; exact h; omega)
theorem dgN_1 {T : Nat → Nat} {d b v : Nat} (h : isDg (T b) = true) (hd : 0 < d) : b < (dgN T d b v).1 := by
  obtain ⟨d, rfl⟩ : ∃ e, d = e + 1 := ⟨d - 1, by omega⟩
  have e5 : dgN T (d + 1) b v = dgN T d (b + 1) (if 100000 ≤ v then v else v * 10 + T b - 48) := if_pos h
  rw [e5]
  have := (dgN_b (T := T) d (b + 1) (if 100000 ≤ v then v else v * 10 + T b - 48)).1
  omega
theorem M_number (h : MTp M m T E a 0 f) (hp : p1 < nI 100000) : ∃ z M', f_M_number m p0 p1 M = some (z, M') ∧ FX (uD m) M M' ∧ MTp M' m T E (dg T E (sk T E a)).1 (nO 0 f T E a p0 p1).1 (nO 0 f T E a p0 p1).2 ∧ ((nO 0 f T E a p0 p1).1 = 0 → z = nI (dg T E (sk T E a)).2) := by
  have hE := h.2.2.1
  have hk := h.1.2.2.1
  obtain ⟨M1, e1, f1, h1⟩ := M_blanks h
  have hs := sk_b (T := T) hE.1
  have hx := h.2.2.2
  unfold nO nK
  generalize sk T E a = s at e1 h1 hs ⊢
  have a1 := h1.1.2.1
  have hb := dgN_b (T := T) (E - s) s 0
  by_cases c : s < E ∧ isDg (T s) = true
  · have key := M_num (p0 := p0) (p1 := p1) (s := s) (E - s) s 0 FU M1 (by omega) (FU_lt (by omega)) (by omega) h1
    have d1 := dgN_1 (T := T) (d := E - s) (b := s) (v := 0) c.2 (by omega)
    have e0 : f_M_number m p0 p1 M = f_M_number_b FU m p0 p1 (nI s) (nI 0) M1 := by
      simp (disch := omega) only [f_M_number, hk, e1, a1, M_at h1 c.1, M_dgT c.2, bI_s, bV_s, bL_s, bR_s, bG_s, bG_n, bX_l, bX_r, ck_nI, nI_clamp, nI_leT, nI_leF, nI_ltT, nI_ltF, nI_eqF, nI_add, pk_mul, ofN, bt_e, or0, Nat.zero_add, Nat.add_zero, ↓reduceIte, if_true, if_false, Bool.false_eq_true, eq_self, li0, li1, li2, li3, li4, li5, li6, li7, li8, li9, li10, li11, li12, li14, li15, li16, li18, li19, li20, li23, li24, li25, li26, li27, li30, li31, li32, li36, li40, li41, li42, li43, li44, li45, li47, li48, li57, li59, li60, li91, li93, li96, li97, li100, li105, li122, li150, li200, li255, li400, li500, li600, li999, li1000, li1001, li2000, li2001, li2002, li2003, li2004, li2005, li2006, li32767, li100000, li_neg, li13, li17, li21, li22, li28, li29, li33, li34, li35, li37, li38, li39, li46, li49, li50, li51, li52, li53, li63, li80, li115, li160]
    rw [e0]
    unfold dg
    generalize dgN T (E - s) s 0 = q at key hb d1 ⊢
    obtain ⟨e, v⟩ := q
    dsimp only at key hb d1 ⊢
    rw [show min 0 100000 = 0 by omega] at key
    obtain ⟨M2, e2, f2, h2, h3⟩ := key
    rw [e2, if_neg (show ¬ e = s by omega)]
    have a2 := h2.1.2.1
    have k2 := h2.1.2.2.1
    have hv : v < 1000000 := hb.2 (by omega) (fun i hi => hx i (by omega))
    have at2 : f_M_byteAt m (nI e) M2 = some (nI (T e), M2) ∧ e < E ∨ f_M_byteAt m (nI e) M2 = some (nI 4294967295, M2) := by
      by_cases q : e < E
      · exact Or.inl ⟨M_at h2 q, q⟩
      · exact Or.inr (M_atE h2 (by omega) (by omega))
    have dg2 : ∃ z, f_M_byteAt m (nI e) M2 = some (z, M2) ∧ ∀ N, f_M_isDigit z N = some (nI 0, N) := by
      rcases at2 with ⟨q, q2⟩ | q
      · exact ⟨_, q, fun N => M_dgF (h3 q2) (hx e q2)⟩
      · exact ⟨_, q, fun N => M_dgE⟩
    obtain ⟨zz, at3, dg3⟩ := dg2
    unfold inR
    by_cases c2 : ¬ nI v < p0 ∧ nI v ≤ p1
    · rw [decide_eq_true c2]
      have hlt : v < 100000 := by
        rcases Nat.lt_or_ge v 100000 with q | q
        · exact q
        · exfalso
          have q3 : nI v < nI 100000 := Int32.lt_of_le_of_lt c2.2 hp
          rw [nI_ltE (by omega) (by omega)] at q3
          omega
      have e9 : min v 100000 = v := by omega
      rw [e9]
      refine ⟨nI v, M2, ?_, f1.trans f2, h2, fun _ => rfl⟩
      have e7 : f_M_in (nI v) p0 p1 M2 = some (nI 1, M2) := by unfold f_M_in; rw [if_neg c2.1, if_neg (Int32.not_lt.mpr c2.2)]; rfl
      simp (disch := omega) only [f_M_number_b, a2, at3, dg3, e7, k2, bI_s, bV_s, bL_s, bR_s, bG_s, bG_n, bX_l, bX_r, ck_nI, nI_clamp, nI_leT, nI_leF, nI_ltT, nI_ltF, nI_eqF, nI_add, pk_mul, ofN, bt_e, or0, Nat.zero_add, Nat.add_zero, ↓reduceIte, if_true, if_false, Bool.false_eq_true, eq_self, li0, li1, li2, li3, li4, li5, li6, li7, li8, li9, li10, li11, li12, li14, li15, li16, li18, li19, li20, li23, li24, li25, li26, li27, li30, li31, li32, li36, li40, li41, li42, li43, li44, li45, li47, li48, li57, li59, li60, li91, li93, li96, li97, li100, li105, li122, li150, li200, li255, li400, li500, li600, li999, li1000, li1001, li2000, li2001, li2002, li2003, li2004, li2005, li2006, li32767, li100000, li_neg, li13, li17, li21, li22, li28, li29, li33, li34, li35, li37, li38, li39, li46, li49, li50, li51, li52, li53, li63, li80, li115, li160]
    · rw [decide_eq_false c2]
      obtain ⟨M3, e4, f3, h4⟩ := M_wrong h2 (k1 := 2) (f1 := s) (by omega)
      have k3 : gI M3 m 5 = nI 2 := h4.1.2.2.1
      have e7 : f_M_in (nI (min v 100000)) p0 p1 M2 = some (nI 0, M2) := by
        unfold f_M_in
        by_cases q : nI (min v 100000) < p0
        · rw [if_pos q]; rfl
        · rw [if_neg q]
          have q2 : p1 < nI (min v 100000) := by
            by_cases q3 : v < 100000
            · rw [show min v 100000 = v by omega] at q ⊢
              exact Int32.not_le.mp (fun q4 => c2 ⟨q, q4⟩)
            · rw [show min v 100000 = 100000 by omega]; exact hp
          rw [if_pos q2]; rfl
      refine ⟨nI 0, M3, ?_, (f1.trans f2).trans f3, h4, fun q => absurd q (by show ¬ (2 : Nat) = 0; omega)⟩
      simp (disch := omega) only [f_M_number_b, a2, at3, dg3, e7, e4, k3, bI_s, bV_s, bL_s, bR_s, bG_s, bG_n, bX_l, bX_r, ck_nI, nI_clamp, nI_leT, nI_leF, nI_ltT, nI_ltF, nI_eqF, nI_add, pk_mul, ofN, bt_e, or0, Nat.zero_add, Nat.add_zero, ↓reduceIte, if_true, if_false, Bool.false_eq_true, eq_self, li0, li1, li2, li3, li4, li5, li6, li7, li8, li9, li10, li11, li12, li14, li15, li16, li18, li19, li20, li23, li24, li25, li26, li27, li30, li31, li32, li36, li40, li41, li42, li43, li44, li45, li47, li48, li57, li59, li60, li91, li93, li96, li97, li100, li105, li122, li150, li200, li255, li400, li500, li600, li999, li1000, li1001, li2000, li2001, li2002, li2003, li2004, li2005, li2006, li32767, li100000, li_neg, li13, li17, li21, li22, li28, li29, li33, li34, li35, li37, li38, li39, li46, li49, li50, li51, li52, li53, li63, li80, li115, li160]
  · have c' : ¬ isDg (T s) = true ∨ E - s = 0 := by
      by_cases q : s < E
      · exact Or.inl (fun q2 => c ⟨q, q2⟩)
      · exact Or.inr (by omega)
    have ed : dg T E s = (s, 0) := dgN_0 c'
    rw [ed]
    rw [if_pos (show (s, 0).1 = s from rfl), if_neg (show ¬ (1 : Nat) = 0 by omega)]
    have at1 : ∀ {N : Mm} {k1 f1 : Nat}, MTp N m T E s k1 f1 → ∃ z, f_M_byteAt m (nI s) N = some (z, N) ∧ ∀ N, f_M_isDigit z N = some (nI 0, N) := by
      intro N k1 f1 hN
      by_cases q : s < E
      · exact ⟨_, M_at hN q, fun N => M_dgF (fun q2 => c ⟨q, q2⟩) (hx s q)⟩
      · exact ⟨_, M_atE hN (by omega) (by omega), fun N => M_dgE⟩
    obtain ⟨z1, y1, y2⟩ := at1 h1
    obtain ⟨M2, e2, f2, h2⟩ := M_wrong h1 (k1 := 1) (f1 := s) (by omega)
    obtain ⟨z2, y3, y4⟩ := at1 h2
    have a2 := h2.1.2.1
    have k2 : gI M2 m 5 = nI 1 := h2.1.2.2.1
    have e3 : f_M_wrong m (nI 2) (nI s) M2 = some M2 := by simp (disch := omega) only [f_M_wrong, k2, bI_s, bV_s, bL_s, bR_s, bG_s, bG_n, bX_l, bX_r, ck_nI, nI_clamp, nI_leT, nI_leF, nI_ltT, nI_ltF, nI_eqF, nI_add, pk_mul, ofN, bt_e, or0, Nat.zero_add, Nat.add_zero, ↓reduceIte, if_true, if_false, Bool.false_eq_true, eq_self, li0, li1, li2, li3, li4, li5, li6, li7, li8, li9, li10, li11, li12, li14, li15, li16, li18, li19, li20, li23, li24, li25, li26, li27, li30, li31, li32, li36, li40, li41, li42, li43, li44, li45, li47, li48, li57, li59, li60, li91, li93, li96, li97, li100, li105, li122, li150, li200, li255, li400, li500, li600, li999, li1000, li1001, li2000, li2001, li2002, li2003, li2004, li2005, li2006, li32767, li100000, li_neg, li13, li17, li21, li22, li28, li29, li33, li34, li35, li37, li38, li39, li46, li49, li50, li51, li52, li53, li63, li80, li115, li160]
    refine ⟨nI 0, M2, ?_, f1.trans f2, h2, fun q => absurd q (by show ¬ (1 : Nat) = 0; omega)⟩
    have ef : FU = 9999 + 1 := rfl
    have e4u : ∀ u, f_M_number_b (u + 1) m p0 p1 (nI s) (nI 0) M2 = some (nI 0, M2) := by
      intro u
      have e5 : f_M_in (nI 0) p0 p1 M2 = some (nI 0, M2) ∨ f_M_in (nI 0) p0 p1 M2 = some (nI 1, M2) := by
        unfold f_M_in
        by_cases q : nI 0 < p0
        · exact Or.inl (if_pos q)
        · rw [if_neg q]
          by_cases q2 : p1 < nI 0
          · exact Or.inl (if_pos q2)
          · exact Or.inr (if_neg q2)
      rcases e5 with e5 | e5
      · simp (disch := omega) only [f_M_number_b, a2, y3, y4, e5, e3, k2, bI_s, bV_s, bL_s, bR_s, bG_s, bG_n, bX_l, bX_r, ck_nI, nI_clamp, nI_leT, nI_leF, nI_ltT, nI_ltF, nI_eqF, nI_add, pk_mul, ofN, bt_e, or0, Nat.zero_add, Nat.add_zero, ↓reduceIte, if_true, if_false, Bool.false_eq_true, eq_self, li0, li1, li2, li3, li4, li5, li6, li7, li8, li9, li10, li11, li12, li14, li15, li16, li18, li19, li20, li23, li24, li25, li26, li27, li30, li31, li32, li36, li40, li41, li42, li43, li44, li45, li47, li48, li57, li59, li60, li91, li93, li96, li97, li100, li105, li122, li150, li200, li255, li400, li500, li600, li999, li1000, li1001, li2000, li2001, li2002, li2003, li2004, li2005, li2006, li32767, li100000, li_neg, li13, li17, li21, li22, li28, li29, li33, li34, li35, li37, li38, li39, li46, li49, li50, li51, li52, li53, li63, li80, li115, li160]
      · simp (disch := omega) only [f_M_number_b, a2, y3, y4, e5, e3, k2, bI_s, bV_s, bL_s, bR_s, bG_s, bG_n, bX_l, bX_r, ck_nI, nI_clamp, nI_leT, nI_leF, nI_ltT, nI_ltF, nI_eqF, nI_add, pk_mul, ofN, bt_e, or0, Nat.zero_add, Nat.add_zero, ↓reduceIte, if_true, if_false, Bool.false_eq_true, eq_self, li0, li1, li2, li3, li4, li5, li6, li7, li8, li9, li10, li11, li12, li14, li15, li16, li18, li19, li20, li23, li24, li25, li26, li27, li30, li31, li32, li36, li40, li41, li42, li43, li44, li45, li47, li48, li57, li59, li60, li91, li93, li96, li97, li100, li105, li122, li150, li200, li255, li400, li500, li600, li999, li1000, li1001, li2000, li2001, li2002, li2003, li2004, li2005, li2006, li32767, li100000, li_neg, li13, li17, li21, li22, li28, li29, li33, li34, li35, li37, li38, li39, li46, li49, li50, li51, li52, li53, li63, li80, li115, li160]
    have e4 : f_M_number_b FU m p0 p1 (nI s) (nI 0) M2 = some (nI 0, M2) := by rw [ef]; exact e4u 9999
    simp (disch := omega) only [f_M_number, hk, e1, a1, y1, y2, e2, e4, bI_s, bV_s, bL_s, bR_s, bG_s, bG_n, bX_l, bX_r, ck_nI, nI_clamp, nI_leT, nI_leF, nI_ltT, nI_ltF, nI_eqF, nI_add, pk_mul, ofN, bt_e, or0, Nat.zero_add, Nat.add_zero, ↓reduceIte, if_true, if_false, Bool.false_eq_true, eq_self, li0, li1, li2, li3, li4, li5, li6, li7, li8, li9, li10, li11, li12, li14, li15, li16, li18, li19, li20, li23, li24, li25, li26, li27, li30, li31, li32, li36, li40, li41, li42, li43, li44, li45, li47, li48, li57, li59, li60, li91, li93, li96, li97, li100, li105, li122, li150, li200, li255, li400, li500, li600, li999, li1000, li1001, li2000, li2001, li2002, li2003, li2004, li2005, li2006, li32767, li100000, li_neg, li13, li17, li21, li22, li28, li29, li33, li34, li35, li37, li38, li39, li46, li49, li50, li51, li52, li53, li63, li80, li115, li160]
theorem M_numberF (h : MTp M m T E a k f) (hk : k ≠ 0) : f_M_number m p0 p1 M = some (nI 0, M) := by
  have hE := h.2.2.1
  have e := h.1.2.2.1
  simp (disch := omega) only [f_M_number, e, bI_s, bV_s, bL_s, bR_s, bG_s, bG_n, bX_l, bX_r, ck_nI, nI_clamp, nI_leT, nI_leF, nI_ltT, nI_ltF, nI_eqF, nI_add, pk_mul, ofN, bt_e, or0, Nat.zero_add, Nat.add_zero, ↓reduceIte, if_true, if_false, Bool.false_eq_true, eq_self, li0, li1, li2, li3, li4, li5, li6, li7, li8, li9, li10, li11, li12, li14, li15, li16, li18, li19, li20, li23, li24, li25, li26, li27, li30, li31, li32, li36, li40, li41, li42, li43, li44, li45, li47, li48, li57, li59, li60, li91, li93, li96, li97, li100, li105, li122, li150, li200, li255, li400, li500, li600, li999, li1000, li1001, li2000, li2001, li2002, li2003, li2004, li2005, li2006, li32767, li100000, li_neg, li13, li17, li21, li22, li28, li29, li33, li34, li35, li37, li38, li39, li46, li49, li50, li51, li52, li53, li63, li80, li115, li160]
end
