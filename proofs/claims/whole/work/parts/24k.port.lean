/-! # functional level, 59: a clause -/
section
variable {M M' M1 M2 N : Mm} {t m E a k f n s p w : Nat} {T : Nat → Nat} {Q : TT}
def full (w : Nat) (Q : TT) : Bool := decide ((w = 0 ∧ Q 0 0 = 4) ∨ (w = 1 ∧ Q 0 2 = 8) ∨ (w = 3 ∧ Q 0 5 = 6))
theorem full_t : full w Q = true ↔ (w = 0 ∧ Q 0 0 = 4) ∨ (w = 1 ∧ Q 0 2 = 8) ∨ (w = 3 ∧ Q 0 5 = 6) := decide_eq_true_iff
def cR (T : Nat → Nat) (E a : Nat) : List Nat := rl T (E - sk T E a) (sk T E a)
/-- behind what a clause tells comes its sign -/
def oG (T : Nat → Nat) (E : Nat) (Q : TT) (r : Nat × Nat × Nat × TT) : Nat × Nat × Nat × TT :=
  if r.1 ≠ 0 then r else if sk T E r.2.2.1 < E ∧ T (sk T E r.2.2.1) = 59 then (0, 4294967295, sk T E r.2.2.1 + 1, r.2.2.2) else (1, sk T E r.2.2.1, 0, Q)
def oC (T : Nat → Nat) (E n a : Nat) (Q : TT) : Nat × Nat × Nat × TT :=
  if kw (cR T E a) = 5 then (1, sk T E a, 0, Q)
  else if n = 60 ∨ full (kw (cR T E a)) Q = true then (3, sk T E a, 0, Q)
  else oG T E Q (oT T E (sk T E a + (cR T E a).length) (kw (cR T E a)) Q)
theorem kw_5 (r : List Nat) : kw r ≤ 5 := by unfold kw; repeat' split
                                             all_goals omega
theorem kwI_n (h : w ≠ 5) : kwI w = nI w := if_neg h
theorem C_full (hQ : isP M p Q) (oQ : okP Q) (hw : w < 5) : f_Port_isFull p (nI w) M = some (nI (if full w Q = true then 1 else 0), M) := by
  have hr := oQ.r
  have hb := oQ.b
  have hw2 := oQ.w
  have g0 := hQ.r
  have g2 := hQ.b
  have g5 := hQ.w
  by_cases c : full w Q = true
  · rw [if_pos c]
    rcases full_t.mp c with ⟨q1, q2⟩ | ⟨q1, q2⟩ | ⟨q1, q2⟩
    · rw [q1]; rw [q2] at g0; simp (disch := omega) only [f_Port_isFull, g0, bI_s, bV_s, bL_s, bR_s, bG_s, bG_n, bX_l, bX_r, ck_nI, nI_clamp, nI_leT, nI_leF, nI_ltT, nI_ltF, nI_eqF, nI_add, pk_mul, ofN, bt_e, or0, Nat.zero_add, Nat.add_zero, ↓reduceIte, if_true, if_false, Bool.false_eq_true, eq_self, li0, li1, li2, li3, li4, li5, li6, li7, li8, li9, li10, li11, li12, li14, li15, li16, li18, li19, li20, li23, li24, li25, li26, li27, li30, li31, li32, li36, li40, li41, li42, li43, li44, li45, li47, li48, li57, li59, li60, li91, li93, li96, li97, li100, li105, li122, li150, li200, li255, li400, li500, li600, li999, li1000, li1001, li2000, li2001, li2002, li2003, li2004, li2005, li2006, li32767, li100000, li_neg, li13, li17, li21, li22, li28, li29, li33, li34, li35, li37, li38, li39, li46, li49, li50, li51, li52, li53, li63, li80, li115, li160]
    · rw [q1]; rw [q2] at g2; simp (disch := omega) only [f_Port_isFull, g2, bI_s, bV_s, bL_s, bR_s, bG_s, bG_n, bX_l, bX_r, ck_nI, nI_clamp, nI_leT, nI_leF, nI_ltT, nI_ltF, nI_eqF, nI_add, pk_mul, ofN, bt_e, or0, Nat.zero_add, Nat.add_zero, ↓reduceIte, if_true, if_false, Bool.false_eq_true, eq_self, li0, li1, li2, li3, li4, li5, li6, li7, li8, li9, li10, li11, li12, li14, li15, li16, li18, li19, li20, li23, li24, li25, li26, li27, li30, li31, li32, li36, li40, li41, li42, li43, li44, li45, li47, li48, li57, li59, li60, li91, li93, li96, li97, li100, li105, li122, li150, li200, li255, li400, li500, li600, li999, li1000, li1001, li2000, li2001, li2002, li2003, li2004, li2005, li2006, li32767, li100000, li_neg, li13, li17, li21, li22, li28, li29, li33, li34, li35, li37, li38, li39, li46, li49, li50, li51, li52, li53, li63, li80, li115, li160]
    · rw [q1]; rw [q2] at g5; simp (disch := omega) only [f_Port_isFull, g5, bI_s, bV_s, bL_s, bR_s, bG_s, bG_n, bX_l, bX_r, ck_nI, nI_clamp, nI_leT, nI_leF, nI_ltT, nI_ltF, nI_eqF, nI_add, pk_mul, ofN, bt_e, or0, Nat.zero_add, Nat.add_zero, ↓reduceIte, if_true, if_false, Bool.false_eq_true, eq_self, li0, li1, li2, li3, li4, li5, li6, li7, li8, li9, li10, li11, li12, li14, li15, li16, li18, li19, li20, li23, li24, li25, li26, li27, li30, li31, li32, li36, li40, li41, li42, li43, li44, li45, li47, li48, li57, li59, li60, li91, li93, li96, li97, li100, li105, li122, li150, li200, li255, li400, li500, li600, li999, li1000, li1001, li2000, li2001, li2002, li2003, li2004, li2005, li2006, li32767, li100000, li_neg, li13, li17, li21, li22, li28, li29, li33, li34, li35, li37, li38, li39, li46, li49, li50, li51, li52, li53, li63, li80, li115, li160]
  · rw [if_neg c]
    have c' : ¬ ((w = 0 ∧ Q 0 0 = 4) ∨ (w = 1 ∧ Q 0 2 = 8) ∨ (w = 3 ∧ Q 0 5 = 6)) := fun q => c (full_t.mpr q)
    obtain q | q | q | q | q : w = 0 ∨ w = 1 ∨ w = 2 ∨ w = 3 ∨ w = 4 := by omega
    · rw [q]; simp (disch := omega) only [f_Port_isFull, g0, bI_s, bV_s, bL_s, bR_s, bG_s, bG_n, bX_l, bX_r, ck_nI, nI_clamp, nI_leT, nI_leF, nI_ltT, nI_ltF, nI_eqF, nI_add, pk_mul, ofN, bt_e, or0, Nat.zero_add, Nat.add_zero, ↓reduceIte, if_true, if_false, Bool.false_eq_true, eq_self, li0, li1, li2, li3, li4, li5, li6, li7, li8, li9, li10, li11, li12, li14, li15, li16, li18, li19, li20, li23, li24, li25, li26, li27, li30, li31, li32, li36, li40, li41, li42, li43, li44, li45, li47, li48, li57, li59, li60, li91, li93, li96, li97, li100, li105, li122, li150, li200, li255, li400, li500, li600, li999, li1000, li1001, li2000, li2001, li2002, li2003, li2004, li2005, li2006, li32767, li100000, li_neg, li13, li17, li21, li22, li28, li29, li33, li34, li35, li37, li38, li39, li46, li49, li50, li51, li52, li53, li63, li80, li115, li160]
    · rw [q]; simp (disch := omega) only [f_Port_isFull, g2, bI_s, bV_s, bL_s, bR_s, bG_s, bG_n, bX_l, bX_r, ck_nI, nI_clamp, nI_leT, nI_leF, nI_ltT, nI_ltF, nI_eqF, nI_add, pk_mul, ofN, bt_e, or0, Nat.zero_add, Nat.add_zero, ↓reduceIte, if_true, if_false, Bool.false_eq_true, eq_self, li0, li1, li2, li3, li4, li5, li6, li7, li8, li9, li10, li11, li12, li14, li15, li16, li18, li19, li20, li23, li24, li25, li26, li27, li30, li31, li32, li36, li40, li41, li42, li43, li44, li45, li47, li48, li57, li59, li60, li91, li93, li96, li97, li100, li105, li122, li150, li200, li255, li400, li500, li600, li999, li1000, li1001, li2000, li2001, li2002, li2003, li2004, li2005, li2006, li32767, li100000, li_neg, li13, li17, li21, li22, li28, li29, li33, li34, li35, li37, li38, li39, li46, li49, li50, li51, li52, li53, li63, li80, li115, li160]
    · rw [q]; simp (disch := omega) only [f_Port_isFull, bI_s, bV_s, bL_s, bR_s, bG_s, bG_n, bX_l, bX_r, ck_nI, nI_clamp, nI_leT, nI_leF, nI_ltT, nI_ltF, nI_eqF, nI_add, pk_mul, ofN, bt_e, or0, Nat.zero_add, Nat.add_zero, ↓reduceIte, if_true, if_false, Bool.false_eq_true, eq_self, li0, li1, li2, li3, li4, li5, li6, li7, li8, li9, li10, li11, li12, li14, li15, li16, li18, li19, li20, li23, li24, li25, li26, li27, li30, li31, li32, li36, li40, li41, li42, li43, li44, li45, li47, li48, li57, li59, li60, li91, li93, li96, li97, li100, li105, li122, li150, li200, li255, li400, li500, li600, li999, li1000, li1001, li2000, li2001, li2002, li2003, li2004, li2005, li2006, li32767, li100000, li_neg, li13, li17, li21, li22, li28, li29, li33, li34, li35, li37, li38, li39, li46, li49, li50, li51, li52, li53, li63, li80, li115, li160]
    · rw [q]; simp (disch := omega) only [f_Port_isFull, g5, bI_s, bV_s, bL_s, bR_s, bG_s, bG_n, bX_l, bX_r, ck_nI, nI_clamp, nI_leT, nI_leF, nI_ltT, nI_ltF, nI_eqF, nI_add, pk_mul, ofN, bt_e, or0, Nat.zero_add, Nat.add_zero, ↓reduceIte, if_true, if_false, Bool.false_eq_true, eq_self, li0, li1, li2, li3, li4, li5, li6, li7, li8, li9, li10, li11, li12, li14, li15, li16, li18, li19, li20, li23, li24, li25, li26, li27, li30, li31, li32, li36, li40, li41, li42, li43, li44, li45, li47, li48, li57, li59, li60, li91, li93, li96, li97, li100, li105, li122, li150, li200, li255, li400, li500, li600, li999, li1000, li1001, li2000, li2001, li2002, li2003, li2004, li2005, li2006, li32767, li100000, li_neg, li13, li17, li21, li22, li28, li29, li33, li34, li35, li37, li38, li39, li46, li49, li50, li51, li52, li53, li63, li80, li115, li160]
    · rw [q]; simp (disch := omega) only [f_Port_isFull, bI_s, bV_s, bL_s, bR_s, bG_s, bG_n, bX_l, bX_r, ck_nI, nI_clamp, nI_leT, nI_leF, nI_ltT, nI_ltF, nI_eqF, nI_add, pk_mul, ofN, bt_e, or0, Nat.zero_add, Nat.add_zero, ↓reduceIte, if_true, if_false, Bool.false_eq_true, eq_self, li0, li1, li2, li3, li4, li5, li6, li7, li8, li9, li10, li11, li12, li14, li15, li16, li18, li19, li20, li23, li24, li25, li26, li27, li30, li31, li32, li36, li40, li41, li42, li43, li44, li45, li47, li48, li57, li59, li60, li91, li93, li96, li97, li100, li105, li122, li150, li200, li255, li400, li500, li600, li999, li1000, li1001, li2000, li2001, li2002, li2003, li2004, li2005, li2006, li32767, li100000, li_neg, li13, li17, li21, li22, li28, li29, li33, li34, li35, li37, li38, li39, li46, li49, li50, li51, li52, li53, li63, li80, li115, li160]
theorem oR_sign (ht : t + 1 < p) {r : Nat × Nat × Nat × TT} (h : oR M t p E T r) (Q : TT) : ∃ M', f_Tape_needSign t (nI 59) M = some M' ∧ FX (tpD t p) M M' ∧ oR M' t p E T (oG T E Q r) := by
  rcases h with ⟨c, h1, h2⟩ | ⟨c, a', h1⟩
  · unfold oG
    rw [if_neg (fun q => q c)]
    by_cases c2 : sk T E r.2.2.1 < E ∧ T (sk T E r.2.2.1) = 59
    · rw [if_pos c2]
      obtain ⟨M1, e1, f1, h3⟩ := C_needY h1 c2.1 c2.2
      exact ⟨M1, e1, f1.mono (fun _ _ q => Or.inl q), Or.inl ⟨rfl, h3, h2.td f1 (by omega)⟩⟩
    · rw [if_neg c2]
      obtain ⟨M1, e1, f1, h3⟩ := C_needN h1 (by omega) c2
      exact ⟨M1, e1, f1.mono (fun _ _ q => Or.inl q), Or.inr ⟨by show (1 : Nat) ≠ 0; omega, _, h3⟩⟩
  · have e : oG T E Q r = r := if_pos c
    rw [e]
    exact ⟨M, C_needF h1 c _, FX.rf _ M, Or.inr ⟨c, a', h1⟩⟩
theorem C_clause (ht : t + 1 < p) (h : CTp M t T E a 0 4294967295) (hQ : isP M p Q) (oQ : okP Q) (hn : n ≤ 60) : ∃ M1 M', f_Port_readClause p t (nI n) M = some M1 ∧ f_Tape_needSign t (nI 59) M1 = some M' ∧ FX (tpD t p) M M' ∧ oR M' t p E T (oC T E n a Q) := by
  have hE := h.2.2.1
  have hi := sk_i (T := T) hE.1
  obtain ⟨M1, e1, f1, h1⟩ := C_next h
  obtain ⟨M2, e2, f2, h2⟩ := C_cw h1
  rw [hi] at e2 h2
  have f12 := f1.trans f2
  have f12' : FX (tpD t p) M M2 := f12.mono (fun _ _ q => Or.inl q)
  have hQ2 := hQ.td f12 (by omega)
  have hs := sk_b (T := T) hE.1
  unfold oC cR
  have h5 := kw_5 (rl T (E - sk T E a) (sk T E a))
  generalize rl T (E - sk T E a) (sk T E a) = r at e2 h2 h5 ⊢
  by_cases c5 : kw r = 5
  · rw [if_pos c5] at h2 ⊢
    have e2' : f_Port_clauseWord t M1 = some (nI 4294967295, M2) := by rw [e2, c5]; rfl
    obtain ⟨M3, e3, f3, h3⟩ := C_wrong h2 (k1 := 1) (f1 := sk T E a) (by omega)
    have h3 : CTp M3 t T E (sk T E a) 1 (sk T E a) := h3
    have e4 := C_needF h3 (by omega) (nI 59)
    refine ⟨M3, M3, ?_, e4, f12'.trans (f3.mono (fun _ _ q => Or.inl q)), Or.inr ⟨by show (1 : Nat) ≠ 0; omega, _, h3⟩⟩
    simp (disch := omega) only [f_Port_readClause, e1, e2', e3, bI_s, bV_s, bL_s, bR_s, bG_s, bG_n, bX_l, bX_r, ck_nI, nI_clamp, nI_leT, nI_leF, nI_ltT, nI_ltF, nI_eqF, nI_add, pk_mul, ofN, bt_e, or0, Nat.zero_add, Nat.add_zero, ↓reduceIte, if_true, if_false, Bool.false_eq_true, eq_self, li0, li1, li2, li3, li4, li5, li6, li7, li8, li9, li10, li11, li12, li14, li15, li16, li18, li19, li20, li23, li24, li25, li26, li27, li30, li31, li32, li36, li40, li41, li42, li43, li44, li45, li47, li48, li57, li59, li60, li91, li93, li96, li97, li100, li105, li122, li150, li200, li255, li400, li500, li600, li999, li1000, li1001, li2000, li2001, li2002, li2003, li2004, li2005, li2006, li32767, li100000, li_neg, li13, li17, li21, li22, li28, li29, li33, li34, li35, li37, li38, li39, li46, li49, li50, li51, li52, li53, li63, li80, li115, li160]
  · rw [if_neg c5] at h2 ⊢
    have e2' : f_Port_clauseWord t M1 = some (nI (kw r), M2) := by rw [e2, kwI_n c5]
    generalize kw r = w at c5 h5 e2' ⊢
    have hw : w < 5 := by omega
    have ef := C_full hQ2 oQ hw
    have m1 : (4294967295 : Nat) ≠ w := by omega
    by_cases cf : n = 60 ∨ full w Q = true
    · rw [if_pos cf]
      obtain ⟨M3, e3, f3, h3⟩ := C_wrong h2 (k1 := 3) (f1 := sk T E a) (by omega)
      have h3 : CTp M3 t T E (sk T E a + r.length) 3 (sk T E a) := h3
      have e4 := C_needF h3 (by omega) (nI 59)
      refine ⟨M3, M3, ?_, e4, f12'.trans (f3.mono (fun _ _ q => Or.inl q)), Or.inr ⟨by show (3 : Nat) ≠ 0; omega, _, h3⟩⟩
      by_cases c6 : n = 60
      · rw [c6]
        simp (disch := omega) only [f_Port_readClause, f_Port_readClause_b, e1, e2', e3, bI_s, bV_s, bL_s, bR_s, bG_s, bG_n, bX_l, bX_r, ck_nI, nI_clamp, nI_leT, nI_leF, nI_ltT, nI_ltF, nI_eqF, nI_add, pk_mul, ofN, bt_e, or0, Nat.zero_add, Nat.add_zero, ↓reduceIte, if_true, if_false, Bool.false_eq_true, eq_self, li0, li1, li2, li3, li4, li5, li6, li7, li8, li9, li10, li11, li12, li14, li15, li16, li18, li19, li20, li23, li24, li25, li26, li27, li30, li31, li32, li36, li40, li41, li42, li43, li44, li45, li47, li48, li57, li59, li60, li91, li93, li96, li97, li100, li105, li122, li150, li200, li255, li400, li500, li600, li999, li1000, li1001, li2000, li2001, li2002, li2003, li2004, li2005, li2006, li32767, li100000, li_neg, li13, li17, li21, li22, li28, li29, li33, li34, li35, li37, li38, li39, li46, li49, li50, li51, li52, li53, li63, li80, li115, li160]
      · rcases cf with q | q
        · exact absurd q c6
        · rw [if_pos q] at ef
          simp (disch := omega) only [f_Port_readClause, f_Port_readClause_b, e1, e2', nI_eqF c6, ef, e3, bI_s, bV_s, bL_s, bR_s, bG_s, bG_n, bX_l, bX_r, ck_nI, nI_clamp, nI_leT, nI_leF, nI_ltT, nI_ltF, nI_eqF, nI_add, pk_mul, ofN, bt_e, or0, Nat.zero_add, Nat.add_zero, ↓reduceIte, if_true, if_false, Bool.false_eq_true, eq_self, li0, li1, li2, li3, li4, li5, li6, li7, li8, li9, li10, li11, li12, li14, li15, li16, li18, li19, li20, li23, li24, li25, li26, li27, li30, li31, li32, li36, li40, li41, li42, li43, li44, li45, li47, li48, li57, li59, li60, li91, li93, li96, li97, li100, li105, li122, li150, li200, li255, li400, li500, li600, li999, li1000, li1001, li2000, li2001, li2002, li2003, li2004, li2005, li2006, li32767, li100000, li_neg, li13, li17, li21, li22, li28, li29, li33, li34, li35, li37, li38, li39, li46, li49, li50, li51, li52, li53, li63, li80, li115, li160]
    · rw [if_neg cf]
      have c6 : n ≠ 60 := fun q => cf (Or.inl q)
      have c7 : ¬ full w Q = true := fun q => cf (Or.inr q)
      have c8 : ¬ ((w = 0 ∧ Q 0 0 = 4) ∨ (w = 1 ∧ Q 0 2 = 8) ∨ (w = 3 ∧ Q 0 5 = 6)) := fun q => c7 (full_t.mpr q)
      rw [if_neg c7] at ef
      have hr := oQ.r
      have hb := oQ.b
      have hw2 := oQ.w
      have key : ∃ M3, f_Port_readClause p t (nI n) M = some M3 ∧ FX (tpD t p) M2 M3 ∧ oR M3 t p E T (oT T E (sk T E a + r.length) w Q) := by
        obtain q | q | q | q | q : w = 0 ∨ w = 1 ∨ w = 2 ∨ w = 3 ∨ w = 4 := by omega
        · subst q
          obtain ⟨M3, e3, f3, h3⟩ := C_told0 ht h2 hQ2 (by omega)
          refine ⟨M3, ?_, f3, h3⟩
          simp (disch := omega) only [f_Port_readClause, e1, e2', nI_eqF c6, ef, e3, bI_s, bV_s, bL_s, bR_s, bG_s, bG_n, bX_l, bX_r, ck_nI, nI_clamp, nI_leT, nI_leF, nI_ltT, nI_ltF, nI_eqF, nI_add, pk_mul, ofN, bt_e, or0, Nat.zero_add, Nat.add_zero, ↓reduceIte, if_true, if_false, Bool.false_eq_true, eq_self, li0, li1, li2, li3, li4, li5, li6, li7, li8, li9, li10, li11, li12, li14, li15, li16, li18, li19, li20, li23, li24, li25, li26, li27, li30, li31, li32, li36, li40, li41, li42, li43, li44, li45, li47, li48, li57, li59, li60, li91, li93, li96, li97, li100, li105, li122, li150, li200, li255, li400, li500, li600, li999, li1000, li1001, li2000, li2001, li2002, li2003, li2004, li2005, li2006, li32767, li100000, li_neg, li13, li17, li21, li22, li28, li29, li33, li34, li35, li37, li38, li39, li46, li49, li50, li51, li52, li53, li63, li80, li115, li160]
        · subst q
          obtain ⟨M3, e3, f3, h3⟩ := C_told1 ht h2 hQ2 (by omega)
          refine ⟨M3, ?_, f3, h3⟩
          simp (disch := omega) only [f_Port_readClause, e1, e2', nI_eqF c6, ef, e3, bI_s, bV_s, bL_s, bR_s, bG_s, bG_n, bX_l, bX_r, ck_nI, nI_clamp, nI_leT, nI_leF, nI_ltT, nI_ltF, nI_eqF, nI_add, pk_mul, ofN, bt_e, or0, Nat.zero_add, Nat.add_zero, ↓reduceIte, if_true, if_false, Bool.false_eq_true, eq_self, li0, li1, li2, li3, li4, li5, li6, li7, li8, li9, li10, li11, li12, li14, li15, li16, li18, li19, li20, li23, li24, li25, li26, li27, li30, li31, li32, li36, li40, li41, li42, li43, li44, li45, li47, li48, li57, li59, li60, li91, li93, li96, li97, li100, li105, li122, li150, li200, li255, li400, li500, li600, li999, li1000, li1001, li2000, li2001, li2002, li2003, li2004, li2005, li2006, li32767, li100000, li_neg, li13, li17, li21, li22, li28, li29, li33, li34, li35, li37, li38, li39, li46, li49, li50, li51, li52, li53, li63, li80, li115, li160]
        · subst q
          obtain ⟨M3, e3, f3, h3⟩ := C_kin ht h2 hQ2
          refine ⟨M3, ?_, f3, h3⟩
          simp (disch := omega) only [f_Port_readClause, e1, e2', nI_eqF c6, ef, e3, bI_s, bV_s, bL_s, bR_s, bG_s, bG_n, bX_l, bX_r, ck_nI, nI_clamp, nI_leT, nI_leF, nI_ltT, nI_ltF, nI_eqF, nI_add, pk_mul, ofN, bt_e, or0, Nat.zero_add, Nat.add_zero, ↓reduceIte, if_true, if_false, Bool.false_eq_true, eq_self, li0, li1, li2, li3, li4, li5, li6, li7, li8, li9, li10, li11, li12, li14, li15, li16, li18, li19, li20, li23, li24, li25, li26, li27, li30, li31, li32, li36, li40, li41, li42, li43, li44, li45, li47, li48, li57, li59, li60, li91, li93, li96, li97, li100, li105, li122, li150, li200, li255, li400, li500, li600, li999, li1000, li1001, li2000, li2001, li2002, li2003, li2004, li2005, li2006, li32767, li100000, li_neg, li13, li17, li21, li22, li28, li29, li33, li34, li35, li37, li38, li39, li46, li49, li50, li51, li52, li53, li63, li80, li115, li160]
        · subst q
          obtain ⟨M3, e3, f3, h3⟩ := C_told3 ht h2 hQ2 (by omega)
          refine ⟨M3, ?_, f3, h3⟩
          simp (disch := omega) only [f_Port_readClause, e1, e2', nI_eqF c6, ef, e3, bI_s, bV_s, bL_s, bR_s, bG_s, bG_n, bX_l, bX_r, ck_nI, nI_clamp, nI_leT, nI_leF, nI_ltT, nI_ltF, nI_eqF, nI_add, pk_mul, ofN, bt_e, or0, Nat.zero_add, Nat.add_zero, ↓reduceIte, if_true, if_false, Bool.false_eq_true, eq_self, li0, li1, li2, li3, li4, li5, li6, li7, li8, li9, li10, li11, li12, li14, li15, li16, li18, li19, li20, li23, li24, li25, li26, li27, li30, li31, li32, li36, li40, li41, li42, li43, li44, li45, li47, li48, li57, li59, li60, li91, li93, li96, li97, li100, li105, li122, li150, li200, li255, li400, li500, li600, li999, li1000, li1001, li2000, li2001, li2002, li2003, li2004, li2005, li2006, li32767, li100000, li_neg, li13, li17, li21, li22, li28, li29, li33, li34, li35, li37, li38, li39, li46, li49, li50, li51, li52, li53, li63, li80, li115, li160]
        · subst q
          obtain ⟨M3, e3, f3, h3⟩ := C_told4 ht h2 hQ2 oQ
          refine ⟨M3, ?_, f3, h3⟩
          simp (disch := omega) only [f_Port_readClause, e1, e2', nI_eqF c6, ef, e3, bI_s, bV_s, bL_s, bR_s, bG_s, bG_n, bX_l, bX_r, ck_nI, nI_clamp, nI_leT, nI_leF, nI_ltT, nI_ltF, nI_eqF, nI_add, pk_mul, ofN, bt_e, or0, Nat.zero_add, Nat.add_zero, ↓reduceIte, if_true, if_false, Bool.false_eq_true, eq_self, li0, li1, li2, li3, li4, li5, li6, li7, li8, li9, li10, li11, li12, li14, li15, li16, li18, li19, li20, li23, li24, li25, li26, li27, li30, li31, li32, li36, li40, li41, li42, li43, li44, li45, li47, li48, li57, li59, li60, li91, li93, li96, li97, li100, li105, li122, li150, li200, li255, li400, li500, li600, li999, li1000, li1001, li2000, li2001, li2002, li2003, li2004, li2005, li2006, li32767, li100000, li_neg, li13, li17, li21, li22, li28, li29, li33, li34, li35, li37, li38, li39, li46, li49, li50, li51, li52, li53, li63, li80, li115, li160]
      obtain ⟨M3, e3, f3, h3⟩ := key
      obtain ⟨M4, e4, f4, h4⟩ := oR_sign ht h3 Q
      exact ⟨M3, M4, e3, e4, (f12'.trans f3).trans f4, h4⟩
theorem oRm_sign {r : Nat × Nat × Nat × TT} (h : oRm M m E T r) (Q : TT) : ∃ M', f_M_sign m (nI 59) M = some M' ∧ FX (uD m) M M' ∧ oRm M' m E T (oG T E Q r) := by
  rcases h with ⟨c, h1, h2⟩ | ⟨c, a', h1⟩
  · unfold oG
    rw [if_neg (fun q => q c)]
    by_cases c2 : sk T E r.2.2.1 < E ∧ T (sk T E r.2.2.1) = 59
    · rw [if_pos c2]
      obtain ⟨M1, e1, f1, h3⟩ := M_signY h1 c2.1 c2.2
      exact ⟨M1, e1, f1, Or.inl ⟨rfl, h3, h2.mv (fun x j q => f1.2.1 x j (by unfold uD; omega))⟩⟩
    · rw [if_neg c2]
      obtain ⟨M1, e1, f1, h3⟩ := M_signN h1 (by omega) c2
      exact ⟨M1, e1, f1, Or.inr ⟨by show (1 : Nat) ≠ 0; omega, _, h3⟩⟩
  · have e : oG T E Q r = r := if_pos c
    rw [e]
    exact ⟨M, M_signF h1 c _, FX.rf _ M, Or.inr ⟨c, a', h1⟩⟩
theorem MTp.s7 (h : MTp M m T E a k f) {j : Nat} (hj : 7 ≤ j) (v : Int32) : MTp (sI M m j v) m T E a k f :=
  ⟨⟨by rw [gI_ne (Or.inr (by omega))]; exact h.1.1, by rw [gI_ne (Or.inr (by omega))]; exact h.1.2.1, by rw [gI_ne (Or.inr (by omega))]; exact h.1.2.2.1, by rw [gI_ne (Or.inr (by omega))]; exact h.1.2.2.2⟩, fun i hi => by rw [gI_ne (Or.inl (by omega))]; exact h.2.1 i hi, h.2.2⟩
def clD (m a j : Nat) : Prop := upD m a j ∨ (a = m ∧ j = 7)
theorem M_clause (h : MTp M m T E a 0 4294967295) (hc : gI M m 7 = nI n) (hQ : isQr M m Q) (oQ : okP Q) (hn : n ≤ 60) : ∃ M', f_M_clause m M = some M' ∧ FX (clD m) M M' ∧ oRm M' m E T (oC T E n a Q) ∧ ((oC T E n a Q).1 = 0 → gI M' m 7 = nI (n + 1)) := by
  have hE := h.2.2.1
  have hi := sk_i (T := T) hE.1
  obtain ⟨M1, e1, f1, h1⟩ := M_kind h
  have hs := sk_b (T := T) hE.1
  have hQ1 := hQ.ud oQ f1
  have g7 : gI M1 m 7 = nI n := by rw [f1.2.1 _ _ (by unfold uD; omega)]; exact hc
  have a1 := h1.1.2.1
  have k1 := h1.1.2.2.1
  have f1' : FX (clD m) M M1 := f1.mono (fun _ _ q => Or.inl (Or.inl q))
  unfold oC cR
  have h5 := kw_5 (rl T (E - sk T E a) (sk T E a))
  obtain ⟨M2, e2, f2, h2⟩ := M_skip h1
  generalize rl T (E - sk T E a) (sk T E a) = r at e1 e2 h2 h5 ⊢
  have hr := oQ.r
  have hb := oQ.b
  have hw2 := oQ.w
  have fault : ∀ kk x, kk = 1 ∨ kk = 3 → ∃ M3, f_M_wrong m (nI kk) (nI (sk T E a)) M1 = some M3 ∧ f_M_clause_c m x M3 = some M3 ∧ FX (clD m) M M3 ∧ MTp M3 m T E (sk T E a) kk (sk T E a) := by
    intro kk x hkk
    obtain ⟨M3, e3, f3, h3⟩ := M_wrong h1 (k1 := kk) (f1 := sk T E a) (by omega)
    have h3 : MTp M3 m T E (sk T E a) kk (sk T E a) := h3
    have g3 := h3.1.2.2.1
    refine ⟨M3, e3, ?_, f1'.trans (f3.mono (fun _ _ q => Or.inl (Or.inl q))), h3⟩
    simp (disch := omega) only [f_M_clause_c, g3, bI_s, bV_s, bL_s, bR_s, bG_s, bG_n, bX_l, bX_r, ck_nI, nI_clamp, nI_leT, nI_leF, nI_ltT, nI_ltF, nI_eqF, nI_add, pk_mul, ofN, bt_e, or0, Nat.zero_add, Nat.add_zero, ↓reduceIte, if_true, if_false, Bool.false_eq_true, eq_self, li0, li1, li2, li3, li4, li5, li6, li7, li8, li9, li10, li11, li12, li14, li15, li16, li18, li19, li20, li23, li24, li25, li26, li27, li30, li31, li32, li36, li40, li41, li42, li43, li44, li45, li47, li48, li57, li59, li60, li91, li93, li96, li97, li100, li105, li122, li150, li200, li255, li400, li500, li600, li999, li1000, li1001, li2000, li2001, li2002, li2003, li2004, li2005, li2006, li32767, li100000, li_neg, li13, li17, li21, li22, li28, li29, li33, li34, li35, li37, li38, li39, li46, li49, li50, li51, li52, li53, li63, li80, li115, li160]
  by_cases c5 : kw r = 5
  · rw [if_pos c5]
    have e1' : f_M_kindHere m M = some (nI 4294967295, M1) := by rw [e1, c5]; rfl
    obtain ⟨M3, e3, e4, f3, h3⟩ := fault 1 (nI 4294967295) (Or.inl rfl)
    refine ⟨M3, ?_, f3, Or.inr ⟨by show (1 : Nat) ≠ 0; omega, _, h3⟩, fun q => absurd q (by show (1 : Nat) ≠ 0; omega)⟩
    simp (disch := omega) only [f_M_clause, e1', a1, e3, e4, bI_s, bV_s, bL_s, bR_s, bG_s, bG_n, bX_l, bX_r, ck_nI, nI_clamp, nI_leT, nI_leF, nI_ltT, nI_ltF, nI_eqF, nI_add, pk_mul, ofN, bt_e, or0, Nat.zero_add, Nat.add_zero, ↓reduceIte, if_true, if_false, Bool.false_eq_true, eq_self, li0, li1, li2, li3, li4, li5, li6, li7, li8, li9, li10, li11, li12, li14, li15, li16, li18, li19, li20, li23, li24, li25, li26, li27, li30, li31, li32, li36, li40, li41, li42, li43, li44, li45, li47, li48, li57, li59, li60, li91, li93, li96, li97, li100, li105, li122, li150, li200, li255, li400, li500, li600, li999, li1000, li1001, li2000, li2001, li2002, li2003, li2004, li2005, li2006, li32767, li100000, li_neg, li13, li17, li21, li22, li28, li29, li33, li34, li35, li37, li38, li39, li46, li49, li50, li51, li52, li53, li63, li80, li115, li160]
  · rw [if_neg c5]
    generalize kw r = w at c5 h5 e1 ⊢
    obtain ⟨x, ex, hx⟩ : ∃ x, kwM w = nI x ∧ ((w = 0 ∧ x = 0) ∨ (w = 1 ∧ x = 1) ∨ (w = 2 ∧ x = 3) ∨ (w = 3 ∧ x = 2) ∨ (w = 4 ∧ x = 4)) := by
      obtain q | q | q | q | q : w = 0 ∨ w = 1 ∨ w = 2 ∨ w = 3 ∨ w = 4 := by omega
      · rw [q]; exact ⟨0, rfl, by omega⟩
      · rw [q]; exact ⟨1, rfl, by omega⟩
      · rw [q]; exact ⟨3, rfl, by omega⟩
      · rw [q]; exact ⟨2, rfl, by omega⟩
      · rw [q]; exact ⟨4, rfl, by omega⟩
    rw [ex] at e1
    have gr := hQ1.1.1
    have gb := hQ1.1.2.1
    have gw := hQ1.1.2.2
    by_cases cf : n = 60 ∨ full w Q = true
    · rw [if_pos cf]
      obtain ⟨M3, e3, e4, f3, h3⟩ := fault 3 (nI x) (Or.inr rfl)
      refine ⟨M3, ?_, f3, Or.inr ⟨by show (3 : Nat) ≠ 0; omega, _, h3⟩, fun q => absurd q (by show (3 : Nat) ≠ 0; omega)⟩
      by_cases c6 : n = 60
      · rw [c6] at g7
        simp (disch := omega) only [f_M_clause, f_M_clause_b, e1, g7, a1, e3, e4, bI_s, bV_s, bL_s, bR_s, bG_s, bG_n, bX_l, bX_r, ck_nI, nI_clamp, nI_leT, nI_leF, nI_ltT, nI_ltF, nI_eqF, nI_add, pk_mul, ofN, bt_e, or0, Nat.zero_add, Nat.add_zero, ↓reduceIte, if_true, if_false, Bool.false_eq_true, eq_self, li0, li1, li2, li3, li4, li5, li6, li7, li8, li9, li10, li11, li12, li14, li15, li16, li18, li19, li20, li23, li24, li25, li26, li27, li30, li31, li32, li36, li40, li41, li42, li43, li44, li45, li47, li48, li57, li59, li60, li91, li93, li96, li97, li100, li105, li122, li150, li200, li255, li400, li500, li600, li999, li1000, li1001, li2000, li2001, li2002, li2003, li2004, li2005, li2006, li32767, li100000, li_neg, li13, li17, li21, li22, li28, li29, li33, li34, li35, li37, li38, li39, li46, li49, li50, li51, li52, li53, li63, li80, li115, li160]
      · rcases cf with q | q
        · exact absurd q c6
        · rcases full_t.mp q with ⟨q1, q2⟩ | ⟨q1, q2⟩ | ⟨q1, q2⟩
          · obtain rfl : x = 0 := by omega
            rw [q2] at gr
            simp (disch := omega) only [f_M_clause, f_M_clause_b, f_M_mostOf, e1, g7, nI_eqF c6, gr, a1, e3, e4, bI_s, bV_s, bL_s, bR_s, bG_s, bG_n, bX_l, bX_r, ck_nI, nI_clamp, nI_leT, nI_leF, nI_ltT, nI_ltF, nI_eqF, nI_add, pk_mul, ofN, bt_e, or0, Nat.zero_add, Nat.add_zero, ↓reduceIte, if_true, if_false, Bool.false_eq_true, eq_self, li0, li1, li2, li3, li4, li5, li6, li7, li8, li9, li10, li11, li12, li14, li15, li16, li18, li19, li20, li23, li24, li25, li26, li27, li30, li31, li32, li36, li40, li41, li42, li43, li44, li45, li47, li48, li57, li59, li60, li91, li93, li96, li97, li100, li105, li122, li150, li200, li255, li400, li500, li600, li999, li1000, li1001, li2000, li2001, li2002, li2003, li2004, li2005, li2006, li32767, li100000, li_neg, li13, li17, li21, li22, li28, li29, li33, li34, li35, li37, li38, li39, li46, li49, li50, li51, li52, li53, li63, li80, li115, li160]
          · obtain rfl : x = 1 := by omega
            rw [q2] at gb
            simp (disch := omega) only [f_M_clause, f_M_clause_b, f_M_mostOf, e1, g7, nI_eqF c6, gb, a1, e3, e4, bI_s, bV_s, bL_s, bR_s, bG_s, bG_n, bX_l, bX_r, ck_nI, nI_clamp, nI_leT, nI_leF, nI_ltT, nI_ltF, nI_eqF, nI_add, pk_mul, ofN, bt_e, or0, Nat.zero_add, Nat.add_zero, ↓reduceIte, if_true, if_false, Bool.false_eq_true, eq_self, li0, li1, li2, li3, li4, li5, li6, li7, li8, li9, li10, li11, li12, li14, li15, li16, li18, li19, li20, li23, li24, li25, li26, li27, li30, li31, li32, li36, li40, li41, li42, li43, li44, li45, li47, li48, li57, li59, li60, li91, li93, li96, li97, li100, li105, li122, li150, li200, li255, li400, li500, li600, li999, li1000, li1001, li2000, li2001, li2002, li2003, li2004, li2005, li2006, li32767, li100000, li_neg, li13, li17, li21, li22, li28, li29, li33, li34, li35, li37, li38, li39, li46, li49, li50, li51, li52, li53, li63, li80, li115, li160]
          · obtain rfl : x = 2 := by omega
            rw [q2] at gw
            simp (disch := omega) only [f_M_clause, f_M_clause_b, f_M_mostOf, e1, g7, nI_eqF c6, gw, a1, e3, e4, bI_s, bV_s, bL_s, bR_s, bG_s, bG_n, bX_l, bX_r, ck_nI, nI_clamp, nI_leT, nI_leF, nI_ltT, nI_ltF, nI_eqF, nI_add, pk_mul, ofN, bt_e, or0, Nat.zero_add, Nat.add_zero, ↓reduceIte, if_true, if_false, Bool.false_eq_true, eq_self, li0, li1, li2, li3, li4, li5, li6, li7, li8, li9, li10, li11, li12, li14, li15, li16, li18, li19, li20, li23, li24, li25, li26, li27, li30, li31, li32, li36, li40, li41, li42, li43, li44, li45, li47, li48, li57, li59, li60, li91, li93, li96, li97, li100, li105, li122, li150, li200, li255, li400, li500, li600, li999, li1000, li1001, li2000, li2001, li2002, li2003, li2004, li2005, li2006, li32767, li100000, li_neg, li13, li17, li21, li22, li28, li29, li33, li34, li35, li37, li38, li39, li46, li49, li50, li51, li52, li53, li63, li80, li115, li160]
    · rw [if_neg cf]
      have c6 : n ≠ 60 := fun q => cf (Or.inl q)
      have c7 : ¬ full w Q = true := fun q => cf (Or.inr q)
      have c8 : ¬ ((w = 0 ∧ Q 0 0 = 4) ∨ (w = 1 ∧ Q 0 2 = 8) ∨ (w = 3 ∧ Q 0 5 = 6)) := fun q => c7 (full_t.mpr q)
      have g72 : gI M2 m 7 = nI n := by rw [f2.2.1 _ _ (by unfold uD; omega)]; exact g7
      have h3 := h2.s7 (j := 7) (by omega) (nI (n + 1))
      have f3 : FX (clD m) M (sI M2 m 7 (nI (n + 1))) := (f1'.trans (f2.mono (fun _ _ q => Or.inl (Or.inl q)))).sI (Or.inr ⟨rfl, rfl⟩)
      have hQ3 : isQr (sI M2 m 7 (nI (n + 1))) m Q := (hQ1.ud oQ f2).mv (fun x j q => gI_ne (Or.inl (by omega)))
      have g73 : gI (sI M2 m 7 (nI (n + 1))) m 7 = nI (n + 1) := gI_same ..
      have br := hQ3.1.1
      have bb := hQ3.1.2.1
      have bw := hQ3.1.2.2
      have key : ∃ y M4, f_M_clause m M = f_M_clause_g m (nI x) y M4 ∧ FX (upD m) (sI M2 m 7 (nI (n + 1))) M4 ∧ oRm M4 m E T (oT T E (sk T E a + r.length) w Q) := by
        rcases hx with ⟨q1, q2⟩ | ⟨q1, q2⟩ | ⟨q1, q2⟩ | ⟨q1, q2⟩ | ⟨q1, q2⟩
        · subst q1 q2
          obtain ⟨M4, e4, f4, h4⟩ := M_told0 h3 hQ3 oQ (by omega)
          refine ⟨nI (Q 0 0), M4, ?_, f4, h4⟩
          rw [← e4]
          have c9 : Q 0 0 ≠ 4 := by omega
          simp (disch := omega) only [f_M_clause, f_M_clause_c, f_M_mostOf, e1, g7, nI_eqF c6, gr, nI_eqF c9, k1, e2, g72, br, bI_s, bV_s, bL_s, bR_s, bG_s, bG_n, bX_l, bX_r, ck_nI, nI_clamp, nI_leT, nI_leF, nI_ltT, nI_ltF, nI_eqF, nI_add, pk_mul, ofN, bt_e, or0, Nat.zero_add, Nat.add_zero, ↓reduceIte, if_true, if_false, Bool.false_eq_true, eq_self, li0, li1, li2, li3, li4, li5, li6, li7, li8, li9, li10, li11, li12, li14, li15, li16, li18, li19, li20, li23, li24, li25, li26, li27, li30, li31, li32, li36, li40, li41, li42, li43, li44, li45, li47, li48, li57, li59, li60, li91, li93, li96, li97, li100, li105, li122, li150, li200, li255, li400, li500, li600, li999, li1000, li1001, li2000, li2001, li2002, li2003, li2004, li2005, li2006, li32767, li100000, li_neg, li13, li17, li21, li22, li28, li29, li33, li34, li35, li37, li38, li39, li46, li49, li50, li51, li52, li53, li63, li80, li115, li160]
        · subst q1 q2
          obtain ⟨M4, e4, f4, h4⟩ := M_told1 h3 hQ3 oQ (by omega)
          refine ⟨nI (Q 0 2), M4, ?_, f4, h4⟩
          rw [← e4]
          have c9 : Q 0 2 ≠ 8 := by omega
          simp (disch := omega) only [f_M_clause, f_M_clause_c, f_M_mostOf, e1, g7, nI_eqF c6, gb, nI_eqF c9, k1, e2, g72, bb, bI_s, bV_s, bL_s, bR_s, bG_s, bG_n, bX_l, bX_r, ck_nI, nI_clamp, nI_leT, nI_leF, nI_ltT, nI_ltF, nI_eqF, nI_add, pk_mul, ofN, bt_e, or0, Nat.zero_add, Nat.add_zero, ↓reduceIte, if_true, if_false, Bool.false_eq_true, eq_self, li0, li1, li2, li3, li4, li5, li6, li7, li8, li9, li10, li11, li12, li14, li15, li16, li18, li19, li20, li23, li24, li25, li26, li27, li30, li31, li32, li36, li40, li41, li42, li43, li44, li45, li47, li48, li57, li59, li60, li91, li93, li96, li97, li100, li105, li122, li150, li200, li255, li400, li500, li600, li999, li1000, li1001, li2000, li2001, li2002, li2003, li2004, li2005, li2006, li32767, li100000, li_neg, li13, li17, li21, li22, li28, li29, li33, li34, li35, li37, li38, li39, li46, li49, li50, li51, li52, li53, li63, li80, li115, li160]
        · subst q1 q2
          obtain ⟨M4, e4, f4, h4⟩ := M_kin h3 hQ3 oQ
          refine ⟨nI 0, M4, ?_, f4, h4⟩
          rw [← e4]
          simp (disch := omega) only [f_M_clause, f_M_clause_c, f_M_mostOf, e1, g7, nI_eqF c6, k1, e2, g72, bI_s, bV_s, bL_s, bR_s, bG_s, bG_n, bX_l, bX_r, ck_nI, nI_clamp, nI_leT, nI_leF, nI_ltT, nI_ltF, nI_eqF, nI_add, pk_mul, ofN, bt_e, or0, Nat.zero_add, Nat.add_zero, ↓reduceIte, if_true, if_false, Bool.false_eq_true, eq_self, li0, li1, li2, li3, li4, li5, li6, li7, li8, li9, li10, li11, li12, li14, li15, li16, li18, li19, li20, li23, li24, li25, li26, li27, li30, li31, li32, li36, li40, li41, li42, li43, li44, li45, li47, li48, li57, li59, li60, li91, li93, li96, li97, li100, li105, li122, li150, li200, li255, li400, li500, li600, li999, li1000, li1001, li2000, li2001, li2002, li2003, li2004, li2005, li2006, li32767, li100000, li_neg, li13, li17, li21, li22, li28, li29, li33, li34, li35, li37, li38, li39, li46, li49, li50, li51, li52, li53, li63, li80, li115, li160]
        · subst q1 q2
          obtain ⟨M4, e4, f4, h4⟩ := M_told3 h3 hQ3 oQ (by omega)
          refine ⟨nI (Q 0 5), M4, ?_, f4, h4⟩
          rw [← e4]
          have c9 : Q 0 5 ≠ 6 := by omega
          simp (disch := omega) only [f_M_clause, f_M_clause_c, f_M_mostOf, e1, g7, nI_eqF c6, gw, nI_eqF c9, k1, e2, g72, bw, bI_s, bV_s, bL_s, bR_s, bG_s, bG_n, bX_l, bX_r, ck_nI, nI_clamp, nI_leT, nI_leF, nI_ltT, nI_ltF, nI_eqF, nI_add, pk_mul, ofN, bt_e, or0, Nat.zero_add, Nat.add_zero, ↓reduceIte, if_true, if_false, Bool.false_eq_true, eq_self, li0, li1, li2, li3, li4, li5, li6, li7, li8, li9, li10, li11, li12, li14, li15, li16, li18, li19, li20, li23, li24, li25, li26, li27, li30, li31, li32, li36, li40, li41, li42, li43, li44, li45, li47, li48, li57, li59, li60, li91, li93, li96, li97, li100, li105, li122, li150, li200, li255, li400, li500, li600, li999, li1000, li1001, li2000, li2001, li2002, li2003, li2004, li2005, li2006, li32767, li100000, li_neg, li13, li17, li21, li22, li28, li29, li33, li34, li35, li37, li38, li39, li46, li49, li50, li51, li52, li53, li63, li80, li115, li160]
        · subst q1 q2
          obtain ⟨M4, e4, f4, h4⟩ := M_told4 h3 hQ3 oQ
          refine ⟨nI 0, M4, ?_, f4, h4⟩
          rw [← e4]
          simp (disch := omega) only [f_M_clause, f_M_clause_c, f_M_mostOf, e1, g7, nI_eqF c6, k1, e2, g72, bI_s, bV_s, bL_s, bR_s, bG_s, bG_n, bX_l, bX_r, ck_nI, nI_clamp, nI_leT, nI_leF, nI_ltT, nI_ltF, nI_eqF, nI_add, pk_mul, ofN, bt_e, or0, Nat.zero_add, Nat.add_zero, ↓reduceIte, if_true, if_false, Bool.false_eq_true, eq_self, li0, li1, li2, li3, li4, li5, li6, li7, li8, li9, li10, li11, li12, li14, li15, li16, li18, li19, li20, li23, li24, li25, li26, li27, li30, li31, li32, li36, li40, li41, li42, li43, li44, li45, li47, li48, li57, li59, li60, li91, li93, li96, li97, li100, li105, li122, li150, li200, li255, li400, li500, li600, li999, li1000, li1001, li2000, li2001, li2002, li2003, li2004, li2005, li2006, li32767, li100000, li_neg, li13, li17, li21, li22, li28, li29, li33, li34, li35, li37, li38, li39, li46, li49, li50, li51, li52, li53, li63, li80, li115, li160]
      obtain ⟨y, M4, e4, f4, h4⟩ := key
      obtain ⟨M5, e5, f5, h5⟩ := oRm_sign h4 Q
      refine ⟨M5, ?_, (f3.trans (f4.mono (fun _ _ q => Or.inl q))).trans (f5.mono (fun _ _ q => Or.inl (Or.inl q))), h5, fun _ => ?_⟩
      · rw [e4]
        have e5' : f_M_sign m 59 M4 = some M5 := e5
        unfold f_M_clause_g
        rw [e5', bV_s]
      · rw [f5.2.1 _ _ (by unfold uD; omega), f4.2.1 _ _ (by unfold upD uD prD; omega)]; exact g73
end
