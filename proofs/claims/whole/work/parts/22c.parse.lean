/-! # functional level, 38: reading a sign -/
section
variable {M M' M1 M2 N : Mm} {t m E a k f c : Nat} {T : Nat → Nat}
theorem C_needY (h : CTp M t T E a 0 f) (h1 : sk T E a < E) (h2 : T (sk T E a) = c) : ∃ M', f_Tape_needSign t (nI c) M = some M' ∧ FX (tD t) M M' ∧ CTp M' t T E (sk T E a + 1) 0 f := by
  have hE := h.2.2.1
  have hk := h.1.2.2.1
  obtain ⟨M1, e1, f1, n1⟩ := C_next h
  have a1 := n1.1.1
  have a2 := n1.1.2.1
  have a3 := n1.2.1 _ h1
  have hb := h.2.2.2 _ h1
  rw [h2] at a3
  refine ⟨sI M1 t 3 (nI (sk T E a + 1)), ?_, f1.sI (by unfold tD; omega), n1.at (by omega)⟩
  simp (disch := omega) only [f_Tape_needSign, hk, e1, a1, a2, a3, bI_s, bV_s, bL_s, bR_s, bG_s, bG_n, bX_l, bX_r, ck_nI, nI_clamp, nI_leT, nI_leF, nI_ltT, nI_ltF, nI_eqF, nI_add, pk_mul, ofN, bt_e, or0, Nat.zero_add, Nat.add_zero, ↓reduceIte, if_true, if_false, Bool.false_eq_true, eq_self, li0, li1, li2, li3, li4, li5, li6, li7, li8, li9, li10, li11, li12, li14, li15, li16, li18, li19, li20, li23, li24, li25, li26, li27, li30, li31, li32, li36, li40, li41, li42, li43, li44, li45, li47, li48, li57, li59, li60, li91, li93, li96, li97, li100, li105, li122, li150, li200, li255, li400, li500, li600, li999, li1000, li1001, li2000, li2001, li2002, li2003, li2004, li2005, li2006, li32767, li100000, li_neg, li13, li17, li21, li22, li28, li29, li33, li34, li35, li37, li38, li39, li46, li49, li50, li51, li52, li53, li63, li80, li115, li160]
theorem C_needN (h : CTp M t T E a 0 f) (hc : c < 256) (h1 : ¬ (sk T E a < E ∧ T (sk T E a) = c)) : ∃ M', f_Tape_needSign t (nI c) M = some M' ∧ FX (tD t) M M' ∧ CTp M' t T E (sk T E a) 1 (sk T E a) := by
  have hE := h.2.2.1
  have hk := h.1.2.2.1
  have hs := sk_b (T := T) hE.1
  obtain ⟨M1, e1, f1, n1⟩ := C_next h
  have a1 := n1.1.1
  have a2 := n1.1.2.1
  obtain ⟨M2, e2, f2, n2⟩ := C_wrong n1 (k1 := 1) (f1 := sk T E a) (by omega)
  refine ⟨M2, ?_, f1.trans f2, n2⟩
  by_cases q : sk T E a < E
  · have a3 := n1.2.1 _ q
    have hb := h.2.2.2 _ q
    have q2 : T (sk T E a) ≠ c := fun z => h1 ⟨q, z⟩
    simp (disch := omega) only [f_Tape_needSign, f_Tape_needSign_b, hk, e1, a1, a2, a3, nI_eqF q2, e2, bI_s, bV_s, bL_s, bR_s, bG_s, bG_n, bX_l, bX_r, ck_nI, nI_clamp, nI_leT, nI_leF, nI_ltT, nI_ltF, nI_eqF, nI_add, pk_mul, ofN, bt_e, or0, Nat.zero_add, Nat.add_zero, ↓reduceIte, if_true, if_false, Bool.false_eq_true, eq_self, li0, li1, li2, li3, li4, li5, li6, li7, li8, li9, li10, li11, li12, li14, li15, li16, li18, li19, li20, li23, li24, li25, li26, li27, li30, li31, li32, li36, li40, li41, li42, li43, li44, li45, li47, li48, li57, li59, li60, li91, li93, li96, li97, li100, li105, li122, li150, li200, li255, li400, li500, li600, li999, li1000, li1001, li2000, li2001, li2002, li2003, li2004, li2005, li2006, li32767, li100000, li_neg, li13, li17, li21, li22, li28, li29, li33, li34, li35, li37, li38, li39, li46, li49, li50, li51, li52, li53, li63, li80, li115, li160]
  · simp (disch := omega) only [f_Tape_needSign, f_Tape_needSign_b, hk, e1, a1, a2, e2, bI_s, bV_s, bL_s, bR_s, bG_s, bG_n, bX_l, bX_r, ck_nI, nI_clamp, nI_leT, nI_leF, nI_ltT, nI_ltF, nI_eqF, nI_add, pk_mul, ofN, bt_e, or0, Nat.zero_add, Nat.add_zero, ↓reduceIte, if_true, if_false, Bool.false_eq_true, eq_self, li0, li1, li2, li3, li4, li5, li6, li7, li8, li9, li10, li11, li12, li14, li15, li16, li18, li19, li20, li23, li24, li25, li26, li27, li30, li31, li32, li36, li40, li41, li42, li43, li44, li45, li47, li48, li57, li59, li60, li91, li93, li96, li97, li100, li105, li122, li150, li200, li255, li400, li500, li600, li999, li1000, li1001, li2000, li2001, li2002, li2003, li2004, li2005, li2006, li32767, li100000, li_neg, li13, li17, li21, li22, li28, li29, li33, li34, li35, li37, li38, li39, li46, li49, li50, li51, li52, li53, li63, li80, li115, li160]
theorem C_needF (h : CTp M t T E a k f) (hk : k ≠ 0) (x : Int32) : f_Tape_needSign t x M = some M := by
  have hE := h.2.2.1
  have e := h.1.2.2.1
  simp (disch := omega) only [f_Tape_needSign, f_Tape_needSign_b, f_Tape_wrong, e, bI_s, bV_s, bL_s, bR_s, bG_s, bG_n, bX_l, bX_r, ck_nI, nI_clamp, nI_leT, nI_leF, nI_ltT, nI_ltF, nI_eqF, nI_add, pk_mul, ofN, bt_e, or0, Nat.zero_add, Nat.add_zero, ↓reduceIte, if_true, if_false, Bool.false_eq_true, eq_self, li0, li1, li2, li3, li4, li5, li6, li7, li8, li9, li10, li11, li12, li14, li15, li16, li18, li19, li20, li23, li24, li25, li26, li27, li30, li31, li32, li36, li40, li41, li42, li43, li44, li45, li47, li48, li57, li59, li60, li91, li93, li96, li97, li100, li105, li122, li150, li200, li255, li400, li500, li600, li999, li1000, li1001, li2000, li2001, li2002, li2003, li2004, li2005, li2006, li32767, li100000, li_neg, li13, li17, li21, li22, li28, li29, li33, li34, li35, li37, li38, li39, li46, li49, li50, li51, li52, li53, li63, li80, li115, li160]
theorem M_signY (h : MTp M m T E a 0 f) (h1 : sk T E a < E) (h2 : T (sk T E a) = c) : ∃ M', f_M_sign m (nI c) M = some M' ∧ FX (uD m) M M' ∧ MTp M' m T E (sk T E a + 1) 0 f := by
  have hE := h.2.2.1
  have hk := h.1.2.2.1
  obtain ⟨M1, e1, f1, n1⟩ := M_blanks h
  have a2 := n1.1.2.1
  have a3 := M_at n1 h1
  rw [h2] at a3
  refine ⟨sI M1 m 4 (nI (sk T E a + 1)), ?_, f1.sI (by unfold uD; omega), n1.at (by omega)⟩
  simp (disch := omega) only [f_M_sign, hk, e1, a2, a3, bI_s, bV_s, bL_s, bR_s, bG_s, bG_n, bX_l, bX_r, ck_nI, nI_clamp, nI_leT, nI_leF, nI_ltT, nI_ltF, nI_eqF, nI_add, pk_mul, ofN, bt_e, or0, Nat.zero_add, Nat.add_zero, ↓reduceIte, if_true, if_false, Bool.false_eq_true, eq_self, li0, li1, li2, li3, li4, li5, li6, li7, li8, li9, li10, li11, li12, li14, li15, li16, li18, li19, li20, li23, li24, li25, li26, li27, li30, li31, li32, li36, li40, li41, li42, li43, li44, li45, li47, li48, li57, li59, li60, li91, li93, li96, li97, li100, li105, li122, li150, li200, li255, li400, li500, li600, li999, li1000, li1001, li2000, li2001, li2002, li2003, li2004, li2005, li2006, li32767, li100000, li_neg, li13, li17, li21, li22, li28, li29, li33, li34, li35, li37, li38, li39, li46, li49, li50, li51, li52, li53, li63, li80, li115, li160]
theorem M_signN (h : MTp M m T E a 0 f) (hc : c < 256) (h1 : ¬ (sk T E a < E ∧ T (sk T E a) = c)) : ∃ M', f_M_sign m (nI c) M = some M' ∧ FX (uD m) M M' ∧ MTp M' m T E (sk T E a) 1 (sk T E a) := by
  have hE := h.2.2.1
  have hk := h.1.2.2.1
  have hs := sk_b (T := T) hE.1
  obtain ⟨M1, e1, f1, n1⟩ := M_blanks h
  have a2 := n1.1.2.1
  obtain ⟨M2, e2, f2, n2⟩ := M_wrong n1 (k1 := 1) (f1 := sk T E a) (by omega)
  refine ⟨M2, ?_, f1.trans f2, n2⟩
  by_cases q : sk T E a < E
  · have a3 := M_at n1 q
    have hb := h.2.2.2 _ q
    have q2 : T (sk T E a) ≠ c := fun z => h1 ⟨q, z⟩
    simp (disch := omega) only [f_M_sign, hk, e1, a2, a3, nI_eqF q2, e2, bI_s, bV_s, bL_s, bR_s, bG_s, bG_n, bX_l, bX_r, ck_nI, nI_clamp, nI_leT, nI_leF, nI_ltT, nI_ltF, nI_eqF, nI_add, pk_mul, ofN, bt_e, or0, Nat.zero_add, Nat.add_zero, ↓reduceIte, if_true, if_false, Bool.false_eq_true, eq_self, li0, li1, li2, li3, li4, li5, li6, li7, li8, li9, li10, li11, li12, li14, li15, li16, li18, li19, li20, li23, li24, li25, li26, li27, li30, li31, li32, li36, li40, li41, li42, li43, li44, li45, li47, li48, li57, li59, li60, li91, li93, li96, li97, li100, li105, li122, li150, li200, li255, li400, li500, li600, li999, li1000, li1001, li2000, li2001, li2002, li2003, li2004, li2005, li2006, li32767, li100000, li_neg, li13, li17, li21, li22, li28, li29, li33, li34, li35, li37, li38, li39, li46, li49, li50, li51, li52, li53, li63, li80, li115, li160]
  · have a3 := M_atE n1 (show E ≤ sk T E a by omega) (by omega)
    have q2 : (4294967295 : Nat) ≠ c := by omega
    simp (disch := omega) only [f_M_sign, hk, e1, a2, a3, nI_eqF q2, e2, bI_s, bV_s, bL_s, bR_s, bG_s, bG_n, bX_l, bX_r, ck_nI, nI_clamp, nI_leT, nI_leF, nI_ltT, nI_ltF, nI_eqF, nI_add, pk_mul, ofN, bt_e, or0, Nat.zero_add, Nat.add_zero, ↓reduceIte, if_true, if_false, Bool.false_eq_true, eq_self, li0, li1, li2, li3, li4, li5, li6, li7, li8, li9, li10, li11, li12, li14, li15, li16, li18, li19, li20, li23, li24, li25, li26, li27, li30, li31, li32, li36, li40, li41, li42, li43, li44, li45, li47, li48, li57, li59, li60, li91, li93, li96, li97, li100, li105, li122, li150, li200, li255, li400, li500, li600, li999, li1000, li1001, li2000, li2001, li2002, li2003, li2004, li2005, li2006, li32767, li100000, li_neg, li13, li17, li21, li22, li28, li29, li33, li34, li35, li37, li38, li39, li46, li49, li50, li51, li52, li53, li63, li80, li115, li160]
theorem M_signF (h : MTp M m T E a k f) (hk : k ≠ 0) (x : Int32) : f_M_sign m x M = some M := by
  have hE := h.2.2.1
  have e := h.1.2.2.1
  simp (disch := omega) only [f_M_sign, e, bI_s, bV_s, bL_s, bR_s, bG_s, bG_n, bX_l, bX_r, ck_nI, nI_clamp, nI_leT, nI_leF, nI_ltT, nI_ltF, nI_eqF, nI_add, pk_mul, ofN, bt_e, or0, Nat.zero_add, Nat.add_zero, ↓reduceIte, if_true, if_false, Bool.false_eq_true, eq_self, li0, li1, li2, li3, li4, li5, li6, li7, li8, li9, li10, li11, li12, li14, li15, li16, li18, li19, li20, li23, li24, li25, li26, li27, li30, li31, li32, li36, li40, li41, li42, li43, li44, li45, li47, li48, li57, li59, li60, li91, li93, li96, li97, li100, li105, li122, li150, li200, li255, li400, li500, li600, li999, li1000, li1001, li2000, li2001, li2002, li2003, li2004, li2005, li2006, li32767, li100000, li_neg, li13, li17, li21, li22, li28, li29, li33, li34, li35, li37, li38, li39, li46, li49, li50, li51, li52, li53, li63, li80, li115, li160]
theorem zk_0 {α : Type} {r : Option α} : zk (nI 0) r = r := id rfl
theorem zk_1 {α : Type} {r : Option α} : zk (nI 1) r = r := id rfl
theorem C_takeY (h : CTp M t T E a 0 f) (h1 : sk T E a < E) (h2 : T (sk T E a) = c) : ∃ M', f_Tape_takesSign t (nI c) M = some (nI 1, M') ∧ FX (tD t) M M' ∧ CTp M' t T E (sk T E a + 1) 0 f := by
  have hE := h.2.2.1
  have hk := h.1.2.2.1
  obtain ⟨M1, e1, f1, n1⟩ := C_next h
  have a1 := n1.1.1
  have a2 := n1.1.2.1
  have a3 := n1.2.1 _ h1
  have hb := h.2.2.2 _ h1
  rw [h2] at a3
  refine ⟨sI M1 t 3 (nI (sk T E a + 1)), ?_, f1.sI (by unfold tD; omega), n1.at (by omega)⟩
  simp (disch := omega) only [f_Tape_takesSign, f_Tape_takesSign_b, hk, e1, a1, a2, a3, zk_1, bI_s, bV_s, bL_s, bR_s, bG_s, bG_n, bX_l, bX_r, ck_nI, nI_clamp, nI_leT, nI_leF, nI_ltT, nI_ltF, nI_eqF, nI_add, pk_mul, ofN, bt_e, or0, Nat.zero_add, Nat.add_zero, ↓reduceIte, if_true, if_false, Bool.false_eq_true, eq_self, li0, li1, li2, li3, li4, li5, li6, li7, li8, li9, li10, li11, li12, li14, li15, li16, li18, li19, li20, li23, li24, li25, li26, li27, li30, li31, li32, li36, li40, li41, li42, li43, li44, li45, li47, li48, li57, li59, li60, li91, li93, li96, li97, li100, li105, li122, li150, li200, li255, li400, li500, li600, li999, li1000, li1001, li2000, li2001, li2002, li2003, li2004, li2005, li2006, li32767, li100000, li_neg, li13, li17, li21, li22, li28, li29, li33, li34, li35, li37, li38, li39, li46, li49, li50, li51, li52, li53, li63, li80, li115, li160]
theorem C_takeN (h : CTp M t T E a 0 f) (hc : c < 256) (h1 : ¬ (sk T E a < E ∧ T (sk T E a) = c)) : ∃ M', f_Tape_takesSign t (nI c) M = some (nI 0, M') ∧ FX (tD t) M M' ∧ CTp M' t T E (sk T E a) 0 f := by
  have hE := h.2.2.1
  have hk := h.1.2.2.1
  have hs := sk_b (T := T) hE.1
  obtain ⟨M1, e1, f1, n1⟩ := C_next h
  have a1 := n1.1.1
  have a2 := n1.1.2.1
  refine ⟨M1, ?_, f1, n1⟩
  by_cases q : sk T E a < E
  · have a3 := n1.2.1 _ q
    have hb := h.2.2.2 _ q
    have q2 : T (sk T E a) ≠ c := fun z => h1 ⟨q, z⟩
    simp (disch := omega) only [f_Tape_takesSign, f_Tape_takesSign_b, hk, e1, a1, a2, a3, nI_eqF q2, zk_0, bI_s, bV_s, bL_s, bR_s, bG_s, bG_n, bX_l, bX_r, ck_nI, nI_clamp, nI_leT, nI_leF, nI_ltT, nI_ltF, nI_eqF, nI_add, pk_mul, ofN, bt_e, or0, Nat.zero_add, Nat.add_zero, ↓reduceIte, if_true, if_false, Bool.false_eq_true, eq_self, li0, li1, li2, li3, li4, li5, li6, li7, li8, li9, li10, li11, li12, li14, li15, li16, li18, li19, li20, li23, li24, li25, li26, li27, li30, li31, li32, li36, li40, li41, li42, li43, li44, li45, li47, li48, li57, li59, li60, li91, li93, li96, li97, li100, li105, li122, li150, li200, li255, li400, li500, li600, li999, li1000, li1001, li2000, li2001, li2002, li2003, li2004, li2005, li2006, li32767, li100000, li_neg, li13, li17, li21, li22, li28, li29, li33, li34, li35, li37, li38, li39, li46, li49, li50, li51, li52, li53, li63, li80, li115, li160]
  · simp (disch := omega) only [f_Tape_takesSign, f_Tape_takesSign_b, hk, e1, a1, a2, zk_0, bI_s, bV_s, bL_s, bR_s, bG_s, bG_n, bX_l, bX_r, ck_nI, nI_clamp, nI_leT, nI_leF, nI_ltT, nI_ltF, nI_eqF, nI_add, pk_mul, ofN, bt_e, or0, Nat.zero_add, Nat.add_zero, ↓reduceIte, if_true, if_false, Bool.false_eq_true, eq_self, li0, li1, li2, li3, li4, li5, li6, li7, li8, li9, li10, li11, li12, li14, li15, li16, li18, li19, li20, li23, li24, li25, li26, li27, li30, li31, li32, li36, li40, li41, li42, li43, li44, li45, li47, li48, li57, li59, li60, li91, li93, li96, li97, li100, li105, li122, li150, li200, li255, li400, li500, li600, li999, li1000, li1001, li2000, li2001, li2002, li2003, li2004, li2005, li2006, li32767, li100000, li_neg, li13, li17, li21, li22, li28, li29, li33, li34, li35, li37, li38, li39, li46, li49, li50, li51, li52, li53, li63, li80, li115, li160]
theorem C_takeF (h : CTp M t T E a k f) (hk : k ≠ 0) (x : Int32) : f_Tape_takesSign t x M = some (nI 0, M) := by
  have hE := h.2.2.1
  have e := h.1.2.2.1
  simp (disch := omega) only [f_Tape_takesSign, f_Tape_takesSign_b, e, zk_0, bI_s, bV_s, bL_s, bR_s, bG_s, bG_n, bX_l, bX_r, ck_nI, nI_clamp, nI_leT, nI_leF, nI_ltT, nI_ltF, nI_eqF, nI_add, pk_mul, ofN, bt_e, or0, Nat.zero_add, Nat.add_zero, ↓reduceIte, if_true, if_false, Bool.false_eq_true, eq_self, li0, li1, li2, li3, li4, li5, li6, li7, li8, li9, li10, li11, li12, li14, li15, li16, li18, li19, li20, li23, li24, li25, li26, li27, li30, li31, li32, li36, li40, li41, li42, li43, li44, li45, li47, li48, li57, li59, li60, li91, li93, li96, li97, li100, li105, li122, li150, li200, li255, li400, li500, li600, li999, li1000, li1001, li2000, li2001, li2002, li2003, li2004, li2005, li2006, li32767, li100000, li_neg, li13, li17, li21, li22, li28, li29, li33, li34, li35, li37, li38, li39, li46, li49, li50, li51, li52, li53, li63, li80, li115, li160]
theorem M_takeY (h : MTp M m T E a 0 f) (h1 : sk T E a < E) (h2 : T (sk T E a) = c) : ∃ M', f_M_takesSign m (nI c) M = some (nI 1, M') ∧ FX (uD m) M M' ∧ MTp M' m T E (sk T E a + 1) 0 f := by
  have hE := h.2.2.1
  have hk := h.1.2.2.1
  obtain ⟨M1, e1, f1, n1⟩ := M_blanks h
  have a2 := n1.1.2.1
  have a3 := M_at n1 h1
  rw [h2] at a3
  refine ⟨sI M1 m 4 (nI (sk T E a + 1)), ?_, f1.sI (by unfold uD; omega), n1.at (by omega)⟩
  simp (disch := omega) only [f_M_takesSign, f_M_takesSign_b, hk, e1, a2, a3, zk_1, bI_s, bV_s, bL_s, bR_s, bG_s, bG_n, bX_l, bX_r, ck_nI, nI_clamp, nI_leT, nI_leF, nI_ltT, nI_ltF, nI_eqF, nI_add, pk_mul, ofN, bt_e, or0, Nat.zero_add, Nat.add_zero, ↓reduceIte, if_true, if_false, Bool.false_eq_true, eq_self, li0, li1, li2, li3, li4, li5, li6, li7, li8, li9, li10, li11, li12, li14, li15, li16, li18, li19, li20, li23, li24, li25, li26, li27, li30, li31, li32, li36, li40, li41, li42, li43, li44, li45, li47, li48, li57, li59, li60, li91, li93, li96, li97, li100, li105, li122, li150, li200, li255, li400, li500, li600, li999, li1000, li1001, li2000, li2001, li2002, li2003, li2004, li2005, li2006, li32767, li100000, li_neg, li13, li17, li21, li22, li28, li29, li33, li34, li35, li37, li38, li39, li46, li49, li50, li51, li52, li53, li63, li80, li115, li160]
theorem M_takeN (h : MTp M m T E a 0 f) (hc : c < 256) (h1 : ¬ (sk T E a < E ∧ T (sk T E a) = c)) : ∃ M', f_M_takesSign m (nI c) M = some (nI 0, M') ∧ FX (uD m) M M' ∧ MTp M' m T E (sk T E a) 0 f := by
  have hE := h.2.2.1
  have hk := h.1.2.2.1
  have hs := sk_b (T := T) hE.1
  obtain ⟨M1, e1, f1, n1⟩ := M_blanks h
  have a2 := n1.1.2.1
  refine ⟨M1, ?_, f1, n1⟩
  by_cases q : sk T E a < E
  · have a3 := M_at n1 q
    have hb := h.2.2.2 _ q
    have q2 : T (sk T E a) ≠ c := fun z => h1 ⟨q, z⟩
    simp (disch := omega) only [f_M_takesSign, f_M_takesSign_b, hk, e1, a2, a3, nI_eqF q2, zk_0, bI_s, bV_s, bL_s, bR_s, bG_s, bG_n, bX_l, bX_r, ck_nI, nI_clamp, nI_leT, nI_leF, nI_ltT, nI_ltF, nI_eqF, nI_add, pk_mul, ofN, bt_e, or0, Nat.zero_add, Nat.add_zero, ↓reduceIte, if_true, if_false, Bool.false_eq_true, eq_self, li0, li1, li2, li3, li4, li5, li6, li7, li8, li9, li10, li11, li12, li14, li15, li16, li18, li19, li20, li23, li24, li25, li26, li27, li30, li31, li32, li36, li40, li41, li42, li43, li44, li45, li47, li48, li57, li59, li60, li91, li93, li96, li97, li100, li105, li122, li150, li200, li255, li400, li500, li600, li999, li1000, li1001, li2000, li2001, li2002, li2003, li2004, li2005, li2006, li32767, li100000, li_neg, li13, li17, li21, li22, li28, li29, li33, li34, li35, li37, li38, li39, li46, li49, li50, li51, li52, li53, li63, li80, li115, li160]
  · have a3 := M_atE n1 (show E ≤ sk T E a by omega) (by omega)
    have q2 : (4294967295 : Nat) ≠ c := by omega
    simp (disch := omega) only [f_M_takesSign, f_M_takesSign_b, hk, e1, a2, a3, nI_eqF q2, zk_0, bI_s, bV_s, bL_s, bR_s, bG_s, bG_n, bX_l, bX_r, ck_nI, nI_clamp, nI_leT, nI_leF, nI_ltT, nI_ltF, nI_eqF, nI_add, pk_mul, ofN, bt_e, or0, Nat.zero_add, Nat.add_zero, ↓reduceIte, if_true, if_false, Bool.false_eq_true, eq_self, li0, li1, li2, li3, li4, li5, li6, li7, li8, li9, li10, li11, li12, li14, li15, li16, li18, li19, li20, li23, li24, li25, li26, li27, li30, li31, li32, li36, li40, li41, li42, li43, li44, li45, li47, li48, li57, li59, li60, li91, li93, li96, li97, li100, li105, li122, li150, li200, li255, li400, li500, li600, li999, li1000, li1001, li2000, li2001, li2002, li2003, li2004, li2005, li2006, li32767, li100000, li_neg, li13, li17, li21, li22, li28, li29, li33, li34, li35, li37, li38, li39, li46, li49, li50, li51, li52, li53, li63, li80, li115, li160]
theorem M_takeF (h : MTp M m T E a k f) (hk : k ≠ 0) (x : Int32) : f_M_takesSign m x M = some (nI 0, M) := by
  have hE := h.2.2.1
  have e := h.1.2.2.1
  simp (disch := omega) only [f_M_takesSign, e, bI_s, bV_s, bL_s, bR_s, bG_s, bG_n, bX_l, bX_r, ck_nI, nI_clamp, nI_leT, nI_leF, nI_ltT, nI_ltF, nI_eqF, nI_add, pk_mul, ofN, bt_e, or0, Nat.zero_add, Nat.add_zero, ↓reduceIte, if_true, if_false, Bool.false_eq_true, eq_self, li0, li1, li2, li3, li4, li5, li6, li7, li8, li9, li10, li11, li12, li14, li15, li16, li18, li19, li20, li23, li24, li25, li26, li27, li30, li31, li32, li36, li40, li41, li42, li43, li44, li45, li47, li48, li57, li59, li60, li91, li93, li96, li97, li100, li105, li122, li150, li200, li255, li400, li500, li600, li999, li1000, li1001, li2000, li2001, li2002, li2003, li2004, li2005, li2006, li32767, li100000, li_neg, li13, li17, li21, li22, li28, li29, li33, li34, li35, li37, li38, li39, li46, li49, li50, li51, li52, li53, li63, li80, li115, li160]
theorem C_fine (h : CTp M t T E a k f) : f_Tape_isFine t M = some (nI (if k = 0 then 1 else 0), M) := by
  have hE := h.2.2.1
  have e := h.1.2.2.1
  by_cases c : k = 0
  · rw [if_pos c]; rw [c] at e; simp (disch := omega) only [f_Tape_isFine, e, bI_s, bV_s, bL_s, bR_s, bG_s, bG_n, bX_l, bX_r, ck_nI, nI_clamp, nI_leT, nI_leF, nI_ltT, nI_ltF, nI_eqF, nI_add, pk_mul, ofN, bt_e, or0, Nat.zero_add, Nat.add_zero, ↓reduceIte, if_true, if_false, Bool.false_eq_true, eq_self, li0, li1, li2, li3, li4, li5, li6, li7, li8, li9, li10, li11, li12, li14, li15, li16, li18, li19, li20, li23, li24, li25, li26, li27, li30, li31, li32, li36, li40, li41, li42, li43, li44, li45, li47, li48, li57, li59, li60, li91, li93, li96, li97, li100, li105, li122, li150, li200, li255, li400, li500, li600, li999, li1000, li1001, li2000, li2001, li2002, li2003, li2004, li2005, li2006, li32767, li100000, li_neg, li13, li17, li21, li22, li28, li29, li33, li34, li35, li37, li38, li39, li46, li49, li50, li51, li52, li53, li63, li80, li115, li160]
  · rw [if_neg c]; simp (disch := omega) only [f_Tape_isFine, e, bI_s, bV_s, bL_s, bR_s, bG_s, bG_n, bX_l, bX_r, ck_nI, nI_clamp, nI_leT, nI_leF, nI_ltT, nI_ltF, nI_eqF, nI_add, pk_mul, ofN, bt_e, or0, Nat.zero_add, Nat.add_zero, ↓reduceIte, if_true, if_false, Bool.false_eq_true, eq_self, li0, li1, li2, li3, li4, li5, li6, li7, li8, li9, li10, li11, li12, li14, li15, li16, li18, li19, li20, li23, li24, li25, li26, li27, li30, li31, li32, li36, li40, li41, li42, li43, li44, li45, li47, li48, li57, li59, li60, li91, li93, li96, li97, li100, li105, li122, li150, li200, li255, li400, li500, li600, li999, li1000, li1001, li2000, li2001, li2002, li2003, li2004, li2005, li2006, li32767, li100000, li_neg, li13, li17, li21, li22, li28, li29, li33, li34, li35, li37, li38, li39, li46, li49, li50, li51, li52, li53, li63, li80, li115, li160]
theorem C_more (h : CTp M t T E a 0 f) : ∃ M', f_Tape_hasMore t M = some (nI (if sk T E a < E then 1 else 0), M') ∧ FX (tD t) M M' ∧ CTp M' t T E (sk T E a) 0 f := by
  have hE := h.2.2.1
  have hk := h.1.2.2.1
  have hs := sk_b (T := T) hE.1
  obtain ⟨M1, e1, f1, n1⟩ := C_next h
  have a1 := n1.1.1
  refine ⟨M1, ?_, f1, n1⟩
  by_cases q : sk T E a < E
  · rw [if_pos q]; simp (disch := omega) only [f_Tape_hasMore, hk, e1, a1, bI_s, bV_s, bL_s, bR_s, bG_s, bG_n, bX_l, bX_r, ck_nI, nI_clamp, nI_leT, nI_leF, nI_ltT, nI_ltF, nI_eqF, nI_add, pk_mul, ofN, bt_e, or0, Nat.zero_add, Nat.add_zero, ↓reduceIte, if_true, if_false, Bool.false_eq_true, eq_self, li0, li1, li2, li3, li4, li5, li6, li7, li8, li9, li10, li11, li12, li14, li15, li16, li18, li19, li20, li23, li24, li25, li26, li27, li30, li31, li32, li36, li40, li41, li42, li43, li44, li45, li47, li48, li57, li59, li60, li91, li93, li96, li97, li100, li105, li122, li150, li200, li255, li400, li500, li600, li999, li1000, li1001, li2000, li2001, li2002, li2003, li2004, li2005, li2006, li32767, li100000, li_neg, li13, li17, li21, li22, li28, li29, li33, li34, li35, li37, li38, li39, li46, li49, li50, li51, li52, li53, li63, li80, li115, li160]
  · rw [if_neg q]; simp (disch := omega) only [f_Tape_hasMore, hk, e1, a1, bI_s, bV_s, bL_s, bR_s, bG_s, bG_n, bX_l, bX_r, ck_nI, nI_clamp, nI_leT, nI_leF, nI_ltT, nI_ltF, nI_eqF, nI_add, pk_mul, ofN, bt_e, or0, Nat.zero_add, Nat.add_zero, ↓reduceIte, if_true, if_false, Bool.false_eq_true, eq_self, li0, li1, li2, li3, li4, li5, li6, li7, li8, li9, li10, li11, li12, li14, li15, li16, li18, li19, li20, li23, li24, li25, li26, li27, li30, li31, li32, li36, li40, li41, li42, li43, li44, li45, li47, li48, li57, li59, li60, li91, li93, li96, li97, li100, li105, li122, li150, li200, li255, li400, li500, li600, li999, li1000, li1001, li2000, li2001, li2002, li2003, li2004, li2005, li2006, li32767, li100000, li_neg, li13, li17, li21, li22, li28, li29, li33, li34, li35, li37, li38, li39, li46, li49, li50, li51, li52, li53, li63, li80, li115, li160]
theorem C_moreF (h : CTp M t T E a k f) (hk : k ≠ 0) : f_Tape_hasMore t M = some (nI 0, M) := by
  have hE := h.2.2.1
  have e := h.1.2.2.1
  simp (disch := omega) only [f_Tape_hasMore, e, bI_s, bV_s, bL_s, bR_s, bG_s, bG_n, bX_l, bX_r, ck_nI, nI_clamp, nI_leT, nI_leF, nI_ltT, nI_ltF, nI_eqF, nI_add, pk_mul, ofN, bt_e, or0, Nat.zero_add, Nat.add_zero, ↓reduceIte, if_true, if_false, Bool.false_eq_true, eq_self, li0, li1, li2, li3, li4, li5, li6, li7, li8, li9, li10, li11, li12, li14, li15, li16, li18, li19, li20, li23, li24, li25, li26, li27, li30, li31, li32, li36, li40, li41, li42, li43, li44, li45, li47, li48, li57, li59, li60, li91, li93, li96, li97, li100, li105, li122, li150, li200, li255, li400, li500, li600, li999, li1000, li1001, li2000, li2001, li2002, li2003, li2004, li2005, li2006, li32767, li100000, li_neg, li13, li17, li21, li22, li28, li29, li33, li34, li35, li37, li38, li39, li46, li49, li50, li51, li52, li53, li63, li80, li115, li160]
end
