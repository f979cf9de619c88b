/-! # functional level, 64: the words of a law (printed by wip/gen/mk25a.py) -/
section
variable {M M' M1 M2 N : Mm} {t m E a k f n s : Nat} {T : Nat → Nat}
def wPla : List Nat := [112, 108, 97, 99, 101]
def wAct : List Nat := [97, 99, 116]
def wDay : List Nat := [100, 97, 121]
def wRea : List Nat := [114, 101, 97, 99, 104]
def wOld : List Nat := [111, 108, 100]
def wLea : List Nat := [108, 101, 97, 115, 116]
def wMos : List Nat := [109, 111, 115, 116]
/-- what a line may be asked; 8 none -/
def kgv (r : List Nat) : Nat := if r = wRow then 0 else if r = wLe then 1 else if r = wPla then 2 else if r = wWri then 3 else if r = wAct then 4 else if r = wDay then 5 else if r = wRea then 6 else if r = wOld then 7 else 8
def kgvI (x : Nat) : Int32 := if x = 8 then nI 4294967295 else nI x
theorem C_gw (h : CTp M t T E a 0 f) : ∃ M', f_Law_givenWord t M = some (kgvI (kgv (cR T E a)), M') ∧ FX (tD t) M M' ∧ CTp M' t T E (if kgv (cR T E a) = 8 then sk T E a else sk T E a + (cR T E a).length) 0 f := by
  have hE := h.2.2.1
  have hi := sk_i (T := T) hE.1
  unfold cR
  obtain ⟨M1, f1, q1⟩ := C_word (wd := wRow) h wdn_4
  generalize hrr : rl T (E - sk T E a) (sk T E a) = r at q1 ⊢
  rcases q1 with ⟨c1, e1, h1⟩ | ⟨c1, e1, h1⟩
  · have ek : kgv r = 0 := if_pos c1
    rw [ek, c1]
    refine ⟨M1, ?_, f1, h1⟩
    simp (disch := omega) only [f_Law_givenWord, e1, bI_s, bV_s, bL_s, bR_s, bG_s, bG_n, bX_l, bX_r, ck_nI, nI_clamp, nI_leT, nI_leF, nI_ltT, nI_ltF, nI_eqF, nI_add, pk_mul, ofN, bt_e, or0, Nat.zero_add, Nat.add_zero, ↓reduceIte, if_true, if_false, Bool.false_eq_true, eq_self, li0, li1, li2, li3, li4, li5, li6, li7, li8, li9, li10, li11, li12, li14, li15, li16, li18, li19, li20, li23, li24, li25, li26, li27, li30, li31, li32, li36, li40, li41, li42, li43, li44, li45, li47, li48, li57, li59, li60, li91, li93, li96, li97, li100, li105, li122, li150, li200, li255, li400, li500, li600, li999, li1000, li1001, li2000, li2001, li2002, li2003, li2004, li2005, li2006, li32767, li100000, li_neg, li13, li17, li21, li22, li28, li29, li33, li34, li35, li37, li38, li39, li46, li49, li50, li51, li52, li53, li63, li80, li115, li160]; rfl
  · skip
    obtain ⟨M2, f2, q2⟩ := C_word (wd := wLe) h1 wdn_5
    rw [hi, hrr] at q2
    rcases q2 with ⟨c2, e2, h2⟩ | ⟨c2, e2, h2⟩
    · have ek : kgv r = 1 := (if_neg c1).trans (if_pos c2)
      rw [ek, c2]
      refine ⟨M2, ?_, (f1).trans f2, h2⟩
      simp (disch := omega) only [f_Law_givenWord, e1, e2, bI_s, bV_s, bL_s, bR_s, bG_s, bG_n, bX_l, bX_r, ck_nI, nI_clamp, nI_leT, nI_leF, nI_ltT, nI_ltF, nI_eqF, nI_add, pk_mul, ofN, bt_e, or0, Nat.zero_add, Nat.add_zero, ↓reduceIte, if_true, if_false, Bool.false_eq_true, eq_self, li0, li1, li2, li3, li4, li5, li6, li7, li8, li9, li10, li11, li12, li14, li15, li16, li18, li19, li20, li23, li24, li25, li26, li27, li30, li31, li32, li36, li40, li41, li42, li43, li44, li45, li47, li48, li57, li59, li60, li91, li93, li96, li97, li100, li105, li122, li150, li200, li255, li400, li500, li600, li999, li1000, li1001, li2000, li2001, li2002, li2003, li2004, li2005, li2006, li32767, li100000, li_neg, li13, li17, li21, li22, li28, li29, li33, li34, li35, li37, li38, li39, li46, li49, li50, li51, li52, li53, li63, li80, li115, li160]; rfl
    · skip
      obtain ⟨M3, f3, q3⟩ := C_word (wd := wPla) h2 wdn_6
      rw [hi, hrr] at q3
      rcases q3 with ⟨c3, e3, h3⟩ | ⟨c3, e3, h3⟩
      · have ek : kgv r = 2 := (if_neg c1).trans ((if_neg c2).trans (if_pos c3))
        rw [ek, c3]
        refine ⟨M3, ?_, ((f1).trans f2).trans f3, h3⟩
        simp (disch := omega) only [f_Law_givenWord, e1, e2, e3, bI_s, bV_s, bL_s, bR_s, bG_s, bG_n, bX_l, bX_r, ck_nI, nI_clamp, nI_leT, nI_leF, nI_ltT, nI_ltF, nI_eqF, nI_add, pk_mul, ofN, bt_e, or0, Nat.zero_add, Nat.add_zero, ↓reduceIte, if_true, if_false, Bool.false_eq_true, eq_self, li0, li1, li2, li3, li4, li5, li6, li7, li8, li9, li10, li11, li12, li14, li15, li16, li18, li19, li20, li23, li24, li25, li26, li27, li30, li31, li32, li36, li40, li41, li42, li43, li44, li45, li47, li48, li57, li59, li60, li91, li93, li96, li97, li100, li105, li122, li150, li200, li255, li400, li500, li600, li999, li1000, li1001, li2000, li2001, li2002, li2003, li2004, li2005, li2006, li32767, li100000, li_neg, li13, li17, li21, li22, li28, li29, li33, li34, li35, li37, li38, li39, li46, li49, li50, li51, li52, li53, li63, li80, li115, li160]; rfl
      · skip
        obtain ⟨M4, f4, q4⟩ := C_word (wd := wWri) h3 wdn_7
        rw [hi, hrr] at q4
        rcases q4 with ⟨c4, e4, h4⟩ | ⟨c4, e4, h4⟩
        · have ek : kgv r = 3 := (if_neg c1).trans ((if_neg c2).trans ((if_neg c3).trans (if_pos c4)))
          rw [ek, c4]
          refine ⟨M4, ?_, (((f1).trans f2).trans f3).trans f4, h4⟩
          simp (disch := omega) only [f_Law_givenWord, e1, e2, e3, e4, bI_s, bV_s, bL_s, bR_s, bG_s, bG_n, bX_l, bX_r, ck_nI, nI_clamp, nI_leT, nI_leF, nI_ltT, nI_ltF, nI_eqF, nI_add, pk_mul, ofN, bt_e, or0, Nat.zero_add, Nat.add_zero, ↓reduceIte, if_true, if_false, Bool.false_eq_true, eq_self, li0, li1, li2, li3, li4, li5, li6, li7, li8, li9, li10, li11, li12, li14, li15, li16, li18, li19, li20, li23, li24, li25, li26, li27, li30, li31, li32, li36, li40, li41, li42, li43, li44, li45, li47, li48, li57, li59, li60, li91, li93, li96, li97, li100, li105, li122, li150, li200, li255, li400, li500, li600, li999, li1000, li1001, li2000, li2001, li2002, li2003, li2004, li2005, li2006, li32767, li100000, li_neg, li13, li17, li21, li22, li28, li29, li33, li34, li35, li37, li38, li39, li46, li49, li50, li51, li52, li53, li63, li80, li115, li160]; rfl
        · skip
          obtain ⟨M5, f5, q5⟩ := C_word (wd := wAct) h4 wdn_8
          rw [hi, hrr] at q5
          rcases q5 with ⟨c5, e5, h5⟩ | ⟨c5, e5, h5⟩
          · have ek : kgv r = 4 := (if_neg c1).trans ((if_neg c2).trans ((if_neg c3).trans ((if_neg c4).trans (if_pos c5))))
            rw [ek, c5]
            refine ⟨M5, ?_, ((((f1).trans f2).trans f3).trans f4).trans f5, h5⟩
            simp (disch := omega) only [f_Law_givenWord, e1, e2, e3, e4, e5, bI_s, bV_s, bL_s, bR_s, bG_s, bG_n, bX_l, bX_r, ck_nI, nI_clamp, nI_leT, nI_leF, nI_ltT, nI_ltF, nI_eqF, nI_add, pk_mul, ofN, bt_e, or0, Nat.zero_add, Nat.add_zero, ↓reduceIte, if_true, if_false, Bool.false_eq_true, eq_self, li0, li1, li2, li3, li4, li5, li6, li7, li8, li9, li10, li11, li12, li14, li15, li16, li18, li19, li20, li23, li24, li25, li26, li27, li30, li31, li32, li36, li40, li41, li42, li43, li44, li45, li47, li48, li57, li59, li60, li91, li93, li96, li97, li100, li105, li122, li150, li200, li255, li400, li500, li600, li999, li1000, li1001, li2000, li2001, li2002, li2003, li2004, li2005, li2006, li32767, li100000, li_neg, li13, li17, li21, li22, li28, li29, li33, li34, li35, li37, li38, li39, li46, li49, li50, li51, li52, li53, li63, li80, li115, li160]; rfl
          · skip
            obtain ⟨M6, f6, q6⟩ := C_word (wd := wDay) h5 wdn_9
            rw [hi, hrr] at q6
            rcases q6 with ⟨c6, e6, h6⟩ | ⟨c6, e6, h6⟩
            · have ek : kgv r = 5 := (if_neg c1).trans ((if_neg c2).trans ((if_neg c3).trans ((if_neg c4).trans ((if_neg c5).trans (if_pos c6)))))
              rw [ek, c6]
              refine ⟨M6, ?_, (((((f1).trans f2).trans f3).trans f4).trans f5).trans f6, h6⟩
              simp (disch := omega) only [f_Law_givenWord, e1, e2, e3, e4, e5, e6, bI_s, bV_s, bL_s, bR_s, bG_s, bG_n, bX_l, bX_r, ck_nI, nI_clamp, nI_leT, nI_leF, nI_ltT, nI_ltF, nI_eqF, nI_add, pk_mul, ofN, bt_e, or0, Nat.zero_add, Nat.add_zero, ↓reduceIte, if_true, if_false, Bool.false_eq_true, eq_self, li0, li1, li2, li3, li4, li5, li6, li7, li8, li9, li10, li11, li12, li14, li15, li16, li18, li19, li20, li23, li24, li25, li26, li27, li30, li31, li32, li36, li40, li41, li42, li43, li44, li45, li47, li48, li57, li59, li60, li91, li93, li96, li97, li100, li105, li122, li150, li200, li255, li400, li500, li600, li999, li1000, li1001, li2000, li2001, li2002, li2003, li2004, li2005, li2006, li32767, li100000, li_neg, li13, li17, li21, li22, li28, li29, li33, li34, li35, li37, li38, li39, li46, li49, li50, li51, li52, li53, li63, li80, li115, li160]; rfl
            · skip
              obtain ⟨M7, f7, q7⟩ := C_word (wd := wRea) h6 wdn_10
              rw [hi, hrr] at q7
              rcases q7 with ⟨c7, e7, h7⟩ | ⟨c7, e7, h7⟩
              · have ek : kgv r = 6 := (if_neg c1).trans ((if_neg c2).trans ((if_neg c3).trans ((if_neg c4).trans ((if_neg c5).trans ((if_neg c6).trans (if_pos c7))))))
                rw [ek, c7]
                refine ⟨M7, ?_, ((((((f1).trans f2).trans f3).trans f4).trans f5).trans f6).trans f7, h7⟩
                simp (disch := omega) only [f_Law_givenWord, e1, e2, e3, e4, e5, e6, e7, bI_s, bV_s, bL_s, bR_s, bG_s, bG_n, bX_l, bX_r, ck_nI, nI_clamp, nI_leT, nI_leF, nI_ltT, nI_ltF, nI_eqF, nI_add, pk_mul, ofN, bt_e, or0, Nat.zero_add, Nat.add_zero, ↓reduceIte, if_true, if_false, Bool.false_eq_true, eq_self, li0, li1, li2, li3, li4, li5, li6, li7, li8, li9, li10, li11, li12, li14, li15, li16, li18, li19, li20, li23, li24, li25, li26, li27, li30, li31, li32, li36, li40, li41, li42, li43, li44, li45, li47, li48, li57, li59, li60, li91, li93, li96, li97, li100, li105, li122, li150, li200, li255, li400, li500, li600, li999, li1000, li1001, li2000, li2001, li2002, li2003, li2004, li2005, li2006, li32767, li100000, li_neg, li13, li17, li21, li22, li28, li29, li33, li34, li35, li37, li38, li39, li46, li49, li50, li51, li52, li53, li63, li80, li115, li160]; rfl
              · skip
                obtain ⟨M8, f8, q8⟩ := C_word (wd := wOld) h7 wdn_11
                rw [hi, hrr] at q8
                rcases q8 with ⟨c8, e8, h8⟩ | ⟨c8, e8, h8⟩
                · have ek : kgv r = 7 := (if_neg c1).trans ((if_neg c2).trans ((if_neg c3).trans ((if_neg c4).trans ((if_neg c5).trans ((if_neg c6).trans ((if_neg c7).trans (if_pos c8)))))))
                  rw [ek, c8]
                  refine ⟨M8, ?_, (((((((f1).trans f2).trans f3).trans f4).trans f5).trans f6).trans f7).trans f8, h8⟩
                  simp (disch := omega) only [f_Law_givenWord, e1, e2, e3, e4, e5, e6, e7, e8, bI_s, bV_s, bL_s, bR_s, bG_s, bG_n, bX_l, bX_r, ck_nI, nI_clamp, nI_leT, nI_leF, nI_ltT, nI_ltF, nI_eqF, nI_add, pk_mul, ofN, bt_e, or0, Nat.zero_add, Nat.add_zero, ↓reduceIte, if_true, if_false, Bool.false_eq_true, eq_self, li0, li1, li2, li3, li4, li5, li6, li7, li8, li9, li10, li11, li12, li14, li15, li16, li18, li19, li20, li23, li24, li25, li26, li27, li30, li31, li32, li36, li40, li41, li42, li43, li44, li45, li47, li48, li57, li59, li60, li91, li93, li96, li97, li100, li105, li122, li150, li200, li255, li400, li500, li600, li999, li1000, li1001, li2000, li2001, li2002, li2003, li2004, li2005, li2006, li32767, li100000, li_neg, li13, li17, li21, li22, li28, li29, li33, li34, li35, li37, li38, li39, li46, li49, li50, li51, li52, li53, li63, li80, li115, li160]; rfl
                · have ek : kgv r = 8 := (if_neg c1).trans ((if_neg c2).trans ((if_neg c3).trans ((if_neg c4).trans ((if_neg c5).trans ((if_neg c6).trans ((if_neg c7).trans (if_neg c8)))))))
                  rw [ek]
                  refine ⟨M8, ?_, (((((((f1).trans f2).trans f3).trans f4).trans f5).trans f6).trans f7).trans f8, h8⟩
                  simp (disch := omega) only [f_Law_givenWord, e1, e2, e3, e4, e5, e6, e7, e8, bI_s, bV_s, bL_s, bR_s, bG_s, bG_n, bX_l, bX_r, ck_nI, nI_clamp, nI_leT, nI_leF, nI_ltT, nI_ltF, nI_eqF, nI_add, pk_mul, ofN, bt_e, or0, Nat.zero_add, Nat.add_zero, ↓reduceIte, if_true, if_false, Bool.false_eq_true, eq_self, li0, li1, li2, li3, li4, li5, li6, li7, li8, li9, li10, li11, li12, li14, li15, li16, li18, li19, li20, li23, li24, li25, li26, li27, li30, li31, li32, li36, li40, li41, li42, li43, li44, li45, li47, li48, li57, li59, li60, li91, li93, li96, li97, li100, li105, li122, li150, li200, li255, li400, li500, li600, li999, li1000, li1001, li2000, li2001, li2002, li2003, li2004, li2005, li2006, li32767, li100000, li_neg, li13, li17, li21, li22, li28, li29, li33, li34, li35, li37, li38, li39, li46, li49, li50, li51, li52, li53, li63, li80, li115, li160]; rfl
theorem M_known (h : MTp M m T E a 0 f) : ∃ M', f_M_knownHere m M = some (kgvI (kgv (cR T E a)), M') ∧ FX (uD m) M M' ∧ MTp M' m T E (if kgv (cR T E a) = 8 then sk T E a else sk T E a + (cR T E a).length) 0 f := by
  have hE := h.2.2.1
  have hi := sk_i (T := T) hE.1
  unfold cR
  obtain ⟨M1, f1, q1⟩ := M_takes (wd := wRow) h w6_row
  generalize hrr : rl T (E - sk T E a) (sk T E a) = r at q1 ⊢
  rcases q1 with ⟨c1, e1, h1⟩ | ⟨c1, e1, h1⟩
  · have ek : kgv r = 0 := if_pos c1
    rw [ek, c1]
    refine ⟨M1, ?_, f1, h1⟩
    simp (disch := omega) only [f_M_knownHere, e1, bI_s, bV_s, bL_s, bR_s, bG_s, bG_n, bX_l, bX_r, ck_nI, nI_clamp, nI_leT, nI_leF, nI_ltT, nI_ltF, nI_eqF, nI_add, pk_mul, ofN, bt_e, or0, Nat.zero_add, Nat.add_zero, ↓reduceIte, if_true, if_false, Bool.false_eq_true, eq_self, li0, li1, li2, li3, li4, li5, li6, li7, li8, li9, li10, li11, li12, li14, li15, li16, li18, li19, li20, li23, li24, li25, li26, li27, li30, li31, li32, li36, li40, li41, li42, li43, li44, li45, li47, li48, li57, li59, li60, li91, li93, li96, li97, li100, li105, li122, li150, li200, li255, li400, li500, li600, li999, li1000, li1001, li2000, li2001, li2002, li2003, li2004, li2005, li2006, li32767, li100000, li_neg, li13, li17, li21, li22, li28, li29, li33, li34, li35, li37, li38, li39, li46, li49, li50, li51, li52, li53, li63, li80, li115, li160]; rfl
  · skip
    obtain ⟨M2, f2, q2⟩ := M_letters h1
    rw [hi, hrr] at q2
    rcases q2 with ⟨c2, e2, h2⟩ | ⟨c2, e2, h2⟩
    · have ek : kgv r = 1 := (if_neg c1).trans (if_pos c2)
      rw [ek, c2]
      refine ⟨M2, ?_, (f1).trans f2, h2⟩
      simp (disch := omega) only [f_M_knownHere, e1, e2, bI_s, bV_s, bL_s, bR_s, bG_s, bG_n, bX_l, bX_r, ck_nI, nI_clamp, nI_leT, nI_leF, nI_ltT, nI_ltF, nI_eqF, nI_add, pk_mul, ofN, bt_e, or0, Nat.zero_add, Nat.add_zero, ↓reduceIte, if_true, if_false, Bool.false_eq_true, eq_self, li0, li1, li2, li3, li4, li5, li6, li7, li8, li9, li10, li11, li12, li14, li15, li16, li18, li19, li20, li23, li24, li25, li26, li27, li30, li31, li32, li36, li40, li41, li42, li43, li44, li45, li47, li48, li57, li59, li60, li91, li93, li96, li97, li100, li105, li122, li150, li200, li255, li400, li500, li600, li999, li1000, li1001, li2000, li2001, li2002, li2003, li2004, li2005, li2006, li32767, li100000, li_neg, li13, li17, li21, li22, li28, li29, li33, li34, li35, li37, li38, li39, li46, li49, li50, li51, li52, li53, li63, li80, li115, li160]; rfl
    · skip
      obtain ⟨M3, f3, q3⟩ := M_takes (wd := wPla) h2 w6_place
      rw [hi, hrr] at q3
      rcases q3 with ⟨c3, e3, h3⟩ | ⟨c3, e3, h3⟩
      · have ek : kgv r = 2 := (if_neg c1).trans ((if_neg c2).trans (if_pos c3))
        rw [ek, c3]
        refine ⟨M3, ?_, ((f1).trans f2).trans f3, h3⟩
        simp (disch := omega) only [f_M_knownHere, e1, e2, e3, bI_s, bV_s, bL_s, bR_s, bG_s, bG_n, bX_l, bX_r, ck_nI, nI_clamp, nI_leT, nI_leF, nI_ltT, nI_ltF, nI_eqF, nI_add, pk_mul, ofN, bt_e, or0, Nat.zero_add, Nat.add_zero, ↓reduceIte, if_true, if_false, Bool.false_eq_true, eq_self, li0, li1, li2, li3, li4, li5, li6, li7, li8, li9, li10, li11, li12, li14, li15, li16, li18, li19, li20, li23, li24, li25, li26, li27, li30, li31, li32, li36, li40, li41, li42, li43, li44, li45, li47, li48, li57, li59, li60, li91, li93, li96, li97, li100, li105, li122, li150, li200, li255, li400, li500, li600, li999, li1000, li1001, li2000, li2001, li2002, li2003, li2004, li2005, li2006, li32767, li100000, li_neg, li13, li17, li21, li22, li28, li29, li33, li34, li35, li37, li38, li39, li46, li49, li50, li51, li52, li53, li63, li80, li115, li160]; rfl
      · skip
        obtain ⟨M4, f4, q4⟩ := M_takes (wd := wWri) h3 w6_writer
        rw [hi, hrr] at q4
        rcases q4 with ⟨c4, e4, h4⟩ | ⟨c4, e4, h4⟩
        · have ek : kgv r = 3 := (if_neg c1).trans ((if_neg c2).trans ((if_neg c3).trans (if_pos c4)))
          rw [ek, c4]
          refine ⟨M4, ?_, (((f1).trans f2).trans f3).trans f4, h4⟩
          simp (disch := omega) only [f_M_knownHere, e1, e2, e3, e4, bI_s, bV_s, bL_s, bR_s, bG_s, bG_n, bX_l, bX_r, ck_nI, nI_clamp, nI_leT, nI_leF, nI_ltT, nI_ltF, nI_eqF, nI_add, pk_mul, ofN, bt_e, or0, Nat.zero_add, Nat.add_zero, ↓reduceIte, if_true, if_false, Bool.false_eq_true, eq_self, li0, li1, li2, li3, li4, li5, li6, li7, li8, li9, li10, li11, li12, li14, li15, li16, li18, li19, li20, li23, li24, li25, li26, li27, li30, li31, li32, li36, li40, li41, li42, li43, li44, li45, li47, li48, li57, li59, li60, li91, li93, li96, li97, li100, li105, li122, li150, li200, li255, li400, li500, li600, li999, li1000, li1001, li2000, li2001, li2002, li2003, li2004, li2005, li2006, li32767, li100000, li_neg, li13, li17, li21, li22, li28, li29, li33, li34, li35, li37, li38, li39, li46, li49, li50, li51, li52, li53, li63, li80, li115, li160]; rfl
        · skip
          obtain ⟨M5, f5, q5⟩ := M_takes (wd := wAct) h4 w6_act
          rw [hi, hrr] at q5
          rcases q5 with ⟨c5, e5, h5⟩ | ⟨c5, e5, h5⟩
          · have ek : kgv r = 4 := (if_neg c1).trans ((if_neg c2).trans ((if_neg c3).trans ((if_neg c4).trans (if_pos c5))))
            rw [ek, c5]
            refine ⟨M5, ?_, ((((f1).trans f2).trans f3).trans f4).trans f5, h5⟩
            simp (disch := omega) only [f_M_knownHere, e1, e2, e3, e4, e5, bI_s, bV_s, bL_s, bR_s, bG_s, bG_n, bX_l, bX_r, ck_nI, nI_clamp, nI_leT, nI_leF, nI_ltT, nI_ltF, nI_eqF, nI_add, pk_mul, ofN, bt_e, or0, Nat.zero_add, Nat.add_zero, ↓reduceIte, if_true, if_false, Bool.false_eq_true, eq_self, li0, li1, li2, li3, li4, li5, li6, li7, li8, li9, li10, li11, li12, li14, li15, li16, li18, li19, li20, li23, li24, li25, li26, li27, li30, li31, li32, li36, li40, li41, li42, li43, li44, li45, li47, li48, li57, li59, li60, li91, li93, li96, li97, li100, li105, li122, li150, li200, li255, li400, li500, li600, li999, li1000, li1001, li2000, li2001, li2002, li2003, li2004, li2005, li2006, li32767, li100000, li_neg, li13, li17, li21, li22, li28, li29, li33, li34, li35, li37, li38, li39, li46, li49, li50, li51, li52, li53, li63, li80, li115, li160]; rfl
          · skip
            obtain ⟨M6, f6, q6⟩ := M_takes (wd := wDay) h5 w6_day
            rw [hi, hrr] at q6
            rcases q6 with ⟨c6, e6, h6⟩ | ⟨c6, e6, h6⟩
            · have ek : kgv r = 5 := (if_neg c1).trans ((if_neg c2).trans ((if_neg c3).trans ((if_neg c4).trans ((if_neg c5).trans (if_pos c6)))))
              rw [ek, c6]
              refine ⟨M6, ?_, (((((f1).trans f2).trans f3).trans f4).trans f5).trans f6, h6⟩
              simp (disch := omega) only [f_M_knownHere, e1, e2, e3, e4, e5, e6, bI_s, bV_s, bL_s, bR_s, bG_s, bG_n, bX_l, bX_r, ck_nI, nI_clamp, nI_leT, nI_leF, nI_ltT, nI_ltF, nI_eqF, nI_add, pk_mul, ofN, bt_e, or0, Nat.zero_add, Nat.add_zero, ↓reduceIte, if_true, if_false, Bool.false_eq_true, eq_self, li0, li1, li2, li3, li4, li5, li6, li7, li8, li9, li10, li11, li12, li14, li15, li16, li18, li19, li20, li23, li24, li25, li26, li27, li30, li31, li32, li36, li40, li41, li42, li43, li44, li45, li47, li48, li57, li59, li60, li91, li93, li96, li97, li100, li105, li122, li150, li200, li255, li400, li500, li600, li999, li1000, li1001, li2000, li2001, li2002, li2003, li2004, li2005, li2006, li32767, li100000, li_neg, li13, li17, li21, li22, li28, li29, li33, li34, li35, li37, li38, li39, li46, li49, li50, li51, li52, li53, li63, li80, li115, li160]; rfl
            · skip
              obtain ⟨M7, f7, q7⟩ := M_takes (wd := wRea) h6 w6_reach
              rw [hi, hrr] at q7
              rcases q7 with ⟨c7, e7, h7⟩ | ⟨c7, e7, h7⟩
              · have ek : kgv r = 6 := (if_neg c1).trans ((if_neg c2).trans ((if_neg c3).trans ((if_neg c4).trans ((if_neg c5).trans ((if_neg c6).trans (if_pos c7))))))
                rw [ek, c7]
                refine ⟨M7, ?_, ((((((f1).trans f2).trans f3).trans f4).trans f5).trans f6).trans f7, h7⟩
                simp (disch := omega) only [f_M_knownHere, e1, e2, e3, e4, e5, e6, e7, bI_s, bV_s, bL_s, bR_s, bG_s, bG_n, bX_l, bX_r, ck_nI, nI_clamp, nI_leT, nI_leF, nI_ltT, nI_ltF, nI_eqF, nI_add, pk_mul, ofN, bt_e, or0, Nat.zero_add, Nat.add_zero, ↓reduceIte, if_true, if_false, Bool.false_eq_true, eq_self, li0, li1, li2, li3, li4, li5, li6, li7, li8, li9, li10, li11, li12, li14, li15, li16, li18, li19, li20, li23, li24, li25, li26, li27, li30, li31, li32, li36, li40, li41, li42, li43, li44, li45, li47, li48, li57, li59, li60, li91, li93, li96, li97, li100, li105, li122, li150, li200, li255, li400, li500, li600, li999, li1000, li1001, li2000, li2001, li2002, li2003, li2004, li2005, li2006, li32767, li100000, li_neg, li13, li17, li21, li22, li28, li29, li33, li34, li35, li37, li38, li39, li46, li49, li50, li51, li52, li53, li63, li80, li115, li160]; rfl
              · skip
                obtain ⟨M8, f8, q8⟩ := M_takes (wd := wOld) h7 w6_old
                rw [hi, hrr] at q8
                rcases q8 with ⟨c8, e8, h8⟩ | ⟨c8, e8, h8⟩
                · have ek : kgv r = 7 := (if_neg c1).trans ((if_neg c2).trans ((if_neg c3).trans ((if_neg c4).trans ((if_neg c5).trans ((if_neg c6).trans ((if_neg c7).trans (if_pos c8)))))))
                  rw [ek, c8]
                  refine ⟨M8, ?_, (((((((f1).trans f2).trans f3).trans f4).trans f5).trans f6).trans f7).trans f8, h8⟩
                  simp (disch := omega) only [f_M_knownHere, e1, e2, e3, e4, e5, e6, e7, e8, bI_s, bV_s, bL_s, bR_s, bG_s, bG_n, bX_l, bX_r, ck_nI, nI_clamp, nI_leT, nI_leF, nI_ltT, nI_ltF, nI_eqF, nI_add, pk_mul, ofN, bt_e, or0, Nat.zero_add, Nat.add_zero, ↓reduceIte, if_true, if_false, Bool.false_eq_true, eq_self, li0, li1, li2, li3, li4, li5, li6, li7, li8, li9, li10, li11, li12, li14, li15, li16, li18, li19, li20, li23, li24, li25, li26, li27, li30, li31, li32, li36, li40, li41, li42, li43, li44, li45, li47, li48, li57, li59, li60, li91, li93, li96, li97, li100, li105, li122, li150, li200, li255, li400, li500, li600, li999, li1000, li1001, li2000, li2001, li2002, li2003, li2004, li2005, li2006, li32767, li100000, li_neg, li13, li17, li21, li22, li28, li29, li33, li34, li35, li37, li38, li39, li46, li49, li50, li51, li52, li53, li63, li80, li115, li160]; rfl
                · have ek : kgv r = 8 := (if_neg c1).trans ((if_neg c2).trans ((if_neg c3).trans ((if_neg c4).trans ((if_neg c5).trans ((if_neg c6).trans ((if_neg c7).trans (if_neg c8)))))))
                  rw [ek]
                  refine ⟨M8, ?_, (((((((f1).trans f2).trans f3).trans f4).trans f5).trans f6).trans f7).trans f8, h8⟩
                  simp (disch := omega) only [f_M_knownHere, e1, e2, e3, e4, e5, e6, e7, e8, bI_s, bV_s, bL_s, bR_s, bG_s, bG_n, bX_l, bX_r, ck_nI, nI_clamp, nI_leT, nI_leF, nI_ltT, nI_ltF, nI_eqF, nI_add, pk_mul, ofN, bt_e, or0, Nat.zero_add, Nat.add_zero, ↓reduceIte, if_true, if_false, Bool.false_eq_true, eq_self, li0, li1, li2, li3, li4, li5, li6, li7, li8, li9, li10, li11, li12, li14, li15, li16, li18, li19, li20, li23, li24, li25, li26, li27, li30, li31, li32, li36, li40, li41, li42, li43, li44, li45, li47, li48, li57, li59, li60, li91, li93, li96, li97, li100, li105, li122, li150, li200, li255, li400, li500, li600, li999, li1000, li1001, li2000, li2001, li2002, li2003, li2004, li2005, li2006, li32767, li100000, li_neg, li13, li17, li21, li22, li28, li29, li33, li34, li35, li37, li38, li39, li46, li49, li50, li51, li52, li53, li63, li80, li115, li160]; rfl
theorem C_gwF (h : CTp M t T E a k f) (hk : k ≠ 0) : f_Law_givenWord t M = some (nI 4294967295, M) := by
  have e : ∀ n, f_Tape_takesWord t n M = some (nI 0, M) := fun n => C_wordF h hk
  simp (disch := omega) only [f_Law_givenWord, e, bI_s, bV_s, bL_s, bR_s, bG_s, bG_n, bX_l, bX_r, ck_nI, nI_clamp, nI_leT, nI_leF, nI_ltT, nI_ltF, nI_eqF, nI_add, pk_mul, ofN, bt_e, or0, Nat.zero_add, Nat.add_zero, ↓reduceIte, if_true, if_false, Bool.false_eq_true, eq_self, li0, li1, li2, li3, li4, li5, li6, li7, li8, li9, li10, li11, li12, li14, li15, li16, li18, li19, li20, li23, li24, li25, li26, li27, li30, li31, li32, li36, li40, li41, li42, li43, li44, li45, li47, li48, li57, li59, li60, li91, li93, li96, li97, li100, li105, li122, li150, li200, li255, li400, li500, li600, li999, li1000, li1001, li2000, li2001, li2002, li2003, li2004, li2005, li2006, li32767, li100000, li_neg, li13, li17, li21, li22, li28, li29, li33, li34, li35, li37, li38, li39, li46, li49, li50, li51, li52, li53, li63, li80, li115, li160]
theorem kgv_8 (r : List Nat) : kgv r ≤ 8 := by
  unfold kgv
  repeat' split
  all_goals omega
theorem kgv_lea : kgv wLea = 8 := by decide
theorem kgv_mos : kgv wMos = 8 := by decide
theorem kgv_nil : kgv [] = 8 := by decide
theorem cR_nil (h : ¬ (sk T E a < E ∧ isSm (T (sk T E a)) = true)) : cR T E a = [] := by
  unfold cR
  rcases Nat.lt_or_ge (sk T E a) E with q | q
  · obtain ⟨z, hz⟩ : ∃ z, E - sk T E a = z + 1 := ⟨E - sk T E a - 1, by omega⟩
    rw [hz]; exact if_neg (fun c => h ⟨q, c⟩)
  · rw [show E - sk T E a = 0 by omega]; rfl
theorem cR_sm (h : cR T E a ≠ []) : sk T E a < E ∧ isSm (T (sk T E a)) = true := by
  by_cases c : sk T E a < E ∧ isSm (T (sk T E a)) = true
  · exact c
  · exact absurd (cR_nil c) h
theorem nK_1 {p0 p1 : Int32} (h : ¬ (sk T E a < E ∧ isDg (T (sk T E a)) = true)) : nK T E a p0 p1 = 1 := by
  unfold nK
  refine if_pos ?_
  unfold dg
  rcases Nat.lt_or_ge (sk T E a) E with q | q
  · obtain ⟨z, hz⟩ : ∃ z, E - sk T E a = z + 1 := ⟨E - sk T E a - 1, by omega⟩
    rw [hz]
    unfold dgN
    rw [if_neg (fun c => h ⟨q, c⟩)]
  · rw [show E - sk T E a = 0 by omega]; rfl
end
