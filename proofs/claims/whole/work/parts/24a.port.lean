/-! # functional level, 49: reading a port: the word of a clause -/
section
variable {M M' M1 M2 N : Mm} {t m E a k f n s : Nat} {T : Nat → Nat}
def wRow : List Nat := [114, 111, 119]
def wBid : List Nat := [98, 105, 100]
def wKin : List Nat := [107, 105, 110]
def wWri : List Nat := [119, 114, 105, 116, 101, 114]
def wKno : List Nat := [107, 110, 111, 119, 115]
/-- row 0, bid 1, kin 2, writer 3, knows 4, none 5 -/
def kw (r : List Nat) : Nat := if r = wRow then 0 else if r = wBid then 1 else if r = wKin then 2 else if r = wWri then 3 else if r = wKno then 4 else 5
def kwI (x : Nat) : Int32 := if x = 5 then nI 4294967295 else nI x
theorem C_cw (h : CTp M t T E a 0 f) : ∃ M', f_Port_clauseWord t M = some (kwI (kw (rl T (E - sk T E a) (sk T E a))), M') ∧ FX (tD t) M M' ∧ CTp M' t T E (if kw (rl T (E - sk T E a) (sk T E a)) = 5 then sk T E a else sk T E a + (rl T (E - sk T E a) (sk T E a)).length) 0 f := by
  have hE := h.2.2.1
  have hi := sk_i (T := T) hE.1
  obtain ⟨M1, f1, q1⟩ := C_word h wdn_17
  generalize hrr : rl T (E - sk T E a) (sk T E a) = r at q1 ⊢
  rcases q1 with ⟨c1, e1, h1⟩ | ⟨c1, e1, h1⟩
  · have ek : kw r = 0 := if_pos c1
    rw [ek, c1]
    refine ⟨M1, ?_, f1, h1⟩
    simp (disch := omega) only [f_Port_clauseWord, e1, bI_s, bV_s, bL_s, bR_s, bG_s, bG_n, bX_l, bX_r, ck_nI, nI_clamp, nI_leT, nI_leF, nI_ltT, nI_ltF, nI_eqF, nI_add, pk_mul, ofN, bt_e, or0, Nat.zero_add, Nat.add_zero, ↓reduceIte, if_true, if_false, Bool.false_eq_true, eq_self, li0, li1, li2, li3, li4, li5, li6, li7, li8, li9, li10, li11, li12, li14, li15, li16, li18, li19, li20, li23, li24, li25, li26, li27, li30, li31, li32, li36, li40, li41, li42, li43, li44, li45, li47, li48, li57, li59, li60, li91, li93, li96, li97, li100, li105, li122, li150, li200, li255, li400, li500, li600, li999, li1000, li1001, li2000, li2001, li2002, li2003, li2004, li2005, li2006, li32767, li100000, li_neg, li13, li17, li21, li22, li28, li29, li33, li34, li35, li37, li38, li39, li46, li49, li50, li51, li52, li53, li63, li80, li115, li160]; rfl
  · obtain ⟨M2, f2, q2⟩ := C_word h1 wdn_18
    rw [hi, hrr] at q2
    rcases q2 with ⟨c2, e2, h2⟩ | ⟨c2, e2, h2⟩
    · have ek : kw r = 1 := (if_neg c1).trans (if_pos c2)
      rw [ek, c2]
      refine ⟨M2, ?_, f1.trans f2, h2⟩
      simp (disch := omega) only [f_Port_clauseWord, e1, e2, bI_s, bV_s, bL_s, bR_s, bG_s, bG_n, bX_l, bX_r, ck_nI, nI_clamp, nI_leT, nI_leF, nI_ltT, nI_ltF, nI_eqF, nI_add, pk_mul, ofN, bt_e, or0, Nat.zero_add, Nat.add_zero, ↓reduceIte, if_true, if_false, Bool.false_eq_true, eq_self, li0, li1, li2, li3, li4, li5, li6, li7, li8, li9, li10, li11, li12, li14, li15, li16, li18, li19, li20, li23, li24, li25, li26, li27, li30, li31, li32, li36, li40, li41, li42, li43, li44, li45, li47, li48, li57, li59, li60, li91, li93, li96, li97, li100, li105, li122, li150, li200, li255, li400, li500, li600, li999, li1000, li1001, li2000, li2001, li2002, li2003, li2004, li2005, li2006, li32767, li100000, li_neg, li13, li17, li21, li22, li28, li29, li33, li34, li35, li37, li38, li39, li46, li49, li50, li51, li52, li53, li63, li80, li115, li160]; rfl
    · obtain ⟨M3, f3, q3⟩ := C_word h2 wdn_19
      rw [hi, hrr] at q3
      rcases q3 with ⟨c3, e3, h3⟩ | ⟨c3, e3, h3⟩
      · have ek : kw r = 2 := (if_neg c1).trans ((if_neg c2).trans (if_pos c3))
        rw [ek, c3]
        refine ⟨M3, ?_, (f1.trans f2).trans f3, h3⟩
        simp (disch := omega) only [f_Port_clauseWord, e1, e2, e3, bI_s, bV_s, bL_s, bR_s, bG_s, bG_n, bX_l, bX_r, ck_nI, nI_clamp, nI_leT, nI_leF, nI_ltT, nI_ltF, nI_eqF, nI_add, pk_mul, ofN, bt_e, or0, Nat.zero_add, Nat.add_zero, ↓reduceIte, if_true, if_false, Bool.false_eq_true, eq_self, li0, li1, li2, li3, li4, li5, li6, li7, li8, li9, li10, li11, li12, li14, li15, li16, li18, li19, li20, li23, li24, li25, li26, li27, li30, li31, li32, li36, li40, li41, li42, li43, li44, li45, li47, li48, li57, li59, li60, li91, li93, li96, li97, li100, li105, li122, li150, li200, li255, li400, li500, li600, li999, li1000, li1001, li2000, li2001, li2002, li2003, li2004, li2005, li2006, li32767, li100000, li_neg, li13, li17, li21, li22, li28, li29, li33, li34, li35, li37, li38, li39, li46, li49, li50, li51, li52, li53, li63, li80, li115, li160]; rfl
      · obtain ⟨M4, f4, q4⟩ := C_word h3 wdn_20
        rw [hi, hrr] at q4
        rcases q4 with ⟨c4, e4, h4⟩ | ⟨c4, e4, h4⟩
        · have ek : kw r = 3 := (if_neg c1).trans ((if_neg c2).trans ((if_neg c3).trans (if_pos c4)))
          rw [ek, c4]
          refine ⟨M4, ?_, ((f1.trans f2).trans f3).trans f4, h4⟩
          simp (disch := omega) only [f_Port_clauseWord, e1, e2, e3, e4, bI_s, bV_s, bL_s, bR_s, bG_s, bG_n, bX_l, bX_r, ck_nI, nI_clamp, nI_leT, nI_leF, nI_ltT, nI_ltF, nI_eqF, nI_add, pk_mul, ofN, bt_e, or0, Nat.zero_add, Nat.add_zero, ↓reduceIte, if_true, if_false, Bool.false_eq_true, eq_self, li0, li1, li2, li3, li4, li5, li6, li7, li8, li9, li10, li11, li12, li14, li15, li16, li18, li19, li20, li23, li24, li25, li26, li27, li30, li31, li32, li36, li40, li41, li42, li43, li44, li45, li47, li48, li57, li59, li60, li91, li93, li96, li97, li100, li105, li122, li150, li200, li255, li400, li500, li600, li999, li1000, li1001, li2000, li2001, li2002, li2003, li2004, li2005, li2006, li32767, li100000, li_neg, li13, li17, li21, li22, li28, li29, li33, li34, li35, li37, li38, li39, li46, li49, li50, li51, li52, li53, li63, li80, li115, li160]; rfl
        · obtain ⟨M5, f5, q5⟩ := C_word h4 wdn_21
          rw [hi, hrr] at q5
          have f15 := (((f1.trans f2).trans f3).trans f4).trans f5
          rcases q5 with ⟨c5, e5, h5⟩ | ⟨c5, e5, h5⟩
          · have ek : kw r = 4 := (if_neg c1).trans ((if_neg c2).trans ((if_neg c3).trans ((if_neg c4).trans (if_pos c5))))
            rw [ek, c5]
            refine ⟨M5, ?_, f15, h5⟩
            simp (disch := omega) only [f_Port_clauseWord, e1, e2, e3, e4, e5, bI_s, bV_s, bL_s, bR_s, bG_s, bG_n, bX_l, bX_r, ck_nI, nI_clamp, nI_leT, nI_leF, nI_ltT, nI_ltF, nI_eqF, nI_add, pk_mul, ofN, bt_e, or0, Nat.zero_add, Nat.add_zero, ↓reduceIte, if_true, if_false, Bool.false_eq_true, eq_self, li0, li1, li2, li3, li4, li5, li6, li7, li8, li9, li10, li11, li12, li14, li15, li16, li18, li19, li20, li23, li24, li25, li26, li27, li30, li31, li32, li36, li40, li41, li42, li43, li44, li45, li47, li48, li57, li59, li60, li91, li93, li96, li97, li100, li105, li122, li150, li200, li255, li400, li500, li600, li999, li1000, li1001, li2000, li2001, li2002, li2003, li2004, li2005, li2006, li32767, li100000, li_neg, li13, li17, li21, li22, li28, li29, li33, li34, li35, li37, li38, li39, li46, li49, li50, li51, li52, li53, li63, li80, li115, li160]; rfl
          · have ek : kw r = 5 := (if_neg c1).trans ((if_neg c2).trans ((if_neg c3).trans ((if_neg c4).trans (if_neg c5))))
            rw [ek]
            refine ⟨M5, ?_, f15, h5⟩
            simp (disch := omega) only [f_Port_clauseWord, e1, e2, e3, e4, e5, bI_s, bV_s, bL_s, bR_s, bG_s, bG_n, bX_l, bX_r, ck_nI, nI_clamp, nI_leT, nI_leF, nI_ltT, nI_ltF, nI_eqF, nI_add, pk_mul, ofN, bt_e, or0, Nat.zero_add, Nat.add_zero, ↓reduceIte, if_true, if_false, Bool.false_eq_true, eq_self, li0, li1, li2, li3, li4, li5, li6, li7, li8, li9, li10, li11, li12, li14, li15, li16, li18, li19, li20, li23, li24, li25, li26, li27, li30, li31, li32, li36, li40, li41, li42, li43, li44, li45, li47, li48, li57, li59, li60, li91, li93, li96, li97, li100, li105, li122, li150, li200, li255, li400, li500, li600, li999, li1000, li1001, li2000, li2001, li2002, li2003, li2004, li2005, li2006, li32767, li100000, li_neg, li13, li17, li21, li22, li28, li29, li33, li34, li35, li37, li38, li39, li46, li49, li50, li51, li52, li53, li63, li80, li115, li160]; rfl
/-- the model's kinds: row 0, bid 1, writer 2, kin 3, knows 4 -/
def kwM (x : Nat) : Int32 := if x = 5 then nI 4294967295 else if x = 2 then nI 3 else if x = 3 then nI 2 else nI x
theorem M_kind (h : MTp M m T E a 0 f) : ∃ M', f_M_kindHere m M = some (kwM (kw (rl T (E - sk T E a) (sk T E a))), M') ∧ FX (uD m) M M' ∧ MTp M' m T E (sk T E a) 0 f := by
  have hE := h.2.2.1
  have hi := sk_i (T := T) hE.1
  obtain ⟨M1, f1, h1, e1⟩ := M_isWord (wd := wRow) h w6_row
  obtain ⟨M2, f2, h2, e2⟩ := M_isWord (wd := wBid) h1 w6_bid
  rw [hi] at h2 e2
  obtain ⟨M3, f3, h3, e3⟩ := M_isWord (wd := wWri) h2 w6_writer
  rw [hi] at h3 e3
  obtain ⟨M4, f4, h4, e4⟩ := M_isWord (wd := wKin) h3 w6_kin
  rw [hi] at h4 e4
  obtain ⟨M5, f5, h5, e5⟩ := M_isWord (wd := wKno) h4 w6_knows
  rw [hi] at h5 e5
  generalize rl T (E - sk T E a) (sk T E a) = r at e1 e2 e3 e4 e5 ⊢
  by_cases c1 : r = wRow
  · rw [if_pos c1] at e1
    have ek : kw r = 0 := if_pos c1
    rw [ek]
    refine ⟨M1, ?_, f1, h1⟩
    simp (disch := omega) only [f_M_kindHere, e1, bI_s, bV_s, bL_s, bR_s, bG_s, bG_n, bX_l, bX_r, ck_nI, nI_clamp, nI_leT, nI_leF, nI_ltT, nI_ltF, nI_eqF, nI_add, pk_mul, ofN, bt_e, or0, Nat.zero_add, Nat.add_zero, ↓reduceIte, if_true, if_false, Bool.false_eq_true, eq_self, li0, li1, li2, li3, li4, li5, li6, li7, li8, li9, li10, li11, li12, li14, li15, li16, li18, li19, li20, li23, li24, li25, li26, li27, li30, li31, li32, li36, li40, li41, li42, li43, li44, li45, li47, li48, li57, li59, li60, li91, li93, li96, li97, li100, li105, li122, li150, li200, li255, li400, li500, li600, li999, li1000, li1001, li2000, li2001, li2002, li2003, li2004, li2005, li2006, li32767, li100000, li_neg, li13, li17, li21, li22, li28, li29, li33, li34, li35, li37, li38, li39, li46, li49, li50, li51, li52, li53, li63, li80, li115, li160]; rfl
  · rw [if_neg c1] at e1
    by_cases c2 : r = wBid
    · rw [if_pos c2] at e2
      have ek : kw r = 1 := (if_neg c1).trans (if_pos c2)
      rw [ek]
      refine ⟨M2, ?_, f1.trans f2, h2⟩
      simp (disch := omega) only [f_M_kindHere, e1, e2, bI_s, bV_s, bL_s, bR_s, bG_s, bG_n, bX_l, bX_r, ck_nI, nI_clamp, nI_leT, nI_leF, nI_ltT, nI_ltF, nI_eqF, nI_add, pk_mul, ofN, bt_e, or0, Nat.zero_add, Nat.add_zero, ↓reduceIte, if_true, if_false, Bool.false_eq_true, eq_self, li0, li1, li2, li3, li4, li5, li6, li7, li8, li9, li10, li11, li12, li14, li15, li16, li18, li19, li20, li23, li24, li25, li26, li27, li30, li31, li32, li36, li40, li41, li42, li43, li44, li45, li47, li48, li57, li59, li60, li91, li93, li96, li97, li100, li105, li122, li150, li200, li255, li400, li500, li600, li999, li1000, li1001, li2000, li2001, li2002, li2003, li2004, li2005, li2006, li32767, li100000, li_neg, li13, li17, li21, li22, li28, li29, li33, li34, li35, li37, li38, li39, li46, li49, li50, li51, li52, li53, li63, li80, li115, li160]; rfl
    · rw [if_neg c2] at e2
      by_cases c4 : r = wWri
      · rw [if_pos c4] at e3
        have c3 : r ≠ wKin := by rw [c4]; decide
        have ek : kw r = 3 := (if_neg c1).trans ((if_neg c2).trans ((if_neg c3).trans (if_pos c4)))
        rw [ek]
        refine ⟨M3, ?_, (f1.trans f2).trans f3, h3⟩
        simp (disch := omega) only [f_M_kindHere, e1, e2, e3, bI_s, bV_s, bL_s, bR_s, bG_s, bG_n, bX_l, bX_r, ck_nI, nI_clamp, nI_leT, nI_leF, nI_ltT, nI_ltF, nI_eqF, nI_add, pk_mul, ofN, bt_e, or0, Nat.zero_add, Nat.add_zero, ↓reduceIte, if_true, if_false, Bool.false_eq_true, eq_self, li0, li1, li2, li3, li4, li5, li6, li7, li8, li9, li10, li11, li12, li14, li15, li16, li18, li19, li20, li23, li24, li25, li26, li27, li30, li31, li32, li36, li40, li41, li42, li43, li44, li45, li47, li48, li57, li59, li60, li91, li93, li96, li97, li100, li105, li122, li150, li200, li255, li400, li500, li600, li999, li1000, li1001, li2000, li2001, li2002, li2003, li2004, li2005, li2006, li32767, li100000, li_neg, li13, li17, li21, li22, li28, li29, li33, li34, li35, li37, li38, li39, li46, li49, li50, li51, li52, li53, li63, li80, li115, li160]; rfl
      · rw [if_neg c4] at e3
        by_cases c3 : r = wKin
        · rw [if_pos c3] at e4
          have ek : kw r = 2 := (if_neg c1).trans ((if_neg c2).trans (if_pos c3))
          rw [ek]
          refine ⟨M4, ?_, ((f1.trans f2).trans f3).trans f4, h4⟩
          simp (disch := omega) only [f_M_kindHere, e1, e2, e3, e4, bI_s, bV_s, bL_s, bR_s, bG_s, bG_n, bX_l, bX_r, ck_nI, nI_clamp, nI_leT, nI_leF, nI_ltT, nI_ltF, nI_eqF, nI_add, pk_mul, ofN, bt_e, or0, Nat.zero_add, Nat.add_zero, ↓reduceIte, if_true, if_false, Bool.false_eq_true, eq_self, li0, li1, li2, li3, li4, li5, li6, li7, li8, li9, li10, li11, li12, li14, li15, li16, li18, li19, li20, li23, li24, li25, li26, li27, li30, li31, li32, li36, li40, li41, li42, li43, li44, li45, li47, li48, li57, li59, li60, li91, li93, li96, li97, li100, li105, li122, li150, li200, li255, li400, li500, li600, li999, li1000, li1001, li2000, li2001, li2002, li2003, li2004, li2005, li2006, li32767, li100000, li_neg, li13, li17, li21, li22, li28, li29, li33, li34, li35, li37, li38, li39, li46, li49, li50, li51, li52, li53, li63, li80, li115, li160]; rfl
        · rw [if_neg c3] at e4
          have f15 := (((f1.trans f2).trans f3).trans f4).trans f5
          by_cases c5 : r = wKno
          · rw [if_pos c5] at e5
            have ek : kw r = 4 := (if_neg c1).trans ((if_neg c2).trans ((if_neg c3).trans ((if_neg c4).trans (if_pos c5))))
            rw [ek]
            refine ⟨M5, ?_, f15, h5⟩
            simp (disch := omega) only [f_M_kindHere, e1, e2, e3, e4, e5, bI_s, bV_s, bL_s, bR_s, bG_s, bG_n, bX_l, bX_r, ck_nI, nI_clamp, nI_leT, nI_leF, nI_ltT, nI_ltF, nI_eqF, nI_add, pk_mul, ofN, bt_e, or0, Nat.zero_add, Nat.add_zero, ↓reduceIte, if_true, if_false, Bool.false_eq_true, eq_self, li0, li1, li2, li3, li4, li5, li6, li7, li8, li9, li10, li11, li12, li14, li15, li16, li18, li19, li20, li23, li24, li25, li26, li27, li30, li31, li32, li36, li40, li41, li42, li43, li44, li45, li47, li48, li57, li59, li60, li91, li93, li96, li97, li100, li105, li122, li150, li200, li255, li400, li500, li600, li999, li1000, li1001, li2000, li2001, li2002, li2003, li2004, li2005, li2006, li32767, li100000, li_neg, li13, li17, li21, li22, li28, li29, li33, li34, li35, li37, li38, li39, li46, li49, li50, li51, li52, li53, li63, li80, li115, li160]; rfl
          · rw [if_neg c5] at e5
            have ek : kw r = 5 := (if_neg c1).trans ((if_neg c2).trans ((if_neg c3).trans ((if_neg c4).trans (if_neg c5))))
            rw [ek]
            refine ⟨M5, ?_, f15, h5⟩
            simp (disch := omega) only [f_M_kindHere, e1, e2, e3, e4, e5, bI_s, bV_s, bL_s, bR_s, bG_s, bG_n, bX_l, bX_r, ck_nI, nI_clamp, nI_leT, nI_leF, nI_ltT, nI_ltF, nI_eqF, nI_add, pk_mul, ofN, bt_e, or0, Nat.zero_add, Nat.add_zero, ↓reduceIte, if_true, if_false, Bool.false_eq_true, eq_self, li0, li1, li2, li3, li4, li5, li6, li7, li8, li9, li10, li11, li12, li14, li15, li16, li18, li19, li20, li23, li24, li25, li26, li27, li30, li31, li32, li36, li40, li41, li42, li43, li44, li45, li47, li48, li57, li59, li60, li91, li93, li96, li97, li100, li105, li122, li150, li200, li255, li400, li500, li600, li999, li1000, li1001, li2000, li2001, li2002, li2003, li2004, li2005, li2006, li32767, li100000, li_neg, li13, li17, li21, li22, li28, li29, li33, li34, li35, li37, li38, li39, li46, li49, li50, li51, li52, li53, li63, li80, li115, li160]; rfl
end
