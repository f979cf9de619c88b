/-! # functional level, 74: the words of a step (printed by wip/gen/mk26a.py) -/
section
variable {M M' M1 M2 N : Mm} {t m q p E a k f n s : Nat} {T : Nat → Nat} {ρ : Nat → Nat → Nat → Int32 → Mm → Option Mm} {x : Int32}
def wWrt : List Nat := [119, 114, 105, 116, 101]
def wSlp : List Nat := [115, 108, 105, 112]
def wRai : List Nat := [114, 97, 105, 110]
def wNig : List Nat := [110, 105, 103, 104, 116]
def wAga : List Nat := [97, 103, 97, 105, 110]
/-- which step; 5 none -/
def kst (r : List Nat) : Nat := if r = wWrt then 0 else if r = wSlp then 1 else if r = wRai then 2 else if r = wNig then 3 else if r = wAga then 4 else 5
def kstI (x : Nat) : Int32 := if x = 5 then nI 4294967295 else nI x
theorem kst_5 (r : List Nat) : kst r ≤ 5 := by
  unfold kst
  repeat' split
  all_goals omega
theorem C_sw0 (h : CTp M t T E a 0 f) (hw : kst (cR T E a) = 0) : ∃ M1, FX (tD t) M M1 ∧ CTp M1 t T E (sk T E a + (cR T E a).length) 0 f ∧ f_Plan_readStep ρ q t p x M = bI (f_Tape_number t (nI 0) (gI M1 p 5 - nI 1) M1) (fun z44 M42 => bI (f_Tape_number t (nI 0) (gI M42 p 2 - nI 1) M42) (fun z47 M45 => bI (f_Tape_number t (nI 0) (gI M45 p 0 - nI 1) M45) (fun z50 M48 => f_Plan_put q t (nI 0) z44 z47 z50 M48))) := by
  have hE := h.2.2.1
  have hi := sk_i (T := T) hE.1
  unfold cR at hw ⊢
  obtain ⟨M0, e0, f0, h0⟩ := C_next h
  obtain ⟨M1, f1, q1⟩ := C_word (wd := wWrt) h0 wdn_12
  rw [hi] at q1
  generalize hrr : rl T (E - sk T E a) (sk T E a) = r at hw q1 ⊢
  rcases q1 with ⟨c1, e1, h1⟩ | ⟨c1, e1, h1⟩
  · refine ⟨M1, (f0).trans f1, ?_, ?_⟩
    · rw [c1]; exact h1
    · simp (disch := omega) only [f_Plan_readStep, e0, e1, bV_id, bI_s, bV_s, bL_s, bR_s, bG_s, bG_n, bX_l, bX_r, ck_nI, nI_clamp, nI_leT, nI_leF, nI_ltT, nI_ltF, nI_eqF, nI_add, pk_mul, ofN, bt_e, or0, Nat.zero_add, Nat.add_zero, ↓reduceIte, if_true, if_false, Bool.false_eq_true, eq_self, li0, li1, li2, li3, li4, li5, li6, li7, li8, li9, li10, li11, li12, li14, li15, li16, li18, li19, li20, li23, li24, li25, li26, li27, li30, li31, li32, li36, li40, li41, li42, li43, li44, li45, li47, li48, li57, li59, li60, li91, li93, li96, li97, li100, li105, li122, li150, li200, li255, li400, li500, li600, li999, li1000, li1001, li2000, li2001, li2002, li2003, li2004, li2005, li2006, li32767, li100000, li_neg, li13, li17, li21, li22, li28, li29, li33, li34, li35, li37, li38, li39, li46, li49, li50, li51, li52, li53, li63, li80, li115, li160]
  · exfalso
    unfold kst at hw
    rw [if_neg c1] at hw
    by_cases d1 : r = wSlp
    · rw [if_pos d1] at hw; omega
    rw [if_neg d1] at hw
    by_cases d2 : r = wRai
    · rw [if_pos d2] at hw; omega
    rw [if_neg d2] at hw
    by_cases d3 : r = wNig
    · rw [if_pos d3] at hw; omega
    rw [if_neg d3] at hw
    by_cases d4 : r = wAga
    · rw [if_pos d4] at hw; omega
    rw [if_neg d4] at hw
    omega
theorem C_sw1 (h : CTp M t T E a 0 f) (hw : kst (cR T E a) = 1) : ∃ M1, FX (tD t) M M1 ∧ CTp M1 t T E (sk T E a + (cR T E a).length) 0 f ∧ f_Plan_readStep ρ q t p x M = bI (f_Tape_number t (nI 0) (gI M1 p 2 - nI 1) M1) (fun z39 M37 => f_Plan_put q t (nI 1) z39 (nI 0) (nI 0) M37) := by
  have hE := h.2.2.1
  have hi := sk_i (T := T) hE.1
  unfold cR at hw ⊢
  obtain ⟨M0, e0, f0, h0⟩ := C_next h
  obtain ⟨M1, f1, q1⟩ := C_word (wd := wWrt) h0 wdn_12
  rw [hi] at q1
  generalize hrr : rl T (E - sk T E a) (sk T E a) = r at hw q1 ⊢
  rcases q1 with ⟨c1, e1, h1⟩ | ⟨c1, e1, h1⟩
  · exfalso
    have ek : kst r = 0 := if_pos c1
    omega
  · skip
    obtain ⟨M2, f2, q2⟩ := C_word (wd := wSlp) h1 wdn_13
    rw [hi] at q2
    rw [hrr] at q2
    rcases q2 with ⟨c2, e2, h2⟩ | ⟨c2, e2, h2⟩
    · refine ⟨M2, ((f0).trans f1).trans f2, ?_, ?_⟩
      · rw [c2]; exact h2
      · simp (disch := omega) only [f_Plan_readStep, e0, e1, e2, bV_id, bI_s, bV_s, bL_s, bR_s, bG_s, bG_n, bX_l, bX_r, ck_nI, nI_clamp, nI_leT, nI_leF, nI_ltT, nI_ltF, nI_eqF, nI_add, pk_mul, ofN, bt_e, or0, Nat.zero_add, Nat.add_zero, ↓reduceIte, if_true, if_false, Bool.false_eq_true, eq_self, li0, li1, li2, li3, li4, li5, li6, li7, li8, li9, li10, li11, li12, li14, li15, li16, li18, li19, li20, li23, li24, li25, li26, li27, li30, li31, li32, li36, li40, li41, li42, li43, li44, li45, li47, li48, li57, li59, li60, li91, li93, li96, li97, li100, li105, li122, li150, li200, li255, li400, li500, li600, li999, li1000, li1001, li2000, li2001, li2002, li2003, li2004, li2005, li2006, li32767, li100000, li_neg, li13, li17, li21, li22, li28, li29, li33, li34, li35, li37, li38, li39, li46, li49, li50, li51, li52, li53, li63, li80, li115, li160]
    · exfalso
      unfold kst at hw
      rw [if_neg c1] at hw
      rw [if_neg c2] at hw
      by_cases d2 : r = wRai
      · rw [if_pos d2] at hw; omega
      rw [if_neg d2] at hw
      by_cases d3 : r = wNig
      · rw [if_pos d3] at hw; omega
      rw [if_neg d3] at hw
      by_cases d4 : r = wAga
      · rw [if_pos d4] at hw; omega
      rw [if_neg d4] at hw
      omega
theorem C_sw2 (h : CTp M t T E a 0 f) (hw : kst (cR T E a) = 2) : ∃ M1, FX (tD t) M M1 ∧ CTp M1 t T E (sk T E a + (cR T E a).length) 0 f ∧ f_Plan_readStep ρ q t p x M = bI (f_Tape_number t (nI 1) (nI 4) M1) (fun z34 M32 => f_Plan_put q t (nI 2) z34 (nI 0) (nI 0) M32) := by
  have hE := h.2.2.1
  have hi := sk_i (T := T) hE.1
  unfold cR at hw ⊢
  obtain ⟨M0, e0, f0, h0⟩ := C_next h
  obtain ⟨M1, f1, q1⟩ := C_word (wd := wWrt) h0 wdn_12
  rw [hi] at q1
  generalize hrr : rl T (E - sk T E a) (sk T E a) = r at hw q1 ⊢
  rcases q1 with ⟨c1, e1, h1⟩ | ⟨c1, e1, h1⟩
  · exfalso
    have ek : kst r = 0 := if_pos c1
    omega
  · skip
    obtain ⟨M2, f2, q2⟩ := C_word (wd := wSlp) h1 wdn_13
    rw [hi] at q2
    rw [hrr] at q2
    rcases q2 with ⟨c2, e2, h2⟩ | ⟨c2, e2, h2⟩
    · exfalso
      have ek : kst r = 1 := (if_neg c1).trans (if_pos c2)
      omega
    · skip
      obtain ⟨M3, f3, q3⟩ := C_word (wd := wRai) h2 wdn_14
      rw [hi] at q3
      rw [hrr] at q3
      rcases q3 with ⟨c3, e3, h3⟩ | ⟨c3, e3, h3⟩
      · refine ⟨M3, (((f0).trans f1).trans f2).trans f3, ?_, ?_⟩
        · rw [c3]; exact h3
        · simp (disch := omega) only [f_Plan_readStep, e0, e1, e2, e3, bV_id, bI_s, bV_s, bL_s, bR_s, bG_s, bG_n, bX_l, bX_r, ck_nI, nI_clamp, nI_leT, nI_leF, nI_ltT, nI_ltF, nI_eqF, nI_add, pk_mul, ofN, bt_e, or0, Nat.zero_add, Nat.add_zero, ↓reduceIte, if_true, if_false, Bool.false_eq_true, eq_self, li0, li1, li2, li3, li4, li5, li6, li7, li8, li9, li10, li11, li12, li14, li15, li16, li18, li19, li20, li23, li24, li25, li26, li27, li30, li31, li32, li36, li40, li41, li42, li43, li44, li45, li47, li48, li57, li59, li60, li91, li93, li96, li97, li100, li105, li122, li150, li200, li255, li400, li500, li600, li999, li1000, li1001, li2000, li2001, li2002, li2003, li2004, li2005, li2006, li32767, li100000, li_neg, li13, li17, li21, li22, li28, li29, li33, li34, li35, li37, li38, li39, li46, li49, li50, li51, li52, li53, li63, li80, li115, li160]
      · exfalso
        unfold kst at hw
        rw [if_neg c1] at hw
        rw [if_neg c2] at hw
        rw [if_neg c3] at hw
        by_cases d3 : r = wNig
        · rw [if_pos d3] at hw; omega
        rw [if_neg d3] at hw
        by_cases d4 : r = wAga
        · rw [if_pos d4] at hw; omega
        rw [if_neg d4] at hw
        omega
theorem C_sw3 (h : CTp M t T E a 0 f) (hw : kst (cR T E a) = 3) : ∃ M1, FX (tD t) M M1 ∧ CTp M1 t T E (sk T E a + (cR T E a).length) 0 f ∧ f_Plan_readStep ρ q t p x M = f_Plan_put q t (nI 3) (nI 0) (nI 0) (nI 0) M1 := by
  have hE := h.2.2.1
  have hi := sk_i (T := T) hE.1
  unfold cR at hw ⊢
  obtain ⟨M0, e0, f0, h0⟩ := C_next h
  obtain ⟨M1, f1, q1⟩ := C_word (wd := wWrt) h0 wdn_12
  rw [hi] at q1
  generalize hrr : rl T (E - sk T E a) (sk T E a) = r at hw q1 ⊢
  rcases q1 with ⟨c1, e1, h1⟩ | ⟨c1, e1, h1⟩
  · exfalso
    have ek : kst r = 0 := if_pos c1
    omega
  · skip
    obtain ⟨M2, f2, q2⟩ := C_word (wd := wSlp) h1 wdn_13
    rw [hi] at q2
    rw [hrr] at q2
    rcases q2 with ⟨c2, e2, h2⟩ | ⟨c2, e2, h2⟩
    · exfalso
      have ek : kst r = 1 := (if_neg c1).trans (if_pos c2)
      omega
    · skip
      obtain ⟨M3, f3, q3⟩ := C_word (wd := wRai) h2 wdn_14
      rw [hi] at q3
      rw [hrr] at q3
      rcases q3 with ⟨c3, e3, h3⟩ | ⟨c3, e3, h3⟩
      · exfalso
        have ek : kst r = 2 := (if_neg c1).trans ((if_neg c2).trans (if_pos c3))
        omega
      · skip
        obtain ⟨M4, f4, q4⟩ := C_word (wd := wNig) h3 wdn_15
        rw [hi] at q4
        rw [hrr] at q4
        rcases q4 with ⟨c4, e4, h4⟩ | ⟨c4, e4, h4⟩
        · refine ⟨M4, ((((f0).trans f1).trans f2).trans f3).trans f4, ?_, ?_⟩
          · rw [c4]; exact h4
          · simp (disch := omega) only [f_Plan_readStep, e0, e1, e2, e3, e4, bV_id, bI_s, bV_s, bL_s, bR_s, bG_s, bG_n, bX_l, bX_r, ck_nI, nI_clamp, nI_leT, nI_leF, nI_ltT, nI_ltF, nI_eqF, nI_add, pk_mul, ofN, bt_e, or0, Nat.zero_add, Nat.add_zero, ↓reduceIte, if_true, if_false, Bool.false_eq_true, eq_self, li0, li1, li2, li3, li4, li5, li6, li7, li8, li9, li10, li11, li12, li14, li15, li16, li18, li19, li20, li23, li24, li25, li26, li27, li30, li31, li32, li36, li40, li41, li42, li43, li44, li45, li47, li48, li57, li59, li60, li91, li93, li96, li97, li100, li105, li122, li150, li200, li255, li400, li500, li600, li999, li1000, li1001, li2000, li2001, li2002, li2003, li2004, li2005, li2006, li32767, li100000, li_neg, li13, li17, li21, li22, li28, li29, li33, li34, li35, li37, li38, li39, li46, li49, li50, li51, li52, li53, li63, li80, li115, li160]
        · exfalso
          unfold kst at hw
          rw [if_neg c1] at hw
          rw [if_neg c2] at hw
          rw [if_neg c3] at hw
          rw [if_neg c4] at hw
          by_cases d4 : r = wAga
          · rw [if_pos d4] at hw; omega
          rw [if_neg d4] at hw
          omega
theorem C_sw4 (h : CTp M t T E a 0 f) (hw : kst (cR T E a) = 4) : ∃ M1, FX (tD t) M M1 ∧ CTp M1 t T E (sk T E a + (cR T E a).length) 0 f ∧ f_Plan_readStep ρ q t p x M = (if x < nI 6 then f_Plan_readAgain ρ q t p (x + nI 1) M1 else f_Tape_wrong t (nI 3) (nI (sk T E a)) M1) := by
  have hE := h.2.2.1
  have hi := sk_i (T := T) hE.1
  unfold cR at hw ⊢
  obtain ⟨M0, e0, f0, h0⟩ := C_next h
  obtain ⟨M1, f1, q1⟩ := C_word (wd := wWrt) h0 wdn_12
  rw [hi] at q1
  generalize hrr : rl T (E - sk T E a) (sk T E a) = r at hw q1 ⊢
  rcases q1 with ⟨c1, e1, h1⟩ | ⟨c1, e1, h1⟩
  · exfalso
    have ek : kst r = 0 := if_pos c1
    omega
  · skip
    obtain ⟨M2, f2, q2⟩ := C_word (wd := wSlp) h1 wdn_13
    rw [hi] at q2
    rw [hrr] at q2
    rcases q2 with ⟨c2, e2, h2⟩ | ⟨c2, e2, h2⟩
    · exfalso
      have ek : kst r = 1 := (if_neg c1).trans (if_pos c2)
      omega
    · skip
      obtain ⟨M3, f3, q3⟩ := C_word (wd := wRai) h2 wdn_14
      rw [hi] at q3
      rw [hrr] at q3
      rcases q3 with ⟨c3, e3, h3⟩ | ⟨c3, e3, h3⟩
      · exfalso
        have ek : kst r = 2 := (if_neg c1).trans ((if_neg c2).trans (if_pos c3))
        omega
      · skip
        obtain ⟨M4, f4, q4⟩ := C_word (wd := wNig) h3 wdn_15
        rw [hi] at q4
        rw [hrr] at q4
        rcases q4 with ⟨c4, e4, h4⟩ | ⟨c4, e4, h4⟩
        · exfalso
          have ek : kst r = 3 := (if_neg c1).trans ((if_neg c2).trans ((if_neg c3).trans (if_pos c4)))
          omega
        · skip
          obtain ⟨M5, f5, q5⟩ := C_word (wd := wAga) h4 wdn_16
          rw [hi] at q5
          rw [hrr] at q5
          rcases q5 with ⟨c5, e5, h5⟩ | ⟨c5, e5, h5⟩
          · refine ⟨M5, (((((f0).trans f1).trans f2).trans f3).trans f4).trans f5, ?_, ?_⟩
            · rw [c5]; exact h5
            · simp (disch := omega) only [f_Plan_readStep, e0, e1, e2, e3, e4, e5, bV_id, bI_s, bV_s, bL_s, bR_s, bG_s, bG_n, bX_l, bX_r, ck_nI, nI_clamp, nI_leT, nI_leF, nI_ltT, nI_ltF, nI_eqF, nI_add, pk_mul, ofN, bt_e, or0, Nat.zero_add, Nat.add_zero, ↓reduceIte, if_true, if_false, Bool.false_eq_true, eq_self, li0, li1, li2, li3, li4, li5, li6, li7, li8, li9, li10, li11, li12, li14, li15, li16, li18, li19, li20, li23, li24, li25, li26, li27, li30, li31, li32, li36, li40, li41, li42, li43, li44, li45, li47, li48, li57, li59, li60, li91, li93, li96, li97, li100, li105, li122, li150, li200, li255, li400, li500, li600, li999, li1000, li1001, li2000, li2001, li2002, li2003, li2004, li2005, li2006, li32767, li100000, li_neg, li13, li17, li21, li22, li28, li29, li33, li34, li35, li37, li38, li39, li46, li49, li50, li51, li52, li53, li63, li80, li115, li160]
          · exfalso
            unfold kst at hw
            rw [if_neg c1] at hw
            rw [if_neg c2] at hw
            rw [if_neg c3] at hw
            rw [if_neg c4] at hw
            rw [if_neg c5] at hw
            omega
theorem C_sw5 (h : CTp M t T E a 0 f) (hw : kst (cR T E a) = 5) : ∃ M1, FX (tD t) M M1 ∧ CTp M1 t T E (sk T E a) 0 f ∧ f_Plan_readStep ρ q t p x M = f_Tape_wrong t (nI 1) (nI (sk T E a)) M1 := by
  have hE := h.2.2.1
  have hi := sk_i (T := T) hE.1
  unfold cR at hw
  obtain ⟨M0, e0, f0, h0⟩ := C_next h
  obtain ⟨M1, f1, q1⟩ := C_word (wd := wWrt) h0 wdn_12
  rw [hi] at q1
  generalize hrr : rl T (E - sk T E a) (sk T E a) = r at hw q1
  rcases q1 with ⟨c1, e1, h1⟩ | ⟨c1, e1, h1⟩
  · exfalso
    have ek : kst r = 0 := if_pos c1
    omega
  · skip
    obtain ⟨M2, f2, q2⟩ := C_word (wd := wSlp) h1 wdn_13
    rw [hi] at q2
    rw [hrr] at q2
    rcases q2 with ⟨c2, e2, h2⟩ | ⟨c2, e2, h2⟩
    · exfalso
      have ek : kst r = 1 := (if_neg c1).trans (if_pos c2)
      omega
    · skip
      obtain ⟨M3, f3, q3⟩ := C_word (wd := wRai) h2 wdn_14
      rw [hi] at q3
      rw [hrr] at q3
      rcases q3 with ⟨c3, e3, h3⟩ | ⟨c3, e3, h3⟩
      · exfalso
        have ek : kst r = 2 := (if_neg c1).trans ((if_neg c2).trans (if_pos c3))
        omega
      · skip
        obtain ⟨M4, f4, q4⟩ := C_word (wd := wNig) h3 wdn_15
        rw [hi] at q4
        rw [hrr] at q4
        rcases q4 with ⟨c4, e4, h4⟩ | ⟨c4, e4, h4⟩
        · exfalso
          have ek : kst r = 3 := (if_neg c1).trans ((if_neg c2).trans ((if_neg c3).trans (if_pos c4)))
          omega
        · skip
          obtain ⟨M5, f5, q5⟩ := C_word (wd := wAga) h4 wdn_16
          rw [hi] at q5
          rw [hrr] at q5
          rcases q5 with ⟨c5, e5, h5⟩ | ⟨c5, e5, h5⟩
          · exfalso
            have ek : kst r = 4 := (if_neg c1).trans ((if_neg c2).trans ((if_neg c3).trans ((if_neg c4).trans (if_pos c5))))
            omega
          · refine ⟨M5, (((((f0).trans f1).trans f2).trans f3).trans f4).trans f5, h5, ?_⟩
            simp (disch := omega) only [f_Plan_readStep, e0, e1, e2, e3, e4, e5, bV_id, bI_s, bV_s, bL_s, bR_s, bG_s, bG_n, bX_l, bX_r, ck_nI, nI_clamp, nI_leT, nI_leF, nI_ltT, nI_ltF, nI_eqF, nI_add, pk_mul, ofN, bt_e, or0, Nat.zero_add, Nat.add_zero, ↓reduceIte, if_true, if_false, Bool.false_eq_true, eq_self, li0, li1, li2, li3, li4, li5, li6, li7, li8, li9, li10, li11, li12, li14, li15, li16, li18, li19, li20, li23, li24, li25, li26, li27, li30, li31, li32, li36, li40, li41, li42, li43, li44, li45, li47, li48, li57, li59, li60, li91, li93, li96, li97, li100, li105, li122, li150, li200, li255, li400, li500, li600, li999, li1000, li1001, li2000, li2001, li2002, li2003, li2004, li2005, li2006, li32767, li100000, li_neg, li13, li17, li21, li22, li28, li29, li33, li34, li35, li37, li38, li39, li46, li49, li50, li51, li52, li53, li63, li80, li115, li160]
theorem M_step (h : MTp M m T E a 0 f) : ∃ M', f_M_stepHere m M = some (kstI (kst (cR T E a)), M') ∧ FX (uD m) M M' ∧ MTp M' m T E (sk T E a) 0 f := by
  have hE := h.2.2.1
  have hi := sk_i (T := T) hE.1
  unfold cR
  obtain ⟨M1, f1, h1, e1⟩ := M_isWord (wd := wWrt) h w6_write
  obtain ⟨M2, f2, h2, e2⟩ := M_isWord (wd := wSlp) h1 w6_slip
  rw [hi] at h2 e2
  obtain ⟨M3, f3, h3, e3⟩ := M_isWord (wd := wRai) h2 w6_rain
  rw [hi] at h3 e3
  obtain ⟨M4, f4, h4, e4⟩ := M_isWord (wd := wNig) h3 w6_night
  rw [hi] at h4 e4
  obtain ⟨M5, f5, h5, e5⟩ := M_isWord (wd := wAga) h4 w6_again
  rw [hi] at h5 e5
  generalize rl T (E - sk T E a) (sk T E a) = r at e1 e2 e3 e4 e5 ⊢
  by_cases c1 : r = wWrt
  · rw [if_pos c1] at e1
    have ek : kst r = 0 := if_pos c1
    rw [ek]
    refine ⟨M1, ?_, f1, h1⟩
    simp (disch := omega) only [f_M_stepHere, e1, bI_s, bV_s, bL_s, bR_s, bG_s, bG_n, bX_l, bX_r, ck_nI, nI_clamp, nI_leT, nI_leF, nI_ltT, nI_ltF, nI_eqF, nI_add, pk_mul, ofN, bt_e, or0, Nat.zero_add, Nat.add_zero, ↓reduceIte, if_true, if_false, Bool.false_eq_true, eq_self, li0, li1, li2, li3, li4, li5, li6, li7, li8, li9, li10, li11, li12, li14, li15, li16, li18, li19, li20, li23, li24, li25, li26, li27, li30, li31, li32, li36, li40, li41, li42, li43, li44, li45, li47, li48, li57, li59, li60, li91, li93, li96, li97, li100, li105, li122, li150, li200, li255, li400, li500, li600, li999, li1000, li1001, li2000, li2001, li2002, li2003, li2004, li2005, li2006, li32767, li100000, li_neg, li13, li17, li21, li22, li28, li29, li33, li34, li35, li37, li38, li39, li46, li49, li50, li51, li52, li53, li63, li80, li115, li160]; rfl
  · rw [if_neg c1] at e1
    by_cases c2 : r = wSlp
    · rw [if_pos c2] at e2
      have ek : kst r = 1 := (if_neg c1).trans (if_pos c2)
      rw [ek]
      refine ⟨M2, ?_, (f1).trans f2, h2⟩
      simp (disch := omega) only [f_M_stepHere, e1, e2, bI_s, bV_s, bL_s, bR_s, bG_s, bG_n, bX_l, bX_r, ck_nI, nI_clamp, nI_leT, nI_leF, nI_ltT, nI_ltF, nI_eqF, nI_add, pk_mul, ofN, bt_e, or0, Nat.zero_add, Nat.add_zero, ↓reduceIte, if_true, if_false, Bool.false_eq_true, eq_self, li0, li1, li2, li3, li4, li5, li6, li7, li8, li9, li10, li11, li12, li14, li15, li16, li18, li19, li20, li23, li24, li25, li26, li27, li30, li31, li32, li36, li40, li41, li42, li43, li44, li45, li47, li48, li57, li59, li60, li91, li93, li96, li97, li100, li105, li122, li150, li200, li255, li400, li500, li600, li999, li1000, li1001, li2000, li2001, li2002, li2003, li2004, li2005, li2006, li32767, li100000, li_neg, li13, li17, li21, li22, li28, li29, li33, li34, li35, li37, li38, li39, li46, li49, li50, li51, li52, li53, li63, li80, li115, li160]; rfl
    · rw [if_neg c2] at e2
      by_cases c3 : r = wRai
      · rw [if_pos c3] at e3
        have ek : kst r = 2 := (if_neg c1).trans ((if_neg c2).trans (if_pos c3))
        rw [ek]
        refine ⟨M3, ?_, ((f1).trans f2).trans f3, h3⟩
        simp (disch := omega) only [f_M_stepHere, e1, e2, e3, bI_s, bV_s, bL_s, bR_s, bG_s, bG_n, bX_l, bX_r, ck_nI, nI_clamp, nI_leT, nI_leF, nI_ltT, nI_ltF, nI_eqF, nI_add, pk_mul, ofN, bt_e, or0, Nat.zero_add, Nat.add_zero, ↓reduceIte, if_true, if_false, Bool.false_eq_true, eq_self, li0, li1, li2, li3, li4, li5, li6, li7, li8, li9, li10, li11, li12, li14, li15, li16, li18, li19, li20, li23, li24, li25, li26, li27, li30, li31, li32, li36, li40, li41, li42, li43, li44, li45, li47, li48, li57, li59, li60, li91, li93, li96, li97, li100, li105, li122, li150, li200, li255, li400, li500, li600, li999, li1000, li1001, li2000, li2001, li2002, li2003, li2004, li2005, li2006, li32767, li100000, li_neg, li13, li17, li21, li22, li28, li29, li33, li34, li35, li37, li38, li39, li46, li49, li50, li51, li52, li53, li63, li80, li115, li160]; rfl
      · rw [if_neg c3] at e3
        by_cases c4 : r = wNig
        · rw [if_pos c4] at e4
          have ek : kst r = 3 := (if_neg c1).trans ((if_neg c2).trans ((if_neg c3).trans (if_pos c4)))
          rw [ek]
          refine ⟨M4, ?_, (((f1).trans f2).trans f3).trans f4, h4⟩
          simp (disch := omega) only [f_M_stepHere, e1, e2, e3, e4, bI_s, bV_s, bL_s, bR_s, bG_s, bG_n, bX_l, bX_r, ck_nI, nI_clamp, nI_leT, nI_leF, nI_ltT, nI_ltF, nI_eqF, nI_add, pk_mul, ofN, bt_e, or0, Nat.zero_add, Nat.add_zero, ↓reduceIte, if_true, if_false, Bool.false_eq_true, eq_self, li0, li1, li2, li3, li4, li5, li6, li7, li8, li9, li10, li11, li12, li14, li15, li16, li18, li19, li20, li23, li24, li25, li26, li27, li30, li31, li32, li36, li40, li41, li42, li43, li44, li45, li47, li48, li57, li59, li60, li91, li93, li96, li97, li100, li105, li122, li150, li200, li255, li400, li500, li600, li999, li1000, li1001, li2000, li2001, li2002, li2003, li2004, li2005, li2006, li32767, li100000, li_neg, li13, li17, li21, li22, li28, li29, li33, li34, li35, li37, li38, li39, li46, li49, li50, li51, li52, li53, li63, li80, li115, li160]; rfl
        · rw [if_neg c4] at e4
          by_cases c5 : r = wAga
          · rw [if_pos c5] at e5
            have ek : kst r = 4 := (if_neg c1).trans ((if_neg c2).trans ((if_neg c3).trans ((if_neg c4).trans (if_pos c5))))
            rw [ek]
            refine ⟨M5, ?_, ((((f1).trans f2).trans f3).trans f4).trans f5, h5⟩
            simp (disch := omega) only [f_M_stepHere, e1, e2, e3, e4, e5, bI_s, bV_s, bL_s, bR_s, bG_s, bG_n, bX_l, bX_r, ck_nI, nI_clamp, nI_leT, nI_leF, nI_ltT, nI_ltF, nI_eqF, nI_add, pk_mul, ofN, bt_e, or0, Nat.zero_add, Nat.add_zero, ↓reduceIte, if_true, if_false, Bool.false_eq_true, eq_self, li0, li1, li2, li3, li4, li5, li6, li7, li8, li9, li10, li11, li12, li14, li15, li16, li18, li19, li20, li23, li24, li25, li26, li27, li30, li31, li32, li36, li40, li41, li42, li43, li44, li45, li47, li48, li57, li59, li60, li91, li93, li96, li97, li100, li105, li122, li150, li200, li255, li400, li500, li600, li999, li1000, li1001, li2000, li2001, li2002, li2003, li2004, li2005, li2006, li32767, li100000, li_neg, li13, li17, li21, li22, li28, li29, li33, li34, li35, li37, li38, li39, li46, li49, li50, li51, li52, li53, li63, li80, li115, li160]; rfl
          · rw [if_neg c5] at e5
            have ek : kst r = 5 := (if_neg c1).trans ((if_neg c2).trans ((if_neg c3).trans ((if_neg c4).trans (if_neg c5))))
            rw [ek]
            refine ⟨M5, ?_, ((((f1).trans f2).trans f3).trans f4).trans f5, h5⟩
            simp (disch := omega) only [f_M_stepHere, e1, e2, e3, e4, e5, bI_s, bV_s, bL_s, bR_s, bG_s, bG_n, bX_l, bX_r, ck_nI, nI_clamp, nI_leT, nI_leF, nI_ltT, nI_ltF, nI_eqF, nI_add, pk_mul, ofN, bt_e, or0, Nat.zero_add, Nat.add_zero, ↓reduceIte, if_true, if_false, Bool.false_eq_true, eq_self, li0, li1, li2, li3, li4, li5, li6, li7, li8, li9, li10, li11, li12, li14, li15, li16, li18, li19, li20, li23, li24, li25, li26, li27, li30, li31, li32, li36, li40, li41, li42, li43, li44, li45, li47, li48, li57, li59, li60, li91, li93, li96, li97, li100, li105, li122, li150, li200, li255, li400, li500, li600, li999, li1000, li1001, li2000, li2001, li2002, li2003, li2004, li2005, li2006, li32767, li100000, li_neg, li13, li17, li21, li22, li28, li29, li33, li34, li35, li37, li38, li39, li46, li49, li50, li51, li52, li53, li63, li80, li115, li160]; rfl
theorem C_swF (h : CTp M t T E a k f) (hk : k ≠ 0) : ∃ M1, FX (tD t) M M1 ∧ (∃ a', CTp M1 t T E a' k f) ∧ f_Plan_readStep ρ q t p x M = some M1 := by
  obtain ⟨M1, e1, f1, h1⟩ := C_next h
  have e : ∀ n, f_Tape_takesWord t n M1 = some (nI 0, M1) := fun n => C_wordF h1 hk
  have g4 := h1.1.2.2.1
  have hk3 := h1.2.2.1
  refine ⟨M1, f1, ⟨_, h1⟩, ?_⟩
  simp (disch := omega) only [f_Plan_readStep, f_Tape_wrong, e1, e, g4, bI_s, bV_s, bL_s, bR_s, bG_s, bG_n, bX_l, bX_r, ck_nI, nI_clamp, nI_leT, nI_leF, nI_ltT, nI_ltF, nI_eqF, nI_add, pk_mul, ofN, bt_e, or0, Nat.zero_add, Nat.add_zero, ↓reduceIte, if_true, if_false, Bool.false_eq_true, eq_self, li0, li1, li2, li3, li4, li5, li6, li7, li8, li9, li10, li11, li12, li14, li15, li16, li18, li19, li20, li23, li24, li25, li26, li27, li30, li31, li32, li36, li40, li41, li42, li43, li44, li45, li47, li48, li57, li59, li60, li91, li93, li96, li97, li100, li105, li122, li150, li200, li255, li400, li500, li600, li999, li1000, li1001, li2000, li2001, li2002, li2003, li2004, li2005, li2006, li32767, li100000, li_neg, li13, li17, li21, li22, li28, li29, li33, li34, li35, li37, li38, li39, li46, li49, li50, li51, li52, li53, li63, li80, li115, li160]
end
