/-! # functional level, 46: the model takes a word -/
section
variable {M M' M1 M2 N : Mm} {t m E a k f n s : Nat} {T : Nat → Nat} {wd : List Nat} {p0 p1 p2 p3 p4 p5 : Int32}
theorem M_smT {x : Nat} (h : isSm x = true) : f_M_isSmall (nI x) M = some (nI 1, M) := C_smT h
theorem M_smF {x : Nat} (h : ¬ isSm x = true) (hx : x < 256) : f_M_isSmall (nI x) M = some (nI 0, M) := C_smF h hx
theorem M_smE : f_M_isSmall (nI 4294967295) M = some (nI 0, M) := by
  unfold f_M_isSmall; rw [if_pos (show nI 4294967295 < (97 : Int32) by decide)]; rfl
theorem M_wb (h : MTp M m T E s k f) : ∀ d i u x, s + i + d = E → d < u → f_M_wordHere_b u m (nI x) (nI i) M = some ((if i + (rl T d (s + i)).length ≤ 6 then nI (wcd x (rl T d (s + i))) else nI 4294967295), M) := by
  intro d
  have hE := h.2.2.1
  have e2 := h.1.2.1
  induction d with
  | zero =>
    intro i u x hb hu
    obtain ⟨u, rfl⟩ : ∃ v, u = v + 1 := ⟨u - 1, by omega⟩
    have e3 := M_atE h (show E ≤ s + i by omega) (by omega)
    have e5 : i + (rl T 0 (s + i)).length = i := rfl
    have e6 : wcd x (rl T 0 (s + i)) = x := rfl
    rw [e5, e6]
    by_cases c : i ≤ 6
    · rw [if_pos c]; simp (disch := omega) only [f_M_wordHere_b, e2, e3, M_smE, bI_s, bV_s, bL_s, bR_s, bG_s, bG_n, bX_l, bX_r, ck_nI, nI_clamp, nI_leT, nI_leF, nI_ltT, nI_ltF, nI_eqF, nI_add, pk_mul, ofN, bt_e, or0, Nat.zero_add, Nat.add_zero, ↓reduceIte, if_true, if_false, Bool.false_eq_true, eq_self, li0, li1, li2, li3, li4, li5, li6, li7, li8, li9, li10, li11, li12, li14, li15, li16, li18, li19, li20, li23, li24, li25, li26, li27, li30, li31, li32, li36, li40, li41, li42, li43, li44, li45, li47, li48, li57, li59, li60, li91, li93, li96, li97, li100, li105, li122, li150, li200, li255, li400, li500, li600, li999, li1000, li1001, li2000, li2001, li2002, li2003, li2004, li2005, li2006, li32767, li100000, li_neg, li13, li17, li21, li22, li28, li29, li33, li34, li35, li37, li38, li39, li46, li49, li50, li51, li52, li53, li63, li80, li115, li160]
    · rw [if_neg c]; simp (disch := omega) only [f_M_wordHere_b, e2, e3, M_smE, bI_s, bV_s, bL_s, bR_s, bG_s, bG_n, bX_l, bX_r, ck_nI, nI_clamp, nI_leT, nI_leF, nI_ltT, nI_ltF, nI_eqF, nI_add, pk_mul, ofN, bt_e, or0, Nat.zero_add, Nat.add_zero, ↓reduceIte, if_true, if_false, Bool.false_eq_true, eq_self, li0, li1, li2, li3, li4, li5, li6, li7, li8, li9, li10, li11, li12, li14, li15, li16, li18, li19, li20, li23, li24, li25, li26, li27, li30, li31, li32, li36, li40, li41, li42, li43, li44, li45, li47, li48, li57, li59, li60, li91, li93, li96, li97, li100, li105, li122, li150, li200, li255, li400, li500, li600, li999, li1000, li1001, li2000, li2001, li2002, li2003, li2004, li2005, li2006, li32767, li100000, li_neg, li13, li17, li21, li22, li28, li29, li33, li34, li35, li37, li38, li39, li46, li49, li50, li51, li52, li53, li63, li80, li115, li160]
  | succ d ih =>
    intro i u x hb hu
    obtain ⟨u, rfl⟩ : ∃ v, u = v + 1 := ⟨u - 1, by omega⟩
    have e3 := M_at h (show s + i < E by omega)
    have e4 := h.2.2.2 (s + i) (by omega)
    by_cases c : isSm (T (s + i)) = true
    · have c2 := isSm_t.mp c
      have e5 : rl T (d + 1) (s + i) = T (s + i) :: rl T d (s + (i + 1)) := if_pos c
      have e6 : i + (rl T (d + 1) (s + i)).length = i + 1 + (rl T d (s + (i + 1))).length := by rw [e5]; show i + ((rl T d (s + (i + 1))).length + 1) = _; omega
      have e7 : wcd x (rl T (d + 1) (s + i)) = wcd (27 * x + (T (s + i) - 96)) (rl T d (s + (i + 1))) := by rw [e5]; rfl
      by_cases c3 : 6 ≤ i
      · rw [if_neg (by omega)]
        have q := ih (i + 1) u x (by omega) (by omega)
        rw [if_neg (by omega)] at q
        rw [← q]
        simp (disch := omega) only [f_M_wordHere_b, e2, e3, M_smT c, bI_s, bV_s, bL_s, bR_s, bG_s, bG_n, bX_l, bX_r, ck_nI, nI_clamp, nI_leT, nI_leF, nI_ltT, nI_ltF, nI_eqF, nI_add, pk_mul, ofN, bt_e, or0, Nat.zero_add, Nat.add_zero, ↓reduceIte, if_true, if_false, Bool.false_eq_true, eq_self, li0, li1, li2, li3, li4, li5, li6, li7, li8, li9, li10, li11, li12, li14, li15, li16, li18, li19, li20, li23, li24, li25, li26, li27, li30, li31, li32, li36, li40, li41, li42, li43, li44, li45, li47, li48, li57, li59, li60, li91, li93, li96, li97, li100, li105, li122, li150, li200, li255, li400, li500, li600, li999, li1000, li1001, li2000, li2001, li2002, li2003, li2004, li2005, li2006, li32767, li100000, li_neg, li13, li17, li21, li22, li28, li29, li33, li34, li35, li37, li38, li39, li46, li49, li50, li51, li52, li53, li63, li80, li115, li160]
      · rw [e6, e7, ← ih (i + 1) u (27 * x + (T (s + i) - 96)) (by omega) (by omega)]
        have z : nI (27 * x + T (s + i)) - nI 97 = nI (27 * x + T (s + i) - 97) := pk_sub (by omega)
        have z2 : 27 * x + T (s + i) - 97 + 1 = 27 * x + (T (s + i) - 96) := by omega
        simp (disch := omega) only [f_M_wordHere_b, e2, e3, M_smT c, z, z2, bI_s, bV_s, bL_s, bR_s, bG_s, bG_n, bX_l, bX_r, ck_nI, nI_clamp, nI_leT, nI_leF, nI_ltT, nI_ltF, nI_eqF, nI_add, pk_mul, ofN, bt_e, or0, Nat.zero_add, Nat.add_zero, ↓reduceIte, if_true, if_false, Bool.false_eq_true, eq_self, li0, li1, li2, li3, li4, li5, li6, li7, li8, li9, li10, li11, li12, li14, li15, li16, li18, li19, li20, li23, li24, li25, li26, li27, li30, li31, li32, li36, li40, li41, li42, li43, li44, li45, li47, li48, li57, li59, li60, li91, li93, li96, li97, li100, li105, li122, li150, li200, li255, li400, li500, li600, li999, li1000, li1001, li2000, li2001, li2002, li2003, li2004, li2005, li2006, li32767, li100000, li_neg, li13, li17, li21, li22, li28, li29, li33, li34, li35, li37, li38, li39, li46, li49, li50, li51, li52, li53, li63, li80, li115, li160]
    · have e5 : rl T (d + 1) (s + i) = [] := if_neg c
      rw [e5]
      by_cases c3 : i ≤ 6
      · rw [if_pos (show i + ([] : List Nat).length ≤ 6 from c3), show wcd x ([] : List Nat) = x from rfl]; simp (disch := omega) only [f_M_wordHere_b, e2, e3, M_smF c e4, bI_s, bV_s, bL_s, bR_s, bG_s, bG_n, bX_l, bX_r, ck_nI, nI_clamp, nI_leT, nI_leF, nI_ltT, nI_ltF, nI_eqF, nI_add, pk_mul, ofN, bt_e, or0, Nat.zero_add, Nat.add_zero, ↓reduceIte, if_true, if_false, Bool.false_eq_true, eq_self, li0, li1, li2, li3, li4, li5, li6, li7, li8, li9, li10, li11, li12, li14, li15, li16, li18, li19, li20, li23, li24, li25, li26, li27, li30, li31, li32, li36, li40, li41, li42, li43, li44, li45, li47, li48, li57, li59, li60, li91, li93, li96, li97, li100, li105, li122, li150, li200, li255, li400, li500, li600, li999, li1000, li1001, li2000, li2001, li2002, li2003, li2004, li2005, li2006, li32767, li100000, li_neg, li13, li17, li21, li22, li28, li29, li33, li34, li35, li37, li38, li39, li46, li49, li50, li51, li52, li53, li63, li80, li115, li160]
      · rw [if_neg (show ¬ i + ([] : List Nat).length ≤ 6 from c3)]; simp (disch := omega) only [f_M_wordHere_b, e2, e3, M_smF c e4, bI_s, bV_s, bL_s, bR_s, bG_s, bG_n, bX_l, bX_r, ck_nI, nI_clamp, nI_leT, nI_leF, nI_ltT, nI_ltF, nI_eqF, nI_add, pk_mul, ofN, bt_e, or0, Nat.zero_add, Nat.add_zero, ↓reduceIte, if_true, if_false, Bool.false_eq_true, eq_self, li0, li1, li2, li3, li4, li5, li6, li7, li8, li9, li10, li11, li12, li14, li15, li16, li18, li19, li20, li23, li24, li25, li26, li27, li30, li31, li32, li36, li40, li41, li42, li43, li44, li45, li47, li48, li57, li59, li60, li91, li93, li96, li97, li100, li105, li122, li150, li200, li255, li400, li500, li600, li999, li1000, li1001, li2000, li2001, li2002, li2003, li2004, li2005, li2006, li32767, li100000, li_neg, li13, li17, li21, li22, li28, li29, li33, li34, li35, li37, li38, li39, li46, li49, li50, li51, li52, li53, li63, li80, li115, li160]
theorem wcd_6 {l : List Nat} (h : ∀ c, c ∈ l → 97 ≤ c ∧ c ≤ 122) (hl : l.length ≤ 6) : wcd 0 l < 387420489 := by
  have := wcd_lt l 0 h
  have q : 27 ^ l.length ≤ 27 ^ 6 := Nat.pow_le_pow_right (by omega) hl
  have z : (27 : Nat) ^ 6 = 387420489 := by decide
  omega
def isW6 (wd : List Nat) (p0 p1 p2 p3 p4 p5 : Int32) : Prop := (∀ N, f_M_six p0 p1 p2 p3 p4 p5 N = some (nI (wcd 0 wd), N)) ∧ (∀ c, c ∈ wd → 97 ≤ c ∧ c ≤ 122) ∧ 1 ≤ wd.length ∧ wd.length ≤ 6
theorem M_isWord (h : MTp M m T E a 0 f) (hw : isW6 wd p0 p1 p2 p3 p4 p5) : ∃ M', FX (uD m) M M' ∧ MTp M' m T E (sk T E a) 0 f ∧ f_M_isWord m p0 p1 p2 p3 p4 p5 M = some (nI (if rl T (E - sk T E a) (sk T E a) = wd then 1 else 0), M') := by
  have hE := h.2.2.1
  have hk := h.1.2.2.1
  obtain ⟨M1, e1, f1, h1⟩ := M_blanks h
  have hs := sk_b (T := T) hE.1
  refine ⟨M1, f1, h1, ?_⟩
  have e6 := hw.1
  generalize sk T E a = s at h1 hs ⊢
  have eb := M_wb h1 (E - s) 0 FU 0 (by omega) (FU_lt (by omega))
  rw [Nat.zero_add, Nat.add_zero] at eb
  have hsm := rl_sm (T := T) (E - s) s
  have ew : f_M_wordHere m M = some ((if (rl T (E - s) s).length ≤ 6 then nI (wcd 0 (rl T (E - s) s)) else nI 4294967295), M1) := by
    show bV (f_M_blanks m M) _ = _
    rw [e1, bV_s]; exact eb
  have b2 := wcd_6 hw.2.1 hw.2.2.2
  by_cases c : rl T (E - s) s = wd
  · rw [if_pos c]
    rw [c, if_pos hw.2.2.2] at ew
    simp (disch := omega) only [f_M_isWord, hk, ew, e6, bI_s, bV_s, bL_s, bR_s, bG_s, bG_n, bX_l, bX_r, ck_nI, nI_clamp, nI_leT, nI_leF, nI_ltT, nI_ltF, nI_eqF, nI_add, pk_mul, ofN, bt_e, or0, Nat.zero_add, Nat.add_zero, ↓reduceIte, if_true, if_false, Bool.false_eq_true, eq_self, li0, li1, li2, li3, li4, li5, li6, li7, li8, li9, li10, li11, li12, li14, li15, li16, li18, li19, li20, li23, li24, li25, li26, li27, li30, li31, li32, li36, li40, li41, li42, li43, li44, li45, li47, li48, li57, li59, li60, li91, li93, li96, li97, li100, li105, li122, li150, li200, li255, li400, li500, li600, li999, li1000, li1001, li2000, li2001, li2002, li2003, li2004, li2005, li2006, li32767, li100000, li_neg, li13, li17, li21, li22, li28, li29, li33, li34, li35, li37, li38, li39, li46, li49, li50, li51, li52, li53, li63, li80, li115, li160]
  · rw [if_neg c]
    by_cases c2 : (rl T (E - s) s).length ≤ 6
    · rw [if_pos c2] at ew
      have b1 := wcd_6 hsm c2
      have c3 : wcd 0 (rl T (E - s) s) ≠ wcd 0 wd := fun z => c (wcd_eq hsm hw.2.1 z)
      simp (disch := omega) only [f_M_isWord, hk, ew, e6, nI_eqF c3, bI_s, bV_s, bL_s, bR_s, bG_s, bG_n, bX_l, bX_r, ck_nI, nI_clamp, nI_leT, nI_leF, nI_ltT, nI_ltF, nI_eqF, nI_add, pk_mul, ofN, bt_e, or0, Nat.zero_add, Nat.add_zero, ↓reduceIte, if_true, if_false, Bool.false_eq_true, eq_self, li0, li1, li2, li3, li4, li5, li6, li7, li8, li9, li10, li11, li12, li14, li15, li16, li18, li19, li20, li23, li24, li25, li26, li27, li30, li31, li32, li36, li40, li41, li42, li43, li44, li45, li47, li48, li57, li59, li60, li91, li93, li96, li97, li100, li105, li122, li150, li200, li255, li400, li500, li600, li999, li1000, li1001, li2000, li2001, li2002, li2003, li2004, li2005, li2006, li32767, li100000, li_neg, li13, li17, li21, li22, li28, li29, li33, li34, li35, li37, li38, li39, li46, li49, li50, li51, li52, li53, li63, li80, li115, li160]
    · rw [if_neg c2] at ew
      have c3 : 4294967295 ≠ wcd 0 wd := by omega
      simp (disch := omega) only [f_M_isWord, hk, ew, e6, nI_eqF c3, bI_s, bV_s, bL_s, bR_s, bG_s, bG_n, bX_l, bX_r, ck_nI, nI_clamp, nI_leT, nI_leF, nI_ltT, nI_ltF, nI_eqF, nI_add, pk_mul, ofN, bt_e, or0, Nat.zero_add, Nat.add_zero, ↓reduceIte, if_true, if_false, Bool.false_eq_true, eq_self, li0, li1, li2, li3, li4, li5, li6, li7, li8, li9, li10, li11, li12, li14, li15, li16, li18, li19, li20, li23, li24, li25, li26, li27, li30, li31, li32, li36, li40, li41, li42, li43, li44, li45, li47, li48, li57, li59, li60, li91, li93, li96, li97, li100, li105, li122, li150, li200, li255, li400, li500, li600, li999, li1000, li1001, li2000, li2001, li2002, li2003, li2004, li2005, li2006, li32767, li100000, li_neg, li13, li17, li21, li22, li28, li29, li33, li34, li35, li37, li38, li39, li46, li49, li50, li51, li52, li53, li63, li80, li115, li160]
theorem M_isWordF (h : MTp M m T E a k f) (hk : k ≠ 0) : f_M_isWord m p0 p1 p2 p3 p4 p5 M = some (nI 0, M) := by
  have hE := h.2.2.1
  have e := h.1.2.2.1
  simp (disch := omega) only [f_M_isWord, e, bI_s, bV_s, bL_s, bR_s, bG_s, bG_n, bX_l, bX_r, ck_nI, nI_clamp, nI_leT, nI_leF, nI_ltT, nI_ltF, nI_eqF, nI_add, pk_mul, ofN, bt_e, or0, Nat.zero_add, Nat.add_zero, ↓reduceIte, if_true, if_false, Bool.false_eq_true, eq_self, li0, li1, li2, li3, li4, li5, li6, li7, li8, li9, li10, li11, li12, li14, li15, li16, li18, li19, li20, li23, li24, li25, li26, li27, li30, li31, li32, li36, li40, li41, li42, li43, li44, li45, li47, li48, li57, li59, li60, li91, li93, li96, li97, li100, li105, li122, li150, li200, li255, li400, li500, li600, li999, li1000, li1001, li2000, li2001, li2002, li2003, li2004, li2005, li2006, li32767, li100000, li_neg, li13, li17, li21, li22, li28, li29, li33, li34, li35, li37, li38, li39, li46, li49, li50, li51, li52, li53, li63, li80, li115, li160]
theorem M_skip (h : MTp M m T E s k f) : ∃ M', f_M_skipWord m M = some M' ∧ FX (uD m) M M' ∧ MTp M' m T E (s + (rl T (E - s) s).length) k f := by
  have key : ∀ d b u M, b + d = E → d < u → MTp M m T E b k f → ∃ M', f_M_skipWord_a u m M = some M' ∧ FX (uD m) M M' ∧ MTp M' m T E (b + (rl T d b).length) k f := by
    intro d
    induction d with
    | zero =>
      intro b u M hb hu h
      obtain ⟨u, rfl⟩ : ∃ v, u = v + 1 := ⟨u - 1, by omega⟩
      have hE := h.2.2.1
      have e2 := h.1.2.1
      have e3 := M_atE h (show E ≤ b by omega) (by omega)
      refine ⟨M, ?_, FX.rf _ M, h⟩
      simp (disch := omega) only [f_M_skipWord_a, e2, e3, M_smE, bI_s, bV_s, bL_s, bR_s, bG_s, bG_n, bX_l, bX_r, ck_nI, nI_clamp, nI_leT, nI_leF, nI_ltT, nI_ltF, nI_eqF, nI_add, pk_mul, ofN, bt_e, or0, Nat.zero_add, Nat.add_zero, ↓reduceIte, if_true, if_false, Bool.false_eq_true, eq_self, li0, li1, li2, li3, li4, li5, li6, li7, li8, li9, li10, li11, li12, li14, li15, li16, li18, li19, li20, li23, li24, li25, li26, li27, li30, li31, li32, li36, li40, li41, li42, li43, li44, li45, li47, li48, li57, li59, li60, li91, li93, li96, li97, li100, li105, li122, li150, li200, li255, li400, li500, li600, li999, li1000, li1001, li2000, li2001, li2002, li2003, li2004, li2005, li2006, li32767, li100000, li_neg, li13, li17, li21, li22, li28, li29, li33, li34, li35, li37, li38, li39, li46, li49, li50, li51, li52, li53, li63, li80, li115, li160]
    | succ d ih =>
      intro b u M hb hu h
      obtain ⟨u, rfl⟩ : ∃ v, u = v + 1 := ⟨u - 1, by omega⟩
      have hE := h.2.2.1
      have e2 := h.1.2.1
      have e3 := M_at h (show b < E by omega)
      have e4 := h.2.2.2 b (by omega)
      by_cases c : isSm (T b) = true
      · have e5 : rl T (d + 1) b = T b :: rl T d (b + 1) := if_pos c
        have e6 : b + (rl T (d + 1) b).length = b + 1 + (rl T d (b + 1)).length := by rw [e5]; show b + ((rl T d (b + 1)).length + 1) = _; omega
        obtain ⟨M', n1, n2, n3⟩ := ih (b + 1) u (sI M m 4 (nI (b + 1))) (by omega) (by omega) (h.at (by omega))
        rw [e6]
        refine ⟨M', ?_, ((FX.rf _ M).sI (by unfold uD; omega)).trans n2, n3⟩
        simp (disch := omega) only [f_M_skipWord_a, e2, e3, M_smT c, n1, bI_s, bV_s, bL_s, bR_s, bG_s, bG_n, bX_l, bX_r, ck_nI, nI_clamp, nI_leT, nI_leF, nI_ltT, nI_ltF, nI_eqF, nI_add, pk_mul, ofN, bt_e, or0, Nat.zero_add, Nat.add_zero, ↓reduceIte, if_true, if_false, Bool.false_eq_true, eq_self, li0, li1, li2, li3, li4, li5, li6, li7, li8, li9, li10, li11, li12, li14, li15, li16, li18, li19, li20, li23, li24, li25, li26, li27, li30, li31, li32, li36, li40, li41, li42, li43, li44, li45, li47, li48, li57, li59, li60, li91, li93, li96, li97, li100, li105, li122, li150, li200, li255, li400, li500, li600, li999, li1000, li1001, li2000, li2001, li2002, li2003, li2004, li2005, li2006, li32767, li100000, li_neg, li13, li17, li21, li22, li28, li29, li33, li34, li35, li37, li38, li39, li46, li49, li50, li51, li52, li53, li63, li80, li115, li160]
      · have e5 : rl T (d + 1) b = [] := if_neg c
        rw [e5]
        refine ⟨M, ?_, FX.rf _ M, h⟩
        simp (disch := omega) only [f_M_skipWord_a, e2, e3, M_smF c e4, bI_s, bV_s, bL_s, bR_s, bG_s, bG_n, bX_l, bX_r, ck_nI, nI_clamp, nI_leT, nI_leF, nI_ltT, nI_ltF, nI_eqF, nI_add, pk_mul, ofN, bt_e, or0, Nat.zero_add, Nat.add_zero, ↓reduceIte, if_true, if_false, Bool.false_eq_true, eq_self, li0, li1, li2, li3, li4, li5, li6, li7, li8, li9, li10, li11, li12, li14, li15, li16, li18, li19, li20, li23, li24, li25, li26, li27, li30, li31, li32, li36, li40, li41, li42, li43, li44, li45, li47, li48, li57, li59, li60, li91, li93, li96, li97, li100, li105, li122, li150, li200, li255, li400, li500, li600, li999, li1000, li1001, li2000, li2001, li2002, li2003, li2004, li2005, li2006, li32767, li100000, li_neg, li13, li17, li21, li22, li28, li29, li33, li34, li35, li37, li38, li39, li46, li49, li50, li51, li52, li53, li63, li80, li115, li160]
  have hE := h.2.2.1
  exact key (E - s) s FU M (by omega) (FU_lt (by omega)) h
theorem M_takes (h : MTp M m T E a 0 f) (hw : isW6 wd p0 p1 p2 p3 p4 p5) : ∃ M', FX (uD m) M M' ∧ ((rl T (E - sk T E a) (sk T E a) = wd ∧ f_M_takes m p0 p1 p2 p3 p4 p5 M = some (nI 1, M') ∧ MTp M' m T E (sk T E a + wd.length) 0 f) ∨ (rl T (E - sk T E a) (sk T E a) ≠ wd ∧ f_M_takes m p0 p1 p2 p3 p4 p5 M = some (nI 0, M') ∧ MTp M' m T E (sk T E a) 0 f)) := by
  obtain ⟨M1, f1, h1, e1⟩ := M_isWord h hw
  by_cases c : rl T (E - sk T E a) (sk T E a) = wd
  · rw [if_pos c] at e1
    obtain ⟨M2, e2, f2, h2⟩ := M_skip h1
    rw [c] at h2
    refine ⟨M2, f1.trans f2, Or.inl ⟨c, ?_, h2⟩⟩
    simp (disch := omega) only [f_M_takes, e1, e2, bI_s, bV_s, bL_s, bR_s, bG_s, bG_n, bX_l, bX_r, ck_nI, nI_clamp, nI_leT, nI_leF, nI_ltT, nI_ltF, nI_eqF, nI_add, pk_mul, ofN, bt_e, or0, Nat.zero_add, Nat.add_zero, ↓reduceIte, if_true, if_false, Bool.false_eq_true, eq_self, li0, li1, li2, li3, li4, li5, li6, li7, li8, li9, li10, li11, li12, li14, li15, li16, li18, li19, li20, li23, li24, li25, li26, li27, li30, li31, li32, li36, li40, li41, li42, li43, li44, li45, li47, li48, li57, li59, li60, li91, li93, li96, li97, li100, li105, li122, li150, li200, li255, li400, li500, li600, li999, li1000, li1001, li2000, li2001, li2002, li2003, li2004, li2005, li2006, li32767, li100000, li_neg, li13, li17, li21, li22, li28, li29, li33, li34, li35, li37, li38, li39, li46, li49, li50, li51, li52, li53, li63, li80, li115, li160]
  · rw [if_neg c] at e1
    refine ⟨M1, f1, Or.inr ⟨c, ?_, h1⟩⟩
    simp (disch := omega) only [f_M_takes, e1, bI_s, bV_s, bL_s, bR_s, bG_s, bG_n, bX_l, bX_r, ck_nI, nI_clamp, nI_leT, nI_leF, nI_ltT, nI_ltF, nI_eqF, nI_add, pk_mul, ofN, bt_e, or0, Nat.zero_add, Nat.add_zero, ↓reduceIte, if_true, if_false, Bool.false_eq_true, eq_self, li0, li1, li2, li3, li4, li5, li6, li7, li8, li9, li10, li11, li12, li14, li15, li16, li18, li19, li20, li23, li24, li25, li26, li27, li30, li31, li32, li36, li40, li41, li42, li43, li44, li45, li47, li48, li57, li59, li60, li91, li93, li96, li97, li100, li105, li122, li150, li200, li255, li400, li500, li600, li999, li1000, li1001, li2000, li2001, li2002, li2003, li2004, li2005, li2006, li32767, li100000, li_neg, li13, li17, li21, li22, li28, li29, li33, li34, li35, li37, li38, li39, li46, li49, li50, li51, li52, li53, li63, li80, li115, li160]
theorem M_takesF (h : MTp M m T E a k f) (hk : k ≠ 0) : f_M_takes m p0 p1 p2 p3 p4 p5 M = some (nI 0, M) := by
  have e := M_isWordF (p0 := p0) (p1 := p1) (p2 := p2) (p3 := p3) (p4 := p4) (p5 := p5) h hk
  simp (disch := omega) only [f_M_takes, e, bI_s, bV_s, bL_s, bR_s, bG_s, bG_n, bX_l, bX_r, ck_nI, nI_clamp, nI_leT, nI_leF, nI_ltT, nI_ltF, nI_eqF, nI_add, pk_mul, ofN, bt_e, or0, Nat.zero_add, Nat.add_zero, ↓reduceIte, if_true, if_false, Bool.false_eq_true, eq_self, li0, li1, li2, li3, li4, li5, li6, li7, li8, li9, li10, li11, li12, li14, li15, li16, li18, li19, li20, li23, li24, li25, li26, li27, li30, li31, li32, li36, li40, li41, li42, li43, li44, li45, li47, li48, li57, li59, li60, li91, li93, li96, li97, li100, li105, li122, li150, li200, li255, li400, li500, li600, li999, li1000, li1001, li2000, li2001, li2002, li2003, li2004, li2005, li2006, li32767, li100000, li_neg, li13, li17, li21, li22, li28, li29, li33, li34, li35, li37, li38, li39, li46, li49, li50, li51, li52, li53, li63, li80, li115, li160]
/-! the words -/
theorem w6_row : isW6 [114, 111, 119] (nI 18) (nI 15) (nI 23) (nI 0) (nI 0) (nI 0) := ⟨fun N => by unfold f_M_six f_M_six_b f_M_six_c; rfl, by decide, by decide, by decide⟩
end
