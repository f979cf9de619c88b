/-! # functional level, 45: the class takes a word -/
section
variable {M M' M1 M2 N : Mm} {t m E a k f n s : Nat} {T : Nat → Nat} {wd : List Nat}
theorem gd_map (wd : List Nat) (i : Nat) : (wd.map nI).getD i 0 = nI (wd.getD i 0) := by
  rw [List.getD_eq_getElem?_getD, List.getD_eq_getElem?_getD, List.getElem?_map]
  cases wd[i]? <;> rfl
def isWd (n : Nat) (wd : List Nat) : Prop := (n < 100 ∧ txB n = wd.map nI) ∧ (∀ c, c ∈ wd → 97 ≤ c ∧ c ≤ 122) ∧ 1 ≤ wd.length ∧ wd.length ≤ 7
theorem C_smT {x : Nat} (h : isSm x = true) : f_Tape_isSmallLetter (nI x) M = some (nI 1, M) := by
  have := isSm_t.mp h
  simp (disch := omega) only [f_Tape_isSmallLetter, bI_s, bV_s, bL_s, bR_s, bG_s, bG_n, bX_l, bX_r, ck_nI, nI_clamp, nI_leT, nI_leF, nI_ltT, nI_ltF, nI_eqF, nI_add, pk_mul, ofN, bt_e, or0, Nat.zero_add, Nat.add_zero, ↓reduceIte, if_true, if_false, Bool.false_eq_true, eq_self, li0, li1, li2, li3, li4, li5, li6, li7, li8, li9, li10, li11, li12, li14, li15, li16, li18, li19, li20, li23, li24, li25, li26, li27, li30, li31, li32, li36, li40, li41, li42, li43, li44, li45, li47, li48, li57, li59, li60, li91, li93, li96, li97, li100, li105, li122, li150, li200, li255, li400, li500, li600, li999, li1000, li1001, li2000, li2001, li2002, li2003, li2004, li2005, li2006, li32767, li100000, li_neg, li13, li17, li21, li22, li28, li29, li33, li34, li35, li37, li38, li39, li46, li49, li50, li51, li52, li53, li63, li80, li115, li160]
theorem C_smF {x : Nat} (h : ¬ isSm x = true) (hx : x < 256) : f_Tape_isSmallLetter (nI x) M = some (nI 0, M) := by
  by_cases q : x < 97
  · simp (disch := omega) only [f_Tape_isSmallLetter, bI_s, bV_s, bL_s, bR_s, bG_s, bG_n, bX_l, bX_r, ck_nI, nI_clamp, nI_leT, nI_leF, nI_ltT, nI_ltF, nI_eqF, nI_add, pk_mul, ofN, bt_e, or0, Nat.zero_add, Nat.add_zero, ↓reduceIte, if_true, if_false, Bool.false_eq_true, eq_self, li0, li1, li2, li3, li4, li5, li6, li7, li8, li9, li10, li11, li12, li14, li15, li16, li18, li19, li20, li23, li24, li25, li26, li27, li30, li31, li32, li36, li40, li41, li42, li43, li44, li45, li47, li48, li57, li59, li60, li91, li93, li96, li97, li100, li105, li122, li150, li200, li255, li400, li500, li600, li999, li1000, li1001, li2000, li2001, li2002, li2003, li2004, li2005, li2006, li32767, li100000, li_neg, li13, li17, li21, li22, li28, li29, li33, li34, li35, li37, li38, li39, li46, li49, li50, li51, li52, li53, li63, li80, li115, li160]
  · have : 122 < x := by
      rcases Nat.lt_or_ge 122 x with q2 | q2
      · exact q2
      · exact absurd (isSm_t.mpr ⟨by omega, q2⟩) h
    simp (disch := omega) only [f_Tape_isSmallLetter, bI_s, bV_s, bL_s, bR_s, bG_s, bG_n, bX_l, bX_r, ck_nI, nI_clamp, nI_leT, nI_leF, nI_ltT, nI_ltF, nI_eqF, nI_add, pk_mul, ofN, bt_e, or0, Nat.zero_add, Nat.add_zero, ↓reduceIte, if_true, if_false, Bool.false_eq_true, eq_self, li0, li1, li2, li3, li4, li5, li6, li7, li8, li9, li10, li11, li12, li14, li15, li16, li18, li19, li20, li23, li24, li25, li26, li27, li30, li31, li32, li36, li40, li41, li42, li43, li44, li45, li47, li48, li57, li59, li60, li91, li93, li96, li97, li100, li105, li122, li150, li200, li255, li400, li500, li600, li999, li1000, li1001, li2000, li2001, li2002, li2003, li2004, li2005, li2006, li32767, li100000, li_neg, li13, li17, li21, li22, li28, li29, li33, li34, li35, li37, li38, li39, li46, li49, li50, li51, li52, li53, li63, li80, li115, li160]
theorem C_wb (h : CTp M t T E s k f) : ∀ d b u, b + d = E → d < u → f_Tape_takesWord_b u t n (nI b) M = f_Tape_takesWord_c t n (nI (b + (rl T d b).length)) M := by
  intro d
  have hE := h.2.2.1
  have e1 := h.1.1
  induction d with
  | zero =>
    intro b u hb hu
    obtain ⟨u, rfl⟩ : ∃ v, u = v + 1 := ⟨u - 1, by omega⟩
    have : b + (rl T 0 b).length = b := rfl
    rw [this]
    simp (disch := omega) only [f_Tape_takesWord_b, e1, bI_s, bV_s, bL_s, bR_s, bG_s, bG_n, bX_l, bX_r, ck_nI, nI_clamp, nI_leT, nI_leF, nI_ltT, nI_ltF, nI_eqF, nI_add, pk_mul, ofN, bt_e, or0, Nat.zero_add, Nat.add_zero, ↓reduceIte, if_true, if_false, Bool.false_eq_true, eq_self, li0, li1, li2, li3, li4, li5, li6, li7, li8, li9, li10, li11, li12, li14, li15, li16, li18, li19, li20, li23, li24, li25, li26, li27, li30, li31, li32, li36, li40, li41, li42, li43, li44, li45, li47, li48, li57, li59, li60, li91, li93, li96, li97, li100, li105, li122, li150, li200, li255, li400, li500, li600, li999, li1000, li1001, li2000, li2001, li2002, li2003, li2004, li2005, li2006, li32767, li100000, li_neg, li13, li17, li21, li22, li28, li29, li33, li34, li35, li37, li38, li39, li46, li49, li50, li51, li52, li53, li63, li80, li115, li160]
  | succ d ih =>
    intro b u hb hu
    obtain ⟨u, rfl⟩ : ∃ v, u = v + 1 := ⟨u - 1, by omega⟩
    have e3 := h.2.1 b (by omega)
    have e4 := h.2.2.2 b (by omega)
    by_cases c : isSm (T b) = true
    · have e5 : rl T (d + 1) b = T b :: rl T d (b + 1) := if_pos c
      have e6 : b + (rl T (d + 1) b).length = b + 1 + (rl T d (b + 1)).length := by rw [e5]; show b + ((rl T d (b + 1)).length + 1) = _; omega
      rw [e6, ← ih (b + 1) u (by omega) (by omega)]
      simp (disch := omega) only [f_Tape_takesWord_b, e1, e3, C_smT c, bI_s, bV_s, bL_s, bR_s, bG_s, bG_n, bX_l, bX_r, ck_nI, nI_clamp, nI_leT, nI_leF, nI_ltT, nI_ltF, nI_eqF, nI_add, pk_mul, ofN, bt_e, or0, Nat.zero_add, Nat.add_zero, ↓reduceIte, if_true, if_false, Bool.false_eq_true, eq_self, li0, li1, li2, li3, li4, li5, li6, li7, li8, li9, li10, li11, li12, li14, li15, li16, li18, li19, li20, li23, li24, li25, li26, li27, li30, li31, li32, li36, li40, li41, li42, li43, li44, li45, li47, li48, li57, li59, li60, li91, li93, li96, li97, li100, li105, li122, li150, li200, li255, li400, li500, li600, li999, li1000, li1001, li2000, li2001, li2002, li2003, li2004, li2005, li2006, li32767, li100000, li_neg, li13, li17, li21, li22, li28, li29, li33, li34, li35, li37, li38, li39, li46, li49, li50, li51, li52, li53, li63, li80, li115, li160]
    · have e5 : rl T (d + 1) b = [] := if_neg c
      have e6 : b + (rl T (d + 1) b).length = b := by rw [e5]; rfl
      rw [e6]
      simp (disch := omega) only [f_Tape_takesWord_b, e1, e3, C_smF c e4, bI_s, bV_s, bL_s, bR_s, bG_s, bG_n, bX_l, bX_r, ck_nI, nI_clamp, nI_leT, nI_leF, nI_ltT, nI_ltF, nI_eqF, nI_add, pk_mul, ofN, bt_e, or0, Nat.zero_add, Nat.add_zero, ↓reduceIte, if_true, if_false, Bool.false_eq_true, eq_self, li0, li1, li2, li3, li4, li5, li6, li7, li8, li9, li10, li11, li12, li14, li15, li16, li18, li19, li20, li23, li24, li25, li26, li27, li30, li31, li32, li36, li40, li41, li42, li43, li44, li45, li47, li48, li57, li59, li60, li91, li93, li96, li97, li100, li105, li122, li150, li200, li255, li400, li500, li600, li999, li1000, li1001, li2000, li2001, li2002, li2003, li2004, li2005, li2006, li32767, li100000, li_neg, li13, li17, li21, li22, li28, li29, li33, li34, li35, li37, li38, li39, li46, li49, li50, li51, li52, li53, li63, li80, li115, li160]
theorem C_wdd (h : CTp M t T E s k f) (hw : isWd n wd) (hL : s + wd.length ≤ E) (x2 : Int32) : ∀ r i u, i + r = wd.length → r < u → ((∃ j, i ≤ j ∧ j < wd.length ∧ T (s + j) ≠ wd.getD j 0) ∧ f_Tape_takesWord_d u t n x2 (nI i) M = some (nI 0, M)) ∨ ((∀ j, i ≤ j → j < wd.length → T (s + j) = wd.getD j 0) ∧ f_Tape_takesWord_d u t n x2 (nI i) M = some (nI 1, sI M t 3 x2)) := by
  intro r
  have hE := h.2.2.1
  have e2 := h.1.2.1
  have hl : f_J_length n M = some (nI wd.length, M) := by unfold f_J_length; rw [hw.1.2, List.length_map]; rfl
  have hl7 := hw.2.2.2
  have n100 : (n < 100) = True := eq_true hw.1.1
  induction r with
  | zero =>
    intro i u hi hu
    obtain ⟨u, rfl⟩ : ∃ v, u = v + 1 := ⟨u - 1, by omega⟩
    refine Or.inr ⟨fun j h1 h2 => by omega, ?_⟩
    simp (disch := omega) only [f_Tape_takesWord_d, n100, hl, bI_s, bV_s, bL_s, bR_s, bG_s, bG_n, bX_l, bX_r, ck_nI, nI_clamp, nI_leT, nI_leF, nI_ltT, nI_ltF, nI_eqF, nI_add, pk_mul, ofN, bt_e, or0, Nat.zero_add, Nat.add_zero, ↓reduceIte, if_true, if_false, Bool.false_eq_true, eq_self, li0, li1, li2, li3, li4, li5, li6, li7, li8, li9, li10, li11, li12, li14, li15, li16, li18, li19, li20, li23, li24, li25, li26, li27, li30, li31, li32, li36, li40, li41, li42, li43, li44, li45, li47, li48, li57, li59, li60, li91, li93, li96, li97, li100, li105, li122, li150, li200, li255, li400, li500, li600, li999, li1000, li1001, li2000, li2001, li2002, li2003, li2004, li2005, li2006, li32767, li100000, li_neg, li13, li17, li21, li22, li28, li29, li33, li34, li35, li37, li38, li39, li46, li49, li50, li51, li52, li53, li63, li80, li115, li160]
  | succ r ih =>
    intro i u hi hu
    obtain ⟨u, rfl⟩ : ∃ v, u = v + 1 := ⟨u - 1, by omega⟩
    have e3 := h.2.1 (s + i) (by omega)
    have e4 := h.2.2.2 (s + i) (by omega)
    have hc : f_J_charAt n (nI i) M = some (nI (wd.getD i 0), M) := by
      unfold f_J_charAt
      rw [ck_nI (show i < (txB n).length by rw [hw.1.2, List.length_map]; omega) (by rw [hw.1.2, List.length_map]; omega), nI_clamp (by omega), hw.1.2, gd_map]
    have hm : wd.getD i 0 ≤ 122 := by
      have hi2 : i < wd.length := by omega
      rw [List.getD_eq_getElem?_getD, List.getElem?_eq_getElem hi2]
      exact (hw.2.1 _ (List.getElem_mem hi2)).2
    by_cases c : T (s + i) = wd.getD i 0
    · have e5 : f_Tape_takesWord_d (u + 1) t n x2 (nI i) M = f_Tape_takesWord_d u t n x2 (nI (i + 1)) M := by
        rw [c] at e3
        simp (disch := omega) only [f_Tape_takesWord_d, n100, hl, hc, e2, e3, bI_s, bV_s, bL_s, bR_s, bG_s, bG_n, bX_l, bX_r, ck_nI, nI_clamp, nI_leT, nI_leF, nI_ltT, nI_ltF, nI_eqF, nI_add, pk_mul, ofN, bt_e, or0, Nat.zero_add, Nat.add_zero, ↓reduceIte, if_true, if_false, Bool.false_eq_true, eq_self, li0, li1, li2, li3, li4, li5, li6, li7, li8, li9, li10, li11, li12, li14, li15, li16, li18, li19, li20, li23, li24, li25, li26, li27, li30, li31, li32, li36, li40, li41, li42, li43, li44, li45, li47, li48, li57, li59, li60, li91, li93, li96, li97, li100, li105, li122, li150, li200, li255, li400, li500, li600, li999, li1000, li1001, li2000, li2001, li2002, li2003, li2004, li2005, li2006, li32767, li100000, li_neg, li13, li17, li21, li22, li28, li29, li33, li34, li35, li37, li38, li39, li46, li49, li50, li51, li52, li53, li63, li80, li115, li160]
      rw [e5]
      rcases ih (i + 1) u (by omega) (by omega) with ⟨⟨j, q1, q2, q3⟩, q⟩ | ⟨q1, q⟩
      · exact Or.inl ⟨⟨j, by omega, q2, q3⟩, q⟩
      · refine Or.inr ⟨fun j h1 h2 => ?_, q⟩
        by_cases z : j = i
        · rw [z]; exact c
        · exact q1 j (by omega) h2
    · refine Or.inl ⟨⟨i, by omega, by omega, c⟩, ?_⟩
      simp (disch := omega) only [f_Tape_takesWord_d, n100, hl, hc, e2, e3, nI_eqF c, bI_s, bV_s, bL_s, bR_s, bG_s, bG_n, bX_l, bX_r, ck_nI, nI_clamp, nI_leT, nI_leF, nI_ltT, nI_ltF, nI_eqF, nI_add, pk_mul, ofN, bt_e, or0, Nat.zero_add, Nat.add_zero, ↓reduceIte, if_true, if_false, Bool.false_eq_true, eq_self, li0, li1, li2, li3, li4, li5, li6, li7, li8, li9, li10, li11, li12, li14, li15, li16, li18, li19, li20, li23, li24, li25, li26, li27, li30, li31, li32, li36, li40, li41, li42, li43, li44, li45, li47, li48, li57, li59, li60, li91, li93, li96, li97, li100, li105, li122, li150, li200, li255, li400, li500, li600, li999, li1000, li1001, li2000, li2001, li2002, li2003, li2004, li2005, li2006, li32767, li100000, li_neg, li13, li17, li21, li22, li28, li29, li33, li34, li35, li37, li38, li39, li46, li49, li50, li51, li52, li53, li63, li80, li115, li160]
theorem rl_eq {d : Nat} : rl T d s = wd ↔ (rl T d s).length = wd.length ∧ ∀ j, j < wd.length → T (s + j) = wd.getD j 0 := by
  constructor
  · intro e
    refine ⟨by rw [e], fun j hj => ?_⟩
    have q := rl_at (T := T) d s j (by rw [e]; exact hj)
    rw [e] at q
    rw [List.getD_eq_getElem?_getD, q]; rfl
  · rintro ⟨h1, h2⟩
    refine List.ext_getElem? (fun j => ?_)
    rcases Nat.lt_or_ge j wd.length with q | q
    · rw [rl_at d s j (by omega), h2 j q, List.getD_eq_getElem?_getD, List.getElem?_eq_getElem q]; rfl
    · rw [List.getElem?_eq_none q, List.getElem?_eq_none (by omega)]
theorem C_word (h : CTp M t T E a 0 f) (hw : isWd n wd) : ∃ M', FX (tD t) M M' ∧ ((rl T (E - sk T E a) (sk T E a) = wd ∧ f_Tape_takesWord t n M = some (nI 1, M') ∧ CTp M' t T E (sk T E a + wd.length) 0 f) ∨ (rl T (E - sk T E a) (sk T E a) ≠ wd ∧ f_Tape_takesWord t n M = some (nI 0, M') ∧ CTp M' t T E (sk T E a) 0 f)) := by
  have hE := h.2.2.1
  have hk := h.1.2.2.1
  obtain ⟨M1, e1, f1, h1⟩ := C_next h
  have hs := sk_b (T := T) hE.1
  have a1 := h1.1.1
  have a2 := h1.1.2.1
  have hl : f_J_length n M1 = some (nI wd.length, M1) := by unfold f_J_length; rw [hw.1.2, List.length_map]; rfl
  have n100 : (n < 100) = True := eq_true hw.1.1
  have h17 := hw.2.2
  generalize sk T E a = s at e1 h1 hs a2 ⊢
  by_cases c : s < E
  · have eb := C_wb (n := n) h1 (E - s) s FU (by omega) (FU_lt (by omega))
    have hr := rl_len (T := T) (E - s) s
    have z : nI (s + (rl T (E - s) s).length) - nI s = nI (rl T (E - s) s).length := by rw [pk_sub (by omega)]; congr 1; omega
    by_cases c2 : (rl T (E - s) s).length = wd.length
    · have ec : f_Tape_takesWord t n M = f_Tape_takesWord_d FU t n (nI (s + wd.length)) (nI 0) M1 := by
        rw [c2] at eb z
        simp (disch := omega) only [f_Tape_takesWord, f_Tape_takesWord_c, hk, e1, a1, a2, eb, n100, hl, z, bI_s, bV_s, bL_s, bR_s, bG_s, bG_n, bX_l, bX_r, ck_nI, nI_clamp, nI_leT, nI_leF, nI_ltT, nI_ltF, nI_eqF, nI_add, pk_mul, ofN, bt_e, or0, Nat.zero_add, Nat.add_zero, ↓reduceIte, if_true, if_false, Bool.false_eq_true, eq_self, li0, li1, li2, li3, li4, li5, li6, li7, li8, li9, li10, li11, li12, li14, li15, li16, li18, li19, li20, li23, li24, li25, li26, li27, li30, li31, li32, li36, li40, li41, li42, li43, li44, li45, li47, li48, li57, li59, li60, li91, li93, li96, li97, li100, li105, li122, li150, li200, li255, li400, li500, li600, li999, li1000, li1001, li2000, li2001, li2002, li2003, li2004, li2005, li2006, li32767, li100000, li_neg, li13, li17, li21, li22, li28, li29, li33, li34, li35, li37, li38, li39, li46, li49, li50, li51, li52, li53, li63, li80, li115, li160]
      rw [ec]
      rcases C_wdd h1 hw (by omega) (nI (s + wd.length)) wd.length 0 FU (by omega) (FU_lt (by omega)) with ⟨⟨j, q1, q2, q3⟩, q⟩ | ⟨q1, q⟩
      · exact ⟨M1, f1, Or.inr ⟨fun z => q3 ((rl_eq.mp z).2 j q2), q, h1⟩⟩
      · exact ⟨_, f1.sI (by unfold tD; omega), Or.inl ⟨rl_eq.mpr ⟨c2, fun j hj => q1 j (by omega) hj⟩, q, h1.at (by omega)⟩⟩
    · refine ⟨M1, f1, Or.inr ⟨fun z => c2 (rl_eq.mp z).1, ?_, h1⟩⟩
      simp (disch := omega) only [f_Tape_takesWord, f_Tape_takesWord_c, hk, e1, a1, a2, eb, n100, hl, z, nI_eqF c2, bI_s, bV_s, bL_s, bR_s, bG_s, bG_n, bX_l, bX_r, ck_nI, nI_clamp, nI_leT, nI_leF, nI_ltT, nI_ltF, nI_eqF, nI_add, pk_mul, ofN, bt_e, or0, Nat.zero_add, Nat.add_zero, ↓reduceIte, if_true, if_false, Bool.false_eq_true, eq_self, li0, li1, li2, li3, li4, li5, li6, li7, li8, li9, li10, li11, li12, li14, li15, li16, li18, li19, li20, li23, li24, li25, li26, li27, li30, li31, li32, li36, li40, li41, li42, li43, li44, li45, li47, li48, li57, li59, li60, li91, li93, li96, li97, li100, li105, li122, li150, li200, li255, li400, li500, li600, li999, li1000, li1001, li2000, li2001, li2002, li2003, li2004, li2005, li2006, li32767, li100000, li_neg, li13, li17, li21, li22, li28, li29, li33, li34, li35, li37, li38, li39, li46, li49, li50, li51, li52, li53, li63, li80, li115, li160]
  · refine ⟨M1, f1, Or.inr ⟨fun z => ?_, ?_, h1⟩⟩
    · have := rl_len (T := T) (E - s) s
      rw [z] at this; omega
    · simp (disch := omega) only [f_Tape_takesWord, hk, e1, a1, bI_s, bV_s, bL_s, bR_s, bG_s, bG_n, bX_l, bX_r, ck_nI, nI_clamp, nI_leT, nI_leF, nI_ltT, nI_ltF, nI_eqF, nI_add, pk_mul, ofN, bt_e, or0, Nat.zero_add, Nat.add_zero, ↓reduceIte, if_true, if_false, Bool.false_eq_true, eq_self, li0, li1, li2, li3, li4, li5, li6, li7, li8, li9, li10, li11, li12, li14, li15, li16, li18, li19, li20, li23, li24, li25, li26, li27, li30, li31, li32, li36, li40, li41, li42, li43, li44, li45, li47, li48, li57, li59, li60, li91, li93, li96, li97, li100, li105, li122, li150, li200, li255, li400, li500, li600, li999, li1000, li1001, li2000, li2001, li2002, li2003, li2004, li2005, li2006, li32767, li100000, li_neg, li13, li17, li21, li22, li28, li29, li33, li34, li35, li37, li38, li39, li46, li49, li50, li51, li52, li53, li63, li80, li115, li160]
theorem C_wordF (h : CTp M t T E a k f) (hk : k ≠ 0) : f_Tape_takesWord t n M = some (nI 0, M) := by
  have hE := h.2.2.1
  have e := h.1.2.2.1
  simp (disch := omega) only [f_Tape_takesWord, e, bI_s, bV_s, bL_s, bR_s, bG_s, bG_n, bX_l, bX_r, ck_nI, nI_clamp, nI_leT, nI_leF, nI_ltT, nI_ltF, nI_eqF, nI_add, pk_mul, ofN, bt_e, or0, Nat.zero_add, Nat.add_zero, ↓reduceIte, if_true, if_false, Bool.false_eq_true, eq_self, li0, li1, li2, li3, li4, li5, li6, li7, li8, li9, li10, li11, li12, li14, li15, li16, li18, li19, li20, li23, li24, li25, li26, li27, li30, li31, li32, li36, li40, li41, li42, li43, li44, li45, li47, li48, li57, li59, li60, li91, li93, li96, li97, li100, li105, li122, li150, li200, li255, li400, li500, li600, li999, li1000, li1001, li2000, li2001, li2002, li2003, li2004, li2005, li2006, li32767, li100000, li_neg, li13, li17, li21, li22, li28, li29, li33, li34, li35, li37, li38, li39, li46, li49, li50, li51, li52, li53, li63, li80, li115, li160]
end
