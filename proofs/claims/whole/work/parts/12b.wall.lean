/-! # functional level, 7: what changes a wall, in memory -/
section
variable {M : Mm} {p m o a : Nat} {P W : TT}
theorem gI_sI' (M : Mm) (a j : Nat) (v : Int32) (a' j' : Nat) : gI (sI M a j v) a' j' = if a' = a ∧ j' = j then v else gI M a' j' := rfl
/-- what write() answers, and leaves -/
def aWr (P W : TT) (w b r : Nat) : TT := if mw P W w b r = true then wWr P W w b r else W
theorem C_write (hP : isP M p P) (oP : okP P) (hW : isW M o P W) (oW : okW P W) (hd : p + 8 ≤ o ∨ o + 8 ≤ p) {w b r : Nat} (hw : w < P 0 5) (hb : b < P 0 2) (hr : r < P 0 0) : ∃ M', f_Wall_write o p (nI w) (nI b) (nI r) M = some (nI (if mw P W w b r = true then 1 else 0), M') ∧ isW M' o P (aWr P W w b r) ∧ Fr (rg o 8) M M' := by
  have e := C_mayWrite hP oP hW oW hw hb hr
  have h1 := oP.w
  have h2 := oP.b
  have h3 := oP.r
  unfold aWr
  by_cases c : mw P W w b r = true
  · obtain ⟨_, h5, h6, h7⟩ := mw_e c
    rw [if_pos c] at e
    rw [if_pos c, if_pos c]
    refine ⟨sI (sI (sI (sI (sI (sI (sI M (o + 1) (W 0 2) (nI b)) (o + 2) (W 0 2) (nI (W 5 b))) (o + 3) (W 0 2) (nI r)) (o + 4) (W 0 2) (nI w)) o 2 (nI (W 0 2 + 1))) o 1 (nI (W 0 1 + 1))) (o + 7) w (nI (W 7 w - P 3 b)), ?_, ?_, ?_⟩
    · simp (disch := omega) only [f_Wall_write, e, hW.l, hW.d1, hW.me hb, hW.c hw, hP.len hb, pk_sub, bI_s, bV_s, bL_s, bR_s, bG_s, bG_n, bX_l, bX_r, ck_nI, nI_clamp, nI_leT, nI_leF, nI_ltT, nI_ltF, nI_eqF, nI_add, pk_mul, ofN, bt_e, or0, Nat.zero_add, Nat.add_zero, ↓reduceIte, if_true, if_false, Bool.false_eq_true, eq_self, li0, li1, li2, li3, li4, li5, li6, li7, li8, li9, li10, li11, li12, li14, li15, li16, li18, li19, li20, li23, li24, li25, li26, li27, li30, li31, li32, li36, li40, li41, li42, li43, li44, li45, li47, li48, li57, li59, li60, li91, li93, li96, li97, li100, li105, li122, li150, li200, li255, li400, li500, li600, li999, li1000, li1001, li2000, li2001, li2002, li2003, li2004, li2005, li2006, li32767, li100000, li_neg, li13, li17, li21, li22, li28, li29, li33, li34, li35, li37, li38, li39, li46, li49, li50, li51, li52, li53, li63, li80, li115, li160, gI_same, gI_ne, gI_eq2, gR_sI, gL_sI, gI_sL, gR_sL, gI_sR, gL_sR]
    · refine ⟨⟨?_, ?_, ?_⟩, fun k hk => ?_, fun k hk => ⟨?_, ?_⟩, fun k hk => ?_⟩
      · simp (disch := omega) only [wWr, up_n, up_s, hW.d0, gI_same, gI_ne, gI_eq2, gR_sI, gL_sI, gI_sL, gR_sL, gI_sR, gL_sR]
      · simp (disch := omega) only [wWr, up_n, up_s, gI_same, gI_ne, gI_eq2, gR_sI, gL_sI, gI_sL, gR_sL, gI_sR, gL_sR]
      · simp (disch := omega) only [wWr, up_n, up_s, gI_same, gI_ne, gI_eq2, gR_sI, gL_sI, gI_sL, gR_sL, gI_sR, gL_sR]
      · rw [wWr_l] at hk
        rcases Nat.lt_or_ge k (W 0 2) with c2 | c2
        · rw [wWr_row (by omega) (by omega) c2, wWr_row (by omega) (by omega) c2, wWr_row (by omega) (by omega) c2, wWr_row (by omega) (by omega) c2]
          simp (disch := omega) only [hW.b c2, hW.ac c2, hW.r c2, hW.w c2, and_self, gI_same, gI_ne, gI_eq2, gR_sI, gL_sI, gI_sL, gR_sL, gI_sR, gL_sR]
        · obtain rfl : k = W 0 2 := by omega
          obtain ⟨⟨e1, e2⟩, e3, e4⟩ := wWr_new (P := P) (W := W) w b r
          rw [e1, e2, e3, e4]
          simp (disch := omega) only [and_self, gI_same, gI_ne, gI_eq2, gR_sI, gL_sI, gI_sL, gR_sL, gI_sR, gL_sR]
      · simp (disch := omega) only [wWr, up_n, hW.me hk, gI_same, gI_ne, gI_eq2, gR_sI, gL_sI, gI_sL, gR_sL, gI_sR, gL_sR]
      · simp (disch := omega) only [wWr, up_n, hW.s hk, gI_same, gI_ne, gI_eq2, gR_sI, gL_sI, gI_sL, gR_sL, gI_sR, gL_sR]
      · by_cases c2 : k = w
        · subst c2
          simp (disch := omega) only [wWr, up_s, gI_same, gI_ne, gI_eq2, gR_sI, gL_sI, gI_sL, gR_sL, gI_sR, gL_sR]
        · simp (disch := omega) only [wWr, up_n, hW.c hk, gI_same, gI_ne, gI_eq2, gR_sI, gL_sI, gI_sL, gR_sL, gI_sR, gL_sR]
    · have f : Fr (rg o 8) M M := Fr.rf _ _
      exact ((((((f.sI ⟨by omega, by omega⟩).sI ⟨by omega, by omega⟩).sI ⟨by omega, by omega⟩).sI ⟨by omega, by omega⟩).sI ⟨by omega, by omega⟩).sI ⟨by omega, by omega⟩).sI ⟨by omega, by omega⟩
  · rw [if_neg c] at e
    rw [if_neg c, if_neg c]
    refine ⟨M, ?_, hW, Fr.rf _ _⟩
    simp (disch := omega) only [f_Wall_write, e, bI_s, bV_s, bL_s, bR_s, bG_s, bG_n, bX_l, bX_r, ck_nI, nI_clamp, nI_leT, nI_leF, nI_ltT, nI_ltF, nI_eqF, nI_add, pk_mul, ofN, bt_e, or0, Nat.zero_add, Nat.add_zero, ↓reduceIte, if_true, if_false, Bool.false_eq_true, eq_self, li0, li1, li2, li3, li4, li5, li6, li7, li8, li9, li10, li11, li12, li14, li15, li16, li18, li19, li20, li23, li24, li25, li26, li27, li30, li31, li32, li36, li40, li41, li42, li43, li44, li45, li47, li48, li57, li59, li60, li91, li93, li96, li97, li100, li105, li122, li150, li200, li255, li400, li500, li600, li999, li1000, li1001, li2000, li2001, li2002, li2003, li2004, li2005, li2006, li32767, li100000, li_neg, li13, li17, li21, li22, li28, li29, li33, li34, li35, li37, li38, li39, li46, li49, li50, li51, li52, li53, li63, li80, li115, li160]
theorem M_writes (hQ : isQ M m P) (oP : okP P) (hN : isN M a P W) (oW : okW P W) (ha : ¬ qrg m a) {w b r : Nat} (hw : w < P 0 5) (hb : b < P 0 2) (hr : r < P 0 0) : ∃ M', f_M_writes m a 105 (nI w) (nI b) (nI r) M = some (nI (if mw P W w b r = true then 1 else 0), M') ∧ isN M' a P (aWr P W w b r) ∧ Fr (fun x => x = a) M M' := by
  have e := M_canWrite hQ oP hN oW hw hb hr
  have h1 := oP.w
  have h2 := oP.b
  have h3 := oP.r
  have hne : m + 20 + 1 + b ≠ a := fun z => ha (Or.inr (Or.inr (Or.inl (by omega))))
  unfold aWr
  by_cases c : mw P W w b r = true
  · obtain ⟨_, h5, h6, h7⟩ := mw_e c
    rw [if_pos c] at e
    rw [if_pos c, if_pos c]
    refine ⟨sI (sI (sI (sI (sI (sI (sI M a (25 + 4 * W 0 2) (nI b)) a (25 + 4 * W 0 2 + 1) (nI (W 5 b))) a (25 + 4 * W 0 2 + 2) (nI r)) a (25 + 4 * W 0 2 + 3) (nI w)) a 23 (nI (W 0 2 + 1))) a 24 (nI (W 0 1 + 1))) a (16 + w) (nI (W 7 w - P 3 b)), ?_, ?_, ?_⟩
    · simp (disch := omega) only [f_M_writes, e, hN.l, hN.d1, hN.me hb, hN.c hw, hQ.len hb, pk_sub, bI_s, bV_s, bL_s, bR_s, bG_s, bG_n, bX_l, bX_r, ck_nI, nI_clamp, nI_leT, nI_leF, nI_ltT, nI_ltF, nI_eqF, nI_add, pk_mul, ofN, bt_e, or0, Nat.zero_add, Nat.add_zero, ↓reduceIte, if_true, if_false, Bool.false_eq_true, eq_self, li0, li1, li2, li3, li4, li5, li6, li7, li8, li9, li10, li11, li12, li14, li15, li16, li18, li19, li20, li23, li24, li25, li26, li27, li30, li31, li32, li36, li40, li41, li42, li43, li44, li45, li47, li48, li57, li59, li60, li91, li93, li96, li97, li100, li105, li122, li150, li200, li255, li400, li500, li600, li999, li1000, li1001, li2000, li2001, li2002, li2003, li2004, li2005, li2006, li32767, li100000, li_neg, li13, li17, li21, li22, li28, li29, li33, li34, li35, li37, li38, li39, li46, li49, li50, li51, li52, li53, li63, li80, li115, li160, gI_same, gI_ne, gI_eq2, gR_sI, gL_sI, gI_sL, gR_sL, gI_sR, gL_sR]
    · refine ⟨⟨?_, ?_, ?_⟩, fun k hk => ?_, fun k hk => ⟨?_, ?_⟩, fun k hk => ?_⟩
      · simp (disch := omega) only [wWr, up_n, up_s, hN.d0, gI_same, gI_ne, gI_eq2, gR_sI, gL_sI, gI_sL, gR_sL, gI_sR, gL_sR]
      · simp (disch := omega) only [wWr, up_n, up_s, gI_same, gI_ne, gI_eq2, gR_sI, gL_sI, gI_sL, gR_sL, gI_sR, gL_sR]
      · simp (disch := omega) only [wWr, up_n, up_s, gI_same, gI_ne, gI_eq2, gR_sI, gL_sI, gI_sL, gR_sL, gI_sR, gL_sR]
      · rw [wWr_l] at hk
        rcases Nat.lt_or_ge k (W 0 2) with c2 | c2
        · rw [wWr_row (by omega) (by omega) c2, wWr_row (by omega) (by omega) c2, wWr_row (by omega) (by omega) c2, wWr_row (by omega) (by omega) c2]
          simp (disch := omega) only [hN.b c2, hN.ac c2, hN.r c2, hN.w c2, and_self, gI_same, gI_ne, gI_eq2, gR_sI, gL_sI, gI_sL, gR_sL, gI_sR, gL_sR]
        · obtain rfl : k = W 0 2 := by omega
          obtain ⟨⟨e1, e2⟩, e3, e4⟩ := wWr_new (P := P) (W := W) w b r
          rw [e1, e2, e3, e4]
          simp (disch := omega) only [and_self, gI_same, gI_ne, gI_eq2, gR_sI, gL_sI, gI_sL, gR_sL, gI_sR, gL_sR]
      · simp (disch := omega) only [wWr, up_n, hN.me hk, gI_same, gI_ne, gI_eq2, gR_sI, gL_sI, gI_sL, gR_sL, gI_sR, gL_sR]
      · simp (disch := omega) only [wWr, up_n, hN.s hk, gI_same, gI_ne, gI_eq2, gR_sI, gL_sI, gI_sL, gR_sL, gI_sR, gL_sR]
      · by_cases c2 : k = w
        · subst c2
          simp (disch := omega) only [wWr, up_s, gI_same, gI_ne, gI_eq2, gR_sI, gL_sI, gI_sL, gR_sL, gI_sR, gL_sR]
        · simp (disch := omega) only [wWr, up_n, hN.c hk, gI_same, gI_ne, gI_eq2, gR_sI, gL_sI, gI_sL, gR_sL, gI_sR, gL_sR]
    · have f : Fr (fun x => x = a) M M := Fr.rf _ _
      exact ((((((f.sI rfl).sI rfl).sI rfl).sI rfl).sI rfl).sI rfl).sI rfl
  · rw [if_neg c] at e
    rw [if_neg c, if_neg c]
    refine ⟨M, ?_, hN, Fr.rf _ _⟩
    simp (disch := omega) only [f_M_writes, e, bI_s, bV_s, bL_s, bR_s, bG_s, bG_n, bX_l, bX_r, ck_nI, nI_clamp, nI_leT, nI_leF, nI_ltT, nI_ltF, nI_eqF, nI_add, pk_mul, ofN, bt_e, or0, Nat.zero_add, Nat.add_zero, ↓reduceIte, if_true, if_false, Bool.false_eq_true, eq_self, li0, li1, li2, li3, li4, li5, li6, li7, li8, li9, li10, li11, li12, li14, li15, li16, li18, li19, li20, li23, li24, li25, li26, li27, li30, li31, li32, li36, li40, li41, li42, li43, li44, li45, li47, li48, li57, li59, li60, li91, li93, li96, li97, li100, li105, li122, li150, li200, li255, li400, li500, li600, li999, li1000, li1001, li2000, li2001, li2002, li2003, li2004, li2005, li2006, li32767, li100000, li_neg, li13, li17, li21, li22, li28, li29, li33, li34, li35, li37, li38, li39, li46, li49, li50, li51, li52, li53, li63, li80, li115, li160]
theorem okW.awr (oW : okW P W) {w b r : Nat} (hw : w < P 0 5) (hb : b < P 0 2) (hr : r < P 0 0) : okW P (aWr P W w b r) := by
  unfold aWr
  by_cases c : mw P W w b r = true
  · rw [if_pos c]; exact oW.wr hw hb hr c
  · rw [if_neg c]; exact oW
/-! slips -/
def aSl (P W : TT) (b : Nat) : TT := if P 7 (W 5 b) = 4294967295 then W else wSl P W b
theorem okW.asl (oP : okP P) (oW : okW P W) {b : Nat} (hb : b < P 0 2) : okW P (aSl P W b) := by
  unfold aSl
  by_cases c : P 7 (W 5 b) = 4294967295
  · rw [if_pos c]; exact oW
  · rw [if_neg c]; exact oW.sl oP hb c
theorem C_slip (hP : isP M p P) (oP : okP P) (hW : isW M o P W) (oW : okW P W) {b : Nat} (hb : b < P 0 2) : ∃ M', f_Wall_slip o p (nI b) M = some (nI (if P 7 (W 5 b) = 4294967295 then 0 else 1), M') ∧ isW M' o P (aSl P W b) ∧ Fr (rg o 8) M M' := by
  have h2 := oP.b
  have h3 := oW.me hb
  have h4 := oP.kin h3
  unfold aSl
  by_cases c : P 7 (W 5 b) = 4294967295
  · rw [if_pos c, if_pos c]
    refine ⟨M, ?_, hW, Fr.rf _ _⟩
    simp (disch := omega) only [f_Wall_slip, hW.me hb, hP.kin h3, c, bI_s, bV_s, bL_s, bR_s, bG_s, bG_n, bX_l, bX_r, ck_nI, nI_clamp, nI_leT, nI_leF, nI_ltT, nI_ltF, nI_eqF, nI_add, pk_mul, ofN, bt_e, or0, Nat.zero_add, Nat.add_zero, ↓reduceIte, if_true, if_false, Bool.false_eq_true, eq_self, li0, li1, li2, li3, li4, li5, li6, li7, li8, li9, li10, li11, li12, li14, li15, li16, li18, li19, li20, li23, li24, li25, li26, li27, li30, li31, li32, li36, li40, li41, li42, li43, li44, li45, li47, li48, li57, li59, li60, li91, li93, li96, li97, li100, li105, li122, li150, li200, li255, li400, li500, li600, li999, li1000, li1001, li2000, li2001, li2002, li2003, li2004, li2005, li2006, li32767, li100000, li_neg, li13, li17, li21, li22, li28, li29, li33, li34, li35, li37, li38, li39, li46, li49, li50, li51, li52, li53, li63, li80, li115, li160]
  · rw [if_neg c, if_neg c]
    refine ⟨sI (sI M (o + 5) b (nI (P 7 (W 5 b)))) (o + 6) b (nI (W 6 b + 1)), ?_, ?_, ?_⟩
    · simp (disch := omega) only [f_Wall_slip, hW.me hb, hW.s hb, hP.kin h3, c, bI_s, bV_s, bL_s, bR_s, bG_s, bG_n, bX_l, bX_r, ck_nI, nI_clamp, nI_leT, nI_leF, nI_ltT, nI_ltF, nI_eqF, nI_add, pk_mul, ofN, bt_e, or0, Nat.zero_add, Nat.add_zero, ↓reduceIte, if_true, if_false, Bool.false_eq_true, eq_self, li0, li1, li2, li3, li4, li5, li6, li7, li8, li9, li10, li11, li12, li14, li15, li16, li18, li19, li20, li23, li24, li25, li26, li27, li30, li31, li32, li36, li40, li41, li42, li43, li44, li45, li47, li48, li57, li59, li60, li91, li93, li96, li97, li100, li105, li122, li150, li200, li255, li400, li500, li600, li999, li1000, li1001, li2000, li2001, li2002, li2003, li2004, li2005, li2006, li32767, li100000, li_neg, li13, li17, li21, li22, li28, li29, li33, li34, li35, li37, li38, li39, li46, li49, li50, li51, li52, li53, li63, li80, li115, li160, gI_same, gI_ne, gI_eq2, gR_sI, gL_sI, gI_sL, gR_sL, gI_sR, gL_sR]
    · refine ⟨⟨?_, ?_, ?_⟩, fun k hk => ?_, fun k hk => ⟨?_, ?_⟩, fun k hk => ?_⟩
      · simp (disch := omega) only [wSl, up_n, hW.d0, gI_same, gI_ne, gI_eq2, gR_sI, gL_sI, gI_sL, gR_sL, gI_sR, gL_sR]
      · simp (disch := omega) only [wSl, up_n, hW.d1, gI_same, gI_ne, gI_eq2, gR_sI, gL_sI, gI_sL, gR_sL, gI_sR, gL_sR]
      · simp (disch := omega) only [wSl, up_n, hW.l, gI_same, gI_ne, gI_eq2, gR_sI, gL_sI, gI_sL, gR_sL, gI_sR, gL_sR]
      · have hk' : k < W 0 2 := by
          have : wSl P W b 0 2 = W 0 2 := by simp (disch := omega) only [wSl, up_n]
          rw [this] at hk; exact hk
        simp (disch := omega) only [wSl, up_n, hW.b hk', hW.ac hk', hW.r hk', hW.w hk', and_self, gI_same, gI_ne, gI_eq2, gR_sI, gL_sI, gI_sL, gR_sL, gI_sR, gL_sR]
      · by_cases c2 : k = b
        · subst c2
          simp (disch := omega) only [wSl, up_n, up_s, gI_same, gI_ne, gI_eq2, gR_sI, gL_sI, gI_sL, gR_sL, gI_sR, gL_sR]
        · simp (disch := omega) only [wSl, up_n, hW.me hk, gI_same, gI_ne, gI_eq2, gR_sI, gL_sI, gI_sL, gR_sL, gI_sR, gL_sR]
      · by_cases c2 : k = b
        · subst c2
          simp (disch := omega) only [wSl, up_s, gI_same, gI_ne, gI_eq2, gR_sI, gL_sI, gI_sL, gR_sL, gI_sR, gL_sR]
        · simp (disch := omega) only [wSl, up_n, hW.s hk, gI_same, gI_ne, gI_eq2, gR_sI, gL_sI, gI_sL, gR_sL, gI_sR, gL_sR]
      · simp (disch := omega) only [wSl, up_n, hW.c hk, gI_same, gI_ne, gI_eq2, gR_sI, gL_sI, gI_sL, gR_sL, gI_sR, gL_sR]
    · exact ((Fr.rf (rg o 8) M).sI ⟨by omega, by omega⟩).sI ⟨by omega, by omega⟩
theorem M_slips (hQ : isQ M m P) (oP : okP P) (hN : isN M a P W) (oW : okW P W) {b : Nat} (hb : b < P 0 2) : ∃ M', f_M_slips m a 105 (nI b) M = some (nI (if P 7 (W 5 b) = 4294967295 then 0 else 1), M') ∧ isN M' a P (aSl P W b) ∧ Fr (fun x => x = a) M M' := by
  have h2 := oP.b
  have h3 := oW.me hb
  have h4 := oP.kin h3
  have h5 := oW.l
  unfold aSl
  by_cases c : P 7 (W 5 b) = 4294967295
  · rw [if_pos c, if_pos c]
    refine ⟨M, ?_, hN, Fr.rf _ _⟩
    simp (disch := omega) only [f_M_slips, hN.me hb, hQ.kin h3, c, bI_s, bV_s, bL_s, bR_s, bG_s, bG_n, bX_l, bX_r, ck_nI, nI_clamp, nI_leT, nI_leF, nI_ltT, nI_ltF, nI_eqF, nI_add, pk_mul, ofN, bt_e, or0, Nat.zero_add, Nat.add_zero, ↓reduceIte, if_true, if_false, Bool.false_eq_true, eq_self, li0, li1, li2, li3, li4, li5, li6, li7, li8, li9, li10, li11, li12, li14, li15, li16, li18, li19, li20, li23, li24, li25, li26, li27, li30, li31, li32, li36, li40, li41, li42, li43, li44, li45, li47, li48, li57, li59, li60, li91, li93, li96, li97, li100, li105, li122, li150, li200, li255, li400, li500, li600, li999, li1000, li1001, li2000, li2001, li2002, li2003, li2004, li2005, li2006, li32767, li100000, li_neg, li13, li17, li21, li22, li28, li29, li33, li34, li35, li37, li38, li39, li46, li49, li50, li51, li52, li53, li63, li80, li115, li160]
  · rw [if_neg c, if_neg c]
    refine ⟨sI (sI M a b (nI (P 7 (W 5 b)))) a (8 + b) (nI (W 6 b + 1)), ?_, ?_, ?_⟩
    · simp (disch := omega) only [f_M_slips, hN.me hb, hN.s hb, hQ.kin h3, c, bI_s, bV_s, bL_s, bR_s, bG_s, bG_n, bX_l, bX_r, ck_nI, nI_clamp, nI_leT, nI_leF, nI_ltT, nI_ltF, nI_eqF, nI_add, pk_mul, ofN, bt_e, or0, Nat.zero_add, Nat.add_zero, ↓reduceIte, if_true, if_false, Bool.false_eq_true, eq_self, li0, li1, li2, li3, li4, li5, li6, li7, li8, li9, li10, li11, li12, li14, li15, li16, li18, li19, li20, li23, li24, li25, li26, li27, li30, li31, li32, li36, li40, li41, li42, li43, li44, li45, li47, li48, li57, li59, li60, li91, li93, li96, li97, li100, li105, li122, li150, li200, li255, li400, li500, li600, li999, li1000, li1001, li2000, li2001, li2002, li2003, li2004, li2005, li2006, li32767, li100000, li_neg, li13, li17, li21, li22, li28, li29, li33, li34, li35, li37, li38, li39, li46, li49, li50, li51, li52, li53, li63, li80, li115, li160, gI_same, gI_ne, gI_eq2, gR_sI, gL_sI, gI_sL, gR_sL, gI_sR, gL_sR]
    · refine ⟨⟨?_, ?_, ?_⟩, fun k hk => ?_, fun k hk => ⟨?_, ?_⟩, fun k hk => ?_⟩
      · simp (disch := omega) only [wSl, up_n, hN.d0, gI_same, gI_ne, gI_eq2, gR_sI, gL_sI, gI_sL, gR_sL, gI_sR, gL_sR]
      · simp (disch := omega) only [wSl, up_n, hN.d1, gI_same, gI_ne, gI_eq2, gR_sI, gL_sI, gI_sL, gR_sL, gI_sR, gL_sR]
      · simp (disch := omega) only [wSl, up_n, hN.l, gI_same, gI_ne, gI_eq2, gR_sI, gL_sI, gI_sL, gR_sL, gI_sR, gL_sR]
      · have hk' : k < W 0 2 := by
          have : wSl P W b 0 2 = W 0 2 := by simp (disch := omega) only [wSl, up_n]
          rw [this] at hk; exact hk
        simp (disch := omega) only [wSl, up_n, hN.b hk', hN.ac hk', hN.r hk', hN.w hk', and_self, gI_same, gI_ne, gI_eq2, gR_sI, gL_sI, gI_sL, gR_sL, gI_sR, gL_sR]
      · by_cases c2 : k = b
        · subst c2
          simp (disch := omega) only [wSl, up_n, up_s, gI_same, gI_ne, gI_eq2, gR_sI, gL_sI, gI_sL, gR_sL, gI_sR, gL_sR]
        · simp (disch := omega) only [wSl, up_n, hN.me hk, gI_same, gI_ne, gI_eq2, gR_sI, gL_sI, gI_sL, gR_sL, gI_sR, gL_sR]
      · by_cases c2 : k = b
        · subst c2
          simp (disch := omega) only [wSl, up_s, gI_same, gI_ne, gI_eq2, gR_sI, gL_sI, gI_sL, gR_sL, gI_sR, gL_sR]
        · simp (disch := omega) only [wSl, up_n, hN.s hk, gI_same, gI_ne, gI_eq2, gR_sI, gL_sI, gI_sL, gR_sL, gI_sR, gL_sR]
      · have := oP.w
        simp (disch := omega) only [wSl, up_n, hN.c hk, gI_same, gI_ne, gI_eq2, gR_sI, gL_sI, gI_sL, gR_sL, gI_sR, gL_sR]
    · exact ((Fr.rf (fun x => x = a) M).sI rfl).sI rfl
/-! rain -/
theorem isW.cL (h : isW M o P W) {l i : Nat} (hl : l < W 0 2) (hi : i < W 0 2) : isW (sI (sI (sI (sI M (o + 1) l (nI (W 1 i))) (o + 2) l (nI (W 2 i))) (o + 3) l (nI (W 3 i))) (o + 4) l (nI (W 4 i))) o P (cpL W l i) := by
  refine ⟨⟨?_, ?_, ?_⟩, fun k hk => ?_, fun k hk => ⟨?_, ?_⟩, fun k hk => ?_⟩
  · simp (disch := omega) only [cpL, up_n, h.d0, gI_same, gI_ne, gI_eq2, gR_sI, gL_sI, gI_sL, gR_sL, gI_sR, gL_sR]
  · simp (disch := omega) only [cpL, up_n, h.d1, gI_same, gI_ne, gI_eq2, gR_sI, gL_sI, gI_sL, gR_sL, gI_sR, gL_sR]
  · simp (disch := omega) only [cpL, up_n, h.l, gI_same, gI_ne, gI_eq2, gR_sI, gL_sI, gI_sL, gR_sL, gI_sR, gL_sR]
  · have hk' : k < W 0 2 := by
      have : cpL W l i 0 2 = W 0 2 := by simp (disch := omega) only [cpL, up_n]
      rw [this] at hk; exact hk
    by_cases c : k = l
    · subst c
      simp (disch := omega) only [cpL, up_n, up_s, and_self, gI_same, gI_ne, gI_eq2, gR_sI, gL_sI, gI_sL, gR_sL, gI_sR, gL_sR]
    · simp (disch := omega) only [cpL, up_n, h.b hk', h.ac hk', h.r hk', h.w hk', and_self, gI_same, gI_ne, gI_eq2, gR_sI, gL_sI, gI_sL, gR_sL, gI_sR, gL_sR]
  · simp (disch := omega) only [cpL, up_n, h.me hk, gI_same, gI_ne, gI_eq2, gR_sI, gL_sI, gI_sL, gR_sL, gI_sR, gL_sR]
  · simp (disch := omega) only [cpL, up_n, h.s hk, gI_same, gI_ne, gI_eq2, gR_sI, gL_sI, gI_sL, gR_sL, gI_sR, gL_sR]
  · simp (disch := omega) only [cpL, up_n, h.c hk, gI_same, gI_ne, gI_eq2, gR_sI, gL_sI, gI_sL, gR_sL, gI_sR, gL_sR]
theorem isN.cL (h : isN M a P W) (oP : okP P) {l i : Nat} (hl : l < W 0 2) (hi : i < W 0 2) : isN (sI (sI (sI (sI M a (25 + 4 * l) (nI (W 1 i))) a (25 + 4 * l + 1) (nI (W 2 i))) a (25 + 4 * l + 2) (nI (W 3 i))) a (25 + 4 * l + 3) (nI (W 4 i))) a P (cpL W l i) := by
  have h1 := oP.w
  have h2 := oP.b
  refine ⟨⟨?_, ?_, ?_⟩, fun k hk => ?_, fun k hk => ⟨?_, ?_⟩, fun k hk => ?_⟩
  · simp (disch := omega) only [cpL, up_n, h.d0, gI_same, gI_ne, gI_eq2, gR_sI, gL_sI, gI_sL, gR_sL, gI_sR, gL_sR]
  · simp (disch := omega) only [cpL, up_n, h.d1, gI_same, gI_ne, gI_eq2, gR_sI, gL_sI, gI_sL, gR_sL, gI_sR, gL_sR]
  · simp (disch := omega) only [cpL, up_n, h.l, gI_same, gI_ne, gI_eq2, gR_sI, gL_sI, gI_sL, gR_sL, gI_sR, gL_sR]
  · have hk' : k < W 0 2 := by
      have : cpL W l i 0 2 = W 0 2 := by simp (disch := omega) only [cpL, up_n]
      rw [this] at hk; exact hk
    by_cases c : k = l
    · subst c
      simp (disch := omega) only [cpL, up_n, up_s, and_self, gI_same, gI_ne, gI_eq2, gR_sI, gL_sI, gI_sL, gR_sL, gI_sR, gL_sR]
    · simp (disch := omega) only [cpL, up_n, h.b hk', h.ac hk', h.r hk', h.w hk', and_self, gI_same, gI_ne, gI_eq2, gR_sI, gL_sI, gI_sL, gR_sL, gI_sR, gL_sR]
  · simp (disch := omega) only [cpL, up_n, h.me hk, gI_same, gI_ne, gI_eq2, gR_sI, gL_sI, gI_sL, gR_sL, gI_sR, gL_sR]
  · simp (disch := omega) only [cpL, up_n, h.s hk, gI_same, gI_ne, gI_eq2, gR_sI, gL_sI, gI_sL, gR_sL, gI_sR, gL_sR]
  · simp (disch := omega) only [cpL, up_n, h.c hk, gI_same, gI_ne, gI_eq2, gR_sI, gL_sI, gI_sL, gR_sL, gI_sR, gL_sR]
def rainy (W : TT) (lo : Nat) : Nat := if (rF W lo (W 0 2)).1 < W 0 2 then 1 else 0
theorem isW.setl (h : isW M o P W) {n : Nat} (hn : n ≤ W 0 2) : isW (sI M o 2 (nI n)) o P (up W 0 2 n) := by
  refine ⟨⟨?_, ?_, ?_⟩, fun k hk => ?_, fun k hk => ⟨?_, ?_⟩, fun k hk => ?_⟩
  · simp (disch := omega) only [up_n, h.d0, gI_same, gI_ne, gI_eq2, gR_sI, gL_sI, gI_sL, gR_sL, gI_sR, gL_sR]
  · simp (disch := omega) only [up_n, h.d1, gI_same, gI_ne, gI_eq2, gR_sI, gL_sI, gI_sL, gR_sL, gI_sR, gL_sR]
  · simp (disch := omega) only [up_s, gI_same, gI_ne, gI_eq2, gR_sI, gL_sI, gI_sL, gR_sL, gI_sR, gL_sR]
  · rw [up_s] at hk
    have hk' : k < W 0 2 := by omega
    simp (disch := omega) only [up_n, h.b hk', h.ac hk', h.r hk', h.w hk', and_self, gI_same, gI_ne, gI_eq2, gR_sI, gL_sI, gI_sL, gR_sL, gI_sR, gL_sR]
  · simp (disch := omega) only [up_n, h.me hk, gI_same, gI_ne, gI_eq2, gR_sI, gL_sI, gI_sL, gR_sL, gI_sR, gL_sR]
  · simp (disch := omega) only [up_n, h.s hk, gI_same, gI_ne, gI_eq2, gR_sI, gL_sI, gI_sL, gR_sL, gI_sR, gL_sR]
  · simp (disch := omega) only [up_n, h.c hk, gI_same, gI_ne, gI_eq2, gR_sI, gL_sI, gI_sL, gR_sL, gI_sR, gL_sR]
theorem isN.setl (h : isN M a P W) (oP : okP P) {n : Nat} (hn : n ≤ W 0 2) : isN (sI M a 23 (nI n)) a P (up W 0 2 n) := by
  have h1 := oP.w
  have h2 := oP.b
  refine ⟨⟨?_, ?_, ?_⟩, fun k hk => ?_, fun k hk => ⟨?_, ?_⟩, fun k hk => ?_⟩
  · simp (disch := omega) only [up_n, h.d0, gI_same, gI_ne, gI_eq2, gR_sI, gL_sI, gI_sL, gR_sL, gI_sR, gL_sR]
  · simp (disch := omega) only [up_n, h.d1, gI_same, gI_ne, gI_eq2, gR_sI, gL_sI, gI_sL, gR_sL, gI_sR, gL_sR]
  · simp (disch := omega) only [up_s, gI_same, gI_ne, gI_eq2, gR_sI, gL_sI, gI_sL, gR_sL, gI_sR, gL_sR]
  · rw [up_s] at hk
    have hk' : k < W 0 2 := by omega
    simp (disch := omega) only [up_n, h.b hk', h.ac hk', h.r hk', h.w hk', and_self, gI_same, gI_ne, gI_eq2, gR_sI, gL_sI, gI_sL, gR_sL, gI_sR, gL_sR]
  · simp (disch := omega) only [up_n, h.me hk, gI_same, gI_ne, gI_eq2, gR_sI, gL_sI, gI_sL, gR_sL, gI_sR, gL_sR]
  · simp (disch := omega) only [up_n, h.s hk, gI_same, gI_ne, gI_eq2, gR_sI, gL_sI, gI_sL, gR_sL, gI_sR, gL_sR]
  · simp (disch := omega) only [up_n, h.c hk, gI_same, gI_ne, gI_eq2, gR_sI, gL_sI, gI_sL, gR_sL, gI_sR, gL_sR]
theorem C_rain (oP : okP P) (hW : isW M o P W) (oW : okW P W) {lo : Nat} (hlo : lo < 2 ^ 31) : ∃ M', f_Wall_rain o (nI lo) M = some (nI (rainy W lo), M') ∧ isW M' o P (wRn W lo) ∧ Fr (rg o 8) M M' := by
  have hl := oW.l
  have hR := oP.r
  have key := lp_inv (R := Int32 × Mm) (fun u i (s : Nat × Mm) => f_Wall_rain_b u o (nI lo) (nI s.1) (nI i) s.2) (W 0 2) (fun i s => s.1 = (rF W lo i).1 ∧ isW s.2 o P (rF W lo i).2 ∧ Fr (rg o 8) M s.2) (fun r => r.1 = nI (rainy W lo) ∧ isW r.2 o P (wRn W lo) ∧ Fr (rg o 8) M r.2) (fun u i s hi hI => ?_) (fun u s hI => ?_) 0 (by omega) (0, M) ⟨rfl, hW, Fr.rf _ _⟩ FU (FU_lt (by omega))
  · obtain ⟨⟨z, M'⟩, e, e1, e2, e3⟩ := key
    exact ⟨M', by rw [← e1]; exact e, e2, e3⟩
  · obtain ⟨l, N⟩ := s
    obtain ⟨e, h1, h2⟩ := hI
    dsimp only at e h1 h2 ⊢
    subst e
    obtain ⟨⟨q1, q2⟩, q3, q4, q5⟩ := rF_inv oW lo i (by omega)
    have q6 := q4 i hi
    have el : (rF W lo i).2 0 2 = W 0 2 := q3 0 2 (by omega)
    have hl2 := h1.l
    rw [el] at hl2
    refine Or.inl ?_
    have e : rF W lo (i + 1) = rS lo i (rF W lo i) := rfl
    rw [e]
    unfold rS
    by_cases c : (rF W lo i).2 3 i < lo
    · rw [if_pos c]
      refine ⟨((rF W lo i).1, N), ?_, rfl, h1, h2⟩
      simp (disch := omega) only [f_Wall_rain_b, hl2, h1.r (show i < (rF W lo i).2 0 2 by omega), c, bI_s, bV_s, bL_s, bR_s, bG_s, bG_n, bX_l, bX_r, ck_nI, nI_clamp, nI_leT, nI_leF, nI_ltT, nI_ltF, nI_eqF, nI_add, pk_mul, ofN, bt_e, or0, Nat.zero_add, Nat.add_zero, ↓reduceIte, if_true, if_false, Bool.false_eq_true, eq_self, li0, li1, li2, li3, li4, li5, li6, li7, li8, li9, li10, li11, li12, li14, li15, li16, li18, li19, li20, li23, li24, li25, li26, li27, li30, li31, li32, li36, li40, li41, li42, li43, li44, li45, li47, li48, li57, li59, li60, li91, li93, li96, li97, li100, li105, li122, li150, li200, li255, li400, li500, li600, li999, li1000, li1001, li2000, li2001, li2002, li2003, li2004, li2005, li2006, li32767, li100000, li_neg, li13, li17, li21, li22, li28, li29, li33, li34, li35, li37, li38, li39, li46, li49, li50, li51, li52, li53, li63, li80, li115, li160, gI_same, gI_ne, gI_eq2, gR_sI, gL_sI, gI_sL, gR_sL, gI_sR, gL_sR]
    · rw [if_neg c]
      have hi' : i < (rF W lo i).2 0 2 := by omega
      refine ⟨((rF W lo i).1 + 1, sI (sI (sI (sI N (o + 1) (rF W lo i).1 (nI ((rF W lo i).2 1 i))) (o + 2) (rF W lo i).1 (nI ((rF W lo i).2 2 i))) (o + 3) (rF W lo i).1 (nI ((rF W lo i).2 3 i))) (o + 4) (rF W lo i).1 (nI ((rF W lo i).2 4 i))), ?_, rfl, ?_, ?_⟩
      · simp (disch := omega) only [f_Wall_rain_b, hl2, h1.r hi', h1.b hi', h1.ac hi', h1.w hi', c, bI_s, bV_s, bL_s, bR_s, bG_s, bG_n, bX_l, bX_r, ck_nI, nI_clamp, nI_leT, nI_leF, nI_ltT, nI_ltF, nI_eqF, nI_add, pk_mul, ofN, bt_e, or0, Nat.zero_add, Nat.add_zero, ↓reduceIte, if_true, if_false, Bool.false_eq_true, eq_self, li0, li1, li2, li3, li4, li5, li6, li7, li8, li9, li10, li11, li12, li14, li15, li16, li18, li19, li20, li23, li24, li25, li26, li27, li30, li31, li32, li36, li40, li41, li42, li43, li44, li45, li47, li48, li57, li59, li60, li91, li93, li96, li97, li100, li105, li122, li150, li200, li255, li400, li500, li600, li999, li1000, li1001, li2000, li2001, li2002, li2003, li2004, li2005, li2006, li32767, li100000, li_neg, li13, li17, li21, li22, li28, li29, li33, li34, li35, li37, li38, li39, li46, li49, li50, li51, li52, li53, li63, li80, li115, li160, gI_same, gI_ne, gI_eq2, gR_sI, gL_sI, gI_sL, gR_sL, gI_sR, gL_sR]
      · exact h1.cL (by omega) hi'
      · exact (((h2.sI ⟨by omega, by omega⟩).sI ⟨by omega, by omega⟩).sI ⟨by omega, by omega⟩).sI ⟨by omega, by omega⟩
  · obtain ⟨l, N⟩ := s
    obtain ⟨e, h1, h2⟩ := hI
    dsimp only at e h1 h2 ⊢
    subst e
    obtain ⟨⟨q1, q2⟩, q3, q4, q5⟩ := rF_inv oW lo (W 0 2) (by omega)
    have el : (rF W lo (W 0 2)).2 0 2 = W 0 2 := q3 0 2 (by omega)
    have hl2 := h1.l
    rw [el] at hl2
    refine ⟨(nI (rainy W lo), sI N o 2 (nI (rF W lo (W 0 2)).1)), ?_, rfl, h1.setl (by omega), h2.sI ⟨by omega, by omega⟩⟩
    unfold rainy
    by_cases c : (rF W lo (W 0 2)).1 < W 0 2
    · simp (disch := omega) only [f_Wall_rain_b, hl2, c, bI_s, bV_s, bL_s, bR_s, bG_s, bG_n, bX_l, bX_r, ck_nI, nI_clamp, nI_leT, nI_leF, nI_ltT, nI_ltF, nI_eqF, nI_add, pk_mul, ofN, bt_e, or0, Nat.zero_add, Nat.add_zero, ↓reduceIte, if_true, if_false, Bool.false_eq_true, eq_self, li0, li1, li2, li3, li4, li5, li6, li7, li8, li9, li10, li11, li12, li14, li15, li16, li18, li19, li20, li23, li24, li25, li26, li27, li30, li31, li32, li36, li40, li41, li42, li43, li44, li45, li47, li48, li57, li59, li60, li91, li93, li96, li97, li100, li105, li122, li150, li200, li255, li400, li500, li600, li999, li1000, li1001, li2000, li2001, li2002, li2003, li2004, li2005, li2006, li32767, li100000, li_neg, li13, li17, li21, li22, li28, li29, li33, li34, li35, li37, li38, li39, li46, li49, li50, li51, li52, li53, li63, li80, li115, li160, gI_same, gI_ne, gI_eq2, gR_sI, gL_sI, gI_sL, gR_sL, gI_sR, gL_sR]
    · simp (disch := omega) only [f_Wall_rain_b, hl2, c, bI_s, bV_s, bL_s, bR_s, bG_s, bG_n, bX_l, bX_r, ck_nI, nI_clamp, nI_leT, nI_leF, nI_ltT, nI_ltF, nI_eqF, nI_add, pk_mul, ofN, bt_e, or0, Nat.zero_add, Nat.add_zero, ↓reduceIte, if_true, if_false, Bool.false_eq_true, eq_self, li0, li1, li2, li3, li4, li5, li6, li7, li8, li9, li10, li11, li12, li14, li15, li16, li18, li19, li20, li23, li24, li25, li26, li27, li30, li31, li32, li36, li40, li41, li42, li43, li44, li45, li47, li48, li57, li59, li60, li91, li93, li96, li97, li100, li105, li122, li150, li200, li255, li400, li500, li600, li999, li1000, li1001, li2000, li2001, li2002, li2003, li2004, li2005, li2006, li32767, li100000, li_neg, li13, li17, li21, li22, li28, li29, li33, li34, li35, li37, li38, li39, li46, li49, li50, li51, li52, li53, li63, li80, li115, li160, gI_same, gI_ne, gI_eq2, gR_sI, gL_sI, gI_sL, gR_sL, gI_sR, gL_sR]
end
