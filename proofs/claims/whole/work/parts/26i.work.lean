/-! # functional level, 82: the class carries out -/
section
variable {M M' M1 M2 N N' : Mm} {q w p k n u : Nat} {B P W : TT}
def cX (M : Mm) (q w : Nat) (P : TT) (s : Sx) : Prop := isW M w P s.1 ∧ gI M q 5 = nI s.2.1 ∧ gI M q 6 = nI s.2.2.1 ∧ gI M q 7 = nI s.2.2.2
def cD (q w : Nat) (M M' : Mm) : Prop := Fr (fun a => a = q ∨ rg w 8 a) M M' ∧ ∀ j, j ≤ 4 → gI M' q j = gI M q j
theorem cD.rf (M : Mm) : cD q w M M := ⟨Fr.rf _ M, fun _ _ => rfl⟩
theorem cD.trans (h : cD q w M M1) (h2 : cD q w M1 M2) : cD q w M M2 := ⟨h.1.trans h2.1, fun j hj => (h2.2 j hj).trans (h.2 j hj)⟩
theorem cD_sI (h : cD q w M N) {j : Nat} {v : Int32} (hj : 5 ≤ j) : cD q w M (sI N q j v) := ⟨h.1.sI (Or.inl rfl), fun i hi => by rw [gI_ne (by omega)]; exact h.2 i hi⟩
theorem cD_fr (hq : q + 5 ≤ w) (h : Fr (rg w 8) M N) : cD q w M N := ⟨h.mono (fun a z => Or.inr z), fun j _ => h.i (by unfold rg; omega) j⟩
theorem isPl.cd (hq : q + 5 ≤ w) (h : isPl M q n B) (g : cD q w M N) : isPl N q n B := h.mv (g.2 4 (by omega)) (fun i k h1 h2 _ => g.1.i (by unfold rg; omega) k)
theorem isP.cd (hq : q + 5 ≤ w) (hw : w + 8 ≤ p) (h : isP M p P) (g : cD q w M N) : isP N p P := h.fr g.1 (fun x h1 h2 z => by unfold rg at z; omega)
theorem C_attempt (hq : q + 5 ≤ w) (hw : w + 8 ≤ p) (oP : okP P) (hL : isPl M q n B) (hP : isP M p P) (hk : k < n) (hn : n ≤ 25) (hW : isW M w P W) (oW : okD P W) (ho : okSp P B k) (h4 : B 0 k ≠ 4) : ∃ M', f_Plan_attempt q w p (nI k) M = some (nI (stz P B k W), M') ∧ isW M' w P (stp P B k W) ∧ Fr (rg w 8) M M' := by
  obtain ⟨g0, r0, r1, r2, _⟩ := hL.2 k hk
  obtain ⟨o0, o1, o2, o3, o4⟩ := ho
  unfold stp stz
  by_cases c0 : B 0 k = 0
  · rw [if_pos c0, if_pos c0]
    obtain ⟨x1, x2, x3⟩ := o0 c0
    obtain ⟨y1, y2, y3⟩ := r0 c0
    obtain ⟨M1, e1, g1, f1⟩ := C_write hP oP hW oW.1 (by omega) x1 x2 x3
    refine ⟨M1, ?_, g1, f1⟩
    rw [c0] at g0
    simp (disch := omega) only [f_Plan_attempt, g0, y1, y2, y3, e1, bI_s, bV_s, bL_s, bR_s, bG_s, bG_n, bX_l, bX_r, ck_nI, nI_clamp, nI_leT, nI_leF, nI_ltT, nI_ltF, nI_eqF, nI_add, pk_mul, ofN, bt_e, or0, Nat.zero_add, Nat.add_zero, ↓reduceIte, if_true, if_false, Bool.false_eq_true, eq_self, li0, li1, li2, li3, li4, li5, li6, li7, li8, li9, li10, li11, li12, li14, li15, li16, li18, li19, li20, li23, li24, li25, li26, li27, li30, li31, li32, li36, li40, li41, li42, li43, li44, li45, li47, li48, li57, li59, li60, li91, li93, li96, li97, li100, li105, li122, li150, li200, li255, li400, li500, li600, li999, li1000, li1001, li2000, li2001, li2002, li2003, li2004, li2005, li2006, li32767, li100000, li_neg, li13, li17, li21, li22, li28, li29, li33, li34, li35, li37, li38, li39, li46, li49, li50, li51, li52, li53, li63, li80, li115, li160]
  · rw [if_neg c0, if_neg c0]
    by_cases c1 : B 0 k = 1
    · rw [if_pos c1, if_pos c1]
      obtain ⟨M1, e1, g1, f1⟩ := C_slip hP oP hW oW.1 (o1 c1)
      have y1 := r1 c1
      refine ⟨M1, ?_, g1, f1⟩
      rw [c1] at g0
      simp (disch := omega) only [f_Plan_attempt, g0, y1, e1, bI_s, bV_s, bL_s, bR_s, bG_s, bG_n, bX_l, bX_r, ck_nI, nI_clamp, nI_leT, nI_leF, nI_ltT, nI_ltF, nI_eqF, nI_add, pk_mul, ofN, bt_e, or0, Nat.zero_add, Nat.add_zero, ↓reduceIte, if_true, if_false, Bool.false_eq_true, eq_self, li0, li1, li2, li3, li4, li5, li6, li7, li8, li9, li10, li11, li12, li14, li15, li16, li18, li19, li20, li23, li24, li25, li26, li27, li30, li31, li32, li36, li40, li41, li42, li43, li44, li45, li47, li48, li57, li59, li60, li91, li93, li96, li97, li100, li105, li122, li150, li200, li255, li400, li500, li600, li999, li1000, li1001, li2000, li2001, li2002, li2003, li2004, li2005, li2006, li32767, li100000, li_neg, li13, li17, li21, li22, li28, li29, li33, li34, li35, li37, li38, li39, li46, li49, li50, li51, li52, li53, li63, li80, li115, li160]
    · rw [if_neg c1, if_neg c1]
      by_cases c2 : B 0 k = 2
      · rw [if_pos c2, if_pos c2]
        have := o2 c2
        obtain ⟨M1, e1, g1, f1⟩ := C_rain oP hW oW.1 (lo := B 1 k) (by omega)
        have y1 := r2 c2
        refine ⟨M1, ?_, g1, f1⟩
        rw [c2] at g0
        simp (disch := omega) only [f_Plan_attempt, g0, y1, e1, bI_s, bV_s, bL_s, bR_s, bG_s, bG_n, bX_l, bX_r, ck_nI, nI_clamp, nI_leT, nI_leF, nI_ltT, nI_ltF, nI_eqF, nI_add, pk_mul, ofN, bt_e, or0, Nat.zero_add, Nat.add_zero, ↓reduceIte, if_true, if_false, Bool.false_eq_true, eq_self, li0, li1, li2, li3, li4, li5, li6, li7, li8, li9, li10, li11, li12, li14, li15, li16, li18, li19, li20, li23, li24, li25, li26, li27, li30, li31, li32, li36, li40, li41, li42, li43, li44, li45, li47, li48, li57, li59, li60, li91, li93, li96, li97, li100, li105, li122, li150, li200, li255, li400, li500, li600, li999, li1000, li1001, li2000, li2001, li2002, li2003, li2004, li2005, li2006, li32767, li100000, li_neg, li13, li17, li21, li22, li28, li29, li33, li34, li35, li37, li38, li39, li46, li49, li50, li51, li52, li53, li63, li80, li115, li160]
      · rw [if_neg c2, if_neg c2]
        have c3 : B 0 k = 3 := by omega
        rw [c3] at g0
        have d0 := hW.d0
        have o5 := oW.2
        by_cases c5 : W 0 0 < 500
        · rw [if_pos c5, if_pos c5]
          obtain ⟨M1, e1, g1, f1⟩ := C_turnDay hP oP hW (by omega)
          refine ⟨M1, ?_, g1, f1⟩
          simp (disch := omega) only [f_Plan_attempt, f_Wall_night, g0, d0, e1, bI_s, bV_s, bL_s, bR_s, bG_s, bG_n, bX_l, bX_r, ck_nI, nI_clamp, nI_leT, nI_leF, nI_ltT, nI_ltF, nI_eqF, nI_add, pk_mul, ofN, bt_e, or0, Nat.zero_add, Nat.add_zero, ↓reduceIte, if_true, if_false, Bool.false_eq_true, eq_self, li0, li1, li2, li3, li4, li5, li6, li7, li8, li9, li10, li11, li12, li14, li15, li16, li18, li19, li20, li23, li24, li25, li26, li27, li30, li31, li32, li36, li40, li41, li42, li43, li44, li45, li47, li48, li57, li59, li60, li91, li93, li96, li97, li100, li105, li122, li150, li200, li255, li400, li500, li600, li999, li1000, li1001, li2000, li2001, li2002, li2003, li2004, li2005, li2006, li32767, li100000, li_neg, li13, li17, li21, li22, li28, li29, li33, li34, li35, li37, li38, li39, li46, li49, li50, li51, li52, li53, li63, li80, li115, li160]
        · rw [if_neg c5, if_neg c5]
          refine ⟨M, ?_, hW, Fr.rf _ M⟩
          simp (disch := omega) only [f_Plan_attempt, f_Wall_night, g0, d0, bI_s, bV_s, bL_s, bR_s, bG_s, bG_n, bX_l, bX_r, ck_nI, nI_clamp, nI_leT, nI_leF, nI_ltT, nI_ltF, nI_eqF, nI_add, pk_mul, ofN, bt_e, or0, Nat.zero_add, Nat.add_zero, ↓reduceIte, if_true, if_false, Bool.false_eq_true, eq_self, li0, li1, li2, li3, li4, li5, li6, li7, li8, li9, li10, li11, li12, li14, li15, li16, li18, li19, li20, li23, li24, li25, li26, li27, li30, li31, li32, li36, li40, li41, li42, li43, li44, li45, li47, li48, li57, li59, li60, li91, li93, li96, li97, li100, li105, li122, li150, li200, li255, li400, li500, li600, li999, li1000, li1001, li2000, li2001, li2002, li2003, li2004, li2005, li2006, li32767, li100000, li_neg, li13, li17, li21, li22, li28, li29, li33, li34, li35, li37, li38, li39, li46, li49, li50, li51, li52, li53, li63, li80, li115, li160]
theorem C_exec (hq : q + 5 ≤ w) (hw : w + 8 ≤ p) (oP : okP P) (hn : n ≤ 25) : ∀ (u k d lo hi op : Nat) (p2 : Int32) (v : Nat) (M : Mm) (s : Sx), wfs P B u d lo hi → d + op = 6 → 6 ≤ k + op → hi ≤ n → u < v → u ≤ 25 → isPl M q n B → isP M p P → cX M q w P s → xok P s → ∃ M', f_Plan_doSteps_b (f_Plan_doSteps k) v q w p p2 (nI hi) (nI op) (nI lo) M = some M' ∧ cD q w M M' ∧ cX M' q w P (ex P B u lo hi s) ∧ xok P (ex P B u lo hi s) := by
  intro u
  induction u with
  | zero =>
    intro k d lo hi op p2 v M s hf hd hk hh hv h25 hL hP hX hx
    obtain ⟨v, rfl⟩ : ∃ z, v = z + 1 := ⟨v - 1, by omega⟩
    have hf : lo = hi := hf
    refine ⟨M, ?_, cD.rf M, hX, hx⟩
    simp (disch := omega) only [f_Plan_doSteps_b, hf, bI_s, bV_s, bL_s, bR_s, bG_s, bG_n, bX_l, bX_r, ck_nI, nI_clamp, nI_leT, nI_leF, nI_ltT, nI_ltF, nI_eqF, nI_add, pk_mul, ofN, bt_e, or0, Nat.zero_add, Nat.add_zero, ↓reduceIte, if_true, if_false, Bool.false_eq_true, eq_self, li0, li1, li2, li3, li4, li5, li6, li7, li8, li9, li10, li11, li12, li14, li15, li16, li18, li19, li20, li23, li24, li25, li26, li27, li30, li31, li32, li36, li40, li41, li42, li43, li44, li45, li47, li48, li57, li59, li60, li91, li93, li96, li97, li100, li105, li122, li150, li200, li255, li400, li500, li600, li999, li1000, li1001, li2000, li2001, li2002, li2003, li2004, li2005, li2006, li32767, li100000, li_neg, li13, li17, li21, li22, li28, li29, li33, li34, li35, li37, li38, li39, li46, li49, li50, li51, li52, li53, li63, li80, li115, li160]
  | succ u ih =>
    intro k d lo hi op p2 v M s hf hd hk hh hv h25 hL hP hX hx
    obtain ⟨v, rfl⟩ : ∃ z, v = z + 2 := ⟨v - 2, by omega⟩
    obtain ⟨W, bg, dn, rf⟩ := s
    obtain ⟨hW, x5, x6, x7⟩ := id hX
    dsimp only at hW x5 x6 x7
    obtain ⟨oW, hb⟩ := id hx
    dsimp only at oW hb
    have l200 : (200 : Int32) = nI 200 := rfl
    rcases hf with hf | ⟨⟨h1, ho⟩, ⟨h2, h3⟩, h4, h5, h6⟩
    · rw [hf, ex_end]
      refine ⟨M, ?_, cD.rf M, hX, hx⟩
      simp (disch := omega) only [f_Plan_doSteps_b, bI_s, bV_s, bL_s, bR_s, bG_s, bG_n, bX_l, bX_r, ck_nI, nI_clamp, nI_leT, nI_leF, nI_ltT, nI_ltF, nI_eqF, nI_add, pk_mul, ofN, bt_e, or0, Nat.zero_add, Nat.add_zero, ↓reduceIte, if_true, if_false, Bool.false_eq_true, eq_self, li0, li1, li2, li3, li4, li5, li6, li7, li8, li9, li10, li11, li12, li14, li15, li16, li18, li19, li20, li23, li24, li25, li26, li27, li30, li31, li32, li36, li40, li41, li42, li43, li44, li45, li47, li48, li57, li59, li60, li91, li93, li96, li97, li100, li105, li122, li150, li200, li255, li400, li500, li600, li999, li1000, li1001, li2000, li2001, li2002, li2003, li2004, li2005, li2006, li32767, li100000, li_neg, li13, li17, li21, li22, li28, li29, li33, li34, li35, li37, li38, li39, li46, li49, li50, li51, li52, li53, li63, li80, li115, li160]
    · by_cases c2 : 200 ≤ bg
      · rw [ex_id (s := (W, bg, dn, rf)) c2]
        refine ⟨M, ?_, cD.rf M, hX, hx⟩
        simp (disch := omega) only [f_Plan_doSteps_b, l200, x5, bI_s, bV_s, bL_s, bR_s, bG_s, bG_n, bX_l, bX_r, ck_nI, nI_clamp, nI_leT, nI_leF, nI_ltT, nI_ltF, nI_eqF, nI_add, pk_mul, ofN, bt_e, or0, Nat.zero_add, Nat.add_zero, ↓reduceIte, if_true, if_false, Bool.false_eq_true, eq_self, li0, li1, li2, li3, li4, li5, li6, li7, li8, li9, li10, li11, li12, li14, li15, li16, li18, li19, li20, li23, li24, li25, li26, li27, li30, li31, li32, li36, li40, li41, li42, li43, li44, li45, li47, li48, li57, li59, li60, li91, li93, li96, li97, li100, li105, li122, li150, li200, li255, li400, li500, li600, li999, li1000, li1001, li2000, li2001, li2002, li2003, li2004, li2005, li2006, li32767, li100000, li_neg, li13, li17, li21, li22, li28, li29, li33, li34, li35, li37, li38, li39, li46, li49, li50, li51, li52, li53, li63, li80, li115, li160]
      · have ee : ex P B (u + 1) lo hi (W, bg, dn, rf) = if B 0 lo = 4 then ex P B u (B 4 lo) hi (fo (B 1 lo) (fun _ x => ex P B u (lo + 1) (B 4 lo) x) (W, bg + 1, dn, rf)) else ex P B u (B 4 lo) hi (stp P B lo W, bg + 1, dn + stz P B lo W, rf + (1 - stz P B lo W)) := if_neg (by show ¬ (hi ≤ lo ∨ 200 ≤ bg); omega)
        rw [ee]
        have D1 : cD q w M (sI M q 5 (nI (bg + 1))) := cD_sI (cD.rf M) (by omega)
        have L1 := hL.cd hq D1
        have P1 := hP.cd hq hw D1
        have X1 : cX (sI M q 5 (nI (bg + 1))) q w P (W, bg + 1, dn, rf) := ⟨hW.fr ((Fr.rf (fun a => a = q) M).sI rfl) (fun x h1 h2 z => by omega), gI_same .., by rw [gI_ne (by omega)]; exact x6, by rw [gI_ne (by omega)]; exact x7⟩
        obtain ⟨g0, _, _, _, r4⟩ := L1.2 lo (by omega)
        have g0' : gI (sI M q 5 (nI (bg + 1))) (q + 1) lo = nI (B 0 lo) := g0
        by_cases c4 : B 0 lo = 4
        · rw [if_pos c4]
          obtain ⟨d1, wb⟩ := h5 c4
          obtain ⟨y1, y2⟩ := r4 c4
          have t30 := ho.2.2.2.1 c4
          rw [c4] at g0'
          have eb : f_Plan_doSteps_b (f_Plan_doSteps k) (v + 2) q w p p2 (nI hi) (nI op) (nI lo) M = f_Plan_doSteps_c (f_Plan_doSteps k) (f_Plan_doSteps_b (f_Plan_doSteps k) (v + 1)) FU q w p p2 (nI hi) (nI op) (nI lo) (nI 0) (sI M q 5 (nI (bg + 1))) := by
            conv => lhs; unfold f_Plan_doSteps_b
            simp (disch := omega) only [l200, x5, g0', bI_s, bV_s, bL_s, bR_s, bG_s, bG_n, bX_l, bX_r, ck_nI, nI_clamp, nI_leT, nI_leF, nI_ltT, nI_ltF, nI_eqF, nI_add, pk_mul, ofN, bt_e, or0, Nat.zero_add, Nat.add_zero, ↓reduceIte, if_true, if_false, Bool.false_eq_true, eq_self, li0, li1, li2, li3, li4, li5, li6, li7, li8, li9, li10, li11, li12, li14, li15, li16, li18, li19, li20, li23, li24, li25, li26, li27, li30, li31, li32, li36, li40, li41, li42, li43, li44, li45, li47, li48, li57, li59, li60, li91, li93, li96, li97, li100, li105, li122, li150, li200, li255, li400, li500, li600, li999, li1000, li1001, li2000, li2001, li2002, li2003, li2004, li2005, li2006, li32767, li100000, li_neg, li13, li17, li21, li22, li28, li29, li33, li34, li35, li37, li38, li39, li46, li49, li50, li51, li52, li53, li63, li80, li115, li160]
          obtain ⟨k, rfl⟩ : ∃ z, k = z + 1 := ⟨k - 1, by omega⟩
          obtain ⟨M2, e2, D2, X2, x2⟩ := lp_to (fun z i (N : Mm) => f_Plan_doSteps_c (f_Plan_doSteps (k + 1)) (f_Plan_doSteps_b (f_Plan_doSteps (k + 1)) (v + 1)) z q w p p2 (nI hi) (nI op) (nI lo) (nI i) N) (B 1 lo) (fun i N => cD q w (sI M q 5 (nI (bg + 1))) N ∧ cX N q w P (fo i (fun _ x => ex P B u (lo + 1) (B 4 lo) x) (W, bg + 1, dn, rf)) ∧ xok P (fo i (fun _ x => ex P B u (lo + 1) (B 4 lo) x) (W, bg + 1, dn, rf))) (fun N => f_Plan_doSteps_b (f_Plan_doSteps (k + 1)) (v + 1) q w p p2 (nI hi) (nI op) (nI (B 4 lo)) N)
            (fun z i N hi2 hI => by
              obtain ⟨D, X, xx⟩ := hI
              have LN := L1.cd hq D
              obtain ⟨_, _, _, _, rn⟩ := LN.2 lo (by omega)
              obtain ⟨w1, w2⟩ := rn c4
              obtain ⟨N', e', D', X', xx'⟩ := ih k (d - 1) (lo + 1) (B 4 lo) (op + 1) (nI (lo + 1)) FU N _ wb (by omega) (by omega) (by omega) (FU_lt (by omega)) (by omega) LN (P1.cd hq hw D) X xx
              have e'' : f_Plan_doSteps (k + 1) q w p (nI (lo + 1)) (nI (B 4 lo)) (nI (op + 1)) N = some N' := e'
              refine ⟨N', ?_, D.trans D', X', xx'⟩
              simp (disch := omega) only [f_Plan_doSteps_c, w1, w2, e'', bI_s, bV_s, bL_s, bR_s, bG_s, bG_n, bX_l, bX_r, ck_nI, nI_clamp, nI_leT, nI_leF, nI_ltT, nI_ltF, nI_eqF, nI_add, pk_mul, ofN, bt_e, or0, Nat.zero_add, Nat.add_zero, ↓reduceIte, if_true, if_false, Bool.false_eq_true, eq_self, li0, li1, li2, li3, li4, li5, li6, li7, li8, li9, li10, li11, li12, li14, li15, li16, li18, li19, li20, li23, li24, li25, li26, li27, li30, li31, li32, li36, li40, li41, li42, li43, li44, li45, li47, li48, li57, li59, li60, li91, li93, li96, li97, li100, li105, li122, li150, li200, li255, li400, li500, li600, li999, li1000, li1001, li2000, li2001, li2002, li2003, li2004, li2005, li2006, li32767, li100000, li_neg, li13, li17, li21, li22, li28, li29, li33, li34, li35, li37, li38, li39, li46, li49, li50, li51, li52, li53, li63, li80, li115, li160])
            (fun z N hI => by
              obtain ⟨D, X, xx⟩ := hI
              have LN := L1.cd hq D
              obtain ⟨_, _, _, _, rn⟩ := LN.2 lo (by omega)
              obtain ⟨w1, w2⟩ := rn c4
              simp (disch := omega) only [f_Plan_doSteps_c, w1, w2, bI_s, bV_s, bL_s, bR_s, bG_s, bG_n, bX_l, bX_r, ck_nI, nI_clamp, nI_leT, nI_leF, nI_ltT, nI_ltF, nI_eqF, nI_add, pk_mul, ofN, bt_e, or0, Nat.zero_add, Nat.add_zero, ↓reduceIte, if_true, if_false, Bool.false_eq_true, eq_self, li0, li1, li2, li3, li4, li5, li6, li7, li8, li9, li10, li11, li12, li14, li15, li16, li18, li19, li20, li23, li24, li25, li26, li27, li30, li31, li32, li36, li40, li41, li42, li43, li44, li45, li47, li48, li57, li59, li60, li91, li93, li96, li97, li100, li105, li122, li150, li200, li255, li400, li500, li600, li999, li1000, li1001, li2000, li2001, li2002, li2003, li2004, li2005, li2006, li32767, li100000, li_neg, li13, li17, li21, li22, li28, li29, li33, li34, li35, li37, li38, li39, li46, li49, li50, li51, li52, li53, li63, li80, li115, li160])
            (sI M q 5 (nI (bg + 1))) ⟨cD.rf _, X1, oW, by show bg + 1 ≤ 200; omega⟩ FU (FU_lt (by omega))
          obtain ⟨M3, e3, D3, X3, x3⟩ := ih (k + 1) d (B 4 lo) hi op p2 (v + 1) M2 _ h6 hd hk hh (by omega) (by omega) (L1.cd hq D2) (P1.cd hq hw D2) X2 x2
          exact ⟨M3, (eb.trans e2).trans e3, (D1.trans D2).trans D3, X3, x3⟩
        · rw [if_neg c4]
          have j1 := h4 c4
          obtain ⟨M2, e2, W2, F2⟩ := C_attempt hq hw oP L1 P1 (by omega) hn X1.1 oW ho c4
          have D2 := cD_fr hq F2
          have z1 := stz_1 (P := P) (B := B) lo W
          have v5 : gI M2 q 5 = nI (bg + 1) := by rw [F2.i (by unfold rg; omega)]; exact X1.2.1
          have v6 : gI M2 q 6 = nI dn := by rw [F2.i (by unfold rg; omega)]; exact X1.2.2.1
          have v7 : gI M2 q 7 = nI rf := by rw [F2.i (by unfold rg; omega)]; exact X1.2.2.2
          have n4 : B 0 lo ≠ 4 := c4
          have b4 := ho.2.2.2.2
          have okn := stp_ok oP oW ho
          by_cases cz : stz P B lo W = 0
          · rw [cz] at e2 ⊢
            have X3 : cX (sI M2 q 7 (nI (rf + 1))) q w P (stp P B lo W, bg + 1, dn + 0, rf + (1 - 0)) := ⟨W2.fr ((Fr.rf (fun a => a = q) M2).sI rfl) (fun x h1 h2 z => by omega), by rw [gI_ne (by omega)]; exact v5, by rw [gI_ne (by omega)]; exact v6, gI_same ..⟩
            have D3 : cD q w M (sI M2 q 7 (nI (rf + 1))) := cD_sI (D1.trans D2) (by omega)
            obtain ⟨M3, e3, D4, X4, x4⟩ := ih k d (B 4 lo) hi op p2 (v + 1) _ _ h6 hd hk hh (by omega) (by omega) (hL.cd hq D3) (hP.cd hq hw D3) X3 ⟨okn, by show bg + 1 ≤ 200; omega⟩
            refine ⟨M3, ?_, D3.trans D4, X4, x4⟩
            rw [← e3, j1]
            conv => lhs; unfold f_Plan_doSteps_b
            simp (disch := omega) only [l200, x5, g0', nI_eqF n4, e2, v7, bI_s, bV_s, bL_s, bR_s, bG_s, bG_n, bX_l, bX_r, ck_nI, nI_clamp, nI_leT, nI_leF, nI_ltT, nI_ltF, nI_eqF, nI_add, pk_mul, ofN, bt_e, or0, Nat.zero_add, Nat.add_zero, ↓reduceIte, if_true, if_false, Bool.false_eq_true, eq_self, li0, li1, li2, li3, li4, li5, li6, li7, li8, li9, li10, li11, li12, li14, li15, li16, li18, li19, li20, li23, li24, li25, li26, li27, li30, li31, li32, li36, li40, li41, li42, li43, li44, li45, li47, li48, li57, li59, li60, li91, li93, li96, li97, li100, li105, li122, li150, li200, li255, li400, li500, li600, li999, li1000, li1001, li2000, li2001, li2002, li2003, li2004, li2005, li2006, li32767, li100000, li_neg, li13, li17, li21, li22, li28, li29, li33, li34, li35, li37, li38, li39, li46, li49, li50, li51, li52, li53, li63, li80, li115, li160]
          · have cz : stz P B lo W = 1 := by omega
            rw [cz] at e2 ⊢
            have X3 : cX (sI M2 q 6 (nI (dn + 1))) q w P (stp P B lo W, bg + 1, dn + 1, rf + (1 - 1)) := ⟨W2.fr ((Fr.rf (fun a => a = q) M2).sI rfl) (fun x h1 h2 z => by omega), by rw [gI_ne (by omega)]; exact v5, gI_same .., by rw [gI_ne (by omega)]; exact v7⟩
            have D3 : cD q w M (sI M2 q 6 (nI (dn + 1))) := cD_sI (D1.trans D2) (by omega)
            obtain ⟨M3, e3, D4, X4, x4⟩ := ih k d (B 4 lo) hi op p2 (v + 1) _ _ h6 hd hk hh (by omega) (by omega) (hL.cd hq D3) (hP.cd hq hw D3) X3 ⟨okn, by show bg + 1 ≤ 200; omega⟩
            refine ⟨M3, ?_, D3.trans D4, X4, x4⟩
            rw [← e3, j1]
            conv => lhs; unfold f_Plan_doSteps_b
            simp (disch := omega) only [l200, x5, g0', nI_eqF n4, e2, v6, bI_s, bV_s, bL_s, bR_s, bG_s, bG_n, bX_l, bX_r, ck_nI, nI_clamp, nI_leT, nI_leF, nI_ltT, nI_ltF, nI_eqF, nI_add, pk_mul, ofN, bt_e, or0, Nat.zero_add, Nat.add_zero, ↓reduceIte, if_true, if_false, Bool.false_eq_true, eq_self, li0, li1, li2, li3, li4, li5, li6, li7, li8, li9, li10, li11, li12, li14, li15, li16, li18, li19, li20, li23, li24, li25, li26, li27, li30, li31, li32, li36, li40, li41, li42, li43, li44, li45, li47, li48, li57, li59, li60, li91, li93, li96, li97, li100, li105, li122, li150, li200, li255, li400, li500, li600, li999, li1000, li1001, li2000, li2001, li2002, li2003, li2004, li2005, li2006, li32767, li100000, li_neg, li13, li17, li21, li22, li28, li29, li33, li34, li35, li37, li38, li39, li46, li49, li50, li51, li52, li53, li63, li80, li115, li160]
theorem C_carry (hq : q + 5 ≤ w) (hw : w + 8 ≤ p) (oP : okP P) (hn : n ≤ 25) (hf : wfs P B n 6 0 n) (hL : isPl M q n B) (hP : isP M p P) (hW : isW M w P W) (oW : okD P W) : ∃ M', f_Plan_carryOut q w p M = some M' ∧ cD q w M M' ∧ cX M' q w P (ex P B n 0 n (W, 0, 0, 0)) ∧ xok P (ex P B n 0 n (W, 0, 0, 0)) := by
  have D1 : cD q w M (sI (sI (sI M q 5 (nI 0)) q 6 (nI 0)) q 7 (nI 0)) := cD_sI (cD_sI (cD_sI (cD.rf M) (by omega)) (by omega)) (by omega)
  have L1 := hL.cd hq D1
  have X1 : cX (sI (sI (sI M q 5 (nI 0)) q 6 (nI 0)) q 7 (nI 0)) q w P (W, 0, 0, 0) := ⟨hW.fr ((((Fr.rf (fun a => a = q) M).sI rfl).sI rfl).sI rfl) (fun x h1 h2 z => by omega), by simp (disch := omega) only [gI_same, gI_ne, gI_eq2, gR_sI, gL_sI, gI_sL, gR_sL, gI_sR, gL_sR], by simp (disch := omega) only [gI_same, gI_ne, gI_eq2, gR_sI, gL_sI, gI_sL, gR_sL, gI_sR, gL_sR], gI_same ..⟩
  obtain ⟨M2, e2, D2, X2, x2⟩ := C_exec hq hw oP hn n 7 6 0 n 0 (nI 0) FU _ (W, 0, 0, 0) hf (by omega) (by omega) (Nat.le_refl _) (FU_lt (by omega)) hn L1 (hP.cd hq hw D1) X1 ⟨oW, by show (0 : Nat) ≤ 200; omega⟩
  refine ⟨M2, ?_, D1.trans D2, X2, x2⟩
  have m4 := L1.1
  have e2 : f_Plan_doSteps 8 q w p (nI 0) (nI n) (nI 0) (sI (sI (sI M q 5 (nI 0)) q 6 (nI 0)) q 7 (nI 0)) = some M2 := e2
  simp (disch := omega) only [f_Plan_carryOut, m4, e2, bI_s, bV_s, bL_s, bR_s, bG_s, bG_n, bX_l, bX_r, ck_nI, nI_clamp, nI_leT, nI_leF, nI_ltT, nI_ltF, nI_eqF, nI_add, pk_mul, ofN, bt_e, or0, Nat.zero_add, Nat.add_zero, ↓reduceIte, if_true, if_false, Bool.false_eq_true, eq_self, li0, li1, li2, li3, li4, li5, li6, li7, li8, li9, li10, li11, li12, li14, li15, li16, li18, li19, li20, li23, li24, li25, li26, li27, li30, li31, li32, li36, li40, li41, li42, li43, li44, li45, li47, li48, li57, li59, li60, li91, li93, li96, li97, li100, li105, li122, li150, li200, li255, li400, li500, li600, li999, li1000, li1001, li2000, li2001, li2002, li2003, li2004, li2005, li2006, li32767, li100000, li_neg, li13, li17, li21, li22, li28, li29, li33, li34, li35, li37, li38, li39, li46, li49, li50, li51, li52, li53, li63, li80, li115, li160]
end
