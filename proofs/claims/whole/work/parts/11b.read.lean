/-! # functional level, 3: what is read off a wall -/
section
variable {M : Mm} {p m o a : Nat} {P W : TT}
theorem C_lettersOn (hP : isP M p P) (oP : okP P) (hW : isW M o P W) (oW : okW P W) {r : Nat} (hr : r < 2 ^ 31) : f_Wall_lettersOn o p (nI r) M = some (nI (ltr P W r), M) := by
  have oL := oW.l
  have hB := oP.b
  refine lp_up (fun u i s => f_Wall_lettersOn_b u o p (nI r) (nI s) (nI i) M) (W 0 2) (fun k s => s + if W 3 k = r then P 3 (W 1 k) else 0) _ 0 (fun u i s hi => ?_) (fun u => ?_) FU (FU_lt (by omega))
  · have h1 := oW.b hi
    have h3 := oW.r hi
    have h4 := oP.r
    have h2 := oP.len h1
    by_cases c : W 3 i = r
    · simp (disch := omega) only [f_Wall_lettersOn_b, hW.l, hW.b hi, hW.r hi, hP.len h1, c, bI_s, bV_s, bL_s, bR_s, bG_s, bG_n, bX_l, bX_r, ck_nI, nI_clamp, nI_leT, nI_leF, nI_ltT, nI_ltF, nI_eqF, nI_add, pk_mul, ofN, bt_e, or0, Nat.zero_add, Nat.add_zero, ↓reduceIte, if_true, if_false, li0, li1, li2, li3, li4, li5, li6, li7, li8, li9, li10, li11, li12, li14, li15, li16, li18, li19, li20, li23, li24, li25, li26, li27, li30, li31, li32, li36, li40, li41, li42, li43, li44, li45, li47, li48, li57, li59, li60, li91, li93, li96, li97, li100, li105, li122, li150, li200, li255, li400, li500, li600, li999, li1000, li1001, li2000, li2001, li2002, li2003, li2004, li2005, li2006, li32767, li100000, li_neg]
    · simp (disch := omega) only [f_Wall_lettersOn_b, hW.l, hW.b hi, hW.r hi, hP.len h1, c, bI_s, bV_s, bL_s, bR_s, bG_s, bG_n, bX_l, bX_r, ck_nI, nI_clamp, nI_leT, nI_leF, nI_ltT, nI_ltF, nI_eqF, nI_add, pk_mul, ofN, bt_e, or0, Nat.zero_add, Nat.add_zero, ↓reduceIte, if_true, if_false, li0, li1, li2, li3, li4, li5, li6, li7, li8, li9, li10, li11, li12, li14, li15, li16, li18, li19, li20, li23, li24, li25, li26, li27, li30, li31, li32, li36, li40, li41, li42, li43, li44, li45, li47, li48, li57, li59, li60, li91, li93, li96, li97, li100, li105, li122, li150, li200, li255, li400, li500, li600, li999, li1000, li1001, li2000, li2001, li2002, li2003, li2004, li2005, li2006, li32767, li100000, li_neg]
  · simp (disch := omega) only [f_Wall_lettersOn_b, hW.l, bI_s, bV_s, bL_s, bR_s, bG_s, bG_n, bX_l, bX_r, ck_nI, nI_clamp, nI_leT, nI_leF, nI_ltT, nI_ltF, nI_eqF, nI_add, pk_mul, ofN, bt_e, or0, Nat.zero_add, Nat.add_zero, ↓reduceIte, if_true, if_false, li0, li1, li2, li3, li4, li5, li6, li7, li8, li9, li10, li11, li12, li14, li15, li16, li18, li19, li20, li23, li24, li25, li26, li27, li30, li31, li32, li36, li40, li41, li42, li43, li44, li45, li47, li48, li57, li59, li60, li91, li93, li96, li97, li100, li105, li122, li150, li200, li255, li400, li500, li600, li999, li1000, li1001, li2000, li2001, li2002, li2003, li2004, li2005, li2006, li32767, li100000, li_neg]
    rw [fo_sm _ (fun k s _ => rfl)]; rfl
theorem C_roomOn (hP : isP M p P) (oP : okP P) (hW : isW M o P W) (oW : okW P W) {r : Nat} (hr : r < P 0 0) : f_Wall_roomOn o p (nI r) M = some (nI (P 1 r - ltr P W r), M) := by
  have h4 := oP.r
  have h5 := oW.room hr
  simp (disch := omega) only [f_Wall_roomOn, C_lettersOn hP oP hW oW (show r < 2 ^ 31 by omega), hP.wide hr, pk_sub h5, bI_s, bV_s, bL_s, bR_s, bG_s, bG_n, bX_l, bX_r, ck_nI, nI_clamp, nI_leT, nI_leF, nI_ltT, nI_ltF, nI_eqF, nI_add, pk_mul, ofN, bt_e, or0, Nat.zero_add, Nat.add_zero, ↓reduceIte, if_true, if_false, li0, li1, li2, li3, li4, li5, li6, li7, li8, li9, li10, li11, li12, li14, li15, li16, li18, li19, li20, li23, li24, li25, li26, li27, li30, li31, li32, li36, li40, li41, li42, li43, li44, li45, li47, li48, li57, li59, li60, li91, li93, li96, li97, li100, li105, li122, li150, li200, li255, li400, li500, li600, li999, li1000, li1001, li2000, li2001, li2002, li2003, li2004, li2005, li2006, li32767, li100000, li_neg]
theorem M_lineOf (hN : isN M a P W) (oW : okW P W) {k : Nat} (hk : k < W 0 2) : (f_M_lineOf a 105 (nI k) (nI 0) M = some (nI (W 1 k), M) ∧ f_M_lineOf a 105 (nI k) (nI 1) M = some (nI (W 2 k), M)) ∧ f_M_lineOf a 105 (nI k) (nI 2) M = some (nI (W 3 k), M) ∧ f_M_lineOf a 105 (nI k) (nI 3) M = some (nI (W 4 k), M) := by
  have oL := oW.l
  refine ⟨⟨?_, ?_⟩, ?_, ?_⟩
  · simp (disch := omega) only [f_M_lineOf, hN.b hk, bI_s, bV_s, bL_s, bR_s, bG_s, bG_n, bX_l, bX_r, ck_nI, nI_clamp, nI_leT, nI_leF, nI_ltT, nI_ltF, nI_eqF, nI_add, pk_mul, ofN, bt_e, or0, Nat.zero_add, Nat.add_zero, ↓reduceIte, if_true, if_false, li0, li1, li2, li3, li4, li5, li6, li7, li8, li9, li10, li11, li12, li14, li15, li16, li18, li19, li20, li23, li24, li25, li26, li27, li30, li31, li32, li36, li40, li41, li42, li43, li44, li45, li47, li48, li57, li59, li60, li91, li93, li96, li97, li100, li105, li122, li150, li200, li255, li400, li500, li600, li999, li1000, li1001, li2000, li2001, li2002, li2003, li2004, li2005, li2006, li32767, li100000, li_neg]
  · simp (disch := omega) only [f_M_lineOf, hN.ac hk, bI_s, bV_s, bL_s, bR_s, bG_s, bG_n, bX_l, bX_r, ck_nI, nI_clamp, nI_leT, nI_leF, nI_ltT, nI_ltF, nI_eqF, nI_add, pk_mul, ofN, bt_e, or0, Nat.zero_add, Nat.add_zero, ↓reduceIte, if_true, if_false, li0, li1, li2, li3, li4, li5, li6, li7, li8, li9, li10, li11, li12, li14, li15, li16, li18, li19, li20, li23, li24, li25, li26, li27, li30, li31, li32, li36, li40, li41, li42, li43, li44, li45, li47, li48, li57, li59, li60, li91, li93, li96, li97, li100, li105, li122, li150, li200, li255, li400, li500, li600, li999, li1000, li1001, li2000, li2001, li2002, li2003, li2004, li2005, li2006, li32767, li100000, li_neg]
  · simp (disch := omega) only [f_M_lineOf, hN.r hk, bI_s, bV_s, bL_s, bR_s, bG_s, bG_n, bX_l, bX_r, ck_nI, nI_clamp, nI_leT, nI_leF, nI_ltT, nI_ltF, nI_eqF, nI_add, pk_mul, ofN, bt_e, or0, Nat.zero_add, Nat.add_zero, ↓reduceIte, if_true, if_false, li0, li1, li2, li3, li4, li5, li6, li7, li8, li9, li10, li11, li12, li14, li15, li16, li18, li19, li20, li23, li24, li25, li26, li27, li30, li31, li32, li36, li40, li41, li42, li43, li44, li45, li47, li48, li57, li59, li60, li91, li93, li96, li97, li100, li105, li122, li150, li200, li255, li400, li500, li600, li999, li1000, li1001, li2000, li2001, li2002, li2003, li2004, li2005, li2006, li32767, li100000, li_neg]
  · simp (disch := omega) only [f_M_lineOf, hN.w hk, bI_s, bV_s, bL_s, bR_s, bG_s, bG_n, bX_l, bX_r, ck_nI, nI_clamp, nI_leT, nI_leF, nI_ltT, nI_ltF, nI_eqF, nI_add, pk_mul, ofN, bt_e, or0, Nat.zero_add, Nat.add_zero, ↓reduceIte, if_true, if_false, li0, li1, li2, li3, li4, li5, li6, li7, li8, li9, li10, li11, li12, li14, li15, li16, li18, li19, li20, li23, li24, li25, li26, li27, li30, li31, li32, li36, li40, li41, li42, li43, li44, li45, li47, li48, li57, li59, li60, li91, li93, li96, li97, li100, li105, li122, li150, li200, li255, li400, li500, li600, li999, li1000, li1001, li2000, li2001, li2002, li2003, li2004, li2005, li2006, li32767, li100000, li_neg]
theorem M_roomOf (hQ : isQ M m P) (oP : okP P) (hN : isN M a P W) (oW : okW P W) {r : Nat} (hr : r < P 0 0) : f_M_roomOf m a 105 (nI r) M = some (nI (P 1 r - ltr P W r), M) := by
  have oL := oW.l
  have h4 := oP.r
  have h5 := oW.room hr
  have hB := oP.b
  simp (disch := omega) only [f_M_roomOf, hQ.wide hr, bI_s, bV_s, bL_s, bR_s, bG_s, bG_n, bX_l, bX_r, ck_nI, nI_clamp, nI_leT, nI_leF, nI_ltT, nI_ltF, nI_eqF, nI_add, pk_mul, ofN, bt_e, or0, Nat.zero_add, Nat.add_zero, ↓reduceIte, if_true, if_false, li0, li1, li2, li3, li4, li5, li6, li7, li8, li9, li10, li11, li12, li14, li15, li16, li18, li19, li20, li23, li24, li25, li26, li27, li30, li31, li32, li36, li40, li41, li42, li43, li44, li45, li47, li48, li57, li59, li60, li91, li93, li96, li97, li100, li105, li122, li150, li200, li255, li400, li500, li600, li999, li1000, li1001, li2000, li2001, li2002, li2003, li2004, li2005, li2006, li32767, li100000, li_neg]
  have hw := oP.wide hr
  have mono : ∀ i, i ≤ W 0 2 → sm i (fun k => if W 3 k = r then P 3 (W 1 k) else 0) ≤ P 1 r := by
    intro i hi
    refine Nat.le_trans ?_ h5
    exact sm_mono _ hi
  have key := lp_upI (fun u i s => f_M_roomOf_b u m a 105 (nI r) (nI (P 1 r - s)) (nI i) M) (W 0 2) (fun k s => s + if W 3 k = r then P 3 (W 1 k) else 0) (some (nI (P 1 r - ltr P W r), M)) 0 (fun i s => s = sm i (fun k => if W 3 k = r then P 3 (W 1 k) else 0)) rfl (fun u i s hi hI => ?_) (fun u hI => ?_) FU (FU_lt (by omega))
  · exact key
  · refine ⟨?_, by subst hI; rfl⟩
    have h1 := oW.b hi
    have h3 := oW.r hi
    have h2 := oP.len h1
    have mo := mono (i + 1) hi
    have mo2 : sm (i + 1) (fun k => if W 3 k = r then P 3 (W 1 k) else 0) = s + if W 3 i = r then P 3 (W 1 i) else 0 := by subst hI; rfl
    rw [mo2] at mo
    by_cases c : W 3 i = r
    · rw [if_pos c] at mo
      simp (disch := omega) only [f_M_roomOf_b, hN.l, (M_lineOf hN oW hi).1.1, (M_lineOf hN oW hi).2.1, hQ.len h1, c, pk_sub, Nat.sub_sub, bI_s, bV_s, bL_s, bR_s, bG_s, bG_n, bX_l, bX_r, ck_nI, nI_clamp, nI_leT, nI_leF, nI_ltT, nI_ltF, nI_eqF, nI_add, pk_mul, ofN, bt_e, or0, Nat.zero_add, Nat.add_zero, ↓reduceIte, if_true, if_false, li0, li1, li2, li3, li4, li5, li6, li7, li8, li9, li10, li11, li12, li14, li15, li16, li18, li19, li20, li23, li24, li25, li26, li27, li30, li31, li32, li36, li40, li41, li42, li43, li44, li45, li47, li48, li57, li59, li60, li91, li93, li96, li97, li100, li105, li122, li150, li200, li255, li400, li500, li600, li999, li1000, li1001, li2000, li2001, li2002, li2003, li2004, li2005, li2006, li32767, li100000, li_neg]
    · rw [if_neg c] at mo
      simp (disch := omega) only [f_M_roomOf_b, hN.l, (M_lineOf hN oW hi).1.1, (M_lineOf hN oW hi).2.1, hQ.len h1, c, pk_sub, Nat.sub_zero, bI_s, bV_s, bL_s, bR_s, bG_s, bG_n, bX_l, bX_r, ck_nI, nI_clamp, nI_leT, nI_leF, nI_ltT, nI_ltF, nI_eqF, nI_add, pk_mul, ofN, bt_e, or0, Nat.zero_add, Nat.add_zero, ↓reduceIte, if_true, if_false, li0, li1, li2, li3, li4, li5, li6, li7, li8, li9, li10, li11, li12, li14, li15, li16, li18, li19, li20, li23, li24, li25, li26, li27, li30, li31, li32, li36, li40, li41, li42, li43, li44, li45, li47, li48, li57, li59, li60, li91, li93, li96, li97, li100, li105, li122, li150, li200, li255, li400, li500, li600, li999, li1000, li1001, li2000, li2001, li2002, li2003, li2004, li2005, li2006, li32767, li100000, li_neg]
  · simp (disch := omega) only [f_M_roomOf_b, hN.l, bI_s, bV_s, bL_s, bR_s, bG_s, bG_n, bX_l, bX_r, ck_nI, nI_clamp, nI_leT, nI_leF, nI_ltT, nI_ltF, nI_eqF, nI_add, pk_mul, ofN, bt_e, or0, Nat.zero_add, Nat.add_zero, ↓reduceIte, if_true, if_false, li0, li1, li2, li3, li4, li5, li6, li7, li8, li9, li10, li11, li12, li14, li15, li16, li18, li19, li20, li23, li24, li25, li26, li27, li30, li31, li32, li36, li40, li41, li42, li43, li44, li45, li47, li48, li57, li59, li60, li91, li93, li96, li97, li100, li105, li122, li150, li200, li255, li400, li500, li600, li999, li1000, li1001, li2000, li2001, li2002, li2003, li2004, li2005, li2006, li32767, li100000, li_neg]
    rw [hI]; rfl
end
