/-! # functional level, 18: would, force, mightiest, loud, told -/
section
variable {M M' M1 N : Mm} {o m : Nat} {S : St} {P W : TT}
theorem add0 (x : Int32) : x + nI 0 = x := Int32.add_zero x

theorem A_would (h : InvS o M S) (p0 p1 p2 p3 p4 p5 p6 p7 : Int32) : Ag cd1 Int32.toInt64 o (fun k => k = 1) (f_C_would o p0 p1 p2 p3 p4 p5 p6 p7 M) (fun M1 => f_M_would (o + 61) p0 p1 p2 p3 p4 p5 p6 p7 M1) := by
  obtain ⟨p, l, d, hr, ⟨hP, hW⟩, ⟨⟨t1, t2⟩, t3, ⟨t4, t5, t6⟩, t7, t8⟩, ⟨hL, hD⟩, oP, oW⟩ := h.u
  have hr10 := hr.2.1.1
  have hr12 := hr.2.2.1.1
  have hr14 := hr.2.2.2.1
  have hRb := oP.r
  have hBb := oP.b
  have hWb := oP.w
  have hLb := oW.l
  have hO := h.2.2.1
  rcases bel p0 4 (by omega) with ⟨a0, h0, rfl⟩ | ⟨b1, _, b2⟩
  · rcases wth p1 1 15 (by omega) (by omega) with ⟨a1, g1, h1, rfl⟩ | ⟨b1, b3⟩
    · rcases bel p2 20 (by omega) with ⟨a2, h2, rfl⟩ | ⟨b1, _, b2⟩
      · rcases bel p3 6 (by omega) with ⟨a3, h3, rfl⟩ | ⟨b1, _, b2⟩
        · rcases bel p4 10 (by omega) with ⟨a4, h4, rfl⟩ | ⟨b1, _, b2⟩
          · rcases wth p5 0 500 (by omega) (by omega) with ⟨a5, g5, h5, rfl⟩ | ⟨b1, b3⟩
            · rcases wth p6 0 3 (by omega) (by omega) with ⟨a6, g6, h6, rfl⟩ | ⟨b1, b3⟩
              · rcases bel p7 20 (by omega) with ⟨a7, h7, rfl⟩ | ⟨b1, _, b2⟩
                · have z : scr o (o + 34) := by unfold scr; omega
                  have f0 : Fr (scr o) M (sI (sI (sI (sI (sI (sI (sI (sI M (o + 34) 0 (nI a0)) (o + 34) 1 (nI a1)) (o + 34) 2 (nI a2)) (o + 34) 3 (nI a3)) (o + 34) 4 (nI a4)) (o + 34) 5 (nI a5)) (o + 34) 6 (nI a6)) (o + 34) 7 (nI a7)) := ((((((((Fr.rf (scr o) M).sI z).sI z).sI z).sI z).sI z).sI z).sI z).sI z
                  have hC' := h.1.scr f0 h.2.2.2.1
                  obtain ⟨p', l', d', hr', _, _, ⟨hL', _⟩, _⟩ := id hC'
                  obtain ⟨M', e, f⟩ := C_would8 (p := p') hr'.1.2.1 hr'.2.2.1.1 hL' hO.2.1.2 (g := g8 (nI a0) (nI a1) (nI a2) (nI a3) (nI a4) (nI a5) (nI a6) (nI a7)) (fun j hj => g8_mem j hj)
                  have hr12' := hr'.2.2.1.1
                  refine agR h (v := wg (S.2.2.1 0 7) (S.2.2.1 2) (g8 (nI a0) (nI a1) (nI a2) (nI a3) (nI a4) (nI a5) (nI a6) (nI a7))) (M' := M') ?_ (f0.trans f) (fun M1 hm => ?_)
                  · simp (disch := omega) only [f_C_would, f_C_would_b, C_belT, C_inT, f_C_mustBe, hr12', e, bI_s, bV_s, bL_s, bR_s, bG_s, bG_n, bX_l, bX_r, ck_nI, nI_clamp, nI_leT, nI_leF, nI_ltT, nI_ltF, nI_eqF, nI_add, pk_mul, ofN, bt_e, or0, Nat.zero_add, Nat.add_zero, ↓reduceIte, if_true, if_false, Bool.false_eq_true, eq_self, li0, li1, li2, li3, li4, li5, li6, li7, li8, li9, li10, li11, li12, li14, li15, li16, li18, li19, li20, li23, li24, li25, li26, li27, li30, li31, li32, li36, li40, li41, li42, li43, li44, li45, li47, li48, li57, li59, li60, li91, li93, li96, li97, li100, li105, li122, li150, li200, li255, li400, li500, li600, li999, li1000, li1001, li2000, li2001, li2002, li2003, li2004, li2005, li2006, li32767, li100000, li_neg, li13, li17, li21, li22, li28, li29, li33, li34, li35, li37, li38, li39, li46, li49, li50, li51, li52, li53, li63, li80, li115, li160]
                  · obtain ⟨N', e2, f2⟩ := M_forceBy hm hO (nI a0) (nI a1) (nI a2) (nI a3) (nI a4) (nI a5) (nI a6) (nI a7)
                    refine ⟨N', ?_, ?_, FM.ksm f2⟩
                    · simp (disch := omega) only [f_M_would, f_M_would_b, f_M_isAct, M_inT, e2, hm.b0, bI_s, bV_s, bL_s, bR_s, bG_s, bG_n, bX_l, bX_r, ck_nI, nI_clamp, nI_leT, nI_leF, nI_ltT, nI_ltF, nI_eqF, nI_add, pk_mul, ofN, bt_e, or0, Nat.zero_add, Nat.add_zero, ↓reduceIte, if_true, if_false, Bool.false_eq_true, eq_self, li0, li1, li2, li3, li4, li5, li6, li7, li8, li9, li10, li11, li12, li14, li15, li16, li18, li19, li20, li23, li24, li25, li26, li27, li30, li31, li32, li36, li40, li41, li42, li43, li44, li45, li47, li48, li57, li59, li60, li91, li93, li96, li97, li100, li105, li122, li150, li200, li255, li400, li500, li600, li999, li1000, li1001, li2000, li2001, li2002, li2003, li2004, li2005, li2006, li32767, li100000, li_neg, li13, li17, li21, li22, li28, li29, li33, li34, li35, li37, li38, li39, li46, li49, li50, li51, li52, li53, li63, li80, li115, li160]
                    · rw [f2.i (by unfold ks; omega)]; exact gI_same ..
                · have b3 : ∀ M, f_M_in p7 (nI 0) (nI 19) M = some (nI 0, M) := fun M => b2 M (by omega)
                  refine agE1 h (cc := 1) rfl rfl (by omega) ?_ (nI 0) (fun M1 hm => ?_)
                  · simp (disch := omega) only [f_C_would, f_C_would_b, C_belT, C_inT, b1, f_C_mustBe, t6, bI_s, bV_s, bL_s, bR_s, bG_s, bG_n, bX_l, bX_r, ck_nI, nI_clamp, nI_leT, nI_leF, nI_ltT, nI_ltF, nI_eqF, nI_add, pk_mul, ofN, bt_e, or0, Nat.zero_add, Nat.add_zero, ↓reduceIte, if_true, if_false, Bool.false_eq_true, eq_self, li0, li1, li2, li3, li4, li5, li6, li7, li8, li9, li10, li11, li12, li14, li15, li16, li18, li19, li20, li23, li24, li25, li26, li27, li30, li31, li32, li36, li40, li41, li42, li43, li44, li45, li47, li48, li57, li59, li60, li91, li93, li96, li97, li100, li105, li122, li150, li200, li255, li400, li500, li600, li999, li1000, li1001, li2000, li2001, li2002, li2003, li2004, li2005, li2006, li32767, li100000, li_neg, li13, li17, li21, li22, li28, li29, li33, li34, li35, li37, li38, li39, li46, li49, li50, li51, li52, li53, li63, li80, li115, li160]
                  · simp (disch := omega) only [f_M_would, f_M_would_b, f_M_isAct, M_inT, b3, hm.b11, bI_s, bV_s, bL_s, bR_s, bG_s, bG_n, bX_l, bX_r, ck_nI, nI_clamp, nI_leT, nI_leF, nI_ltT, nI_ltF, nI_eqF, nI_add, pk_mul, ofN, bt_e, or0, Nat.zero_add, Nat.add_zero, ↓reduceIte, if_true, if_false, Bool.false_eq_true, eq_self, li0, li1, li2, li3, li4, li5, li6, li7, li8, li9, li10, li11, li12, li14, li15, li16, li18, li19, li20, li23, li24, li25, li26, li27, li30, li31, li32, li36, li40, li41, li42, li43, li44, li45, li47, li48, li57, li59, li60, li91, li93, li96, li97, li100, li105, li122, li150, li200, li255, li400, li500, li600, li999, li1000, li1001, li2000, li2001, li2002, li2003, li2004, li2005, li2006, li32767, li100000, li_neg, li13, li17, li21, li22, li28, li29, li33, li34, li35, li37, li38, li39, li46, li49, li50, li51, li52, li53, li63, li80, li115, li160]
              · have b4 := b3
                refine agE1 h (cc := 1) rfl rfl (by omega) ?_ (nI 0) (fun M1 hm => ?_)
                · simp (disch := omega) only [f_C_would, f_C_would_b, C_belT, C_inT, b1, f_C_mustBe, t6, bI_s, bV_s, bL_s, bR_s, bG_s, bG_n, bX_l, bX_r, ck_nI, nI_clamp, nI_leT, nI_leF, nI_ltT, nI_ltF, nI_eqF, nI_add, pk_mul, ofN, bt_e, or0, Nat.zero_add, Nat.add_zero, ↓reduceIte, if_true, if_false, Bool.false_eq_true, eq_self, li0, li1, li2, li3, li4, li5, li6, li7, li8, li9, li10, li11, li12, li14, li15, li16, li18, li19, li20, li23, li24, li25, li26, li27, li30, li31, li32, li36, li40, li41, li42, li43, li44, li45, li47, li48, li57, li59, li60, li91, li93, li96, li97, li100, li105, li122, li150, li200, li255, li400, li500, li600, li999, li1000, li1001, li2000, li2001, li2002, li2003, li2004, li2005, li2006, li32767, li100000, li_neg, li13, li17, li21, li22, li28, li29, li33, li34, li35, li37, li38, li39, li46, li49, li50, li51, li52, li53, li63, li80, li115, li160]
                · simp (disch := omega) only [f_M_would, f_M_would_b, f_M_isAct, M_inT, b3, hm.b11, bI_s, bV_s, bL_s, bR_s, bG_s, bG_n, bX_l, bX_r, ck_nI, nI_clamp, nI_leT, nI_leF, nI_ltT, nI_ltF, nI_eqF, nI_add, pk_mul, ofN, bt_e, or0, Nat.zero_add, Nat.add_zero, ↓reduceIte, if_true, if_false, Bool.false_eq_true, eq_self, li0, li1, li2, li3, li4, li5, li6, li7, li8, li9, li10, li11, li12, li14, li15, li16, li18, li19, li20, li23, li24, li25, li26, li27, li30, li31, li32, li36, li40, li41, li42, li43, li44, li45, li47, li48, li57, li59, li60, li91, li93, li96, li97, li100, li105, li122, li150, li200, li255, li400, li500, li600, li999, li1000, li1001, li2000, li2001, li2002, li2003, li2004, li2005, li2006, li32767, li100000, li_neg, li13, li17, li21, li22, li28, li29, li33, li34, li35, li37, li38, li39, li46, li49, li50, li51, li52, li53, li63, li80, li115, li160]
            · have b4 := b3
              refine agE1 h (cc := 1) rfl rfl (by omega) ?_ (nI 0) (fun M1 hm => ?_)
              · simp (disch := omega) only [f_C_would, f_C_would_b, C_belT, C_inT, b1, f_C_mustBe, t6, bI_s, bV_s, bL_s, bR_s, bG_s, bG_n, bX_l, bX_r, ck_nI, nI_clamp, nI_leT, nI_leF, nI_ltT, nI_ltF, nI_eqF, nI_add, pk_mul, ofN, bt_e, or0, Nat.zero_add, Nat.add_zero, ↓reduceIte, if_true, if_false, Bool.false_eq_true, eq_self, li0, li1, li2, li3, li4, li5, li6, li7, li8, li9, li10, li11, li12, li14, li15, li16, li18, li19, li20, li23, li24, li25, li26, li27, li30, li31, li32, li36, li40, li41, li42, li43, li44, li45, li47, li48, li57, li59, li60, li91, li93, li96, li97, li100, li105, li122, li150, li200, li255, li400, li500, li600, li999, li1000, li1001, li2000, li2001, li2002, li2003, li2004, li2005, li2006, li32767, li100000, li_neg, li13, li17, li21, li22, li28, li29, li33, li34, li35, li37, li38, li39, li46, li49, li50, li51, li52, li53, li63, li80, li115, li160]
              · simp (disch := omega) only [f_M_would, f_M_would_b, f_M_isAct, M_inT, b3, hm.b11, bI_s, bV_s, bL_s, bR_s, bG_s, bG_n, bX_l, bX_r, ck_nI, nI_clamp, nI_leT, nI_leF, nI_ltT, nI_ltF, nI_eqF, nI_add, pk_mul, ofN, bt_e, or0, Nat.zero_add, Nat.add_zero, ↓reduceIte, if_true, if_false, Bool.false_eq_true, eq_self, li0, li1, li2, li3, li4, li5, li6, li7, li8, li9, li10, li11, li12, li14, li15, li16, li18, li19, li20, li23, li24, li25, li26, li27, li30, li31, li32, li36, li40, li41, li42, li43, li44, li45, li47, li48, li57, li59, li60, li91, li93, li96, li97, li100, li105, li122, li150, li200, li255, li400, li500, li600, li999, li1000, li1001, li2000, li2001, li2002, li2003, li2004, li2005, li2006, li32767, li100000, li_neg, li13, li17, li21, li22, li28, li29, li33, li34, li35, li37, li38, li39, li46, li49, li50, li51, li52, li53, li63, li80, li115, li160]
          · have b3 : ∀ M, f_M_in p4 (nI 0) (nI 9) M = some (nI 0, M) := fun M => b2 M (by omega)
            refine agE1 h (cc := 1) rfl rfl (by omega) ?_ (nI 0) (fun M1 hm => ?_)
            · simp (disch := omega) only [f_C_would, f_C_would_b, C_belT, C_inT, b1, f_C_mustBe, t6, bI_s, bV_s, bL_s, bR_s, bG_s, bG_n, bX_l, bX_r, ck_nI, nI_clamp, nI_leT, nI_leF, nI_ltT, nI_ltF, nI_eqF, nI_add, pk_mul, ofN, bt_e, or0, Nat.zero_add, Nat.add_zero, ↓reduceIte, if_true, if_false, Bool.false_eq_true, eq_self, li0, li1, li2, li3, li4, li5, li6, li7, li8, li9, li10, li11, li12, li14, li15, li16, li18, li19, li20, li23, li24, li25, li26, li27, li30, li31, li32, li36, li40, li41, li42, li43, li44, li45, li47, li48, li57, li59, li60, li91, li93, li96, li97, li100, li105, li122, li150, li200, li255, li400, li500, li600, li999, li1000, li1001, li2000, li2001, li2002, li2003, li2004, li2005, li2006, li32767, li100000, li_neg, li13, li17, li21, li22, li28, li29, li33, li34, li35, li37, li38, li39, li46, li49, li50, li51, li52, li53, li63, li80, li115, li160]
            · simp (disch := omega) only [f_M_would, f_M_would_b, f_M_isAct, M_inT, b3, hm.b11, bI_s, bV_s, bL_s, bR_s, bG_s, bG_n, bX_l, bX_r, ck_nI, nI_clamp, nI_leT, nI_leF, nI_ltT, nI_ltF, nI_eqF, nI_add, pk_mul, ofN, bt_e, or0, Nat.zero_add, Nat.add_zero, ↓reduceIte, if_true, if_false, Bool.false_eq_true, eq_self, li0, li1, li2, li3, li4, li5, li6, li7, li8, li9, li10, li11, li12, li14, li15, li16, li18, li19, li20, li23, li24, li25, li26, li27, li30, li31, li32, li36, li40, li41, li42, li43, li44, li45, li47, li48, li57, li59, li60, li91, li93, li96, li97, li100, li105, li122, li150, li200, li255, li400, li500, li600, li999, li1000, li1001, li2000, li2001, li2002, li2003, li2004, li2005, li2006, li32767, li100000, li_neg, li13, li17, li21, li22, li28, li29, li33, li34, li35, li37, li38, li39, li46, li49, li50, li51, li52, li53, li63, li80, li115, li160]
        · have b3 : ∀ M, f_M_in p3 (nI 0) (nI 5) M = some (nI 0, M) := fun M => b2 M (by omega)
          refine agE1 h (cc := 1) rfl rfl (by omega) ?_ (nI 0) (fun M1 hm => ?_)
          · simp (disch := omega) only [f_C_would, f_C_would_b, C_belT, C_inT, b1, f_C_mustBe, t6, bI_s, bV_s, bL_s, bR_s, bG_s, bG_n, bX_l, bX_r, ck_nI, nI_clamp, nI_leT, nI_leF, nI_ltT, nI_ltF, nI_eqF, nI_add, pk_mul, ofN, bt_e, or0, Nat.zero_add, Nat.add_zero, ↓reduceIte, if_true, if_false, Bool.false_eq_true, eq_self, li0, li1, li2, li3, li4, li5, li6, li7, li8, li9, li10, li11, li12, li14, li15, li16, li18, li19, li20, li23, li24, li25, li26, li27, li30, li31, li32, li36, li40, li41, li42, li43, li44, li45, li47, li48, li57, li59, li60, li91, li93, li96, li97, li100, li105, li122, li150, li200, li255, li400, li500, li600, li999, li1000, li1001, li2000, li2001, li2002, li2003, li2004, li2005, li2006, li32767, li100000, li_neg, li13, li17, li21, li22, li28, li29, li33, li34, li35, li37, li38, li39, li46, li49, li50, li51, li52, li53, li63, li80, li115, li160]
          · simp (disch := omega) only [f_M_would, f_M_would_b, f_M_isAct, M_inT, b3, hm.b11, bI_s, bV_s, bL_s, bR_s, bG_s, bG_n, bX_l, bX_r, ck_nI, nI_clamp, nI_leT, nI_leF, nI_ltT, nI_ltF, nI_eqF, nI_add, pk_mul, ofN, bt_e, or0, Nat.zero_add, Nat.add_zero, ↓reduceIte, if_true, if_false, Bool.false_eq_true, eq_self, li0, li1, li2, li3, li4, li5, li6, li7, li8, li9, li10, li11, li12, li14, li15, li16, li18, li19, li20, li23, li24, li25, li26, li27, li30, li31, li32, li36, li40, li41, li42, li43, li44, li45, li47, li48, li57, li59, li60, li91, li93, li96, li97, li100, li105, li122, li150, li200, li255, li400, li500, li600, li999, li1000, li1001, li2000, li2001, li2002, li2003, li2004, li2005, li2006, li32767, li100000, li_neg, li13, li17, li21, li22, li28, li29, li33, li34, li35, li37, li38, li39, li46, li49, li50, li51, li52, li53, li63, li80, li115, li160]
      · have b3 : ∀ M, f_M_in p2 (nI 0) (nI 19) M = some (nI 0, M) := fun M => b2 M (by omega)
        refine agE1 h (cc := 1) rfl rfl (by omega) ?_ (nI 0) (fun M1 hm => ?_)
        · simp (disch := omega) only [f_C_would, f_C_would_b, C_belT, C_inT, b1, f_C_mustBe, t6, bI_s, bV_s, bL_s, bR_s, bG_s, bG_n, bX_l, bX_r, ck_nI, nI_clamp, nI_leT, nI_leF, nI_ltT, nI_ltF, nI_eqF, nI_add, pk_mul, ofN, bt_e, or0, Nat.zero_add, Nat.add_zero, ↓reduceIte, if_true, if_false, Bool.false_eq_true, eq_self, li0, li1, li2, li3, li4, li5, li6, li7, li8, li9, li10, li11, li12, li14, li15, li16, li18, li19, li20, li23, li24, li25, li26, li27, li30, li31, li32, li36, li40, li41, li42, li43, li44, li45, li47, li48, li57, li59, li60, li91, li93, li96, li97, li100, li105, li122, li150, li200, li255, li400, li500, li600, li999, li1000, li1001, li2000, li2001, li2002, li2003, li2004, li2005, li2006, li32767, li100000, li_neg, li13, li17, li21, li22, li28, li29, li33, li34, li35, li37, li38, li39, li46, li49, li50, li51, li52, li53, li63, li80, li115, li160]
        · simp (disch := omega) only [f_M_would, f_M_would_b, f_M_isAct, M_inT, b3, hm.b11, bI_s, bV_s, bL_s, bR_s, bG_s, bG_n, bX_l, bX_r, ck_nI, nI_clamp, nI_leT, nI_leF, nI_ltT, nI_ltF, nI_eqF, nI_add, pk_mul, ofN, bt_e, or0, Nat.zero_add, Nat.add_zero, ↓reduceIte, if_true, if_false, Bool.false_eq_true, eq_self, li0, li1, li2, li3, li4, li5, li6, li7, li8, li9, li10, li11, li12, li14, li15, li16, li18, li19, li20, li23, li24, li25, li26, li27, li30, li31, li32, li36, li40, li41, li42, li43, li44, li45, li47, li48, li57, li59, li60, li91, li93, li96, li97, li100, li105, li122, li150, li200, li255, li400, li500, li600, li999, li1000, li1001, li2000, li2001, li2002, li2003, li2004, li2005, li2006, li32767, li100000, li_neg, li13, li17, li21, li22, li28, li29, li33, li34, li35, li37, li38, li39, li46, li49, li50, li51, li52, li53, li63, li80, li115, li160]
    · have b4 := b3
      refine agE1 h (cc := 1) rfl rfl (by omega) ?_ (nI 0) (fun M1 hm => ?_)
      · simp (disch := omega) only [f_C_would, f_C_would_b, C_belT, C_inT, b1, f_C_mustBe, t6, bI_s, bV_s, bL_s, bR_s, bG_s, bG_n, bX_l, bX_r, ck_nI, nI_clamp, nI_leT, nI_leF, nI_ltT, nI_ltF, nI_eqF, nI_add, pk_mul, ofN, bt_e, or0, Nat.zero_add, Nat.add_zero, ↓reduceIte, if_true, if_false, Bool.false_eq_true, eq_self, li0, li1, li2, li3, li4, li5, li6, li7, li8, li9, li10, li11, li12, li14, li15, li16, li18, li19, li20, li23, li24, li25, li26, li27, li30, li31, li32, li36, li40, li41, li42, li43, li44, li45, li47, li48, li57, li59, li60, li91, li93, li96, li97, li100, li105, li122, li150, li200, li255, li400, li500, li600, li999, li1000, li1001, li2000, li2001, li2002, li2003, li2004, li2005, li2006, li32767, li100000, li_neg, li13, li17, li21, li22, li28, li29, li33, li34, li35, li37, li38, li39, li46, li49, li50, li51, li52, li53, li63, li80, li115, li160]
      · simp (disch := omega) only [f_M_would, f_M_would_b, f_M_isAct, M_inT, b3, hm.b11, bI_s, bV_s, bL_s, bR_s, bG_s, bG_n, bX_l, bX_r, ck_nI, nI_clamp, nI_leT, nI_leF, nI_ltT, nI_ltF, nI_eqF, nI_add, pk_mul, ofN, bt_e, or0, Nat.zero_add, Nat.add_zero, ↓reduceIte, if_true, if_false, Bool.false_eq_true, eq_self, li0, li1, li2, li3, li4, li5, li6, li7, li8, li9, li10, li11, li12, li14, li15, li16, li18, li19, li20, li23, li24, li25, li26, li27, li30, li31, li32, li36, li40, li41, li42, li43, li44, li45, li47, li48, li57, li59, li60, li91, li93, li96, li97, li100, li105, li122, li150, li200, li255, li400, li500, li600, li999, li1000, li1001, li2000, li2001, li2002, li2003, li2004, li2005, li2006, li32767, li100000, li_neg, li13, li17, li21, li22, li28, li29, li33, li34, li35, li37, li38, li39, li46, li49, li50, li51, li52, li53, li63, li80, li115, li160]
  · have b3 : ∀ M, f_M_in p0 (nI 0) (nI 3) M = some (nI 0, M) := fun M => b2 M (by omega)
    refine agE1 h (cc := 1) rfl rfl (by omega) ?_ (nI 0) (fun M1 hm => ?_)
    · show bI (f_C_isBelow p0 (nI 4) M) _ = _
      rw [b1, bI_s, if_pos (show nI 0 = 0 from rfl)]
      have e0 : f_C_mustBe o 0 M = some (Sum.inr (1, sI M o 18 (nI (S.2.2.1 0 4 + 1)))) := by simp (disch := omega) only [f_C_mustBe, t6, bI_s, bV_s, bL_s, bR_s, bG_s, bG_n, bX_l, bX_r, ck_nI, nI_clamp, nI_leT, nI_leF, nI_ltT, nI_ltF, nI_eqF, nI_add, pk_mul, ofN, bt_e, or0, Nat.zero_add, Nat.add_zero, ↓reduceIte, if_true, if_false, Bool.false_eq_true, eq_self, li0, li1, li2, li3, li4, li5, li6, li7, li8, li9, li10, li11, li12, li14, li15, li16, li18, li19, li20, li23, li24, li25, li26, li27, li30, li31, li32, li36, li40, li41, li42, li43, li44, li45, li47, li48, li57, li59, li60, li91, li93, li96, li97, li100, li105, li122, li150, li200, li255, li400, li500, li600, li999, li1000, li1001, li2000, li2001, li2002, li2003, li2004, li2005, li2006, li32767, li100000, li_neg, li13, li17, li21, li22, li28, li29, li33, li34, li35, li37, li38, li39, li46, li49, li50, li51, li52, li53, li63, li80, li115, li160]
      unfold f_C_would_b
      rw [e0, bX_r]
    · show bI (f_M_in p0 (nI 0) (nI 3) (sI M1 (o + 61) 0 (nI 0))) _ = _
      rw [b3, bI_s, if_pos (show nI 0 = 0 from rfl)]
      show bI (f_M_bad (o + 61) (nI 1) (nI 1) (nI 1) (sI M1 (o + 61) 0 (nI 0))) _ = _
      rw [hm.b11 (by omega) (by omega), bI_s, if_neg (show ¬ nI 1 = 0 by decide)]
      rfl
/-! force -/
theorem A_force (h : InvS o M S) (p0 p1 : Int32) : Ag cd1 Int32.toInt64 o (fun k => k = 1) (f_C_force o p0 p1 M) (fun M1 => f_M_force (o + 61) p0 p1 M1) := by
  obtain ⟨p, l, d, hr, ⟨hP, hW⟩, ⟨⟨t1, t2⟩, t3, ⟨t4, t5, t6⟩, t7, t8⟩, ⟨hL, hD⟩, oP, oW⟩ := h.u
  have hr10 := hr.2.1.1
  have hr12 := hr.2.2.1.1
  have hr14 := hr.2.2.2.1
  have hRb := oP.r
  have hBb := oP.b
  have hWb := oP.w
  have hLb := oW.l
  have hO := h.2.2.1
  rcases bel p0 5 (by omega) with ⟨mt, h1, rfl⟩ | ⟨b1, _, b2⟩
  · rcases wth p1 0 1 (by omega) (by omega) with ⟨j, _, h2, rfl⟩ | ⟨w1, w2⟩
    · obtain ⟨M', e, f⟩ := C_lineInForce h.1 hO h.2.2.2.1 h1
      have hli := lif_in S mt (S.2.1 0 2)
      generalize hli2 : (lif S mt (S.2.1 0 2)).1 = li at e hli
      obtain ⟨p', l', d', hr', ⟨hP', hW'⟩, _⟩ := h.1.scr f h.2.2.2.1
      by_cases c : li = 4294967295
      · subst c
        refine agR h (v := nI 4294967295) (M' := M') ?_ f (fun M1 hm => ?_)
        · simp (disch := omega) only [f_C_force, f_C_force_b, e, C_belT, C_inT, f_C_mustBe, bI_s, bV_s, bL_s, bR_s, bG_s, bG_n, bX_l, bX_r, ck_nI, nI_clamp, nI_leT, nI_leF, nI_ltT, nI_ltF, nI_eqF, nI_add, pk_mul, ofN, bt_e, or0, Nat.zero_add, Nat.add_zero, ↓reduceIte, if_true, if_false, Bool.false_eq_true, eq_self, li0, li1, li2, li3, li4, li5, li6, li7, li8, li9, li10, li11, li12, li14, li15, li16, li18, li19, li20, li23, li24, li25, li26, li27, li30, li31, li32, li36, li40, li41, li42, li43, li44, li45, li47, li48, li57, li59, li60, li91, li93, li96, li97, li100, li105, li122, li150, li200, li255, li400, li500, li600, li999, li1000, li1001, li2000, li2001, li2002, li2003, li2004, li2005, li2006, li32767, li100000, li_neg, li13, li17, li21, li22, li28, li29, li33, li34, li35, li37, li38, li39, li46, li49, li50, li51, li52, li53, li63, li80, li115, li160]
        · obtain ⟨N', e2, f2⟩ := M_ruling hm hO h1
          rw [hli2] at e2
          refine ⟨N', ?_, by rw [f2.i (by unfold ks; omega)]; exact gI_same .., FM.ksm f2⟩
          by_cases cj : j = 1
          · subst cj
            simp (disch := omega) only [f_M_force, f_M_force_b, e2, M_inT, hm.b0, bI_s, bV_s, bL_s, bR_s, bG_s, bG_n, bX_l, bX_r, ck_nI, nI_clamp, nI_leT, nI_leF, nI_ltT, nI_ltF, nI_eqF, nI_add, pk_mul, ofN, bt_e, or0, Nat.zero_add, Nat.add_zero, ↓reduceIte, if_true, if_false, Bool.false_eq_true, eq_self, li0, li1, li2, li3, li4, li5, li6, li7, li8, li9, li10, li11, li12, li14, li15, li16, li18, li19, li20, li23, li24, li25, li26, li27, li30, li31, li32, li36, li40, li41, li42, li43, li44, li45, li47, li48, li57, li59, li60, li91, li93, li96, li97, li100, li105, li122, li150, li200, li255, li400, li500, li600, li999, li1000, li1001, li2000, li2001, li2002, li2003, li2004, li2005, li2006, li32767, li100000, li_neg, li13, li17, li21, li22, li28, li29, li33, li34, li35, li37, li38, li39, li46, li49, li50, li51, li52, li53, li63, li80, li115, li160]
          · obtain rfl : j = 0 := by omega
            simp (disch := omega) only [f_M_force, f_M_force_b, e2, M_inT, hm.b0, bI_s, bV_s, bL_s, bR_s, bG_s, bG_n, bX_l, bX_r, ck_nI, nI_clamp, nI_leT, nI_leF, nI_ltT, nI_ltF, nI_eqF, nI_add, pk_mul, ofN, bt_e, or0, Nat.zero_add, Nat.add_zero, ↓reduceIte, if_true, if_false, Bool.false_eq_true, eq_self, li0, li1, li2, li3, li4, li5, li6, li7, li8, li9, li10, li11, li12, li14, li15, li16, li18, li19, li20, li23, li24, li25, li26, li27, li30, li31, li32, li36, li40, li41, li42, li43, li44, li45, li47, li48, li57, li59, li60, li91, li93, li96, li97, li100, li105, li122, li150, li200, li255, li400, li500, li600, li999, li1000, li1001, li2000, li2001, li2002, li2003, li2004, li2005, li2006, li32767, li100000, li_neg, li13, li17, li21, li22, li28, li29, li33, li34, li35, li37, li38, li39, li46, li49, li50, li51, li52, li53, li63, li80, li115, li160]
      · have hl' : li < S.2.1 0 2 := by omega
        by_cases cj : j = 1
        · subst cj
          refine agR h (v := nI li) (M' := M') ?_ f (fun M1 hm => ?_)
          · simp (disch := omega) only [f_C_force, f_C_force_b, e, C_belT, C_inT, f_C_mustBe, bI_s, bV_s, bL_s, bR_s, bG_s, bG_n, bX_l, bX_r, ck_nI, nI_clamp, nI_leT, nI_leF, nI_ltT, nI_ltF, nI_eqF, nI_add, pk_mul, ofN, bt_e, or0, Nat.zero_add, Nat.add_zero, ↓reduceIte, if_true, if_false, Bool.false_eq_true, eq_self, li0, li1, li2, li3, li4, li5, li6, li7, li8, li9, li10, li11, li12, li14, li15, li16, li18, li19, li20, li23, li24, li25, li26, li27, li30, li31, li32, li36, li40, li41, li42, li43, li44, li45, li47, li48, li57, li59, li60, li91, li93, li96, li97, li100, li105, li122, li150, li200, li255, li400, li500, li600, li999, li1000, li1001, li2000, li2001, li2002, li2003, li2004, li2005, li2006, li32767, li100000, li_neg, li13, li17, li21, li22, li28, li29, li33, li34, li35, li37, li38, li39, li46, li49, li50, li51, li52, li53, li63, li80, li115, li160]
          · obtain ⟨N', e2, f2⟩ := M_ruling hm hO h1
            rw [hli2] at e2
            refine ⟨N', ?_, by rw [f2.i (by unfold ks; omega)]; exact gI_same .., FM.ksm f2⟩
            simp (disch := omega) only [f_M_force, f_M_force_b, e2, M_inT, hm.b0, bI_s, bV_s, bL_s, bR_s, bG_s, bG_n, bX_l, bX_r, ck_nI, nI_clamp, nI_leT, nI_leF, nI_ltT, nI_ltF, nI_eqF, nI_add, pk_mul, ofN, bt_e, or0, Nat.zero_add, Nat.add_zero, ↓reduceIte, if_true, if_false, Bool.false_eq_true, eq_self, li0, li1, li2, li3, li4, li5, li6, li7, li8, li9, li10, li11, li12, li14, li15, li16, li18, li19, li20, li23, li24, li25, li26, li27, li30, li31, li32, li36, li40, li41, li42, li43, li44, li45, li47, li48, li57, li59, li60, li91, li93, li96, li97, li100, li105, li122, li150, li200, li255, li400, li500, li600, li999, li1000, li1001, li2000, li2001, li2002, li2003, li2004, li2005, li2006, li32767, li100000, li_neg, li13, li17, li21, li22, li28, li29, li33, li34, li35, li37, li38, li39, li46, li49, li50, li51, li52, li53, li63, li80, li115, li160]
        · obtain rfl : j = 0 := by omega
          refine agR h (v := nI (S.2.1 2 li)) (M' := M') ?_ f (fun M1 hm => ?_)
          · simp (disch := omega) only [f_C_force, f_C_force_b, e, hW'.ac hl', C_belT, C_inT, f_C_mustBe, bI_s, bV_s, bL_s, bR_s, bG_s, bG_n, bX_l, bX_r, ck_nI, nI_clamp, nI_leT, nI_leF, nI_ltT, nI_ltF, nI_eqF, nI_add, pk_mul, ofN, bt_e, or0, Nat.zero_add, Nat.add_zero, ↓reduceIte, if_true, if_false, Bool.false_eq_true, eq_self, li0, li1, li2, li3, li4, li5, li6, li7, li8, li9, li10, li11, li12, li14, li15, li16, li18, li19, li20, li23, li24, li25, li26, li27, li30, li31, li32, li36, li40, li41, li42, li43, li44, li45, li47, li48, li57, li59, li60, li91, li93, li96, li97, li100, li105, li122, li150, li200, li255, li400, li500, li600, li999, li1000, li1001, li2000, li2001, li2002, li2003, li2004, li2005, li2006, li32767, li100000, li_neg, li13, li17, li21, li22, li28, li29, li33, li34, li35, li37, li38, li39, li46, li49, li50, li51, li52, li53, li63, li80, li115, li160]
          · obtain ⟨N', e2, f2⟩ := M_ruling hm hO h1
            rw [hli2] at e2
            have hm' := hm.ksm hO f2
            refine ⟨N', ?_, by rw [f2.i (by unfold ks; omega)]; exact gI_same .., FM.ksm f2⟩
            simp (disch := omega) only [f_M_force, f_M_force_b, e2, (M_lineOf hm'.1.2 oW hl').1.2, M_inT, hm.b0, bI_s, bV_s, bL_s, bR_s, bG_s, bG_n, bX_l, bX_r, ck_nI, nI_clamp, nI_leT, nI_leF, nI_ltT, nI_ltF, nI_eqF, nI_add, pk_mul, ofN, bt_e, or0, Nat.zero_add, Nat.add_zero, ↓reduceIte, if_true, if_false, Bool.false_eq_true, eq_self, li0, li1, li2, li3, li4, li5, li6, li7, li8, li9, li10, li11, li12, li14, li15, li16, li18, li19, li20, li23, li24, li25, li26, li27, li30, li31, li32, li36, li40, li41, li42, li43, li44, li45, li47, li48, li57, li59, li60, li91, li93, li96, li97, li100, li105, li122, li150, li200, li255, li400, li500, li600, li999, li1000, li1001, li2000, li2001, li2002, li2003, li2004, li2005, li2006, li32767, li100000, li_neg, li13, li17, li21, li22, li28, li29, li33, li34, li35, li37, li38, li39, li46, li49, li50, li51, li52, li53, li63, li80, li115, li160]
    · refine agE1 h (cc := 1) rfl rfl (by omega) ?_ (nI 0) (fun M1 hm => ?_)
      · simp (disch := omega) only [f_C_force, f_C_force_b, C_belT, w1, f_C_mustBe, t6, bI_s, bV_s, bL_s, bR_s, bG_s, bG_n, bX_l, bX_r, ck_nI, nI_clamp, nI_leT, nI_leF, nI_ltT, nI_ltF, nI_eqF, nI_add, pk_mul, ofN, bt_e, or0, Nat.zero_add, Nat.add_zero, ↓reduceIte, if_true, if_false, Bool.false_eq_true, eq_self, li0, li1, li2, li3, li4, li5, li6, li7, li8, li9, li10, li11, li12, li14, li15, li16, li18, li19, li20, li23, li24, li25, li26, li27, li30, li31, li32, li36, li40, li41, li42, li43, li44, li45, li47, li48, li57, li59, li60, li91, li93, li96, li97, li100, li105, li122, li150, li200, li255, li400, li500, li600, li999, li1000, li1001, li2000, li2001, li2002, li2003, li2004, li2005, li2006, li32767, li100000, li_neg, li13, li17, li21, li22, li28, li29, li33, li34, li35, li37, li38, li39, li46, li49, li50, li51, li52, li53, li63, li80, li115, li160]
      · simp (disch := omega) only [f_M_force, f_M_force_b, M_inT, w2, hm.b11, bI_s, bV_s, bL_s, bR_s, bG_s, bG_n, bX_l, bX_r, ck_nI, nI_clamp, nI_leT, nI_leF, nI_ltT, nI_ltF, nI_eqF, nI_add, pk_mul, ofN, bt_e, or0, Nat.zero_add, Nat.add_zero, ↓reduceIte, if_true, if_false, Bool.false_eq_true, eq_self, li0, li1, li2, li3, li4, li5, li6, li7, li8, li9, li10, li11, li12, li14, li15, li16, li18, li19, li20, li23, li24, li25, li26, li27, li30, li31, li32, li36, li40, li41, li42, li43, li44, li45, li47, li48, li57, li59, li60, li91, li93, li96, li97, li100, li105, li122, li150, li200, li255, li400, li500, li600, li999, li1000, li1001, li2000, li2001, li2002, li2003, li2004, li2005, li2006, li32767, li100000, li_neg, li13, li17, li21, li22, li28, li29, li33, li34, li35, li37, li38, li39, li46, li49, li50, li51, li52, li53, li63, li80, li115, li160]
  · have b3 : ∀ M, f_M_in p0 (nI 0) (nI 4) M = some (nI 0, M) := fun M => b2 M (by omega)
    refine agE1 h (cc := 1) rfl rfl (by omega) ?_ (nI 0) (fun M1 hm => ?_)
    · simp (disch := omega) only [f_C_force, f_C_force_b, b1, f_C_mustBe, t6, bI_s, bV_s, bL_s, bR_s, bG_s, bG_n, bX_l, bX_r, ck_nI, nI_clamp, nI_leT, nI_leF, nI_ltT, nI_ltF, nI_eqF, nI_add, pk_mul, ofN, bt_e, or0, Nat.zero_add, Nat.add_zero, ↓reduceIte, if_true, if_false, Bool.false_eq_true, eq_self, li0, li1, li2, li3, li4, li5, li6, li7, li8, li9, li10, li11, li12, li14, li15, li16, li18, li19, li20, li23, li24, li25, li26, li27, li30, li31, li32, li36, li40, li41, li42, li43, li44, li45, li47, li48, li57, li59, li60, li91, li93, li96, li97, li100, li105, li122, li150, li200, li255, li400, li500, li600, li999, li1000, li1001, li2000, li2001, li2002, li2003, li2004, li2005, li2006, li32767, li100000, li_neg, li13, li17, li21, li22, li28, li29, li33, li34, li35, li37, li38, li39, li46, li49, li50, li51, li52, li53, li63, li80, li115, li160]
    · simp (disch := omega) only [f_M_force, f_M_force_b, b3, hm.b11, bI_s, bV_s, bL_s, bR_s, bG_s, bG_n, bX_l, bX_r, ck_nI, nI_clamp, nI_leT, nI_leF, nI_ltT, nI_ltF, nI_eqF, nI_add, pk_mul, ofN, bt_e, or0, Nat.zero_add, Nat.add_zero, ↓reduceIte, if_true, if_false, Bool.false_eq_true, eq_self, li0, li1, li2, li3, li4, li5, li6, li7, li8, li9, li10, li11, li12, li14, li15, li16, li18, li19, li20, li23, li24, li25, li26, li27, li30, li31, li32, li36, li40, li41, li42, li43, li44, li45, li47, li48, li57, li59, li60, li91, li93, li96, li97, li100, li105, li122, li150, li200, li255, li400, li500, li600, li999, li1000, li1001, li2000, li2001, li2002, li2003, li2004, li2005, li2006, li32767, li100000, li_neg, li13, li17, li21, li22, li28, li29, li33, li34, li35, li37, li38, li39, li46, li49, li50, li51, li52, li53, li63, li80, li115, li160]
/-! mightiest -/
def mst (S : St) (n : Nat) : Nat × Int32 := fo n (fun i s => if s.1 = 4294967295 ∨ ¬ fc S i ≤ s.2 then (i, fc S i) else s) (4294967295, nI 0)
theorem mst_s (S : St) (n : Nat) : mst S (n + 1) = if (mst S n).1 = 4294967295 ∨ ¬ fc S n ≤ (mst S n).2 then (n, fc S n) else mst S n := rfl
theorem mst_in (S : St) : ∀ n : Nat, (mst S n).1 < n ∨ (mst S n).1 = 4294967295
  | 0 => Or.inr rfl
  | n + 1 => by
    rw [mst_s]
    split
    · exact Or.inl (by show n < n + 1; omega)
    · have := mst_in S n; omega
theorem C_mightiest (hC : CI M o S) (hO : oS S) (hn : o + 561 ≤ nx M) {j : Nat} (hj : j ≤ 1) : ∃ M', f_C_mightiest_b FU o (nI j) (nI 4294967295) (nI 0) (nI 0) M = some (Sum.inl (if j = 0 then nI (mst S (S.2.1 0 2)).1 else (mst S (S.2.1 0 2)).2, M')) ∧ Fr (scr o) M M' := by
  have oW := hO.1.2.1
  have hLb := oW.l
  have key := lp_inv (R := (Int32 × Mm) ⊕ (Nat × Mm)) (fun u i (s : (Nat × Int32) × Mm) => f_C_mightiest_b u o (nI j) (nI s.1.1) s.1.2 (nI i) s.2) (S.2.1 0 2) (fun i s => s.1 = mst S i ∧ Fr (scr o) M s.2) (fun r => ∃ M', r = Sum.inl (if j = 0 then nI (mst S (S.2.1 0 2)).1 else (mst S (S.2.1 0 2)).2, M') ∧ Fr (scr o) M M') (fun u i s hi hI => ?_) (fun u s hI => ?_) 0 (by omega) ((4294967295, nI 0), M) ⟨rfl, Fr.rf _ _⟩ FU (FU_lt (by omega))
  · obtain ⟨r, e, M', e1, e3⟩ := key
    exact ⟨M', by rw [← e1]; exact e, e3⟩
  · obtain ⟨s, N⟩ := s
    obtain ⟨e, f⟩ := hI
    dsimp only at e f ⊢
    have hC' := hC.scr f hn
    obtain ⟨p, l, d, hr, ⟨hP, hW⟩, _⟩ := id hC'
    have hin := mst_in S i
    rw [← e] at hin
    refine Or.inl ?_
    rw [mst_s, ← e]
    obtain ⟨N', e2, f2⟩ := C_forceOf hC' hO (by rw [f.1.1]; exact hn) hi
    by_cases c1 : s.1 = 4294967295
    · refine ⟨((i, fc S i), N'), ?_, (if_pos (Or.inl c1)).symm, f.trans f2⟩
      simp (disch := omega) only [f_C_mightiest_b, hW.l, c1, e2, bI_s, bV_s, bL_s, bR_s, bG_s, bG_n, bX_l, bX_r, ck_nI, nI_clamp, nI_leT, nI_leF, nI_ltT, nI_ltF, nI_eqF, nI_add, pk_mul, ofN, bt_e, or0, Nat.zero_add, Nat.add_zero, ↓reduceIte, if_true, if_false, Bool.false_eq_true, eq_self, li0, li1, li2, li3, li4, li5, li6, li7, li8, li9, li10, li11, li12, li14, li15, li16, li18, li19, li20, li23, li24, li25, li26, li27, li30, li31, li32, li36, li40, li41, li42, li43, li44, li45, li47, li48, li57, li59, li60, li91, li93, li96, li97, li100, li105, li122, li150, li200, li255, li400, li500, li600, li999, li1000, li1001, li2000, li2001, li2002, li2003, li2004, li2005, li2006, li32767, li100000, li_neg, li13, li17, li21, li22, li28, li29, li33, li34, li35, li37, li38, li39, li46, li49, li50, li51, li52, li53, li63, li80, li115, li160]
    · by_cases c2 : fc S i ≤ s.2
      · refine ⟨(s, N'), ?_, (if_neg (fun z => z.elim c1 (fun z => z c2))).symm, f.trans f2⟩
        simp (disch := omega) only [f_C_mightiest_b, hW.l, c1, e2, c2, bI_s, bV_s, bL_s, bR_s, bG_s, bG_n, bX_l, bX_r, ck_nI, nI_clamp, nI_leT, nI_leF, nI_ltT, nI_ltF, nI_eqF, nI_add, pk_mul, ofN, bt_e, or0, Nat.zero_add, Nat.add_zero, ↓reduceIte, if_true, if_false, Bool.false_eq_true, eq_self, li0, li1, li2, li3, li4, li5, li6, li7, li8, li9, li10, li11, li12, li14, li15, li16, li18, li19, li20, li23, li24, li25, li26, li27, li30, li31, li32, li36, li40, li41, li42, li43, li44, li45, li47, li48, li57, li59, li60, li91, li93, li96, li97, li100, li105, li122, li150, li200, li255, li400, li500, li600, li999, li1000, li1001, li2000, li2001, li2002, li2003, li2004, li2005, li2006, li32767, li100000, li_neg, li13, li17, li21, li22, li28, li29, li33, li34, li35, li37, li38, li39, li46, li49, li50, li51, li52, li53, li63, li80, li115, li160]
      · refine ⟨((i, fc S i), N'), ?_, (if_pos (Or.inr c2)).symm, f.trans f2⟩
        simp (disch := omega) only [f_C_mightiest_b, hW.l, c1, e2, c2, bI_s, bV_s, bL_s, bR_s, bG_s, bG_n, bX_l, bX_r, ck_nI, nI_clamp, nI_leT, nI_leF, nI_ltT, nI_ltF, nI_eqF, nI_add, pk_mul, ofN, bt_e, or0, Nat.zero_add, Nat.add_zero, ↓reduceIte, if_true, if_false, Bool.false_eq_true, eq_self, li0, li1, li2, li3, li4, li5, li6, li7, li8, li9, li10, li11, li12, li14, li15, li16, li18, li19, li20, li23, li24, li25, li26, li27, li30, li31, li32, li36, li40, li41, li42, li43, li44, li45, li47, li48, li57, li59, li60, li91, li93, li96, li97, li100, li105, li122, li150, li200, li255, li400, li500, li600, li999, li1000, li1001, li2000, li2001, li2002, li2003, li2004, li2005, li2006, li32767, li100000, li_neg, li13, li17, li21, li22, li28, li29, li33, li34, li35, li37, li38, li39, li46, li49, li50, li51, li52, li53, li63, li80, li115, li160]
  · obtain ⟨s, N⟩ := s
    obtain ⟨e, f⟩ := hI
    dsimp only at e f ⊢
    obtain ⟨p, l, d, hr, ⟨hP, hW⟩, _⟩ := hC.scr f hn
    refine ⟨_, ?_, N, rfl, f⟩
    rw [← e]
    by_cases c : j = 0
    · subst c
      simp (disch := omega) only [f_C_mightiest_b, hW.l, bI_s, bV_s, bL_s, bR_s, bG_s, bG_n, bX_l, bX_r, ck_nI, nI_clamp, nI_leT, nI_leF, nI_ltT, nI_ltF, nI_eqF, nI_add, pk_mul, ofN, bt_e, or0, Nat.zero_add, Nat.add_zero, ↓reduceIte, if_true, if_false, Bool.false_eq_true, eq_self, li0, li1, li2, li3, li4, li5, li6, li7, li8, li9, li10, li11, li12, li14, li15, li16, li18, li19, li20, li23, li24, li25, li26, li27, li30, li31, li32, li36, li40, li41, li42, li43, li44, li45, li47, li48, li57, li59, li60, li91, li93, li96, li97, li100, li105, li122, li150, li200, li255, li400, li500, li600, li999, li1000, li1001, li2000, li2001, li2002, li2003, li2004, li2005, li2006, li32767, li100000, li_neg, li13, li17, li21, li22, li28, li29, li33, li34, li35, li37, li38, li39, li46, li49, li50, li51, li52, li53, li63, li80, li115, li160]
    · obtain rfl : j = 1 := by omega
      simp (disch := omega) only [f_C_mightiest_b, hW.l, Nat.one_ne_zero, bI_s, bV_s, bL_s, bR_s, bG_s, bG_n, bX_l, bX_r, ck_nI, nI_clamp, nI_leT, nI_leF, nI_ltT, nI_ltF, nI_eqF, nI_add, pk_mul, ofN, bt_e, or0, Nat.zero_add, Nat.add_zero, ↓reduceIte, if_true, if_false, Bool.false_eq_true, eq_self, li0, li1, li2, li3, li4, li5, li6, li7, li8, li9, li10, li11, li12, li14, li15, li16, li18, li19, li20, li23, li24, li25, li26, li27, li30, li31, li32, li36, li40, li41, li42, li43, li44, li45, li47, li48, li57, li59, li60, li91, li93, li96, li97, li100, li105, li122, li150, li200, li255, li400, li500, li600, li999, li1000, li1001, li2000, li2001, li2002, li2003, li2004, li2005, li2006, li32767, li100000, li_neg, li13, li17, li21, li22, li28, li29, li33, li34, li35, li37, li38, li39, li46, li49, li50, li51, li52, li53, li63, li80, li115, li160]
theorem M_mightiest (hm : MJ N m S) (hO : oS S) {j : Nat} (hj : j ≤ 1) : ∃ N', f_M_mightiest_c FU m (nI j) (nI 4294967295) (nI 0) (nI 0) N = some (if j = 0 then nI (mst S (S.2.1 0 2)).1 else (mst S (S.2.1 0 2)).2, N') ∧ Fr (ks m) N N' := by
  have oW := hO.1.2.1
  have hLb := oW.l
  have key := lp_inv (R := Int32 × Mm) (fun u i (s : (Nat × Int32) × Mm) => f_M_mightiest_c u m (nI j) (nI s.1.1) s.1.2 (nI i) s.2) (S.2.1 0 2) (fun i s => s.1 = mst S i ∧ Fr (ks m) N s.2) (fun r => r.1 = (if j = 0 then nI (mst S (S.2.1 0 2)).1 else (mst S (S.2.1 0 2)).2) ∧ Fr (ks m) N r.2) (fun u i s hi hI => ?_) (fun u s hI => ?_) 0 (by omega) ((4294967295, nI 0), N) ⟨rfl, Fr.rf _ _⟩ FU (FU_lt (by omega))
  · obtain ⟨⟨z, M'⟩, e, e1, e3⟩ := key
    exact ⟨M', by rw [← e1]; exact e, e3⟩
  · obtain ⟨s, N1⟩ := s
    obtain ⟨e, f⟩ := hI
    dsimp only at e f ⊢
    have hm' := hm.ksm hO f
    have hin := mst_in S i
    rw [← e] at hin
    refine Or.inl ?_
    rw [mst_s, ← e]
    obtain ⟨N', e2, f2⟩ := M_forceOf hm' hO hi
    by_cases c1 : s.1 = 4294967295
    · refine ⟨((i, fc S i), N'), ?_, (if_pos (Or.inl c1)).symm, f.trans f2⟩
      simp (disch := omega) only [f_M_mightiest_c, hm'.1.2.l, c1, e2, bI_s, bV_s, bL_s, bR_s, bG_s, bG_n, bX_l, bX_r, ck_nI, nI_clamp, nI_leT, nI_leF, nI_ltT, nI_ltF, nI_eqF, nI_add, pk_mul, ofN, bt_e, or0, Nat.zero_add, Nat.add_zero, ↓reduceIte, if_true, if_false, Bool.false_eq_true, eq_self, li0, li1, li2, li3, li4, li5, li6, li7, li8, li9, li10, li11, li12, li14, li15, li16, li18, li19, li20, li23, li24, li25, li26, li27, li30, li31, li32, li36, li40, li41, li42, li43, li44, li45, li47, li48, li57, li59, li60, li91, li93, li96, li97, li100, li105, li122, li150, li200, li255, li400, li500, li600, li999, li1000, li1001, li2000, li2001, li2002, li2003, li2004, li2005, li2006, li32767, li100000, li_neg, li13, li17, li21, li22, li28, li29, li33, li34, li35, li37, li38, li39, li46, li49, li50, li51, li52, li53, li63, li80, li115, li160]
    · by_cases c2 : fc S i ≤ s.2
      · have c3 : (s.2 < fc S i) = False := eq_false (Int32.not_lt.mpr c2)
        refine ⟨(s, N'), ?_, (if_neg (fun z => z.elim c1 (fun z => z c2))).symm, f.trans f2⟩
        simp (disch := omega) only [f_M_mightiest_c, hm'.1.2.l, c1, e2, c3, bI_s, bV_s, bL_s, bR_s, bG_s, bG_n, bX_l, bX_r, ck_nI, nI_clamp, nI_leT, nI_leF, nI_ltT, nI_ltF, nI_eqF, nI_add, pk_mul, ofN, bt_e, or0, Nat.zero_add, Nat.add_zero, ↓reduceIte, if_true, if_false, Bool.false_eq_true, eq_self, li0, li1, li2, li3, li4, li5, li6, li7, li8, li9, li10, li11, li12, li14, li15, li16, li18, li19, li20, li23, li24, li25, li26, li27, li30, li31, li32, li36, li40, li41, li42, li43, li44, li45, li47, li48, li57, li59, li60, li91, li93, li96, li97, li100, li105, li122, li150, li200, li255, li400, li500, li600, li999, li1000, li1001, li2000, li2001, li2002, li2003, li2004, li2005, li2006, li32767, li100000, li_neg, li13, li17, li21, li22, li28, li29, li33, li34, li35, li37, li38, li39, li46, li49, li50, li51, li52, li53, li63, li80, li115, li160]
      · have c3 : s.2 < fc S i := Int32.not_le.mp c2
        refine ⟨((i, fc S i), N'), ?_, (if_pos (Or.inr c2)).symm, f.trans f2⟩
        simp (disch := omega) only [f_M_mightiest_c, hm'.1.2.l, c1, e2, c3, bI_s, bV_s, bL_s, bR_s, bG_s, bG_n, bX_l, bX_r, ck_nI, nI_clamp, nI_leT, nI_leF, nI_ltT, nI_ltF, nI_eqF, nI_add, pk_mul, ofN, bt_e, or0, Nat.zero_add, Nat.add_zero, ↓reduceIte, if_true, if_false, Bool.false_eq_true, eq_self, li0, li1, li2, li3, li4, li5, li6, li7, li8, li9, li10, li11, li12, li14, li15, li16, li18, li19, li20, li23, li24, li25, li26, li27, li30, li31, li32, li36, li40, li41, li42, li43, li44, li45, li47, li48, li57, li59, li60, li91, li93, li96, li97, li100, li105, li122, li150, li200, li255, li400, li500, li600, li999, li1000, li1001, li2000, li2001, li2002, li2003, li2004, li2005, li2006, li32767, li100000, li_neg, li13, li17, li21, li22, li28, li29, li33, li34, li35, li37, li38, li39, li46, li49, li50, li51, li52, li53, li63, li80, li115, li160]
  · obtain ⟨s, N1⟩ := s
    obtain ⟨e, f⟩ := hI
    dsimp only at e f ⊢
    have hm' := hm.ksm hO f
    refine ⟨(if j = 0 then nI (mst S (S.2.1 0 2)).1 else (mst S (S.2.1 0 2)).2, N1), ?_, rfl, f⟩
    rw [← e]
    by_cases c : j = 0
    · subst c
      simp (disch := omega) only [f_M_mightiest_c, hm'.1.2.l, bI_s, bV_s, bL_s, bR_s, bG_s, bG_n, bX_l, bX_r, ck_nI, nI_clamp, nI_leT, nI_leF, nI_ltT, nI_ltF, nI_eqF, nI_add, pk_mul, ofN, bt_e, or0, Nat.zero_add, Nat.add_zero, ↓reduceIte, if_true, if_false, Bool.false_eq_true, eq_self, li0, li1, li2, li3, li4, li5, li6, li7, li8, li9, li10, li11, li12, li14, li15, li16, li18, li19, li20, li23, li24, li25, li26, li27, li30, li31, li32, li36, li40, li41, li42, li43, li44, li45, li47, li48, li57, li59, li60, li91, li93, li96, li97, li100, li105, li122, li150, li200, li255, li400, li500, li600, li999, li1000, li1001, li2000, li2001, li2002, li2003, li2004, li2005, li2006, li32767, li100000, li_neg, li13, li17, li21, li22, li28, li29, li33, li34, li35, li37, li38, li39, li46, li49, li50, li51, li52, li53, li63, li80, li115, li160]
    · obtain rfl : j = 1 := by omega
      simp (disch := omega) only [f_M_mightiest_c, hm'.1.2.l, Nat.one_ne_zero, bI_s, bV_s, bL_s, bR_s, bG_s, bG_n, bX_l, bX_r, ck_nI, nI_clamp, nI_leT, nI_leF, nI_ltT, nI_ltF, nI_eqF, nI_add, pk_mul, ofN, bt_e, or0, Nat.zero_add, Nat.add_zero, ↓reduceIte, if_true, if_false, Bool.false_eq_true, eq_self, li0, li1, li2, li3, li4, li5, li6, li7, li8, li9, li10, li11, li12, li14, li15, li16, li18, li19, li20, li23, li24, li25, li26, li27, li30, li31, li32, li36, li40, li41, li42, li43, li44, li45, li47, li48, li57, li59, li60, li91, li93, li96, li97, li100, li105, li122, li150, li200, li255, li400, li500, li600, li999, li1000, li1001, li2000, li2001, li2002, li2003, li2004, li2005, li2006, li32767, li100000, li_neg, li13, li17, li21, li22, li28, li29, li33, li34, li35, li37, li38, li39, li46, li49, li50, li51, li52, li53, li63, li80, li115, li160]
theorem A_mightiest (h : InvS o M S) (p0 : Int32) : Ag cd1 Int32.toInt64 o (fun k => k = 1) (f_C_mightiest o p0 M) (fun M1 => f_M_mightiest (o + 61) p0 M1) := by
  obtain ⟨p, l, d, hr, ⟨hP, hW⟩, ⟨⟨t1, t2⟩, t3, ⟨t4, t5, t6⟩, t7, t8⟩, ⟨hL, hD⟩, oP, oW⟩ := h.u
  have hr10 := hr.2.1.1
  have hr12 := hr.2.2.1.1
  have hr14 := hr.2.2.2.1
  have hRb := oP.r
  have hBb := oP.b
  have hWb := oP.w
  have hLb := oW.l
  have hO := h.2.2.1
  rcases wth p0 0 1 (by omega) (by omega) with ⟨j, _, h2, rfl⟩ | ⟨w1, w2⟩
  · obtain ⟨M', e, f⟩ := C_mightiest h.1 hO h.2.2.2.1 h2
    refine agR h (v := if j = 0 then nI (mst S (S.2.1 0 2)).1 else (mst S (S.2.1 0 2)).2) (M' := M') ?_ f (fun M1 hm => ?_)
    · simp (disch := omega) only [f_C_mightiest, e, C_inT, f_C_mustBe, bI_s, bV_s, bL_s, bR_s, bG_s, bG_n, bX_l, bX_r, ck_nI, nI_clamp, nI_leT, nI_leF, nI_ltT, nI_ltF, nI_eqF, nI_add, pk_mul, ofN, bt_e, or0, Nat.zero_add, Nat.add_zero, ↓reduceIte, if_true, if_false, Bool.false_eq_true, eq_self, li0, li1, li2, li3, li4, li5, li6, li7, li8, li9, li10, li11, li12, li14, li15, li16, li18, li19, li20, li23, li24, li25, li26, li27, li30, li31, li32, li36, li40, li41, li42, li43, li44, li45, li47, li48, li57, li59, li60, li91, li93, li96, li97, li100, li105, li122, li150, li200, li255, li400, li500, li600, li999, li1000, li1001, li2000, li2001, li2002, li2003, li2004, li2005, li2006, li32767, li100000, li_neg, li13, li17, li21, li22, li28, li29, li33, li34, li35, li37, li38, li39, li46, li49, li50, li51, li52, li53, li63, li80, li115, li160]
    · obtain ⟨N', e2, f2⟩ := M_mightiest hm hO h2
      refine ⟨N', ?_, by rw [f2.i (by unfold ks; omega)]; exact gI_same .., FM.ksm f2⟩
      simp (disch := omega) only [f_M_mightiest, f_M_mightiest_b, e2, M_inT, hm.b0, bI_s, bV_s, bL_s, bR_s, bG_s, bG_n, bX_l, bX_r, ck_nI, nI_clamp, nI_leT, nI_leF, nI_ltT, nI_ltF, nI_eqF, nI_add, pk_mul, ofN, bt_e, or0, Nat.zero_add, Nat.add_zero, ↓reduceIte, if_true, if_false, Bool.false_eq_true, eq_self, li0, li1, li2, li3, li4, li5, li6, li7, li8, li9, li10, li11, li12, li14, li15, li16, li18, li19, li20, li23, li24, li25, li26, li27, li30, li31, li32, li36, li40, li41, li42, li43, li44, li45, li47, li48, li57, li59, li60, li91, li93, li96, li97, li100, li105, li122, li150, li200, li255, li400, li500, li600, li999, li1000, li1001, li2000, li2001, li2002, li2003, li2004, li2005, li2006, li32767, li100000, li_neg, li13, li17, li21, li22, li28, li29, li33, li34, li35, li37, li38, li39, li46, li49, li50, li51, li52, li53, li63, li80, li115, li160]
  · refine agE1 h (cc := 1) rfl rfl (by omega) ?_ (nI 0) (fun M1 hm => ?_)
    · simp (disch := omega) only [f_C_mightiest, w1, f_C_mustBe, t6, bI_s, bV_s, bL_s, bR_s, bG_s, bG_n, bX_l, bX_r, ck_nI, nI_clamp, nI_leT, nI_leF, nI_ltT, nI_ltF, nI_eqF, nI_add, pk_mul, ofN, bt_e, or0, Nat.zero_add, Nat.add_zero, ↓reduceIte, if_true, if_false, Bool.false_eq_true, eq_self, li0, li1, li2, li3, li4, li5, li6, li7, li8, li9, li10, li11, li12, li14, li15, li16, li18, li19, li20, li23, li24, li25, li26, li27, li30, li31, li32, li36, li40, li41, li42, li43, li44, li45, li47, li48, li57, li59, li60, li91, li93, li96, li97, li100, li105, li122, li150, li200, li255, li400, li500, li600, li999, li1000, li1001, li2000, li2001, li2002, li2003, li2004, li2005, li2006, li32767, li100000, li_neg, li13, li17, li21, li22, li28, li29, li33, li34, li35, li37, li38, li39, li46, li49, li50, li51, li52, li53, li63, li80, li115, li160]
    · simp (disch := omega) only [f_M_mightiest, f_M_mightiest_b, w2, hm.b11, bI_s, bV_s, bL_s, bR_s, bG_s, bG_n, bX_l, bX_r, ck_nI, nI_clamp, nI_leT, nI_leF, nI_ltT, nI_ltF, nI_eqF, nI_add, pk_mul, ofN, bt_e, or0, Nat.zero_add, Nat.add_zero, ↓reduceIte, if_true, if_false, Bool.false_eq_true, eq_self, li0, li1, li2, li3, li4, li5, li6, li7, li8, li9, li10, li11, li12, li14, li15, li16, li18, li19, li20, li23, li24, li25, li26, li27, li30, li31, li32, li36, li40, li41, li42, li43, li44, li45, li47, li48, li57, li59, li60, li91, li93, li96, li97, li100, li105, li122, li150, li200, li255, li400, li500, li600, li999, li1000, li1001, li2000, li2001, li2002, li2003, li2004, li2005, li2006, li32767, li100000, li_neg, li13, li17, li21, li22, li28, li29, li33, li34, li35, li37, li38, li39, li46, li49, li50, li51, li52, li53, li63, li80, li115, li160]
/-! loud -/
def ldS (S : St) (w n : Nat) : Int32 := fo n (fun i s => if S.2.1 4 i = w then s + fc S i else s) (nI 0)
theorem ldS_s (S : St) (w n : Nat) : ldS S w (n + 1) = if S.2.1 4 n = w then ldS S w n + fc S n else ldS S w n := rfl
theorem C_loud (hC : CI M o S) (hO : oS S) (hn : o + 561 ≤ nx M) {w : Nat} (hw : w < S.1 0 5) : ∃ M', f_C_loud_b FU o (nI w) (nI 0) (nI 0) M = some (Sum.inl (ldS S w (S.2.1 0 2), M')) ∧ Fr (scr o) M M' := by
  have oW := hO.1.2.1
  have hLb := oW.l
  have hWb := hO.1.1.w
  have key := lp_inv (R := (Int32 × Mm) ⊕ (Nat × Mm)) (fun u i (s : Int32 × Mm) => f_C_loud_b u o (nI w) s.1 (nI i) s.2) (S.2.1 0 2) (fun i s => s.1 = ldS S w i ∧ Fr (scr o) M s.2) (fun r => ∃ M', r = Sum.inl (ldS S w (S.2.1 0 2), M') ∧ Fr (scr o) M M') (fun u i s hi hI => ?_) (fun u s hI => ?_) 0 (by omega) (nI 0, M) ⟨rfl, Fr.rf _ _⟩ FU (FU_lt (by omega))
  · obtain ⟨r, e, M', e1, e3⟩ := key
    exact ⟨M', by rw [← e1]; exact e, e3⟩
  · obtain ⟨s, N⟩ := s
    obtain ⟨e, f⟩ := hI
    dsimp only at e f ⊢
    have hC' := hC.scr f hn
    obtain ⟨p, l, d, hr, ⟨hP, hW⟩, _⟩ := id hC'
    have hq := oW.w hi
    refine Or.inl ?_
    rw [ldS_s, ← e]
    by_cases c1 : S.2.1 4 i = w
    · obtain ⟨N', e2, f2⟩ := C_forceOf hC' hO (by rw [f.1.1]; exact hn) hi
      refine ⟨(s + fc S i, N'), ?_, (if_pos c1).symm, f.trans f2⟩
      simp (disch := omega) only [f_C_loud_b, hW.l, hW.w hi, c1, e2, bI_s, bV_s, bL_s, bR_s, bG_s, bG_n, bX_l, bX_r, ck_nI, nI_clamp, nI_leT, nI_leF, nI_ltT, nI_ltF, nI_eqF, nI_add, pk_mul, ofN, bt_e, or0, Nat.zero_add, Nat.add_zero, ↓reduceIte, if_true, if_false, Bool.false_eq_true, eq_self, li0, li1, li2, li3, li4, li5, li6, li7, li8, li9, li10, li11, li12, li14, li15, li16, li18, li19, li20, li23, li24, li25, li26, li27, li30, li31, li32, li36, li40, li41, li42, li43, li44, li45, li47, li48, li57, li59, li60, li91, li93, li96, li97, li100, li105, li122, li150, li200, li255, li400, li500, li600, li999, li1000, li1001, li2000, li2001, li2002, li2003, li2004, li2005, li2006, li32767, li100000, li_neg, li13, li17, li21, li22, li28, li29, li33, li34, li35, li37, li38, li39, li46, li49, li50, li51, li52, li53, li63, li80, li115, li160]
    · refine ⟨(s, N), ?_, (if_neg c1).symm, f⟩
      simp (disch := omega) only [f_C_loud_b, hW.l, hW.w hi, c1, bI_s, bV_s, bL_s, bR_s, bG_s, bG_n, bX_l, bX_r, ck_nI, nI_clamp, nI_leT, nI_leF, nI_ltT, nI_ltF, nI_eqF, nI_add, pk_mul, ofN, bt_e, or0, Nat.zero_add, Nat.add_zero, ↓reduceIte, if_true, if_false, Bool.false_eq_true, eq_self, li0, li1, li2, li3, li4, li5, li6, li7, li8, li9, li10, li11, li12, li14, li15, li16, li18, li19, li20, li23, li24, li25, li26, li27, li30, li31, li32, li36, li40, li41, li42, li43, li44, li45, li47, li48, li57, li59, li60, li91, li93, li96, li97, li100, li105, li122, li150, li200, li255, li400, li500, li600, li999, li1000, li1001, li2000, li2001, li2002, li2003, li2004, li2005, li2006, li32767, li100000, li_neg, li13, li17, li21, li22, li28, li29, li33, li34, li35, li37, li38, li39, li46, li49, li50, li51, li52, li53, li63, li80, li115, li160]
  · obtain ⟨s, N⟩ := s
    obtain ⟨e, f⟩ := hI
    dsimp only at e f ⊢
    obtain ⟨p, l, d, hr, ⟨hP, hW⟩, _⟩ := hC.scr f hn
    refine ⟨_, ?_, N, rfl, f⟩
    rw [← e]
    simp (disch := omega) only [f_C_loud_b, hW.l, bI_s, bV_s, bL_s, bR_s, bG_s, bG_n, bX_l, bX_r, ck_nI, nI_clamp, nI_leT, nI_leF, nI_ltT, nI_ltF, nI_eqF, nI_add, pk_mul, ofN, bt_e, or0, Nat.zero_add, Nat.add_zero, ↓reduceIte, if_true, if_false, Bool.false_eq_true, eq_self, li0, li1, li2, li3, li4, li5, li6, li7, li8, li9, li10, li11, li12, li14, li15, li16, li18, li19, li20, li23, li24, li25, li26, li27, li30, li31, li32, li36, li40, li41, li42, li43, li44, li45, li47, li48, li57, li59, li60, li91, li93, li96, li97, li100, li105, li122, li150, li200, li255, li400, li500, li600, li999, li1000, li1001, li2000, li2001, li2002, li2003, li2004, li2005, li2006, li32767, li100000, li_neg, li13, li17, li21, li22, li28, li29, li33, li34, li35, li37, li38, li39, li46, li49, li50, li51, li52, li53, li63, li80, li115, li160]
theorem M_loud (hm : MJ N m S) (hO : oS S) {w : Nat} (hw : w < S.1 0 5) : ∃ N', f_M_loud_c FU m (nI w) (nI 0) (nI 0) N = some (ldS S w (S.2.1 0 2), N') ∧ Fr (ks m) N N' := by
  have oW := hO.1.2.1
  have hLb := oW.l
  have hWb := hO.1.1.w
  have key := lp_inv (R := Int32 × Mm) (fun u i (s : Int32 × Mm) => f_M_loud_c u m (nI w) s.1 (nI i) s.2) (S.2.1 0 2) (fun i s => s.1 = ldS S w i ∧ Fr (ks m) N s.2) (fun r => r.1 = ldS S w (S.2.1 0 2) ∧ Fr (ks m) N r.2) (fun u i s hi hI => ?_) (fun u s hI => ?_) 0 (by omega) (nI 0, N) ⟨rfl, Fr.rf _ _⟩ FU (FU_lt (by omega))
  · obtain ⟨⟨z, M'⟩, e, e1, e3⟩ := key
    exact ⟨M', by rw [← e1]; exact e, e3⟩
  · obtain ⟨s, N1⟩ := s
    obtain ⟨e, f⟩ := hI
    dsimp only at e f ⊢
    have hm' := hm.ksm hO f
    have hq := oW.w hi
    refine Or.inl ?_
    rw [ldS_s, ← e]
    by_cases c1 : S.2.1 4 i = w
    · obtain ⟨N', e2, f2⟩ := M_forceOf hm' hO hi
      refine ⟨(s + fc S i, N'), ?_, (if_pos c1).symm, f.trans f2⟩
      simp (disch := omega) only [f_M_loud_c, hm'.1.2.l, (M_lineOf hm'.1.2 oW hi).2.2, c1, e2, bI_s, bV_s, bL_s, bR_s, bG_s, bG_n, bX_l, bX_r, ck_nI, nI_clamp, nI_leT, nI_leF, nI_ltT, nI_ltF, nI_eqF, nI_add, pk_mul, ofN, bt_e, or0, Nat.zero_add, Nat.add_zero, ↓reduceIte, if_true, if_false, Bool.false_eq_true, eq_self, li0, li1, li2, li3, li4, li5, li6, li7, li8, li9, li10, li11, li12, li14, li15, li16, li18, li19, li20, li23, li24, li25, li26, li27, li30, li31, li32, li36, li40, li41, li42, li43, li44, li45, li47, li48, li57, li59, li60, li91, li93, li96, li97, li100, li105, li122, li150, li200, li255, li400, li500, li600, li999, li1000, li1001, li2000, li2001, li2002, li2003, li2004, li2005, li2006, li32767, li100000, li_neg, li13, li17, li21, li22, li28, li29, li33, li34, li35, li37, li38, li39, li46, li49, li50, li51, li52, li53, li63, li80, li115, li160]
    · refine ⟨(s, N1), ?_, (if_neg c1).symm, f⟩
      simp (disch := omega) only [f_M_loud_c, hm'.1.2.l, (M_lineOf hm'.1.2 oW hi).2.2, c1, add0, bI_s, bV_s, bL_s, bR_s, bG_s, bG_n, bX_l, bX_r, ck_nI, nI_clamp, nI_leT, nI_leF, nI_ltT, nI_ltF, nI_eqF, nI_add, pk_mul, ofN, bt_e, or0, Nat.zero_add, Nat.add_zero, ↓reduceIte, if_true, if_false, Bool.false_eq_true, eq_self, li0, li1, li2, li3, li4, li5, li6, li7, li8, li9, li10, li11, li12, li14, li15, li16, li18, li19, li20, li23, li24, li25, li26, li27, li30, li31, li32, li36, li40, li41, li42, li43, li44, li45, li47, li48, li57, li59, li60, li91, li93, li96, li97, li100, li105, li122, li150, li200, li255, li400, li500, li600, li999, li1000, li1001, li2000, li2001, li2002, li2003, li2004, li2005, li2006, li32767, li100000, li_neg, li13, li17, li21, li22, li28, li29, li33, li34, li35, li37, li38, li39, li46, li49, li50, li51, li52, li53, li63, li80, li115, li160]
  · obtain ⟨s, N1⟩ := s
    obtain ⟨e, f⟩ := hI
    dsimp only at e f ⊢
    have hm' := hm.ksm hO f
    refine ⟨(ldS S w (S.2.1 0 2), N1), ?_, rfl, f⟩
    rw [← e]
    simp (disch := omega) only [f_M_loud_c, hm'.1.2.l, bI_s, bV_s, bL_s, bR_s, bG_s, bG_n, bX_l, bX_r, ck_nI, nI_clamp, nI_leT, nI_leF, nI_ltT, nI_ltF, nI_eqF, nI_add, pk_mul, ofN, bt_e, or0, Nat.zero_add, Nat.add_zero, ↓reduceIte, if_true, if_false, Bool.false_eq_true, eq_self, li0, li1, li2, li3, li4, li5, li6, li7, li8, li9, li10, li11, li12, li14, li15, li16, li18, li19, li20, li23, li24, li25, li26, li27, li30, li31, li32, li36, li40, li41, li42, li43, li44, li45, li47, li48, li57, li59, li60, li91, li93, li96, li97, li100, li105, li122, li150, li200, li255, li400, li500, li600, li999, li1000, li1001, li2000, li2001, li2002, li2003, li2004, li2005, li2006, li32767, li100000, li_neg, li13, li17, li21, li22, li28, li29, li33, li34, li35, li37, li38, li39, li46, li49, li50, li51, li52, li53, li63, li80, li115, li160]
theorem A_loud (h : InvS o M S) (p0 : Int32) : Ag cd1 Int32.toInt64 o (fun k => k = 0) (f_C_loud o p0 M) (fun M1 => f_M_loud (o + 61) p0 M1) := by
  obtain ⟨p, l, d, hr, ⟨hP, hW⟩, ⟨⟨t1, t2⟩, t3, ⟨t4, t5, t6⟩, t7, t8⟩, ⟨hL, hD⟩, oP, oW⟩ := h.u
  have hr10 := hr.2.1.1
  have hr12 := hr.2.2.1.1
  have hr14 := hr.2.2.2.1
  have hRb := oP.r
  have hBb := oP.b
  have hWb := oP.w
  have hLb := oW.l
  have hO := h.2.2.1
  rcases bel p0 (S.1 0 5) (by omega) with ⟨w, h1, rfl⟩ | ⟨b1, b2, _⟩
  · obtain ⟨M', e, f⟩ := C_loud h.1 hO h.2.2.2.1 h1
    refine agR h (v := ldS S w (S.2.1 0 2)) (M' := M') ?_ f (fun M1 hm => ?_)
    · simp (disch := omega) only [f_C_loud, hr10, hP.w, e, C_belT, f_C_mustExist, bI_s, bV_s, bL_s, bR_s, bG_s, bG_n, bX_l, bX_r, ck_nI, nI_clamp, nI_leT, nI_leF, nI_ltT, nI_ltF, nI_eqF, nI_add, pk_mul, ofN, bt_e, or0, Nat.zero_add, Nat.add_zero, ↓reduceIte, if_true, if_false, Bool.false_eq_true, eq_self, li0, li1, li2, li3, li4, li5, li6, li7, li8, li9, li10, li11, li12, li14, li15, li16, li18, li19, li20, li23, li24, li25, li26, li27, li30, li31, li32, li36, li40, li41, li42, li43, li44, li45, li47, li48, li57, li59, li60, li91, li93, li96, li97, li100, li105, li122, li150, li200, li255, li400, li500, li600, li999, li1000, li1001, li2000, li2001, li2002, li2003, li2004, li2005, li2006, li32767, li100000, li_neg, li13, li17, li21, li22, li28, li29, li33, li34, li35, li37, li38, li39, li46, li49, li50, li51, li52, li53, li63, li80, li115, li160]
    · obtain ⟨N', e2, f2⟩ := M_loud hm hO h1
      refine ⟨N', ?_, by rw [f2.i (by unfold ks; omega)]; exact gI_same .., FM.ksm f2⟩
      have z1 : nI (S.1 0 5) - nI 1 = nI (S.1 0 5 - 1) := pk_sub (by omega)
      simp (disch := omega) only [f_M_loud, f_M_loud_b, f_M_isWriter, hm.1.1.w, z1, e2, M_inT, hm.b0, bI_s, bV_s, bL_s, bR_s, bG_s, bG_n, bX_l, bX_r, ck_nI, nI_clamp, nI_leT, nI_leF, nI_ltT, nI_ltF, nI_eqF, nI_add, pk_mul, ofN, bt_e, or0, Nat.zero_add, Nat.add_zero, ↓reduceIte, if_true, if_false, Bool.false_eq_true, eq_self, li0, li1, li2, li3, li4, li5, li6, li7, li8, li9, li10, li11, li12, li14, li15, li16, li18, li19, li20, li23, li24, li25, li26, li27, li30, li31, li32, li36, li40, li41, li42, li43, li44, li45, li47, li48, li57, li59, li60, li91, li93, li96, li97, li100, li105, li122, li150, li200, li255, li400, li500, li600, li999, li1000, li1001, li2000, li2001, li2002, li2003, li2004, li2005, li2006, li32767, li100000, li_neg, li13, li17, li21, li22, li28, li29, li33, li34, li35, li37, li38, li39, li46, li49, li50, li51, li52, li53, li63, li80, li115, li160]
  · refine agE0 h rfl rfl ?_ (nI 0) (fun M1 hm => ?_)
    · simp (disch := omega) only [f_C_loud, hr10, hP.w, b1, f_C_mustExist, t5, bI_s, bV_s, bL_s, bR_s, bG_s, bG_n, bX_l, bX_r, ck_nI, nI_clamp, nI_leT, nI_leF, nI_ltT, nI_ltF, nI_eqF, nI_add, pk_mul, ofN, bt_e, or0, Nat.zero_add, Nat.add_zero, ↓reduceIte, if_true, if_false, Bool.false_eq_true, eq_self, li0, li1, li2, li3, li4, li5, li6, li7, li8, li9, li10, li11, li12, li14, li15, li16, li18, li19, li20, li23, li24, li25, li26, li27, li30, li31, li32, li36, li40, li41, li42, li43, li44, li45, li47, li48, li57, li59, li60, li91, li93, li96, li97, li100, li105, li122, li150, li200, li255, li400, li500, li600, li999, li1000, li1001, li2000, li2001, li2002, li2003, li2004, li2005, li2006, li32767, li100000, li_neg, li13, li17, li21, li22, li28, li29, li33, li34, li35, li37, li38, li39, li46, li49, li50, li51, li52, li53, li63, li80, li115, li160]
    · simp (disch := omega) only [f_M_loud, f_M_loud_b, f_M_isWriter, hm.1.1.w, b2, hm.b10, bI_s, bV_s, bL_s, bR_s, bG_s, bG_n, bX_l, bX_r, ck_nI, nI_clamp, nI_leT, nI_leF, nI_ltT, nI_ltF, nI_eqF, nI_add, pk_mul, ofN, bt_e, or0, Nat.zero_add, Nat.add_zero, ↓reduceIte, if_true, if_false, Bool.false_eq_true, eq_self, li0, li1, li2, li3, li4, li5, li6, li7, li8, li9, li10, li11, li12, li14, li15, li16, li18, li19, li20, li23, li24, li25, li26, li27, li30, li31, li32, li36, li40, li41, li42, li43, li44, li45, li47, li48, li57, li59, li60, li91, li93, li96, li97, li100, li105, li122, li150, li200, li255, li400, li500, li600, li999, li1000, li1001, li2000, li2001, li2002, li2003, li2004, li2005, li2006, li32767, li100000, li_neg, li13, li17, li21, li22, li28, li29, li33, li34, li35, li37, li38, li39, li46, li49, li50, li51, li52, li53, li63, li80, li115, li160]
/-! deeds told, acts in force -/
theorem J_bc10 {g : Nat} (h : g < 1024) : f_J_bitCount (nI g) M = some (nI (bc (nI g)), M) := by
  unfold f_J_bitCount
  refine congrArg (fun z => some (z, M)) ?_
  revert g
  decide +kernel
def und (n : Nat) (A : Nat → Nat) : Int32 := fo n (fun k s => if (fun _ : Nat => true) k = true then s ||| bt (A k) else s) (nI 0)
theorem und_hs {n : Nat} {A : Nat → Nat} (hA : ∀ k, k < n → A k < 10) {k : Nat} (hk : k < 32) : hs (und n A) k = true ↔ ∃ i, i < n ∧ A i = k :=
  (hs_fo (c := fun _ => true) (g := A) hk n (fun i hi => by have := hA i hi; omega)).trans ⟨fun ⟨i, h1, _, h2⟩ => ⟨i, h1, h2⟩, fun ⟨i, h1, h2⟩ => ⟨i, h1, rfl, h2⟩⟩
theorem und_bc {A : Nat → Nat} : ∀ n : Nat, (∀ k, k < n → A k < 10) → (∀ i k, i < k → k < n → A i ≠ A k) → bc (und n A) = n
  | 0 => fun _ _ => by
    show bc (nI 0) = 0
    unfold bc
    rw [sm_congr (g := fun _ => 0) 10 (fun k hk => by rw [hs_0 (by omega)]; rfl), sm_const]
  | n + 1 => fun hA hd => by
    have ih := und_bc n (fun k hk => hA k (by omega)) (fun i k h1 h2 => hd i k h1 (by omega))
    show bc (und n A ||| bt (A n)) = n + 1
    have ha := hA n (by omega)
    rw [bc_or ha, ih]
    cases hx : hs (und n A) (A n) with
    | false => rfl
    | true =>
      obtain ⟨i, h1, h2⟩ := (und_hs (fun k hk => hA k (by omega)) (by omega)).mp hx
      exact absurd h2 (hd i n h1 (by omega))
theorem nI_tn (x : Int32) : x = nI x.toBitVec.toNat := by
  apply Int32.toBitVec.inj
  show x.toBitVec = BitVec.ofNat 32 x.toBitVec.toNat
  rw [BitVec.ofNat_toNat, BitVec.setWidth_eq]
theorem und_lt {n : Nat} {A : Nat → Nat} (hA : ∀ k, k < n → A k < 10) : ∃ g, g < 1024 ∧ und n A = nI g := by
  refine ⟨(und n A).toBitVec.toNat, ?_, nI_tn _⟩
  refine Nat.lt_pow_two_of_testBit (n := 10) _ (fun i hi => ?_)
  rcases Nat.lt_or_ge i 32 with c | c
  · have h1 := hs_bv (x := und n A) c
    rw [BitVec.getLsbD] at h1
    rw [← h1]
    cases hx : hs (und n A) i with
    | false => rfl
    | true =>
      obtain ⟨j, h2, h3⟩ := (und_hs hA c).mp hx
      have := hA j h2
      omega
  · exact Nat.testBit_lt_two_pow (Nat.lt_of_lt_of_le (und n A).toBitVec.isLt (Nat.pow_le_pow_right (by omega) c))
theorem dY_or {n : Nat} {A B : Nat → Nat} (hA : ∀ k, k < n → A k < 10 ∧ B k ≤ 1) : dY n A B 1 ||| dY n A B 0 = und n A := by
  refine hs_ext (fun k hk => ?_)
  rw [hs_or hk, Bool.eq_iff_iff, Bool.or_eq_true, und_hs (fun k hk => (hA k hk).1) hk]
  have q1 := hs_fo (c := fun k => decide (B k = 1)) (g := A) hk n (fun i hi => by have := (hA i hi).1; omega)
  have q0 := hs_fo (c := fun k => decide (B k = 0)) (g := A) hk n (fun i hi => by have := (hA i hi).1; omega)
  constructor
  · rintro (h1 | h1)
    · obtain ⟨i, z1, _, z3⟩ := q1.mp h1; exact ⟨i, z1, z3⟩
    · obtain ⟨i, z1, _, z3⟩ := q0.mp h1; exact ⟨i, z1, z3⟩
  · rintro ⟨i, z1, z2⟩
    have := (hA i z1).2
    by_cases c : B i = 1
    · exact Or.inl (q1.mpr ⟨i, z1, decide_eq_true c, z2⟩)
    · exact Or.inr (q0.mpr ⟨i, z1, decide_eq_true (by omega), z2⟩)
theorem C_lines {d n : Nat} {A B : Nat → Nat} (hD : isD M d n A B) (hA : ∀ k, k < n → A k < 10 ∧ B k ≤ 1) (hd : ∀ i k, i < k → k < n → A i ≠ A k) : f_Deeds_lines d M = some (nI n, M) := by
  obtain ⟨g, h1, h2⟩ := und_lt (fun k hk => (hA k hk).1)
  have e : gI M d 0 ||| gI M d 1 = nI g := by rw [hD.1, hD.2, dY_or hA, h2]
  have e2 : bc (nI g) = n := by rw [← h2]; exact und_bc n (fun k hk => (hA k hk).1) hd
  simp (disch := omega) only [f_Deeds_lines, e, J_bc10, e2, bI_s, bV_s, bL_s, bR_s, bG_s, bG_n, bX_l, bX_r, ck_nI, nI_clamp, nI_leT, nI_leF, nI_ltT, nI_ltF, nI_eqF, nI_add, pk_mul, ofN, bt_e, or0, Nat.zero_add, Nat.add_zero, ↓reduceIte, if_true, if_false, Bool.false_eq_true, eq_self, li0, li1, li2, li3, li4, li5, li6, li7, li8, li9, li10, li11, li12, li14, li15, li16, li18, li19, li20, li23, li24, li25, li26, li27, li30, li31, li32, li36, li40, li41, li42, li43, li44, li45, li47, li48, li57, li59, li60, li91, li93, li96, li97, li100, li105, li122, li150, li200, li255, li400, li500, li600, li999, li1000, li1001, li2000, li2001, li2002, li2003, li2004, li2005, li2006, li32767, li100000, li_neg, li13, li17, li21, li22, li28, li29, li33, li34, li35, li37, li38, li39, li46, li49, li50, li51, li52, li53, li63, li80, li115, li160]
def aif (S : St) (n : Nat) : Int32 := fo n (fun mt s => if (lif S mt (S.2.1 0 2)).1 = 4294967295 then s else s ||| bt (S.2.1 2 (lif S mt (S.2.1 0 2)).1)) (nI 0)
theorem aif_s (S : St) (n : Nat) : aif S (n + 1) = if (lif S n (S.2.1 0 2)).1 = 4294967295 then aif S n else aif S n ||| bt (S.2.1 2 (lif S n (S.2.1 0 2)).1) := rfl
theorem C_actsInForce (hC : CI M o S) (hO : oS S) (hn : o + 561 ≤ nx M) : ∃ M', f_C_actsInForce o M = some (aif S 5, M') ∧ Fr (scr o) M M' := by
  have oW := hO.1.2.1
  have hLb := oW.l
  have key := lp_inv (R := Int32 × Mm) (fun u i (s : Int32 × Mm) => f_C_actsInForce_b u o s.1 (nI i) s.2) 5 (fun i s => s.1 = aif S i ∧ Fr (scr o) M s.2) (fun r => r.1 = aif S 5 ∧ Fr (scr o) M r.2) (fun u i s hi hI => ?_) (fun u s hI => ?_) 0 (by omega) (nI 0, M) ⟨rfl, Fr.rf _ _⟩ FU (FU_lt (by omega))
  · obtain ⟨⟨z, M'⟩, e, e1, e3⟩ := key
    exact ⟨M', by rw [← e1]; exact e, e3⟩
  · obtain ⟨s, N⟩ := s
    obtain ⟨e, f⟩ := hI
    dsimp only at e f ⊢
    have hC' := hC.scr f hn
    obtain ⟨N', e2, f2⟩ := C_lineInForce hC' hO (by rw [f.1.1]; exact hn) hi
    obtain ⟨p, l, d, hr, ⟨hP, hW⟩, _⟩ := hC.scr (f.trans f2) hn
    have hin := lif_in S i (S.2.1 0 2)
    refine Or.inl ?_
    rw [aif_s, ← e]
    by_cases c1 : (lif S i (S.2.1 0 2)).1 = 4294967295
    · rw [c1] at e2
      refine ⟨(s, N'), ?_, (if_pos c1).symm, f.trans f2⟩
      simp (disch := omega) only [f_C_actsInForce_b, e2, bI_s, bV_s, bL_s, bR_s, bG_s, bG_n, bX_l, bX_r, ck_nI, nI_clamp, nI_leT, nI_leF, nI_ltT, nI_ltF, nI_eqF, nI_add, pk_mul, ofN, bt_e, or0, Nat.zero_add, Nat.add_zero, ↓reduceIte, if_true, if_false, Bool.false_eq_true, eq_self, li0, li1, li2, li3, li4, li5, li6, li7, li8, li9, li10, li11, li12, li14, li15, li16, li18, li19, li20, li23, li24, li25, li26, li27, li30, li31, li32, li36, li40, li41, li42, li43, li44, li45, li47, li48, li57, li59, li60, li91, li93, li96, li97, li100, li105, li122, li150, li200, li255, li400, li500, li600, li999, li1000, li1001, li2000, li2001, li2002, li2003, li2004, li2005, li2006, li32767, li100000, li_neg, li13, li17, li21, li22, li28, li29, li33, li34, li35, li37, li38, li39, li46, li49, li50, li51, li52, li53, li63, li80, li115, li160]
    · refine ⟨(s ||| bt (S.2.1 2 (lif S i (S.2.1 0 2)).1), N'), ?_, (if_neg c1).symm, f.trans f2⟩
      have hq : (lif S i (S.2.1 0 2)).1 < S.2.1 0 2 := by omega
      simp (disch := omega) only [f_C_actsInForce_b, e2, hW.ac hq, c1, bI_s, bV_s, bL_s, bR_s, bG_s, bG_n, bX_l, bX_r, ck_nI, nI_clamp, nI_leT, nI_leF, nI_ltT, nI_ltF, nI_eqF, nI_add, pk_mul, ofN, bt_e, or0, Nat.zero_add, Nat.add_zero, ↓reduceIte, if_true, if_false, Bool.false_eq_true, eq_self, li0, li1, li2, li3, li4, li5, li6, li7, li8, li9, li10, li11, li12, li14, li15, li16, li18, li19, li20, li23, li24, li25, li26, li27, li30, li31, li32, li36, li40, li41, li42, li43, li44, li45, li47, li48, li57, li59, li60, li91, li93, li96, li97, li100, li105, li122, li150, li200, li255, li400, li500, li600, li999, li1000, li1001, li2000, li2001, li2002, li2003, li2004, li2005, li2006, li32767, li100000, li_neg, li13, li17, li21, li22, li28, li29, li33, li34, li35, li37, li38, li39, li46, li49, li50, li51, li52, li53, li63, li80, li115, li160]
  · obtain ⟨s, N⟩ := s
    obtain ⟨e, f⟩ := hI
    dsimp only at e f ⊢
    refine ⟨(s, N), ?_, e, f⟩
    simp (disch := omega) only [f_C_actsInForce_b, bI_s, bV_s, bL_s, bR_s, bG_s, bG_n, bX_l, bX_r, ck_nI, nI_clamp, nI_leT, nI_leF, nI_ltT, nI_ltF, nI_eqF, nI_add, pk_mul, ofN, bt_e, or0, Nat.zero_add, Nat.add_zero, ↓reduceIte, if_true, if_false, Bool.false_eq_true, eq_self, li0, li1, li2, li3, li4, li5, li6, li7, li8, li9, li10, li11, li12, li14, li15, li16, li18, li19, li20, li23, li24, li25, li26, li27, li30, li31, li32, li36, li40, li41, li42, li43, li44, li45, li47, li48, li57, li59, li60, li91, li93, li96, li97, li100, li105, li122, li150, li200, li255, li400, li500, li600, li999, li1000, li1001, li2000, li2001, li2002, li2003, li2004, li2005, li2006, li32767, li100000, li_neg, li13, li17, li21, li22, li28, li29, li33, li34, li35, li37, li38, li39, li46, li49, li50, li51, li52, li53, li63, li80, li115, li160]
theorem M_actsIn (hm : MJ N m S) (hO : oS S) (p0 : Int32) : ∃ N', f_M_told_c FU m p0 (nI 0) (nI 0) N = some (aif S 5, N') ∧ Fr (ks m) N N' := by
  have oW := hO.1.2.1
  have hLb := oW.l
  have key := lp_inv (R := Int32 × Mm) (fun u i (s : Int32 × Mm) => f_M_told_c u m p0 s.1 (nI i) s.2) 5 (fun i s => s.1 = aif S i ∧ Fr (ks m) N s.2) (fun r => r.1 = aif S 5 ∧ Fr (ks m) N r.2) (fun u i s hi hI => ?_) (fun u s hI => ?_) 0 (by omega) (nI 0, N) ⟨rfl, Fr.rf _ _⟩ FU (FU_lt (by omega))
  · obtain ⟨⟨z, M'⟩, e, e1, e3⟩ := key
    exact ⟨M', by rw [← e1]; exact e, e3⟩
  · obtain ⟨s, N1⟩ := s
    obtain ⟨e, f⟩ := hI
    dsimp only at e f ⊢
    have hm' := hm.ksm hO f
    obtain ⟨N', e2, f2⟩ := M_ruling hm' hO hi
    have hm2 := hm.ksm hO (f.trans f2)
    have hin := lif_in S i (S.2.1 0 2)
    refine Or.inl ?_
    rw [aif_s, ← e]
    by_cases c1 : (lif S i (S.2.1 0 2)).1 = 4294967295
    · rw [c1] at e2
      refine ⟨(s, N'), ?_, (if_pos c1).symm, f.trans f2⟩
      simp (disch := omega) only [f_M_told_c, e2, bI_s, bV_s, bL_s, bR_s, bG_s, bG_n, bX_l, bX_r, ck_nI, nI_clamp, nI_leT, nI_leF, nI_ltT, nI_ltF, nI_eqF, nI_add, pk_mul, ofN, bt_e, or0, Nat.zero_add, Nat.add_zero, ↓reduceIte, if_true, if_false, Bool.false_eq_true, eq_self, li0, li1, li2, li3, li4, li5, li6, li7, li8, li9, li10, li11, li12, li14, li15, li16, li18, li19, li20, li23, li24, li25, li26, li27, li30, li31, li32, li36, li40, li41, li42, li43, li44, li45, li47, li48, li57, li59, li60, li91, li93, li96, li97, li100, li105, li122, li150, li200, li255, li400, li500, li600, li999, li1000, li1001, li2000, li2001, li2002, li2003, li2004, li2005, li2006, li32767, li100000, li_neg, li13, li17, li21, li22, li28, li29, li33, li34, li35, li37, li38, li39, li46, li49, li50, li51, li52, li53, li63, li80, li115, li160]
    · obtain ⟨N'', e3, f3⟩ := M_ruling hm2 hO hi
      have hm3 := hm.ksm hO ((f.trans f2).trans f3)
      have hq : (lif S i (S.2.1 0 2)).1 < S.2.1 0 2 := by omega
      refine ⟨(s ||| bt (S.2.1 2 (lif S i (S.2.1 0 2)).1), N''), ?_, (if_neg c1).symm, (f.trans f2).trans f3⟩
      simp (disch := omega) only [f_M_told_c, e2, e3, (M_lineOf hm3.1.2 oW hq).1.2, c1, bI_s, bV_s, bL_s, bR_s, bG_s, bG_n, bX_l, bX_r, ck_nI, nI_clamp, nI_leT, nI_leF, nI_ltT, nI_ltF, nI_eqF, nI_add, pk_mul, ofN, bt_e, or0, Nat.zero_add, Nat.add_zero, ↓reduceIte, if_true, if_false, Bool.false_eq_true, eq_self, li0, li1, li2, li3, li4, li5, li6, li7, li8, li9, li10, li11, li12, li14, li15, li16, li18, li19, li20, li23, li24, li25, li26, li27, li30, li31, li32, li36, li40, li41, li42, li43, li44, li45, li47, li48, li57, li59, li60, li91, li93, li96, li97, li100, li105, li122, li150, li200, li255, li400, li500, li600, li999, li1000, li1001, li2000, li2001, li2002, li2003, li2004, li2005, li2006, li32767, li100000, li_neg, li13, li17, li21, li22, li28, li29, li33, li34, li35, li37, li38, li39, li46, li49, li50, li51, li52, li53, li63, li80, li115, li160]
  · obtain ⟨s, N1⟩ := s
    obtain ⟨e, f⟩ := hI
    dsimp only at e f ⊢
    refine ⟨(s, N1), ?_, e, f⟩
    simp (disch := omega) only [f_M_told_c, bI_s, bV_s, bL_s, bR_s, bG_s, bG_n, bX_l, bX_r, ck_nI, nI_clamp, nI_leT, nI_leF, nI_ltT, nI_ltF, nI_eqF, nI_add, pk_mul, ofN, bt_e, or0, Nat.zero_add, Nat.add_zero, ↓reduceIte, if_true, if_false, Bool.false_eq_true, eq_self, li0, li1, li2, li3, li4, li5, li6, li7, li8, li9, li10, li11, li12, li14, li15, li16, li18, li19, li20, li23, li24, li25, li26, li27, li30, li31, li32, li36, li40, li41, li42, li43, li44, li45, li47, li48, li57, li59, li60, li91, li93, li96, li97, li100, li105, li122, li150, li200, li255, li400, li500, li600, li999, li1000, li1001, li2000, li2001, li2002, li2003, li2004, li2005, li2006, li32767, li100000, li_neg, li13, li17, li21, li22, li28, li29, li33, li34, li35, li37, li38, li39, li46, li49, li50, li51, li52, li53, li63, li80, li115, li160]
theorem A_told (h : InvS o M S) (p0 : Int32) : Ag cd1 Int32.toInt64 o (fun k => k = 1) (f_C_told o p0 M) (fun M1 => f_M_told (o + 61) p0 M1) := by
  obtain ⟨p, l, d, hr, ⟨hP, hW⟩, ⟨⟨t1, t2⟩, t3, ⟨t4, t5, t6⟩, t7, t8⟩, ⟨hL, hD⟩, oP, oW⟩ := h.u
  have hr10 := hr.2.1.1
  have hr12 := hr.2.2.1.1
  have hr14 := hr.2.2.2.1
  have hRb := oP.r
  have hBb := oP.b
  have hWb := oP.w
  have hLb := oW.l
  have hO := h.2.2.1
  rcases wth p0 0 9 (by omega) (by omega) with ⟨j, _, h2, rfl⟩ | ⟨w1, w2⟩
  · obtain q | q | q | q | q | q | q | q | q | q : j = 0 ∨ j = 1 ∨ j = 2 ∨ j = 3 ∨ j = 4 ∨ j = 5 ∨ j = 6 ∨ j = 7 ∨ j = 8 ∨ j = 9 := by omega

    · subst q
      refine agR0 h (v := nI (S.1 0 0)) ?_ (fun M1 hm => ?_)
      · simp (disch := omega) only [f_C_told, hr10, hP.r, C_inT, f_C_mustBe, bI_s, bV_s, bL_s, bR_s, bG_s, bG_n, bX_l, bX_r, ck_nI, nI_clamp, nI_leT, nI_leF, nI_ltT, nI_ltF, nI_eqF, nI_add, pk_mul, ofN, bt_e, or0, Nat.zero_add, Nat.add_zero, ↓reduceIte, if_true, if_false, Bool.false_eq_true, eq_self, li0, li1, li2, li3, li4, li5, li6, li7, li8, li9, li10, li11, li12, li14, li15, li16, li18, li19, li20, li23, li24, li25, li26, li27, li30, li31, li32, li36, li40, li41, li42, li43, li44, li45, li47, li48, li57, li59, li60, li91, li93, li96, li97, li100, li105, li122, li150, li200, li255, li400, li500, li600, li999, li1000, li1001, li2000, li2001, li2002, li2003, li2004, li2005, li2006, li32767, li100000, li_neg, li13, li17, li21, li22, li28, li29, li33, li34, li35, li37, li38, li39, li46, li49, li50, li51, li52, li53, li63, li80, li115, li160]
      · simp (disch := omega) only [f_M_told, f_M_told_b, hm.1.1.r, M_inT, hm.b0, bI_s, bV_s, bL_s, bR_s, bG_s, bG_n, bX_l, bX_r, ck_nI, nI_clamp, nI_leT, nI_leF, nI_ltT, nI_ltF, nI_eqF, nI_add, pk_mul, ofN, bt_e, or0, Nat.zero_add, Nat.add_zero, ↓reduceIte, if_true, if_false, Bool.false_eq_true, eq_self, li0, li1, li2, li3, li4, li5, li6, li7, li8, li9, li10, li11, li12, li14, li15, li16, li18, li19, li20, li23, li24, li25, li26, li27, li30, li31, li32, li36, li40, li41, li42, li43, li44, li45, li47, li48, li57, li59, li60, li91, li93, li96, li97, li100, li105, li122, li150, li200, li255, li400, li500, li600, li999, li1000, li1001, li2000, li2001, li2002, li2003, li2004, li2005, li2006, li32767, li100000, li_neg, li13, li17, li21, li22, li28, li29, li33, li34, li35, li37, li38, li39, li46, li49, li50, li51, li52, li53, li63, li80, li115, li160]
    · subst q
      refine agR0 h (v := nI (S.1 0 2)) ?_ (fun M1 hm => ?_)
      · simp (disch := omega) only [f_C_told, hr10, hP.b, C_inT, f_C_mustBe, bI_s, bV_s, bL_s, bR_s, bG_s, bG_n, bX_l, bX_r, ck_nI, nI_clamp, nI_leT, nI_leF, nI_ltT, nI_ltF, nI_eqF, nI_add, pk_mul, ofN, bt_e, or0, Nat.zero_add, Nat.add_zero, ↓reduceIte, if_true, if_false, Bool.false_eq_true, eq_self, li0, li1, li2, li3, li4, li5, li6, li7, li8, li9, li10, li11, li12, li14, li15, li16, li18, li19, li20, li23, li24, li25, li26, li27, li30, li31, li32, li36, li40, li41, li42, li43, li44, li45, li47, li48, li57, li59, li60, li91, li93, li96, li97, li100, li105, li122, li150, li200, li255, li400, li500, li600, li999, li1000, li1001, li2000, li2001, li2002, li2003, li2004, li2005, li2006, li32767, li100000, li_neg, li13, li17, li21, li22, li28, li29, li33, li34, li35, li37, li38, li39, li46, li49, li50, li51, li52, li53, li63, li80, li115, li160]
      · simp (disch := omega) only [f_M_told, f_M_told_b, hm.1.1.b, M_inT, hm.b0, bI_s, bV_s, bL_s, bR_s, bG_s, bG_n, bX_l, bX_r, ck_nI, nI_clamp, nI_leT, nI_leF, nI_ltT, nI_ltF, nI_eqF, nI_add, pk_mul, ofN, bt_e, or0, Nat.zero_add, Nat.add_zero, ↓reduceIte, if_true, if_false, Bool.false_eq_true, eq_self, li0, li1, li2, li3, li4, li5, li6, li7, li8, li9, li10, li11, li12, li14, li15, li16, li18, li19, li20, li23, li24, li25, li26, li27, li30, li31, li32, li36, li40, li41, li42, li43, li44, li45, li47, li48, li57, li59, li60, li91, li93, li96, li97, li100, li105, li122, li150, li200, li255, li400, li500, li600, li999, li1000, li1001, li2000, li2001, li2002, li2003, li2004, li2005, li2006, li32767, li100000, li_neg, li13, li17, li21, li22, li28, li29, li33, li34, li35, li37, li38, li39, li46, li49, li50, li51, li52, li53, li63, li80, li115, li160]
    · subst q
      refine agR0 h (v := nI (S.1 0 5)) ?_ (fun M1 hm => ?_)
      · simp (disch := omega) only [f_C_told, hr10, hP.w, C_inT, f_C_mustBe, bI_s, bV_s, bL_s, bR_s, bG_s, bG_n, bX_l, bX_r, ck_nI, nI_clamp, nI_leT, nI_leF, nI_ltT, nI_ltF, nI_eqF, nI_add, pk_mul, ofN, bt_e, or0, Nat.zero_add, Nat.add_zero, ↓reduceIte, if_true, if_false, Bool.false_eq_true, eq_self, li0, li1, li2, li3, li4, li5, li6, li7, li8, li9, li10, li11, li12, li14, li15, li16, li18, li19, li20, li23, li24, li25, li26, li27, li30, li31, li32, li36, li40, li41, li42, li43, li44, li45, li47, li48, li57, li59, li60, li91, li93, li96, li97, li100, li105, li122, li150, li200, li255, li400, li500, li600, li999, li1000, li1001, li2000, li2001, li2002, li2003, li2004, li2005, li2006, li32767, li100000, li_neg, li13, li17, li21, li22, li28, li29, li33, li34, li35, li37, li38, li39, li46, li49, li50, li51, li52, li53, li63, li80, li115, li160]
      · simp (disch := omega) only [f_M_told, f_M_told_b, hm.1.1.w, M_inT, hm.b0, bI_s, bV_s, bL_s, bR_s, bG_s, bG_n, bX_l, bX_r, ck_nI, nI_clamp, nI_leT, nI_leF, nI_ltT, nI_ltF, nI_eqF, nI_add, pk_mul, ofN, bt_e, or0, Nat.zero_add, Nat.add_zero, ↓reduceIte, if_true, if_false, Bool.false_eq_true, eq_self, li0, li1, li2, li3, li4, li5, li6, li7, li8, li9, li10, li11, li12, li14, li15, li16, li18, li19, li20, li23, li24, li25, li26, li27, li30, li31, li32, li36, li40, li41, li42, li43, li44, li45, li47, li48, li57, li59, li60, li91, li93, li96, li97, li100, li105, li122, li150, li200, li255, li400, li500, li600, li999, li1000, li1001, li2000, li2001, li2002, li2003, li2004, li2005, li2006, li32767, li100000, li_neg, li13, li17, li21, li22, li28, li29, li33, li34, li35, li37, li38, li39, li46, li49, li50, li51, li52, li53, li63, li80, li115, li160]
    · subst q
      refine agR0 h (v := nI (S.2.1 0 0)) ?_ (fun M1 hm => ?_)
      · simp (disch := omega) only [f_C_told, hW.d0, C_inT, f_C_mustBe, bI_s, bV_s, bL_s, bR_s, bG_s, bG_n, bX_l, bX_r, ck_nI, nI_clamp, nI_leT, nI_leF, nI_ltT, nI_ltF, nI_eqF, nI_add, pk_mul, ofN, bt_e, or0, Nat.zero_add, Nat.add_zero, ↓reduceIte, if_true, if_false, Bool.false_eq_true, eq_self, li0, li1, li2, li3, li4, li5, li6, li7, li8, li9, li10, li11, li12, li14, li15, li16, li18, li19, li20, li23, li24, li25, li26, li27, li30, li31, li32, li36, li40, li41, li42, li43, li44, li45, li47, li48, li57, li59, li60, li91, li93, li96, li97, li100, li105, li122, li150, li200, li255, li400, li500, li600, li999, li1000, li1001, li2000, li2001, li2002, li2003, li2004, li2005, li2006, li32767, li100000, li_neg, li13, li17, li21, li22, li28, li29, li33, li34, li35, li37, li38, li39, li46, li49, li50, li51, li52, li53, li63, li80, li115, li160]
      · simp (disch := omega) only [f_M_told, f_M_told_b, hm.1.2.d0, M_inT, hm.b0, bI_s, bV_s, bL_s, bR_s, bG_s, bG_n, bX_l, bX_r, ck_nI, nI_clamp, nI_leT, nI_leF, nI_ltT, nI_ltF, nI_eqF, nI_add, pk_mul, ofN, bt_e, or0, Nat.zero_add, Nat.add_zero, ↓reduceIte, if_true, if_false, Bool.false_eq_true, eq_self, li0, li1, li2, li3, li4, li5, li6, li7, li8, li9, li10, li11, li12, li14, li15, li16, li18, li19, li20, li23, li24, li25, li26, li27, li30, li31, li32, li36, li40, li41, li42, li43, li44, li45, li47, li48, li57, li59, li60, li91, li93, li96, li97, li100, li105, li122, li150, li200, li255, li400, li500, li600, li999, li1000, li1001, li2000, li2001, li2002, li2003, li2004, li2005, li2006, li32767, li100000, li_neg, li13, li17, li21, li22, li28, li29, li33, li34, li35, li37, li38, li39, li46, li49, li50, li51, li52, li53, li63, li80, li115, li160]
    · subst q
      refine agR0 h (v := nI (S.2.1 0 2)) ?_ (fun M1 hm => ?_)
      · simp (disch := omega) only [f_C_told, hW.l, C_inT, f_C_mustBe, bI_s, bV_s, bL_s, bR_s, bG_s, bG_n, bX_l, bX_r, ck_nI, nI_clamp, nI_leT, nI_leF, nI_ltT, nI_ltF, nI_eqF, nI_add, pk_mul, ofN, bt_e, or0, Nat.zero_add, Nat.add_zero, ↓reduceIte, if_true, if_false, Bool.false_eq_true, eq_self, li0, li1, li2, li3, li4, li5, li6, li7, li8, li9, li10, li11, li12, li14, li15, li16, li18, li19, li20, li23, li24, li25, li26, li27, li30, li31, li32, li36, li40, li41, li42, li43, li44, li45, li47, li48, li57, li59, li60, li91, li93, li96, li97, li100, li105, li122, li150, li200, li255, li400, li500, li600, li999, li1000, li1001, li2000, li2001, li2002, li2003, li2004, li2005, li2006, li32767, li100000, li_neg, li13, li17, li21, li22, li28, li29, li33, li34, li35, li37, li38, li39, li46, li49, li50, li51, li52, li53, li63, li80, li115, li160]
      · simp (disch := omega) only [f_M_told, f_M_told_b, hm.1.2.l, M_inT, hm.b0, bI_s, bV_s, bL_s, bR_s, bG_s, bG_n, bX_l, bX_r, ck_nI, nI_clamp, nI_leT, nI_leF, nI_ltT, nI_ltF, nI_eqF, nI_add, pk_mul, ofN, bt_e, or0, Nat.zero_add, Nat.add_zero, ↓reduceIte, if_true, if_false, Bool.false_eq_true, eq_self, li0, li1, li2, li3, li4, li5, li6, li7, li8, li9, li10, li11, li12, li14, li15, li16, li18, li19, li20, li23, li24, li25, li26, li27, li30, li31, li32, li36, li40, li41, li42, li43, li44, li45, li47, li48, li57, li59, li60, li91, li93, li96, li97, li100, li105, li122, li150, li200, li255, li400, li500, li600, li999, li1000, li1001, li2000, li2001, li2002, li2003, li2004, li2005, li2006, li32767, li100000, li_neg, li13, li17, li21, li22, li28, li29, li33, li34, li35, li37, li38, li39, li46, li49, li50, li51, li52, li53, li63, li80, li115, li160]
    · subst q
      refine agR0 h (v := nI (lf S.1 S.2.1 0)) ?_ (fun M1 hm => ?_)
      · simp (disch := omega) only [f_C_told, hr10, C_lettersFrom hP oP hW oW (show 0 ≤ 4 by omega), C_inT, f_C_mustBe, bI_s, bV_s, bL_s, bR_s, bG_s, bG_n, bX_l, bX_r, ck_nI, nI_clamp, nI_leT, nI_leF, nI_ltT, nI_ltF, nI_eqF, nI_add, pk_mul, ofN, bt_e, or0, Nat.zero_add, Nat.add_zero, ↓reduceIte, if_true, if_false, Bool.false_eq_true, eq_self, li0, li1, li2, li3, li4, li5, li6, li7, li8, li9, li10, li11, li12, li14, li15, li16, li18, li19, li20, li23, li24, li25, li26, li27, li30, li31, li32, li36, li40, li41, li42, li43, li44, li45, li47, li48, li57, li59, li60, li91, li93, li96, li97, li100, li105, li122, li150, li200, li255, li400, li500, li600, li999, li1000, li1001, li2000, li2001, li2002, li2003, li2004, li2005, li2006, li32767, li100000, li_neg, li13, li17, li21, li22, li28, li29, li33, li34, li35, li37, li38, li39, li46, li49, li50, li51, li52, li53, li63, li80, li115, li160]
      · simp (disch := omega) only [f_M_told, f_M_told_b, M_lettersFrom hm.1.1 oP hm.1.2 oW (show 0 ≤ 4 by omega), M_inT, hm.b0, bI_s, bV_s, bL_s, bR_s, bG_s, bG_n, bX_l, bX_r, ck_nI, nI_clamp, nI_leT, nI_leF, nI_ltT, nI_ltF, nI_eqF, nI_add, pk_mul, ofN, bt_e, or0, Nat.zero_add, Nat.add_zero, ↓reduceIte, if_true, if_false, Bool.false_eq_true, eq_self, li0, li1, li2, li3, li4, li5, li6, li7, li8, li9, li10, li11, li12, li14, li15, li16, li18, li19, li20, li23, li24, li25, li26, li27, li30, li31, li32, li36, li40, li41, li42, li43, li44, li45, li47, li48, li57, li59, li60, li91, li93, li96, li97, li100, li105, li122, li150, li200, li255, li400, li500, li600, li999, li1000, li1001, li2000, li2001, li2002, li2003, li2004, li2005, li2006, li32767, li100000, li_neg, li13, li17, li21, li22, li28, li29, li33, li34, li35, li37, li38, li39, li46, li49, li50, li51, li52, li53, li63, li80, li115, li160]
    · subst q
      obtain ⟨M', e, f⟩ := C_actsInForce h.1 hO h.2.2.2.1
      refine agR h (v := aif S 5) (M' := M') ?_ f (fun M1 hm => ?_)
      · simp (disch := omega) only [f_C_told, e, C_inT, f_C_mustBe, bI_s, bV_s, bL_s, bR_s, bG_s, bG_n, bX_l, bX_r, ck_nI, nI_clamp, nI_leT, nI_leF, nI_ltT, nI_ltF, nI_eqF, nI_add, pk_mul, ofN, bt_e, or0, Nat.zero_add, Nat.add_zero, ↓reduceIte, if_true, if_false, Bool.false_eq_true, eq_self, li0, li1, li2, li3, li4, li5, li6, li7, li8, li9, li10, li11, li12, li14, li15, li16, li18, li19, li20, li23, li24, li25, li26, li27, li30, li31, li32, li36, li40, li41, li42, li43, li44, li45, li47, li48, li57, li59, li60, li91, li93, li96, li97, li100, li105, li122, li150, li200, li255, li400, li500, li600, li999, li1000, li1001, li2000, li2001, li2002, li2003, li2004, li2005, li2006, li32767, li100000, li_neg, li13, li17, li21, li22, li28, li29, li33, li34, li35, li37, li38, li39, li46, li49, li50, li51, li52, li53, li63, li80, li115, li160]
      · obtain ⟨N', e2, f2⟩ := M_actsIn hm hO (nI 6)
        refine ⟨N', ?_, by rw [f2.i (by unfold ks; omega)]; exact gI_same .., FM.ksm f2⟩
        simp (disch := omega) only [f_M_told, f_M_told_b, e2, M_inT, hm.b0, bI_s, bV_s, bL_s, bR_s, bG_s, bG_n, bX_l, bX_r, ck_nI, nI_clamp, nI_leT, nI_leF, nI_ltT, nI_ltF, nI_eqF, nI_add, pk_mul, ofN, bt_e, or0, Nat.zero_add, Nat.add_zero, ↓reduceIte, if_true, if_false, Bool.false_eq_true, eq_self, li0, li1, li2, li3, li4, li5, li6, li7, li8, li9, li10, li11, li12, li14, li15, li16, li18, li19, li20, li23, li24, li25, li26, li27, li30, li31, li32, li36, li40, li41, li42, li43, li44, li45, li47, li48, li57, li59, li60, li91, li93, li96, li97, li100, li105, li122, li150, li200, li255, li400, li500, li600, li999, li1000, li1001, li2000, li2001, li2002, li2003, li2004, li2005, li2006, li32767, li100000, li_neg, li13, li17, li21, li22, li28, li29, li33, li34, li35, li37, li38, li39, li46, li49, li50, li51, li52, li53, li63, li80, li115, li160]
    · subst q
      refine agR0 h (v := nI (S.2.2.1 0 8)) ?_ (fun M1 hm => ?_)
      · simp (disch := omega) only [f_C_told, hr14, C_lines hD hO.2.2.1.2.1 hO.2.2.1.2.2, C_inT, f_C_mustBe, bI_s, bV_s, bL_s, bR_s, bG_s, bG_n, bX_l, bX_r, ck_nI, nI_clamp, nI_leT, nI_leF, nI_ltT, nI_ltF, nI_eqF, nI_add, pk_mul, ofN, bt_e, or0, Nat.zero_add, Nat.add_zero, ↓reduceIte, if_true, if_false, Bool.false_eq_true, eq_self, li0, li1, li2, li3, li4, li5, li6, li7, li8, li9, li10, li11, li12, li14, li15, li16, li18, li19, li20, li23, li24, li25, li26, li27, li30, li31, li32, li36, li40, li41, li42, li43, li44, li45, li47, li48, li57, li59, li60, li91, li93, li96, li97, li100, li105, li122, li150, li200, li255, li400, li500, li600, li999, li1000, li1001, li2000, li2001, li2002, li2003, li2004, li2005, li2006, li32767, li100000, li_neg, li13, li17, li21, li22, li28, li29, li33, li34, li35, li37, li38, li39, li46, li49, li50, li51, li52, li53, li63, li80, li115, li160]
      · simp (disch := omega) only [f_M_told, f_M_told_b, hm.2.2.1.2.1, M_inT, hm.b0, bI_s, bV_s, bL_s, bR_s, bG_s, bG_n, bX_l, bX_r, ck_nI, nI_clamp, nI_leT, nI_leF, nI_ltT, nI_ltF, nI_eqF, nI_add, pk_mul, ofN, bt_e, or0, Nat.zero_add, Nat.add_zero, ↓reduceIte, if_true, if_false, Bool.false_eq_true, eq_self, li0, li1, li2, li3, li4, li5, li6, li7, li8, li9, li10, li11, li12, li14, li15, li16, li18, li19, li20, li23, li24, li25, li26, li27, li30, li31, li32, li36, li40, li41, li42, li43, li44, li45, li47, li48, li57, li59, li60, li91, li93, li96, li97, li100, li105, li122, li150, li200, li255, li400, li500, li600, li999, li1000, li1001, li2000, li2001, li2002, li2003, li2004, li2005, li2006, li32767, li100000, li_neg, li13, li17, li21, li22, li28, li29, li33, li34, li35, li37, li38, li39, li46, li49, li50, li51, li52, li53, li63, li80, li115, li160]
    · subst q
      refine agR0 h (v := nI (S.2.2.1 0 2)) ?_ (fun M1 hm => ?_)
      · simp (disch := omega) only [f_C_told, t4, C_inT, f_C_mustBe, bI_s, bV_s, bL_s, bR_s, bG_s, bG_n, bX_l, bX_r, ck_nI, nI_clamp, nI_leT, nI_leF, nI_ltT, nI_ltF, nI_eqF, nI_add, pk_mul, ofN, bt_e, or0, Nat.zero_add, Nat.add_zero, ↓reduceIte, if_true, if_false, Bool.false_eq_true, eq_self, li0, li1, li2, li3, li4, li5, li6, li7, li8, li9, li10, li11, li12, li14, li15, li16, li18, li19, li20, li23, li24, li25, li26, li27, li30, li31, li32, li36, li40, li41, li42, li43, li44, li45, li47, li48, li57, li59, li60, li91, li93, li96, li97, li100, li105, li122, li150, li200, li255, li400, li500, li600, li999, li1000, li1001, li2000, li2001, li2002, li2003, li2004, li2005, li2006, li32767, li100000, li_neg, li13, li17, li21, li22, li28, li29, li33, li34, li35, li37, li38, li39, li46, li49, li50, li51, li52, li53, li63, li80, li115, li160]
      · simp (disch := omega) only [f_M_told, f_M_told_b, hm.2.1.2.2.1.1, M_inT, hm.b0, bI_s, bV_s, bL_s, bR_s, bG_s, bG_n, bX_l, bX_r, ck_nI, nI_clamp, nI_leT, nI_leF, nI_ltT, nI_ltF, nI_eqF, nI_add, pk_mul, ofN, bt_e, or0, Nat.zero_add, Nat.add_zero, ↓reduceIte, if_true, if_false, Bool.false_eq_true, eq_self, li0, li1, li2, li3, li4, li5, li6, li7, li8, li9, li10, li11, li12, li14, li15, li16, li18, li19, li20, li23, li24, li25, li26, li27, li30, li31, li32, li36, li40, li41, li42, li43, li44, li45, li47, li48, li57, li59, li60, li91, li93, li96, li97, li100, li105, li122, li150, li200, li255, li400, li500, li600, li999, li1000, li1001, li2000, li2001, li2002, li2003, li2004, li2005, li2006, li32767, li100000, li_neg, li13, li17, li21, li22, li28, li29, li33, li34, li35, li37, li38, li39, li46, li49, li50, li51, li52, li53, li63, li80, li115, li160]
    · subst q
      refine agR0 h (v := nI (S.2.1 0 1)) ?_ (fun M1 hm => ?_)
      · simp (disch := omega) only [f_C_told, hW.d1, C_inT, f_C_mustBe, bI_s, bV_s, bL_s, bR_s, bG_s, bG_n, bX_l, bX_r, ck_nI, nI_clamp, nI_leT, nI_leF, nI_ltT, nI_ltF, nI_eqF, nI_add, pk_mul, ofN, bt_e, or0, Nat.zero_add, Nat.add_zero, ↓reduceIte, if_true, if_false, Bool.false_eq_true, eq_self, li0, li1, li2, li3, li4, li5, li6, li7, li8, li9, li10, li11, li12, li14, li15, li16, li18, li19, li20, li23, li24, li25, li26, li27, li30, li31, li32, li36, li40, li41, li42, li43, li44, li45, li47, li48, li57, li59, li60, li91, li93, li96, li97, li100, li105, li122, li150, li200, li255, li400, li500, li600, li999, li1000, li1001, li2000, li2001, li2002, li2003, li2004, li2005, li2006, li32767, li100000, li_neg, li13, li17, li21, li22, li28, li29, li33, li34, li35, li37, li38, li39, li46, li49, li50, li51, li52, li53, li63, li80, li115, li160]
      · simp (disch := omega) only [f_M_told, f_M_told_b, hm.1.2.d1, M_inT, hm.b0, bI_s, bV_s, bL_s, bR_s, bG_s, bG_n, bX_l, bX_r, ck_nI, nI_clamp, nI_leT, nI_leF, nI_ltT, nI_ltF, nI_eqF, nI_add, pk_mul, ofN, bt_e, or0, Nat.zero_add, Nat.add_zero, ↓reduceIte, if_true, if_false, Bool.false_eq_true, eq_self, li0, li1, li2, li3, li4, li5, li6, li7, li8, li9, li10, li11, li12, li14, li15, li16, li18, li19, li20, li23, li24, li25, li26, li27, li30, li31, li32, li36, li40, li41, li42, li43, li44, li45, li47, li48, li57, li59, li60, li91, li93, li96, li97, li100, li105, li122, li150, li200, li255, li400, li500, li600, li999, li1000, li1001, li2000, li2001, li2002, li2003, li2004, li2005, li2006, li32767, li100000, li_neg, li13, li17, li21, li22, li28, li29, li33, li34, li35, li37, li38, li39, li46, li49, li50, li51, li52, li53, li63, li80, li115, li160]
  · refine agE1 h (cc := 1) rfl rfl (by omega) ?_ (nI 0) (fun M1 hm => ?_)
    · show bI (f_C_isWithin p0 (nI 0) (nI 9) M) _ = _
      have e0 : f_C_mustBe o (nI 0) M = some (Sum.inr (1, sI M o 18 (nI (S.2.2.1 0 4 + 1)))) := by simp (disch := omega) only [f_C_mustBe, t6, bI_s, bV_s, bL_s, bR_s, bG_s, bG_n, bX_l, bX_r, ck_nI, nI_clamp, nI_leT, nI_leF, nI_ltT, nI_ltF, nI_eqF, nI_add, pk_mul, ofN, bt_e, or0, Nat.zero_add, Nat.add_zero, ↓reduceIte, if_true, if_false, Bool.false_eq_true, eq_self, li0, li1, li2, li3, li4, li5, li6, li7, li8, li9, li10, li11, li12, li14, li15, li16, li18, li19, li20, li23, li24, li25, li26, li27, li30, li31, li32, li36, li40, li41, li42, li43, li44, li45, li47, li48, li57, li59, li60, li91, li93, li96, li97, li100, li105, li122, li150, li200, li255, li400, li500, li600, li999, li1000, li1001, li2000, li2001, li2002, li2003, li2004, li2005, li2006, li32767, li100000, li_neg, li13, li17, li21, li22, li28, li29, li33, li34, li35, li37, li38, li39, li46, li49, li50, li51, li52, li53, li63, li80, li115, li160]
      rw [w1, bI_s, e0, bX_r]
    · show bI (f_M_in p0 (nI 0) (nI 9) (sI M1 (o + 61) 0 (nI 0))) _ = _
      rw [w2, bI_s, if_pos (show nI 0 = 0 from rfl)]
      show bI (f_M_bad (o + 61) (nI 1) (nI 1) (nI 1) (sI M1 (o + 61) 0 (nI 0))) _ = _
      rw [hm.b11 (by omega) (by omega), bI_s, if_neg (show ¬ nI 1 = 0 by decide)]
      rfl
end
