/-! # functional level, 15: torn, missing, idle, send, fault, status, count -/
section
variable {M M' M1 N : Mm} {o m : Nat} {S : St} {P W : TT}
theorem ag0R {c : Option (Int32 × Mm)} {f : Mm → Option (Int32 × Mm)} (h : InvS o M S) {v : Int32} (hc : c = some (v, M')) (hfr : Fr (scr o) M M') (hf : ∀ M1, MJ (sI M1 (o + 61) 0 (nI 0)) (o + 61) S → ∃ M2, f M1 = some (v, M2) ∧ FM (o + 61) (sI M1 (o + 61) 0 (nI 0)) M2) : Ag0 o c f := by
  obtain ⟨hC, hM, hO, hn, hz⟩ := h
  have hm1 : MJ (sI M' (o + 61) 0 (nI 0)) (o + 61) S := hM.mv hO (fun a j h1 h2 h3 => by
    rw [gI_ne (by unfold scM at h3; omega)]
    exact hfr.i (by unfold scr; omega) j)
  obtain ⟨M2, e2, e4⟩ := hf M' hm1
  have f1 : FM (o + 61) M' M2 := ((FM.rf _ _).sI (Or.inr ⟨rfl, Or.inl rfl⟩)).trans e4
  have c1 : CI M' o S := hC.mv (hfr.eqx (fun a ha => Or.inl ha)) hn (fun a ha => ha)
  have n1 : nx M' = nx M := hfr.1.1
  refine ⟨v, M', hc, M2, e2, S, f1.fa.ci c1 (by omega), e4.mj hm1 hO, hO, by rw [f1.1.1]; omega, f1.fa.kz (fun a ha => ?_)⟩
  rw [hfr.1.2]; exact hz a (by omega)
theorem ag0R0 {c : Option (Int32 × Mm)} {f : Mm → Option (Int32 × Mm)} (h : InvS o M S) {v : Int32} (hc : c = some (v, M)) (hf : ∀ M1, MJ (sI M1 (o + 61) 0 (nI 0)) (o + 61) S → f M1 = some (v, sI M1 (o + 61) 0 (nI 0))) : Ag0 o c f :=
  ag0R h hc (Fr.rf _ _) (fun M1 h1 => ⟨_, hf M1 h1, FM.rf _ _⟩)
theorem A_fault (h : InvS o M S) : Ag0 o (f_C_fault o M) (fun M1 => f_M_fault (o + 61) M1) := by
  obtain ⟨p, l, d, hr, ⟨hP, hW⟩, ⟨⟨t1, t2⟩, t3, ⟨t4, t5, t6⟩, t7, t8⟩, ⟨hL, hD⟩, oP, oW⟩ := h.u
  have hr10 := hr.2.1.1
  have hr12 := hr.2.2.1.1
  have hr14 := hr.2.2.2.1
  have hRb := oP.r
  have hBb := oP.b
  have hWb := oP.w
  have hLb := oW.l
  refine ag0R0 h (v := nI (S.2.2.1 0 1)) ?_ (fun M1 hm => ?_)
  · simp (disch := omega) only [f_C_fault, t2, bI_s, bV_s, bL_s, bR_s, bG_s, bG_n, bX_l, bX_r, ck_nI, nI_clamp, nI_leT, nI_leF, nI_ltT, nI_ltF, nI_eqF, nI_add, pk_mul, ofN, bt_e, or0, Nat.zero_add, Nat.add_zero, ↓reduceIte, if_true, if_false, Bool.false_eq_true, eq_self, li0, li1, li2, li3, li4, li5, li6, li7, li8, li9, li10, li11, li12, li14, li15, li16, li18, li19, li20, li23, li24, li25, li26, li27, li30, li31, li32, li36, li40, li41, li42, li43, li44, li45, li47, li48, li57, li59, li60, li91, li93, li96, li97, li100, li105, li122, li150, li200, li255, li400, li500, li600, li999, li1000, li1001, li2000, li2001, li2002, li2003, li2004, li2005, li2006, li32767, li100000, li_neg, li13, li17, li21, li22, li28, li29, li33, li34, li35, li37, li38, li39, li46, li49, li50, li51, li52, li53, li63, li80, li115, li160]
  · have e := hm.2.1.1.2
    simp (disch := omega) only [f_M_fault, e, bI_s, bV_s, bL_s, bR_s, bG_s, bG_n, bX_l, bX_r, ck_nI, nI_clamp, nI_leT, nI_leF, nI_ltT, nI_ltF, nI_eqF, nI_add, pk_mul, ofN, bt_e, or0, Nat.zero_add, Nat.add_zero, ↓reduceIte, if_true, if_false, Bool.false_eq_true, eq_self, li0, li1, li2, li3, li4, li5, li6, li7, li8, li9, li10, li11, li12, li14, li15, li16, li18, li19, li20, li23, li24, li25, li26, li27, li30, li31, li32, li36, li40, li41, li42, li43, li44, li45, li47, li48, li57, li59, li60, li91, li93, li96, li97, li100, li105, li122, li150, li200, li255, li400, li500, li600, li999, li1000, li1001, li2000, li2001, li2002, li2003, li2004, li2005, li2006, li32767, li100000, li_neg, li13, li17, li21, li22, li28, li29, li33, li34, li35, li37, li38, li39, li46, li49, li50, li51, li52, li53, li63, li80, li115, li160]
theorem A_status (h : InvS o M S) (p0 : Int32) : Ag0 o (f_C_status o p0 M) (fun M1 => f_M_status (o + 61) p0 M1) := by
  obtain ⟨p, l, d, hr, ⟨hP, hW⟩, ⟨⟨t1, t2⟩, t3, ⟨t4, t5, t6⟩, t7, t8⟩, ⟨hL, hD⟩, oP, oW⟩ := h.u
  have hr10 := hr.2.1.1
  have hr12 := hr.2.2.1.1
  have hr14 := hr.2.2.2.1
  have hRb := oP.r
  have hBb := oP.b
  have hWb := oP.w
  have hLb := oW.l
  rcases wth p0 0 1 (by omega) (by omega) with ⟨j, _, h2, rfl⟩ | ⟨w1, w2⟩
  · obtain q | q : j = 0 ∨ j = 1 := by omega
    · subst q
      refine ag0R0 h (v := nI (S.2.2.1 0 3)) ?_ (fun M1 hm => ?_)
      · simp (disch := omega) only [f_C_status, t5, bI_s, bV_s, bL_s, bR_s, bG_s, bG_n, bX_l, bX_r, ck_nI, nI_clamp, nI_leT, nI_leF, nI_ltT, nI_ltF, nI_eqF, nI_add, pk_mul, ofN, bt_e, or0, Nat.zero_add, Nat.add_zero, ↓reduceIte, if_true, if_false, Bool.false_eq_true, eq_self, li0, li1, li2, li3, li4, li5, li6, li7, li8, li9, li10, li11, li12, li14, li15, li16, li18, li19, li20, li23, li24, li25, li26, li27, li30, li31, li32, li36, li40, li41, li42, li43, li44, li45, li47, li48, li57, li59, li60, li91, li93, li96, li97, li100, li105, li122, li150, li200, li255, li400, li500, li600, li999, li1000, li1001, li2000, li2001, li2002, li2003, li2004, li2005, li2006, li32767, li100000, li_neg, li13, li17, li21, li22, li28, li29, li33, li34, li35, li37, li38, li39, li46, li49, li50, li51, li52, li53, li63, li80, li115, li160]
      · have e := hm.2.1.2.2.1.2.1
        simp (disch := omega) only [f_M_status, e, M_inT, bI_s, bV_s, bL_s, bR_s, bG_s, bG_n, bX_l, bX_r, ck_nI, nI_clamp, nI_leT, nI_leF, nI_ltT, nI_ltF, nI_eqF, nI_add, pk_mul, ofN, bt_e, or0, Nat.zero_add, Nat.add_zero, ↓reduceIte, if_true, if_false, Bool.false_eq_true, eq_self, li0, li1, li2, li3, li4, li5, li6, li7, li8, li9, li10, li11, li12, li14, li15, li16, li18, li19, li20, li23, li24, li25, li26, li27, li30, li31, li32, li36, li40, li41, li42, li43, li44, li45, li47, li48, li57, li59, li60, li91, li93, li96, li97, li100, li105, li122, li150, li200, li255, li400, li500, li600, li999, li1000, li1001, li2000, li2001, li2002, li2003, li2004, li2005, li2006, li32767, li100000, li_neg, li13, li17, li21, li22, li28, li29, li33, li34, li35, li37, li38, li39, li46, li49, li50, li51, li52, li53, li63, li80, li115, li160]
    · subst q
      refine ag0R0 h (v := nI (S.2.2.1 0 4)) ?_ (fun M1 hm => ?_)
      · simp (disch := omega) only [f_C_status, t6, bI_s, bV_s, bL_s, bR_s, bG_s, bG_n, bX_l, bX_r, ck_nI, nI_clamp, nI_leT, nI_leF, nI_ltT, nI_ltF, nI_eqF, nI_add, pk_mul, ofN, bt_e, or0, Nat.zero_add, Nat.add_zero, ↓reduceIte, if_true, if_false, Bool.false_eq_true, eq_self, li0, li1, li2, li3, li4, li5, li6, li7, li8, li9, li10, li11, li12, li14, li15, li16, li18, li19, li20, li23, li24, li25, li26, li27, li30, li31, li32, li36, li40, li41, li42, li43, li44, li45, li47, li48, li57, li59, li60, li91, li93, li96, li97, li100, li105, li122, li150, li200, li255, li400, li500, li600, li999, li1000, li1001, li2000, li2001, li2002, li2003, li2004, li2005, li2006, li32767, li100000, li_neg, li13, li17, li21, li22, li28, li29, li33, li34, li35, li37, li38, li39, li46, li49, li50, li51, li52, li53, li63, li80, li115, li160]
      · have e := hm.2.1.2.2.1.2.2
        simp (disch := omega) only [f_M_status, e, M_inT, bI_s, bV_s, bL_s, bR_s, bG_s, bG_n, bX_l, bX_r, ck_nI, nI_clamp, nI_leT, nI_leF, nI_ltT, nI_ltF, nI_eqF, nI_add, pk_mul, ofN, bt_e, or0, Nat.zero_add, Nat.add_zero, ↓reduceIte, if_true, if_false, Bool.false_eq_true, eq_self, li0, li1, li2, li3, li4, li5, li6, li7, li8, li9, li10, li11, li12, li14, li15, li16, li18, li19, li20, li23, li24, li25, li26, li27, li30, li31, li32, li36, li40, li41, li42, li43, li44, li45, li47, li48, li57, li59, li60, li91, li93, li96, li97, li100, li105, li122, li150, li200, li255, li400, li500, li600, li999, li1000, li1001, li2000, li2001, li2002, li2003, li2004, li2005, li2006, li32767, li100000, li_neg, li13, li17, li21, li22, li28, li29, li33, li34, li35, li37, li38, li39, li46, li49, li50, li51, li52, li53, li63, li80, li115, li160]
  · have n0 : ¬ p0 = nI 0 := fun e => by subst e; have := w1 M; rw [C_inT (by omega) (by omega) (by omega)] at this; exact absurd (congrArg Prod.fst (Option.some.inj this)) (show ¬ nI 1 = nI 0 by decide)
    have n1 : ¬ p0 = nI 1 := fun e => by subst e; have := w1 M; rw [C_inT (by omega) (by omega) (by omega)] at this; exact absurd (congrArg Prod.fst (Option.some.inj this)) (show ¬ nI 1 = nI 0 by decide)
    refine ag0R0 h (v := nI 4294967295) ?_ (fun M1 hm => ?_)
    · simp (disch := omega) only [f_C_status, n0, n1, bI_s, bV_s, bL_s, bR_s, bG_s, bG_n, bX_l, bX_r, ck_nI, nI_clamp, nI_leT, nI_leF, nI_ltT, nI_ltF, nI_eqF, nI_add, pk_mul, ofN, bt_e, or0, Nat.zero_add, Nat.add_zero, ↓reduceIte, if_true, if_false, Bool.false_eq_true, eq_self, li0, li1, li2, li3, li4, li5, li6, li7, li8, li9, li10, li11, li12, li14, li15, li16, li18, li19, li20, li23, li24, li25, li26, li27, li30, li31, li32, li36, li40, li41, li42, li43, li44, li45, li47, li48, li57, li59, li60, li91, li93, li96, li97, li100, li105, li122, li150, li200, li255, li400, li500, li600, li999, li1000, li1001, li2000, li2001, li2002, li2003, li2004, li2005, li2006, li32767, li100000, li_neg, li13, li17, li21, li22, li28, li29, li33, li34, li35, li37, li38, li39, li46, li49, li50, li51, li52, li53, li63, li80, li115, li160]
    · simp (disch := omega) only [f_M_status, w2, bI_s, bV_s, bL_s, bR_s, bG_s, bG_n, bX_l, bX_r, ck_nI, nI_clamp, nI_leT, nI_leF, nI_ltT, nI_ltF, nI_eqF, nI_add, pk_mul, ofN, bt_e, or0, Nat.zero_add, Nat.add_zero, ↓reduceIte, if_true, if_false, Bool.false_eq_true, eq_self, li0, li1, li2, li3, li4, li5, li6, li7, li8, li9, li10, li11, li12, li14, li15, li16, li18, li19, li20, li23, li24, li25, li26, li27, li30, li31, li32, li36, li40, li41, li42, li43, li44, li45, li47, li48, li57, li59, li60, li91, li93, li96, li97, li100, li105, li122, li150, li200, li255, li400, li500, li600, li999, li1000, li1001, li2000, li2001, li2002, li2003, li2004, li2005, li2006, li32767, li100000, li_neg, li13, li17, li21, li22, li28, li29, li33, li34, li35, li37, li38, li39, li46, li49, li50, li51, li52, li53, li63, li80, li115, li160]
theorem A_count (h : InvS o M S) (p0 : Int32) : Ag0 o (f_C_count o p0 M) (fun M1 => f_M_count (o + 61) p0 M1) := by
  obtain ⟨p, l, d, hr, ⟨hP, hW⟩, ⟨⟨t1, t2⟩, t3, ⟨t4, t5, t6⟩, t7, t8⟩, ⟨hL, hD⟩, oP, oW⟩ := h.u
  have hr10 := hr.2.1.1
  have hr12 := hr.2.2.1.1
  have hr14 := hr.2.2.2.1
  have hRb := oP.r
  have hBb := oP.b
  have hWb := oP.w
  have hLb := oW.l
  by_cases c0 : p0 = nI 0
  · subst c0
    refine ag0R0 h (v := nI (S.2.2.1 0 6)) ?_ (fun M1 hm => ?_)
    · simp (disch := omega) only [f_C_count, t8, bI_s, bV_s, bL_s, bR_s, bG_s, bG_n, bX_l, bX_r, ck_nI, nI_clamp, nI_leT, nI_leF, nI_ltT, nI_ltF, nI_eqF, nI_add, pk_mul, ofN, bt_e, or0, Nat.zero_add, Nat.add_zero, ↓reduceIte, if_true, if_false, Bool.false_eq_true, eq_self, li0, li1, li2, li3, li4, li5, li6, li7, li8, li9, li10, li11, li12, li14, li15, li16, li18, li19, li20, li23, li24, li25, li26, li27, li30, li31, li32, li36, li40, li41, li42, li43, li44, li45, li47, li48, li57, li59, li60, li91, li93, li96, li97, li100, li105, li122, li150, li200, li255, li400, li500, li600, li999, li1000, li1001, li2000, li2001, li2002, li2003, li2004, li2005, li2006, li32767, li100000, li_neg, li13, li17, li21, li22, li28, li29, li33, li34, li35, li37, li38, li39, li46, li49, li50, li51, li52, li53, li63, li80, li115, li160]
    · have e := hm.2.1.2.2.2.2
      simp (disch := omega) only [f_M_count, e, bI_s, bV_s, bL_s, bR_s, bG_s, bG_n, bX_l, bX_r, ck_nI, nI_clamp, nI_leT, nI_leF, nI_ltT, nI_ltF, nI_eqF, nI_add, pk_mul, ofN, bt_e, or0, Nat.zero_add, Nat.add_zero, ↓reduceIte, if_true, if_false, Bool.false_eq_true, eq_self, li0, li1, li2, li3, li4, li5, li6, li7, li8, li9, li10, li11, li12, li14, li15, li16, li18, li19, li20, li23, li24, li25, li26, li27, li30, li31, li32, li36, li40, li41, li42, li43, li44, li45, li47, li48, li57, li59, li60, li91, li93, li96, li97, li100, li105, li122, li150, li200, li255, li400, li500, li600, li999, li1000, li1001, li2000, li2001, li2002, li2003, li2004, li2005, li2006, li32767, li100000, li_neg, li13, li17, li21, li22, li28, li29, li33, li34, li35, li37, li38, li39, li46, li49, li50, li51, li52, li53, li63, li80, li115, li160]
  · by_cases c1 : p0 = nI 1
    · subst c1
      refine ag0R0 h (v := nI (S.2.2.1 0 0)) ?_ (fun M1 hm => ?_)
      · simp (disch := omega) only [f_C_count, t1, bI_s, bV_s, bL_s, bR_s, bG_s, bG_n, bX_l, bX_r, ck_nI, nI_clamp, nI_leT, nI_leF, nI_ltT, nI_ltF, nI_eqF, nI_add, pk_mul, ofN, bt_e, or0, Nat.zero_add, Nat.add_zero, ↓reduceIte, if_true, if_false, Bool.false_eq_true, eq_self, li0, li1, li2, li3, li4, li5, li6, li7, li8, li9, li10, li11, li12, li14, li15, li16, li18, li19, li20, li23, li24, li25, li26, li27, li30, li31, li32, li36, li40, li41, li42, li43, li44, li45, li47, li48, li57, li59, li60, li91, li93, li96, li97, li100, li105, li122, li150, li200, li255, li400, li500, li600, li999, li1000, li1001, li2000, li2001, li2002, li2003, li2004, li2005, li2006, li32767, li100000, li_neg, li13, li17, li21, li22, li28, li29, li33, li34, li35, li37, li38, li39, li46, li49, li50, li51, li52, li53, li63, li80, li115, li160]
      · have e := hm.2.1.1.1
        simp (disch := omega) only [f_M_count, e, bI_s, bV_s, bL_s, bR_s, bG_s, bG_n, bX_l, bX_r, ck_nI, nI_clamp, nI_leT, nI_leF, nI_ltT, nI_ltF, nI_eqF, nI_add, pk_mul, ofN, bt_e, or0, Nat.zero_add, Nat.add_zero, ↓reduceIte, if_true, if_false, Bool.false_eq_true, eq_self, li0, li1, li2, li3, li4, li5, li6, li7, li8, li9, li10, li11, li12, li14, li15, li16, li18, li19, li20, li23, li24, li25, li26, li27, li30, li31, li32, li36, li40, li41, li42, li43, li44, li45, li47, li48, li57, li59, li60, li91, li93, li96, li97, li100, li105, li122, li150, li200, li255, li400, li500, li600, li999, li1000, li1001, li2000, li2001, li2002, li2003, li2004, li2005, li2006, li32767, li100000, li_neg, li13, li17, li21, li22, li28, li29, li33, li34, li35, li37, li38, li39, li46, li49, li50, li51, li52, li53, li63, li80, li115, li160]
    · by_cases c2 : p0 = nI 2
      · subst c2
        refine ag0R0 h (v := nI (S.2.2.1 0 5)) ?_ (fun M1 hm => ?_)
        · simp (disch := omega) only [f_C_count, t7, bI_s, bV_s, bL_s, bR_s, bG_s, bG_n, bX_l, bX_r, ck_nI, nI_clamp, nI_leT, nI_leF, nI_ltT, nI_ltF, nI_eqF, nI_add, pk_mul, ofN, bt_e, or0, Nat.zero_add, Nat.add_zero, ↓reduceIte, if_true, if_false, Bool.false_eq_true, eq_self, li0, li1, li2, li3, li4, li5, li6, li7, li8, li9, li10, li11, li12, li14, li15, li16, li18, li19, li20, li23, li24, li25, li26, li27, li30, li31, li32, li36, li40, li41, li42, li43, li44, li45, li47, li48, li57, li59, li60, li91, li93, li96, li97, li100, li105, li122, li150, li200, li255, li400, li500, li600, li999, li1000, li1001, li2000, li2001, li2002, li2003, li2004, li2005, li2006, li32767, li100000, li_neg, li13, li17, li21, li22, li28, li29, li33, li34, li35, li37, li38, li39, li46, li49, li50, li51, li52, li53, li63, li80, li115, li160]
        · have e := hm.2.1.2.2.2.1
          simp (disch := omega) only [f_M_count, e, bI_s, bV_s, bL_s, bR_s, bG_s, bG_n, bX_l, bX_r, ck_nI, nI_clamp, nI_leT, nI_leF, nI_ltT, nI_ltF, nI_eqF, nI_add, pk_mul, ofN, bt_e, or0, Nat.zero_add, Nat.add_zero, ↓reduceIte, if_true, if_false, Bool.false_eq_true, eq_self, li0, li1, li2, li3, li4, li5, li6, li7, li8, li9, li10, li11, li12, li14, li15, li16, li18, li19, li20, li23, li24, li25, li26, li27, li30, li31, li32, li36, li40, li41, li42, li43, li44, li45, li47, li48, li57, li59, li60, li91, li93, li96, li97, li100, li105, li122, li150, li200, li255, li400, li500, li600, li999, li1000, li1001, li2000, li2001, li2002, li2003, li2004, li2005, li2006, li32767, li100000, li_neg, li13, li17, li21, li22, li28, li29, li33, li34, li35, li37, li38, li39, li46, li49, li50, li51, li52, li53, li63, li80, li115, li160]
      · refine ag0R0 h (v := nI 4294967295) ?_ (fun M1 hm => ?_)
        · simp (disch := omega) only [f_C_count, c0, c1, c2, bI_s, bV_s, bL_s, bR_s, bG_s, bG_n, bX_l, bX_r, ck_nI, nI_clamp, nI_leT, nI_leF, nI_ltT, nI_ltF, nI_eqF, nI_add, pk_mul, ofN, bt_e, or0, Nat.zero_add, Nat.add_zero, ↓reduceIte, if_true, if_false, Bool.false_eq_true, eq_self, li0, li1, li2, li3, li4, li5, li6, li7, li8, li9, li10, li11, li12, li14, li15, li16, li18, li19, li20, li23, li24, li25, li26, li27, li30, li31, li32, li36, li40, li41, li42, li43, li44, li45, li47, li48, li57, li59, li60, li91, li93, li96, li97, li100, li105, li122, li150, li200, li255, li400, li500, li600, li999, li1000, li1001, li2000, li2001, li2002, li2003, li2004, li2005, li2006, li32767, li100000, li_neg, li13, li17, li21, li22, li28, li29, li33, li34, li35, li37, li38, li39, li46, li49, li50, li51, li52, li53, li63, li80, li115, li160]
        · simp (disch := omega) only [f_M_count, c0, c1, c2, bI_s, bV_s, bL_s, bR_s, bG_s, bG_n, bX_l, bX_r, ck_nI, nI_clamp, nI_leT, nI_leF, nI_ltT, nI_ltF, nI_eqF, nI_add, pk_mul, ofN, bt_e, or0, Nat.zero_add, Nat.add_zero, ↓reduceIte, if_true, if_false, Bool.false_eq_true, eq_self, li0, li1, li2, li3, li4, li5, li6, li7, li8, li9, li10, li11, li12, li14, li15, li16, li18, li19, li20, li23, li24, li25, li26, li27, li30, li31, li32, li36, li40, li41, li42, li43, li44, li45, li47, li48, li57, li59, li60, li91, li93, li96, li97, li100, li105, li122, li150, li200, li255, li400, li500, li600, li999, li1000, li1001, li2000, li2001, li2002, li2003, li2004, li2005, li2006, li32767, li100000, li_neg, li13, li17, li21, li22, li28, li29, li33, li34, li35, li37, li38, li39, li46, li49, li50, li51, li52, li53, li63, li80, li115, li160]
/-! torn -/
theorem hs_shr {x : Int32} {s k : Nat} (h : s + k < 32) : hs (x >>> (nI s &&& nI 31)) k = hs x (s + k) := by
  rw [and31 (by omega), hs_bv (by omega), hs_bv h]
  have e : (x >>> nI s).toBitVec = x.toBitVec.sshiftRight s := by
    rw [Int32.toBitVec_shiftRight]
    have hs' : s < 32 := by omega
    have : ((nI s).toBitVec.smod 32).toNat = s := by
      have h1 : (nI s).toBitVec = BitVec.ofNat 32 s := rfl
      rw [h1]
      clear h
      revert s
      decide
    rw [BitVec.sshiftRight_eq']
    rw [show ((nI s).toBitVec.smod 32).toNat = s from this]
  rw [e, BitVec.getLsbD_sshiftRight]
  have h3 : ¬ (32 ≤ k) := by omega
  simp [h3, h]
theorem and3 (y : Int32) : (y &&& nI 3 = nI 3) ↔ hs y 0 = true ∧ hs y 1 = true := by
  constructor
  · intro e
    have h0 := congrArg (fun z => hs z 0) e
    have h1 := congrArg (fun z => hs z 1) e
    rw [hs_and (by omega), hs_nI (by omega) (by omega)] at h0
    rw [hs_and (by omega), hs_nI (by omega) (by omega)] at h1
    simp at h0 h1
    exact ⟨h0, h1 (by decide)⟩
  · rintro ⟨h0, h1⟩
    refine hs_ext (fun k hk => ?_)
    rw [hs_and hk, hs_nI (by omega) hk]
    by_cases c0 : k = 0
    · subst c0; rw [h0]; rfl
    · by_cases c1 : k = 1
      · subst c1; rw [h1]; rfl
      · have : Nat.testBit 3 k = false := Nat.testBit_lt_two_pow (by
          have : 2 ^ 2 ≤ 2 ^ k := Nat.pow_le_pow_right (by omega) (by omega)
          omega)
        rw [this, Bool.and_false]
def asd (W : TT) : Int32 := fo (W 0 2) (fun k s => if (fun _ : Nat => true) k = true then s ||| bt (W 2 k) else s) (nI 0)
theorem C_actsStanding (hW : isW M o P W) (oW : okW P W) : f_Wall_actsStanding o M = some (asd W, M) := by
  have oL := oW.l
  have hx := lp_up (fun u i s => f_Wall_actsStanding_b u o s (nI i) M) (W 0 2) (fun k s => if (fun _ : Nat => true) k = true then s ||| bt (W 2 k) else s) (some (asd W, M)) (nI 0) (fun u i s hi => ?_) (fun u => ?_) FU (FU_lt (by omega))
  · exact hx
  · simp (disch := omega) only [f_Wall_actsStanding_b, hW.l, hW.ac hi, bI_s, bV_s, bL_s, bR_s, bG_s, bG_n, bX_l, bX_r, ck_nI, nI_clamp, nI_leT, nI_leF, nI_ltT, nI_ltF, nI_eqF, nI_add, pk_mul, ofN, bt_e, or0, Nat.zero_add, Nat.add_zero, ↓reduceIte, if_true, if_false, Bool.false_eq_true, eq_self, li0, li1, li2, li3, li4, li5, li6, li7, li8, li9, li10, li11, li12, li14, li15, li16, li18, li19, li20, li23, li24, li25, li26, li27, li30, li31, li32, li36, li40, li41, li42, li43, li44, li45, li47, li48, li57, li59, li60, li91, li93, li96, li97, li100, li105, li122, li150, li200, li255, li400, li500, li600, li999, li1000, li1001, li2000, li2001, li2002, li2003, li2004, li2005, li2006, li32767, li100000, li_neg, li13, li17, li21, li22, li28, li29, li33, li34, li35, li37, li38, li39, li46, li49, li50, li51, li52, li53, li63, li80, li115, li160]
  · simp (disch := omega) only [f_Wall_actsStanding_b, hW.l, asd, bI_s, bV_s, bL_s, bR_s, bG_s, bG_n, bX_l, bX_r, ck_nI, nI_clamp, nI_leT, nI_leF, nI_ltT, nI_ltF, nI_eqF, nI_add, pk_mul, ofN, bt_e, or0, Nat.zero_add, Nat.add_zero, ↓reduceIte, if_true, if_false, Bool.false_eq_true, eq_self, li0, li1, li2, li3, li4, li5, li6, li7, li8, li9, li10, li11, li12, li14, li15, li16, li18, li19, li20, li23, li24, li25, li26, li27, li30, li31, li32, li36, li40, li41, li42, li43, li44, li45, li47, li48, li57, li59, li60, li91, li93, li96, li97, li100, li105, li122, li150, li200, li255, li400, li500, li600, li999, li1000, li1001, li2000, li2001, li2002, li2003, li2004, li2005, li2006, li32767, li100000, li_neg, li13, li17, li21, li22, li28, li29, li33, li34, li35, li37, li38, li39, li46, li49, li50, li51, li52, li53, li63, li80, li115, li160]
theorem cn_pos {j v : Nat} : cn W j v = 0 ↔ ¬ ∃ i, i < W 0 2 ∧ W j i = v := by
  unfold cn
  generalize W 0 2 = n
  induction n with
  | zero => exact ⟨fun _ ⟨i, h, _⟩ => by omega, fun _ => rfl⟩
  | succ n ih =>
    show sm n _ + (if W j n = v then 1 else 0) = 0 ↔ _
    by_cases c : W j n = v
    · rw [if_pos c]
      exact ⟨fun h => by omega, fun h => absurd ⟨n, by omega, c⟩ h⟩
    · rw [if_neg c, Nat.add_zero, ih]
      constructor
      · rintro h ⟨i, h1, h2⟩
        rcases Nat.lt_or_ge i n with h4 | h4
        · exact h ⟨i, h4, h2⟩
        · obtain rfl : i = n := by omega
          exact c h2
      · rintro h ⟨i, h1, h2⟩
        exact h ⟨i, by omega, h2⟩
theorem asd_cn (oW : okW P W) {k : Nat} (hk : k < 32) : hs (asd W) k = true ↔ cn W 2 k ≠ 0 := by
  rw [Ne, cn_pos, Classical.not_not]
  have := hs_fo (c := fun _ => true) (g := fun i => W 2 i) hk (W 0 2) (fun i hi => by have := oW.ac hi; omega)
  refine Iff.trans this ?_
  exact ⟨fun ⟨i, h1, _, h2⟩ => ⟨i, h1, h2⟩, fun ⟨i, h1, h2⟩ => ⟨i, h1, rfl, h2⟩⟩
def tnB (W : TT) (k : Nat) : Bool := decide (cn W 2 (2 * k) ≠ 0 ∧ cn W 2 (2 * k + 1) ≠ 0)
theorem A_torn (h : InvS o M S) : Ag0 o (f_C_torn o M) (fun M1 => f_M_torn (o + 61) M1) := by
  obtain ⟨p, l, d, hr, ⟨hP, hW⟩, ⟨⟨t1, t2⟩, t3, ⟨t4, t5, t6⟩, t7, t8⟩, ⟨hL, hD⟩, oP, oW⟩ := h.u
  have hr10 := hr.2.1.1
  have hr12 := hr.2.2.1.1
  have hr14 := hr.2.2.2.1
  have hRb := oP.r
  have hBb := oP.b
  have hWb := oP.w
  have hLb := oW.l
  have hcn : ∀ k, cn S.2.1 2 k < 2 ^ 31 := fun k => by
    have : cn S.2.1 2 k ≤ sm (S.2.1 0 2) (fun _ => 1) := sm_le _ (fun j hj => by split <;> omega)
    rw [sm_const] at this; omega
  refine ag0R0 h (v := fo 5 (fun k s => if tnB S.2.1 k = true then s ||| bt k else s) (nI 0)) ?_ (fun M1 hm => ?_)
  · have key := lp_up (fun u i s => f_C_torn_b u o (asd S.2.1) s (nI i) M) 5 (fun k s => if tnB S.2.1 k = true then s ||| bt k else s) (some (fo 5 (fun k s => if tnB S.2.1 k = true then s ||| bt k else s) (nI 0), M)) (nI 0) (fun u i s hi => ?_) (fun u => ?_) FU (FU_lt (by omega))
    · simp (disch := omega) only [f_C_torn, C_actsStanding hW oW, bI_s, bV_s, bL_s, bR_s, bG_s, bG_n, bX_l, bX_r, ck_nI, nI_clamp, nI_leT, nI_leF, nI_ltT, nI_ltF, nI_eqF, nI_add, pk_mul, ofN, bt_e, or0, Nat.zero_add, Nat.add_zero, ↓reduceIte, if_true, if_false, Bool.false_eq_true, eq_self, li0, li1, li2, li3, li4, li5, li6, li7, li8, li9, li10, li11, li12, li14, li15, li16, li18, li19, li20, li23, li24, li25, li26, li27, li30, li31, li32, li36, li40, li41, li42, li43, li44, li45, li47, li48, li57, li59, li60, li91, li93, li96, li97, li100, li105, li122, li150, li200, li255, li400, li500, li600, li999, li1000, li1001, li2000, li2001, li2002, li2003, li2004, li2005, li2006, li32767, li100000, li_neg, li13, li17, li21, li22, li28, li29, li33, li34, li35, li37, li38, li39, li46, li49, li50, li51, li52, li53, li63, li80, li115, li160]
      exact key
    · have e : (asd S.2.1 >>> (nI (2 * i) &&& nI 31) &&& nI 3 = nI 3) ↔ tnB S.2.1 i = true := by
        rw [and3, hs_shr (by omega), hs_shr (by omega), asd_cn oW (by omega), asd_cn oW (by omega), tnB, decide_eq_true_eq]
        rfl
      by_cases c : tnB S.2.1 i = true
      · simp (disch := omega) only [f_C_torn_b, e.mpr c, c, bI_s, bV_s, bL_s, bR_s, bG_s, bG_n, bX_l, bX_r, ck_nI, nI_clamp, nI_leT, nI_leF, nI_ltT, nI_ltF, nI_eqF, nI_add, pk_mul, ofN, bt_e, or0, Nat.zero_add, Nat.add_zero, ↓reduceIte, if_true, if_false, Bool.false_eq_true, eq_self, li0, li1, li2, li3, li4, li5, li6, li7, li8, li9, li10, li11, li12, li14, li15, li16, li18, li19, li20, li23, li24, li25, li26, li27, li30, li31, li32, li36, li40, li41, li42, li43, li44, li45, li47, li48, li57, li59, li60, li91, li93, li96, li97, li100, li105, li122, li150, li200, li255, li400, li500, li600, li999, li1000, li1001, li2000, li2001, li2002, li2003, li2004, li2005, li2006, li32767, li100000, li_neg, li13, li17, li21, li22, li28, li29, li33, li34, li35, li37, li38, li39, li46, li49, li50, li51, li52, li53, li63, li80, li115, li160]
      · have e' : (asd S.2.1 >>> (nI (2 * i) &&& nI 31) &&& nI 3 = nI 3) = False := eq_false (fun z => c (e.mp z))
        simp (disch := omega) only [f_C_torn_b, e', c, bI_s, bV_s, bL_s, bR_s, bG_s, bG_n, bX_l, bX_r, ck_nI, nI_clamp, nI_leT, nI_leF, nI_ltT, nI_ltF, nI_eqF, nI_add, pk_mul, ofN, bt_e, or0, Nat.zero_add, Nat.add_zero, ↓reduceIte, if_true, if_false, Bool.false_eq_true, eq_self, li0, li1, li2, li3, li4, li5, li6, li7, li8, li9, li10, li11, li12, li14, li15, li16, li18, li19, li20, li23, li24, li25, li26, li27, li30, li31, li32, li36, li40, li41, li42, li43, li44, li45, li47, li48, li57, li59, li60, li91, li93, li96, li97, li100, li105, li122, li150, li200, li255, li400, li500, li600, li999, li1000, li1001, li2000, li2001, li2002, li2003, li2004, li2005, li2006, li32767, li100000, li_neg, li13, li17, li21, li22, li28, li29, li33, li34, li35, li37, li38, li39, li46, li49, li50, li51, li52, li53, li63, li80, li115, li160]
    · simp (disch := omega) only [f_C_torn_b, bI_s, bV_s, bL_s, bR_s, bG_s, bG_n, bX_l, bX_r, ck_nI, nI_clamp, nI_leT, nI_leF, nI_ltT, nI_ltF, nI_eqF, nI_add, pk_mul, ofN, bt_e, or0, Nat.zero_add, Nat.add_zero, ↓reduceIte, if_true, if_false, Bool.false_eq_true, eq_self, li0, li1, li2, li3, li4, li5, li6, li7, li8, li9, li10, li11, li12, li14, li15, li16, li18, li19, li20, li23, li24, li25, li26, li27, li30, li31, li32, li36, li40, li41, li42, li43, li44, li45, li47, li48, li57, li59, li60, li91, li93, li96, li97, li100, li105, li122, li150, li200, li255, li400, li500, li600, li999, li1000, li1001, li2000, li2001, li2002, li2003, li2004, li2005, li2006, li32767, li100000, li_neg, li13, li17, li21, li22, li28, li29, li33, li34, li35, li37, li38, li39, li46, li49, li50, li51, li52, li53, li63, li80, li115, li160]
  · have key := lp_up (fun u i s => f_M_torn_b u (o + 61) s (nI i) (sI M1 (o + 61) 0 (nI 0))) 5 (fun k s => if tnB S.2.1 k = true then s ||| bt k else s) (some (fo 5 (fun k s => if tnB S.2.1 k = true then s ||| bt k else s) (nI 0), sI M1 (o + 61) 0 (nI 0))) (nI 0) (fun u i s hi => ?_) (fun u => ?_) FU (FU_lt (by omega))
    · simp (disch := omega) only [f_M_torn, bI_s, bV_s, bL_s, bR_s, bG_s, bG_n, bX_l, bX_r, ck_nI, nI_clamp, nI_leT, nI_leF, nI_ltT, nI_ltF, nI_eqF, nI_add, pk_mul, ofN, bt_e, or0, Nat.zero_add, Nat.add_zero, ↓reduceIte, if_true, if_false, Bool.false_eq_true, eq_self, li0, li1, li2, li3, li4, li5, li6, li7, li8, li9, li10, li11, li12, li14, li15, li16, li18, li19, li20, li23, li24, li25, li26, li27, li30, li31, li32, li36, li40, li41, li42, li43, li44, li45, li47, li48, li57, li59, li60, li91, li93, li96, li97, li100, li105, li122, li150, li200, li255, li400, li500, li600, li999, li1000, li1001, li2000, li2001, li2002, li2003, li2004, li2005, li2006, li32767, li100000, li_neg, li13, li17, li21, li22, li28, li29, li33, li34, li35, li37, li38, li39, li46, li49, li50, li51, li52, li53, li63, li80, li115, li160]
      exact key
    · have l1 := M_linesWith hm.1.2 oP oW (v := 2 * i) (show 2 * i < 2 ^ 31 by omega) (show 1 < 4 by omega)
      have l2 := M_linesWith hm.1.2 oP oW (v := 2 * i + 1) (show 2 * i + 1 < 2 ^ 31 by omega) (show 1 < 4 by omega)
      have l1' : f_M_linesWith (o + 61) (nI 1) (nI (2 * i)) (sI M1 (o + 61) 0 (nI 0)) = some (nI (cn S.2.1 2 (2 * i)), sI M1 (o + 61) 0 (nI 0)) := l1
      have l2' : f_M_linesWith (o + 61) (nI 1) (nI (2 * i + 1)) (sI M1 (o + 61) 0 (nI 0)) = some (nI (cn S.2.1 2 (2 * i + 1)), sI M1 (o + 61) 0 (nI 0)) := l2
      have q1 := hcn (2 * i)
      have q2 := hcn (2 * i + 1)
      by_cases c1 : cn S.2.1 2 (2 * i) = 0
      · have c : ¬ tnB S.2.1 i = true := fun z => (of_decide_eq_true z).1 c1
        rw [c1] at l1'
        simp (disch := omega) only [f_M_torn_b, l1', c, bI_s, bV_s, bL_s, bR_s, bG_s, bG_n, bX_l, bX_r, ck_nI, nI_clamp, nI_leT, nI_leF, nI_ltT, nI_ltF, nI_eqF, nI_add, pk_mul, ofN, bt_e, or0, Nat.zero_add, Nat.add_zero, ↓reduceIte, if_true, if_false, Bool.false_eq_true, eq_self, li0, li1, li2, li3, li4, li5, li6, li7, li8, li9, li10, li11, li12, li14, li15, li16, li18, li19, li20, li23, li24, li25, li26, li27, li30, li31, li32, li36, li40, li41, li42, li43, li44, li45, li47, li48, li57, li59, li60, li91, li93, li96, li97, li100, li105, li122, li150, li200, li255, li400, li500, li600, li999, li1000, li1001, li2000, li2001, li2002, li2003, li2004, li2005, li2006, li32767, li100000, li_neg, li13, li17, li21, li22, li28, li29, li33, li34, li35, li37, li38, li39, li46, li49, li50, li51, li52, li53, li63, li80, li115, li160]
      · by_cases c2 : cn S.2.1 2 (2 * i + 1) = 0
        · have c : ¬ tnB S.2.1 i = true := fun z => (of_decide_eq_true z).2 c2
          rw [c2] at l2'
          simp (disch := omega) only [f_M_torn_b, l1', l2', c, bI_s, bV_s, bL_s, bR_s, bG_s, bG_n, bX_l, bX_r, ck_nI, nI_clamp, nI_leT, nI_leF, nI_ltT, nI_ltF, nI_eqF, nI_add, pk_mul, ofN, bt_e, or0, Nat.zero_add, Nat.add_zero, ↓reduceIte, if_true, if_false, Bool.false_eq_true, eq_self, li0, li1, li2, li3, li4, li5, li6, li7, li8, li9, li10, li11, li12, li14, li15, li16, li18, li19, li20, li23, li24, li25, li26, li27, li30, li31, li32, li36, li40, li41, li42, li43, li44, li45, li47, li48, li57, li59, li60, li91, li93, li96, li97, li100, li105, li122, li150, li200, li255, li400, li500, li600, li999, li1000, li1001, li2000, li2001, li2002, li2003, li2004, li2005, li2006, li32767, li100000, li_neg, li13, li17, li21, li22, li28, li29, li33, li34, li35, li37, li38, li39, li46, li49, li50, li51, li52, li53, li63, li80, li115, li160]
        · have c : tnB S.2.1 i = true := decide_eq_true ⟨c1, c2⟩
          simp (disch := omega) only [f_M_torn_b, l1', l2', c, bI_s, bV_s, bL_s, bR_s, bG_s, bG_n, bX_l, bX_r, ck_nI, nI_clamp, nI_leT, nI_leF, nI_ltT, nI_ltF, nI_eqF, nI_add, pk_mul, ofN, bt_e, or0, Nat.zero_add, Nat.add_zero, ↓reduceIte, if_true, if_false, Bool.false_eq_true, eq_self, li0, li1, li2, li3, li4, li5, li6, li7, li8, li9, li10, li11, li12, li14, li15, li16, li18, li19, li20, li23, li24, li25, li26, li27, li30, li31, li32, li36, li40, li41, li42, li43, li44, li45, li47, li48, li57, li59, li60, li91, li93, li96, li97, li100, li105, li122, li150, li200, li255, li400, li500, li600, li999, li1000, li1001, li2000, li2001, li2002, li2003, li2004, li2005, li2006, li32767, li100000, li_neg, li13, li17, li21, li22, li28, li29, li33, li34, li35, li37, li38, li39, li46, li49, li50, li51, li52, li53, li63, li80, li115, li160]
    · simp (disch := omega) only [f_M_torn_b, bI_s, bV_s, bL_s, bR_s, bG_s, bG_n, bX_l, bX_r, ck_nI, nI_clamp, nI_leT, nI_leF, nI_ltT, nI_ltF, nI_eqF, nI_add, pk_mul, ofN, bt_e, or0, Nat.zero_add, Nat.add_zero, ↓reduceIte, if_true, if_false, Bool.false_eq_true, eq_self, li0, li1, li2, li3, li4, li5, li6, li7, li8, li9, li10, li11, li12, li14, li15, li16, li18, li19, li20, li23, li24, li25, li26, li27, li30, li31, li32, li36, li40, li41, li42, li43, li44, li45, li47, li48, li57, li59, li60, li91, li93, li96, li97, li100, li105, li122, li150, li200, li255, li400, li500, li600, li999, li1000, li1001, li2000, li2001, li2002, li2003, li2004, li2005, li2006, li32767, li100000, li_neg, li13, li17, li21, li22, li28, li29, li33, li34, li35, li37, li38, li39, li46, li49, li50, li51, li52, li53, li63, li80, li115, li160]
/-! missing, idle -/
theorem hs_foA {c : Nat → Bool} {g : Nat → Nat} {k : Nat} {x : Int32} (hk : k < 32) : ∀ n : Nat, (∀ i, i < n → g i < 32) → (hs (fo n (fun i s => if c i = true then s &&& (bt (g i) ^^^ nI 4294967295) else s) x) k = true ↔ hs x k = true ∧ ∀ i, i < n → c i = true → g i ≠ k)
  | 0 => fun _ => ⟨fun h => ⟨h, fun i hi => by omega⟩, fun h => h.1⟩
  | n + 1 => fun hg => by
    have ih := hs_foA (c := c) (g := g) (x := x) hk n (fun i hi => hg i (by omega))
    show hs (if c n = true then _ &&& (bt (g n) ^^^ nI 4294967295) else _) k = true ↔ _
    by_cases h : c n = true
    · rw [if_pos h, hs_and hk, Bool.and_eq_true, ih, hs_xor hk, hs_bt (hg n (by omega)) hk, hs_m1 hk]
      have e : (decide (g n = k) ^^ true) = true ↔ g n ≠ k := by
        by_cases z : g n = k
        · rw [decide_eq_true z]; exact ⟨fun h => (nomatch h), fun h => absurd z h⟩
        · rw [decide_eq_false z]; exact ⟨fun _ => z, fun _ => rfl⟩
      rw [e]
      constructor
      · rintro ⟨⟨h1, h2⟩, h3⟩
        refine ⟨h1, fun i hi hc => ?_⟩
        rcases Nat.lt_or_ge i n with h4 | h4
        · exact h2 i h4 hc
        · obtain rfl : i = n := by omega
          exact h3
      · rintro ⟨h1, h2⟩
        exact ⟨⟨h1, fun i hi hc => h2 i (by omega) hc⟩, h2 n (by omega) h⟩
    · rw [if_neg h, ih]
      constructor
      · rintro ⟨h1, h2⟩
        refine ⟨h1, fun i hi hc => ?_⟩
        rcases Nat.lt_or_ge i n with h4 | h4
        · exact h2 i h4 hc
        · obtain rfl : i = n := by omega
          exact absurd hc h
      · rintro ⟨h1, h2⟩
        exact ⟨h1, fun i hi hc => h2 i (by omega) hc⟩
/-- no line bears b as told -/
def nbr (P W : TT) (b : Nat) : Bool := alR (fun i => !(decide (W 1 i = b) && decide (W 2 i = P 2 b))) (W 0 2) 0
theorem C_bears {p : Nat} (hP : isP M p P) (oP : okP P) (hW : isW M o P W) (oW : okW P W) {b : Nat} (hb : b < P 0 2) : f_Wall_bearsAsTold o p (nI b) M = some (nI (if nbr P W b = true then 0 else 1), M) := by
  have oL := oW.l
  have hB := oP.b
  have ha := oP.act hb
  have key := lp_al (fun f i => f_Wall_bearsAsTold_b f o p (nI b) (nI i) M) (W 0 2) (fun i => !(decide (W 1 i = b) && decide (W 2 i = P 2 b))) (some (nI 0, M)) (some (nI 1, M)) (fun f i hi hc => ?_) (fun f i hi hc => ?_) (fun f => ?_) FU (FU_lt (by omega))
  · refine Eq.trans key ?_
    show (if nbr P W b = true then _ else _) = _
    cases nbr P W b <;> rfl
  · have h1 := oW.b hi
    have h2 := oW.ac hi
    by_cases c1 : W 1 i = b
    · have c2 : ¬ W 2 i = P 2 b := fun z => by rw [decide_eq_true c1, decide_eq_true z] at hc; exact nomatch hc
      simp (disch := omega) only [f_Wall_bearsAsTold_b, hW.l, hW.b hi, hW.ac hi, hP.act hb, c1, bI_s, bV_s, bL_s, bR_s, bG_s, bG_n, bX_l, bX_r, ck_nI, nI_clamp, nI_leT, nI_leF, nI_ltT, nI_ltF, nI_eqF, nI_add, pk_mul, ofN, bt_e, or0, Nat.zero_add, Nat.add_zero, ↓reduceIte, if_true, if_false, Bool.false_eq_true, eq_self, li0, li1, li2, li3, li4, li5, li6, li7, li8, li9, li10, li11, li12, li14, li15, li16, li18, li19, li20, li23, li24, li25, li26, li27, li30, li31, li32, li36, li40, li41, li42, li43, li44, li45, li47, li48, li57, li59, li60, li91, li93, li96, li97, li100, li105, li122, li150, li200, li255, li400, li500, li600, li999, li1000, li1001, li2000, li2001, li2002, li2003, li2004, li2005, li2006, li32767, li100000, li_neg, li13, li17, li21, li22, li28, li29, li33, li34, li35, li37, li38, li39, li46, li49, li50, li51, li52, li53, li63, li80, li115, li160]
    · simp (disch := omega) only [f_Wall_bearsAsTold_b, hW.l, hW.b hi, c1, bI_s, bV_s, bL_s, bR_s, bG_s, bG_n, bX_l, bX_r, ck_nI, nI_clamp, nI_leT, nI_leF, nI_ltT, nI_ltF, nI_eqF, nI_add, pk_mul, ofN, bt_e, or0, Nat.zero_add, Nat.add_zero, ↓reduceIte, if_true, if_false, Bool.false_eq_true, eq_self, li0, li1, li2, li3, li4, li5, li6, li7, li8, li9, li10, li11, li12, li14, li15, li16, li18, li19, li20, li23, li24, li25, li26, li27, li30, li31, li32, li36, li40, li41, li42, li43, li44, li45, li47, li48, li57, li59, li60, li91, li93, li96, li97, li100, li105, li122, li150, li200, li255, li400, li500, li600, li999, li1000, li1001, li2000, li2001, li2002, li2003, li2004, li2005, li2006, li32767, li100000, li_neg, li13, li17, li21, li22, li28, li29, li33, li34, li35, li37, li38, li39, li46, li49, li50, li51, li52, li53, li63, li80, li115, li160]
  · rw [Bool.not_eq_false', Bool.and_eq_true, decide_eq_true_eq, decide_eq_true_eq] at hc
    simp (disch := omega) only [f_Wall_bearsAsTold_b, hW.l, hW.b hi, hW.ac hi, hP.act hb, hc.1, hc.2, bI_s, bV_s, bL_s, bR_s, bG_s, bG_n, bX_l, bX_r, ck_nI, nI_clamp, nI_leT, nI_leF, nI_ltT, nI_ltF, nI_eqF, nI_add, pk_mul, ofN, bt_e, or0, Nat.zero_add, Nat.add_zero, ↓reduceIte, if_true, if_false, Bool.false_eq_true, eq_self, li0, li1, li2, li3, li4, li5, li6, li7, li8, li9, li10, li11, li12, li14, li15, li16, li18, li19, li20, li23, li24, li25, li26, li27, li30, li31, li32, li36, li40, li41, li42, li43, li44, li45, li47, li48, li57, li59, li60, li91, li93, li96, li97, li100, li105, li122, li150, li200, li255, li400, li500, li600, li999, li1000, li1001, li2000, li2001, li2002, li2003, li2004, li2005, li2006, li32767, li100000, li_neg, li13, li17, li21, li22, li28, li29, li33, li34, li35, li37, li38, li39, li46, li49, li50, li51, li52, li53, li63, li80, li115, li160]
  · simp (disch := omega) only [f_Wall_bearsAsTold_b, hW.l, bI_s, bV_s, bL_s, bR_s, bG_s, bG_n, bX_l, bX_r, ck_nI, nI_clamp, nI_leT, nI_leF, nI_ltT, nI_ltF, nI_eqF, nI_add, pk_mul, ofN, bt_e, or0, Nat.zero_add, Nat.add_zero, ↓reduceIte, if_true, if_false, Bool.false_eq_true, eq_self, li0, li1, li2, li3, li4, li5, li6, li7, li8, li9, li10, li11, li12, li14, li15, li16, li18, li19, li20, li23, li24, li25, li26, li27, li30, li31, li32, li36, li40, li41, li42, li43, li44, li45, li47, li48, li57, li59, li60, li91, li93, li96, li97, li100, li105, li122, li150, li200, li255, li400, li500, li600, li999, li1000, li1001, li2000, li2001, li2002, li2003, li2004, li2005, li2006, li32767, li100000, li_neg, li13, li17, li21, li22, li28, li29, li33, li34, li35, li37, li38, li39, li46, li49, li50, li51, li52, li53, li63, li80, li115, li160]
theorem A_missing (h : InvS o M S) : Ag0 o (f_C_missing o M) (fun M1 => f_M_missing (o + 61) M1) := by
  obtain ⟨p, l, d, hr, ⟨hP, hW⟩, ⟨⟨t1, t2⟩, t3, ⟨t4, t5, t6⟩, t7, t8⟩, ⟨hL, hD⟩, oP, oW⟩ := h.u
  have hr10 := hr.2.1.1
  have hr12 := hr.2.2.1.1
  have hr14 := hr.2.2.2.1
  have hRb := oP.r
  have hBb := oP.b
  have hWb := oP.w
  have hLb := oW.l
  refine ag0R0 h (v := fo (S.1 0 2) (fun b s => if nbr S.1 S.2.1 b = true then s ||| bt b else s) (nI 0)) ?_ (fun M1 hm => ?_)
  · have key := lp_up (fun u i s => f_C_missing_b u o s (nI i) M) (S.1 0 2) (fun b s => if nbr S.1 S.2.1 b = true then s ||| bt b else s) (some (fo (S.1 0 2) (fun b s => if nbr S.1 S.2.1 b = true then s ||| bt b else s) (nI 0), M)) (nI 0) (fun u i s hi => ?_) (fun u => ?_) FU (FU_lt (by omega))
    · exact key
    · by_cases c : nbr S.1 S.2.1 i = true
      · simp (disch := omega) only [f_C_missing_b, hr10, hP.b, C_bears hP oP hW oW hi, c, bI_s, bV_s, bL_s, bR_s, bG_s, bG_n, bX_l, bX_r, ck_nI, nI_clamp, nI_leT, nI_leF, nI_ltT, nI_ltF, nI_eqF, nI_add, pk_mul, ofN, bt_e, or0, Nat.zero_add, Nat.add_zero, ↓reduceIte, if_true, if_false, Bool.false_eq_true, eq_self, li0, li1, li2, li3, li4, li5, li6, li7, li8, li9, li10, li11, li12, li14, li15, li16, li18, li19, li20, li23, li24, li25, li26, li27, li30, li31, li32, li36, li40, li41, li42, li43, li44, li45, li47, li48, li57, li59, li60, li91, li93, li96, li97, li100, li105, li122, li150, li200, li255, li400, li500, li600, li999, li1000, li1001, li2000, li2001, li2002, li2003, li2004, li2005, li2006, li32767, li100000, li_neg, li13, li17, li21, li22, li28, li29, li33, li34, li35, li37, li38, li39, li46, li49, li50, li51, li52, li53, li63, li80, li115, li160]
      · simp (disch := omega) only [f_C_missing_b, hr10, hP.b, C_bears hP oP hW oW hi, c, bI_s, bV_s, bL_s, bR_s, bG_s, bG_n, bX_l, bX_r, ck_nI, nI_clamp, nI_leT, nI_leF, nI_ltT, nI_ltF, nI_eqF, nI_add, pk_mul, ofN, bt_e, or0, Nat.zero_add, Nat.add_zero, ↓reduceIte, if_true, if_false, Bool.false_eq_true, eq_self, li0, li1, li2, li3, li4, li5, li6, li7, li8, li9, li10, li11, li12, li14, li15, li16, li18, li19, li20, li23, li24, li25, li26, li27, li30, li31, li32, li36, li40, li41, li42, li43, li44, li45, li47, li48, li57, li59, li60, li91, li93, li96, li97, li100, li105, li122, li150, li200, li255, li400, li500, li600, li999, li1000, li1001, li2000, li2001, li2002, li2003, li2004, li2005, li2006, li32767, li100000, li_neg, li13, li17, li21, li22, li28, li29, li33, li34, li35, li37, li38, li39, li46, li49, li50, li51, li52, li53, li63, li80, li115, li160]
    · simp (disch := omega) only [f_C_missing_b, hr10, hP.b, bI_s, bV_s, bL_s, bR_s, bG_s, bG_n, bX_l, bX_r, ck_nI, nI_clamp, nI_leT, nI_leF, nI_ltT, nI_ltF, nI_eqF, nI_add, pk_mul, ofN, bt_e, or0, Nat.zero_add, Nat.add_zero, ↓reduceIte, if_true, if_false, Bool.false_eq_true, eq_self, li0, li1, li2, li3, li4, li5, li6, li7, li8, li9, li10, li11, li12, li14, li15, li16, li18, li19, li20, li23, li24, li25, li26, li27, li30, li31, li32, li36, li40, li41, li42, li43, li44, li45, li47, li48, li57, li59, li60, li91, li93, li96, li97, li100, li105, li122, li150, li200, li255, li400, li500, li600, li999, li1000, li1001, li2000, li2001, li2002, li2003, li2004, li2005, li2006, li32767, li100000, li_neg, li13, li17, li21, li22, li28, li29, li33, li34, li35, li37, li38, li39, li46, li49, li50, li51, li52, li53, li63, li80, li115, li160]
  · have e : fo (S.1 0 2) (fun b s => if nbr S.1 S.2.1 b = true then s ||| bt b else s) (nI 0) = fo (S.2.1 0 2) (fun i s => if decide (S.2.1 2 i = S.1 2 (S.2.1 1 i)) = true then s &&& (bt (S.2.1 1 i) ^^^ nI 4294967295) else s) (bt (S.1 0 2) - nI 1) := by
      refine hs_ext (fun k hk => ?_)
      rw [Bool.eq_iff_iff, hs_foA hk _ (fun i hi => by have := oW.b hi; omega), hs_low (by omega) hk, decide_eq_true_eq]
      refine Iff.trans (hs_fo (c := fun b => nbr S.1 S.2.1 b) (g := fun b => b) hk _ (fun i hi => by omega)) ?_
      constructor
      · rintro ⟨i, h1, h2, rfl⟩
        refine ⟨h1, fun j hj hc z => ?_⟩
        have := (alR_iff _ _).mp h2 j (by omega) (by omega)
        have hc' := of_decide_eq_true hc
        rw [z] at hc'
        rw [decide_eq_true z, decide_eq_true hc'] at this
        exact nomatch this
      · rintro ⟨h1, h2⟩
        refine ⟨k, h1, (alR_iff _ _).mpr (fun j h3 h4 => ?_), rfl⟩
        by_cases z : S.2.1 1 j = k
        · have : ¬ S.2.1 2 j = S.1 2 k := fun z2 => h2 j (by omega) (decide_eq_true (by rw [z]; exact z2)) z
          rw [decide_eq_false this, Bool.and_false]; rfl
        · rw [decide_eq_false z, Bool.false_and]; rfl
    rw [e]
    have key := lp_up (fun u i s => f_M_missing_b u (o + 61) s (nI i) (sI M1 (o + 61) 0 (nI 0))) (S.2.1 0 2) (fun i s => if decide (S.2.1 2 i = S.1 2 (S.2.1 1 i)) = true then s &&& (bt (S.2.1 1 i) ^^^ nI 4294967295) else s) (some (fo (S.2.1 0 2) (fun i s => if decide (S.2.1 2 i = S.1 2 (S.2.1 1 i)) = true then s &&& (bt (S.2.1 1 i) ^^^ nI 4294967295) else s) (bt (S.1 0 2) - nI 1), sI M1 (o + 61) 0 (nI 0))) (bt (S.1 0 2) - nI 1) (fun u i s hi => ?_) (fun u => ?_) FU (FU_lt (by omega))
    · simp (disch := omega) only [f_M_missing, hm.1.1.b, bI_s, bV_s, bL_s, bR_s, bG_s, bG_n, bX_l, bX_r, ck_nI, nI_clamp, nI_leT, nI_leF, nI_ltT, nI_ltF, nI_eqF, nI_add, pk_mul, ofN, bt_e, or0, Nat.zero_add, Nat.add_zero, ↓reduceIte, if_true, if_false, Bool.false_eq_true, eq_self, li0, li1, li2, li3, li4, li5, li6, li7, li8, li9, li10, li11, li12, li14, li15, li16, li18, li19, li20, li23, li24, li25, li26, li27, li30, li31, li32, li36, li40, li41, li42, li43, li44, li45, li47, li48, li57, li59, li60, li91, li93, li96, li97, li100, li105, li122, li150, li200, li255, li400, li500, li600, li999, li1000, li1001, li2000, li2001, li2002, li2003, li2004, li2005, li2006, li32767, li100000, li_neg, li13, li17, li21, li22, li28, li29, li33, li34, li35, li37, li38, li39, li46, li49, li50, li51, li52, li53, li63, li80, li115, li160]
      exact key
    · have h1 := oW.b hi
      have h2 := oW.ac hi
      have h3 := oP.act h1
      by_cases c : S.2.1 2 i = S.1 2 (S.2.1 1 i)
      · simp (disch := omega) only [f_M_missing_b, hm.1.2.l, (M_lineOf hm.1.2 oW hi).1.1, (M_lineOf hm.1.2 oW hi).1.2, hm.1.1.act h1, c, decide_true, bI_s, bV_s, bL_s, bR_s, bG_s, bG_n, bX_l, bX_r, ck_nI, nI_clamp, nI_leT, nI_leF, nI_ltT, nI_ltF, nI_eqF, nI_add, pk_mul, ofN, bt_e, or0, Nat.zero_add, Nat.add_zero, ↓reduceIte, if_true, if_false, Bool.false_eq_true, eq_self, li0, li1, li2, li3, li4, li5, li6, li7, li8, li9, li10, li11, li12, li14, li15, li16, li18, li19, li20, li23, li24, li25, li26, li27, li30, li31, li32, li36, li40, li41, li42, li43, li44, li45, li47, li48, li57, li59, li60, li91, li93, li96, li97, li100, li105, li122, li150, li200, li255, li400, li500, li600, li999, li1000, li1001, li2000, li2001, li2002, li2003, li2004, li2005, li2006, li32767, li100000, li_neg, li13, li17, li21, li22, li28, li29, li33, li34, li35, li37, li38, li39, li46, li49, li50, li51, li52, li53, li63, li80, li115, li160]
      · simp (disch := omega) only [f_M_missing_b, hm.1.2.l, (M_lineOf hm.1.2 oW hi).1.1, (M_lineOf hm.1.2 oW hi).1.2, hm.1.1.act h1, c, decide_false, Int32.and_self, bI_s, bV_s, bL_s, bR_s, bG_s, bG_n, bX_l, bX_r, ck_nI, nI_clamp, nI_leT, nI_leF, nI_ltT, nI_ltF, nI_eqF, nI_add, pk_mul, ofN, bt_e, or0, Nat.zero_add, Nat.add_zero, ↓reduceIte, if_true, if_false, Bool.false_eq_true, eq_self, li0, li1, li2, li3, li4, li5, li6, li7, li8, li9, li10, li11, li12, li14, li15, li16, li18, li19, li20, li23, li24, li25, li26, li27, li30, li31, li32, li36, li40, li41, li42, li43, li44, li45, li47, li48, li57, li59, li60, li91, li93, li96, li97, li100, li105, li122, li150, li200, li255, li400, li500, li600, li999, li1000, li1001, li2000, li2001, li2002, li2003, li2004, li2005, li2006, li32767, li100000, li_neg, li13, li17, li21, li22, li28, li29, li33, li34, li35, li37, li38, li39, li46, li49, li50, li51, li52, li53, li63, li80, li115, li160]
    · simp (disch := omega) only [f_M_missing_b, hm.1.2.l, bI_s, bV_s, bL_s, bR_s, bG_s, bG_n, bX_l, bX_r, ck_nI, nI_clamp, nI_leT, nI_leF, nI_ltT, nI_ltF, nI_eqF, nI_add, pk_mul, ofN, bt_e, or0, Nat.zero_add, Nat.add_zero, ↓reduceIte, if_true, if_false, Bool.false_eq_true, eq_self, li0, li1, li2, li3, li4, li5, li6, li7, li8, li9, li10, li11, li12, li14, li15, li16, li18, li19, li20, li23, li24, li25, li26, li27, li30, li31, li32, li36, li40, li41, li42, li43, li44, li45, li47, li48, li57, li59, li60, li91, li93, li96, li97, li100, li105, li122, li150, li200, li255, li400, li500, li600, li999, li1000, li1001, li2000, li2001, li2002, li2003, li2004, li2005, li2006, li32767, li100000, li_neg, li13, li17, li21, li22, li28, li29, li33, li34, li35, li37, li38, li39, li46, li49, li50, li51, li52, li53, li63, li80, li115, li160]
end
