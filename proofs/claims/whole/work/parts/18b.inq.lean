/-! # functional level, 27: stood, ask agree -/
section
variable {M M' M1 N : Mm} {o m d : Nat} {S : St} {P W : TT} {dn : Nat} {A B : Nat → Nat}
theorem fsT_in (r : Nat → Bool) : ∀ n : Nat, n < 1000 → fsT r n < 2 ^ 32
  | 0 => fun _ => by show 4294967295 < 2 ^ 32; omega
  | n + 1 => fun h => by
    have ih := fsT_in r n (by omega)
    show (if r n = true then (if cnt r n = 0 then n else fsT r n) else fsT r n) < 2 ^ 32
    split
    · split <;> omega
    · exact ih
theorem M_stood (hm : MJ N m S) (hO : oS S) {j : Nat} (hj : j ≤ 2) : f_M_stood_c FU m (nI j) (nI 0) (nI 4294967295) (bt (S.1 0 2) - nI 1) (nI 0) N = some ((if j = 0 then nI (cnt (rtS S.1 S.2.1 (S.2.2.1 0 8) (S.2.2.1 3) (S.2.2.1 4)) (2 ^ S.1 0 2)) else if j = 1 then nI (fsT (rtS S.1 S.2.1 (S.2.2.1 0 8) (S.2.2.1 3) (S.2.2.1 4)) (2 ^ S.1 0 2)) else suR (rtS S.1 S.2.1 (S.2.2.1 0 8) (S.2.2.1 3) (S.2.2.1 4)) (2 ^ S.1 0 2)), N) := by
  have oP := hO.1.1
  have hB := oP.b
  have h8 := p8 hB
  have hr : ∀ s, f_M_isRight m (nI s) N = some (nI (if rtS S.1 S.2.1 (S.2.2.1 0 8) (S.2.2.1 3) (S.2.2.1 4) s = true then 1 else 0), N) := fun s => M_right hm.1.1 oP hm.1.2 hm.2.2.1.2 hO.2.2.1.1 hO.2.2.1.2.1
  have als := alM_suR (r := rtS S.1 S.2.1 (S.2.2.1 0 8) (S.2.2.1 3) (S.2.2.1 4)) hB (2 ^ S.1 0 2) (Nat.le_refl _)
  have su0 : ∀ (r : Nat → Bool) (n : Nat), cnt r n = 0 → suR r n = nI 0 := by
    intro r n
    induction n with
    | zero => intro _; rfl
    | succ n ih =>
      intro h
      have e : cnt r n + (if r n = true then 1 else 0) = 0 := h
      show (if r n = true then (if cnt r n = 0 then nI n else suR r n) &&& nI n else suR r n) = nI 0
      by_cases c : r n = true
      · rw [if_pos c] at e; omega
      · rw [if_neg c]; exact ih (by omega)
  have s0 := su0 (rtS S.1 S.2.1 (S.2.2.1 0 8) (S.2.2.1 3) (S.2.2.1 4)) (2 ^ S.1 0 2)
  generalize rtS S.1 S.2.1 (S.2.2.1 0 8) (S.2.2.1 3) (S.2.2.1 4) = r at hr als s0
  refine lp_upI (fun u s (q : Nat × Nat × Int32) => f_M_stood_c u m (nI j) (nI q.1) (nI q.2.1) q.2.2 (nI s) N) (2 ^ S.1 0 2) (fun s q => (q.1 + (if r s = true then 1 else 0), if r s = true then (if q.1 = 0 then s else q.2.1) else q.2.1, if r s = true then q.2.2 &&& nI s else q.2.2)) _ (0, 4294967295, bt (S.1 0 2) - nI 1) (fun s q => q = (cnt r s, fsT r s, alM r (bt (S.1 0 2) - nI 1) s)) rfl (fun u s q hsl hI => ?_) (fun u hI => ?_) FU (FU_lt (by omega))
  · subst hI
    refine ⟨?_, rfl⟩
    have hcl := cnt_le r s
    by_cases c : r s = true
    · by_cases c0 : cnt r s = 0
      · simp (disch := omega) only [f_M_stood_c, hm.1.1.b, hr, c, c0, bt_nI, bI_s, bV_s, bL_s, bR_s, bG_s, bG_n, bX_l, bX_r, ck_nI, nI_clamp, nI_leT, nI_leF, nI_ltT, nI_ltF, nI_eqF, nI_add, pk_mul, ofN, bt_e, or0, Nat.zero_add, Nat.add_zero, ↓reduceIte, if_true, if_false, Bool.false_eq_true, eq_self, li0, li1, li2, li3, li4, li5, li6, li7, li8, li9, li10, li11, li12, li14, li15, li16, li18, li19, li20, li23, li24, li25, li26, li27, li30, li31, li32, li36, li40, li41, li42, li43, li44, li45, li47, li48, li57, li59, li60, li91, li93, li96, li97, li100, li105, li122, li150, li200, li255, li400, li500, li600, li999, li1000, li1001, li2000, li2001, li2002, li2003, li2004, li2005, li2006, li32767, li100000, li_neg, li13, li17, li21, li22, li28, li29, li33, li34, li35, li37, li38, li39, li46, li49, li50, li51, li52, li53, li63, li80, li115, li160]
      · simp (disch := omega) only [f_M_stood_c, hm.1.1.b, hr, c, c0, bt_nI, bI_s, bV_s, bL_s, bR_s, bG_s, bG_n, bX_l, bX_r, ck_nI, nI_clamp, nI_leT, nI_leF, nI_ltT, nI_ltF, nI_eqF, nI_add, pk_mul, ofN, bt_e, or0, Nat.zero_add, Nat.add_zero, ↓reduceIte, if_true, if_false, Bool.false_eq_true, eq_self, li0, li1, li2, li3, li4, li5, li6, li7, li8, li9, li10, li11, li12, li14, li15, li16, li18, li19, li20, li23, li24, li25, li26, li27, li30, li31, li32, li36, li40, li41, li42, li43, li44, li45, li47, li48, li57, li59, li60, li91, li93, li96, li97, li100, li105, li122, li150, li200, li255, li400, li500, li600, li999, li1000, li1001, li2000, li2001, li2002, li2003, li2004, li2005, li2006, li32767, li100000, li_neg, li13, li17, li21, li22, li28, li29, li33, li34, li35, li37, li38, li39, li46, li49, li50, li51, li52, li53, li63, li80, li115, li160]
    · simp (disch := omega) only [f_M_stood_c, hm.1.1.b, hr, c, bt_nI, bI_s, bV_s, bL_s, bR_s, bG_s, bG_n, bX_l, bX_r, ck_nI, nI_clamp, nI_leT, nI_leF, nI_ltT, nI_ltF, nI_eqF, nI_add, pk_mul, ofN, bt_e, or0, Nat.zero_add, Nat.add_zero, ↓reduceIte, if_true, if_false, Bool.false_eq_true, eq_self, li0, li1, li2, li3, li4, li5, li6, li7, li8, li9, li10, li11, li12, li14, li15, li16, li18, li19, li20, li23, li24, li25, li26, li27, li30, li31, li32, li36, li40, li41, li42, li43, li44, li45, li47, li48, li57, li59, li60, li91, li93, li96, li97, li100, li105, li122, li150, li200, li255, li400, li500, li600, li999, li1000, li1001, li2000, li2001, li2002, li2003, li2004, li2005, li2006, li32767, li100000, li_neg, li13, li17, li21, li22, li28, li29, li33, li34, li35, li37, li38, li39, li46, li49, li50, li51, li52, li53, li63, li80, li115, li160]
  · rw [hI]
    have hcl := cnt_le r (2 ^ S.1 0 2)
    obtain c | c | c : j = 0 ∨ j = 1 ∨ j = 2 := by omega
    · subst c; simp (disch := omega) only [f_M_stood_c, hm.1.1.b, bt_nI, bI_s, bV_s, bL_s, bR_s, bG_s, bG_n, bX_l, bX_r, ck_nI, nI_clamp, nI_leT, nI_leF, nI_ltT, nI_ltF, nI_eqF, nI_add, pk_mul, ofN, bt_e, or0, Nat.zero_add, Nat.add_zero, ↓reduceIte, if_true, if_false, Bool.false_eq_true, eq_self, li0, li1, li2, li3, li4, li5, li6, li7, li8, li9, li10, li11, li12, li14, li15, li16, li18, li19, li20, li23, li24, li25, li26, li27, li30, li31, li32, li36, li40, li41, li42, li43, li44, li45, li47, li48, li57, li59, li60, li91, li93, li96, li97, li100, li105, li122, li150, li200, li255, li400, li500, li600, li999, li1000, li1001, li2000, li2001, li2002, li2003, li2004, li2005, li2006, li32767, li100000, li_neg, li13, li17, li21, li22, li28, li29, li33, li34, li35, li37, li38, li39, li46, li49, li50, li51, li52, li53, li63, li80, li115, li160]
    · subst c; simp (disch := omega) only [f_M_stood_c, hm.1.1.b, bt_nI, Nat.one_ne_zero, bI_s, bV_s, bL_s, bR_s, bG_s, bG_n, bX_l, bX_r, ck_nI, nI_clamp, nI_leT, nI_leF, nI_ltT, nI_ltF, nI_eqF, nI_add, pk_mul, ofN, bt_e, or0, Nat.zero_add, Nat.add_zero, ↓reduceIte, if_true, if_false, Bool.false_eq_true, eq_self, li0, li1, li2, li3, li4, li5, li6, li7, li8, li9, li10, li11, li12, li14, li15, li16, li18, li19, li20, li23, li24, li25, li26, li27, li30, li31, li32, li36, li40, li41, li42, li43, li44, li45, li47, li48, li57, li59, li60, li91, li93, li96, li97, li100, li105, li122, li150, li200, li255, li400, li500, li600, li999, li1000, li1001, li2000, li2001, li2002, li2003, li2004, li2005, li2006, li32767, li100000, li_neg, li13, li17, li21, li22, li28, li29, li33, li34, li35, li37, li38, li39, li46, li49, li50, li51, li52, li53, li63, li80, li115, li160]
    · subst c
      by_cases c0 : cnt r (2 ^ S.1 0 2) = 0
      · have := s0 c0
        simp (disch := omega) only [f_M_stood_c, hm.1.1.b, bt_nI, c0, this, show ¬ (2 = 0) by omega, show ¬ (2 = 1) by omega, bI_s, bV_s, bL_s, bR_s, bG_s, bG_n, bX_l, bX_r, ck_nI, nI_clamp, nI_leT, nI_leF, nI_ltT, nI_ltF, nI_eqF, nI_add, pk_mul, ofN, bt_e, or0, Nat.zero_add, Nat.add_zero, ↓reduceIte, if_true, if_false, Bool.false_eq_true, eq_self, li0, li1, li2, li3, li4, li5, li6, li7, li8, li9, li10, li11, li12, li14, li15, li16, li18, li19, li20, li23, li24, li25, li26, li27, li30, li31, li32, li36, li40, li41, li42, li43, li44, li45, li47, li48, li57, li59, li60, li91, li93, li96, li97, li100, li105, li122, li150, li200, li255, li400, li500, li600, li999, li1000, li1001, li2000, li2001, li2002, li2003, li2004, li2005, li2006, li32767, li100000, li_neg, li13, li17, li21, li22, li28, li29, li33, li34, li35, li37, li38, li39, li46, li49, li50, li51, li52, li53, li63, li80, li115, li160]
      · have := als.2 c0
        rw [bt_nI (by omega)] at this
        simp (disch := omega) only [f_M_stood_c, hm.1.1.b, bt_nI, c0, this, show ¬ (2 = 0) by omega, show ¬ (2 = 1) by omega, bI_s, bV_s, bL_s, bR_s, bG_s, bG_n, bX_l, bX_r, ck_nI, nI_clamp, nI_leT, nI_leF, nI_ltT, nI_ltF, nI_eqF, nI_add, pk_mul, ofN, bt_e, or0, Nat.zero_add, Nat.add_zero, ↓reduceIte, if_true, if_false, Bool.false_eq_true, eq_self, li0, li1, li2, li3, li4, li5, li6, li7, li8, li9, li10, li11, li12, li14, li15, li16, li18, li19, li20, li23, li24, li25, li26, li27, li30, li31, li32, li36, li40, li41, li42, li43, li44, li45, li47, li48, li57, li59, li60, li91, li93, li96, li97, li100, li105, li122, li150, li200, li255, li400, li500, li600, li999, li1000, li1001, li2000, li2001, li2002, li2003, li2004, li2005, li2006, li32767, li100000, li_neg, li13, li17, li21, li22, li28, li29, li33, li34, li35, li37, li38, li39, li46, li49, li50, li51, li52, li53, li63, li80, li115, li160]
theorem A_stood (h : InvS o M S) (p0 : Int32) : Ag cd1 Int32.toInt64 o (fun k => k = 1) (f_C_stood o p0 M) (fun M1 => f_M_stood (o + 61) p0 M1) := by
  obtain ⟨p, l, d, hr, ⟨hP, hW⟩, ⟨⟨t1, t2⟩, t3, ⟨t4, t5, t6⟩, t7, t8⟩, ⟨hL, hD⟩, oP, oW⟩ := h.u
  have hr10 := hr.2.1.1
  have hr12 := hr.2.2.1.1
  have hr14 := hr.2.2.2.1
  have hRb := oP.r
  have hBb := oP.b
  have hWb := oP.w
  have hLb := oW.l
  have hO := h.2.2.1
  have hd := hr.1.2.2
  rcases wth p0 0 2 (by omega) (by omega) with ⟨j, _, h2, rfl⟩ | ⟨w1, w2⟩
  · obtain ⟨M', e, ⟨⟨g1, g2⟩, g3, _⟩, f⟩ := C_hold (q := o + 23) hW oP hD hO.2.2.1.2.1 (by omega) (by omega)
    have mj : ∀ M1, MJ (sI M1 (o + 61) 0 (nI 0)) (o + 61) S → _ := fun M1 hm => M_stood hm hO h2
    generalize rtS S.1 S.2.1 (S.2.2.1 0 8) (S.2.2.1 3) (S.2.2.1 4) = r at g1 g2 g3 mj
    refine agR h (v := if j = 0 then nI (cnt r (2 ^ S.1 0 2)) else if j = 1 then nI (fsT r (2 ^ S.1 0 2)) else suR r (2 ^ S.1 0 2)) (M' := M') ?_ (f.mono (fun a ha => Or.inl (by omega))) (fun M1 hm => ?_)
    · obtain c | c | c : j = 0 ∨ j = 1 ∨ j = 2 := by omega
      · subst c; simp (disch := omega) only [f_C_stood, hr10, hr14, hP.b, e, g1, C_inT, f_C_mustBe, bI_s, bV_s, bL_s, bR_s, bG_s, bG_n, bX_l, bX_r, ck_nI, nI_clamp, nI_leT, nI_leF, nI_ltT, nI_ltF, nI_eqF, nI_add, pk_mul, ofN, bt_e, or0, Nat.zero_add, Nat.add_zero, ↓reduceIte, if_true, if_false, Bool.false_eq_true, eq_self, li0, li1, li2, li3, li4, li5, li6, li7, li8, li9, li10, li11, li12, li14, li15, li16, li18, li19, li20, li23, li24, li25, li26, li27, li30, li31, li32, li36, li40, li41, li42, li43, li44, li45, li47, li48, li57, li59, li60, li91, li93, li96, li97, li100, li105, li122, li150, li200, li255, li400, li500, li600, li999, li1000, li1001, li2000, li2001, li2002, li2003, li2004, li2005, li2006, li32767, li100000, li_neg, li13, li17, li21, li22, li28, li29, li33, li34, li35, li37, li38, li39, li46, li49, li50, li51, li52, li53, li63, li80, li115, li160]
      · subst c; simp (disch := omega) only [f_C_stood, hr10, hr14, hP.b, e, g2, C_inT, f_C_mustBe, Nat.one_ne_zero, bI_s, bV_s, bL_s, bR_s, bG_s, bG_n, bX_l, bX_r, ck_nI, nI_clamp, nI_leT, nI_leF, nI_ltT, nI_ltF, nI_eqF, nI_add, pk_mul, ofN, bt_e, or0, Nat.zero_add, Nat.add_zero, ↓reduceIte, if_true, if_false, Bool.false_eq_true, eq_self, li0, li1, li2, li3, li4, li5, li6, li7, li8, li9, li10, li11, li12, li14, li15, li16, li18, li19, li20, li23, li24, li25, li26, li27, li30, li31, li32, li36, li40, li41, li42, li43, li44, li45, li47, li48, li57, li59, li60, li91, li93, li96, li97, li100, li105, li122, li150, li200, li255, li400, li500, li600, li999, li1000, li1001, li2000, li2001, li2002, li2003, li2004, li2005, li2006, li32767, li100000, li_neg, li13, li17, li21, li22, li28, li29, li33, li34, li35, li37, li38, li39, li46, li49, li50, li51, li52, li53, li63, li80, li115, li160]
      · subst c; simp (disch := omega) only [f_C_stood, hr10, hr14, hP.b, e, g3, C_inT, f_C_mustBe, show ¬ (2 = 0) by omega, show ¬ (2 = 1) by omega, bI_s, bV_s, bL_s, bR_s, bG_s, bG_n, bX_l, bX_r, ck_nI, nI_clamp, nI_leT, nI_leF, nI_ltT, nI_ltF, nI_eqF, nI_add, pk_mul, ofN, bt_e, or0, Nat.zero_add, Nat.add_zero, ↓reduceIte, if_true, if_false, Bool.false_eq_true, eq_self, li0, li1, li2, li3, li4, li5, li6, li7, li8, li9, li10, li11, li12, li14, li15, li16, li18, li19, li20, li23, li24, li25, li26, li27, li30, li31, li32, li36, li40, li41, li42, li43, li44, li45, li47, li48, li57, li59, li60, li91, li93, li96, li97, li100, li105, li122, li150, li200, li255, li400, li500, li600, li999, li1000, li1001, li2000, li2001, li2002, li2003, li2004, li2005, li2006, li32767, li100000, li_neg, li13, li17, li21, li22, li28, li29, li33, li34, li35, li37, li38, li39, li46, li49, li50, li51, li52, li53, li63, li80, li115, li160]
    · have n1 := mj M1 hm
      refine ⟨_, ?_, gI_same .., FM.rf _ _⟩
      simp (disch := omega) only [f_M_stood, f_M_stood_b, hm.1.1.b, n1, M_inT, hm.b0, bI_s, bV_s, bL_s, bR_s, bG_s, bG_n, bX_l, bX_r, ck_nI, nI_clamp, nI_leT, nI_leF, nI_ltT, nI_ltF, nI_eqF, nI_add, pk_mul, ofN, bt_e, or0, Nat.zero_add, Nat.add_zero, ↓reduceIte, if_true, if_false, Bool.false_eq_true, eq_self, li0, li1, li2, li3, li4, li5, li6, li7, li8, li9, li10, li11, li12, li14, li15, li16, li18, li19, li20, li23, li24, li25, li26, li27, li30, li31, li32, li36, li40, li41, li42, li43, li44, li45, li47, li48, li57, li59, li60, li91, li93, li96, li97, li100, li105, li122, li150, li200, li255, li400, li500, li600, li999, li1000, li1001, li2000, li2001, li2002, li2003, li2004, li2005, li2006, li32767, li100000, li_neg, li13, li17, li21, li22, li28, li29, li33, li34, li35, li37, li38, li39, li46, li49, li50, li51, li52, li53, li63, li80, li115, li160]
  · refine agE1 h (cc := 1) rfl rfl (by omega) ?_ (nI 0) (fun M1 hm => ?_)
    · simp (disch := omega) only [f_C_stood, w1, f_C_mustBe, t6, bI_s, bV_s, bL_s, bR_s, bG_s, bG_n, bX_l, bX_r, ck_nI, nI_clamp, nI_leT, nI_leF, nI_ltT, nI_ltF, nI_eqF, nI_add, pk_mul, ofN, bt_e, or0, Nat.zero_add, Nat.add_zero, ↓reduceIte, if_true, if_false, Bool.false_eq_true, eq_self, li0, li1, li2, li3, li4, li5, li6, li7, li8, li9, li10, li11, li12, li14, li15, li16, li18, li19, li20, li23, li24, li25, li26, li27, li30, li31, li32, li36, li40, li41, li42, li43, li44, li45, li47, li48, li57, li59, li60, li91, li93, li96, li97, li100, li105, li122, li150, li200, li255, li400, li500, li600, li999, li1000, li1001, li2000, li2001, li2002, li2003, li2004, li2005, li2006, li32767, li100000, li_neg, li13, li17, li21, li22, li28, li29, li33, li34, li35, li37, li38, li39, li46, li49, li50, li51, li52, li53, li63, li80, li115, li160]
    · simp (disch := omega) only [f_M_stood, f_M_stood_b, w2, hm.b11, bI_s, bV_s, bL_s, bR_s, bG_s, bG_n, bX_l, bX_r, ck_nI, nI_clamp, nI_leT, nI_leF, nI_ltT, nI_ltF, nI_eqF, nI_add, pk_mul, ofN, bt_e, or0, Nat.zero_add, Nat.add_zero, ↓reduceIte, if_true, if_false, Bool.false_eq_true, eq_self, li0, li1, li2, li3, li4, li5, li6, li7, li8, li9, li10, li11, li12, li14, li15, li16, li18, li19, li20, li23, li24, li25, li26, li27, li30, li31, li32, li36, li40, li41, li42, li43, li44, li45, li47, li48, li57, li59, li60, li91, li93, li96, li97, li100, li105, li122, li150, li200, li255, li400, li500, li600, li999, li1000, li1001, li2000, li2001, li2002, li2003, li2004, li2005, li2006, li32767, li100000, li_neg, li13, li17, li21, li22, li28, li29, li33, li34, li35, li37, li38, li39, li46, li49, li50, li51, li52, li53, li63, li80, li115, li160]
/-! ask -/
/-- told, worst; the best question among the first n -/
def wst (c : Nat) (sw : Nat → Nat) (a : Nat) : Nat := max (sw a) (c - sw a)
def bqS (tl : Nat → Bool) (w : Nat → Nat) (n : Nat) : Nat := fo n (fun a b => if tl a = true then b else if b = 4294967295 ∨ w a < w b then a else b) 4294967295
theorem bqS_s (tl : Nat → Bool) (w : Nat → Nat) (n : Nat) : bqS tl w (n + 1) = if tl n = true then bqS tl w n else if bqS tl w n = 4294967295 ∨ w n < w (bqS tl w n) then n else bqS tl w n := rfl
theorem bqS_in (tl : Nat → Bool) (w : Nat → Nat) : ∀ n : Nat, bqS tl w n < n ∨ bqS tl w n = 4294967295
  | 0 => Or.inr rfl
  | n + 1 => by
    have ih := bqS_in tl w n
    rw [bqS_s]
    split
    · omega
    · split <;> omega
def tld (dn : Nat) (A : Nat → Nat) (a : Nat) : Bool := hs (und dn A) a
theorem M_isTold (hD : MId N m dn A B) (hdn : dn ≤ 10) (hA : ∀ k, k < dn → A k < 10 ∧ B k ≤ 1) {a : Nat} (ha : a < 10) : f_M_isTold m (nI a) N = some (nI (if tld dn A a = true then 1 else 0), N) := by
  have key := lp_al (fun u i => f_M_isTold_b u m (nI a) (nI i) N) dn (fun k => !decide (A k = a)) (some (nI 0, N)) (some (nI 1, N)) (fun u i hi hc => ?_) (fun u i hi hc => ?_) (fun u => ?_) FU (FU_lt (by omega))
  · refine Eq.trans key ?_
    have e := und_hs (n := dn) (A := A) (fun k hk => (hA k hk).1) (show a < 32 by omega)
    unfold tld
    by_cases c : hs (und dn A) a = true
    · obtain ⟨i, h1, h2⟩ := e.mp c
      rw [if_pos c, if_neg]
      intro z
      have := (alR_iff _ _).mp z i (by omega) (by omega)
      rw [decide_eq_true h2] at this
      exact nomatch this
    · rw [if_neg c, if_pos]
      refine (alR_iff _ _).mpr (fun k _ hk => ?_)
      rw [Bool.not_eq_true']
      exact decide_eq_false (fun z => c (e.mpr ⟨k, by omega, z⟩))
  · have hc' : ¬ A i = a := by
      rw [Bool.not_eq_true'] at hc
      exact of_decide_eq_false hc
    have := (hA i hi).1
    simp (disch := omega) only [f_M_isTold_b, hD.1, (hD.2 i hi).1, bI_s, bV_s, bL_s, bR_s, bG_s, bG_n, bX_l, bX_r, ck_nI, nI_clamp, nI_leT, nI_leF, nI_ltT, nI_ltF, nI_eqF, nI_add, pk_mul, ofN, bt_e, or0, Nat.zero_add, Nat.add_zero, ↓reduceIte, if_true, if_false, Bool.false_eq_true, eq_self, li0, li1, li2, li3, li4, li5, li6, li7, li8, li9, li10, li11, li12, li14, li15, li16, li18, li19, li20, li23, li24, li25, li26, li27, li30, li31, li32, li36, li40, li41, li42, li43, li44, li45, li47, li48, li57, li59, li60, li91, li93, li96, li97, li100, li105, li122, li150, li200, li255, li400, li500, li600, li999, li1000, li1001, li2000, li2001, li2002, li2003, li2004, li2005, li2006, li32767, li100000, li_neg, li13, li17, li21, li22, li28, li29, li33, li34, li35, li37, li38, li39, li46, li49, li50, li51, li52, li53, li63, li80, li115, li160]
  · have hc' : A i = a := by
      rw [Bool.not_eq_false'] at hc
      exact of_decide_eq_true hc
    simp (disch := omega) only [f_M_isTold_b, hD.1, (hD.2 i hi).1, hc', bI_s, bV_s, bL_s, bR_s, bG_s, bG_n, bX_l, bX_r, ck_nI, nI_clamp, nI_leT, nI_leF, nI_ltT, nI_ltF, nI_eqF, nI_add, pk_mul, ofN, bt_e, or0, Nat.zero_add, Nat.add_zero, ↓reduceIte, if_true, if_false, Bool.false_eq_true, eq_self, li0, li1, li2, li3, li4, li5, li6, li7, li8, li9, li10, li11, li12, li14, li15, li16, li18, li19, li20, li23, li24, li25, li26, li27, li30, li31, li32, li36, li40, li41, li42, li43, li44, li45, li47, li48, li57, li59, li60, li91, li93, li96, li97, li100, li105, li122, li150, li200, li255, li400, li500, li600, li999, li1000, li1001, li2000, li2001, li2002, li2003, li2004, li2005, li2006, li32767, li100000, li_neg, li13, li17, li21, li22, li28, li29, li33, li34, li35, li37, li38, li39, li46, li49, li50, li51, li52, li53, li63, li80, li115, li160]
  · simp (disch := omega) only [f_M_isTold_b, hD.1, bI_s, bV_s, bL_s, bR_s, bG_s, bG_n, bX_l, bX_r, ck_nI, nI_clamp, nI_leT, nI_leF, nI_ltT, nI_ltF, nI_eqF, nI_add, pk_mul, ofN, bt_e, or0, Nat.zero_add, Nat.add_zero, ↓reduceIte, if_true, if_false, Bool.false_eq_true, eq_self, li0, li1, li2, li3, li4, li5, li6, li7, li8, li9, li10, li11, li12, li14, li15, li16, li18, li19, li20, li23, li24, li25, li26, li27, li30, li31, li32, li36, li40, li41, li42, li43, li44, li45, li47, li48, li57, li59, li60, li91, li93, li96, li97, li100, li105, li122, li150, li200, li255, li400, li500, li600, li999, li1000, li1001, li2000, li2001, li2002, li2003, li2004, li2005, li2006, li32767, li100000, li_neg, li13, li17, li21, li22, li28, li29, li33, li34, li35, li37, li38, li39, li46, li49, li50, li51, li52, li53, li63, li80, li115, li160]
theorem C_bestQ {q c : Nat} {sw : Nat → Nat} (hD : isD M d dn A B) (hA : ∀ k, k < dn → A k < 10 ∧ B k ≤ 1) (g1 : gI M q 1 = nI c) (hc : c ≤ 256) (g4 : ∀ a, a < 10 → gI M (q + 1) a = nI (sw a)) (hs1 : ∀ a, sw a ≤ c) : f_Inquest_bestQuestion q d M = some (nI (bqS (tld dn A) (wst c sw) 10), M) ∧ ∀ a, a < 10 → f_Inquest_leftAtWorst q (nI a) M = some (nI (wst c sw a), M) := by
  have hl : ∀ a, a < 10 → f_Inquest_leftAtWorst q (nI a) M = some (nI (wst c sw a), M) := fun a ha => by
    have := hs1 a
    unfold wst
    simp (disch := omega) only [f_Inquest_leftAtWorst, g1, g4 a ha, pk_sub, mxI_n, bI_s, bV_s, bL_s, bR_s, bG_s, bG_n, bX_l, bX_r, ck_nI, nI_clamp, nI_leT, nI_leF, nI_ltT, nI_ltF, nI_eqF, nI_add, pk_mul, ofN, bt_e, or0, Nat.zero_add, Nat.add_zero, ↓reduceIte, if_true, if_false, Bool.false_eq_true, eq_self, li0, li1, li2, li3, li4, li5, li6, li7, li8, li9, li10, li11, li12, li14, li15, li16, li18, li19, li20, li23, li24, li25, li26, li27, li30, li31, li32, li36, li40, li41, li42, li43, li44, li45, li47, li48, li57, li59, li60, li91, li93, li96, li97, li100, li105, li122, li150, li200, li255, li400, li500, li600, li999, li1000, li1001, li2000, li2001, li2002, li2003, li2004, li2005, li2006, li32767, li100000, li_neg, li13, li17, li21, li22, li28, li29, li33, li34, li35, li37, li38, li39, li46, li49, li50, li51, li52, li53, li63, li80, li115, li160]
  have hwb : ∀ a, wst c sw a < 2 ^ 31 := fun a => by have := hs1 a; unfold wst; omega
  refine ⟨?_, hl⟩
  have e : gI M d 0 ||| gI M d 1 = und dn A := by rw [hD.1, hD.2, dY_or hA]
  refine lp_upI (fun u i (b : Nat) => f_Inquest_bestQuestion_b u q d (nI b) (nI i) M) 10 (fun a b => if tld dn A a = true then b else if b = 4294967295 ∨ wst c sw a < wst c sw b then a else b) _ 4294967295 (fun i b => b = bqS (tld dn A) (wst c sw) i) rfl (fun u i b hi hI => ?_) (fun u hI => ?_) FU (FU_lt (by omega))
  · refine ⟨?_, by subst hI; rfl⟩
    have hin := bqS_in (tld dn A) (wst c sw) i
    rw [← hI] at hin
    have w1 := hwb i
    have w2 := hwb b
    by_cases ct : tld dn A i = true
    · rw [if_pos ct]
      simp (disch := omega) only [f_Inquest_bestQuestion_b, f_Inquest_bestQuestion_c, e, C_hasT (x := und dn A) (k := i) ct, bI_s, bV_s, bL_s, bR_s, bG_s, bG_n, bX_l, bX_r, ck_nI, nI_clamp, nI_leT, nI_leF, nI_ltT, nI_ltF, nI_eqF, nI_add, pk_mul, ofN, bt_e, or0, Nat.zero_add, Nat.add_zero, ↓reduceIte, if_true, if_false, Bool.false_eq_true, eq_self, li0, li1, li2, li3, li4, li5, li6, li7, li8, li9, li10, li11, li12, li14, li15, li16, li18, li19, li20, li23, li24, li25, li26, li27, li30, li31, li32, li36, li40, li41, li42, li43, li44, li45, li47, li48, li57, li59, li60, li91, li93, li96, li97, li100, li105, li122, li150, li200, li255, li400, li500, li600, li999, li1000, li1001, li2000, li2001, li2002, li2003, li2004, li2005, li2006, li32767, li100000, li_neg, li13, li17, li21, li22, li28, li29, li33, li34, li35, li37, li38, li39, li46, li49, li50, li51, li52, li53, li63, li80, li115, li160]
    · rw [if_neg ct]
      by_cases cb : b = 4294967295
      · rw [if_pos (Or.inl cb)]
        subst cb
        simp (disch := omega) only [f_Inquest_bestQuestion_b, f_Inquest_bestQuestion_c, e, C_hasF (x := und dn A) (k := i) ct, bI_s, bV_s, bL_s, bR_s, bG_s, bG_n, bX_l, bX_r, ck_nI, nI_clamp, nI_leT, nI_leF, nI_ltT, nI_ltF, nI_eqF, nI_add, pk_mul, ofN, bt_e, or0, Nat.zero_add, Nat.add_zero, ↓reduceIte, if_true, if_false, Bool.false_eq_true, eq_self, li0, li1, li2, li3, li4, li5, li6, li7, li8, li9, li10, li11, li12, li14, li15, li16, li18, li19, li20, li23, li24, li25, li26, li27, li30, li31, li32, li36, li40, li41, li42, li43, li44, li45, li47, li48, li57, li59, li60, li91, li93, li96, li97, li100, li105, li122, li150, li200, li255, li400, li500, li600, li999, li1000, li1001, li2000, li2001, li2002, li2003, li2004, li2005, li2006, li32767, li100000, li_neg, li13, li17, li21, li22, li28, li29, li33, li34, li35, li37, li38, li39, li46, li49, li50, li51, li52, li53, li63, li80, li115, li160]
      · by_cases cw : wst c sw i < wst c sw b
        · rw [if_pos (Or.inr cw)]
          simp (disch := omega) only [f_Inquest_bestQuestion_b, f_Inquest_bestQuestion_c, e, C_hasF (x := und dn A) (k := i) ct, hl, bI_s, bV_s, bL_s, bR_s, bG_s, bG_n, bX_l, bX_r, ck_nI, nI_clamp, nI_leT, nI_leF, nI_ltT, nI_ltF, nI_eqF, nI_add, pk_mul, ofN, bt_e, or0, Nat.zero_add, Nat.add_zero, ↓reduceIte, if_true, if_false, Bool.false_eq_true, eq_self, li0, li1, li2, li3, li4, li5, li6, li7, li8, li9, li10, li11, li12, li14, li15, li16, li18, li19, li20, li23, li24, li25, li26, li27, li30, li31, li32, li36, li40, li41, li42, li43, li44, li45, li47, li48, li57, li59, li60, li91, li93, li96, li97, li100, li105, li122, li150, li200, li255, li400, li500, li600, li999, li1000, li1001, li2000, li2001, li2002, li2003, li2004, li2005, li2006, li32767, li100000, li_neg, li13, li17, li21, li22, li28, li29, li33, li34, li35, li37, li38, li39, li46, li49, li50, li51, li52, li53, li63, li80, li115, li160]
        · rw [if_neg (fun z => z.elim cb cw)]
          simp (disch := omega) only [f_Inquest_bestQuestion_b, f_Inquest_bestQuestion_c, e, C_hasF (x := und dn A) (k := i) ct, hl, bI_s, bV_s, bL_s, bR_s, bG_s, bG_n, bX_l, bX_r, ck_nI, nI_clamp, nI_leT, nI_leF, nI_ltT, nI_ltF, nI_eqF, nI_add, pk_mul, ofN, bt_e, or0, Nat.zero_add, Nat.add_zero, ↓reduceIte, if_true, if_false, Bool.false_eq_true, eq_self, li0, li1, li2, li3, li4, li5, li6, li7, li8, li9, li10, li11, li12, li14, li15, li16, li18, li19, li20, li23, li24, li25, li26, li27, li30, li31, li32, li36, li40, li41, li42, li43, li44, li45, li47, li48, li57, li59, li60, li91, li93, li96, li97, li100, li105, li122, li150, li200, li255, li400, li500, li600, li999, li1000, li1001, li2000, li2001, li2002, li2003, li2004, li2005, li2006, li32767, li100000, li_neg, li13, li17, li21, li22, li28, li29, li33, li34, li35, li37, li38, li39, li46, li49, li50, li51, li52, li53, li63, li80, li115, li160]
  · simp (disch := omega) only [f_Inquest_bestQuestion_b, bI_s, bV_s, bL_s, bR_s, bG_s, bG_n, bX_l, bX_r, ck_nI, nI_clamp, nI_leT, nI_leF, nI_ltT, nI_ltF, nI_eqF, nI_add, pk_mul, ofN, bt_e, or0, Nat.zero_add, Nat.add_zero, ↓reduceIte, if_true, if_false, Bool.false_eq_true, eq_self, li0, li1, li2, li3, li4, li5, li6, li7, li8, li9, li10, li11, li12, li14, li15, li16, li18, li19, li20, li23, li24, li25, li26, li27, li30, li31, li32, li36, li40, li41, li42, li43, li44, li45, li47, li48, li57, li59, li60, li91, li93, li96, li97, li100, li105, li122, li150, li200, li255, li400, li500, li600, li999, li1000, li1001, li2000, li2001, li2002, li2003, li2004, li2005, li2006, li32767, li100000, li_neg, li13, li17, li21, li22, li28, li29, li33, li34, li35, li37, li38, li39, li46, li49, li50, li51, li52, li53, li63, li80, li115, li160]
    rw [hI]
theorem M_ask (hm : MJ N m S) (hO : oS S) {j : Nat} (hj : j ≤ 1) : f_M_ask_c FU m (nI j) (nI 4294967295) (nI 4294967295) (nI 0) N = some (nI (let r := rtS S.1 S.2.1 (S.2.2.1 0 8) (S.2.2.1 3) (S.2.2.1 4); let w := wst (cnt r (2 ^ S.1 0 2)) (swN r (acS S.1 S.2.1) (2 ^ S.1 0 2)); let b := bqS (tld (S.2.2.1 0 8) (S.2.2.1 3)) w 10; if j = 0 ∨ b = 4294967295 then b else w b), N) := by
  have oP := hO.1.1
  have hB := oP.b
  have h8 := p8 hB
  have hr : ∀ s, f_M_isRight m (nI s) N = some (nI (if rtS S.1 S.2.1 (S.2.2.1 0 8) (S.2.2.1 3) (S.2.2.1 4) s = true then 1 else 0), N) := fun s => M_right hm.1.1 oP hm.1.2 hm.2.2.1.2 hO.2.2.1.1 hO.2.2.1.2.1
  have ha : ∀ s, f_M_actsOf m (nI s) N = some (acS S.1 S.2.1 s, N) := fun s => M_acts hm.1.1 oP hm.1.2
  have ht : ∀ a, a < 10 → f_M_isTold m (nI a) N = some (nI (if tld (S.2.2.1 0 8) (S.2.2.1 3) a = true then 1 else 0), N) := fun a h => M_isTold hm.2.2.1.2 hO.2.2.1.1 hO.2.2.1.2.1 h
  dsimp only
  generalize rtS S.1 S.2.1 (S.2.2.1 0 8) (S.2.2.1 3) (S.2.2.1 4) = r at hr
  generalize acS S.1 S.2.1 = x at ha
  generalize tld (S.2.2.1 0 8) (S.2.2.1 3) = tl at ht
  have hwb : ∀ a, wst (cnt r (2 ^ S.1 0 2)) (swN r x (2 ^ S.1 0 2)) a < 2 ^ 31 := fun a => by have := cnt_le r (2 ^ S.1 0 2); have := sw_le r x (2 ^ S.1 0 2) a; unfold wst; omega
  have inner : ∀ (kc : Nat → Int32 → Int32 → Int32 → Int32 → Mm → Option (Int32 × Mm)) (b l : Int32) (a : Nat), f_M_ask_d kc FU m (nI j) b l (nI a) (nI 0) (nI 0) (nI 0) N = (if b = nI 4294967295 then kc m (nI j) (nI a) (nI (wst (cnt r (2 ^ S.1 0 2)) (swN r x (2 ^ S.1 0 2)) a)) (nI (a + 1)) N else if nI (wst (cnt r (2 ^ S.1 0 2)) (swN r x (2 ^ S.1 0 2)) a) < l then kc m (nI j) (nI a) (nI (wst (cnt r (2 ^ S.1 0 2)) (swN r x (2 ^ S.1 0 2)) a)) (nI (a + 1)) N else kc m (nI j) b l (nI (a + 1)) N) := by
    intro kc b l a
    refine lp_upI (fun u s (q : Nat × Nat) => f_M_ask_d kc u m (nI j) b l (nI a) (nI q.1) (nI q.2) (nI s) N) (2 ^ S.1 0 2) (fun s q => if r s = true then (if hs (x s) a = true then (q.1 + 1, q.2) else (q.1, q.2 + 1)) else q) _ (0, 0) (fun s q => q.1 = swN r x s a ∧ q.1 + q.2 = cnt r s) ⟨rfl, rfl⟩ (fun u s q hsl hI => ?_) (fun u hI => ?_) FU (FU_lt (by omega))
    · have e1 : swN r x (s + 1) a = swN r x s a + if (r s && hs (x s) a) = true then 1 else 0 := rfl
      have e2 : cnt r (s + 1) = cnt r s + if r s = true then 1 else 0 := rfl
      by_cases c : r s = true
      · by_cases c2 : hs (x s) a = true
        · refine ⟨?_, ?_⟩
          · simp (disch := omega) only [f_M_ask_d, hm.1.1.b, hr, ha, c, c2, M_hasT c2, bt_nI, bI_s, bV_s, bL_s, bR_s, bG_s, bG_n, bX_l, bX_r, ck_nI, nI_clamp, nI_leT, nI_leF, nI_ltT, nI_ltF, nI_eqF, nI_add, pk_mul, ofN, bt_e, or0, Nat.zero_add, Nat.add_zero, ↓reduceIte, if_true, if_false, Bool.false_eq_true, eq_self, li0, li1, li2, li3, li4, li5, li6, li7, li8, li9, li10, li11, li12, li14, li15, li16, li18, li19, li20, li23, li24, li25, li26, li27, li30, li31, li32, li36, li40, li41, li42, li43, li44, li45, li47, li48, li57, li59, li60, li91, li93, li96, li97, li100, li105, li122, li150, li200, li255, li400, li500, li600, li999, li1000, li1001, li2000, li2001, li2002, li2003, li2004, li2005, li2006, li32767, li100000, li_neg, li13, li17, li21, li22, li28, li29, li33, li34, li35, li37, li38, li39, li46, li49, li50, li51, li52, li53, li63, li80, li115, li160]
          · rw [e1, e2, c, c2, if_pos rfl, if_pos rfl, Bool.and_self, if_pos rfl]
            exact ⟨by show q.1 + 1 = _; omega, by show q.1 + 1 + q.2 = _; omega⟩
        · have c2' : hs (x s) a = false := by simpa using c2
          refine ⟨?_, ?_⟩
          · simp (disch := omega) only [f_M_ask_d, hm.1.1.b, hr, ha, c, c2, M_hasF c2, bt_nI, bI_s, bV_s, bL_s, bR_s, bG_s, bG_n, bX_l, bX_r, ck_nI, nI_clamp, nI_leT, nI_leF, nI_ltT, nI_ltF, nI_eqF, nI_add, pk_mul, ofN, bt_e, or0, Nat.zero_add, Nat.add_zero, ↓reduceIte, if_true, if_false, Bool.false_eq_true, eq_self, li0, li1, li2, li3, li4, li5, li6, li7, li8, li9, li10, li11, li12, li14, li15, li16, li18, li19, li20, li23, li24, li25, li26, li27, li30, li31, li32, li36, li40, li41, li42, li43, li44, li45, li47, li48, li57, li59, li60, li91, li93, li96, li97, li100, li105, li122, li150, li200, li255, li400, li500, li600, li999, li1000, li1001, li2000, li2001, li2002, li2003, li2004, li2005, li2006, li32767, li100000, li_neg, li13, li17, li21, li22, li28, li29, li33, li34, li35, li37, li38, li39, li46, li49, li50, li51, li52, li53, li63, li80, li115, li160]
          · rw [e1, e2, c, c2', if_pos rfl, Bool.and_false, if_pos rfl, if_neg (fun z => nomatch z), if_neg (fun z => nomatch z)]
            exact ⟨by show q.1 = _; omega, by show q.1 + (q.2 + 1) = _; omega⟩
      · have c' : r s = false := by simpa using c
        refine ⟨?_, ?_⟩
        · simp (disch := omega) only [f_M_ask_d, hm.1.1.b, hr, c, bt_nI, bI_s, bV_s, bL_s, bR_s, bG_s, bG_n, bX_l, bX_r, ck_nI, nI_clamp, nI_leT, nI_leF, nI_ltT, nI_ltF, nI_eqF, nI_add, pk_mul, ofN, bt_e, or0, Nat.zero_add, Nat.add_zero, ↓reduceIte, if_true, if_false, Bool.false_eq_true, eq_self, li0, li1, li2, li3, li4, li5, li6, li7, li8, li9, li10, li11, li12, li14, li15, li16, li18, li19, li20, li23, li24, li25, li26, li27, li30, li31, li32, li36, li40, li41, li42, li43, li44, li45, li47, li48, li57, li59, li60, li91, li93, li96, li97, li100, li105, li122, li150, li200, li255, li400, li500, li600, li999, li1000, li1001, li2000, li2001, li2002, li2003, li2004, li2005, li2006, li32767, li100000, li_neg, li13, li17, li21, li22, li28, li29, li33, li34, li35, li37, li38, li39, li46, li49, li50, li51, li52, li53, li63, li80, li115, li160]
        · rw [e1, e2, c', Bool.false_and, if_neg (fun z => nomatch z), if_neg (fun z => nomatch z)]
          exact ⟨by omega, by omega⟩
    · have h1 := hI.1
      have h2 := hI.2
      have h3 := cnt_le r (2 ^ S.1 0 2)
      generalize fo (2 ^ S.1 0 2) (fun s q => if r s = true then (if hs (x s) a = true then (q.1 + 1, q.2) else (q.1, q.2 + 1)) else q) ((0, 0) : Nat × Nat) = q at h1 h2
      have ew : wst (cnt r (2 ^ S.1 0 2)) (swN r x (2 ^ S.1 0 2)) a = max q.1 q.2 := by
        unfold wst
        rw [← h1, ← h2]
        congr 1; omega
      rw [ew]
      simp (disch := omega) only [f_M_ask_d, hm.1.1.b, M_more, bt_nI, bI_s, bV_s, bL_s, bR_s, bG_s, bG_n, bX_l, bX_r, ck_nI, nI_clamp, nI_leT, nI_leF, nI_ltT, nI_ltF, nI_eqF, nI_add, pk_mul, ofN, bt_e, or0, Nat.zero_add, Nat.add_zero, ↓reduceIte, if_true, if_false, Bool.false_eq_true, eq_self, li0, li1, li2, li3, li4, li5, li6, li7, li8, li9, li10, li11, li12, li14, li15, li16, li18, li19, li20, li23, li24, li25, li26, li27, li30, li31, li32, li36, li40, li41, li42, li43, li44, li45, li47, li48, li57, li59, li60, li91, li93, li96, li97, li100, li105, li122, li150, li200, li255, li400, li500, li600, li999, li1000, li1001, li2000, li2001, li2002, li2003, li2004, li2005, li2006, li32767, li100000, li_neg, li13, li17, li21, li22, li28, li29, li33, li34, li35, li37, li38, li39, li46, li49, li50, li51, li52, li53, li63, li80, li115, li160]
  refine lp_upI (fun u i (b : Nat) => f_M_ask_c u m (nI j) (nI b) (nI (if b = 4294967295 then 4294967295 else wst (cnt r (2 ^ S.1 0 2)) (swN r x (2 ^ S.1 0 2)) b)) (nI i) N) 10 (fun a b => if tl a = true then b else if b = 4294967295 ∨ wst (cnt r (2 ^ S.1 0 2)) (swN r x (2 ^ S.1 0 2)) a < wst (cnt r (2 ^ S.1 0 2)) (swN r x (2 ^ S.1 0 2)) b then a else b) _ 4294967295 (fun i b => b = bqS tl (wst (cnt r (2 ^ S.1 0 2)) (swN r x (2 ^ S.1 0 2))) i) rfl (fun u i b hi hI => ?_) (fun u hI => ?_) FU (FU_lt (by omega))
  · refine ⟨?_, by subst hI; rfl⟩
    have hin := bqS_in tl (wst (cnt r (2 ^ S.1 0 2)) (swN r x (2 ^ S.1 0 2))) i
    rw [← hI] at hin
    generalize wst (cnt r (2 ^ S.1 0 2)) (swN r x (2 ^ S.1 0 2)) = w at hwb inner
    have w1 := hwb i
    have w2 := hwb b
    by_cases ct : tl i = true
    · rw [if_pos ct]
      simp (disch := omega) only [f_M_ask_c, ht, ct, bI_s, bV_s, bL_s, bR_s, bG_s, bG_n, bX_l, bX_r, ck_nI, nI_clamp, nI_leT, nI_leF, nI_ltT, nI_ltF, nI_eqF, nI_add, pk_mul, ofN, bt_e, or0, Nat.zero_add, Nat.add_zero, ↓reduceIte, if_true, if_false, Bool.false_eq_true, eq_self, li0, li1, li2, li3, li4, li5, li6, li7, li8, li9, li10, li11, li12, li14, li15, li16, li18, li19, li20, li23, li24, li25, li26, li27, li30, li31, li32, li36, li40, li41, li42, li43, li44, li45, li47, li48, li57, li59, li60, li91, li93, li96, li97, li100, li105, li122, li150, li200, li255, li400, li500, li600, li999, li1000, li1001, li2000, li2001, li2002, li2003, li2004, li2005, li2006, li32767, li100000, li_neg, li13, li17, li21, li22, li28, li29, li33, li34, li35, li37, li38, li39, li46, li49, li50, li51, li52, li53, li63, li80, li115, li160]
    · rw [if_neg ct]
      by_cases cb : b = 4294967295
      · rw [if_pos (Or.inl cb)]
        subst cb
        rw [if_pos rfl, if_neg (by omega)]
        simp (disch := omega) only [f_M_ask_c, ht, ct, inner, bI_s, bV_s, bL_s, bR_s, bG_s, bG_n, bX_l, bX_r, ck_nI, nI_clamp, nI_leT, nI_leF, nI_ltT, nI_ltF, nI_eqF, nI_add, pk_mul, ofN, bt_e, or0, Nat.zero_add, Nat.add_zero, ↓reduceIte, if_true, if_false, Bool.false_eq_true, eq_self, li0, li1, li2, li3, li4, li5, li6, li7, li8, li9, li10, li11, li12, li14, li15, li16, li18, li19, li20, li23, li24, li25, li26, li27, li30, li31, li32, li36, li40, li41, li42, li43, li44, li45, li47, li48, li57, li59, li60, li91, li93, li96, li97, li100, li105, li122, li150, li200, li255, li400, li500, li600, li999, li1000, li1001, li2000, li2001, li2002, li2003, li2004, li2005, li2006, li32767, li100000, li_neg, li13, li17, li21, li22, li28, li29, li33, li34, li35, li37, li38, li39, li46, li49, li50, li51, li52, li53, li63, li80, li115, li160]
      · by_cases cw : w i < w b
        · rw [if_pos (Or.inr cw), if_neg cb, if_neg (by omega)]
          simp (disch := omega) only [f_M_ask_c, ht, ct, inner, bI_s, bV_s, bL_s, bR_s, bG_s, bG_n, bX_l, bX_r, ck_nI, nI_clamp, nI_leT, nI_leF, nI_ltT, nI_ltF, nI_eqF, nI_add, pk_mul, ofN, bt_e, or0, Nat.zero_add, Nat.add_zero, ↓reduceIte, if_true, if_false, Bool.false_eq_true, eq_self, li0, li1, li2, li3, li4, li5, li6, li7, li8, li9, li10, li11, li12, li14, li15, li16, li18, li19, li20, li23, li24, li25, li26, li27, li30, li31, li32, li36, li40, li41, li42, li43, li44, li45, li47, li48, li57, li59, li60, li91, li93, li96, li97, li100, li105, li122, li150, li200, li255, li400, li500, li600, li999, li1000, li1001, li2000, li2001, li2002, li2003, li2004, li2005, li2006, li32767, li100000, li_neg, li13, li17, li21, li22, li28, li29, li33, li34, li35, li37, li38, li39, li46, li49, li50, li51, li52, li53, li63, li80, li115, li160]
        · rw [if_neg (show ¬ (b = 4294967295 ∨ w i < w b) from fun z => z.elim cb cw), if_neg cb]
          simp (disch := omega) only [f_M_ask_c, ht, ct, inner, bI_s, bV_s, bL_s, bR_s, bG_s, bG_n, bX_l, bX_r, ck_nI, nI_clamp, nI_leT, nI_leF, nI_ltT, nI_ltF, nI_eqF, nI_add, pk_mul, ofN, bt_e, or0, Nat.zero_add, Nat.add_zero, ↓reduceIte, if_true, if_false, Bool.false_eq_true, eq_self, li0, li1, li2, li3, li4, li5, li6, li7, li8, li9, li10, li11, li12, li14, li15, li16, li18, li19, li20, li23, li24, li25, li26, li27, li30, li31, li32, li36, li40, li41, li42, li43, li44, li45, li47, li48, li57, li59, li60, li91, li93, li96, li97, li100, li105, li122, li150, li200, li255, li400, li500, li600, li999, li1000, li1001, li2000, li2001, li2002, li2003, li2004, li2005, li2006, li32767, li100000, li_neg, li13, li17, li21, li22, li28, li29, li33, li34, li35, li37, li38, li39, li46, li49, li50, li51, li52, li53, li63, li80, li115, li160]
  · rw [hI]
    generalize bqS tl (wst (cnt r (2 ^ S.1 0 2)) (swN r x (2 ^ S.1 0 2))) 10 = b
    obtain c | c : j = 0 ∨ j = 1 := by omega
    · subst c
      rw [if_pos (Or.inl rfl)]
      simp (disch := omega) only [f_M_ask_c, bI_s, bV_s, bL_s, bR_s, bG_s, bG_n, bX_l, bX_r, ck_nI, nI_clamp, nI_leT, nI_leF, nI_ltT, nI_ltF, nI_eqF, nI_add, pk_mul, ofN, bt_e, or0, Nat.zero_add, Nat.add_zero, ↓reduceIte, if_true, if_false, Bool.false_eq_true, eq_self, li0, li1, li2, li3, li4, li5, li6, li7, li8, li9, li10, li11, li12, li14, li15, li16, li18, li19, li20, li23, li24, li25, li26, li27, li30, li31, li32, li36, li40, li41, li42, li43, li44, li45, li47, li48, li57, li59, li60, li91, li93, li96, li97, li100, li105, li122, li150, li200, li255, li400, li500, li600, li999, li1000, li1001, li2000, li2001, li2002, li2003, li2004, li2005, li2006, li32767, li100000, li_neg, li13, li17, li21, li22, li28, li29, li33, li34, li35, li37, li38, li39, li46, li49, li50, li51, li52, li53, li63, li80, li115, li160]
    · subst c
      by_cases cb : b = 4294967295
      · rw [if_pos cb, if_pos (Or.inr cb)]
        subst cb
        simp (disch := omega) only [f_M_ask_c, bI_s, bV_s, bL_s, bR_s, bG_s, bG_n, bX_l, bX_r, ck_nI, nI_clamp, nI_leT, nI_leF, nI_ltT, nI_ltF, nI_eqF, nI_add, pk_mul, ofN, bt_e, or0, Nat.zero_add, Nat.add_zero, ↓reduceIte, if_true, if_false, Bool.false_eq_true, eq_self, li0, li1, li2, li3, li4, li5, li6, li7, li8, li9, li10, li11, li12, li14, li15, li16, li18, li19, li20, li23, li24, li25, li26, li27, li30, li31, li32, li36, li40, li41, li42, li43, li44, li45, li47, li48, li57, li59, li60, li91, li93, li96, li97, li100, li105, li122, li150, li200, li255, li400, li500, li600, li999, li1000, li1001, li2000, li2001, li2002, li2003, li2004, li2005, li2006, li32767, li100000, li_neg, li13, li17, li21, li22, li28, li29, li33, li34, li35, li37, li38, li39, li46, li49, li50, li51, li52, li53, li63, li80, li115, li160]
      · rw [if_neg cb, if_neg (by omega)]
        simp (disch := omega) only [f_M_ask_c, bI_s, bV_s, bL_s, bR_s, bG_s, bG_n, bX_l, bX_r, ck_nI, nI_clamp, nI_leT, nI_leF, nI_ltT, nI_ltF, nI_eqF, nI_add, pk_mul, ofN, bt_e, or0, Nat.zero_add, Nat.add_zero, ↓reduceIte, if_true, if_false, Bool.false_eq_true, eq_self, li0, li1, li2, li3, li4, li5, li6, li7, li8, li9, li10, li11, li12, li14, li15, li16, li18, li19, li20, li23, li24, li25, li26, li27, li30, li31, li32, li36, li40, li41, li42, li43, li44, li45, li47, li48, li57, li59, li60, li91, li93, li96, li97, li100, li105, li122, li150, li200, li255, li400, li500, li600, li999, li1000, li1001, li2000, li2001, li2002, li2003, li2004, li2005, li2006, li32767, li100000, li_neg, li13, li17, li21, li22, li28, li29, li33, li34, li35, li37, li38, li39, li46, li49, li50, li51, li52, li53, li63, li80, li115, li160]
theorem A_ask (h : InvS o M S) (p0 : Int32) : Ag cd1 Int32.toInt64 o (fun k => k = 1) (f_C_ask o p0 M) (fun M1 => f_M_ask (o + 61) p0 M1) := by
  obtain ⟨p, l, d, hr, ⟨hP, hW⟩, ⟨⟨t1, t2⟩, t3, ⟨t4, t5, t6⟩, t7, t8⟩, ⟨hL, hD⟩, oP, oW⟩ := h.u
  have hr10 := hr.2.1.1
  have hr12 := hr.2.2.1.1
  have hr14 := hr.2.2.2.1
  have hRb := oP.r
  have hBb := oP.b
  have hWb := oP.w
  have hLb := oW.l
  have hO := h.2.2.1
  have hd := hr.1.2.2
  rcases wth p0 0 1 (by omega) (by omega) with ⟨j, _, h2, rfl⟩ | ⟨w1, w2⟩
  · obtain ⟨M', e, ⟨⟨g1, g2⟩, g3, g4⟩, f⟩ := C_hold (q := o + 23) hW oP hD hO.2.2.1.2.1 (by omega) (by omega)
    have hr14' : gR M' o 14 = some d := by rw [f.r (by omega)]; exact hr14
    have hD' : isD M' d (S.2.2.1 0 8) (S.2.2.1 3) (S.2.2.1 4) := ⟨by rw [f.i (by omega)]; exact hD.1, by rw [f.i (by omega)]; exact hD.2⟩
    have h8 := p8 hBb
    obtain ⟨q1, q2⟩ := C_bestQ hD' hO.2.2.1.2.1 g1 (Nat.le_trans (cnt_le _ _) h8) g4 (fun a => sw_le ..)
    have mj : ∀ M1, MJ (sI M1 (o + 61) 0 (nI 0)) (o + 61) S → _ := fun M1 hm => M_ask hm hO h2
    dsimp only at mj
    have hin := bqS_in (tld (S.2.2.1 0 8) (S.2.2.1 3)) (wst (cnt (rtS S.1 S.2.1 (S.2.2.1 0 8) (S.2.2.1 3) (S.2.2.1 4)) (2 ^ S.1 0 2)) (swN (rtS S.1 S.2.1 (S.2.2.1 0 8) (S.2.2.1 3) (S.2.2.1 4)) (acS S.1 S.2.1) (2 ^ S.1 0 2))) 10
    generalize wst (cnt (rtS S.1 S.2.1 (S.2.2.1 0 8) (S.2.2.1 3) (S.2.2.1 4)) (2 ^ S.1 0 2)) (swN (rtS S.1 S.2.1 (S.2.2.1 0 8) (S.2.2.1 3) (S.2.2.1 4)) (acS S.1 S.2.1) (2 ^ S.1 0 2)) = w at q1 q2 mj hin
    generalize bqS (tld (S.2.2.1 0 8) (S.2.2.1 3)) w 10 = b at q1 mj hin
    refine agR h (v := nI (if j = 0 ∨ b = 4294967295 then b else w b)) (M' := M') ?_ (f.mono (fun a ha => Or.inl (by omega))) (fun M1 hm => ?_)
    · by_cases cb : b = 4294967295
      · rw [if_pos (Or.inr cb)]
        subst cb
        simp (disch := omega) only [f_C_ask, hr10, hr14, hr14', hP.b, e, q1, C_inT, f_C_mustBe, bI_s, bV_s, bL_s, bR_s, bG_s, bG_n, bX_l, bX_r, ck_nI, nI_clamp, nI_leT, nI_leF, nI_ltT, nI_ltF, nI_eqF, nI_add, pk_mul, ofN, bt_e, or0, Nat.zero_add, Nat.add_zero, ↓reduceIte, if_true, if_false, Bool.false_eq_true, eq_self, li0, li1, li2, li3, li4, li5, li6, li7, li8, li9, li10, li11, li12, li14, li15, li16, li18, li19, li20, li23, li24, li25, li26, li27, li30, li31, li32, li36, li40, li41, li42, li43, li44, li45, li47, li48, li57, li59, li60, li91, li93, li96, li97, li100, li105, li122, li150, li200, li255, li400, li500, li600, li999, li1000, li1001, li2000, li2001, li2002, li2003, li2004, li2005, li2006, li32767, li100000, li_neg, li13, li17, li21, li22, li28, li29, li33, li34, li35, li37, li38, li39, li46, li49, li50, li51, li52, li53, li63, li80, li115, li160]
      · obtain c | c : j = 0 ∨ j = 1 := by omega
        · subst c
          rw [if_pos (Or.inl rfl)]
          simp (disch := omega) only [f_C_ask, hr10, hr14, hr14', hP.b, e, q1, C_inT, f_C_mustBe, bI_s, bV_s, bL_s, bR_s, bG_s, bG_n, bX_l, bX_r, ck_nI, nI_clamp, nI_leT, nI_leF, nI_ltT, nI_ltF, nI_eqF, nI_add, pk_mul, ofN, bt_e, or0, Nat.zero_add, Nat.add_zero, ↓reduceIte, if_true, if_false, Bool.false_eq_true, eq_self, li0, li1, li2, li3, li4, li5, li6, li7, li8, li9, li10, li11, li12, li14, li15, li16, li18, li19, li20, li23, li24, li25, li26, li27, li30, li31, li32, li36, li40, li41, li42, li43, li44, li45, li47, li48, li57, li59, li60, li91, li93, li96, li97, li100, li105, li122, li150, li200, li255, li400, li500, li600, li999, li1000, li1001, li2000, li2001, li2002, li2003, li2004, li2005, li2006, li32767, li100000, li_neg, li13, li17, li21, li22, li28, li29, li33, li34, li35, li37, li38, li39, li46, li49, li50, li51, li52, li53, li63, li80, li115, li160]
        · subst c
          rw [if_neg (by omega)]
          simp (disch := omega) only [f_C_ask, hr10, hr14, hr14', hP.b, e, q1, q2, C_inT, f_C_mustBe, bI_s, bV_s, bL_s, bR_s, bG_s, bG_n, bX_l, bX_r, ck_nI, nI_clamp, nI_leT, nI_leF, nI_ltT, nI_ltF, nI_eqF, nI_add, pk_mul, ofN, bt_e, or0, Nat.zero_add, Nat.add_zero, ↓reduceIte, if_true, if_false, Bool.false_eq_true, eq_self, li0, li1, li2, li3, li4, li5, li6, li7, li8, li9, li10, li11, li12, li14, li15, li16, li18, li19, li20, li23, li24, li25, li26, li27, li30, li31, li32, li36, li40, li41, li42, li43, li44, li45, li47, li48, li57, li59, li60, li91, li93, li96, li97, li100, li105, li122, li150, li200, li255, li400, li500, li600, li999, li1000, li1001, li2000, li2001, li2002, li2003, li2004, li2005, li2006, li32767, li100000, li_neg, li13, li17, li21, li22, li28, li29, li33, li34, li35, li37, li38, li39, li46, li49, li50, li51, li52, li53, li63, li80, li115, li160]
    · have n1 := mj M1 hm
      refine ⟨_, ?_, gI_same .., FM.rf _ _⟩
      simp (disch := omega) only [f_M_ask, f_M_ask_b, n1, M_inT, hm.b0, bI_s, bV_s, bL_s, bR_s, bG_s, bG_n, bX_l, bX_r, ck_nI, nI_clamp, nI_leT, nI_leF, nI_ltT, nI_ltF, nI_eqF, nI_add, pk_mul, ofN, bt_e, or0, Nat.zero_add, Nat.add_zero, ↓reduceIte, if_true, if_false, Bool.false_eq_true, eq_self, li0, li1, li2, li3, li4, li5, li6, li7, li8, li9, li10, li11, li12, li14, li15, li16, li18, li19, li20, li23, li24, li25, li26, li27, li30, li31, li32, li36, li40, li41, li42, li43, li44, li45, li47, li48, li57, li59, li60, li91, li93, li96, li97, li100, li105, li122, li150, li200, li255, li400, li500, li600, li999, li1000, li1001, li2000, li2001, li2002, li2003, li2004, li2005, li2006, li32767, li100000, li_neg, li13, li17, li21, li22, li28, li29, li33, li34, li35, li37, li38, li39, li46, li49, li50, li51, li52, li53, li63, li80, li115, li160]
  · refine agE1 h (cc := 1) rfl rfl (by omega) ?_ (nI 0) (fun M1 hm => ?_)
    · simp (disch := omega) only [f_C_ask, w1, f_C_mustBe, t6, bI_s, bV_s, bL_s, bR_s, bG_s, bG_n, bX_l, bX_r, ck_nI, nI_clamp, nI_leT, nI_leF, nI_ltT, nI_ltF, nI_eqF, nI_add, pk_mul, ofN, bt_e, or0, Nat.zero_add, Nat.add_zero, ↓reduceIte, if_true, if_false, Bool.false_eq_true, eq_self, li0, li1, li2, li3, li4, li5, li6, li7, li8, li9, li10, li11, li12, li14, li15, li16, li18, li19, li20, li23, li24, li25, li26, li27, li30, li31, li32, li36, li40, li41, li42, li43, li44, li45, li47, li48, li57, li59, li60, li91, li93, li96, li97, li100, li105, li122, li150, li200, li255, li400, li500, li600, li999, li1000, li1001, li2000, li2001, li2002, li2003, li2004, li2005, li2006, li32767, li100000, li_neg, li13, li17, li21, li22, li28, li29, li33, li34, li35, li37, li38, li39, li46, li49, li50, li51, li52, li53, li63, li80, li115, li160]
    · simp (disch := omega) only [f_M_ask, f_M_ask_b, w2, hm.b11, bI_s, bV_s, bL_s, bR_s, bG_s, bG_n, bX_l, bX_r, ck_nI, nI_clamp, nI_leT, nI_leF, nI_ltT, nI_ltF, nI_eqF, nI_add, pk_mul, ofN, bt_e, or0, Nat.zero_add, Nat.add_zero, ↓reduceIte, if_true, if_false, Bool.false_eq_true, eq_self, li0, li1, li2, li3, li4, li5, li6, li7, li8, li9, li10, li11, li12, li14, li15, li16, li18, li19, li20, li23, li24, li25, li26, li27, li30, li31, li32, li36, li40, li41, li42, li43, li44, li45, li47, li48, li57, li59, li60, li91, li93, li96, li97, li100, li105, li122, li150, li200, li255, li400, li500, li600, li999, li1000, li1001, li2000, li2001, li2002, li2003, li2004, li2005, li2006, li32767, li100000, li_neg, li13, li17, li21, li22, li28, li29, li33, li34, li35, li37, li38, li39, li46, li49, li50, li51, li52, li53, li63, li80, li115, li160]
end
