/-! # functional level, 62: the model begins anew -/
section
variable {M M' M1 M2 N : Mm} {t m E a k f n s p w v : Nat} {T : Nat → Nat} {Q P : TT}
def bgD (m a : Nat) : Prop := qrg m a ∨ a = m + 470
theorem M_begin (hQ : isQr M m Q) (oQ : okP Q) : ∃ M', f_M_beginsAnew m M = some M' ∧ (Fr (fun a => bgD m a ∨ a = m) M M' ∧ ∀ j, ¬ (j = 23 ∨ (37 ≤ j ∧ j ≤ 40)) → gI M' m j = gI M m j) ∧ (isQ M' m Q ∧ isN M' (m + 470) Q (wB Q)) ∧ (gI M' m 23 = nI 0 ∧ gI M' m 37 = nI 0 ∧ gI M' m 38 = nI 0) ∧ gI M' m 39 = nI 0 ∧ gI M' m 40 = nI 0 := by
  have hr := oQ.r
  have hb := oQ.b
  have hw := oQ.w
  obtain ⟨⟨q1, q2, q3⟩, q4, q5, q6, q7, q8⟩ := id hQ
  obtain ⟨M1, e1, f1, h1⟩ := lp_to (fun u i (N : Mm) => f_M_beginsAnew_b u m (nI i) N) 3 (fun i N => FX (fun a _ => a = m + 4) M N ∧ ∀ k, k < i → gI N (m + 4) k = gI M (m + 3) k) (fun N => f_M_beginsAnew_c FU m (nI 0) N) (fun u i N hi hI => by
      refine ⟨sI N (m + 4) i (gI N (m + 3) i), ?_, hI.1.sI rfl, fun k hk => ?_⟩
      · simp (disch := omega) only [f_M_beginsAnew_b, bI_s, bV_s, bL_s, bR_s, bG_s, bG_n, bX_l, bX_r, ck_nI, nI_clamp, nI_leT, nI_leF, nI_ltT, nI_ltF, nI_eqF, nI_add, pk_mul, ofN, bt_e, or0, Nat.zero_add, Nat.add_zero, ↓reduceIte, if_true, if_false, Bool.false_eq_true, eq_self, li0, li1, li2, li3, li4, li5, li6, li7, li8, li9, li10, li11, li12, li14, li15, li16, li18, li19, li20, li23, li24, li25, li26, li27, li30, li31, li32, li36, li40, li41, li42, li43, li44, li45, li47, li48, li57, li59, li60, li91, li93, li96, li97, li100, li105, li122, li150, li200, li255, li400, li500, li600, li999, li1000, li1001, li2000, li2001, li2002, li2003, li2004, li2005, li2006, li32767, li100000, li_neg, li13, li17, li21, li22, li28, li29, li33, li34, li35, li37, li38, li39, li46, li49, li50, li51, li52, li53, li63, li80, li115, li160]
      · by_cases c : k = i
        · rw [c, gI_same, hI.1.2.1 _ _ (by omega)]
        · rw [gI_ne (by omega)]; exact hI.2 k (by omega))
    (fun u N hI => by simp (disch := omega) only [f_M_beginsAnew_b, bI_s, bV_s, bL_s, bR_s, bG_s, bG_n, bX_l, bX_r, ck_nI, nI_clamp, nI_leT, nI_leF, nI_ltT, nI_ltF, nI_eqF, nI_add, pk_mul, ofN, bt_e, or0, Nat.zero_add, Nat.add_zero, ↓reduceIte, if_true, if_false, Bool.false_eq_true, eq_self, li0, li1, li2, li3, li4, li5, li6, li7, li8, li9, li10, li11, li12, li14, li15, li16, li18, li19, li20, li23, li24, li25, li26, li27, li30, li31, li32, li36, li40, li41, li42, li43, li44, li45, li47, li48, li57, li59, li60, li91, li93, li96, li97, li100, li105, li122, li150, li200, li255, li400, li500, li600, li999, li1000, li1001, li2000, li2001, li2002, li2003, li2004, li2005, li2006, li32767, li100000, li_neg, li13, li17, li21, li22, li28, li29, li33, li34, li35, li37, li38, li39, li46, li49, li50, li51, li52, li53, li63, li80, li115, li160]) M ⟨FX.rf _ M, fun k hk => by omega⟩ FU (FU_lt (by omega))
  have t0 : gI M1 (m + 4) 0 = nI (Q 0 0) := (h1 0 (by omega)).trans q1
  have t1 : gI M1 (m + 4) 1 = nI (Q 0 2) := (h1 1 (by omega)).trans q2
  have t2 : gI M1 (m + 4) 2 = nI (Q 0 5) := (h1 2 (by omega)).trans q3
  obtain ⟨M2, e2, f2, h2⟩ := lp_to (fun u i (N : Mm) => f_M_beginsAnew_c u m (nI i) N) (Q 0 0) (fun i N => FX (fun a _ => a = m + 6) M1 N ∧ ∀ k, k < i → gI N (m + 6) k = nI (Q 1 k)) (fun N => f_M_beginsAnew_d FU m (nI 0) N) (fun u i N hi hI => by
      have g0 : gI N (m + 4) 0 = nI (Q 0 0) := by rw [hI.1.2.1 _ _ (by omega)]; exact t0
      have g1 : gI N (m + 5) i = nI (Q 1 i) := by rw [hI.1.2.1 _ _ (by omega), f1.2.1 _ _ (by omega)]; exact q4 i hi
      refine ⟨sI N (m + 6) i (nI (Q 1 i)), ?_, hI.1.sI rfl, fun k hk => ?_⟩
      · simp (disch := omega) only [f_M_beginsAnew_c, g0, g1, bI_s, bV_s, bL_s, bR_s, bG_s, bG_n, bX_l, bX_r, ck_nI, nI_clamp, nI_leT, nI_leF, nI_ltT, nI_ltF, nI_eqF, nI_add, pk_mul, ofN, bt_e, or0, Nat.zero_add, Nat.add_zero, ↓reduceIte, if_true, if_false, Bool.false_eq_true, eq_self, li0, li1, li2, li3, li4, li5, li6, li7, li8, li9, li10, li11, li12, li14, li15, li16, li18, li19, li20, li23, li24, li25, li26, li27, li30, li31, li32, li36, li40, li41, li42, li43, li44, li45, li47, li48, li57, li59, li60, li91, li93, li96, li97, li100, li105, li122, li150, li200, li255, li400, li500, li600, li999, li1000, li1001, li2000, li2001, li2002, li2003, li2004, li2005, li2006, li32767, li100000, li_neg, li13, li17, li21, li22, li28, li29, li33, li34, li35, li37, li38, li39, li46, li49, li50, li51, li52, li53, li63, li80, li115, li160]
      · by_cases c : k = i
        · rw [c, gI_same]
        · rw [gI_ne (by omega)]; exact hI.2 k (by omega))
    (fun u N hI => by
      have g0 : gI N (m + 4) 0 = nI (Q 0 0) := by rw [hI.1.2.1 _ _ (by omega)]; exact t0
      simp (disch := omega) only [f_M_beginsAnew_c, g0, bI_s, bV_s, bL_s, bR_s, bG_s, bG_n, bX_l, bX_r, ck_nI, nI_clamp, nI_leT, nI_leF, nI_ltT, nI_ltF, nI_eqF, nI_add, pk_mul, ofN, bt_e, or0, Nat.zero_add, Nat.add_zero, ↓reduceIte, if_true, if_false, Bool.false_eq_true, eq_self, li0, li1, li2, li3, li4, li5, li6, li7, li8, li9, li10, li11, li12, li14, li15, li16, li18, li19, li20, li23, li24, li25, li26, li27, li30, li31, li32, li36, li40, li41, li42, li43, li44, li45, li47, li48, li57, li59, li60, li91, li93, li96, li97, li100, li105, li122, li150, li200, li255, li400, li500, li600, li999, li1000, li1001, li2000, li2001, li2002, li2003, li2004, li2005, li2006, li32767, li100000, li_neg, li13, li17, li21, li22, li28, li29, li33, li34, li35, li37, li38, li39, li46, li49, li50, li51, li52, li53, li63, li80, li115, li160]) M1 ⟨FX.rf _ M1, fun k hk => by omega⟩ FU (FU_lt (by omega))
  have f12 : FX (fun a _ => a = m + 4 ∨ a = m + 6) M M2 := (f1.mono (fun _ _ q => Or.inl q)).trans (f2.mono (fun _ _ q => Or.inr q))
  obtain ⟨M3, e3, f3, h3⟩ := lp_to (fun u i (N : Mm) => f_M_beginsAnew_d u m (nI i) N) 10 (fun i N => FX (fun a _ => a = m + 8) M2 N ∧ ∀ k, k < i → gI N (m + 8) k = nI (Q 7 k)) (fun N => f_M_beginsAnew_e FU m (nI 0) N) (fun u i N hi hI => by
      have g1 : gI N (m + 7) i = nI (Q 7 i) := by rw [hI.1.2.1 _ _ (by omega), f12.2.1 _ _ (by omega)]; exact q8 i hi
      refine ⟨sI N (m + 8) i (nI (Q 7 i)), ?_, hI.1.sI rfl, fun k hk => ?_⟩
      · simp (disch := omega) only [f_M_beginsAnew_d, g1, bI_s, bV_s, bL_s, bR_s, bG_s, bG_n, bX_l, bX_r, ck_nI, nI_clamp, nI_leT, nI_leF, nI_ltT, nI_ltF, nI_eqF, nI_add, pk_mul, ofN, bt_e, or0, Nat.zero_add, Nat.add_zero, ↓reduceIte, if_true, if_false, Bool.false_eq_true, eq_self, li0, li1, li2, li3, li4, li5, li6, li7, li8, li9, li10, li11, li12, li14, li15, li16, li18, li19, li20, li23, li24, li25, li26, li27, li30, li31, li32, li36, li40, li41, li42, li43, li44, li45, li47, li48, li57, li59, li60, li91, li93, li96, li97, li100, li105, li122, li150, li200, li255, li400, li500, li600, li999, li1000, li1001, li2000, li2001, li2002, li2003, li2004, li2005, li2006, li32767, li100000, li_neg, li13, li17, li21, li22, li28, li29, li33, li34, li35, li37, li38, li39, li46, li49, li50, li51, li52, li53, li63, li80, li115, li160]
      · by_cases c : k = i
        · rw [c, gI_same]
        · rw [gI_ne (by omega)]; exact hI.2 k (by omega))
    (fun u N hI => by simp (disch := omega) only [f_M_beginsAnew_d, bI_s, bV_s, bL_s, bR_s, bG_s, bG_n, bX_l, bX_r, ck_nI, nI_clamp, nI_leT, nI_leF, nI_ltT, nI_ltF, nI_eqF, nI_add, pk_mul, ofN, bt_e, or0, Nat.zero_add, Nat.add_zero, ↓reduceIte, if_true, if_false, Bool.false_eq_true, eq_self, li0, li1, li2, li3, li4, li5, li6, li7, li8, li9, li10, li11, li12, li14, li15, li16, li18, li19, li20, li23, li24, li25, li26, li27, li30, li31, li32, li36, li40, li41, li42, li43, li44, li45, li47, li48, li57, li59, li60, li91, li93, li96, li97, li100, li105, li122, li150, li200, li255, li400, li500, li600, li999, li1000, li1001, li2000, li2001, li2002, li2003, li2004, li2005, li2006, li32767, li100000, li_neg, li13, li17, li21, li22, li28, li29, li33, li34, li35, li37, li38, li39, li46, li49, li50, li51, li52, li53, li63, li80, li115, li160]) M2 ⟨FX.rf _ M2, fun k hk => by omega⟩ FU (FU_lt (by omega))
  have f13 : FX (fun a _ => a = m + 4 ∨ a = m + 6 ∨ a = m + 8) M M3 := (f12.mono (fun _ _ q => by omega)).trans (f3.mono (fun _ _ q => by omega))
  obtain ⟨M4, e4, f4, h4⟩ := lp_to (fun u i (N : Mm) => f_M_beginsAnew_e u m (nI i) N) 6 (fun i N => FX (fun a _ => a = m + 10) M3 N ∧ ∀ k, k < i → gI N (m + 10) k = gI M (m + 9) k) (fun N => f_M_beginsAnew_e 1 m (nI 6) N) (fun u i N hi hI => by
      have g1 : gI N (m + 9) i = gI M (m + 9) i := by rw [hI.1.2.1 _ _ (by omega), f13.2.1 _ _ (by omega)]
      refine ⟨sI N (m + 10) i (gI M (m + 9) i), ?_, hI.1.sI rfl, fun k hk => ?_⟩
      · simp (disch := omega) only [f_M_beginsAnew_e, g1, bI_s, bV_s, bL_s, bR_s, bG_s, bG_n, bX_l, bX_r, ck_nI, nI_clamp, nI_leT, nI_leF, nI_ltT, nI_ltF, nI_eqF, nI_add, pk_mul, ofN, bt_e, or0, Nat.zero_add, Nat.add_zero, ↓reduceIte, if_true, if_false, Bool.false_eq_true, eq_self, li0, li1, li2, li3, li4, li5, li6, li7, li8, li9, li10, li11, li12, li14, li15, li16, li18, li19, li20, li23, li24, li25, li26, li27, li30, li31, li32, li36, li40, li41, li42, li43, li44, li45, li47, li48, li57, li59, li60, li91, li93, li96, li97, li100, li105, li122, li150, li200, li255, li400, li500, li600, li999, li1000, li1001, li2000, li2001, li2002, li2003, li2004, li2005, li2006, li32767, li100000, li_neg, li13, li17, li21, li22, li28, li29, li33, li34, li35, li37, li38, li39, li46, li49, li50, li51, li52, li53, li63, li80, li115, li160]
      · by_cases c : k = i
        · rw [c, gI_same]
        · rw [gI_ne (by omega)]; exact hI.2 k (by omega))
    (fun u N hI => by simp (disch := omega) only [f_M_beginsAnew_e, bI_s, bV_s, bL_s, bR_s, bG_s, bG_n, bX_l, bX_r, ck_nI, nI_clamp, nI_leT, nI_leF, nI_ltT, nI_ltF, nI_eqF, nI_add, pk_mul, ofN, bt_e, or0, Nat.zero_add, Nat.add_zero, ↓reduceIte, if_true, if_false, Bool.false_eq_true, eq_self, li0, li1, li2, li3, li4, li5, li6, li7, li8, li9, li10, li11, li12, li14, li15, li16, li18, li19, li20, li23, li24, li25, li26, li27, li30, li31, li32, li36, li40, li41, li42, li43, li44, li45, li47, li48, li57, li59, li60, li91, li93, li96, li97, li100, li105, li122, li150, li200, li255, li400, li500, li600, li999, li1000, li1001, li2000, li2001, li2002, li2003, li2004, li2005, li2006, li32767, li100000, li_neg, li13, li17, li21, li22, li28, li29, li33, li34, li35, li37, li38, li39, li46, li49, li50, li51, li52, li53, li63, li80, li115, li160]) M3 ⟨FX.rf _ M3, fun k hk => by omega⟩ FU (FU_lt (by omega))
  have f14 : FX (fun a _ => a = m + 4 ∨ a = m + 6 ∨ a = m + 8 ∨ a = m + 10) M M4 := (f13.mono (fun _ _ q => by omega)).trans (f4.mono (fun _ _ q => by omega))
  have s0 : gI M4 (m + 4) 0 = nI (Q 0 0) := by rw [f4.2.1 _ _ (by omega), f3.2.1 _ _ (by omega), f2.2.1 _ _ (by omega)]; exact t0
  have s1 : gI M4 (m + 4) 1 = nI (Q 0 2) := by rw [f4.2.1 _ _ (by omega), f3.2.1 _ _ (by omega), f2.2.1 _ _ (by omega)]; exact t1
  have s2 : gI M4 (m + 4) 2 = nI (Q 0 5) := by rw [f4.2.1 _ _ (by omega), f3.2.1 _ _ (by omega), f2.2.1 _ _ (by omega)]; exact t2
  obtain ⟨M5, e5, f5, h5⟩ := M_layr (q0 := m + 11) (q1 := m + 20) (n := Q 0 2) (L := 8) hb (by omega) (by omega) M4
  have s3 : gI M5 (m + 4) 2 = nI (Q 0 5) := by rw [f5.2.1 _ _ (by omega)]; exact s2
  obtain ⟨M6, e6, f6, h6⟩ := M_layr (q0 := m + 29) (q1 := m + 36) (n := Q 0 5) (L := 6) hw (by omega) (by omega) M5
  have eE : f_M_beginsAnew_e 1 m (nI 6) M4 = f_M_beginsAnew_f FU m (nI 0) M6 := by
    simp (disch := omega) only [f_M_beginsAnew_e, s1, e5, s3, e6, bI_s, bV_s, bL_s, bR_s, bG_s, bG_n, bX_l, bX_r, ck_nI, nI_clamp, nI_leT, nI_leF, nI_ltT, nI_ltF, nI_eqF, nI_add, pk_mul, ofN, bt_e, or0, Nat.zero_add, Nat.add_zero, ↓reduceIte, if_true, if_false, Bool.false_eq_true, eq_self, li0, li1, li2, li3, li4, li5, li6, li7, li8, li9, li10, li11, li12, li14, li15, li16, li18, li19, li20, li23, li24, li25, li26, li27, li30, li31, li32, li36, li40, li41, li42, li43, li44, li45, li47, li48, li57, li59, li60, li91, li93, li96, li97, li100, li105, li122, li150, li200, li255, li400, li500, li600, li999, li1000, li1001, li2000, li2001, li2002, li2003, li2004, li2005, li2006, li32767, li100000, li_neg, li13, li17, li21, li22, li28, li29, li33, li34, li35, li37, li38, li39, li46, li49, li50, li51, li52, li53, li63, li80, li115, li160]
  have f46 : FX (fun a _ => (m + 21 ≤ a ∧ a < m + 29) ∨ (m + 37 ≤ a ∧ a < m + 43)) M4 M6 := (f5.mono (fun _ _ q => by omega)).trans (f6.mono (fun _ _ q => by omega))
  obtain ⟨M7, e7, f7, h7⟩ := lp_to (fun u i (N : Mm) => f_M_beginsAnew_f u m (nI i) N) 105 (fun i N => FX (fun a _ => a = m + 470) M6 N ∧ ∀ k, k < i → gI N (m + 470) k = nI 0) (fun N => f_M_beginsAnew_g FU m (nI 0) N) (fun u i N hi hI => by
      refine ⟨sI N (m + 470) i (nI 0), ?_, hI.1.sI rfl, fun k hk => ?_⟩
      · have l5 : (105 : Int32) = nI 105 := rfl
        simp (disch := omega) only [f_M_beginsAnew_f, l5, bI_s, bV_s, bL_s, bR_s, bG_s, bG_n, bX_l, bX_r, ck_nI, nI_clamp, nI_leT, nI_leF, nI_ltT, nI_ltF, nI_eqF, nI_add, pk_mul, ofN, bt_e, or0, Nat.zero_add, Nat.add_zero, ↓reduceIte, if_true, if_false, Bool.false_eq_true, eq_self, li0, li1, li2, li3, li4, li5, li6, li7, li8, li9, li10, li11, li12, li14, li15, li16, li18, li19, li20, li23, li24, li25, li26, li27, li30, li31, li32, li36, li40, li41, li42, li43, li44, li45, li47, li48, li57, li59, li60, li91, li93, li96, li97, li100, li105, li122, li150, li200, li255, li400, li500, li600, li999, li1000, li1001, li2000, li2001, li2002, li2003, li2004, li2005, li2006, li32767, li100000, li_neg, li13, li17, li21, li22, li28, li29, li33, li34, li35, li37, li38, li39, li46, li49, li50, li51, li52, li53, li63, li80, li115, li160]
      · by_cases c : k = i
        · rw [c, gI_same]
        · rw [gI_ne (by omega)]; exact hI.2 k (by omega))
    (fun u N hI => by
      have l5 : (105 : Int32) = nI 105 := rfl
      simp (disch := omega) only [f_M_beginsAnew_f, l5, bI_s, bV_s, bL_s, bR_s, bG_s, bG_n, bX_l, bX_r, ck_nI, nI_clamp, nI_leT, nI_leF, nI_ltT, nI_ltF, nI_eqF, nI_add, pk_mul, ofN, bt_e, or0, Nat.zero_add, Nat.add_zero, ↓reduceIte, if_true, if_false, Bool.false_eq_true, eq_self, li0, li1, li2, li3, li4, li5, li6, li7, li8, li9, li10, li11, li12, li14, li15, li16, li18, li19, li20, li23, li24, li25, li26, li27, li30, li31, li32, li36, li40, li41, li42, li43, li44, li45, li47, li48, li57, li59, li60, li91, li93, li96, li97, li100, li105, li122, li150, li200, li255, li400, li500, li600, li999, li1000, li1001, li2000, li2001, li2002, li2003, li2004, li2005, li2006, li32767, li100000, li_neg, li13, li17, li21, li22, li28, li29, li33, li34, li35, li37, li38, li39, li46, li49, li50, li51, li52, li53, li63, li80, li115, li160]) M6 ⟨FX.rf _ M6, fun k hk => by omega⟩ FU (FU_lt (by omega))
  have w1 : ∀ N, FX (fun a _ => a = m + 470) M6 N → gI N (m + 4) 1 = nI (Q 0 2) := fun N g => by rw [g.2.1 _ _ (by omega), f46.2.1 _ _ (by omega)]; exact s1
  have b0 : ∀ N, FX (fun a _ => a = m + 470) M6 N → ∀ k, k < Q 0 2 → gI N (m + 20 + 1 + k) 0 = nI (Q 2 k) := fun N g k hk => by
    rw [g.2.1 _ _ (by omega), f6.2.1 _ _ (by omega), (h5 k hk).1, f14.2.1 _ _ (by omega)]; exact (q5 k hk).1
  have b1 : ∀ N, FX (fun a _ => a = m + 470) M6 N → ∀ k, k < Q 0 2 → gI N (m + 20 + 1 + k) 1 = nI (Q 3 k) := fun N g k hk => by
    rw [g.2.1 _ _ (by omega), f6.2.1 _ _ (by omega), (h5 k hk).2, f14.2.1 _ _ (by omega)]; exact (q5 k hk).2
  obtain ⟨M8, e8, f8, h8, h9⟩ := lp_to (fun u i (N : Mm) => f_M_beginsAnew_g u m (nI i) N) (Q 0 2) (fun i N => FX (fun a _ => a = m + 470) M6 N ∧ (∀ k, k < i → gI N (m + 470) k = nI (Q 2 k)) ∧ ∀ k, i ≤ k → k < 105 → gI N (m + 470) k = nI 0) (fun N => bV (f_M_fills m (m + 470) 105 N) (fun M1 => some (sI (sI (sI (sI (sI M1 m 23 (nI 0)) m 37 (nI 0)) m 38 (nI 0)) m 39 (nI 0)) m 40 (nI 0)))) (fun u i N hi hI => by
      have g1 := w1 N hI.1
      have g2 := b0 N hI.1 i hi
      refine ⟨sI N (m + 470) i (nI (Q 2 i)), ?_, hI.1.sI rfl, fun k hk => ?_, fun k hk hk2 => ?_⟩
      · simp (disch := omega) only [f_M_beginsAnew_g, g1, g2, bI_s, bV_s, bL_s, bR_s, bG_s, bG_n, bX_l, bX_r, ck_nI, nI_clamp, nI_leT, nI_leF, nI_ltT, nI_ltF, nI_eqF, nI_add, pk_mul, ofN, bt_e, or0, Nat.zero_add, Nat.add_zero, ↓reduceIte, if_true, if_false, Bool.false_eq_true, eq_self, li0, li1, li2, li3, li4, li5, li6, li7, li8, li9, li10, li11, li12, li14, li15, li16, li18, li19, li20, li23, li24, li25, li26, li27, li30, li31, li32, li36, li40, li41, li42, li43, li44, li45, li47, li48, li57, li59, li60, li91, li93, li96, li97, li100, li105, li122, li150, li200, li255, li400, li500, li600, li999, li1000, li1001, li2000, li2001, li2002, li2003, li2004, li2005, li2006, li32767, li100000, li_neg, li13, li17, li21, li22, li28, li29, li33, li34, li35, li37, li38, li39, li46, li49, li50, li51, li52, li53, li63, li80, li115, li160]
      · by_cases c : k = i
        · rw [c, gI_same]
        · rw [gI_ne (by omega)]; exact hI.2.1 k (by omega)
      · rw [gI_ne (by omega)]; exact hI.2.2 k (by omega) hk2)
    (fun u N hI => by
      have g1 := w1 N hI.1
      simp (disch := omega) only [f_M_beginsAnew_g, g1, bI_s, bV_s, bL_s, bR_s, bG_s, bG_n, bX_l, bX_r, ck_nI, nI_clamp, nI_leT, nI_leF, nI_ltT, nI_ltF, nI_eqF, nI_add, pk_mul, ofN, bt_e, or0, Nat.zero_add, Nat.add_zero, ↓reduceIte, if_true, if_false, Bool.false_eq_true, eq_self, li0, li1, li2, li3, li4, li5, li6, li7, li8, li9, li10, li11, li12, li14, li15, li16, li18, li19, li20, li23, li24, li25, li26, li27, li30, li31, li32, li36, li40, li41, li42, li43, li44, li45, li47, li48, li57, li59, li60, li91, li93, li96, li97, li100, li105, li122, li150, li200, li255, li400, li500, li600, li999, li1000, li1001, li2000, li2001, li2002, li2003, li2004, li2005, li2006, li32767, li100000, li_neg, li13, li17, li21, li22, li28, li29, li33, li34, li35, li37, li38, li39, li46, li49, li50, li51, li52, li53, li63, li80, li115, li160]) M7 ⟨f7, fun k hk => by omega, fun k _ hk => h7 k hk⟩ FU (FU_lt (by omega))
  have hQ8 : isQ M8 m Q := by
    refine ⟨⟨?_, ?_, ?_⟩, fun k hk => ?_, fun k hk => ⟨b0 M8 f8 k hk, b1 M8 f8 k hk⟩, fun k hk => ⟨?_, ?_, ?_⟩, fun k hk => ?_⟩
    · rw [f8.2.1 _ _ (by omega), f46.2.1 _ _ (by omega)]; exact s0
    · rw [f8.2.1 _ _ (by omega), f46.2.1 _ _ (by omega)]; exact s1
    · rw [f8.2.1 _ _ (by omega), f46.2.1 _ _ (by omega)]; exact s2
    · rw [f8.2.1 _ _ (by omega), f46.2.1 _ _ (by omega), f4.2.1 _ _ (by omega), f3.2.1 _ _ (by omega)]; exact h2 k hk
    · rw [f8.2.1 _ _ (by omega), (h6 k hk).1, f5.2.1 _ _ (by omega), f14.2.1 _ _ (by omega)]; exact (q6 k hk).1
    · rw [f8.2.1 _ _ (by omega), (h6 k hk).2, f5.2.1 _ _ (by omega), f14.2.1 _ _ (by omega)]; exact (q6 k hk).2
    · rw [f8.2.1 _ _ (by omega), f46.2.1 _ _ (by omega), h4 k (by omega), q7 k (by omega), if_pos hk]
    · rw [f8.2.1 _ _ (by omega), f46.2.1 _ _ (by omega), f4.2.1 _ _ (by omega)]; exact h3 k hk
  obtain ⟨M9, e9, k9, g9, f9⟩ := M_fills (a := m + 470) hQ8 oQ (by unfold qrg; omega)
  have em : ∀ x j, ¬ (x = m ∧ (j = 23 ∨ (37 ≤ j ∧ j ≤ 40))) → gI (sI (sI (sI (sI (sI M9 m 23 (nI 0)) m 37 (nI 0)) m 38 (nI 0)) m 39 (nI 0)) m 40 (nI 0)) x j = gI M9 x j := fun x j q => by
    rw [gI_ne (by omega), gI_ne (by omega), gI_ne (by omega), gI_ne (by omega), gI_ne (by omega)]
  have frm : Fr (fun x => x = m) M9 (sI (sI (sI (sI (sI M9 m 23 (nI 0)) m 37 (nI 0)) m 38 (nI 0)) m 39 (nI 0)) m 40 (nI 0)) := (((((Fr.rf (fun x => x = m) M9).sI rfl).sI rfl).sI rfl).sI rfl).sI rfl
  refine ⟨_, ?_, ⟨?_, fun j hj => ?_⟩, ⟨(hQ8.fr oQ f9 (fun x hx q => by unfold qrg at hx; omega)).fr oQ frm (fun x hx q => by unfold qrg at hx; omega), ?_⟩, ⟨?_, ?_, ?_⟩, ?_, ?_⟩
  · have e : f_M_beginsAnew m M = _ := ((((((e1.trans e2).trans e3).trans e4).trans eE).trans e7).trans e8)
    rw [e, e9, bV_s]
  · have fa : FX (fun a _ => bgD m a) M M8 := ((f14.mono (fun a _ q => by unfold bgD qrg; omega)).trans (f46.mono (fun a _ q => by unfold bgD qrg; omega))).trans (f8.mono (fun a _ q => by unfold bgD qrg; omega))
    exact ((fa.fr.mono (fun a q => by obtain ⟨_, q⟩ := q; exact Or.inl q)).trans (f9.mono (fun a q => by unfold bgD; omega))).trans (frm.mono (fun a q => Or.inr q))
  · rw [em _ _ (by omega), f9.i (by omega), f8.2.1 _ _ (by omega), f46.2.1 _ _ (by omega), f14.2.1 _ _ (by omega)]
  · have z : ∀ j, j < 105 → j < 16 ∨ 22 ≤ j → Q 0 2 ≤ j → gI (sI (sI (sI (sI (sI M9 m 23 (nI 0)) m 37 (nI 0)) m 38 (nI 0)) m 39 (nI 0)) m 40 (nI 0)) (m + 470) j = nI 0 := fun j h1 h2 h3 => by
      rw [em _ _ (by omega), g9 _ _ (by omega)]; exact h9 j h3 h1
    refine ⟨⟨z 22 (by omega) (by omega) (by omega), z 24 (by omega) (by omega) (by omega), z 23 (by omega) (by omega) (by omega)⟩, fun k hk => by rw [wB_0] at hk; omega, fun k hk => ⟨?_, z (8 + k) (by omega) (by omega) (by omega)⟩, fun k hk => ?_⟩
    · rw [em _ _ (by omega), g9 _ _ (by omega)]; exact h8 k hk
    · rw [em _ _ (by omega)]; exact k9 k hk
  · rw [gI_ne (by omega), gI_ne (by omega), gI_ne (by omega), gI_ne (by omega), gI_same]
  · rw [gI_ne (by omega), gI_ne (by omega), gI_ne (by omega), gI_same]
  · rw [gI_ne (by omega), gI_ne (by omega), gI_same]
  · rw [gI_ne (by omega), gI_same]
  · rw [gI_same]
end
