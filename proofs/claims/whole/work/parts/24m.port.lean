/-! # functional level, 61: beginning anew -/
section
variable {M M' M1 M2 N : Mm} {t m E a k f n s p w v : Nat} {T : Nat → Nat} {Q P : TT}
/-- a loop that goes up, to what stands behind it -/
theorem lp_to {α R : Type} (F : Nat → Nat → α → R) (n : Nat) (I : Nat → α → Prop) (K : α → R)
    (h1 : ∀ u i s, i < n → I i s → ∃ s', F (u + 1) i s = F u (i + 1) s' ∧ I (i + 1) s') (h0 : ∀ u s, I n s → F (u + 1) n s = K s)
    (s0 : α) (hI : I 0 s0) (u : Nat) (hu : n < u) : ∃ s', F u 0 s0 = K s' ∧ I n s' := by
  have key : ∀ d i u s, i + d = n → d < u → I i s → ∃ s', F u i s = K s' ∧ I n s' := by
    intro d
    induction d with
    | zero =>
      intro i u s hi hu hI
      obtain ⟨u, rfl⟩ : ∃ v, u = v + 1 := ⟨u - 1, by omega⟩
      obtain rfl : i = n := by omega
      exact ⟨s, h0 u s hI, hI⟩
    | succ d ih =>
      intro i u s hi hu hI
      obtain ⟨u, rfl⟩ : ∃ v, u = v + 1 := ⟨u - 1, by omega⟩
      obtain ⟨s', e, hI'⟩ := h1 u i s (by omega) hI
      obtain ⟨s2, e2, h2⟩ := ih (i + 1) u s' (by omega) (by omega) hI'
      exact ⟨s2, e.trans e2, h2⟩
  exact key n 0 u s0 (by omega) hu hI
def q0 : TT := fun i _ => if i = 7 then 4294967295 else 0
theorem q0_0 (k : Nat) : q0 0 k = 0 := rfl
theorem q0_7 (k : Nat) : q0 7 k = 4294967295 := rfl
theorem okq0 : okP q0 := ⟨⟨by rw [q0_0]; omega, by rw [q0_0]; omega, by rw [q0_0]; omega⟩, fun k hk => by rw [q0_0] at hk; omega, fun k hk => by rw [q0_0] at hk; omega, fun k hk => by rw [q0_0] at hk; omega, fun k _ => Or.inr (q0_7 k)⟩
theorem C_clear (M : Mm) : ∃ M', f_Port_clear p M = some M' ∧ FX (pD p) M M' ∧ isP M' p q0 := by
  obtain ⟨M1, e1, f1, h1⟩ := lp_to (fun u i (N : Mm) => f_Port_clear_b u p (nI i) N) 10 (fun i N => FX (pD p) M N ∧ (gI N p 0 = nI 0 ∧ gI N p 2 = nI 0 ∧ gI N p 5 = nI 0) ∧ ∀ k, k < i → gI N (p + 7) k = nI 4294967295) (fun N => some N) (fun u i N hi hI => by
      refine ⟨sI N (p + 7) i (nI 4294967295), ?_, hI.1.sI (by unfold pD; omega), ⟨?_, ?_, ?_⟩, fun k hk => ?_⟩
      · simp (disch := omega) only [f_Port_clear_b, bI_s, bV_s, bL_s, bR_s, bG_s, bG_n, bX_l, bX_r, ck_nI, nI_clamp, nI_leT, nI_leF, nI_ltT, nI_ltF, nI_eqF, nI_add, pk_mul, ofN, bt_e, or0, Nat.zero_add, Nat.add_zero, ↓reduceIte, if_true, if_false, Bool.false_eq_true, eq_self, li0, li1, li2, li3, li4, li5, li6, li7, li8, li9, li10, li11, li12, li14, li15, li16, li18, li19, li20, li23, li24, li25, li26, li27, li30, li31, li32, li36, li40, li41, li42, li43, li44, li45, li47, li48, li57, li59, li60, li91, li93, li96, li97, li100, li105, li122, li150, li200, li255, li400, li500, li600, li999, li1000, li1001, li2000, li2001, li2002, li2003, li2004, li2005, li2006, li32767, li100000, li_neg, li13, li17, li21, li22, li28, li29, li33, li34, li35, li37, li38, li39, li46, li49, li50, li51, li52, li53, li63, li80, li115, li160]
      · rw [gI_ne (by omega)]; exact hI.2.1.1
      · rw [gI_ne (by omega)]; exact hI.2.1.2.1
      · rw [gI_ne (by omega)]; exact hI.2.1.2.2
      · by_cases c : k = i
        · rw [c, gI_same]
        · rw [gI_ne (by omega)]; exact hI.2.2 k (by omega))
    (fun u N hI => by simp (disch := omega) only [f_Port_clear_b, bI_s, bV_s, bL_s, bR_s, bG_s, bG_n, bX_l, bX_r, ck_nI, nI_clamp, nI_leT, nI_leF, nI_ltT, nI_ltF, nI_eqF, nI_add, pk_mul, ofN, bt_e, or0, Nat.zero_add, Nat.add_zero, ↓reduceIte, if_true, if_false, Bool.false_eq_true, eq_self, li0, li1, li2, li3, li4, li5, li6, li7, li8, li9, li10, li11, li12, li14, li15, li16, li18, li19, li20, li23, li24, li25, li26, li27, li30, li31, li32, li36, li40, li41, li42, li43, li44, li45, li47, li48, li57, li59, li60, li91, li93, li96, li97, li100, li105, li122, li150, li200, li255, li400, li500, li600, li999, li1000, li1001, li2000, li2001, li2002, li2003, li2004, li2005, li2006, li32767, li100000, li_neg, li13, li17, li21, li22, li28, li29, li33, li34, li35, li37, li38, li39, li46, li49, li50, li51, li52, li53, li63, li80, li115, li160])
    (sI (sI (sI M p 0 (nI 0)) p 2 (nI 0)) p 5 (nI 0)) ⟨(((FX.rf _ M).sI (by unfold pD; omega)).sI (by unfold pD; omega)).sI (by unfold pD; omega), ⟨by simp (disch := omega) only [gI_same, gI_ne, gI_eq2, gR_sI, gL_sI, gI_sL, gR_sL, gI_sR, gL_sR], by simp (disch := omega) only [gI_same, gI_ne, gI_eq2, gR_sI, gL_sI, gI_sL, gR_sL, gI_sR, gL_sR], by simp (disch := omega) only [gI_same, gI_ne, gI_eq2, gR_sI, gL_sI, gI_sL, gR_sL, gI_sR, gL_sR]⟩, fun k hk => by omega⟩ FU (FU_lt (by omega))
  refine ⟨M1, ?_, f1, ⟨h1.1.1, h1.1.2.1, h1.1.2.2⟩, fun k hk => by rw [q0_0] at hk; omega, fun k hk => by rw [q0_0] at hk; omega, fun k hk => by rw [q0_0] at hk; omega, fun k hk => h1.2 k hk⟩
  have e1 : f_Port_clear_b FU p (nI 0) (sI (sI (sI M p 0 (nI 0)) p 2 (nI 0)) p 5 (nI 0)) = some M1 := e1
  exact e1
theorem M_tells (M : Mm) : ∃ M', f_M_tellsNothing m M = some M' ∧ FX (fun a _ => prD m a) M M' ∧ isQr M' m q0 := by
  obtain ⟨M1, e1, f1, h1⟩ := lp_to (fun u i (N : Mm) => f_M_tellsNothing_b u m (nI i) N) 3 (fun i N => FX (fun a _ => prD m a) M N ∧ ∀ k, k < i → gI N (m + 3) k = nI 0) (fun N => f_M_tellsNothing_c FU m (nI 0) N) (fun u i N hi hI => by
      refine ⟨sI N (m + 3) i (nI 0), ?_, hI.1.sI (by unfold prD; omega), fun k hk => ?_⟩
      · simp (disch := omega) only [f_M_tellsNothing_b, bI_s, bV_s, bL_s, bR_s, bG_s, bG_n, bX_l, bX_r, ck_nI, nI_clamp, nI_leT, nI_leF, nI_ltT, nI_ltF, nI_eqF, nI_add, pk_mul, ofN, bt_e, or0, Nat.zero_add, Nat.add_zero, ↓reduceIte, if_true, if_false, Bool.false_eq_true, eq_self, li0, li1, li2, li3, li4, li5, li6, li7, li8, li9, li10, li11, li12, li14, li15, li16, li18, li19, li20, li23, li24, li25, li26, li27, li30, li31, li32, li36, li40, li41, li42, li43, li44, li45, li47, li48, li57, li59, li60, li91, li93, li96, li97, li100, li105, li122, li150, li200, li255, li400, li500, li600, li999, li1000, li1001, li2000, li2001, li2002, li2003, li2004, li2005, li2006, li32767, li100000, li_neg, li13, li17, li21, li22, li28, li29, li33, li34, li35, li37, li38, li39, li46, li49, li50, li51, li52, li53, li63, li80, li115, li160]
      · by_cases c : k = i
        · rw [c, gI_same]
        · rw [gI_ne (by omega)]; exact hI.2 k (by omega))
    (fun u N hI => by simp (disch := omega) only [f_M_tellsNothing_b, bI_s, bV_s, bL_s, bR_s, bG_s, bG_n, bX_l, bX_r, ck_nI, nI_clamp, nI_leT, nI_leF, nI_ltT, nI_ltF, nI_eqF, nI_add, pk_mul, ofN, bt_e, or0, Nat.zero_add, Nat.add_zero, ↓reduceIte, if_true, if_false, Bool.false_eq_true, eq_self, li0, li1, li2, li3, li4, li5, li6, li7, li8, li9, li10, li11, li12, li14, li15, li16, li18, li19, li20, li23, li24, li25, li26, li27, li30, li31, li32, li36, li40, li41, li42, li43, li44, li45, li47, li48, li57, li59, li60, li91, li93, li96, li97, li100, li105, li122, li150, li200, li255, li400, li500, li600, li999, li1000, li1001, li2000, li2001, li2002, li2003, li2004, li2005, li2006, li32767, li100000, li_neg, li13, li17, li21, li22, li28, li29, li33, li34, li35, li37, li38, li39, li46, li49, li50, li51, li52, li53, li63, li80, li115, li160]) M ⟨FX.rf _ M, fun k hk => by omega⟩ FU (FU_lt (by omega))
  obtain ⟨M2, e2, f2, h2⟩ := lp_to (fun u i (N : Mm) => f_M_tellsNothing_c u m (nI i) N) 10 (fun i N => FX (fun a _ => a = m + 7) M1 N ∧ ∀ k, k < i → gI N (m + 7) k = nI 4294967295) (fun N => f_M_tellsNothing_d FU m (nI 0) N) (fun u i N hi hI => by
      refine ⟨sI N (m + 7) i (nI 4294967295), ?_, hI.1.sI rfl, fun k hk => ?_⟩
      · simp (disch := omega) only [f_M_tellsNothing_c, bI_s, bV_s, bL_s, bR_s, bG_s, bG_n, bX_l, bX_r, ck_nI, nI_clamp, nI_leT, nI_leF, nI_ltT, nI_ltF, nI_eqF, nI_add, pk_mul, ofN, bt_e, or0, Nat.zero_add, Nat.add_zero, ↓reduceIte, if_true, if_false, Bool.false_eq_true, eq_self, li0, li1, li2, li3, li4, li5, li6, li7, li8, li9, li10, li11, li12, li14, li15, li16, li18, li19, li20, li23, li24, li25, li26, li27, li30, li31, li32, li36, li40, li41, li42, li43, li44, li45, li47, li48, li57, li59, li60, li91, li93, li96, li97, li100, li105, li122, li150, li200, li255, li400, li500, li600, li999, li1000, li1001, li2000, li2001, li2002, li2003, li2004, li2005, li2006, li32767, li100000, li_neg, li13, li17, li21, li22, li28, li29, li33, li34, li35, li37, li38, li39, li46, li49, li50, li51, li52, li53, li63, li80, li115, li160]
      · by_cases c : k = i
        · rw [c, gI_same]
        · rw [gI_ne (by omega)]; exact hI.2 k (by omega))
    (fun u N hI => by simp (disch := omega) only [f_M_tellsNothing_c, bI_s, bV_s, bL_s, bR_s, bG_s, bG_n, bX_l, bX_r, ck_nI, nI_clamp, nI_leT, nI_leF, nI_ltT, nI_ltF, nI_eqF, nI_add, pk_mul, ofN, bt_e, or0, Nat.zero_add, Nat.add_zero, ↓reduceIte, if_true, if_false, Bool.false_eq_true, eq_self, li0, li1, li2, li3, li4, li5, li6, li7, li8, li9, li10, li11, li12, li14, li15, li16, li18, li19, li20, li23, li24, li25, li26, li27, li30, li31, li32, li36, li40, li41, li42, li43, li44, li45, li47, li48, li57, li59, li60, li91, li93, li96, li97, li100, li105, li122, li150, li200, li255, li400, li500, li600, li999, li1000, li1001, li2000, li2001, li2002, li2003, li2004, li2005, li2006, li32767, li100000, li_neg, li13, li17, li21, li22, li28, li29, li33, li34, li35, li37, li38, li39, li46, li49, li50, li51, li52, li53, li63, li80, li115, li160]) M1 ⟨FX.rf _ M1, fun k hk => by omega⟩ FU (FU_lt (by omega))
  obtain ⟨M3, e3, f3, h3⟩ := lp_to (fun u i (N : Mm) => f_M_tellsNothing_d u m (nI i) N) 6 (fun i N => FX (fun a _ => a = m + 9) M2 N ∧ ∀ k, k < i → gI N (m + 9) k = nI 0) (fun N => some N) (fun u i N hi hI => by
      refine ⟨sI N (m + 9) i (nI 0), ?_, hI.1.sI rfl, fun k hk => ?_⟩
      · simp (disch := omega) only [f_M_tellsNothing_d, bI_s, bV_s, bL_s, bR_s, bG_s, bG_n, bX_l, bX_r, ck_nI, nI_clamp, nI_leT, nI_leF, nI_ltT, nI_ltF, nI_eqF, nI_add, pk_mul, ofN, bt_e, or0, Nat.zero_add, Nat.add_zero, ↓reduceIte, if_true, if_false, Bool.false_eq_true, eq_self, li0, li1, li2, li3, li4, li5, li6, li7, li8, li9, li10, li11, li12, li14, li15, li16, li18, li19, li20, li23, li24, li25, li26, li27, li30, li31, li32, li36, li40, li41, li42, li43, li44, li45, li47, li48, li57, li59, li60, li91, li93, li96, li97, li100, li105, li122, li150, li200, li255, li400, li500, li600, li999, li1000, li1001, li2000, li2001, li2002, li2003, li2004, li2005, li2006, li32767, li100000, li_neg, li13, li17, li21, li22, li28, li29, li33, li34, li35, li37, li38, li39, li46, li49, li50, li51, li52, li53, li63, li80, li115, li160]
      · by_cases c : k = i
        · rw [c, gI_same]
        · rw [gI_ne (by omega)]; exact hI.2 k (by omega))
    (fun u N hI => by simp (disch := omega) only [f_M_tellsNothing_d, bI_s, bV_s, bL_s, bR_s, bG_s, bG_n, bX_l, bX_r, ck_nI, nI_clamp, nI_leT, nI_leF, nI_ltT, nI_ltF, nI_eqF, nI_add, pk_mul, ofN, bt_e, or0, Nat.zero_add, Nat.add_zero, ↓reduceIte, if_true, if_false, Bool.false_eq_true, eq_self, li0, li1, li2, li3, li4, li5, li6, li7, li8, li9, li10, li11, li12, li14, li15, li16, li18, li19, li20, li23, li24, li25, li26, li27, li30, li31, li32, li36, li40, li41, li42, li43, li44, li45, li47, li48, li57, li59, li60, li91, li93, li96, li97, li100, li105, li122, li150, li200, li255, li400, li500, li600, li999, li1000, li1001, li2000, li2001, li2002, li2003, li2004, li2005, li2006, li32767, li100000, li_neg, li13, li17, li21, li22, li28, li29, li33, li34, li35, li37, li38, li39, li46, li49, li50, li51, li52, li53, li63, li80, li115, li160]) M2 ⟨FX.rf _ M2, fun k hk => by omega⟩ FU (FU_lt (by omega))
  have e : f_M_tellsNothing m M = some M3 := (e1.trans e2).trans e3
  have g3 : ∀ k, k < 3 → gI M3 (m + 3) k = nI 0 := fun k hk => by rw [f3.2.1 _ _ (by omega), f2.2.1 _ _ (by omega)]; exact h1 k hk
  refine ⟨M3, e, (f1.trans (f2.mono (fun a _ q => by unfold prD; omega))).trans (f3.mono (fun a _ q => by unfold prD; omega)), ⟨g3 0 (by omega), g3 1 (by omega), g3 2 (by omega)⟩, fun k hk => by rw [q0_0] at hk; omega, fun k hk => by rw [q0_0] at hk; omega, fun k hk => by rw [q0_0] at hk; omega, fun k hk => ?_, fun k hk => ?_⟩
  · rw [h3 k hk, q0_0, if_neg (by omega)]
  · rw [f3.2.1 _ _ (by omega), h2 k hk, q0_7]
/-- the wall at the beginning -/
def wB (P : TT) : TT := fun i k => if i = 5 then P 2 k else if i = 7 then P 5 k else 0
theorem wB_0 (k : Nat) : wB P 0 k = 0 := rfl
theorem wB_5 (k : Nat) : wB P 5 k = P 2 k := rfl
theorem wB_6 (k : Nat) : wB P 6 k = 0 := rfl
theorem wB_7 (k : Nat) : wB P 7 k = P 5 k := rfl
theorem okwB (oP : okP P) : okD P (wB P) := by
  refine ⟨⟨by rw [wB_0]; omega, fun k hk => by rw [wB_0] at hk; omega, fun k hk => ?_, fun k hk => ?_, fun r hr => ?_⟩, by rw [wB_0]; omega⟩
  · rw [wB_5]; exact oP.act hk
  · rw [wB_7]; exact (oP.chk hk).2
  · unfold ltr; rw [wB_0]; exact Nat.zero_le _
theorem C_begin (hP : isP M p P) (oP : okP P) (hd : p + 8 ≤ w ∨ w + 8 ≤ p) : ∃ M', f_Wall_begin w p M = some M' ∧ Fr (rg w 8) M M' ∧ isW M' w P (wB P) := by
  have hb := oP.b
  obtain ⟨M1, e1, f1, h1, h2⟩ := lp_to (fun u i (N : Mm) => f_Wall_begin_b u w p (nI i) N) (P 0 2) (fun i N => Fr (rg w 8) M N ∧ (gI N w 0 = nI 0 ∧ gI N w 1 = nI 0) ∧ ∀ k, k < i → gI N (w + 5) k = nI (P 2 k) ∧ gI N (w + 6) k = nI 0) (fun N => bV (f_Wall_whiten w p N) (fun M1 => some M1)) (fun u i N hi hI => by
      have hP1 := hP.fr hI.1 (fun x h1 h2 q => by unfold rg at q; omega)
      have g1 := hP1.b
      have g2 := hP1.act hi
      refine ⟨sI (sI N (w + 5) i (nI (P 2 i))) (w + 6) i (nI 0), ?_, (hI.1.sI (by unfold rg; omega)).sI (by unfold rg; omega), ⟨?_, ?_⟩, fun k hk => ?_⟩
      · simp (disch := omega) only [f_Wall_begin_b, g1, g2, bI_s, bV_s, bL_s, bR_s, bG_s, bG_n, bX_l, bX_r, ck_nI, nI_clamp, nI_leT, nI_leF, nI_ltT, nI_ltF, nI_eqF, nI_add, pk_mul, ofN, bt_e, or0, Nat.zero_add, Nat.add_zero, ↓reduceIte, if_true, if_false, Bool.false_eq_true, eq_self, li0, li1, li2, li3, li4, li5, li6, li7, li8, li9, li10, li11, li12, li14, li15, li16, li18, li19, li20, li23, li24, li25, li26, li27, li30, li31, li32, li36, li40, li41, li42, li43, li44, li45, li47, li48, li57, li59, li60, li91, li93, li96, li97, li100, li105, li122, li150, li200, li255, li400, li500, li600, li999, li1000, li1001, li2000, li2001, li2002, li2003, li2004, li2005, li2006, li32767, li100000, li_neg, li13, li17, li21, li22, li28, li29, li33, li34, li35, li37, li38, li39, li46, li49, li50, li51, li52, li53, li63, li80, li115, li160]
      · rw [gI_ne (by omega), gI_ne (by omega)]; exact hI.2.1.1
      · rw [gI_ne (by omega), gI_ne (by omega)]; exact hI.2.1.2
      · by_cases c : k = i
        · rw [c, gI_same, gI_ne (by omega), gI_same]; exact ⟨rfl, rfl⟩
        · rw [gI_ne (by omega), gI_ne (by omega), gI_ne (by omega), gI_ne (by omega)]; exact hI.2.2 k (by omega))
    (fun u N hI => by
      have hP1 := hP.fr hI.1 (fun x h1 h2 q => by unfold rg at q; omega)
      have g1 := hP1.b
      simp (disch := omega) only [f_Wall_begin_b, g1, bI_s, bV_s, bL_s, bR_s, bG_s, bG_n, bX_l, bX_r, ck_nI, nI_clamp, nI_leT, nI_leF, nI_ltT, nI_ltF, nI_eqF, nI_add, pk_mul, ofN, bt_e, or0, Nat.zero_add, Nat.add_zero, ↓reduceIte, if_true, if_false, Bool.false_eq_true, eq_self, li0, li1, li2, li3, li4, li5, li6, li7, li8, li9, li10, li11, li12, li14, li15, li16, li18, li19, li20, li23, li24, li25, li26, li27, li30, li31, li32, li36, li40, li41, li42, li43, li44, li45, li47, li48, li57, li59, li60, li91, li93, li96, li97, li100, li105, li122, li150, li200, li255, li400, li500, li600, li999, li1000, li1001, li2000, li2001, li2002, li2003, li2004, li2005, li2006, li32767, li100000, li_neg, li13, li17, li21, li22, li28, li29, li33, li34, li35, li37, li38, li39, li46, li49, li50, li51, li52, li53, li63, li80, li115, li160])
    (sI (sI M w 0 (nI 0)) w 1 (nI 0)) ⟨((Fr.rf _ M).sI (by unfold rg; omega)).sI (by unfold rg; omega), ⟨by simp (disch := omega) only [gI_same, gI_ne, gI_eq2, gR_sI, gL_sI, gI_sL, gR_sL, gI_sR, gL_sR], by simp (disch := omega) only [gI_same, gI_ne, gI_eq2, gR_sI, gL_sI, gI_sL, gR_sL, gI_sR, gL_sR]⟩, fun k hk => by omega⟩ FU (FU_lt (by omega))
  have hP1 := hP.fr f1 (fun x h1 h2 q => by unfold rg at q; omega)
  obtain ⟨M2, e2, ⟨k1, k2⟩, k3, f2⟩ := C_whiten hP1 oP hd
  refine ⟨M2, ?_, f1.trans f2, ⟨?_, ?_, ?_⟩, fun k hk => by rw [wB_0] at hk; omega, fun k hk => ⟨?_, ?_⟩, fun k hk => ?_⟩
  · have e1 : f_Wall_begin w p M = bV (f_Wall_whiten w p M1) (fun M1 => some M1) := e1
    rw [e1, e2, bV_s]
  · rw [k3 _ _ (by omega) (by omega)]; exact h1.1
  · rw [k3 _ _ (by omega) (by omega)]; exact h1.2
  · exact k1
  · rw [k3 _ _ (by omega) (by omega)]; exact (h2 k hk).1
  · rw [k3 _ _ (by omega) (by omega)]; exact (h2 k hk).2
  · exact k2 k hk
theorem C_plain (M : Mm) {l : Nat} : ∃ M', f_Law_becomePlain l M = some M' ∧ FX (fun a _ => l ≤ a ∧ a < l + 3) M M' ∧ isL M' l 5 pL := by
  refine ⟨sI (sI (sI (sI (sI (sI (sI (sI (sI (sI (sI M l 2 (nI 0)) (l + 1) 0 (nI 1000)) l 2 (nI 1)) (l + 1) 1 (nI 10)) l 2 (nI 2)) (l + 1) 2 (nI 2002)) l 2 (nI 3)) (l + 1) 3 (nI 1001)) l 2 (nI 4)) (l + 1) 4 (nI 2000)) l 2 (nI 5), ?_, ?_, gI_same .., fun k hk => ?_⟩
  · have o6 : Int32.ofNat 150 = nI 150 := rfl
    simp (disch := omega) only [f_Law_becomePlain, f_Law_put, o6, bI_s, bV_s, bL_s, bR_s, bG_s, bG_n, bX_l, bX_r, ck_nI, nI_clamp, nI_leT, nI_leF, nI_ltT, nI_ltF, nI_eqF, nI_add, pk_mul, ofN, bt_e, or0, Nat.zero_add, Nat.add_zero, ↓reduceIte, if_true, if_false, Bool.false_eq_true, eq_self, li0, li1, li2, li3, li4, li5, li6, li7, li8, li9, li10, li11, li12, li14, li15, li16, li18, li19, li20, li23, li24, li25, li26, li27, li30, li31, li32, li36, li40, li41, li42, li43, li44, li45, li47, li48, li57, li59, li60, li91, li93, li96, li97, li100, li105, li122, li150, li200, li255, li400, li500, li600, li999, li1000, li1001, li2000, li2001, li2002, li2003, li2004, li2005, li2006, li32767, li100000, li_neg, li13, li17, li21, li22, li28, li29, li33, li34, li35, li37, li38, li39, li46, li49, li50, li51, li52, li53, li63, li80, li115, li160, gI_same, gI_ne, gI_eq2, gR_sI, gL_sI, gI_sL, gR_sL, gI_sR, gL_sR]
  · refine ((((((((((((FX.rf _ M).sI ?_).sI ?_).sI ?_).sI ?_).sI ?_).sI ?_).sI ?_).sI ?_).sI ?_).sI ?_).sI ?_) <;> omega
  · obtain rfl | rfl | rfl | rfl | rfl : k = 0 ∨ k = 1 ∨ k = 2 ∨ k = 3 ∨ k = 4 := by omega
    all_goals simp (disch := omega) only [gI_same, gI_ne, gI_eq2, gR_sI, gL_sI, gI_sL, gR_sL, gI_sR, gL_sR]; rfl
end
