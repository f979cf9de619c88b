/-! # functional level, 8: rain of the model, nights, copies -/
section
variable {M : Mm} {p m o a : Nat} {P W : TT}
theorem M_rains_in (kb : Nat → Nat → Int32 → Int32 → Int32 → Mm → Option (Int32 × Mm)) (h : isN M a P W) (hL : W 0 2 ≤ 20) {lo : Int32} {l i : Nat} (hl : l < W 0 2) (hi : i < W 0 2) (u : Nat) : f_M_rains_c kb (u + 5) a 105 lo (nI l) (nI i) (nI 0) M = kb a 105 lo (nI (l + 1)) (nI (i + 1)) (sI (sI (sI (sI M a (25 + 4 * l) (nI (W 1 i))) a (25 + 4 * l + 1) (nI (W 2 i))) a (25 + 4 * l + 2) (nI (W 3 i))) a (25 + 4 * l + 3) (nI (W 4 i))) := by
  simp (disch := omega) only [f_M_rains_c, f_M_lineOf, h.b hi, h.ac hi, h.r hi, h.w hi, bI_s, bV_s, bL_s, bR_s, bG_s, bG_n, bX_l, bX_r, ck_nI, nI_clamp, nI_leT, nI_leF, nI_ltT, nI_ltF, nI_eqF, nI_add, pk_mul, ofN, bt_e, or0, Nat.zero_add, Nat.add_zero, ↓reduceIte, if_true, if_false, Bool.false_eq_true, eq_self, li0, li1, li2, li3, li4, li5, li6, li7, li8, li9, li10, li11, li12, li14, li15, li16, li18, li19, li20, li23, li24, li25, li26, li27, li30, li31, li32, li36, li40, li41, li42, li43, li44, li45, li47, li48, li57, li59, li60, li91, li93, li96, li97, li100, li105, li122, li150, li200, li255, li400, li500, li600, li999, li1000, li1001, li2000, li2001, li2002, li2003, li2004, li2005, li2006, li32767, li100000, li_neg, li13, li17, li21, li22, li28, li29, li33, li34, li35, li37, li38, li39, li46, li49, li50, li51, li52, li53, li63, li80, li115, li160, gI_same, gI_ne, gI_eq2, gR_sI, gL_sI, gI_sL, gR_sL, gI_sR, gL_sR]
theorem M_rains (oP : okP P) (hN : isN M a P W) (oW : okW P W) {lo : Nat} (hlo : lo < 2 ^ 31) : ∃ M', f_M_rains a 105 (nI lo) M = some (nI (rainy W lo), M') ∧ isN M' a P (wRn W lo) ∧ Fr (fun x => x = a) M M' := by
  have hl := oW.l
  have hR := oP.r
  have key := lp_inv (R := Int32 × Mm) (fun u i (s : Nat × Mm) => f_M_rains_b u a 105 (nI lo) (nI s.1) (nI i) s.2) (W 0 2) (fun i s => s.1 = (rF W lo i).1 ∧ isN s.2 a P (rF W lo i).2 ∧ Fr (fun x => x = a) M s.2) (fun r => r.1 = nI (rainy W lo) ∧ isN r.2 a P (wRn W lo) ∧ Fr (fun x => x = a) M r.2) (fun u i s hi hI => ?_) (fun u s hI => ?_) 0 (by omega) (0, M) ⟨rfl, hN, Fr.rf _ _⟩ FU (FU_lt (by omega))
  · obtain ⟨⟨z, M'⟩, e, e1, e2, e3⟩ := key
    exact ⟨M', by rw [← e1]; exact e, e2, e3⟩
  · obtain ⟨l, N⟩ := s
    obtain ⟨e, h1, h2⟩ := hI
    dsimp only at e h1 h2 ⊢
    subst e
    obtain ⟨⟨q1, q2⟩, q3, q4, q5⟩ := rF_inv oW lo i (by omega)
    have q6 := q4 i hi
    have el : (rF W lo i).2 0 2 = W 0 2 := q3 0 2 (by omega)
    have hl2 := h1.l
    rw [el] at hl2
    refine Or.inl ?_
    have e : rF W lo (i + 1) = rS lo i (rF W lo i) := rfl
    rw [e]
    unfold rS
    have hi' : i < (rF W lo i).2 0 2 := by omega
    by_cases c : (rF W lo i).2 3 i < lo
    · rw [if_pos c]
      refine ⟨((rF W lo i).1, N), ?_, rfl, h1, h2⟩
      simp (disch := omega) only [f_M_rains_b, f_M_lineOf, hl2, h1.r hi', c, bI_s, bV_s, bL_s, bR_s, bG_s, bG_n, bX_l, bX_r, ck_nI, nI_clamp, nI_leT, nI_leF, nI_ltT, nI_ltF, nI_eqF, nI_add, pk_mul, ofN, bt_e, or0, Nat.zero_add, Nat.add_zero, ↓reduceIte, if_true, if_false, Bool.false_eq_true, eq_self, li0, li1, li2, li3, li4, li5, li6, li7, li8, li9, li10, li11, li12, li14, li15, li16, li18, li19, li20, li23, li24, li25, li26, li27, li30, li31, li32, li36, li40, li41, li42, li43, li44, li45, li47, li48, li57, li59, li60, li91, li93, li96, li97, li100, li105, li122, li150, li200, li255, li400, li500, li600, li999, li1000, li1001, li2000, li2001, li2002, li2003, li2004, li2005, li2006, li32767, li100000, li_neg, li13, li17, li21, li22, li28, li29, li33, li34, li35, li37, li38, li39, li46, li49, li50, li51, li52, li53, li63, li80, li115, li160, gI_same, gI_ne, gI_eq2, gR_sI, gL_sI, gI_sL, gR_sL, gI_sR, gL_sR]
    · rw [if_neg c]
      refine ⟨((rF W lo i).1 + 1, sI (sI (sI (sI N a (25 + 4 * (rF W lo i).1) (nI ((rF W lo i).2 1 i))) a (25 + 4 * (rF W lo i).1 + 1) (nI ((rF W lo i).2 2 i))) a (25 + 4 * (rF W lo i).1 + 2) (nI ((rF W lo i).2 3 i))) a (25 + 4 * (rF W lo i).1 + 3) (nI ((rF W lo i).2 4 i))), ?_, rfl, ?_, ?_⟩
      · simp (disch := omega) only [f_M_rains_b, f_M_lineOf, hl2, h1.r hi', c, bI_s, bV_s, bL_s, bR_s, bG_s, bG_n, bX_l, bX_r, ck_nI, nI_clamp, nI_leT, nI_leF, nI_ltT, nI_ltF, nI_eqF, nI_add, pk_mul, ofN, bt_e, or0, Nat.zero_add, Nat.add_zero, ↓reduceIte, if_true, if_false, Bool.false_eq_true, eq_self, li0, li1, li2, li3, li4, li5, li6, li7, li8, li9, li10, li11, li12, li14, li15, li16, li18, li19, li20, li23, li24, li25, li26, li27, li30, li31, li32, li36, li40, li41, li42, li43, li44, li45, li47, li48, li57, li59, li60, li91, li93, li96, li97, li100, li105, li122, li150, li200, li255, li400, li500, li600, li999, li1000, li1001, li2000, li2001, li2002, li2003, li2004, li2005, li2006, li32767, li100000, li_neg, li13, li17, li21, li22, li28, li29, li33, li34, li35, li37, li38, li39, li46, li49, li50, li51, li52, li53, li63, li80, li115, li160, gI_same, gI_ne, gI_eq2, gR_sI, gL_sI, gI_sL, gR_sL, gI_sR, gL_sR]
        exact M_rains_in _ h1 (by omega) (by omega) hi' 9995
      · exact h1.cL oP (by omega) hi'
      · exact (((h2.sI rfl).sI rfl).sI rfl).sI rfl
  · obtain ⟨l, N⟩ := s
    obtain ⟨e, h1, h2⟩ := hI
    dsimp only at e h1 h2 ⊢
    subst e
    obtain ⟨⟨q1, q2⟩, q3, q4, q5⟩ := rF_inv oW lo (W 0 2) (by omega)
    have el : (rF W lo (W 0 2)).2 0 2 = W 0 2 := q3 0 2 (by omega)
    have hl2 := h1.l
    rw [el] at hl2
    refine ⟨(nI (rainy W lo), sI N a 23 (nI (rF W lo (W 0 2)).1)), ?_, rfl, h1.setl oP (by omega), h2.sI rfl⟩
    unfold rainy
    by_cases c : (rF W lo (W 0 2)).1 < W 0 2
    · simp (disch := omega) only [f_M_rains_b, hl2, c, bI_s, bV_s, bL_s, bR_s, bG_s, bG_n, bX_l, bX_r, ck_nI, nI_clamp, nI_leT, nI_leF, nI_ltT, nI_ltF, nI_eqF, nI_add, pk_mul, ofN, bt_e, or0, Nat.zero_add, Nat.add_zero, ↓reduceIte, if_true, if_false, Bool.false_eq_true, eq_self, li0, li1, li2, li3, li4, li5, li6, li7, li8, li9, li10, li11, li12, li14, li15, li16, li18, li19, li20, li23, li24, li25, li26, li27, li30, li31, li32, li36, li40, li41, li42, li43, li44, li45, li47, li48, li57, li59, li60, li91, li93, li96, li97, li100, li105, li122, li150, li200, li255, li400, li500, li600, li999, li1000, li1001, li2000, li2001, li2002, li2003, li2004, li2005, li2006, li32767, li100000, li_neg, li13, li17, li21, li22, li28, li29, li33, li34, li35, li37, li38, li39, li46, li49, li50, li51, li52, li53, li63, li80, li115, li160, gI_same, gI_ne, gI_eq2, gR_sI, gL_sI, gI_sL, gR_sL, gI_sR, gL_sR]
    · simp (disch := omega) only [f_M_rains_b, hl2, c, bI_s, bV_s, bL_s, bR_s, bG_s, bG_n, bX_l, bX_r, ck_nI, nI_clamp, nI_leT, nI_leF, nI_ltT, nI_ltF, nI_eqF, nI_add, pk_mul, ofN, bt_e, or0, Nat.zero_add, Nat.add_zero, ↓reduceIte, if_true, if_false, Bool.false_eq_true, eq_self, li0, li1, li2, li3, li4, li5, li6, li7, li8, li9, li10, li11, li12, li14, li15, li16, li18, li19, li20, li23, li24, li25, li26, li27, li30, li31, li32, li36, li40, li41, li42, li43, li44, li45, li47, li48, li57, li59, li60, li91, li93, li96, li97, li100, li105, li122, li150, li200, li255, li400, li500, li600, li999, li1000, li1001, li2000, li2001, li2002, li2003, li2004, li2005, li2006, li32767, li100000, li_neg, li13, li17, li21, li22, li28, li29, li33, li34, li35, li37, li38, li39, li46, li49, li50, li51, li52, li53, li63, li80, li115, li160, gI_same, gI_ne, gI_eq2, gR_sI, gL_sI, gI_sL, gR_sL, gI_sR, gL_sR]
/-! chalk and nights -/
theorem C_whiten (hP : isP M p P) (oP : okP P) (hd : p + 8 ≤ o ∨ o + 8 ≤ p) : ∃ M', f_Wall_whiten o p M = some M' ∧ (gI M' o 2 = nI 0 ∧ ∀ k, k < P 0 5 → gI M' (o + 7) k = nI (P 5 k)) ∧ (∀ x j, x ≠ o + 7 → (x ≠ o ∨ j ≠ 2) → gI M' x j = gI M x j) ∧ Fr (rg o 8) M M' := by
  have h1 := oP.w
  have key := lp_inv (R := Mm) (fun u i (s : Mm) => f_Wall_whiten_b u o p (nI i) s) (P 0 5) (fun i s => (gI s o 2 = nI 0 ∧ ∀ k, k < i → gI s (o + 7) k = nI (P 5 k)) ∧ (∀ x j, x ≠ o + 7 → (x ≠ o ∨ j ≠ 2) → gI s x j = gI M x j) ∧ Fr (rg o 8) M s) (fun s => (gI s o 2 = nI 0 ∧ ∀ k, k < P 0 5 → gI s (o + 7) k = nI (P 5 k)) ∧ (∀ x j, x ≠ o + 7 → (x ≠ o ∨ j ≠ 2) → gI s x j = gI M x j) ∧ Fr (rg o 8) M s) (fun u i s hi hI => ?_) (fun u s hI => ?_) 0 (by omega) (sI M o 2 (nI 0)) ⟨⟨gI_same .., fun k hk => by omega⟩, fun x j h1 h2 => gI_ne h2, (Fr.rf _ _).sI ⟨by omega, by omega⟩⟩ FU (FU_lt (by omega))
  · exact key
  · obtain ⟨⟨h2, h3⟩, h4, h5⟩ := hI
    refine Or.inl ⟨sI s (o + 7) i (nI (P 5 i)), ?_, ⟨?_, fun k hk => ?_⟩, fun x j hx hj => ?_, h5.sI ⟨by omega, by omega⟩⟩
    · have hc := hP.chk hi
      rw [← h4 _ _ (by omega) (by omega)] at hc
      have hw := hP.w
      rw [← h4 _ _ (by omega) (by omega)] at hw
      simp (disch := omega) only [f_Wall_whiten_b, hc, hw, bI_s, bV_s, bL_s, bR_s, bG_s, bG_n, bX_l, bX_r, ck_nI, nI_clamp, nI_leT, nI_leF, nI_ltT, nI_ltF, nI_eqF, nI_add, pk_mul, ofN, bt_e, or0, Nat.zero_add, Nat.add_zero, ↓reduceIte, if_true, if_false, Bool.false_eq_true, eq_self, li0, li1, li2, li3, li4, li5, li6, li7, li8, li9, li10, li11, li12, li14, li15, li16, li18, li19, li20, li23, li24, li25, li26, li27, li30, li31, li32, li36, li40, li41, li42, li43, li44, li45, li47, li48, li57, li59, li60, li91, li93, li96, li97, li100, li105, li122, li150, li200, li255, li400, li500, li600, li999, li1000, li1001, li2000, li2001, li2002, li2003, li2004, li2005, li2006, li32767, li100000, li_neg, li13, li17, li21, li22, li28, li29, li33, li34, li35, li37, li38, li39, li46, li49, li50, li51, li52, li53, li63, li80, li115, li160]
    · rw [gI_ne (by omega)]; exact h2
    · by_cases c : k = i
      · subst c; exact gI_same ..
      · rw [gI_ne (by omega)]; exact h3 k (by omega)
    · rw [gI_ne (by omega)]; exact h4 x j hx hj
  · obtain ⟨⟨h2, h3⟩, h4, h5⟩ := hI
    refine ⟨s, ?_, ⟨h2, h3⟩, h4, h5⟩
    have hw := hP.w
    rw [← h4 _ _ (by omega) (by omega)] at hw
    simp (disch := omega) only [f_Wall_whiten_b, hw, bI_s, bV_s, bL_s, bR_s, bG_s, bG_n, bX_l, bX_r, ck_nI, nI_clamp, nI_leT, nI_leF, nI_ltT, nI_ltF, nI_eqF, nI_add, pk_mul, ofN, bt_e, or0, Nat.zero_add, Nat.add_zero, ↓reduceIte, if_true, if_false, Bool.false_eq_true, eq_self, li0, li1, li2, li3, li4, li5, li6, li7, li8, li9, li10, li11, li12, li14, li15, li16, li18, li19, li20, li23, li24, li25, li26, li27, li30, li31, li32, li36, li40, li41, li42, li43, li44, li45, li47, li48, li57, li59, li60, li91, li93, li96, li97, li100, li105, li122, li150, li200, li255, li400, li500, li600, li999, li1000, li1001, li2000, li2001, li2002, li2003, li2004, li2005, li2006, li32767, li100000, li_neg, li13, li17, li21, li22, li28, li29, li33, li34, li35, li37, li38, li39, li46, li49, li50, li51, li52, li53, li63, li80, li115, li160]
theorem M_fills (hQ : isQ M m P) (oP : okP P) (ha : ¬ qrg m a) : ∃ M', f_M_fills m a 105 M = some M' ∧ (∀ k, k < P 0 5 → gI M' a (16 + k) = nI (P 5 k)) ∧ (∀ x j, x ≠ a ∨ j < 16 ∨ 22 ≤ j → gI M' x j = gI M x j) ∧ Fr (fun x => x = a) M M' := by
  have h1 := oP.w
  have n1 : m + 4 ≠ a := fun z => ha (Or.inl (Or.inl z.symm))
  have key := lp_inv (R := Mm) (fun u i (s : Mm) => f_M_fills_b u m a 105 (nI i) s) (P 0 5) (fun i s => (∀ k, k < i → gI s a (16 + k) = nI (P 5 k)) ∧ (∀ x j, x ≠ a ∨ j < 16 ∨ 22 ≤ j → gI s x j = gI M x j) ∧ Fr (fun x => x = a) M s) (fun s => (∀ k, k < P 0 5 → gI s a (16 + k) = nI (P 5 k)) ∧ (∀ x j, x ≠ a ∨ j < 16 ∨ 22 ≤ j → gI s x j = gI M x j) ∧ Fr (fun x => x = a) M s) (fun u i s hi hI => ?_) (fun u s hI => ?_) 0 (by omega) M ⟨fun k hk => by omega, fun x j h => rfl, Fr.rf _ _⟩ FU (FU_lt (by omega))
  · exact key
  · obtain ⟨h3, h4, h5⟩ := hI
    have n2 : m + 36 + 1 + i ≠ a := fun z => ha (Or.inr (Or.inr (Or.inr (by omega))))
    refine Or.inl ⟨sI s a (16 + i) (nI (P 5 i)), ?_, fun k hk => ?_, fun x j hx => ?_, h5.sI rfl⟩
    · have hc := hQ.chk hi
      rw [← h4 _ _ (by omega)] at hc
      have hw := hQ.w
      rw [← h4 _ _ (by omega)] at hw
      simp (disch := omega) only [f_M_fills_b, hc, hw, bI_s, bV_s, bL_s, bR_s, bG_s, bG_n, bX_l, bX_r, ck_nI, nI_clamp, nI_leT, nI_leF, nI_ltT, nI_ltF, nI_eqF, nI_add, pk_mul, ofN, bt_e, or0, Nat.zero_add, Nat.add_zero, ↓reduceIte, if_true, if_false, Bool.false_eq_true, eq_self, li0, li1, li2, li3, li4, li5, li6, li7, li8, li9, li10, li11, li12, li14, li15, li16, li18, li19, li20, li23, li24, li25, li26, li27, li30, li31, li32, li36, li40, li41, li42, li43, li44, li45, li47, li48, li57, li59, li60, li91, li93, li96, li97, li100, li105, li122, li150, li200, li255, li400, li500, li600, li999, li1000, li1001, li2000, li2001, li2002, li2003, li2004, li2005, li2006, li32767, li100000, li_neg, li13, li17, li21, li22, li28, li29, li33, li34, li35, li37, li38, li39, li46, li49, li50, li51, li52, li53, li63, li80, li115, li160]
    · by_cases c : k = i
      · subst c; exact gI_same ..
      · rw [gI_ne (by omega)]; exact h3 k (by omega)
    · rw [gI_ne (by omega)]; exact h4 x j hx
  · obtain ⟨h3, h4, h5⟩ := hI
    refine ⟨s, ?_, h3, h4, h5⟩
    have hw := hQ.w
    rw [← h4 _ _ (by omega)] at hw
    simp (disch := omega) only [f_M_fills_b, hw, bI_s, bV_s, bL_s, bR_s, bG_s, bG_n, bX_l, bX_r, ck_nI, nI_clamp, nI_leT, nI_leF, nI_ltT, nI_ltF, nI_eqF, nI_add, pk_mul, ofN, bt_e, or0, Nat.zero_add, Nat.add_zero, ↓reduceIte, if_true, if_false, Bool.false_eq_true, eq_self, li0, li1, li2, li3, li4, li5, li6, li7, li8, li9, li10, li11, li12, li14, li15, li16, li18, li19, li20, li23, li24, li25, li26, li27, li30, li31, li32, li36, li40, li41, li42, li43, li44, li45, li47, li48, li57, li59, li60, li91, li93, li96, li97, li100, li105, li122, li150, li200, li255, li400, li500, li600, li999, li1000, li1001, li2000, li2001, li2002, li2003, li2004, li2005, li2006, li32767, li100000, li_neg, li13, li17, li21, li22, li28, li29, li33, li34, li35, li37, li38, li39, li46, li49, li50, li51, li52, li53, li63, li80, li115, li160]
theorem wNt_c {k : Nat} (hk : k < P 0 5) : wNt P W 7 k = P 5 k := by
  simp (disch := omega) only [wNt, up_n]
  exact if_pos ⟨rfl, hk⟩
theorem wNt_o {j k : Nat} (h : j = 5 ∨ j = 6) : wNt P W j k = W j k := by
  simp (disch := omega) only [wNt, up_n]
  exact if_neg (by omega)
theorem wNt_0 : (wNt P W 0 0 = W 0 0 + 1 ∧ wNt P W 0 2 = 0) ∧ wNt P W 0 1 = W 0 1 := by
  refine ⟨⟨?_, ?_⟩, ?_⟩
  · simp (disch := omega) only [wNt, up_s]
  · simp (disch := omega) only [wNt, up_n, up_s]
  · simp (disch := omega) only [wNt, up_n]
    exact if_neg (by omega)
theorem C_turnDay (hP : isP M p P) (oP : okP P) (hW : isW M o P W) (hd : p + 8 ≤ o ∨ o + 8 ≤ p) : ∃ M', f_Wall_turnDay o p M = some M' ∧ isW M' o P (wNt P W) ∧ Fr (rg o 8) M M' := by
  obtain ⟨N, e, ⟨h1, h2⟩, h3, h4⟩ := C_whiten (o := o) hP oP hd
  obtain ⟨⟨z1, z2⟩, z3⟩ := wNt_0 (P := P) (W := W)
  refine ⟨sI N o 0 (nI (W 0 0 + 1)), ?_, ⟨⟨?_, ?_, ?_⟩, fun k hk => ?_, fun k hk => ⟨?_, ?_⟩, fun k hk => ?_⟩, h4.sI ⟨by omega, by omega⟩⟩
  · have hd0 := hW.d0
    rw [← h3 _ _ (by omega) (by omega)] at hd0
    simp (disch := omega) only [f_Wall_turnDay, e, hd0, bI_s, bV_s, bL_s, bR_s, bG_s, bG_n, bX_l, bX_r, ck_nI, nI_clamp, nI_leT, nI_leF, nI_ltT, nI_ltF, nI_eqF, nI_add, pk_mul, ofN, bt_e, or0, Nat.zero_add, Nat.add_zero, ↓reduceIte, if_true, if_false, Bool.false_eq_true, eq_self, li0, li1, li2, li3, li4, li5, li6, li7, li8, li9, li10, li11, li12, li14, li15, li16, li18, li19, li20, li23, li24, li25, li26, li27, li30, li31, li32, li36, li40, li41, li42, li43, li44, li45, li47, li48, li57, li59, li60, li91, li93, li96, li97, li100, li105, li122, li150, li200, li255, li400, li500, li600, li999, li1000, li1001, li2000, li2001, li2002, li2003, li2004, li2005, li2006, li32767, li100000, li_neg, li13, li17, li21, li22, li28, li29, li33, li34, li35, li37, li38, li39, li46, li49, li50, li51, li52, li53, li63, li80, li115, li160]
  · rw [z1]; exact gI_same ..
  · rw [z3, gI_ne (by omega), h3 _ _ (by omega) (by omega)]; exact hW.d1
  · rw [z2, gI_ne (by omega)]; exact h1
  · rw [z2] at hk; omega
  · rw [wNt_o (by omega), gI_ne (by omega), h3 _ _ (by omega) (by omega)]; exact hW.me hk
  · rw [wNt_o (by omega), gI_ne (by omega), h3 _ _ (by omega) (by omega)]; exact hW.s hk
  · rw [wNt_c hk, gI_ne (by omega)]; exact h2 k hk
theorem M_nightEnds (hQ : isQ M m P) (oP : okP P) (hN : isN M a P W) (ha : ¬ qrg m a) : ∃ M', f_M_nightEnds m a 105 M = some M' ∧ isN M' a P (wNt P W) ∧ Fr (fun x => x = a) M M' := by
  have f0 : Fr (fun x => x = a) M (sI (sI M a 23 (nI 0)) a 22 (nI (W 0 0 + 1))) := ((Fr.rf (fun x => x = a) M).sI rfl).sI rfl
  obtain ⟨N, e, h2, h3, h4⟩ := M_fills (a := a) (hQ.fr oP f0 (fun x hx (z : x = a) => ha (z ▸ hx))) oP ha
  obtain ⟨⟨z1, z2⟩, z3⟩ := wNt_0 (P := P) (W := W)
  have h5 := oP.b
  refine ⟨N, ?_, ⟨⟨?_, ?_, ?_⟩, fun k hk => ?_, fun k hk => ⟨?_, ?_⟩, fun k hk => ?_⟩, f0.trans h4⟩
  · simp (disch := omega) only [f_M_nightEnds, hN.d0, e, bI_s, bV_s, bL_s, bR_s, bG_s, bG_n, bX_l, bX_r, ck_nI, nI_clamp, nI_leT, nI_leF, nI_ltT, nI_ltF, nI_eqF, nI_add, pk_mul, ofN, bt_e, or0, Nat.zero_add, Nat.add_zero, ↓reduceIte, if_true, if_false, Bool.false_eq_true, eq_self, li0, li1, li2, li3, li4, li5, li6, li7, li8, li9, li10, li11, li12, li14, li15, li16, li18, li19, li20, li23, li24, li25, li26, li27, li30, li31, li32, li36, li40, li41, li42, li43, li44, li45, li47, li48, li57, li59, li60, li91, li93, li96, li97, li100, li105, li122, li150, li200, li255, li400, li500, li600, li999, li1000, li1001, li2000, li2001, li2002, li2003, li2004, li2005, li2006, li32767, li100000, li_neg, li13, li17, li21, li22, li28, li29, li33, li34, li35, li37, li38, li39, li46, li49, li50, li51, li52, li53, li63, li80, li115, li160, gI_same, gI_ne, gI_eq2, gR_sI, gL_sI, gI_sL, gR_sL, gI_sR, gL_sR]
  · rw [z1, h3 _ _ (by omega)]; exact gI_same ..
  · rw [z3, h3 _ _ (by omega), gI_ne (by omega), gI_ne (by omega)]; exact hN.d1
  · rw [z2, h3 _ _ (by omega), gI_ne (by omega)]; exact gI_same ..
  · rw [z2] at hk; omega
  · rw [wNt_o (by omega), h3 _ _ (by omega), gI_ne (by omega), gI_ne (by omega)]; exact hN.me hk
  · rw [wNt_o (by omega), h3 _ _ (by omega), gI_ne (by omega), gI_ne (by omega)]; exact hN.s hk
  · rw [wNt_c hk]; exact h2 k hk
/-! copies -/
theorem sCi_s (M : Mm) (a b s d n j : Nat) : gI (sCi M a b s d n) b j = va_cpy (gI M a) (gI M b) s d n j := by rw [gI_sCi, if_pos rfl]
theorem sCi_n {M : Mm} {a b s d n a' j : Nat} (h : a' ≠ b) : gI (sCi M a b s d n) a' j = gI M a' j := by rw [gI_sCi, if_neg h]
theorem C_become {q : Nat} (hd : q + 8 ≤ o ∨ o + 8 ≤ q) : ∃ M', f_Wall_become o q M = some M' ∧ ((∀ j, j < 3 → gI M' o j = gI M q j) ∧ (∀ i j, 1 ≤ i → i ≤ 4 → j < 20 → gI M' (o + i) j = gI M (q + i) j)) ∧ ((∀ i j, 5 ≤ i → i ≤ 6 → j < 8 → gI M' (o + i) j = gI M (q + i) j) ∧ ∀ j, j < 6 → gI M' (o + 7) j = gI M (q + 7) j) ∧ Fr (rg o 8) M M' := by
  refine ⟨_, rfl, ⟨fun j hj => ?_, fun i j h1 h2 h3 => ?_⟩, ⟨fun i j h1 h2 h3 => ?_, fun j h3 => ?_⟩, ?_⟩
  · rw [sCi_n (by omega), sCi_n (by omega), sCi_n (by omega), sCi_n (by omega), sCi_n (by omega), sCi_n (by omega), sCi_n (by omega)]
    match j, hj with
    | 0, _ => simp (disch := omega) only [gI_same, gI_ne, gI_eq2, gR_sI, gL_sI, gI_sL, gR_sL, gI_sR, gL_sR]
    | 1, _ => simp (disch := omega) only [gI_same, gI_ne, gI_eq2, gR_sI, gL_sI, gI_sL, gR_sL, gI_sR, gL_sR]
    | 2, _ => simp (disch := omega) only [gI_same, gI_ne, gI_eq2, gR_sI, gL_sI, gI_sL, gR_sL, gI_sR, gL_sR]
  · match i, h1, h2 with
    | 1, _, _ => simp (disch := omega) only [sCi_s, sCi_n, pk_cpy_in, Nat.sub_zero, nI_clamp, Nat.zero_add, gI_same, gI_ne, gI_eq2, gR_sI, gL_sI, gI_sL, gR_sL, gI_sR, gL_sR, li0, li20, li8, li6]
    | 2, _, _ => simp (disch := omega) only [sCi_s, sCi_n, pk_cpy_in, Nat.sub_zero, nI_clamp, Nat.zero_add, gI_same, gI_ne, gI_eq2, gR_sI, gL_sI, gI_sL, gR_sL, gI_sR, gL_sR, li0, li20, li8, li6]
    | 3, _, _ => simp (disch := omega) only [sCi_s, sCi_n, pk_cpy_in, Nat.sub_zero, nI_clamp, Nat.zero_add, gI_same, gI_ne, gI_eq2, gR_sI, gL_sI, gI_sL, gR_sL, gI_sR, gL_sR, li0, li20, li8, li6]
    | 4, _, _ => simp (disch := omega) only [sCi_s, sCi_n, pk_cpy_in, Nat.sub_zero, nI_clamp, Nat.zero_add, gI_same, gI_ne, gI_eq2, gR_sI, gL_sI, gI_sL, gR_sL, gI_sR, gL_sR, li0, li20, li8, li6]
  · match i, h1, h2 with
    | 5, _, _ => simp (disch := omega) only [sCi_s, sCi_n, pk_cpy_in, Nat.sub_zero, nI_clamp, Nat.zero_add, gI_same, gI_ne, gI_eq2, gR_sI, gL_sI, gI_sL, gR_sL, gI_sR, gL_sR, li0, li20, li8, li6]
    | 6, _, _ => simp (disch := omega) only [sCi_s, sCi_n, pk_cpy_in, Nat.sub_zero, nI_clamp, Nat.zero_add, gI_same, gI_ne, gI_eq2, gR_sI, gL_sI, gI_sL, gR_sL, gI_sR, gL_sR, li0, li20, li8, li6]
  · simp (disch := omega) only [sCi_s, sCi_n, pk_cpy_in, Nat.sub_zero, nI_clamp, Nat.zero_add, gI_same, gI_ne, gI_eq2, gR_sI, gL_sI, gI_sL, gR_sL, gI_sR, gL_sR, li0, li20, li8, li6]
  · have f : Fr (rg o 8) M M := Fr.rf _ _
    exact (((((((((f.sI ⟨by omega, by omega⟩).sI ⟨by omega, by omega⟩).sI ⟨by omega, by omega⟩).sCi ⟨by omega, by omega⟩).sCi ⟨by omega, by omega⟩).sCi ⟨by omega, by omega⟩).sCi ⟨by omega, by omega⟩).sCi ⟨by omega, by omega⟩).sCi ⟨by omega, by omega⟩).sCi ⟨by omega, by omega⟩
theorem C_becomeW {q : Nat} (hd : q + 8 ≤ o ∨ o + 8 ≤ q) (oP : okP P) (hW : isW M q P W) (oW : okW P W) : ∃ M', f_Wall_become o q M = some M' ∧ isW M' o P W ∧ Fr (rg o 8) M M' := by
  obtain ⟨M', e, ⟨h1, h2⟩, ⟨h3, h4⟩, h5⟩ := C_become (M := M) hd
  exact ⟨M', e, hW.cpy oP oW h1 h2 h3 h4, h5⟩
theorem M_copies {a b : Nat} (hd : a ≠ b) : ∃ M', f_M_copies a 105 b 105 M = some M' ∧ (∀ j, j < 105 → gI M' b j = gI M a j) ∧ Fr (fun x => x = b) M M' := by
  have key := lp_inv (R := Mm) (fun u i (s : Mm) => f_M_copies_b u a 105 b 105 (nI i) s) 105 (fun i s => (∀ k, k < i → gI s b k = gI M a k) ∧ Fr (fun x => x = b) M s) (fun s => (∀ k, k < 105 → gI s b k = gI M a k) ∧ Fr (fun x => x = b) M s) (fun u i s hi hI => ?_) (fun u s hI => ?_) 0 (by omega) M ⟨fun k hk => by omega, Fr.rf _ _⟩ FU (FU_lt (by omega))
  · exact key
  · obtain ⟨h3, h5⟩ := hI
    refine Or.inl ⟨sI s b i (gI M a i), ?_, fun k hk => ?_, h5.sI rfl⟩
    · simp (disch := omega) only [f_M_copies_b, h5.i (show ¬ a = b from hd) i, bI_s, bV_s, bL_s, bR_s, bG_s, bG_n, bX_l, bX_r, ck_nI, nI_clamp, nI_leT, nI_leF, nI_ltT, nI_ltF, nI_eqF, nI_add, pk_mul, ofN, bt_e, or0, Nat.zero_add, Nat.add_zero, ↓reduceIte, if_true, if_false, Bool.false_eq_true, eq_self, li0, li1, li2, li3, li4, li5, li6, li7, li8, li9, li10, li11, li12, li14, li15, li16, li18, li19, li20, li23, li24, li25, li26, li27, li30, li31, li32, li36, li40, li41, li42, li43, li44, li45, li47, li48, li57, li59, li60, li91, li93, li96, li97, li100, li105, li122, li150, li200, li255, li400, li500, li600, li999, li1000, li1001, li2000, li2001, li2002, li2003, li2004, li2005, li2006, li32767, li100000, li_neg, li13, li17, li21, li22, li28, li29, li33, li34, li35, li37, li38, li39, li46, li49, li50, li51, li52, li53, li63, li80, li115, li160]
    · by_cases c : k = i
      · subst c; exact gI_same ..
      · rw [gI_ne (by omega)]; exact h3 k (by omega)
  · obtain ⟨h3, h5⟩ := hI
    refine ⟨s, ?_, h3, h5⟩
    simp (disch := omega) only [f_M_copies_b, bI_s, bV_s, bL_s, bR_s, bG_s, bG_n, bX_l, bX_r, ck_nI, nI_clamp, nI_leT, nI_leF, nI_ltT, nI_ltF, nI_eqF, nI_add, pk_mul, ofN, bt_e, or0, Nat.zero_add, Nat.add_zero, ↓reduceIte, if_true, if_false, Bool.false_eq_true, eq_self, li0, li1, li2, li3, li4, li5, li6, li7, li8, li9, li10, li11, li12, li14, li15, li16, li18, li19, li20, li23, li24, li25, li26, li27, li30, li31, li32, li36, li40, li41, li42, li43, li44, li45, li47, li48, li57, li59, li60, li91, li93, li96, li97, li100, li105, li122, li150, li200, li255, li400, li500, li600, li999, li1000, li1001, li2000, li2001, li2002, li2003, li2004, li2005, li2006, li32767, li100000, li_neg, li13, li17, li21, li22, li28, li29, li33, li34, li35, li37, li38, li39, li46, li49, li50, li51, li52, li53, li63, li80, li115, li160]
end
