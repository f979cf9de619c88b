/-! # functional level, 71: the model reads a law -/
section
variable {M M' M1 M2 N : Mm} {m E a k f n c e op w : Nat} {T : Nat → Nat} {L : Nat → Nat} {ρ : Nat → Mm → Option Mm} {ρ' : Nat → Nat → (Nat → Nat) → Ou}
theorem M_opensY (h : MTp M m T E a 0 f) (hp : gI M m 8 = nI op) (ho : op < 6) : f_M_opensOne m M = some (nI 1, sI M m 8 (nI (op + 1))) := by
  have g5 := h.1.2.2.1
  have c : op ≠ 6 := by omega
  simp (disch := omega) only [f_M_opensOne, f_M_opensOne_b, g5, hp, nI_eqF c, bI_s, bV_s, bL_s, bR_s, bG_s, bG_n, bX_l, bX_r, ck_nI, nI_clamp, nI_leT, nI_leF, nI_ltT, nI_ltF, nI_eqF, nI_add, pk_mul, ofN, bt_e, or0, Nat.zero_add, Nat.add_zero, ↓reduceIte, if_true, if_false, Bool.false_eq_true, eq_self, li0, li1, li2, li3, li4, li5, li6, li7, li8, li9, li10, li11, li12, li14, li15, li16, li18, li19, li20, li23, li24, li25, li26, li27, li30, li31, li32, li36, li40, li41, li42, li43, li44, li45, li47, li48, li57, li59, li60, li91, li93, li96, li97, li100, li105, li122, li150, li200, li255, li400, li500, li600, li999, li1000, li1001, li2000, li2001, li2002, li2003, li2004, li2005, li2006, li32767, li100000, li_neg, li13, li17, li21, li22, li28, li29, li33, li34, li35, li37, li38, li39, li46, li49, li50, li51, li52, li53, li63, li80, li115, li160, gI_same, gI_ne, gI_eq2, gR_sI, gL_sI, gI_sL, gR_sL, gI_sR, gL_sR]
theorem M_opensN (h : MTp M m T E a 0 f) (hp : gI M m 8 = nI 6) : ∃ M', f_M_opensOne m M = some (nI 0, M') ∧ FX (uD m) M M' ∧ MTp M' m T E a 3 a := by
  have g5 := h.1.2.2.1
  have g4 := h.1.2.1
  obtain ⟨M1, e1, f1, h1⟩ := M_wrong h (k1 := 3) (f1 := a) (by omega)
  have h1 : MTp M1 m T E a 3 a := h1
  have g6 := h1.1.2.2.1
  refine ⟨M1, ?_, f1, h1⟩
  simp (disch := omega) only [f_M_opensOne, g5, g4, hp, e1, g6, bI_s, bV_s, bL_s, bR_s, bG_s, bG_n, bX_l, bX_r, ck_nI, nI_clamp, nI_leT, nI_leF, nI_ltT, nI_ltF, nI_eqF, nI_add, pk_mul, ofN, bt_e, or0, Nat.zero_add, Nat.add_zero, ↓reduceIte, if_true, if_false, Bool.false_eq_true, eq_self, li0, li1, li2, li3, li4, li5, li6, li7, li8, li9, li10, li11, li12, li14, li15, li16, li18, li19, li20, li23, li24, li25, li26, li27, li30, li31, li32, li36, li40, li41, li42, li43, li44, li45, li47, li48, li57, li59, li60, li91, li93, li96, li97, li100, li105, li122, li150, li200, li255, li400, li500, li600, li999, li1000, li1001, li2000, li2001, li2002, li2003, li2004, li2005, li2006, li32767, li100000, li_neg, li13, li17, li21, li22, li28, li29, li33, li34, li35, li37, li38, li39, li46, li49, li50, li51, li52, li53, li63, li80, li115, li160]
theorem RM_uO (hE : E ≤ 150) (hρ : RM m T E (op + 1) (op + 1) (ρ m) ρ') (hg : ∀ a n L, a ≤ E → gO E 1 1 a n L (ρ' a n L)) {x : Nat} (hx : x = lk w) (hw : 2000 ≤ w) :
    RM m T E (op + 1) op (fun M24 => bV (f_M_sign m (nI 91) M24) (fun M26 => bV (ρ m M26) (fun M28 => bV (f_M_sign m (nI 44) M28) (fun M30 => bV (ρ m M30) (fun M32 => bV (f_M_sign m (nI 93) M32) (fun M34 => bV (f_M_notes m (nI x) (nI 0) M34) (fun M36 => some (sI M36 m 8 (gI M36 m 8 - nI 1))))))))) (uO ρ' T E w) := by
  have sg : ∀ c a n L, a ≤ E → n ≤ a → (sgO T E c a n L).1 = 0 → (sgO T E c a n L).2.2.2.1 ≤ (sgO T E c a n L).2.2.1 := fun c a n L ha hn h0 => by
    have := (sgO_g (T := T) (c := c) (n := n) (L := L) ha h0).1; omega
  have rg : ∀ a n L, a ≤ E → n ≤ a → (ρ' a n L).1 = 0 → (ρ' a n L).2.2.2.1 ≤ (ρ' a n L).2.2.1 := fun a n L ha hn h0 => by
    have := (hg a n L ha h0).1; omega
  exact RM_bind (RM_sign (by omega)) (RM_bind hρ (RM_bind (RM_sign (by omega)) (RM_bind hρ (RM_bind (RM_sign (by omega)) (RM_put2 hE hx hw) (sg 93)) rg) (sg 44)) rg) (sg 91)
theorem RM_uB (hρ : RM m T E (op + 1) (op + 1) (ρ m) ρ') (hg : ∀ a n L, a ≤ E → gO E 1 1 a n L (ρ' a n L)) :
    RM m T E (op + 1) op (fun M14 => bV (ρ m M14) (fun M17 => bV (f_M_sign m (nI 41) M17) (fun M19 => some (sI M19 m 8 (gI M19 m 8 - nI 1))))) (uB ρ' T E) := by
  refine RM_bind hρ (RM_sg2 (by omega)) (fun a n L ha hn h0 => ?_)
  have := (hg a n L ha h0).1; omega
theorem isKr.s8 (h : isKr M m n L) (v : Int32) : isKr (sI M m 8 v) m n L := ⟨by rw [gI_ne (by omega)]; exact h.1, fun k hk => by rw [gI_ne (by omega), gI_ne (by omega)]; exact h.2 k hk⟩
theorem RM_one (hE : E ≤ 150) (hop : op ≤ 6) (hρ : op < 6 → RM m T E (op + 1) (op + 1) (ρ m) ρ') (hg : op < 6 → ∀ a n L, a ≤ E → gO E 1 1 a n L (ρ' a n L)) : RM m T E op op (f_M_one ρ m) (uU ρ' T E op) := by
  refine ⟨fun M a n L h1 h2 h3 h4 => ?_, fun M a k f hk h1 => ⟨M, ?_, FX.rf _ M, h1⟩⟩
  · have ha := h1.2.2.1.1
    have hT := h1.2.2.2
    have hE6 := h1.2.2.1
    have hs := sk_b (T := T) ha
    have hi := sk_i (T := T) ha
    have hcl := cR_len (T := T) ha
    have k5 := h1.1.2.2.1
    obtain ⟨M1, e1, f1, g1⟩ := M_blanks h1
    obtain ⟨M2, f2, g2, e2⟩ := M_isWord (wd := wLea) g1 w6_least
    rw [hi] at g2 e2
    have e2 : f_M_isWord m (nI 12) (nI 5) (nI 1) (nI 19) (nI 20) (nI 0) M1 = some (nI (if cR T E a = wLea then 1 else 0), M2) := e2
    have f12 := f1.trans f2
    have opened : ∀ (x w : Nat) (M3 : Mm), FX (uD m) M M3 → MTp M3 m T E (sk T E a) 0 4294967295 → x = lk w → 2000 ≤ w → x ≤ 8 → ∃ M', f_M_one_b ρ m (nI x) M3 = some M' ∧ FX (kD m) M M' ∧ mL M' m T E op (if 6 ≤ op then (3, sk T E a, 0, n, L) else uO ρ' T E w (sk T E a + (cR T E a).length) n L) := by
      intro x w M3 f3 g3 hx hw hx8
      have ne : x ≠ 4294967295 := by omega
      have p3 := op_ud h3 f3
      by_cases c6 : 6 ≤ op
      · rw [if_pos c6]
        obtain rfl : op = 6 := by omega
        obtain ⟨M4, e4, f4, g4⟩ := M_opensN g3 p3
        refine ⟨M4, ?_, (f3.trans f4).ku, Or.inr ⟨by show (3 : Nat) ≠ 0; omega, _, g4⟩⟩
        simp (disch := omega) only [f_M_one_b, nI_eqF ne, e4, bI_s, bV_s, bL_s, bR_s, bG_s, bG_n, bX_l, bX_r, ck_nI, nI_clamp, nI_leT, nI_leF, nI_ltT, nI_ltF, nI_eqF, nI_add, pk_mul, ofN, bt_e, or0, Nat.zero_add, Nat.add_zero, ↓reduceIte, if_true, if_false, Bool.false_eq_true, eq_self, li0, li1, li2, li3, li4, li5, li6, li7, li8, li9, li10, li11, li12, li14, li15, li16, li18, li19, li20, li23, li24, li25, li26, li27, li30, li31, li32, li36, li40, li41, li42, li43, li44, li45, li47, li48, li57, li59, li60, li91, li93, li96, li97, li100, li105, li122, li150, li200, li255, li400, li500, li600, li999, li1000, li1001, li2000, li2001, li2002, li2003, li2004, li2005, li2006, li32767, li100000, li_neg, li13, li17, li21, li22, li28, li29, li33, li34, li35, li37, li38, li39, li46, li49, li50, li51, li52, li53, li63, li80, li115, li160]
      · rw [if_neg c6]
        have e4 := M_opensY g3 p3 (by omega)
        obtain ⟨M5, e5, f5, g5⟩ := M_skip (g3.s7 (j := 8) (by omega) (nI (op + 1)))
        have k5 : isKr M5 m n L := ((h2.ud f3).s8 _).ud f5
        have p5 : gI M5 m 8 = nI (op + 1) := op_ud (gI_same ..) f5
        obtain ⟨M6, e6, f6, r6⟩ := (RM_uO (w := w) (x := x) hE (hρ (by omega)) (hg (by omega)) hx hw).1 M5 (sk T E a + (cR T E a).length) n L g5 k5 p5 (by omega)
        refine ⟨M6, ?_, ((f3.ku.sI (Or.inr (Or.inl ⟨rfl, Or.inl rfl⟩))).trans f5.ku).trans f6, r6⟩
        rw [← e6]
        simp (disch := omega) only [f_M_one_b, nI_eqF ne, e4, e5, bI_s, bV_s, bL_s, bR_s, bG_s, bG_n, bX_l, bX_r, ck_nI, nI_clamp, nI_leT, nI_leF, nI_ltT, nI_ltF, nI_eqF, nI_add, pk_mul, ofN, bt_e, or0, Nat.zero_add, Nat.add_zero, ↓reduceIte, if_true, if_false, Bool.false_eq_true, eq_self, li0, li1, li2, li3, li4, li5, li6, li7, li8, li9, li10, li11, li12, li14, li15, li16, li18, li19, li20, li23, li24, li25, li26, li27, li30, li31, li32, li36, li40, li41, li42, li43, li44, li45, li47, li48, li57, li59, li60, li91, li93, li96, li97, li100, li105, li122, li150, li200, li255, li400, li500, li600, li999, li1000, li1001, li2000, li2001, li2002, li2003, li2004, li2005, li2006, li32767, li100000, li_neg, li13, li17, li21, li22, li28, li29, li33, li34, li35, li37, li38, li39, li46, li49, li50, li51, li52, li53, li63, li80, li115, li160]
    by_cases c1 : cR T E a = wLea
    · have e2 : f_M_isWord m (nI 12) (nI 5) (nI 1) (nI 19) (nI 20) (nI 0) M1 = some (nI 1, M2) := by rw [e2, if_pos c1]
      have sm := cR_sm (T := T) (E := E) (a := a) (by rw [c1]; decide)
      have nd : ¬ (sk T E a < E ∧ isDg (T (sk T E a)) = true) := fun q => by have := isSm_t.mp sm.2; have := isDg_t.mp q.2; omega
      obtain ⟨M3, e3, f3, r3⟩ := opened 7 2005 M2 f12 g2 rfl (by omega) (by omega)
      refine ⟨M3, ?_, f3, ?_⟩
      · simp (disch := omega) only [f_M_one, k5, e1, e2, e3, bI_s, bV_s, bL_s, bR_s, bG_s, bG_n, bX_l, bX_r, ck_nI, nI_clamp, nI_leT, nI_leF, nI_ltT, nI_ltF, nI_eqF, nI_add, pk_mul, ofN, bt_e, or0, Nat.zero_add, Nat.add_zero, ↓reduceIte, if_true, if_false, Bool.false_eq_true, eq_self, li0, li1, li2, li3, li4, li5, li6, li7, li8, li9, li10, li11, li12, li14, li15, li16, li18, li19, li20, li23, li24, li25, li26, li27, li30, li31, li32, li36, li40, li41, li42, li43, li44, li45, li47, li48, li57, li59, li60, li91, li93, li96, li97, li100, li105, li122, li150, li200, li255, li400, li500, li600, li999, li1000, li1001, li2000, li2001, li2002, li2003, li2004, li2005, li2006, li32767, li100000, li_neg, li13, li17, li21, li22, li28, li29, li33, li34, li35, li37, li38, li39, li46, li49, li50, li51, li52, li53, li63, li80, li115, li160]
      · unfold uU
        rw [if_neg (fun q => q (by rw [c1]; exact kgv_lea)), if_neg nd, if_pos (Or.inl c1), if_pos c1]
        exact r3
    · have e2 : f_M_isWord m (nI 12) (nI 5) (nI 1) (nI 19) (nI 20) (nI 0) M1 = some (nI 0, M2) := by rw [e2, if_neg c1]
      obtain ⟨M3, f3, g3, e3⟩ := M_isWord (wd := wMos) g2 w6_most
      rw [hi] at g3 e3
      have e3 : f_M_isWord m (nI 13) (nI 15) (nI 19) (nI 20) (nI 0) (nI 0) M2 = some (nI (if cR T E a = wMos then 1 else 0), M3) := e3
      have f13 := f12.trans f3
      by_cases c2 : cR T E a = wMos
      · have e3 : f_M_isWord m (nI 13) (nI 15) (nI 19) (nI 20) (nI 0) (nI 0) M2 = some (nI 1, M3) := by rw [e3, if_pos c2]
        have sm := cR_sm (T := T) (E := E) (a := a) (by rw [c2]; decide)
        have nd : ¬ (sk T E a < E ∧ isDg (T (sk T E a)) = true) := fun q => by have := isSm_t.mp sm.2; have := isDg_t.mp q.2; omega
        obtain ⟨M4, e4, f4, r4⟩ := opened 8 2006 M3 f13 g3 rfl (by omega) (by omega)
        refine ⟨M4, ?_, f4, ?_⟩
        · simp (disch := omega) only [f_M_one, k5, e1, e2, e3, e4, bI_s, bV_s, bL_s, bR_s, bG_s, bG_n, bX_l, bX_r, ck_nI, nI_clamp, nI_leT, nI_leF, nI_ltT, nI_ltF, nI_eqF, nI_add, pk_mul, ofN, bt_e, or0, Nat.zero_add, Nat.add_zero, ↓reduceIte, if_true, if_false, Bool.false_eq_true, eq_self, li0, li1, li2, li3, li4, li5, li6, li7, li8, li9, li10, li11, li12, li14, li15, li16, li18, li19, li20, li23, li24, li25, li26, li27, li30, li31, li32, li36, li40, li41, li42, li43, li44, li45, li47, li48, li57, li59, li60, li91, li93, li96, li97, li100, li105, li122, li150, li200, li255, li400, li500, li600, li999, li1000, li1001, li2000, li2001, li2002, li2003, li2004, li2005, li2006, li32767, li100000, li_neg, li13, li17, li21, li22, li28, li29, li33, li34, li35, li37, li38, li39, li46, li49, li50, li51, li52, li53, li63, li80, li115, li160]
        · unfold uU
          rw [if_neg (fun q => q (by rw [c2]; exact kgv_mos)), if_neg nd, if_pos (Or.inr c2), if_neg c1]
          exact r4
      · have e3 : f_M_isWord m (nI 13) (nI 15) (nI 19) (nI 20) (nI 0) (nI 0) M2 = some (nI 0, M3) := by rw [e3, if_neg c2]
        have eo : f_M_one ρ m M = f_M_one_b ρ m (nI 4294967295) M3 := by
          simp (disch := omega) only [f_M_one, k5, e1, e2, e3, bI_s, bV_s, bL_s, bR_s, bG_s, bG_n, bX_l, bX_r, ck_nI, nI_clamp, nI_leT, nI_leF, nI_ltT, nI_ltF, nI_eqF, nI_add, pk_mul, ofN, bt_e, or0, Nat.zero_add, Nat.add_zero, ↓reduceIte, if_true, if_false, Bool.false_eq_true, eq_self, li0, li1, li2, li3, li4, li5, li6, li7, li8, li9, li10, li11, li12, li14, li15, li16, li18, li19, li20, li23, li24, li25, li26, li27, li30, li31, li32, li36, li40, li41, li42, li43, li44, li45, li47, li48, li57, li59, li60, li91, li93, li96, li97, li100, li105, li122, li150, li200, li255, li400, li500, li600, li999, li1000, li1001, li2000, li2001, li2002, li2003, li2004, li2005, li2006, li32767, li100000, li_neg, li13, li17, li21, li22, li28, li29, li33, li34, li35, li37, li38, li39, li46, li49, li50, li51, li52, li53, li63, li80, li115, li160]
        rw [eo]
        have a3 := g3.1.2.1
        have k3 := h2.ud f13
        have p3 := op_ud h3 f13
        have nw : ¬ (cR T E a = wLea ∨ cR T E a = wMos) := fun q => by rcases q with q | q; exact c1 q; exact c2 q
        by_cases c4 : sk T E a < E ∧ T (sk T E a) = 40
        · have cn : cR T E a = [] := cR_nil (fun q => by
            have := isSm_t.mp q.2
            omega)
          have nd : ¬ (sk T E a < E ∧ isDg (T (sk T E a)) = true) := fun q => by have := isDg_t.mp q.2; omega
          have at3 := M_at g3 c4.1
          rw [c4.2] at at3
          unfold uU
          rw [if_neg (fun q => q (by rw [cn]; exact kgv_nil)), if_neg nd, if_neg nw, if_pos c4]
          by_cases c6 : 6 ≤ op
          · rw [if_pos c6]
            obtain rfl : op = 6 := by omega
            obtain ⟨M4, e4, f4, g4⟩ := M_opensN g3 p3
            refine ⟨M4, ?_, (f13.trans f4).ku, Or.inr ⟨by show (3 : Nat) ≠ 0; omega, _, g4⟩⟩
            simp (disch := omega) only [f_M_one_b, a3, at3, e4, bI_s, bV_s, bL_s, bR_s, bG_s, bG_n, bX_l, bX_r, ck_nI, nI_clamp, nI_leT, nI_leF, nI_ltT, nI_ltF, nI_eqF, nI_add, pk_mul, ofN, bt_e, or0, Nat.zero_add, Nat.add_zero, ↓reduceIte, if_true, if_false, Bool.false_eq_true, eq_self, li0, li1, li2, li3, li4, li5, li6, li7, li8, li9, li10, li11, li12, li14, li15, li16, li18, li19, li20, li23, li24, li25, li26, li27, li30, li31, li32, li36, li40, li41, li42, li43, li44, li45, li47, li48, li57, li59, li60, li91, li93, li96, li97, li100, li105, li122, li150, li200, li255, li400, li500, li600, li999, li1000, li1001, li2000, li2001, li2002, li2003, li2004, li2005, li2006, li32767, li100000, li_neg, li13, li17, li21, li22, li28, li29, li33, li34, li35, li37, li38, li39, li46, li49, li50, li51, li52, li53, li63, li80, li115, li160]
          · rw [if_neg c6]
            have e4 := M_opensY g3 p3 (by omega)
            have g4 := g3.s7 (j := 8) (by omega) (nI (op + 1))
            have g5 := g4.at (a' := sk T E a + 1) (by omega)
            have a4 : gI (sI M3 m 8 (nI (op + 1))) m 4 = nI (sk T E a) := g4.1.2.1
            have fx : FX (kD m) M (sI (sI M3 m 8 (nI (op + 1))) m 4 (nI (sk T E a + 1))) := (f13.ku.sI (Or.inr (Or.inl ⟨rfl, Or.inl rfl⟩))).sI (Or.inl (by unfold uD; omega))
            have k5 : isKr (sI (sI M3 m 8 (nI (op + 1))) m 4 (nI (sk T E a + 1))) m n L := (k3.s8 _).ud ((FX.rf _ _).sI (by unfold uD; omega))
            have p5 : gI (sI (sI M3 m 8 (nI (op + 1))) m 4 (nI (sk T E a + 1))) m 8 = nI (op + 1) := by rw [gI_ne (by omega), gI_same]
            obtain ⟨M6, e6, f6, r6⟩ := (RM_uB (hρ (by omega)) (hg (by omega))).1 _ (sk T E a + 1) n L g5 k5 p5 (by omega)
            refine ⟨M6, ?_, fx.trans f6, r6⟩
            rw [← e6]
            simp (disch := omega) only [f_M_one_b, a3, at3, e4, a4, bI_s, bV_s, bL_s, bR_s, bG_s, bG_n, bX_l, bX_r, ck_nI, nI_clamp, nI_leT, nI_leF, nI_ltT, nI_ltF, nI_eqF, nI_add, pk_mul, ofN, bt_e, or0, Nat.zero_add, Nat.add_zero, ↓reduceIte, if_true, if_false, Bool.false_eq_true, eq_self, li0, li1, li2, li3, li4, li5, li6, li7, li8, li9, li10, li11, li12, li14, li15, li16, li18, li19, li20, li23, li24, li25, li26, li27, li30, li31, li32, li36, li40, li41, li42, li43, li44, li45, li47, li48, li57, li59, li60, li91, li93, li96, li97, li100, li105, li122, li150, li200, li255, li400, li500, li600, li999, li1000, li1001, li2000, li2001, li2002, li2003, li2004, li2005, li2006, li32767, li100000, li_neg, li13, li17, li21, li22, li28, li29, li33, li34, li35, li37, li38, li39, li46, li49, li50, li51, li52, li53, li63, li80, li115, li160]
        · have at3 : ∃ z, f_M_byteAt m (nI (sk T E a)) M3 = some (z, M3) ∧ z ≠ nI 40 := by
            by_cases q : sk T E a < E
            · refine ⟨_, M_at g3 q, fun z => c4 ⟨q, ?_⟩⟩
              have := hT _ q
              exact nI_inj (by omega) (by omega) z
            · exact ⟨_, M_atE g3 (by omega) (by omega), by decide⟩
          obtain ⟨z, at3, nz⟩ := at3
          obtain ⟨M4, e4, f4, g4⟩ := M_known g3
          rw [cR_sk ha, hi] at g4
          rw [cR_sk ha] at e4
          have f14 := f13.trans f4
          have k4 := h2.ud f14
          have p4 := op_ud h3 f14
          have k8 := kgv_8 (cR T E a)
          unfold uU
          by_cases c5 : kgv (cR T E a) = 8
          · rw [if_pos c5] at g4
            rw [if_neg (fun q => q c5)]
            have e4 : f_M_knownHere m M3 = some (nI 4294967295, M4) := by rw [e4, c5]; rfl
            obtain ⟨z2, M5, e5, f5, g5, hz⟩ := M_number (p0 := nI 0) (p1 := nI 999) g4 (by decide)
            rw [hi] at g5 hz
            have f15 := f14.trans f5
            by_cases c6 : nK T E a (nI 0) (nI 999) = 0
            · have c6' : nK T E (sk T E a) (nI 0) (nI 999) = 0 := (nK_sk ha).trans c6
              have c7 : sk T E a < E ∧ isDg (T (sk T E a)) = true := by
                by_cases q : sk T E a < E ∧ isDg (T (sk T E a)) = true
                · exact q
                · have := nK_1 (p0 := nI 0) (p1 := nI 999) q; omega
              rw [if_pos c7, if_neg (fun q => q c6)]
              have hz := hz (by rw [nO_0 c6'])
              rw [nO_0 c6'] at g5
              have hz : z2 = nI (nV T E a) := hz
              have v := nV_in ha hT (by omega) (by omega) c6
              obtain ⟨M6, e6, f6, g6, g7, g8⟩ := M_notes (c := nV T E a) (x := 0) (y := nV T E a) g5 (h2.ud f15) (by omega) (by unfold lk; rw [if_pos (by omega)]) (by unfold lv; rw [if_pos (by omega)])
              subst hz
              refine ⟨M6, ?_, f15.ku.trans f6, Or.inl ⟨rfl, g6, g7, g8.trans (op_ud h3 f15)⟩⟩
              simp (disch := omega) only [f_M_one_b, a3, at3, eq_false nz, e4, e5, e6, bI_s, bV_s, bL_s, bR_s, bG_s, bG_n, bX_l, bX_r, ck_nI, nI_clamp, nI_leT, nI_leF, nI_ltT, nI_ltF, nI_eqF, nI_add, pk_mul, ofN, bt_e, or0, Nat.zero_add, Nat.add_zero, ↓reduceIte, if_true, if_false, Bool.false_eq_true, eq_self, li0, li1, li2, li3, li4, li5, li6, li7, li8, li9, li10, li11, li12, li14, li15, li16, li18, li19, li20, li23, li24, li25, li26, li27, li30, li31, li32, li36, li40, li41, li42, li43, li44, li45, li47, li48, li57, li59, li60, li91, li93, li96, li97, li100, li105, li122, li150, li200, li255, li400, li500, li600, li999, li1000, li1001, li2000, li2001, li2002, li2003, li2004, li2005, li2006, li32767, li100000, li_neg, li13, li17, li21, li22, li28, li29, li33, li34, li35, li37, li38, li39, li46, li49, li50, li51, li52, li53, li63, li80, li115, li160]
            · have c6' : nK T E (sk T E a) (nI 0) (nI 999) ≠ 0 := fun q => c6 ((nK_sk ha).symm.trans q)
              rw [nO_1 c6', nK_sk ha, hi] at g5
              have e6 := M_notesF g5 c6 (nI 0) z2
              have fin : f_M_one_b ρ m (nI 4294967295) M3 = some M5 := by
                simp (disch := omega) only [f_M_one_b, a3, at3, eq_false nz, e4, e5, e6, bI_s, bV_s, bL_s, bR_s, bG_s, bG_n, bX_l, bX_r, ck_nI, nI_clamp, nI_leT, nI_leF, nI_ltT, nI_ltF, nI_eqF, nI_add, pk_mul, ofN, bt_e, or0, Nat.zero_add, Nat.add_zero, ↓reduceIte, if_true, if_false, Bool.false_eq_true, eq_self, li0, li1, li2, li3, li4, li5, li6, li7, li8, li9, li10, li11, li12, li14, li15, li16, li18, li19, li20, li23, li24, li25, li26, li27, li30, li31, li32, li36, li40, li41, li42, li43, li44, li45, li47, li48, li57, li59, li60, li91, li93, li96, li97, li100, li105, li122, li150, li200, li255, li400, li500, li600, li999, li1000, li1001, li2000, li2001, li2002, li2003, li2004, li2005, li2006, li32767, li100000, li_neg, li13, li17, li21, li22, li28, li29, li33, li34, li35, li37, li38, li39, li46, li49, li50, li51, li52, li53, li63, li80, li115, li160]
              by_cases c7 : sk T E a < E ∧ isDg (T (sk T E a)) = true
              · rw [if_pos c7, if_pos c6]
                exact ⟨M5, fin, f15.ku, Or.inr ⟨c6, _, g5⟩⟩
              · rw [if_neg c7, if_neg nw, if_neg c4]
                rw [nK_1 c7] at g5
                exact ⟨M5, fin, f15.ku, Or.inr ⟨by show (1 : Nat) ≠ 0; omega, _, g5⟩⟩
          · rw [if_neg c5] at g4
            rw [if_pos c5]
            have e4 : f_M_knownHere m M3 = some (nI (kgv (cR T E a)), M4) := by rw [e4]; unfold kgvI; rw [if_neg c5]
            have ne : kgv (cR T E a) ≠ 4294967295 := by omega
            obtain ⟨M6, e6, f6, g6, g7, g8⟩ := M_notes (c := 1000 + kgv (cR T E a)) (x := 1) (y := kgv (cR T E a)) g4 k4 (by omega) (by unfold lk; rw [if_neg (by omega), if_pos (by omega)]) (by unfold lv; rw [if_neg (by omega), if_pos (by omega)]; omega)
            refine ⟨M6, ?_, f14.ku.trans f6, Or.inl ⟨rfl, g6, g7, g8.trans p4⟩⟩
            simp (disch := omega) only [f_M_one_b, a3, at3, eq_false nz, e4, nI_eqF ne, e6, bI_s, bV_s, bL_s, bR_s, bG_s, bG_n, bX_l, bX_r, ck_nI, nI_clamp, nI_leT, nI_leF, nI_ltT, nI_ltF, nI_eqF, nI_add, pk_mul, ofN, bt_e, or0, Nat.zero_add, Nat.add_zero, ↓reduceIte, if_true, if_false, Bool.false_eq_true, eq_self, li0, li1, li2, li3, li4, li5, li6, li7, li8, li9, li10, li11, li12, li14, li15, li16, li18, li19, li20, li23, li24, li25, li26, li27, li30, li31, li32, li36, li40, li41, li42, li43, li44, li45, li47, li48, li57, li59, li60, li91, li93, li96, li97, li100, li105, li122, li150, li200, li255, li400, li500, li600, li999, li1000, li1001, li2000, li2001, li2002, li2003, li2004, li2005, li2006, li32767, li100000, li_neg, li13, li17, li21, li22, li28, li29, li33, li34, li35, li37, li38, li39, li46, li49, li50, li51, li52, li53, li63, li80, li115, li160]
  · have e := h1.1.2.2.1
    have hk3 := h1.2.2.1
    simp (disch := omega) only [f_M_one, e, bI_s, bV_s, bL_s, bR_s, bG_s, bG_n, bX_l, bX_r, ck_nI, nI_clamp, nI_leT, nI_leF, nI_ltT, nI_ltF, nI_eqF, nI_add, pk_mul, ofN, bt_e, or0, Nat.zero_add, Nat.add_zero, ↓reduceIte, if_true, if_false, Bool.false_eq_true, eq_self, li0, li1, li2, li3, li4, li5, li6, li7, li8, li9, li10, li11, li12, li14, li15, li16, li18, li19, li20, li23, li24, li25, li26, li27, li30, li31, li32, li36, li40, li41, li42, li43, li44, li45, li47, li48, li57, li59, li60, li91, li93, li96, li97, li100, li105, li122, li150, li200, li255, li400, li500, li600, li999, li1000, li1001, li2000, li2001, li2002, li2003, li2004, li2005, li2006, li32767, li100000, li_neg, li13, li17, li21, li22, li28, li29, li33, li34, li35, li37, li38, li39, li46, li49, li50, li51, li52, li53, li63, li80, li115, li160]
end
