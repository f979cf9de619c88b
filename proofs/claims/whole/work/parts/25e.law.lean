/-! # functional level, 68: the class reads a law -/
section
variable {M M' M1 M2 N : Mm} {t l E a k f n c e op w : Nat} {T : Nat → Nat} {L : Nat → Nat} {ρ : Nat → Nat → Int32 → Mm → Option Mm} {ρ' : Nat → Nat → (Nat → Nat) → Ou}
theorem bV_id (x : Option Mm) : bV x (fun M1 => some M1) = x := by cases x <;> rfl
theorem cR_sk (h : a ≤ E) : cR T E (sk T E a) = cR T E a := by unfold cR; rw [sk_i h]
theorem RC_uO (ht : t + 1 < l) (hE : E ≤ 150) (hρ : RC t l T E 0 (ρ l t (nI (op + 1))) ρ') (hg : ∀ a n L, a ≤ E → gO E 1 1 a n L (ρ' a n L)) :
    RC t l T E 0 (fun M => bV (f_Tape_needSign t (nI 91) M) (fun M1 => bV (ρ l t (nI (op + 1)) M1) (fun M3 => bV (f_Tape_needSign t (nI 44) M3) (fun M5 => bV (ρ l t (nI (op + 1)) M5) (fun M7 => bV (f_Tape_needSign t (nI 93) M7) (fun M9 => f_Law_put l (nI w) M9)))))) (uO ρ' T E w) := by
  have sg : ∀ c a n L, a ≤ E → n + 0 ≤ a → (sgO T E c a n L).1 = 0 → (sgO T E c a n L).2.2.2.1 + 0 ≤ (sgO T E c a n L).2.2.1 := fun c a n L ha hn h0 => by
    have := (sgO_g (T := T) (c := c) (n := n) (L := L) ha h0).1; omega
  have rg : ∀ a n L, a ≤ E → n + 0 ≤ a → (ρ' a n L).1 = 0 → (ρ' a n L).2.2.2.1 + 0 ≤ (ρ' a n L).2.2.1 := fun a n L ha hn h0 => by
    have := (hg a n L ha h0).1; omega
  refine RC_bind (RC_sign (by omega) hE (by omega)) (RC_bind hρ (RC_bind (RC_sign (by omega) hE (by omega)) (RC_bind hρ (RC_bind (e2 := 1) (RC_sign (by omega) hE (by omega)) (RC_put ht hE) ?_) rg) (sg 44)) rg) (sg 91)
  intro a n L ha hn h0
  have := (sgO_g (T := T) (c := 93) (n := n) (L := L) ha h0).1
  omega
theorem RC_uB (ht : t + 1 < l) (hE : E ≤ 150) (hρ : RC t l T E 0 (ρ l t (nI (op + 1))) ρ') (hg : ∀ a n L, a ≤ E → gO E 1 1 a n L (ρ' a n L)) :
    RC t l T E 0 (fun M => bV (ρ l t (nI (op + 1)) M) (fun M11 => f_Tape_needSign t (nI 41) M11)) (uB ρ' T E) := by
  refine RC_bind (e2 := 0) hρ (RC_sign (by omega) hE (by omega)) (fun a n L ha hn h0 => ?_)
  have := (hg a n L ha h0).1; omega
theorem RC_unit (ht : t + 1 < l) (hE : E ≤ 150) (hop : op ≤ 6) (hρ : op < 6 → RC t l T E 0 (ρ l t (nI (op + 1))) ρ') (hg : op < 6 → ∀ a n L, a ≤ E → gO E 1 1 a n L (ρ' a n L)) : RC t l T E 0 (f_Law_readUnit ρ l t (nI op)) (uU ρ' T E op) := by
  refine ⟨fun M a n L h1 h2 h3 => ?_, fun M k f hk h1 => ?_⟩
  · have ha := h1.2.2.1.1
    have hs := sk_b (T := T) ha
    have hi := sk_i (T := T) ha
    have hcl := cR_len (T := T) ha
    obtain ⟨M1, e1, f1, g1⟩ := C_next h1
    obtain ⟨M2, e2, f2, g2⟩ := C_gw g1
    rw [cR_sk ha, hi] at g2
    rw [cR_sk ha] at e2
    have f12 := f1.trans f2
    have hL2 := h2.td f12 (by omega)
    unfold uU
    have k8 := kgv_8 (cR T E a)
    by_cases c1 : kgv (cR T E a) = 8
    · rw [if_pos c1] at g2
      rw [if_neg (fun q => q c1)]
      have e2 : f_Law_givenWord t M1 = some (nI 4294967295, M2) := by rw [e2, c1]; rfl
      obtain ⟨M3, e3, f3, g3⟩ := C_comes g2
      rw [hi] at e3 g3
      have f13 := f12.trans f3
      have hL3 := h2.td f13 (by omega)
      by_cases c2 : sk T E a < E ∧ isDg (T (sk T E a)) = true
      · rw [if_pos c2] at e3 ⊢
        obtain ⟨M4, e4, f4, g4⟩ := C_number (p0 := nI 0) (p1 := nI 999) g3
        rw [hi] at e4 g4
        have hL4 := h2.td (f13.trans f4) (by omega)
        by_cases c3 : nK T E a (nI 0) (nI 999) = 0
        · rw [if_neg (fun q => q c3)]
          rw [nO_0 ((nK_sk ha).trans c3)] at g4
          obtain ⟨e5, g5⟩ := C_putL (c := nV T E a) hL4 (by omega)
          have f5 : FX (fun a j => (a = l ∧ j = 2) ∨ a = l + 1) M4 (sI (sI M4 (l + 1) n (nI (nV T E a))) l 2 (nI (n + 1))) := ((FX.rf _ M4).sI (by omega)).sI (by omega)
          have e5' : f_Law_put l (nI (dg T E (sk T E a)).2) M4 = _ := e5
          refine ⟨_, ?_, (f13.trans f4).tl.trans (f5.mono (fun _ _ q => Or.inr q)), Or.inl ⟨rfl, g4.fx f5 (fun j q => by omega) (fun j q => by omega), g5⟩⟩
          simp (disch := omega) only [f_Law_readUnit, e1, e2, e3, e4, e5', bI_s, bV_s, bL_s, bR_s, bG_s, bG_n, bX_l, bX_r, ck_nI, nI_clamp, nI_leT, nI_leF, nI_ltT, nI_ltF, nI_eqF, nI_add, pk_mul, ofN, bt_e, or0, Nat.zero_add, Nat.add_zero, ↓reduceIte, if_true, if_false, Bool.false_eq_true, eq_self, li0, li1, li2, li3, li4, li5, li6, li7, li8, li9, li10, li11, li12, li14, li15, li16, li18, li19, li20, li23, li24, li25, li26, li27, li30, li31, li32, li36, li40, li41, li42, li43, li44, li45, li47, li48, li57, li59, li60, li91, li93, li96, li97, li100, li105, li122, li150, li200, li255, li400, li500, li600, li999, li1000, li1001, li2000, li2001, li2002, li2003, li2004, li2005, li2006, li32767, li100000, li_neg, li13, li17, li21, li22, li28, li29, li33, li34, li35, li37, li38, li39, li46, li49, li50, li51, li52, li53, li63, li80, li115, li160]
        · rw [if_pos c3]
          have c3' : nK T E (sk T E a) (nI 0) (nI 999) ≠ 0 := fun q => c3 ((nK_sk ha).symm.trans q)
          rw [nO_1 c3', nK_sk ha, hi] at g4
          have cf : cF M4 t l T E (nK T E a (nI 0) (nI 999)) (sk T E a) := ⟨⟨_, g4⟩, n, by omega, hL4.1⟩
          obtain ⟨M5, e5, f5, g5⟩ := cf.put ht (nI (dg T E (sk T E a)).2)
          refine ⟨M5, ?_, (f13.trans f4).tl.trans f5, Or.inr ⟨c3, g5⟩⟩
          simp (disch := omega) only [f_Law_readUnit, e1, e2, e3, e4, e5, bI_s, bV_s, bL_s, bR_s, bG_s, bG_n, bX_l, bX_r, ck_nI, nI_clamp, nI_leT, nI_leF, nI_ltT, nI_ltF, nI_eqF, nI_add, pk_mul, ofN, bt_e, or0, Nat.zero_add, Nat.add_zero, ↓reduceIte, if_true, if_false, Bool.false_eq_true, eq_self, li0, li1, li2, li3, li4, li5, li6, li7, li8, li9, li10, li11, li12, li14, li15, li16, li18, li19, li20, li23, li24, li25, li26, li27, li30, li31, li32, li36, li40, li41, li42, li43, li44, li45, li47, li48, li57, li59, li60, li91, li93, li96, li97, li100, li105, li122, li150, li200, li255, li400, li500, li600, li999, li1000, li1001, li2000, li2001, li2002, li2003, li2004, li2005, li2006, li32767, li100000, li_neg, li13, li17, li21, li22, li28, li29, li33, li34, li35, li37, li38, li39, li46, li49, li50, li51, li52, li53, li63, li80, li115, li160]
      · rw [if_neg c2] at e3 ⊢
        have eu : f_Law_readUnit ρ l t (nI op) M = f_Law_readOpened ρ l t (nI op) (nI (sk T E a)) M3 := by
          simp (disch := omega) only [f_Law_readUnit, e1, e2, e3, bV_id, bI_s, bV_s, bL_s, bR_s, bG_s, bG_n, bX_l, bX_r, ck_nI, nI_clamp, nI_leT, nI_leF, nI_ltT, nI_ltF, nI_eqF, nI_add, pk_mul, ofN, bt_e, or0, Nat.zero_add, Nat.add_zero, ↓reduceIte, if_true, if_false, Bool.false_eq_true, eq_self, li0, li1, li2, li3, li4, li5, li6, li7, li8, li9, li10, li11, li12, li14, li15, li16, li18, li19, li20, li23, li24, li25, li26, li27, li30, li31, li32, li36, li40, li41, li42, li43, li44, li45, li47, li48, li57, li59, li60, li91, li93, li96, li97, li100, li105, li122, li150, li200, li255, li400, li500, li600, li999, li1000, li1001, li2000, li2001, li2002, li2003, li2004, li2005, li2006, li32767, li100000, li_neg, li13, li17, li21, li22, li28, li29, li33, li34, li35, li37, li38, li39, li46, li49, li50, li51, li52, li53, li63, li80, li115, li160]
        rw [eu]
        by_cases c4 : sk T E a < E ∧ T (sk T E a) = 40
        · have cn : cR T E a = [] := cR_nil (fun q => by
            have := isSm_t.mp q.2
            omega)
          have c5 : ¬ (cR T E a = wLea ∨ cR T E a = wMos) := by rw [cn]; decide
          rw [if_neg c5, if_pos c4]
          obtain ⟨M4, e4, f4, g4⟩ := C_takeY (c := 40) g3 (by rw [hi]; exact c4.1) (by rw [hi]; exact c4.2)
          rw [hi] at g4
          have f14 := f13.trans f4
          have hL4 := h2.td f14 (by omega)
          by_cases c6 : 6 ≤ op
          · rw [if_pos c6]
            obtain ⟨M5, e5, f5, g5⟩ := C_wrong g4 (k1 := 3) (f1 := sk T E a) (by omega)
            refine ⟨M5, ?_, (f14.trans f5).tl, Or.inr ⟨by show (3 : Nat) ≠ 0; omega, ⟨_, g5⟩, n, by omega, (h2.td (f14.trans f5) (by omega)).1⟩⟩
            simp (disch := omega) only [f_Law_readOpened, f_Law_readOpened_b, f_Law_readOpened_c, e4, e5, bI_s, bV_s, bL_s, bR_s, bG_s, bG_n, bX_l, bX_r, ck_nI, nI_clamp, nI_leT, nI_leF, nI_ltT, nI_ltF, nI_eqF, nI_add, pk_mul, ofN, bt_e, or0, Nat.zero_add, Nat.add_zero, ↓reduceIte, if_true, if_false, Bool.false_eq_true, eq_self, li0, li1, li2, li3, li4, li5, li6, li7, li8, li9, li10, li11, li12, li14, li15, li16, li18, li19, li20, li23, li24, li25, li26, li27, li30, li31, li32, li36, li40, li41, li42, li43, li44, li45, li47, li48, li57, li59, li60, li91, li93, li96, li97, li100, li105, li122, li150, li200, li255, li400, li500, li600, li999, li1000, li1001, li2000, li2001, li2002, li2003, li2004, li2005, li2006, li32767, li100000, li_neg, li13, li17, li21, li22, li28, li29, li33, li34, li35, li37, li38, li39, li46, li49, li50, li51, li52, li53, li63, li80, li115, li160]
          · rw [if_neg c6]
            obtain ⟨M5, e5, f5, r5⟩ := (RC_uB ht hE (hρ (by omega)) (hg (by omega))).1 M4 (sk T E a + 1) n L g4 hL4 (by omega)
            refine ⟨M5, ?_, f14.tl.trans f5, r5⟩
            rw [← e5]
            simp (disch := omega) only [f_Law_readOpened, f_Law_readOpened_b, f_Law_readOpened_c, e4, bV_id, bI_s, bV_s, bL_s, bR_s, bG_s, bG_n, bX_l, bX_r, ck_nI, nI_clamp, nI_leT, nI_leF, nI_ltT, nI_ltF, nI_eqF, nI_add, pk_mul, ofN, bt_e, or0, Nat.zero_add, Nat.add_zero, ↓reduceIte, if_true, if_false, Bool.false_eq_true, eq_self, li0, li1, li2, li3, li4, li5, li6, li7, li8, li9, li10, li11, li12, li14, li15, li16, li18, li19, li20, li23, li24, li25, li26, li27, li30, li31, li32, li36, li40, li41, li42, li43, li44, li45, li47, li48, li57, li59, li60, li91, li93, li96, li97, li100, li105, li122, li150, li200, li255, li400, li500, li600, li999, li1000, li1001, li2000, li2001, li2002, li2003, li2004, li2005, li2006, li32767, li100000, li_neg, li13, li17, li21, li22, li28, li29, li33, li34, li35, li37, li38, li39, li46, li49, li50, li51, li52, li53, li63, li80, li115, li160]
        · obtain ⟨M4, e4, f4, g4⟩ := C_takeN (c := 40) g3 (by omega) (by rw [hi]; exact c4)
          rw [hi] at g4
          obtain ⟨M5, f5, q5⟩ := C_word (wd := wLea) g4 wdn_2
          rw [hi] at q5
          have f15 := (f13.trans f4).trans f5
          have hL5 := h2.td f15 (by omega)
          rcases q5 with ⟨c5, e5, g5⟩ | ⟨c5, e5, g5⟩
          · have c5 : cR T E a = wLea := c5
            rw [if_pos (Or.inl c5), if_pos c5]
            rw [← c5] at g5
            by_cases c6 : 6 ≤ op
            · rw [if_pos c6]
              obtain ⟨M6, e6, f6, g6⟩ := C_wrong g5 (k1 := 3) (f1 := sk T E a) (by omega)
              refine ⟨M6, ?_, (f15.trans f6).tl, Or.inr ⟨by show (3 : Nat) ≠ 0; omega, ⟨_, g6⟩, n, by omega, (h2.td (f15.trans f6) (by omega)).1⟩⟩
              simp (disch := omega) only [f_Law_readOpened, f_Law_readOpened_b, f_Law_readOpened_c, e4, e5, e6, bI_s, bV_s, bL_s, bR_s, bG_s, bG_n, bX_l, bX_r, ck_nI, nI_clamp, nI_leT, nI_leF, nI_ltT, nI_ltF, nI_eqF, nI_add, pk_mul, ofN, bt_e, or0, Nat.zero_add, Nat.add_zero, ↓reduceIte, if_true, if_false, Bool.false_eq_true, eq_self, li0, li1, li2, li3, li4, li5, li6, li7, li8, li9, li10, li11, li12, li14, li15, li16, li18, li19, li20, li23, li24, li25, li26, li27, li30, li31, li32, li36, li40, li41, li42, li43, li44, li45, li47, li48, li57, li59, li60, li91, li93, li96, li97, li100, li105, li122, li150, li200, li255, li400, li500, li600, li999, li1000, li1001, li2000, li2001, li2002, li2003, li2004, li2005, li2006, li32767, li100000, li_neg, li13, li17, li21, li22, li28, li29, li33, li34, li35, li37, li38, li39, li46, li49, li50, li51, li52, li53, li63, li80, li115, li160]
            · rw [if_neg c6]
              obtain ⟨M6, e6, f6, r6⟩ := (RC_uO (w := 2005) ht hE (hρ (by omega)) (hg (by omega))).1 M5 (sk T E a + (cR T E a).length) n L g5 hL5 (by omega)
              refine ⟨M6, ?_, f15.tl.trans f6, r6⟩
              rw [← e6]
              simp (disch := omega) only [f_Law_readOpened, f_Law_readOpened_b, f_Law_readOpened_c, f_Law_readOpened_d, e4, e5, bV_id, bI_s, bV_s, bL_s, bR_s, bG_s, bG_n, bX_l, bX_r, ck_nI, nI_clamp, nI_leT, nI_leF, nI_ltT, nI_ltF, nI_eqF, nI_add, pk_mul, ofN, bt_e, or0, Nat.zero_add, Nat.add_zero, ↓reduceIte, if_true, if_false, Bool.false_eq_true, eq_self, li0, li1, li2, li3, li4, li5, li6, li7, li8, li9, li10, li11, li12, li14, li15, li16, li18, li19, li20, li23, li24, li25, li26, li27, li30, li31, li32, li36, li40, li41, li42, li43, li44, li45, li47, li48, li57, li59, li60, li91, li93, li96, li97, li100, li105, li122, li150, li200, li255, li400, li500, li600, li999, li1000, li1001, li2000, li2001, li2002, li2003, li2004, li2005, li2006, li32767, li100000, li_neg, li13, li17, li21, li22, li28, li29, li33, li34, li35, li37, li38, li39, li46, li49, li50, li51, li52, li53, li63, li80, li115, li160]
          · have c5 : cR T E a ≠ wLea := c5
            obtain ⟨M6, f6, q6⟩ := C_word (wd := wMos) g5 wdn_3
            rw [hi] at q6
            have f16 := f15.trans f6
            have hL6 := h2.td f16 (by omega)
            rcases q6 with ⟨c6, e6, g6⟩ | ⟨c6, e6, g6⟩
            · have c6 : cR T E a = wMos := c6
              rw [if_pos (Or.inr c6), if_neg c5]
              rw [← c6] at g6
              by_cases c7 : 6 ≤ op
              · rw [if_pos c7]
                obtain ⟨M7, e7, f7, g7⟩ := C_wrong g6 (k1 := 3) (f1 := sk T E a) (by omega)
                refine ⟨M7, ?_, (f16.trans f7).tl, Or.inr ⟨by show (3 : Nat) ≠ 0; omega, ⟨_, g7⟩, n, by omega, (h2.td (f16.trans f7) (by omega)).1⟩⟩
                simp (disch := omega) only [f_Law_readOpened, f_Law_readOpened_b, f_Law_readOpened_c, e4, e5, e6, e7, bI_s, bV_s, bL_s, bR_s, bG_s, bG_n, bX_l, bX_r, ck_nI, nI_clamp, nI_leT, nI_leF, nI_ltT, nI_ltF, nI_eqF, nI_add, pk_mul, ofN, bt_e, or0, Nat.zero_add, Nat.add_zero, ↓reduceIte, if_true, if_false, Bool.false_eq_true, eq_self, li0, li1, li2, li3, li4, li5, li6, li7, li8, li9, li10, li11, li12, li14, li15, li16, li18, li19, li20, li23, li24, li25, li26, li27, li30, li31, li32, li36, li40, li41, li42, li43, li44, li45, li47, li48, li57, li59, li60, li91, li93, li96, li97, li100, li105, li122, li150, li200, li255, li400, li500, li600, li999, li1000, li1001, li2000, li2001, li2002, li2003, li2004, li2005, li2006, li32767, li100000, li_neg, li13, li17, li21, li22, li28, li29, li33, li34, li35, li37, li38, li39, li46, li49, li50, li51, li52, li53, li63, li80, li115, li160]
              · rw [if_neg c7]
                obtain ⟨M7, e7, f7, r7⟩ := (RC_uO (w := 2006) ht hE (hρ (by omega)) (hg (by omega))).1 M6 (sk T E a + (cR T E a).length) n L g6 hL6 (by omega)
                refine ⟨M7, ?_, f16.tl.trans f7, r7⟩
                rw [← e7]
                simp (disch := omega) only [f_Law_readOpened, f_Law_readOpened_b, f_Law_readOpened_c, f_Law_readOpened_d, e4, e5, e6, bV_id, bI_s, bV_s, bL_s, bR_s, bG_s, bG_n, bX_l, bX_r, ck_nI, nI_clamp, nI_leT, nI_leF, nI_ltT, nI_ltF, nI_eqF, nI_add, pk_mul, ofN, bt_e, or0, Nat.zero_add, Nat.add_zero, ↓reduceIte, if_true, if_false, Bool.false_eq_true, eq_self, li0, li1, li2, li3, li4, li5, li6, li7, li8, li9, li10, li11, li12, li14, li15, li16, li18, li19, li20, li23, li24, li25, li26, li27, li30, li31, li32, li36, li40, li41, li42, li43, li44, li45, li47, li48, li57, li59, li60, li91, li93, li96, li97, li100, li105, li122, li150, li200, li255, li400, li500, li600, li999, li1000, li1001, li2000, li2001, li2002, li2003, li2004, li2005, li2006, li32767, li100000, li_neg, li13, li17, li21, li22, li28, li29, li33, li34, li35, li37, li38, li39, li46, li49, li50, li51, li52, li53, li63, li80, li115, li160]
            · have c6 : cR T E a ≠ wMos := c6
              rw [if_neg (fun q => by rcases q with q | q; exact c5 q; exact c6 q), if_neg c4]
              obtain ⟨M7, e7, f7, g7⟩ := C_wrong g6 (k1 := 1) (f1 := sk T E a) (by omega)
              refine ⟨M7, ?_, (f16.trans f7).tl, Or.inr ⟨by show (1 : Nat) ≠ 0; omega, ⟨_, g7⟩, n, by omega, (h2.td (f16.trans f7) (by omega)).1⟩⟩
              simp (disch := omega) only [f_Law_readOpened, f_Law_readOpened_b, e4, e5, e6, e7, bI_s, bV_s, bL_s, bR_s, bG_s, bG_n, bX_l, bX_r, ck_nI, nI_clamp, nI_leT, nI_leF, nI_ltT, nI_ltF, nI_eqF, nI_add, pk_mul, ofN, bt_e, or0, Nat.zero_add, Nat.add_zero, ↓reduceIte, if_true, if_false, Bool.false_eq_true, eq_self, li0, li1, li2, li3, li4, li5, li6, li7, li8, li9, li10, li11, li12, li14, li15, li16, li18, li19, li20, li23, li24, li25, li26, li27, li30, li31, li32, li36, li40, li41, li42, li43, li44, li45, li47, li48, li57, li59, li60, li91, li93, li96, li97, li100, li105, li122, li150, li200, li255, li400, li500, li600, li999, li1000, li1001, li2000, li2001, li2002, li2003, li2004, li2005, li2006, li32767, li100000, li_neg, li13, li17, li21, li22, li28, li29, li33, li34, li35, li37, li38, li39, li46, li49, li50, li51, li52, li53, li63, li80, li115, li160]
    · rw [if_neg c1] at g2
      rw [if_pos c1]
      have l1 := len_1 (r := cR T E a) (fun q => c1 (by rw [q]; exact kgv_nil))
      have e2 : f_Law_givenWord t M1 = some (nI (kgv (cR T E a)), M2) := by rw [e2]; unfold kgvI; rw [if_neg c1]
      obtain ⟨e5, g5⟩ := C_putL (c := 1000 + kgv (cR T E a)) hL2 (by omega)
      have f5 : FX (fun a j => (a = l ∧ j = 2) ∨ a = l + 1) M2 (sI (sI M2 (l + 1) n (nI (1000 + kgv (cR T E a)))) l 2 (nI (n + 1))) := ((FX.rf _ M2).sI (by omega)).sI (by omega)
      refine ⟨_, ?_, f12.tl.trans (f5.mono (fun _ _ q => Or.inr q)), Or.inl ⟨rfl, g2.fx f5 (fun j q => by omega) (fun j q => by omega), g5⟩⟩
      have ne : (4294967295 : Nat) ≠ kgv (cR T E a) := by omega
      simp (disch := omega) only [f_Law_readUnit, e1, e2, e5, bI_s, bV_s, bL_s, bR_s, bG_s, bG_n, bX_l, bX_r, ck_nI, nI_clamp, nI_leT, nI_leF, nI_ltT, nI_ltF, nI_eqF, nI_add, pk_mul, ofN, bt_e, or0, Nat.zero_add, Nat.add_zero, ↓reduceIte, if_true, if_false, Bool.false_eq_true, eq_self, li0, li1, li2, li3, li4, li5, li6, li7, li8, li9, li10, li11, li12, li14, li15, li16, li18, li19, li20, li23, li24, li25, li26, li27, li30, li31, li32, li36, li40, li41, li42, li43, li44, li45, li47, li48, li57, li59, li60, li91, li93, li96, li97, li100, li105, li122, li150, li200, li255, li400, li500, li600, li999, li1000, li1001, li2000, li2001, li2002, li2003, li2004, li2005, li2006, li32767, li100000, li_neg, li13, li17, li21, li22, li28, li29, li33, li34, li35, li37, li38, li39, li46, li49, li50, li51, li52, li53, li63, li80, li115, li160]
  · obtain ⟨a, g⟩ := h1.1
    obtain ⟨M1, e1, f1, g1⟩ := C_next g
    have e2 := C_gwF g1 hk
    have e3 := C_comesF g1 hk
    have e4 := C_takeF g1 hk (nI 40)
    have e5 : ∀ n, f_Tape_takesWord t n M1 = some (nI 0, M1) := fun n => C_wordF g1 hk
    have g4 := g1.1.2.2.1
    have hk3 := g1.2.2.1
    refine ⟨M1, ?_, f1.tl, h1.td f1 (by omega) ⟨_, g1⟩⟩
    simp (disch := omega) only [f_Law_readUnit, f_Law_readOpened, f_Law_readOpened_b, f_Tape_wrong, e1, e2, e3, e4, e5, g4, bI_s, bV_s, bL_s, bR_s, bG_s, bG_n, bX_l, bX_r, ck_nI, nI_clamp, nI_leT, nI_leF, nI_ltT, nI_ltF, nI_eqF, nI_add, pk_mul, ofN, bt_e, or0, Nat.zero_add, Nat.add_zero, ↓reduceIte, if_true, if_false, Bool.false_eq_true, eq_self, li0, li1, li2, li3, li4, li5, li6, li7, li8, li9, li10, li11, li12, li14, li15, li16, li18, li19, li20, li23, li24, li25, li26, li27, li30, li31, li32, li36, li40, li41, li42, li43, li44, li45, li47, li48, li57, li59, li60, li91, li93, li96, li97, li100, li105, li122, li150, li200, li255, li400, li500, li600, li999, li1000, li1001, li2000, li2001, li2002, li2003, li2004, li2005, li2006, li32767, li100000, li_neg, li13, li17, li21, li22, li28, li29, li33, li34, li35, li37, li38, li39, li46, li49, li50, li51, li52, li53, li63, li80, li115, li160]
end
