/-! # functional level, 80: the model reads a step -/
section
variable {M M' M1 M2 N N' : Mm} {m E a k f n c op R x : Nat} {T : Nat → Nat} {B B' P : TT} {ρ : Nat → Mm → Option Mm} {φ : Nat → Nat → TT → Ov} {p0 p1 : Int32}
theorem M_hF (h : MTp M m T E a k f) (hk : k ≠ 0) (w : Nat) : f_M_readsStep_h ρ (w + 1) m (nI 4) R M = f_M_readsStep_j ρ m (nI 4) R (sI M m 8 (gI M m 8 - nI 1)) := by
  have y5 := h.1.2.2.1
  have hk3 := h.2.2.1
  have e4 := M_signF h hk (nI 93)
  simp (disch := omega) only [f_M_readsStep_h, f_M_readsStep_i, y5, e4, bI_s, bV_s, bL_s, bR_s, bG_s, bG_n, bX_l, bX_r, ck_nI, nI_clamp, nI_leT, nI_leF, nI_ltT, nI_ltF, nI_eqF, nI_add, pk_mul, ofN, bt_e, or0, Nat.zero_add, Nat.add_zero, ↓reduceIte, if_true, if_false, Bool.false_eq_true, eq_self, li0, li1, li2, li3, li4, li5, li6, li7, li8, li9, li10, li11, li12, li14, li15, li16, li18, li19, li20, li23, li24, li25, li26, li27, li30, li31, li32, li36, li40, li41, li42, li43, li44, li45, li47, li48, li57, li59, li60, li91, li93, li96, li97, li100, li105, li122, li150, li200, li255, li400, li500, li600, li999, li1000, li1001, li2000, li2001, li2002, li2003, li2004, li2005, li2006, li32767, li100000, li_neg, li13, li17, li21, li22, li28, li29, li33, li34, li35, li37, li38, li39, li46, li49, li50, li51, li52, li53, li63, li80, li115, li160]
theorem SM_again (hE : E ≤ 150) (hop : op < 6) (hρ : SM m P T E (op + 1) (ρ m) φ) (hg : ∀ a n B, a ≤ E → gW P E (op + 1) a n B (φ a n B)) (hsk : ∀ a n B, a ≤ E → φ (sk T E a) n B = φ a n B) {b : Nat} (hR : n < 25) (h1 : MTp M m T E b 0 4294967295) (h32 : gI M m 32 = nI (n + 1)) (h8 : gI M m 8 = nI (op + 1)) (h3 : pt3 M m P) (hs : ∀ v, isSt (sI M (m + 389 + 1 + n) 1 (nI v)) m (n + 1) (bSt B n 4 v 0 0 0)) (hb : 6 * n + 5 ≤ b) : ∃ M', f_M_readsStep_g ρ m (nI 4) (m + 389 + 1 + n) M = some M' ∧ FX (wkD m) M M' ∧ mW M' m T E op (nmW T E (nI 0) (nI 30) b n B (fun v a1 => bW (sgW T E 91 a1 (n + 1) (bSt B n 4 v 0 0 0)) (fun a2 n2 B2 => bW (wI φ T E (E + 1) a2 n2 B2) (fun a3 n3 B3 => sgW T E 59 a3 n3 (up B3 4 n n3))))) := by
  have hRR : m + 390 ≤ m + 389 + 1 + n ∧ m + 389 + 1 + n < m + 470 := by omega
  obtain ⟨z, M2, e2, f2, hc⟩ := M_numb (p0 := nI 0) (p1 := nI 30) h1 (by decide)
  have hbE := h1.2.2.1.1
  have fN : FX (wkD m) M (sI M2 (m + 389 + 1 + n) 1 z) := fx_rw f2.wu hRR
  have fault : ∀ (M4 M5 : Mm) {kk ff : Nat}, kk ≠ 0 → f_M_sign m (nI 91) (sI M2 (m + 389 + 1 + n) 1 z) = some M4 → FX (wkD m) M M4 → (∃ a', MTp M4 m T E a' kk ff) → ∃ M', f_M_readsStep_g ρ m (nI 4) (m + 389 + 1 + n) M = some M' ∧ FX (wkD m) M M' ∧ ∃ a', MTp M' m T E a' kk ff := fun M4 _ {kk ff} hk e4 f4 hh => by
    obtain ⟨a', hh⟩ := hh
    obtain ⟨M6, e6, f6, g6⟩ := M_blanks hh
    have g7 : MTp (sI M6 m 8 (gI M6 m 8 - nI 1)) m T E _ kk ff := g6.s7 (by omega) _
    obtain ⟨M8, e8, f8, g8⟩ := M_jF (ρ := ρ) hRR g7 hk (nI 4)
    have e7 : f_M_readsStep_h ρ FU m (nI 4) (m + 389 + 1 + n) M6 = some M8 := (M_hF g6 hk 9999).trans e8
    refine ⟨M8, ?_, ((f4.trans f6.wu).sI (Or.inr (Or.inl ⟨rfl, Or.inl rfl⟩))).trans f8, _, g8⟩
    simp (disch := omega) only [f_M_readsStep_g, e2, e4, e6, e7, bI_s, bV_s, bL_s, bR_s, bG_s, bG_n, bX_l, bX_r, ck_nI, nI_clamp, nI_leT, nI_leF, nI_ltT, nI_ltF, nI_eqF, nI_add, pk_mul, ofN, bt_e, or0, Nat.zero_add, Nat.add_zero, ↓reduceIte, if_true, if_false, Bool.false_eq_true, eq_self, li0, li1, li2, li3, li4, li5, li6, li7, li8, li9, li10, li11, li12, li14, li15, li16, li18, li19, li20, li23, li24, li25, li26, li27, li30, li31, li32, li36, li40, li41, li42, li43, li44, li45, li47, li48, li57, li59, li60, li91, li93, li96, li97, li100, li105, li122, li150, li200, li255, li400, li500, li600, li999, li1000, li1001, li2000, li2001, li2002, li2003, li2004, li2005, li2006, li32767, li100000, li_neg, li13, li17, li21, li22, li28, li29, li33, li34, li35, li37, li38, li39, li46, li49, li50, li51, li52, li53, li63, li80, li115, li160]
  rcases hc with ⟨k1, hz, g2⟩ | ⟨k1, a', g2⟩
  · rw [nmW_s k1]
    have b1 := nE_b (T := T) hbE
    have b2 := nE_gt hbE k1
    subst hz
    have hs := hs (nV T E b)
    generalize nV T E b = v at hs e2 fN fault ⊢
    generalize nE T E b = a1 at b1 b2 g2 ⊢
    have g3 := g2.rw hRR.1 1 (nI v)
    have hs2 : isSt (sI M2 (m + 389 + 1 + n) 1 (nI v)) m (n + 1) (bSt B n 4 v 0 0 0) := hs.mv (by rw [gI_ne (by omega), gI_ne (by omega), f2.2.1 _ _ (by unfold uD; omega)]) (fun k j hk => by
      by_cases q : k = n ∧ j = 1
      · rw [gI_eq2 (by omega) q.2, gI_eq2 (by omega) q.2]
      · rw [gI_ne (by omega), gI_ne (by omega), f2.2.1 _ _ (by unfold uD; omega)])
    have p8 : gI (sI M2 (m + 389 + 1 + n) 1 (nI v)) m 8 = nI (op + 1) := by rw [gI_ne (by omega)]; exact op_ud h8 f2
    by_cases k2 : sk T E a1 < E ∧ T (sk T E a1) = 91
    · have sp : sgW T E 91 a1 (n + 1) (bSt B n 4 v 0 0 0) = (0, 4294967295, sk T E a1 + 1, n + 1, bSt B n 4 v 0 0 0) := if_pos k2
      rw [sp, bW_s rfl]
      dsimp only
      have hs1 := sk_b (T := T) b1.2
      obtain ⟨M4, e4, f4, g4⟩ := M_signY g3 k2.1 k2.2
      obtain ⟨M6, e6, f6, g6⟩ := M_blanks g4
      have f46 := f4.trans f6
      have f06 : FX (wkD m) M M6 := fN.trans f46.wu
      obtain ⟨M7, e7, f7, r7⟩ := M_inner (R := m + 389 + 1 + n) hRR hE hρ hg hsk (E + 1) (sk T E a1 + 1) (n + 1) (bSt B n 4 v 0 0 0) FU M6 (by omega) g6 (hs2.ud f46) (op_ud p8 f46) (h3.wk f06) (by omega) (by omega) (FU_lt (by omega))
      have gl := wI_g (T := T) hg (E + 1) (sk T E a1 + 1) (n + 1) (bSt B n 4 v 0 0 0) (by omega)
      have eg : ∀ X, f_M_readsStep_j ρ m (nI 4) (m + 389 + 1 + n) (sI M7 m 8 (gI M7 m 8 - nI 1)) = X → f_M_readsStep_g ρ m (nI 4) (m + 389 + 1 + n) M = X := fun X hX => by
        simp (disch := omega) only [f_M_readsStep_g, e2, e4, e6, bI_s, bV_s, bL_s, bR_s, bG_s, bG_n, bX_l, bX_r, ck_nI, nI_clamp, nI_leT, nI_leF, nI_ltT, nI_ltF, nI_eqF, nI_add, pk_mul, ofN, bt_e, or0, Nat.zero_add, Nat.add_zero, ↓reduceIte, if_true, if_false, Bool.false_eq_true, eq_self, li0, li1, li2, li3, li4, li5, li6, li7, li8, li9, li10, li11, li12, li14, li15, li16, li18, li19, li20, li23, li24, li25, li26, li27, li30, li31, li32, li36, li40, li41, li42, li43, li44, li45, li47, li48, li57, li59, li60, li91, li93, li96, li97, li100, li105, li122, li150, li200, li255, li400, li500, li600, li999, li1000, li1001, li2000, li2001, li2002, li2003, li2004, li2005, li2006, li32767, li100000, li_neg, li13, li17, li21, li22, li28, li29, li33, li34, li35, li37, li38, li39, li46, li49, li50, li51, li52, li53, li63, li80, li115, li160]
        exact e7.trans hX
      generalize wI φ T E (E + 1) (sk T E a1 + 1) (n + 1) (bSt B n 4 v 0 0 0) = r at r7 gl ⊢
      rcases r7 with ⟨c7, g7, L7, p7⟩ | ⟨c7, a7, g7⟩
      · rw [bW_s c7]
        obtain ⟨⟨y1, y2, y3⟩, ⟨y4, y5⟩, _⟩ := gl c7
        rw [p7, nI_prd] at eg
        have f08 : FX (wkD m) M (sI M7 m 8 (nI op)) := (f06.trans f7).sI (Or.inr (Or.inl ⟨rfl, Or.inl rfl⟩))
        obtain ⟨M9, e9, f9, r9⟩ := M_jY (ρ := ρ) (n := r.2.2.2.1) (op := op) (B := up r.2.2.2.2 4 n r.2.2.2.1) hRR (g7.s7 (j := 8) (by omega) (nI op)) (by rw [gI_ne (by omega)]; exact L7.1) (gI_same ..) (by
          refine ⟨by rw [gI_ne (by omega), gI_ne (by omega)]; exact L7.1, fun k hk => ?_⟩
          have u := L7.2 k hk
          by_cases ck : k = n
          · subst ck
            have k4 : r.2.2.2.2 0 k = 4 := by rw [y5 0 k (by omega), bSt_0]
            rw [gI_ne (by omega), gI_ne (by omega), gI_ne (by omega), gI_ne (by omega), gI_ne (by omega), gI_ne (by omega), gI_ne (by omega), gI_ne (by omega), gI_same, up_n (by omega), up_n (by omega), up_n (by omega), up_n (by omega), up_s]
            exact ⟨u.1, fun z => by omega, fun z => by omega, fun z => by omega, u.2.2.2.2.1, fun _ => rfl⟩
          · rw [gI_ne (by omega), gI_ne (by omega), gI_ne (by omega), gI_ne (by omega), gI_ne (by omega), gI_ne (by omega), gI_ne (by omega), gI_ne (by omega), gI_ne (by omega), gI_ne (by omega), up_n (by omega), up_n (by omega), up_n (by omega), up_n (by omega), up_n (by omega)]
            exact u) (nI 4)
        exact ⟨M9, eg _ e9, f08.trans f9, r9⟩
      · rw [bW_f c7]
        obtain ⟨M9, e9, f9, g9⟩ := M_jF (ρ := ρ) hRR (g7.s7 (j := 8) (by omega) (gI M7 m 8 - nI 1)) c7 (nI 4)
        exact ⟨M9, eg _ e9, ((f06.trans f7).sI (Or.inr (Or.inl ⟨rfl, Or.inl rfl⟩))).trans f9, Or.inr ⟨c7, _, g9⟩⟩
    · have sp : sgW T E 91 a1 (n + 1) (bSt B n 4 v 0 0 0) = (1, sk T E a1, 0, n + 1, bSt B n 4 v 0 0 0) := if_neg k2
      rw [sp, bW_f (by show (1 : Nat) ≠ 0; omega)]
      obtain ⟨M4, e4, f4, g4⟩ := M_signN g3 (by omega) k2
      obtain ⟨M8, e8, f8, g8⟩ := fault M4 M4 (by omega) e4 (fN.trans f4.wu) ⟨_, g4⟩
      exact ⟨M8, e8, f8, Or.inr ⟨by show (1 : Nat) ≠ 0; omega, g8⟩⟩
  · rw [nmW_f k1]
    have g3 := g2.rw hRR.1 1 z
    obtain ⟨M8, e8, f8, g8⟩ := fault _ M2 k1 (M_signF g3 k1 _) fN ⟨_, g3⟩
    exact ⟨M8, e8, f8, Or.inr ⟨k1, g8⟩⟩
theorem SM_step (hE : E ≤ 150) (oP : okP P) (hop : op ≤ 6) (hρ : op < 6 → SM m P T E (op + 1) (ρ m) φ) (hg : op < 6 → ∀ a n B, a ≤ E → gW P E (op + 1) a n B (φ a n B)) (hsk : op < 6 → ∀ a n B, a ≤ E → φ (sk T E a) n B = φ a n B) : SM m P T E op (f_M_readsStep_0 ρ m) (wT0 (wI φ T E (E + 1)) P T E op) := by
  intro M a n B h1 h2 h3 h4 h5
  have ha := h1.2.2.1.1
  have hT := h1.2.2.2
  have hs := sk_b (T := T) ha
  have hi := sk_i (T := T) ha
  have hcl := cR_len (T := T) ha
  have hr := oP.r
  have hb := oP.b
  have hw := oP.w
  obtain ⟨l0, l1, l2, l3, l4⟩ := kst_len (cR T E a)
  have k5 := kst_5 (cR T E a)
  obtain ⟨M1, e1, f1, g1⟩ := M_step h1
  have y5 := g1.1.2.2.1
  have y4 := g1.1.2.1
  have p1 := op_ud h3 f1
  have L1 := h2.ud f1
  have nn : n < 26 := by omega
  have hR : n < 25 → m + 390 ≤ m + 389 + 1 + n ∧ m + 389 + 1 + n < m + 470 := by omega
  -- behind the word, in any memory that has it ahead
  have skip : ∀ (M1 : Mm), MTp M1 m T E (sk T E a) 0 4294967295 → ∃ M2, f_M_skipWord m M1 = some M2 ∧ FX (uD m) M1 M2 ∧ MTp M2 m T E (sk T E a + (cR T E a).length) 0 4294967295 := fun M1 g1 => M_skip g1
  unfold wT0
  by_cases c0 : kst (cR T E a) = 0
  · rw [if_pos c0]
    have l0 := l0 c0
    have hR := hR (by omega)
    have e1 : f_M_stepHere m M = some (nI 0, M1) := by rw [e1, c0]; rfl
    obtain ⟨M2, e2, f2, g2⟩ := skip M1 g1
    have L2 := L1.ud f2
    have m32 := L2.1
    have g3 := (g2.s7 (j := 32) (by omega) (nI (n + 1))).rw hR.1 0 (nI 0)
    have f03 : FX (wkD m) M (sI (sI M2 m 32 (nI (n + 1))) (m + 389 + 1 + n) 0 (nI 0)) := fx_rw ((f1.trans f2).wu.sI (Or.inr (Or.inl ⟨rfl, Or.inr rfl⟩))) hR
    have t3 := h4.wk f03
    have q32 : gI (sI (sI M2 m 32 (nI (n + 1))) (m + 389 + 1 + n) 0 (nI 0)) m 32 = nI (n + 1) := by rw [gI_ne (by omega), gI_same]
    have q8 : gI (sI (sI M2 m 32 (nI (n + 1))) (m + 389 + 1 + n) 0 (nI 0)) m 8 = nI op := by rw [gI_ne (by omega), gI_ne (by omega)]; exact op_ud p1 f2
    obtain ⟨z1, M3, e3, f3, hc1⟩ := M_numb (p0 := nI 0) (p1 := nI (P 0 5) - nI 1) g3 (nI_s1 (by omega))
    have w2 := t3.2.2
    have ed : f_M_readsStep_0 ρ m M = f_M_readsStep_d ρ m (nI 0) (m + 389 + 1 + n) (sI M3 (m + 389 + 1 + n) 1 z1) := by
      simp (disch := omega) only [f_M_readsStep_0, f_M_readsStep_b, f_M_readsStep_c, e1, y5, e2, m32, w2, e3, bI_s, bV_s, bL_s, bR_s, bG_s, bG_n, bX_l, bX_r, ck_nI, nI_clamp, nI_leT, nI_leF, nI_ltT, nI_ltF, nI_eqF, nI_add, pk_mul, ofN, bt_e, or0, Nat.zero_add, Nat.add_zero, ↓reduceIte, if_true, if_false, Bool.false_eq_true, eq_self, li0, li1, li2, li3, li4, li5, li6, li7, li8, li9, li10, li11, li12, li14, li15, li16, li18, li19, li20, li23, li24, li25, li26, li27, li30, li31, li32, li36, li40, li41, li42, li43, li44, li45, li47, li48, li57, li59, li60, li91, li93, li96, li97, li100, li105, li122, li150, li200, li255, li400, li500, li600, li999, li1000, li1001, li2000, li2001, li2002, li2003, li2004, li2005, li2006, li32767, li100000, li_neg, li13, li17, li21, li22, li28, li29, li33, li34, li35, li37, li38, li39, li46, li49, li50, li51, li52, li53, li63, li80, li115, li160]
    have f04 : FX (wkD m) M (sI M3 (m + 389 + 1 + n) 1 z1) := fx_rw (f03.trans f3.wu) hR
    rcases hc1 with ⟨k1, hz1, g4⟩ | ⟨k1, a', g4⟩
    · rw [nmW_s k1]
      have b1 := nE_b (T := T) hcl
      generalize nE T E (sk T E a + (cR T E a).length) = a1 at b1 g4 ⊢
      generalize nV T E (sk T E a + (cR T E a).length) = v1 at hz1 ⊢
      subst hz1
      have t4 := (h4.wk f04).2.1
      obtain ⟨z2, M5, e5, f5, hc2⟩ := M_numb (p0 := nI 0) (p1 := nI (P 0 2) - nI 1) (g4.rw hR.1 1 (nI v1)) (nI_s1 (by omega))
      have ee : f_M_readsStep_d ρ m (nI 0) (m + 389 + 1 + n) (sI M3 (m + 389 + 1 + n) 1 (nI v1)) = f_M_readsStep_e ρ m (nI 0) (m + 389 + 1 + n) (sI M5 (m + 389 + 1 + n) 2 z2) := by
        simp (disch := omega) only [f_M_readsStep_d, t4, e5, bI_s, bV_s, bL_s, bR_s, bG_s, bG_n, bX_l, bX_r, ck_nI, nI_clamp, nI_leT, nI_leF, nI_ltT, nI_ltF, nI_eqF, nI_add, pk_mul, ofN, bt_e, or0, Nat.zero_add, Nat.add_zero, ↓reduceIte, if_true, if_false, Bool.false_eq_true, eq_self, li0, li1, li2, li3, li4, li5, li6, li7, li8, li9, li10, li11, li12, li14, li15, li16, li18, li19, li20, li23, li24, li25, li26, li27, li30, li31, li32, li36, li40, li41, li42, li43, li44, li45, li47, li48, li57, li59, li60, li91, li93, li96, li97, li100, li105, li122, li150, li200, li255, li400, li500, li600, li999, li1000, li1001, li2000, li2001, li2002, li2003, li2004, li2005, li2006, li32767, li100000, li_neg, li13, li17, li21, li22, li28, li29, li33, li34, li35, li37, li38, li39, li46, li49, li50, li51, li52, li53, li63, li80, li115, li160]
      have f06 : FX (wkD m) M (sI M5 (m + 389 + 1 + n) 2 z2) := fx_rw (f04.trans f5.wu) hR
      rcases hc2 with ⟨k2, hz2, g6⟩ | ⟨k2, a', g6⟩
      · rw [nmW_s k2]
        have b3 := nE_b (T := T) b1.2
        generalize nE T E a1 = a2 at b3 g6 ⊢
        generalize nV T E a1 = v2 at hz2 ⊢
        subst hz2
        have t6 := (h4.wk f06).1
        obtain ⟨z3, M7, e7, f7, hc3⟩ := M_numb (p0 := nI 0) (p1 := nI (P 0 0) - nI 1) (g6.rw hR.1 2 (nI v2)) (nI_s1 (by omega))
        have ef : f_M_readsStep_e ρ m (nI 0) (m + 389 + 1 + n) (sI M5 (m + 389 + 1 + n) 2 (nI v2)) = f_M_readsStep_j ρ m (nI 0) (m + 389 + 1 + n) (sI M7 (m + 389 + 1 + n) 3 z3) := by
          simp (disch := omega) only [f_M_readsStep_e, f_M_readsStep_f, f_M_readsStep_g, t6, e7, bI_s, bV_s, bL_s, bR_s, bG_s, bG_n, bX_l, bX_r, ck_nI, nI_clamp, nI_leT, nI_leF, nI_ltT, nI_ltF, nI_eqF, nI_add, pk_mul, ofN, bt_e, or0, Nat.zero_add, Nat.add_zero, ↓reduceIte, if_true, if_false, Bool.false_eq_true, eq_self, li0, li1, li2, li3, li4, li5, li6, li7, li8, li9, li10, li11, li12, li14, li15, li16, li18, li19, li20, li23, li24, li25, li26, li27, li30, li31, li32, li36, li40, li41, li42, li43, li44, li45, li47, li48, li57, li59, li60, li91, li93, li96, li97, li100, li105, li122, li150, li200, li255, li400, li500, li600, li999, li1000, li1001, li2000, li2001, li2002, li2003, li2004, li2005, li2006, li32767, li100000, li_neg, li13, li17, li21, li22, li28, li29, li33, li34, li35, li37, li38, li39, li46, li49, li50, li51, li52, li53, li63, li80, li115, li160]
        have f08 : FX (wkD m) M (sI M7 (m + 389 + 1 + n) 3 z3) := fx_rw (f06.trans f7.wu) hR
        rcases hc3 with ⟨k3, hz3, g8⟩ | ⟨k3, a', g8⟩
        · rw [nmW_s k3]
          generalize nE T E a2 = a3 at g8 ⊢
          generalize nV T E a2 = v3 at hz3 ⊢
          subst hz3
          have up7 : ∀ x j, ¬ uD m x j → ¬ (x = m + 389 + 1 + n) → gI M7 x j = gI (sI (sI M2 m 32 (nI (n + 1))) (m + 389 + 1 + n) 0 (nI 0)) x j := fun x j q1 q2 => by
            rw [f7.2.1 _ _ q1, gI_ne (Or.inl q2), f5.2.1 _ _ q1, gI_ne (Or.inl q2), f3.2.1 _ _ q1]
          obtain ⟨M9, e9, f9, r9⟩ := M_jY (ρ := ρ) (n := n + 1) (op := op) (B := bSt B n 0 v1 v2 v3 (n + 1)) hR (g8.rw hR.1 3 (nI v3)) (by rw [gI_ne (by omega), up7 _ _ (by unfold uD; omega) (by omega)]; exact q32) (by rw [gI_ne (by omega), up7 _ _ (by unfold uD; omega) (by omega)]; exact q8) (by
            refine L2.nx (by rw [gI_ne (by omega), gI_ne (by omega), up7 _ _ (by unfold uD; omega) (by omega)]; exact q32) (fun k j hk => ?_) (fun i k hk => bSt_o (by omega)) ?_
            · rw [gI_ne (by omega), gI_ne (by omega), up7 _ _ (by unfold uD; omega) (by omega), gI_ne (by omega), gI_ne (by omega)]
            · rw [bSt_0, bSt_1, bSt_2, bSt_3, bSt_4]
              refine ⟨?_, fun _ => ⟨?_, ?_, ?_⟩, fun z => by omega, fun z => by omega, fun z => by omega, fun _ => gI_same ..⟩
              · rw [gI_ne (by omega), gI_ne (by omega), f7.2.1 _ _ (by unfold uD; omega), gI_ne (by omega), f5.2.1 _ _ (by unfold uD; omega), gI_ne (by omega), f3.2.1 _ _ (by unfold uD; omega), gI_same]
              · rw [gI_ne (by omega), gI_ne (by omega), f7.2.1 _ _ (by unfold uD; omega), gI_ne (by omega), f5.2.1 _ _ (by unfold uD; omega), gI_same]
              · rw [gI_ne (by omega), gI_ne (by omega), f7.2.1 _ _ (by unfold uD; omega), gI_same]
              · rw [gI_ne (by omega), gI_same]) (nI 0)
          exact ⟨M9, ((ed.trans ee).trans ef).trans e9, f08.trans f9, r9⟩
        · rw [nmW_f k3]
          obtain ⟨M9, e9, f9, g9⟩ := M_jF (ρ := ρ) hR (g8.rw hR.1 3 z3) k3 (nI 0)
          exact ⟨M9, ((ed.trans ee).trans ef).trans e9, f08.trans f9, Or.inr ⟨k3, _, g9⟩⟩
      · rw [nmW_f k2]
        obtain ⟨M9, e9, f9, g9⟩ := M_eF (ρ := ρ) (x := 0) hR (g6.rw hR.1 2 z2) k2 (by omega)
        exact ⟨M9, (ed.trans ee).trans e9, f06.trans f9, Or.inr ⟨k2, _, g9⟩⟩
    · rw [nmW_f k1]
      obtain ⟨M9, e9, f9, g9⟩ := M_dF (ρ := ρ) (x := 0) hR (g4.rw hR.1 1 z1) k1 (by omega)
      exact ⟨M9, ed.trans e9, f04.trans f9, Or.inr ⟨k1, _, g9⟩⟩
  · rw [if_neg c0]
    by_cases c1 : kst (cR T E a) = 1
    · rw [if_pos c1]
      have l1 := l1 c1
      have e1 : f_M_stepHere m M = some (nI 1, M1) := by rw [e1, c1]; rfl
      obtain ⟨M2, e2, f2, g2⟩ := skip M1 g1
      have hR := hR (by omega)
      have L2 := L1.ud f2
      have m32 := L2.1
      have g3 := (g2.s7 (j := 32) (by omega) (nI (n + 1))).rw hR.1 0 (nI 1)
      have f03 : FX (wkD m) M (sI (sI M2 m 32 (nI (n + 1))) (m + 389 + 1 + n) 0 (nI 1)) := fx_rw ((f1.trans f2).wu.sI (Or.inr (Or.inl ⟨rfl, Or.inr rfl⟩))) hR
      have t3 := h4.wk f03
      have w2 := t3.2.1
      obtain ⟨z1, M3, e3, f3, hc1⟩ := M_numb (p0 := nI 0) (p1 := nI (P 0 2) - nI 1) g3 (nI_s1 (by omega))
      have ed : f_M_readsStep_0 ρ m M = f_M_readsStep_e ρ m (nI 1) (m + 389 + 1 + n) (sI M3 (m + 389 + 1 + n) 2 z1) := by
        have s1 : f_M_readsStep_0 ρ m M = f_M_readsStep_d ρ m (nI 1) (m + 389 + 1 + n) (sI (sI M2 m 32 (nI (n + 1))) (m + 389 + 1 + n) 0 (nI 1)) := by
          simp (disch := omega) only [f_M_readsStep_0, f_M_readsStep_b, f_M_readsStep_c, e1, y5, e2, m32, bI_s, bV_s, bL_s, bR_s, bG_s, bG_n, bX_l, bX_r, ck_nI, nI_clamp, nI_leT, nI_leF, nI_ltT, nI_ltF, nI_eqF, nI_add, pk_mul, ofN, bt_e, or0, Nat.zero_add, Nat.add_zero, ↓reduceIte, if_true, if_false, Bool.false_eq_true, eq_self, li0, li1, li2, li3, li4, li5, li6, li7, li8, li9, li10, li11, li12, li14, li15, li16, li18, li19, li20, li23, li24, li25, li26, li27, li30, li31, li32, li36, li40, li41, li42, li43, li44, li45, li47, li48, li57, li59, li60, li91, li93, li96, li97, li100, li105, li122, li150, li200, li255, li400, li500, li600, li999, li1000, li1001, li2000, li2001, li2002, li2003, li2004, li2005, li2006, li32767, li100000, li_neg, li13, li17, li21, li22, li28, li29, li33, li34, li35, li37, li38, li39, li46, li49, li50, li51, li52, li53, li63, li80, li115, li160]
        rw [s1]
        simp (disch := omega) only [f_M_readsStep_d, w2, e3, bI_s, bV_s, bL_s, bR_s, bG_s, bG_n, bX_l, bX_r, ck_nI, nI_clamp, nI_leT, nI_leF, nI_ltT, nI_ltF, nI_eqF, nI_add, pk_mul, ofN, bt_e, or0, Nat.zero_add, Nat.add_zero, ↓reduceIte, if_true, if_false, Bool.false_eq_true, eq_self, li0, li1, li2, li3, li4, li5, li6, li7, li8, li9, li10, li11, li12, li14, li15, li16, li18, li19, li20, li23, li24, li25, li26, li27, li30, li31, li32, li36, li40, li41, li42, li43, li44, li45, li47, li48, li57, li59, li60, li91, li93, li96, li97, li100, li105, li122, li150, li200, li255, li400, li500, li600, li999, li1000, li1001, li2000, li2001, li2002, li2003, li2004, li2005, li2006, li32767, li100000, li_neg, li13, li17, li21, li22, li28, li29, li33, li34, li35, li37, li38, li39, li46, li49, li50, li51, li52, li53, li63, li80, li115, li160]
      have f04 : FX (wkD m) M (sI M3 (m + 389 + 1 + n) 2 z1) := fx_rw (f03.trans f3.wu) hR
      rcases hc1 with ⟨k1, hz1, g4⟩ | ⟨k1, a', g4⟩
      · rw [nmW_s k1]
        generalize nE T E (sk T E a + (cR T E a).length) = a1 at g4 ⊢
        generalize nV T E (sk T E a + (cR T E a).length) = v1 at hz1 ⊢
        subst hz1
        have ej : f_M_readsStep_e ρ m (nI 1) (m + 389 + 1 + n) (sI M3 (m + 389 + 1 + n) 2 (nI v1)) = f_M_readsStep_j ρ m (nI 1) (m + 389 + 1 + n) (sI M3 (m + 389 + 1 + n) 2 (nI v1)) := by
          simp (disch := omega) only [f_M_readsStep_e, f_M_readsStep_f, f_M_readsStep_g, bI_s, bV_s, bL_s, bR_s, bG_s, bG_n, bX_l, bX_r, ck_nI, nI_clamp, nI_leT, nI_leF, nI_ltT, nI_ltF, nI_eqF, nI_add, pk_mul, ofN, bt_e, or0, Nat.zero_add, Nat.add_zero, ↓reduceIte, if_true, if_false, Bool.false_eq_true, eq_self, li0, li1, li2, li3, li4, li5, li6, li7, li8, li9, li10, li11, li12, li14, li15, li16, li18, li19, li20, li23, li24, li25, li26, li27, li30, li31, li32, li36, li40, li41, li42, li43, li44, li45, li47, li48, li57, li59, li60, li91, li93, li96, li97, li100, li105, li122, li150, li200, li255, li400, li500, li600, li999, li1000, li1001, li2000, li2001, li2002, li2003, li2004, li2005, li2006, li32767, li100000, li_neg, li13, li17, li21, li22, li28, li29, li33, li34, li35, li37, li38, li39, li46, li49, li50, li51, li52, li53, li63, li80, li115, li160]
        have up3 : ∀ x j, ¬ uD m x j → gI M3 x j = gI (sI (sI M2 m 32 (nI (n + 1))) (m + 389 + 1 + n) 0 (nI 1)) x j := fun x j q1 => f3.2.1 _ _ q1
        obtain ⟨M9, e9, f9, r9⟩ := M_jY (ρ := ρ) (n := n + 1) (op := op) (B := bSt B n 1 0 v1 0 (n + 1)) hR (g4.rw hR.1 2 (nI v1)) (by rw [gI_ne (by omega), up3 _ _ (by unfold uD; omega), gI_ne (by omega), gI_same]) (by rw [gI_ne (by omega), up3 _ _ (by unfold uD; omega), gI_ne (by omega), gI_ne (by omega)]; exact op_ud p1 f2) (by
          refine L2.nx (by rw [gI_ne (by omega), gI_ne (by omega), up3 _ _ (by unfold uD; omega), gI_ne (by omega), gI_same]) (fun k j hk => ?_) (fun i k hk => bSt_o (by omega)) ?_
          · rw [gI_ne (by omega), gI_ne (by omega), up3 _ _ (by unfold uD; omega), gI_ne (by omega), gI_ne (by omega)]
          · rw [bSt_0, bSt_2, bSt_4]
            refine ⟨?_, fun z => by omega, fun _ => ?_, fun z => by omega, fun z => by omega, fun _ => gI_same ..⟩
            · rw [gI_ne (by omega), gI_ne (by omega), up3 _ _ (by unfold uD; omega), gI_same]
            · rw [gI_ne (by omega), gI_same]) (nI 1)
        exact ⟨M9, (ed.trans ej).trans e9, f04.trans f9, r9⟩
      · rw [nmW_f k1]
        obtain ⟨M9, e9, f9, g9⟩ := M_eF (ρ := ρ) (x := 1) hR (g4.rw hR.1 2 z1) k1 (by omega)
        exact ⟨M9, ed.trans e9, f04.trans f9, Or.inr ⟨k1, _, g9⟩⟩
    · rw [if_neg c1]
      by_cases c2 : kst (cR T E a) = 2
      · rw [if_pos c2]
        have l2 := l2 c2
        have e1 : f_M_stepHere m M = some (nI 2, M1) := by rw [e1, c2]; rfl
        obtain ⟨M2, e2, f2, g2⟩ := skip M1 g1
        have hR := hR (by omega)
        have L2 := L1.ud f2
        have m32 := L2.1
        have g3 := (g2.s7 (j := 32) (by omega) (nI (n + 1))).rw hR.1 0 (nI 2)
        have f03 : FX (wkD m) M (sI (sI M2 m 32 (nI (n + 1))) (m + 389 + 1 + n) 0 (nI 2)) := fx_rw ((f1.trans f2).wu.sI (Or.inr (Or.inl ⟨rfl, Or.inr rfl⟩))) hR
        obtain ⟨z1, M3, e3, f3, hc1⟩ := M_numb (p0 := nI 1) (p1 := nI 4) g3 (by decide)
        have ed : f_M_readsStep_0 ρ m M = f_M_readsStep_j ρ m (nI 2) (m + 389 + 1 + n) (sI M3 (m + 389 + 1 + n) 1 z1) := by
          have s1 : f_M_readsStep_0 ρ m M = f_M_readsStep_d ρ m (nI 2) (m + 389 + 1 + n) (sI (sI M2 m 32 (nI (n + 1))) (m + 389 + 1 + n) 0 (nI 2)) := by
            simp (disch := omega) only [f_M_readsStep_0, f_M_readsStep_b, f_M_readsStep_c, e1, y5, e2, m32, bI_s, bV_s, bL_s, bR_s, bG_s, bG_n, bX_l, bX_r, ck_nI, nI_clamp, nI_leT, nI_leF, nI_ltT, nI_ltF, nI_eqF, nI_add, pk_mul, ofN, bt_e, or0, Nat.zero_add, Nat.add_zero, ↓reduceIte, if_true, if_false, Bool.false_eq_true, eq_self, li0, li1, li2, li3, li4, li5, li6, li7, li8, li9, li10, li11, li12, li14, li15, li16, li18, li19, li20, li23, li24, li25, li26, li27, li30, li31, li32, li36, li40, li41, li42, li43, li44, li45, li47, li48, li57, li59, li60, li91, li93, li96, li97, li100, li105, li122, li150, li200, li255, li400, li500, li600, li999, li1000, li1001, li2000, li2001, li2002, li2003, li2004, li2005, li2006, li32767, li100000, li_neg, li13, li17, li21, li22, li28, li29, li33, li34, li35, li37, li38, li39, li46, li49, li50, li51, li52, li53, li63, li80, li115, li160]
          have s2 : f_M_readsStep_d ρ m (nI 2) (m + 389 + 1 + n) (sI (sI M2 m 32 (nI (n + 1))) (m + 389 + 1 + n) 0 (nI 2)) = f_M_readsStep_f ρ m (nI 2) (m + 389 + 1 + n) (sI (sI M2 m 32 (nI (n + 1))) (m + 389 + 1 + n) 0 (nI 2)) := by
            simp (disch := omega) only [f_M_readsStep_d, f_M_readsStep_e, bI_s, bV_s, bL_s, bR_s, bG_s, bG_n, bX_l, bX_r, ck_nI, nI_clamp, nI_leT, nI_leF, nI_ltT, nI_ltF, nI_eqF, nI_add, pk_mul, ofN, bt_e, or0, Nat.zero_add, Nat.add_zero, ↓reduceIte, if_true, if_false, Bool.false_eq_true, eq_self, li0, li1, li2, li3, li4, li5, li6, li7, li8, li9, li10, li11, li12, li14, li15, li16, li18, li19, li20, li23, li24, li25, li26, li27, li30, li31, li32, li36, li40, li41, li42, li43, li44, li45, li47, li48, li57, li59, li60, li91, li93, li96, li97, li100, li105, li122, li150, li200, li255, li400, li500, li600, li999, li1000, li1001, li2000, li2001, li2002, li2003, li2004, li2005, li2006, li32767, li100000, li_neg, li13, li17, li21, li22, li28, li29, li33, li34, li35, li37, li38, li39, li46, li49, li50, li51, li52, li53, li63, li80, li115, li160]
          have s3 : ∀ N, f_M_readsStep_g ρ m (nI 2) (m + 389 + 1 + n) N = f_M_readsStep_j ρ m (nI 2) (m + 389 + 1 + n) N := fun N => by
            simp (disch := omega) only [f_M_readsStep_g, bI_s, bV_s, bL_s, bR_s, bG_s, bG_n, bX_l, bX_r, ck_nI, nI_clamp, nI_leT, nI_leF, nI_ltT, nI_ltF, nI_eqF, nI_add, pk_mul, ofN, bt_e, or0, Nat.zero_add, Nat.add_zero, ↓reduceIte, if_true, if_false, Bool.false_eq_true, eq_self, li0, li1, li2, li3, li4, li5, li6, li7, li8, li9, li10, li11, li12, li14, li15, li16, li18, li19, li20, li23, li24, li25, li26, li27, li30, li31, li32, li36, li40, li41, li42, li43, li44, li45, li47, li48, li57, li59, li60, li91, li93, li96, li97, li100, li105, li122, li150, li200, li255, li400, li500, li600, li999, li1000, li1001, li2000, li2001, li2002, li2003, li2004, li2005, li2006, li32767, li100000, li_neg, li13, li17, li21, li22, li28, li29, li33, li34, li35, li37, li38, li39, li46, li49, li50, li51, li52, li53, li63, li80, li115, li160]
          rw [s1, s2]
          simp (disch := omega) only [f_M_readsStep_f, e3, s3, bI_s, bV_s, bL_s, bR_s, bG_s, bG_n, bX_l, bX_r, ck_nI, nI_clamp, nI_leT, nI_leF, nI_ltT, nI_ltF, nI_eqF, nI_add, pk_mul, ofN, bt_e, or0, Nat.zero_add, Nat.add_zero, ↓reduceIte, if_true, if_false, Bool.false_eq_true, eq_self, li0, li1, li2, li3, li4, li5, li6, li7, li8, li9, li10, li11, li12, li14, li15, li16, li18, li19, li20, li23, li24, li25, li26, li27, li30, li31, li32, li36, li40, li41, li42, li43, li44, li45, li47, li48, li57, li59, li60, li91, li93, li96, li97, li100, li105, li122, li150, li200, li255, li400, li500, li600, li999, li1000, li1001, li2000, li2001, li2002, li2003, li2004, li2005, li2006, li32767, li100000, li_neg, li13, li17, li21, li22, li28, li29, li33, li34, li35, li37, li38, li39, li46, li49, li50, li51, li52, li53, li63, li80, li115, li160]
        have f04 : FX (wkD m) M (sI M3 (m + 389 + 1 + n) 1 z1) := fx_rw (f03.trans f3.wu) hR
        rcases hc1 with ⟨k1, hz1, g4⟩ | ⟨k1, a', g4⟩
        · rw [nmW_s k1]
          generalize nE T E (sk T E a + (cR T E a).length) = a1 at g4 ⊢
          generalize nV T E (sk T E a + (cR T E a).length) = v1 at hz1 ⊢
          subst hz1
          have up3 : ∀ x j, ¬ uD m x j → gI M3 x j = gI (sI (sI M2 m 32 (nI (n + 1))) (m + 389 + 1 + n) 0 (nI 2)) x j := fun x j q1 => f3.2.1 _ _ q1
          obtain ⟨M9, e9, f9, r9⟩ := M_jY (ρ := ρ) (n := n + 1) (op := op) (B := bSt B n 2 v1 0 0 (n + 1)) hR (g4.rw hR.1 1 (nI v1)) (by rw [gI_ne (by omega), up3 _ _ (by unfold uD; omega), gI_ne (by omega), gI_same]) (by rw [gI_ne (by omega), up3 _ _ (by unfold uD; omega), gI_ne (by omega), gI_ne (by omega)]; exact op_ud p1 f2) (by
            refine L2.nx (by rw [gI_ne (by omega), gI_ne (by omega), up3 _ _ (by unfold uD; omega), gI_ne (by omega), gI_same]) (fun k j hk => ?_) (fun i k hk => bSt_o (by omega)) ?_
            · rw [gI_ne (by omega), gI_ne (by omega), up3 _ _ (by unfold uD; omega), gI_ne (by omega), gI_ne (by omega)]
            · rw [bSt_0, bSt_1, bSt_4]
              refine ⟨?_, fun z => by omega, fun z => by omega, fun _ => ?_, fun z => by omega, fun _ => gI_same ..⟩
              · rw [gI_ne (by omega), gI_ne (by omega), up3 _ _ (by unfold uD; omega), gI_same]
              · rw [gI_ne (by omega), gI_same]) (nI 2)
          exact ⟨M9, ed.trans e9, f04.trans f9, r9⟩
        · rw [nmW_f k1]
          obtain ⟨M9, e9, f9, g9⟩ := M_jF (ρ := ρ) hR (g4.rw hR.1 1 z1) k1 (nI 2)
          exact ⟨M9, ed.trans e9, f04.trans f9, Or.inr ⟨k1, _, g9⟩⟩
      · rw [if_neg c2]
        by_cases c3 : kst (cR T E a) = 3
        · rw [if_pos c3]
          have l3 := l3 c3
          have e1 : f_M_stepHere m M = some (nI 3, M1) := by rw [e1, c3]; rfl
          obtain ⟨M2, e2, f2, g2⟩ := skip M1 g1
          have hR := hR (by omega)
          have L2 := L1.ud f2
          have m32 := L2.1
          have g3 := (g2.s7 (j := 32) (by omega) (nI (n + 1))).rw hR.1 0 (nI 3)
          have f03 : FX (wkD m) M (sI (sI M2 m 32 (nI (n + 1))) (m + 389 + 1 + n) 0 (nI 3)) := fx_rw ((f1.trans f2).wu.sI (Or.inr (Or.inl ⟨rfl, Or.inr rfl⟩))) hR
          have ed : f_M_readsStep_0 ρ m M = f_M_readsStep_j ρ m (nI 3) (m + 389 + 1 + n) (sI (sI M2 m 32 (nI (n + 1))) (m + 389 + 1 + n) 0 (nI 3)) := by
            have s1 : f_M_readsStep_0 ρ m M = f_M_readsStep_d ρ m (nI 3) (m + 389 + 1 + n) (sI (sI M2 m 32 (nI (n + 1))) (m + 389 + 1 + n) 0 (nI 3)) := by
              simp (disch := omega) only [f_M_readsStep_0, f_M_readsStep_b, f_M_readsStep_c, e1, y5, e2, m32, bI_s, bV_s, bL_s, bR_s, bG_s, bG_n, bX_l, bX_r, ck_nI, nI_clamp, nI_leT, nI_leF, nI_ltT, nI_ltF, nI_eqF, nI_add, pk_mul, ofN, bt_e, or0, Nat.zero_add, Nat.add_zero, ↓reduceIte, if_true, if_false, Bool.false_eq_true, eq_self, li0, li1, li2, li3, li4, li5, li6, li7, li8, li9, li10, li11, li12, li14, li15, li16, li18, li19, li20, li23, li24, li25, li26, li27, li30, li31, li32, li36, li40, li41, li42, li43, li44, li45, li47, li48, li57, li59, li60, li91, li93, li96, li97, li100, li105, li122, li150, li200, li255, li400, li500, li600, li999, li1000, li1001, li2000, li2001, li2002, li2003, li2004, li2005, li2006, li32767, li100000, li_neg, li13, li17, li21, li22, li28, li29, li33, li34, li35, li37, li38, li39, li46, li49, li50, li51, li52, li53, li63, li80, li115, li160]
            have s2 : f_M_readsStep_d ρ m (nI 3) (m + 389 + 1 + n) (sI (sI M2 m 32 (nI (n + 1))) (m + 389 + 1 + n) 0 (nI 3)) = f_M_readsStep_f ρ m (nI 3) (m + 389 + 1 + n) (sI (sI M2 m 32 (nI (n + 1))) (m + 389 + 1 + n) 0 (nI 3)) := by
              simp (disch := omega) only [f_M_readsStep_d, f_M_readsStep_e, bI_s, bV_s, bL_s, bR_s, bG_s, bG_n, bX_l, bX_r, ck_nI, nI_clamp, nI_leT, nI_leF, nI_ltT, nI_ltF, nI_eqF, nI_add, pk_mul, ofN, bt_e, or0, Nat.zero_add, Nat.add_zero, ↓reduceIte, if_true, if_false, Bool.false_eq_true, eq_self, li0, li1, li2, li3, li4, li5, li6, li7, li8, li9, li10, li11, li12, li14, li15, li16, li18, li19, li20, li23, li24, li25, li26, li27, li30, li31, li32, li36, li40, li41, li42, li43, li44, li45, li47, li48, li57, li59, li60, li91, li93, li96, li97, li100, li105, li122, li150, li200, li255, li400, li500, li600, li999, li1000, li1001, li2000, li2001, li2002, li2003, li2004, li2005, li2006, li32767, li100000, li_neg, li13, li17, li21, li22, li28, li29, li33, li34, li35, li37, li38, li39, li46, li49, li50, li51, li52, li53, li63, li80, li115, li160]
            have s3 : f_M_readsStep_f ρ m (nI 3) (m + 389 + 1 + n) (sI (sI M2 m 32 (nI (n + 1))) (m + 389 + 1 + n) 0 (nI 3)) = f_M_readsStep_j ρ m (nI 3) (m + 389 + 1 + n) (sI (sI M2 m 32 (nI (n + 1))) (m + 389 + 1 + n) 0 (nI 3)) := by
              simp (disch := omega) only [f_M_readsStep_f, f_M_readsStep_g, bI_s, bV_s, bL_s, bR_s, bG_s, bG_n, bX_l, bX_r, ck_nI, nI_clamp, nI_leT, nI_leF, nI_ltT, nI_ltF, nI_eqF, nI_add, pk_mul, ofN, bt_e, or0, Nat.zero_add, Nat.add_zero, ↓reduceIte, if_true, if_false, Bool.false_eq_true, eq_self, li0, li1, li2, li3, li4, li5, li6, li7, li8, li9, li10, li11, li12, li14, li15, li16, li18, li19, li20, li23, li24, li25, li26, li27, li30, li31, li32, li36, li40, li41, li42, li43, li44, li45, li47, li48, li57, li59, li60, li91, li93, li96, li97, li100, li105, li122, li150, li200, li255, li400, li500, li600, li999, li1000, li1001, li2000, li2001, li2002, li2003, li2004, li2005, li2006, li32767, li100000, li_neg, li13, li17, li21, li22, li28, li29, li33, li34, li35, li37, li38, li39, li46, li49, li50, li51, li52, li53, li63, li80, li115, li160]
            exact (s1.trans s2).trans s3
          obtain ⟨M9, e9, f9, r9⟩ := M_jY (ρ := ρ) (n := n + 1) (op := op) (B := bSt B n 3 0 0 0 (n + 1)) hR g3 (by rw [gI_ne (by omega), gI_same]) (by rw [gI_ne (by omega), gI_ne (by omega)]; exact op_ud p1 f2) (by
            refine L2.nx (by rw [gI_ne (by omega), gI_ne (by omega), gI_same]) (fun k j hk => ?_) (fun i k hk => bSt_o (by omega)) ?_
            · rw [gI_ne (by omega), gI_ne (by omega), gI_ne (by omega)]
            · rw [bSt_0, bSt_4]
              refine ⟨?_, fun z => by omega, fun z => by omega, fun z => by omega, fun z => by omega, fun _ => gI_same ..⟩
              rw [gI_ne (by omega), gI_same]) (nI 3)
          exact ⟨M9, ed.trans e9, f03.trans f9, r9⟩
        · rw [if_neg c3]
          by_cases c4 : kst (cR T E a) = 4
          · rw [if_pos c4]
            have l4 := l4 c4
            have e1 : f_M_stepHere m M = some (nI 4, M1) := by rw [e1, c4]; rfl
            by_cases c6 : 6 ≤ op
            · rw [if_pos c6]
              obtain rfl : op = 6 := by omega
              obtain ⟨M2, e2, f2, g2⟩ := M_opensN g1 p1
              refine ⟨M2, ?_, (f1.trans f2).wu, Or.inr ⟨by show (3 : Nat) ≠ 0; omega, _, g2⟩⟩
              simp (disch := omega) only [f_M_readsStep_0, f_M_readsStep_b, e1, e2, bI_s, bV_s, bL_s, bR_s, bG_s, bG_n, bX_l, bX_r, ck_nI, nI_clamp, nI_leT, nI_leF, nI_ltT, nI_ltF, nI_eqF, nI_add, pk_mul, ofN, bt_e, or0, Nat.zero_add, Nat.add_zero, ↓reduceIte, if_true, if_false, Bool.false_eq_true, eq_self, li0, li1, li2, li3, li4, li5, li6, li7, li8, li9, li10, li11, li12, li14, li15, li16, li18, li19, li20, li23, li24, li25, li26, li27, li30, li31, li32, li36, li40, li41, li42, li43, li44, li45, li47, li48, li57, li59, li60, li91, li93, li96, li97, li100, li105, li122, li150, li200, li255, li400, li500, li600, li999, li1000, li1001, li2000, li2001, li2002, li2003, li2004, li2005, li2006, li32767, li100000, li_neg, li13, li17, li21, li22, li28, li29, li33, li34, li35, li37, li38, li39, li46, li49, li50, li51, li52, li53, li63, li80, li115, li160]
            · rw [if_neg c6]
              have hn25 : n < 25 := by omega
              have hR := hR hn25
              have eo := M_opensY g1 p1 (by omega)
              obtain ⟨M2, e2, f2, g2⟩ := skip (sI M1 m 8 (nI (op + 1))) (g1.s7 (by omega) _)
              have L2 : isSt M2 m n B := (L1.mv (N := sI M1 m 8 (nI (op + 1))) (gI_ne (by omega)) (fun k j _ => gI_ne (by omega))).ud f2
              have m32 := L2.1
              have y5' : gI (sI M1 m 8 (nI (op + 1))) m 5 = nI 0 := by rw [gI_ne (by omega)]; exact y5
              have g3 := (g2.s7 (j := 32) (by omega) (nI (n + 1))).rw hR.1 0 (nI 4)
              have f03 : FX (wkD m) M (sI (sI M2 m 32 (nI (n + 1))) (m + 389 + 1 + n) 0 (nI 4)) := fx_rw (((f1.wu.sI (Or.inr (Or.inl ⟨rfl, Or.inl rfl⟩))).trans f2.wu).sI (Or.inr (Or.inl ⟨rfl, Or.inr rfl⟩))) hR
              have ed : f_M_readsStep_0 ρ m M = f_M_readsStep_g ρ m (nI 4) (m + 389 + 1 + n) (sI (sI M2 m 32 (nI (n + 1))) (m + 389 + 1 + n) 0 (nI 4)) := by
                have s1 : f_M_readsStep_0 ρ m M = f_M_readsStep_c ρ m (nI 4) (sI M1 m 8 (nI (op + 1))) := by
                  simp (disch := omega) only [f_M_readsStep_0, f_M_readsStep_b, e1, eo, bI_s, bV_s, bL_s, bR_s, bG_s, bG_n, bX_l, bX_r, ck_nI, nI_clamp, nI_leT, nI_leF, nI_ltT, nI_ltF, nI_eqF, nI_add, pk_mul, ofN, bt_e, or0, Nat.zero_add, Nat.add_zero, ↓reduceIte, if_true, if_false, Bool.false_eq_true, eq_self, li0, li1, li2, li3, li4, li5, li6, li7, li8, li9, li10, li11, li12, li14, li15, li16, li18, li19, li20, li23, li24, li25, li26, li27, li30, li31, li32, li36, li40, li41, li42, li43, li44, li45, li47, li48, li57, li59, li60, li91, li93, li96, li97, li100, li105, li122, li150, li200, li255, li400, li500, li600, li999, li1000, li1001, li2000, li2001, li2002, li2003, li2004, li2005, li2006, li32767, li100000, li_neg, li13, li17, li21, li22, li28, li29, li33, li34, li35, li37, li38, li39, li46, li49, li50, li51, li52, li53, li63, li80, li115, li160]
                have s2 : f_M_readsStep_c ρ m (nI 4) (sI M1 m 8 (nI (op + 1))) = f_M_readsStep_d ρ m (nI 4) (m + 389 + 1 + n) (sI (sI M2 m 32 (nI (n + 1))) (m + 389 + 1 + n) 0 (nI 4)) := by
                  simp (disch := omega) only [f_M_readsStep_c, y5', e2, m32, bI_s, bV_s, bL_s, bR_s, bG_s, bG_n, bX_l, bX_r, ck_nI, nI_clamp, nI_leT, nI_leF, nI_ltT, nI_ltF, nI_eqF, nI_add, pk_mul, ofN, bt_e, or0, Nat.zero_add, Nat.add_zero, ↓reduceIte, if_true, if_false, Bool.false_eq_true, eq_self, li0, li1, li2, li3, li4, li5, li6, li7, li8, li9, li10, li11, li12, li14, li15, li16, li18, li19, li20, li23, li24, li25, li26, li27, li30, li31, li32, li36, li40, li41, li42, li43, li44, li45, li47, li48, li57, li59, li60, li91, li93, li96, li97, li100, li105, li122, li150, li200, li255, li400, li500, li600, li999, li1000, li1001, li2000, li2001, li2002, li2003, li2004, li2005, li2006, li32767, li100000, li_neg, li13, li17, li21, li22, li28, li29, li33, li34, li35, li37, li38, li39, li46, li49, li50, li51, li52, li53, li63, li80, li115, li160]
                have s3 : f_M_readsStep_d ρ m (nI 4) (m + 389 + 1 + n) (sI (sI M2 m 32 (nI (n + 1))) (m + 389 + 1 + n) 0 (nI 4)) = f_M_readsStep_f ρ m (nI 4) (m + 389 + 1 + n) (sI (sI M2 m 32 (nI (n + 1))) (m + 389 + 1 + n) 0 (nI 4)) := by
                  simp (disch := omega) only [f_M_readsStep_d, f_M_readsStep_e, bI_s, bV_s, bL_s, bR_s, bG_s, bG_n, bX_l, bX_r, ck_nI, nI_clamp, nI_leT, nI_leF, nI_ltT, nI_ltF, nI_eqF, nI_add, pk_mul, ofN, bt_e, or0, Nat.zero_add, Nat.add_zero, ↓reduceIte, if_true, if_false, Bool.false_eq_true, eq_self, li0, li1, li2, li3, li4, li5, li6, li7, li8, li9, li10, li11, li12, li14, li15, li16, li18, li19, li20, li23, li24, li25, li26, li27, li30, li31, li32, li36, li40, li41, li42, li43, li44, li45, li47, li48, li57, li59, li60, li91, li93, li96, li97, li100, li105, li122, li150, li200, li255, li400, li500, li600, li999, li1000, li1001, li2000, li2001, li2002, li2003, li2004, li2005, li2006, li32767, li100000, li_neg, li13, li17, li21, li22, li28, li29, li33, li34, li35, li37, li38, li39, li46, li49, li50, li51, li52, li53, li63, li80, li115, li160]
                have s4 : f_M_readsStep_f ρ m (nI 4) (m + 389 + 1 + n) (sI (sI M2 m 32 (nI (n + 1))) (m + 389 + 1 + n) 0 (nI 4)) = f_M_readsStep_g ρ m (nI 4) (m + 389 + 1 + n) (sI (sI M2 m 32 (nI (n + 1))) (m + 389 + 1 + n) 0 (nI 4)) := by
                  simp (disch := omega) only [f_M_readsStep_f, bI_s, bV_s, bL_s, bR_s, bG_s, bG_n, bX_l, bX_r, ck_nI, nI_clamp, nI_leT, nI_leF, nI_ltT, nI_ltF, nI_eqF, nI_add, pk_mul, ofN, bt_e, or0, Nat.zero_add, Nat.add_zero, ↓reduceIte, if_true, if_false, Bool.false_eq_true, eq_self, li0, li1, li2, li3, li4, li5, li6, li7, li8, li9, li10, li11, li12, li14, li15, li16, li18, li19, li20, li23, li24, li25, li26, li27, li30, li31, li32, li36, li40, li41, li42, li43, li44, li45, li47, li48, li57, li59, li60, li91, li93, li96, li97, li100, li105, li122, li150, li200, li255, li400, li500, li600, li999, li1000, li1001, li2000, li2001, li2002, li2003, li2004, li2005, li2006, li32767, li100000, li_neg, li13, li17, li21, li22, li28, li29, li33, li34, li35, li37, li38, li39, li46, li49, li50, li51, li52, li53, li63, li80, li115, li160]
                exact ((s1.trans s2).trans s3).trans s4
              obtain ⟨M9, e9, f9, r9⟩ := SM_again (ρ := ρ) (n := n) (B := B) hE (by omega) (hρ (by omega)) (hg (by omega)) (hsk (by omega)) hn25 g3 (by rw [gI_ne (by omega), gI_same]) (by rw [gI_ne (by omega), gI_ne (by omega)]; exact op_ud (gI_same ..) f2) (h4.wk f03) (fun v => by
                refine L2.nx (by rw [gI_ne (by omega), gI_ne (by omega), gI_same]) (fun k j hk => ?_) (fun i k hk => bSt_o (by omega)) ?_
                · rw [gI_ne (by omega), gI_ne (by omega), gI_ne (by omega)]
                · rw [bSt_0, bSt_1, bSt_4]
                  refine ⟨?_, fun z => by omega, fun z => by omega, fun z => by omega, fun _ => gI_same .., fun z => absurd rfl z⟩
                  rw [gI_ne (by omega), gI_same]) (by omega)
              exact ⟨M9, ed.trans e9, f03.trans f9, r9⟩
          · rw [if_neg c4]
            have e1 : f_M_stepHere m M = some (nI 4294967295, M1) := by rw [e1, show kst (cR T E a) = 5 by omega]; rfl
            obtain ⟨M2, e2, f2, g2⟩ := M_wrong g1 (k1 := 1) (f1 := sk T E a) (by omega)
            have g2 : MTp M2 m T E (sk T E a) 1 (sk T E a) := g2
            have z5 := g2.1.2.2.1
            refine ⟨M2, ?_, (f1.trans f2).wu, Or.inr ⟨by show (1 : Nat) ≠ 0; omega, _, g2⟩⟩
            simp (disch := omega) only [f_M_readsStep_0, f_M_readsStep_b, f_M_readsStep_c, e1, y4, e2, z5, bI_s, bV_s, bL_s, bR_s, bG_s, bG_n, bX_l, bX_r, ck_nI, nI_clamp, nI_leT, nI_leF, nI_ltT, nI_ltF, nI_eqF, nI_add, pk_mul, ofN, bt_e, or0, Nat.zero_add, Nat.add_zero, ↓reduceIte, if_true, if_false, Bool.false_eq_true, eq_self, li0, li1, li2, li3, li4, li5, li6, li7, li8, li9, li10, li11, li12, li14, li15, li16, li18, li19, li20, li23, li24, li25, li26, li27, li30, li31, li32, li36, li40, li41, li42, li43, li44, li45, li47, li48, li57, li59, li60, li91, li93, li96, li97, li100, li105, li122, li150, li200, li255, li400, li500, li600, li999, li1000, li1001, li2000, li2001, li2002, li2003, li2004, li2005, li2006, li32767, li100000, li_neg, li13, li17, li21, li22, li28, li29, li33, li34, li35, li37, li38, li39, li46, li49, li50, li51, li52, li53, li63, li80, li115, li160]
end
