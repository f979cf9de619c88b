/-! # functional level, 58: the model reads kin, knows -/
section
variable {M M' M1 M2 N : Mm} {t m E a k f n s p : Nat} {T : Nat → Nat} {Q : TT} {p0 p1 p2 p3 : Int32}
theorem nI_s1 (hn : n ≤ 100) : nI n - nI 1 < nI 100000 := by
  rcases Nat.eq_zero_or_pos n with z | z
  · rw [z]; decide
  · rw [pk_sub z]; exact nI_lt (by omega) (by omega)
theorem M_told4 (h : MTp M m T E a 0 4294967295) (hQ : isQr M m Q) (oQ : okP Q) : ∃ M', f_M_clause_d m (nI 4) (nI 0) M = f_M_clause_g m (nI 4) (nI 0) M' ∧ FX (upD m) M M' ∧ oRm M' m E T (oT T E a 4 Q) := by
  have hr := oQ.r
  have hb := oQ.b
  have hw := oQ.w
  obtain ⟨z1, z2, M1, M2, e1, e2, f1, f2, hc⟩ := M_two (p0 := nI 0) (p1 := nI (Q 0 5) - nI 1) (p2 := nI 0) (p3 := nI (Q 0 2) - nI 1) h (nI_s1 (by omega)) (nI_s1 (by omega))
  have g3 : gI M (m + 3) 2 = nI (Q 0 5) := hQ.1.2.2
  have g2 : gI M1 (m + 3) 1 = nI (Q 0 2) := by rw [f1.2.1 _ _ (by unfold uD; omega)]; exact hQ.1.2.1
  have f12 : FX (upD m) M M2 := (f1.trans f2).mono (fun _ _ q => Or.inl q)
  have hQ2 := hQ.ud oQ (f1.trans f2)
  rcases hc with ⟨c, y1, y2, h2⟩ | ⟨c, a', h2⟩
  · have g4 := h2.1.2.2.1
    have v1 := dgm_lt h
    have c1 : nK T E a (nI 0) (nI (Q 0 5) - nI 1) = 0 := by
      by_cases q : nK T E a (nI 0) (nI (Q 0 5) - nI 1) = 0
      · exact q
      · exact absurd (show n2k T E a (nI 0) (nI (Q 0 5) - nI 1) (nI 0) (nI (Q 0 2) - nI 1) = nK T E a (nI 0) (nI (Q 0 5) - nI 1) from if_pos q) (by rw [c]; exact fun z => q z.symm)
    have c2 : nK T E (nE T E a) (nI 0) (nI (Q 0 2) - nI 1) = 0 := by
      have : n2k T E a (nI 0) (nI (Q 0 5) - nI 1) (nI 0) (nI (Q 0 2) - nI 1) = nK T E (nE T E a) (nI 0) (nI (Q 0 2) - nI 1) := if_neg (fun q => q c1)
      rw [← this]; exact c
    have w1 := nK_vs (show Q 0 5 ≤ 100 by omega) (by unfold nV; omega) c1
    obtain ⟨_, _, _, _, h1', _⟩ := M_number (p0 := nI 0) (p1 := nI (Q 0 5) - nI 1) h (nI_s1 (by omega))
    have v2 := dgm_lt h1'
    have w2 := nK_vs (a := nE T E a) (show Q 0 2 ≤ 100 by omega) (by unfold nV nE; omega) c2
    have eo : oT T E a 4 Q = (0, 4294967295, nE T E (nE T E a), qKno Q (nV T E a) (nV T E (nE T E a))) := (if_neg (by omega)).trans ((if_neg (by omega)).trans ((if_neg (by omega)).trans ((if_neg (by omega)).trans (if_neg (fun q => q c)))))
    rw [eo]
    subst y1 y2
    generalize nV T E a = v at e1 w1 ⊢
    generalize nV T E (nE T E a) = w at e2 w2 ⊢
    have g9 : gI M2 (m + 9) v = nI (Q 6 v) := by
      have := hQ2.2.2.2.2.1 v (by omega)
      rw [if_pos w1] at this; exact this
    have ob := nI_orbt (oQ.kn w1) (show w < 8 by omega)
    have ft : FX (fun a _ => prD m a) M2 (sI M2 (m + 9) v (nI (Q 6 v ||| 2 ^ w))) := (FX.rf _ M2).sI (by unfold prD; omega)
    refine ⟨sI M2 (m + 9) v (nI (Q 6 v ||| 2 ^ w)), ?_, f12.trans (ft.mono (fun _ _ q => Or.inr q)), Or.inl ⟨rfl, h2.fx ft (fun j q => by unfold prD at q; omega) (fun j q => by unfold prD at q; omega), ?_⟩⟩
    · simp (disch := omega) only [f_M_clause_d, f_M_clause_f, g3, e1, g2, e2, g4, g9, ob, bI_s, bV_s, bL_s, bR_s, bG_s, bG_n, bX_l, bX_r, ck_nI, nI_clamp, nI_leT, nI_leF, nI_ltT, nI_ltF, nI_eqF, nI_add, pk_mul, ofN, bt_e, or0, Nat.zero_add, Nat.add_zero, ↓reduceIte, if_true, if_false, Bool.false_eq_true, eq_self, li0, li1, li2, li3, li4, li5, li6, li7, li8, li9, li10, li11, li12, li14, li15, li16, li18, li19, li20, li23, li24, li25, li26, li27, li30, li31, li32, li36, li40, li41, li42, li43, li44, li45, li47, li48, li57, li59, li60, li91, li93, li96, li97, li100, li105, li122, li150, li200, li255, li400, li500, li600, li999, li1000, li1001, li2000, li2001, li2002, li2003, li2004, li2005, li2006, li32767, li100000, li_neg, li13, li17, li21, li22, li28, li29, li33, li34, li35, li37, li38, li39, li46, li49, li50, li51, li52, li53, li63, li80, li115, li160]
    · show isQr (sI M2 (m + 9) v (nI (Q 6 v ||| 2 ^ w))) m (qKno Q v w)
      obtain ⟨⟨q1, q2, q3⟩, q4, q5, q6, q7, q8⟩ := hQ2
      have ro : ∀ a b, a ≠ 6 → qKno Q v w a b = Q a b := fun a b h1 => by unfold qKno; rw [up_n (by omega)]
      refine ⟨⟨?_, ?_, ?_⟩, fun k hk => ?_, fun k hk => ⟨?_, ?_⟩, fun k hk => ⟨?_, ?_⟩, fun k hk => ?_, fun k hk => ?_⟩
      · rw [ro 0 0 (by omega), gI_ne (by omega)]; exact q1
      · rw [ro 0 2 (by omega), gI_ne (by omega)]; exact q2
      · rw [ro 0 5 (by omega), gI_ne (by omega)]; exact q3
      · rw [ro 0 0 (by omega)] at hk
        rw [ro 1 k (by omega), gI_ne (by omega)]; exact q4 k hk
      · rw [ro 0 2 (by omega)] at hk
        rw [ro 2 k (by omega), gI_ne (by omega)]; exact (q5 k hk).1
      · rw [ro 0 2 (by omega)] at hk
        rw [ro 3 k (by omega), gI_ne (by omega)]; exact (q5 k hk).2
      · rw [ro 0 5 (by omega)] at hk
        rw [ro 4 k (by omega), gI_ne (by omega)]; exact (q6 k hk).1
      · rw [ro 0 5 (by omega)] at hk
        rw [ro 5 k (by omega), gI_ne (by omega)]; exact (q6 k hk).2
      · rw [ro 0 5 (by omega)]
        by_cases c : k = v
        · rw [c, gI_same, if_pos w1]; unfold qKno; rw [up_s]
        · rw [gI_ne (by omega), q7 k hk]; unfold qKno; rw [up_n (by omega)]
      · rw [ro 7 k (by omega), gI_ne (by omega)]; exact q8 k hk
  · have g4 := h2.1.2.2.1
    have n3 := n2k_3 (T := T) (E := E) (a := a) (p0 := nI 0) (p1 := nI (Q 0 5) - nI 1) (p2 := nI 0) (p3 := nI (Q 0 2) - nI 1)
    have eo : oT T E a 4 Q = (n2k T E a (nI 0) (nI (Q 0 5) - nI 1) (nI 0) (nI (Q 0 2) - nI 1), n2f T E a (nI 0) (nI (Q 0 5) - nI 1), 0, Q) := (if_neg (by omega)).trans ((if_neg (by omega)).trans ((if_neg (by omega)).trans ((if_neg (by omega)).trans (if_pos c))))
    rw [eo]
    refine ⟨M2, ?_, f12, Or.inr ⟨c, _, h2⟩⟩
    simp (disch := omega) only [f_M_clause_d, f_M_clause_f, g3, e1, g2, e2, g4, bI_s, bV_s, bL_s, bR_s, bG_s, bG_n, bX_l, bX_r, ck_nI, nI_clamp, nI_leT, nI_leF, nI_ltT, nI_ltF, nI_eqF, nI_add, pk_mul, ofN, bt_e, or0, Nat.zero_add, Nat.add_zero, ↓reduceIte, if_true, if_false, Bool.false_eq_true, eq_self, li0, li1, li2, li3, li4, li5, li6, li7, li8, li9, li10, li11, li12, li14, li15, li16, li18, li19, li20, li23, li24, li25, li26, li27, li30, li31, li32, li36, li40, li41, li42, li43, li44, li45, li47, li48, li57, li59, li60, li91, li93, li96, li97, li100, li105, li122, li150, li200, li255, li400, li500, li600, li999, li1000, li1001, li2000, li2001, li2002, li2003, li2004, li2005, li2006, li32767, li100000, li_neg, li13, li17, li21, li22, li28, li29, li33, li34, li35, li37, li38, li39, li46, li49, li50, li51, li52, li53, li63, li80, li115, li160]
theorem M_kin (h : MTp M m T E a 0 4294967295) (hQ : isQr M m Q) (oQ : okP Q) : ∃ M', f_M_clause_d m (nI 3) (nI 0) M = f_M_clause_g m (nI 3) (nI 0) M' ∧ FX (upD m) M M' ∧ oRm M' m E T (oT T E a 2 Q) := by
  have hr := oQ.r
  have hb := oQ.b
  have hw := oQ.w
  have hE := h.2.2.1
  obtain ⟨z1, M1, e1, f1, h1, hz1⟩ := M_number (p0 := nI 0) (p1 := nI 9) h (by decide)
  obtain ⟨M2, e2, f2, h2⟩ := M_blanks h1
  have a2 := h2.1.2.1
  have v1 := dgm_lt h
  have hE1 := h1.2.2.1
  have hi := sk_i (T := T) hE1.1
  by_cases c1 : nK T E a (nI 0) (nI 9) = 0
  · have hz1 := hz1 (by rw [nO_0 c1])
    have hz1 : z1 = nI (nV T E a) := hz1
    have nk : n2k T E a (nI 0) (nI 9) (nI 0) (nI 9) = nK T E (nE T E a) (nI 0) (nI 9) := if_neg (fun q => q c1)
    have nf : n2f T E a (nI 0) (nI 9) = sk T E (nE T E a) := if_neg (fun q => q c1)
    rw [nO_0 c1] at h1 h2
    have v2 := dgm_lt h1
    obtain ⟨z2, M3, e3, f3, h3, hz2⟩ := M_number (p0 := nI 0) (p1 := nI 9) h2 (by decide)
    rw [hi] at h3 hz2
    have ek : nK T E (sk T E (nE T E a)) (nI 0) (nI 9) = nK T E (nE T E a) (nI 0) (nI 9) := nK_sk hE1.1
    have f13 : FX (upD m) M M3 := ((f1.trans f2).trans f3).mono (fun _ _ q => Or.inl q)
    have hQ3 := hQ.ud oQ ((f1.trans f2).trans f3)
    have g4 := h3.1.2.2.1
    have a2 : gI M2 m 4 = nI (sk T E (nE T E a)) := a2
    have hs2 := sk_b (T := T) hE1.1
    have hs2 : sk T E (nE T E a) ≤ E := hs2.2
    by_cases c2 : nK T E (nE T E a) (nI 0) (nI 9) = 0
    · have c2' : nK T E (sk T E (dg T E (sk T E a)).1) (nI 0) (nI 9) = 0 := ek.trans c2
      have hz2 := hz2 (by rw [nO_0 c2'])
      have hz2 : z2 = nI (nV T E (nE T E a)) := hz2
      rw [nO_0 c2'] at h3 g4
      have l1 := nK_v (T := T) (E := E) (a := a) (lo := 0) (hi := 9) (by omega) (by omega) (by omega) c1
      have l2 := nK_v (T := T) (E := E) (a := nE T E a) (lo := 0) (hi := 9) (by omega) (by omega) (by unfold nE; omega) c2
      have l1 : nV T E a ≤ 9 := l1.2.2
      have l2 : nV T E (nE T E a) ≤ 9 := l2.2.2
      subst hz1 hz2
      by_cases c3 : nV T E a = nV T E (nE T E a)
      · have eo : oT T E a 2 Q = (2, sk T E (nE T E a), 0, Q) := (if_neg (by omega)).trans ((if_neg (by omega)).trans ((if_neg (by omega)).trans ((if_pos rfl).trans ((if_neg (fun q => q (nk.trans c2))).trans (if_pos c3)))))
        rw [eo]
        obtain ⟨M4, e4, f4, h4⟩ := M_wrong h3 (k1 := 2) (f1 := sk T E (nE T E a)) (by omega)
        have g5 := h4.1.2.2.1
        have g5 : gI M4 m 5 = nI 2 := g5
        refine ⟨M4, ?_, f13.trans (f4.mono (fun _ _ q => Or.inl q)), Or.inr ⟨by show (2 : Nat) ≠ 0; omega, _, h4⟩⟩
        rw [← c3] at e3
        simp (disch := omega) only [f_M_clause_d, f_M_clause_e, f_M_clause_f, e1, e2, e3, a2, g4, e4, g5, bI_s, bV_s, bL_s, bR_s, bG_s, bG_n, bX_l, bX_r, ck_nI, nI_clamp, nI_leT, nI_leF, nI_ltT, nI_ltF, nI_eqF, nI_add, pk_mul, ofN, bt_e, or0, Nat.zero_add, Nat.add_zero, ↓reduceIte, if_true, if_false, Bool.false_eq_true, eq_self, li0, li1, li2, li3, li4, li5, li6, li7, li8, li9, li10, li11, li12, li14, li15, li16, li18, li19, li20, li23, li24, li25, li26, li27, li30, li31, li32, li36, li40, li41, li42, li43, li44, li45, li47, li48, li57, li59, li60, li91, li93, li96, li97, li100, li105, li122, li150, li200, li255, li400, li500, li600, li999, li1000, li1001, li2000, li2001, li2002, li2003, li2004, li2005, li2006, li32767, li100000, li_neg, li13, li17, li21, li22, li28, li29, li33, li34, li35, li37, li38, li39, li46, li49, li50, li51, li52, li53, li63, li80, li115, li160]
      · have eo : oT T E a 2 Q = (0, 4294967295, nE T E (nE T E a), qKin Q (nV T E a) (nV T E (nE T E a))) := (if_neg (by omega)).trans ((if_neg (by omega)).trans ((if_neg (by omega)).trans ((if_pos rfl).trans ((if_neg (fun q => q (nk.trans c2))).trans (if_neg c3)))))
        rw [eo]
        have ft : FX (fun a _ => prD m a) M3 (sI M3 (m + 7) (nV T E a) (nI (nV T E (nE T E a)))) := (FX.rf _ M3).sI (by unfold prD; omega)
        refine ⟨sI M3 (m + 7) (nV T E a) (nI (nV T E (nE T E a))), ?_, f13.trans (ft.mono (fun _ _ q => Or.inr q)), Or.inl ⟨rfl, h3.fx ft (fun j q => by unfold prD at q; omega) (fun j q => by unfold prD at q; omega), ?_⟩⟩
        · simp (disch := omega) only [f_M_clause_d, f_M_clause_e, f_M_clause_f, e1, e2, e3, a2, g4, nI_eqF c3, bI_s, bV_s, bL_s, bR_s, bG_s, bG_n, bX_l, bX_r, ck_nI, nI_clamp, nI_leT, nI_leF, nI_ltT, nI_ltF, nI_eqF, nI_add, pk_mul, ofN, bt_e, or0, Nat.zero_add, Nat.add_zero, ↓reduceIte, if_true, if_false, Bool.false_eq_true, eq_self, li0, li1, li2, li3, li4, li5, li6, li7, li8, li9, li10, li11, li12, li14, li15, li16, li18, li19, li20, li23, li24, li25, li26, li27, li30, li31, li32, li36, li40, li41, li42, li43, li44, li45, li47, li48, li57, li59, li60, li91, li93, li96, li97, li100, li105, li122, li150, li200, li255, li400, li500, li600, li999, li1000, li1001, li2000, li2001, li2002, li2003, li2004, li2005, li2006, li32767, li100000, li_neg, li13, li17, li21, li22, li28, li29, li33, li34, li35, li37, li38, li39, li46, li49, li50, li51, li52, li53, li63, li80, li115, li160]
        · show isQr (sI M3 (m + 7) (nV T E a) (nI (nV T E (nE T E a)))) m (qKin Q (nV T E a) (nV T E (nE T E a)))
          generalize nV T E a = v
          generalize nV T E (nE T E a) = w
          obtain ⟨⟨q1, q2, q3⟩, q4, q5, q6, q7, q8⟩ := hQ3
          have ro : ∀ a b, a ≠ 7 → qKin Q v w a b = Q a b := fun a b h1 => by unfold qKin; rw [up_n (by omega)]
          refine ⟨⟨?_, ?_, ?_⟩, fun k hk => ?_, fun k hk => ⟨?_, ?_⟩, fun k hk => ⟨?_, ?_⟩, fun k hk => ?_, fun k hk => ?_⟩
          · rw [ro 0 0 (by omega), gI_ne (by omega)]; exact q1
          · rw [ro 0 2 (by omega), gI_ne (by omega)]; exact q2
          · rw [ro 0 5 (by omega), gI_ne (by omega)]; exact q3
          · rw [ro 0 0 (by omega)] at hk
            rw [ro 1 k (by omega), gI_ne (by omega)]; exact q4 k hk
          · rw [ro 0 2 (by omega)] at hk
            rw [ro 2 k (by omega), gI_ne (by omega)]; exact (q5 k hk).1
          · rw [ro 0 2 (by omega)] at hk
            rw [ro 3 k (by omega), gI_ne (by omega)]; exact (q5 k hk).2
          · rw [ro 0 5 (by omega)] at hk
            rw [ro 4 k (by omega), gI_ne (by omega)]; exact (q6 k hk).1
          · rw [ro 0 5 (by omega)] at hk
            rw [ro 5 k (by omega), gI_ne (by omega)]; exact (q6 k hk).2
          · rw [ro 0 5 (by omega), ro 6 k (by omega), gI_ne (by omega)]; exact q7 k hk
          · unfold qKin
            by_cases c : k = v
            · rw [c, gI_same, up_s]
            · rw [gI_ne (by omega), up_n (by omega)]; exact q8 k hk
    · have c2' : nK T E (sk T E (dg T E (sk T E a)).1) (nI 0) (nI 9) ≠ 0 := fun q => c2 (ek.symm.trans q)
      rw [nO_1 c2', show nK T E (sk T E (dg T E (sk T E a)).1) (nI 0) (nI 9) = nK T E (nE T E a) (nI 0) (nI 9) from ek, show sk T E (sk T E (dg T E (sk T E a)).1) = sk T E (nE T E a) from hi] at h3 g4
      dsimp only at g4
      have n3 := nK_3 (T := T) (E := E) (a := nE T E a) (p0 := nI 0) (p1 := nI 9)
      have eo : oT T E a 2 Q = (nK T E (nE T E a) (nI 0) (nI 9), sk T E (nE T E a), 0, Q) := by
        refine (if_neg (by omega)).trans ((if_neg (by omega)).trans ((if_neg (by omega)).trans ((if_pos rfl).trans ((if_pos (fun q => c2 (nk.symm.trans q))).trans ?_))))
        rw [nk, nf]
      rw [eo]
      refine ⟨M3, ?_, f13, Or.inr ⟨c2, _, h3⟩⟩
      simp (disch := omega) only [f_M_clause_d, f_M_clause_e, f_M_clause_f, e1, e2, e3, a2, g4, bI_s, bV_s, bL_s, bR_s, bG_s, bG_n, bX_l, bX_r, ck_nI, nI_clamp, nI_leT, nI_leF, nI_ltT, nI_ltF, nI_eqF, nI_add, pk_mul, ofN, bt_e, or0, Nat.zero_add, Nat.add_zero, ↓reduceIte, if_true, if_false, Bool.false_eq_true, eq_self, li0, li1, li2, li3, li4, li5, li6, li7, li8, li9, li10, li11, li12, li14, li15, li16, li18, li19, li20, li23, li24, li25, li26, li27, li30, li31, li32, li36, li40, li41, li42, li43, li44, li45, li47, li48, li57, li59, li60, li91, li93, li96, li97, li100, li105, li122, li150, li200, li255, li400, li500, li600, li999, li1000, li1001, li2000, li2001, li2002, li2003, li2004, li2005, li2006, li32767, li100000, li_neg, li13, li17, li21, li22, li28, li29, li33, li34, li35, li37, li38, li39, li46, li49, li50, li51, li52, li53, li63, li80, li115, li160]
  · have nk : n2k T E a (nI 0) (nI 9) (nI 0) (nI 9) = nK T E a (nI 0) (nI 9) := if_pos c1
    have nf : n2f T E a (nI 0) (nI 9) = sk T E a := if_pos c1
    have eo : oT T E a 2 Q = (nK T E a (nI 0) (nI 9), sk T E a, 0, Q) := by
      refine (if_neg (by omega)).trans ((if_neg (by omega)).trans ((if_neg (by omega)).trans ((if_pos rfl).trans ((if_pos (fun q => c1 (nk.symm.trans q))).trans ?_))))
      rw [nk, nf]
    rw [eo]
    rw [nO_1 c1] at h2
    have e3 := M_numberF (p0 := nI 0) (p1 := nI 9) h2 c1
    have g4 := h2.1.2.2.1
    have n3 := nK_3 (T := T) (E := E) (a := a) (p0 := nI 0) (p1 := nI 9)
    refine ⟨M2, ?_, (f1.trans f2).mono (fun _ _ q => Or.inl q), Or.inr ⟨c1, _, h2⟩⟩
    simp (disch := omega) only [f_M_clause_d, f_M_clause_e, f_M_clause_f, e1, e2, e3, a2, g4, bI_s, bV_s, bL_s, bR_s, bG_s, bG_n, bX_l, bX_r, ck_nI, nI_clamp, nI_leT, nI_leF, nI_ltT, nI_ltF, nI_eqF, nI_add, pk_mul, ofN, bt_e, or0, Nat.zero_add, Nat.add_zero, ↓reduceIte, if_true, if_false, Bool.false_eq_true, eq_self, li0, li1, li2, li3, li4, li5, li6, li7, li8, li9, li10, li11, li12, li14, li15, li16, li18, li19, li20, li23, li24, li25, li26, li27, li30, li31, li32, li36, li40, li41, li42, li43, li44, li45, li47, li48, li57, li59, li60, li91, li93, li96, li97, li100, li105, li122, li150, li200, li255, li400, li500, li600, li999, li1000, li1001, li2000, li2001, li2002, li2003, li2004, li2005, li2006, li32767, li100000, li_neg, li13, li17, li21, li22, li28, li29, li33, li34, li35, li37, li38, li39, li46, li49, li50, li51, li52, li53, li63, li80, li115, li160]
end
