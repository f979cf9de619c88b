/-! # functional level, 41: reading deeds, the model's loop -/
section
variable {M M' M1 M2 N : Mm} {t d m E a k f : Nat} {T : Nat → Nat} {p0 x2 x3 x4 x5 x6 : Int32}
theorem MTp.fx {D : Nat → Nat → Prop} (h : MTp M m T E a k f) (g : FX D M M1) (hd : ∀ j, ¬ D m j) (hd2 : ∀ j, ¬ D (m + 1) j) : MTp M1 m T E a k f :=
  ⟨⟨by rw [g.2.1 _ _ (hd _)]; exact h.1.1, by rw [g.2.1 _ _ (hd _)]; exact h.1.2.1, by rw [g.2.1 _ _ (hd _)]; exact h.1.2.2.1, by rw [g.2.1 _ _ (hd _)]; exact h.1.2.2.2⟩, fun i hi => by rw [g.2.1 _ _ (hd2 _)]; exact h.2.1 i hi, h.2.2⟩
def mdD (m a j : Nat) : Prop := uD m a j ∨ (m + 377 ≤ a ∧ a < m + 387)
theorem FX.ud {m : Nat} (h : FX (uD m) M M1) : FX (mdD m) M M1 := h.mono (fun _ _ q => Or.inl q)
theorem dgm_lt (h : MTp M m T E a k f) : (dg T E (sk T E a)).2 < 1000000 := by
  have hs := sk_b (T := T) h.2.2.1.1
  exact (dgN_b (T := T) (E - sk T E a) (sk T E a) 0).2 (by omega) (fun i hi => h.2.2.2 i (by omega))
theorem M_dexit (h : MTp M m T E a k f) (hk : k ≠ 0) (w : Nat) : ∃ M', f_M_deeds_e (f_M_deeds_c (w + 1)) m p0 x2 x3 x4 x5 x6 M = f_M_deeds_f m p0 x2 x3 M' ∧ FX (uD m) M M' ∧ ∃ a', MTp M' m T E a' k f := by
  obtain ⟨M1, e1, f1, h1⟩ := M_blanks h
  have hE := h.2.2.1
  have hk1 := h1.1.2.2.1
  refine ⟨M1, ?_, f1, _, h1⟩
  simp (disch := omega) only [f_M_deeds_e, f_M_deeds_c, e1, hk1, bI_s, bV_s, bL_s, bR_s, bG_s, bG_n, bX_l, bX_r, ck_nI, nI_clamp, nI_leT, nI_leF, nI_ltT, nI_ltF, nI_eqF, nI_add, pk_mul, ofN, bt_e, or0, Nat.zero_add, Nat.add_zero, ↓reduceIte, if_true, if_false, Bool.false_eq_true, eq_self, li0, li1, li2, li3, li4, li5, li6, li7, li8, li9, li10, li11, li12, li14, li15, li16, li18, li19, li20, li23, li24, li25, li26, li27, li30, li31, li32, li36, li40, li41, li42, li43, li44, li45, li47, li48, li57, li59, li60, li91, li93, li96, li97, li100, li105, li122, li150, li200, li255, li400, li500, li600, li999, li1000, li1001, li2000, li2001, li2002, li2003, li2004, li2005, li2006, li32767, li100000, li_neg, li13, li17, li21, li22, li28, li29, li33, li34, li35, li37, li38, li39, li46, li49, li50, li51, li52, li53, li63, li80, li115, li160]
theorem M_dtail (h : MTp M m T E a k f) (hk : k ≠ 0) (w : Nat) : ∃ M', f_M_deeds_d (f_M_deeds_c (w + 1)) m p0 x2 x3 x4 x5 M = f_M_deeds_f m p0 x2 x3 M' ∧ FX (uD m) M M' ∧ ∃ a', MTp M' m T E a' k f := by
  have hE := h.2.2.1
  have hk1 := h.1.2.2.1
  obtain ⟨M1, e1, f1, h1⟩ := M_dexit (p0 := p0) (x2 := x2) (x3 := x3) (x4 := x4) (x5 := x5) (x6 := nI 0) h hk w
  refine ⟨M1, ?_, f1, h1⟩
  have e2 : f_M_number m (nI 0) (nI 1) M = _ := M_numberF h hk
  have e3 := M_signF h hk (nI 59)
  simp (disch := omega) only [f_M_deeds_d, e2, e3, hk1, e1, bI_s, bV_s, bL_s, bR_s, bG_s, bG_n, bX_l, bX_r, ck_nI, nI_clamp, nI_leT, nI_leF, nI_ltT, nI_ltF, nI_eqF, nI_add, pk_mul, ofN, bt_e, or0, Nat.zero_add, Nat.add_zero, ↓reduceIte, if_true, if_false, Bool.false_eq_true, eq_self, li0, li1, li2, li3, li4, li5, li6, li7, li8, li9, li10, li11, li12, li14, li15, li16, li18, li19, li20, li23, li24, li25, li26, li27, li30, li31, li32, li36, li40, li41, li42, li43, li44, li45, li47, li48, li57, li59, li60, li91, li93, li96, li97, li100, li105, li122, li150, li200, li255, li400, li500, li600, li999, li1000, li1001, li2000, li2001, li2002, li2003, li2004, li2005, li2006, li32767, li100000, li_neg, li13, li17, li21, li22, li28, li29, li33, li34, li35, li37, li38, li39, li46, li49, li50, li51, li52, li53, li63, li80, li115, li160]
def isR (M : Mm) (m n : Nat) (A B : Nat → Nat) : Prop := ∀ k, k < n → gI M (m + 376 + 1 + k) 0 = nI (A k) ∧ gI M (m + 376 + 1 + k) 1 = nI (B k)
theorem M_dread : ∀ (u a n : Nat) (A B : Nat → Nat) (w : Nat) (M : Mm), a ≤ E → MTp M m T E (sk T E a) 0 4294967295 → isR M m n A B → okA n A B → n ≤ 10 → E - a < u → u < w → ∃ x2 x3 M', f_M_deeds_c w m p0 (nI n) (und n A) M = f_M_deeds_f m p0 x2 x3 M' ∧ FX (mdD m) M M' ∧ (∃ a', MTp M' m T E a' (dz T E u a n A B).1 (dz T E u a n A B).2.1) ∧ ((dz T E u a n A B).1 = 0 → x2 = nI (dz T E u a n A B).2.2.1 ∧ isR M' m (dz T E u a n A B).2.2.1 (dz T E u a n A B).2.2.2.1 (dz T E u a n A B).2.2.2.2) := by
  intro u
  induction u with
  | zero => intro a n A B w M _ _ _ _ _ h _; omega
  | succ u ih =>
    intro a n A B w M haE h hR hA hn hu hw
    obtain ⟨w, rfl⟩ : ∃ v, w = v + 2 := ⟨w - 2, by omega⟩
    have hE := h.2.2.1
    have hsk := sk_b (T := T) haE
    have g1 := h.1.1
    have g2 := h.1.2.1
    have g3 := h.1.2.2.1
    by_cases c0 : E ≤ sk T E a
    · have ez : dz T E (u + 1) a n A B = (0, 4294967295, n, A, B) := if_pos c0
      rw [ez]
      refine ⟨nI n, und n A, M, ?_, FX.rf _ M, ⟨_, h⟩, fun _ => ⟨rfl, hR⟩⟩
      simp (disch := omega) only [f_M_deeds_c, g1, g2, g3, bI_s, bV_s, bL_s, bR_s, bG_s, bG_n, bX_l, bX_r, ck_nI, nI_clamp, nI_leT, nI_leF, nI_ltT, nI_ltF, nI_eqF, nI_add, pk_mul, ofN, bt_e, or0, Nat.zero_add, Nat.add_zero, ↓reduceIte, if_true, if_false, Bool.false_eq_true, eq_self, li0, li1, li2, li3, li4, li5, li6, li7, li8, li9, li10, li11, li12, li14, li15, li16, li18, li19, li20, li23, li24, li25, li26, li27, li30, li31, li32, li36, li40, li41, li42, li43, li44, li45, li47, li48, li57, li59, li60, li91, li93, li96, li97, li100, li105, li122, li150, li200, li255, li400, li500, li600, li999, li1000, li1001, li2000, li2001, li2002, li2003, li2004, li2005, li2006, li32767, li100000, li_neg, li13, li17, li21, li22, li28, li29, li33, li34, li35, li37, li38, li39, li46, li49, li50, li51, li52, li53, li63, li80, li115, li160]
    · have key := M_number (p0 := nI 0) (p1 := nI 9) h (by decide)
      have hv1 := dgm_lt h
      rw [sk_i haE] at key hv1
      have nv1 : nK T E a (nI 0) (nI 9) = 0 → _ := nK_v (T := T) (E := E) (a := a) (lo := 0) (hi := 9) (by omega) (by omega) (by omega)
      have ek : nK T E (sk T E a) (nI 0) (nI 9) = nK T E a (nI 0) (nI 9) := by unfold nK; rw [sk_i haE]
      obtain ⟨z, M3, e3, f3, h3, hz⟩ := key
      have g5 := h3.1.2.2.1
      by_cases c1 : nK T E a (nI 0) (nI 9) = 0
      · obtain ⟨l1, l2, l3⟩ := nv1 c1
        have hz := hz (by rw [nO_0 (ek.trans c1)])
        rw [nO_0 (ek.trans c1)] at h3 g5
        subst hz
        by_cases c2 : hs (und n A) (dg T E (sk T E a)).2 = true
        · have ez : dz T E (u + 1) a n A B = (2, sk T E a, n, A, B) := by unfold dz; rw [if_neg c0, if_neg (fun q => q c1), if_pos c2]
          rw [ez]
          obtain ⟨M4, e4, f4, h4⟩ := M_wrong h3 (k1 := 2) (f1 := sk T E a) (by omega)
          obtain ⟨M5, e5, f5, h5⟩ := M_dtail (p0 := p0) (x2 := nI n) (x3 := und n A) (x4 := nI (sk T E a)) (x5 := nI (dg T E (sk T E a)).2) h4 (show (wkf 0 4294967295 2 (sk T E a)).1 ≠ 0 from by show (2 : Nat) ≠ 0; omega) w
          refine ⟨nI n, und n A, M5, ?_, ((f3.trans f4).trans f5).ud, h5, fun q => absurd q (by show ¬ (2 : Nat) = 0; omega)⟩
          conv => lhs; unfold f_M_deeds_c
          simp (disch := omega) only [g1, g2, g3, e3, g5, M_hasT c2, e4, e5, bI_s, bV_s, bL_s, bR_s, bG_s, bG_n, bX_l, bX_r, ck_nI, nI_clamp, nI_leT, nI_leF, nI_ltT, nI_ltF, nI_eqF, nI_add, pk_mul, ofN, bt_e, or0, Nat.zero_add, Nat.add_zero, ↓reduceIte, if_true, if_false, Bool.false_eq_true, eq_self, li0, li1, li2, li3, li4, li5, li6, li7, li8, li9, li10, li11, li12, li14, li15, li16, li18, li19, li20, li23, li24, li25, li26, li27, li30, li31, li32, li36, li40, li41, li42, li43, li44, li45, li47, li48, li57, li59, li60, li91, li93, li96, li97, li100, li105, li122, li150, li200, li255, li400, li500, li600, li999, li1000, li1001, li2000, li2001, li2002, li2003, li2004, li2005, li2006, li32767, li100000, li_neg, li13, li17, li21, li22, li28, li29, li33, li34, li35, li37, li38, li39, li46, li49, li50, li51, li52, li53, li63, li80, li115, li160]
        · have eb : f_M_deeds_c (w + 2) m p0 (nI n) (und n A) M = f_M_deeds_d (f_M_deeds_c (w + 1)) m p0 (nI n) (und n A) (nI (sk T E a)) (nI (dg T E (sk T E a)).2) M3 := by
            conv => lhs; unfold f_M_deeds_c
            simp (disch := omega) only [g1, g2, g3, e3, g5, M_hasF c2, bI_s, bV_s, bL_s, bR_s, bG_s, bG_n, bX_l, bX_r, ck_nI, nI_clamp, nI_leT, nI_leF, nI_ltT, nI_ltF, nI_eqF, nI_add, pk_mul, ofN, bt_e, or0, Nat.zero_add, Nat.add_zero, ↓reduceIte, if_true, if_false, Bool.false_eq_true, eq_self, li0, li1, li2, li3, li4, li5, li6, li7, li8, li9, li10, li11, li12, li14, li15, li16, li18, li19, li20, li23, li24, li25, li26, li27, li30, li31, li32, li36, li40, li41, li42, li43, li44, li45, li47, li48, li57, li59, li60, li91, li93, li96, li97, li100, li105, li122, li150, li200, li255, li400, li500, li600, li999, li1000, li1001, li2000, li2001, li2002, li2003, li2004, li2005, li2006, li32767, li100000, li_neg, li13, li17, li21, li22, li28, li29, li33, li34, li35, li37, li38, li39, li46, li49, li50, li51, li52, li53, li63, li80, li115, li160]
          rw [eb]
          obtain ⟨z2, M4, e4, f4, h4, hz2⟩ := M_number (p0 := nI 0) (p1 := nI 1) h3 (by decide)
          have hv2 := dgm_lt h3
          have nv2 : nK T E (dg T E (sk T E a)).1 (nI 0) (nI 1) = 0 → _ := nK_v (T := T) (E := E) (a := (dg T E (sk T E a)).1) (lo := 0) (hi := 1) (by omega) (by omega) (by omega)
          by_cases c3 : nK T E (dg T E (sk T E a)).1 (nI 0) (nI 1) = 0
          · obtain ⟨k1, k2, k3⟩ := nv2 c3
            have hz2 := hz2 (by rw [nO_0 c3])
            subst hz2
            rw [nO_0 c3] at h4
            have hE3 := h3.2.2.1
            have hs3 := sk_b (T := T) hE3.1
            have hE4 := h4.2.2.1
            have hs4 := sk_b (T := T) hE4.1
            by_cases c4 : sk T E (dg T E (sk T E (dg T E (sk T E a)).1)).1 < E ∧ T (sk T E (dg T E (sk T E (dg T E (sk T E a)).1)).1) = 59
            · obtain ⟨M6, e6, f6, h6⟩ := M_signY h4 c4.1 c4.2
              have g6 := h6.1.2.2.1
              have ez : dz T E (u + 1) a n A B = dz T E u (sk T E (dg T E (sk T E (dg T E (sk T E a)).1)).1 + 1) (n + 1) (upv A n (dg T E (sk T E a)).2) (upv B n (dg T E (sk T E (dg T E (sk T E a)).1)).2) := by
                conv => lhs; unfold dz
                rw [if_neg c0, if_neg (fun q => q c1), if_neg c2, if_neg (fun q => q c3), if_neg (fun q => q c4)]
              rw [ez]
              have hfull := hA.full (show (dg T E (sk T E a)).2 < 10 by omega) c2
              have hA' := hA.s (y := (dg T E (sk T E (dg T E (sk T E a)).1)).2) (show (dg T E (sk T E a)).2 < 10 by omega) k3 c2
              have f36 := (f3.trans f4).trans f6
              have us : und n A ||| bt (dg T E (sk T E a)).2 = und (n + 1) (upv A n (dg T E (sk T E a)).2) := und_s.symm
              generalize (dg T E (sk T E a)).2 = v1 at e4 us hA' l3 ⊢
              generalize (dg T E (sk T E (dg T E (sk T E a)).1)).2 = v2 at e4 k3 hA' ⊢
              have f7 : FX (fun x j => m + 377 ≤ x ∧ x < m + 387) M6 (sI (sI M6 (m + 376 + 1 + n) 0 (nI v1)) (m + 376 + 1 + n) 1 (nI v2)) := ((FX.rf _ M6).sI (by omega)).sI (by omega)
              obtain ⟨M8, e8, f8, h8⟩ := M_blanks (h6.fx f7 (fun j q => by omega) (fun j q => by omega))
              have f38 : FX (mdD m) M M8 := (f36.ud.trans (f7.mono (fun _ _ q => Or.inr q))).trans f8.ud
              have key := ih _ (n + 1) (upv A n v1) (upv B n v2) (w + 1) M8 (by omega) h8 (fun k hk => ?_) hA' (by omega) (by omega) (by omega)
              · obtain ⟨y2, y3, M9, e9, f9, h9⟩ := key
                refine ⟨y2, y3, M9, ?_, f38.trans f9, h9⟩
                rw [← e9]
                simp (disch := omega) only [f_M_deeds_d, f_M_deeds_e, e4, e6, g6, e8, us, bI_s, bV_s, bL_s, bR_s, bG_s, bG_n, bX_l, bX_r, ck_nI, nI_clamp, nI_leT, nI_leF, nI_ltT, nI_ltF, nI_eqF, nI_add, pk_mul, ofN, bt_e, or0, Nat.zero_add, Nat.add_zero, ↓reduceIte, if_true, if_false, Bool.false_eq_true, eq_self, li0, li1, li2, li3, li4, li5, li6, li7, li8, li9, li10, li11, li12, li14, li15, li16, li18, li19, li20, li23, li24, li25, li26, li27, li30, li31, li32, li36, li40, li41, li42, li43, li44, li45, li47, li48, li57, li59, li60, li91, li93, li96, li97, li100, li105, li122, li150, li200, li255, li400, li500, li600, li999, li1000, li1001, li2000, li2001, li2002, li2003, li2004, li2005, li2006, li32767, li100000, li_neg, li13, li17, li21, li22, li28, li29, li33, li34, li35, li37, li38, li39, li46, li49, li50, li51, li52, li53, li63, li80, li115, li160]
              · rw [f8.2.1 _ _ (by unfold uD; omega), f8.2.1 _ _ (by unfold uD; omega)]
                by_cases q : k = n
                · rw [q, upv_s, upv_s, gI_same, gI_ne (Or.inr (by omega)), gI_same]; exact ⟨rfl, rfl⟩
                · rw [upv_n q, upv_n q, gI_ne (Or.inl (by omega)), gI_ne (Or.inl (by omega)), gI_ne (Or.inl (by omega)), gI_ne (Or.inl (by omega)), f36.2.1 _ _ (by unfold uD; omega), f36.2.1 _ _ (by unfold uD; omega)]
                  exact hR k (by omega)
            · obtain ⟨M6, e6, f6, h6⟩ := M_signN h4 (by omega) c4
              have g6 := h6.1.2.2.1
              have ez : dz T E (u + 1) a n A B = (1, sk T E (dg T E (sk T E (dg T E (sk T E a)).1)).1, n, A, B) := by
                unfold dz; rw [if_neg c0, if_neg (fun q => q c1), if_neg c2, if_neg (fun q => q c3), if_pos c4]
              rw [ez]
              obtain ⟨M7, e7, f7, h7⟩ := M_dexit (p0 := p0) (x2 := nI n) (x3 := und n A) (x4 := nI (sk T E a)) (x5 := nI (dg T E (sk T E a)).2) (x6 := nI (dg T E (sk T E (dg T E (sk T E a)).1)).2) h6 (by omega) w
              refine ⟨nI n, und n A, M7, ?_, (((f3.trans f4).trans f6).trans f7).ud, h7, fun q => absurd q (by show ¬ (1 : Nat) = 0; omega)⟩
              simp (disch := omega) only [f_M_deeds_d, e4, e6, g6, e7, bI_s, bV_s, bL_s, bR_s, bG_s, bG_n, bX_l, bX_r, ck_nI, nI_clamp, nI_leT, nI_leF, nI_ltT, nI_ltF, nI_eqF, nI_add, pk_mul, ofN, bt_e, or0, Nat.zero_add, Nat.add_zero, ↓reduceIte, if_true, if_false, Bool.false_eq_true, eq_self, li0, li1, li2, li3, li4, li5, li6, li7, li8, li9, li10, li11, li12, li14, li15, li16, li18, li19, li20, li23, li24, li25, li26, li27, li30, li31, li32, li36, li40, li41, li42, li43, li44, li45, li47, li48, li57, li59, li60, li91, li93, li96, li97, li100, li105, li122, li150, li200, li255, li400, li500, li600, li999, li1000, li1001, li2000, li2001, li2002, li2003, li2004, li2005, li2006, li32767, li100000, li_neg, li13, li17, li21, li22, li28, li29, li33, li34, li35, li37, li38, li39, li46, li49, li50, li51, li52, li53, li63, li80, li115, li160]
          · rw [nO_1 c3] at h4
            have g6 := h4.1.2.2.1
            have hE4 := h4.2.2.1
            dsimp only at g6
            have n3 := nK_3 (T := T) (E := E) (a := (dg T E (sk T E a)).1) (p0 := nI 0) (p1 := nI 1)
            have ez : dz T E (u + 1) a n A B = (nK T E (dg T E (sk T E a)).1 (nI 0) (nI 1), sk T E (dg T E (sk T E a)).1, n, A, B) := by
              unfold dz; rw [if_neg c0, if_neg (fun q => q c1), if_neg c2, if_pos c3]
            rw [ez]
            have e5 := M_signF h4 c3 (nI 59)
            obtain ⟨M7, e7, f7, h7⟩ := M_dexit (p0 := p0) (x2 := nI n) (x3 := und n A) (x4 := nI (sk T E a)) (x5 := nI (dg T E (sk T E a)).2) (x6 := z2) h4 c3 w
            refine ⟨nI n, und n A, M7, ?_, ((f3.trans f4).trans f7).ud, h7, fun q => absurd q c3⟩
            simp (disch := omega) only [f_M_deeds_d, e4, e5, g6, e7, bI_s, bV_s, bL_s, bR_s, bG_s, bG_n, bX_l, bX_r, ck_nI, nI_clamp, nI_leT, nI_leF, nI_ltT, nI_ltF, nI_eqF, nI_add, pk_mul, ofN, bt_e, or0, Nat.zero_add, Nat.add_zero, ↓reduceIte, if_true, if_false, Bool.false_eq_true, eq_self, li0, li1, li2, li3, li4, li5, li6, li7, li8, li9, li10, li11, li12, li14, li15, li16, li18, li19, li20, li23, li24, li25, li26, li27, li30, li31, li32, li36, li40, li41, li42, li43, li44, li45, li47, li48, li57, li59, li60, li91, li93, li96, li97, li100, li105, li122, li150, li200, li255, li400, li500, li600, li999, li1000, li1001, li2000, li2001, li2002, li2003, li2004, li2005, li2006, li32767, li100000, li_neg, li13, li17, li21, li22, li28, li29, li33, li34, li35, li37, li38, li39, li46, li49, li50, li51, li52, li53, li63, li80, li115, li160]
      · have ez : dz T E (u + 1) a n A B = (nK T E a (nI 0) (nI 9), sk T E a, n, A, B) := by unfold dz; rw [if_neg c0, if_pos c1]
        rw [ez]
        have c1' : nK T E (sk T E a) (nI 0) (nI 9) ≠ 0 := by rw [ek]; exact c1
        rw [nO_1 c1', ek, sk_i haE] at h3 g5
        dsimp only at g5
        have n3 := nK_3 (T := T) (E := E) (a := a) (p0 := nI 0) (p1 := nI 9)
        obtain ⟨M5, e5, f5, h5⟩ := M_dtail (p0 := p0) (x2 := nI n) (x3 := und n A) (x4 := nI (sk T E a)) (x5 := z) h3 c1 w
        refine ⟨nI n, und n A, M5, ?_, (f3.trans f5).ud, h5, fun q => absurd q c1⟩
        conv => lhs; unfold f_M_deeds_c
        simp (disch := omega) only [g1, g2, g3, e3, g5, e5, bI_s, bV_s, bL_s, bR_s, bG_s, bG_n, bX_l, bX_r, ck_nI, nI_clamp, nI_leT, nI_leF, nI_ltT, nI_ltF, nI_eqF, nI_add, pk_mul, ofN, bt_e, or0, Nat.zero_add, Nat.add_zero, ↓reduceIte, if_true, if_false, Bool.false_eq_true, eq_self, li0, li1, li2, li3, li4, li5, li6, li7, li8, li9, li10, li11, li12, li14, li15, li16, li18, li19, li20, li23, li24, li25, li26, li27, li30, li31, li32, li36, li40, li41, li42, li43, li44, li45, li47, li48, li57, li59, li60, li91, li93, li96, li97, li100, li105, li122, li150, li200, li255, li400, li500, li600, li999, li1000, li1001, li2000, li2001, li2002, li2003, li2004, li2005, li2006, li32767, li100000, li_neg, li13, li17, li21, li22, li28, li29, li33, li34, li35, li37, li38, li39, li46, li49, li50, li51, li52, li53, li63, li80, li115, li160]
end
