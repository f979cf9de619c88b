/-! # functional level, 40: reading deeds, the class's loop -/
section
variable {M M' M1 M2 N : Mm} {t d m E a k f : Nat} {T : Nat → Nat}
theorem CTp.fx {D : Nat → Nat → Prop} (h : CTp M t T E a k f) (g : FX D M M1) (hd : ∀ j, ¬ D t j) (hd2 : ∀ j, ¬ D (t + 1) j) : CTp M1 t T E a k f :=
  ⟨⟨by rw [g.2.1 _ _ (hd _)]; exact h.1.1, by rw [g.2.1 _ _ (hd _)]; exact h.1.2.1, by rw [g.2.1 _ _ (hd _)]; exact h.1.2.2.1, by rw [g.2.1 _ _ (hd _)]; exact h.1.2.2.2⟩, fun i hi => by rw [g.2.1 _ _ (hd2 _)]; exact h.2.1 i hi, h.2.2⟩
theorem C_dexit (h : CTp M t T E a k f) (hk : k ≠ 0) (x : Int32) (w : Nat) : f_Deeds_read_b (w + 1) d t x M = some M := by
  have e4 := C_moreF h hk
  unfold f_Deeds_read_b
  by_cases c : (10 : Int32) < x
  · rw [if_pos c]
  · rw [if_neg c, e4]; rfl
theorem C_dread (hd : d ≠ t ∧ d ≠ t + 1) : ∀ (u a n : Nat) (A B : Nat → Nat) (w : Nat) (M : Mm), CTp M t T E a 0 4294967295 → isD M d n A B → okA n A B → n ≤ 10 → E - a < u → 13 ≤ w + n → ∃ M', f_Deeds_read_b w d t (nI n) M = some M' ∧ FX (dD t d) M M' ∧ (∃ a', CTp M' t T E a' (dz T E u a n A B).1 (dz T E u a n A B).2.1) ∧ ((dz T E u a n A B).1 = 0 → isD M' d (dz T E u a n A B).2.2.1 (dz T E u a n A B).2.2.2.1 (dz T E u a n A B).2.2.2.2 ∧ okA (dz T E u a n A B).2.2.1 (dz T E u a n A B).2.2.2.1 (dz T E u a n A B).2.2.2.2 ∧ (dz T E u a n A B).2.2.1 ≤ 10) := by
  intro u
  induction u with
  | zero => intro a n A B w M _ _ _ _ h _; omega
  | succ u ih =>
    intro a n A B w M h hD hA hn hu hw
    obtain ⟨w, rfl⟩ : ∃ v, w = v + 2 := ⟨w - 2, by omega⟩
    have hE := h.2.2.1
    have hsk := sk_b (T := T) hE.1
    obtain ⟨M1, e1, f1, h1⟩ := C_more h
    by_cases c0 : E ≤ sk T E a
    · have ez : dz T E (u + 1) a n A B = (0, 4294967295, n, A, B) := if_pos c0
      rw [ez]
      rw [if_neg (by omega)] at e1
      refine ⟨M1, ?_, f1.td, ⟨_, h1⟩, fun _ => ⟨⟨?_, ?_⟩, hA, hn⟩⟩
      · simp (disch := omega) only [f_Deeds_read_b, e1, bI_s, bV_s, bL_s, bR_s, bG_s, bG_n, bX_l, bX_r, ck_nI, nI_clamp, nI_leT, nI_leF, nI_ltT, nI_ltF, nI_eqF, nI_add, pk_mul, ofN, bt_e, or0, Nat.zero_add, Nat.add_zero, ↓reduceIte, if_true, if_false, Bool.false_eq_true, eq_self, li0, li1, li2, li3, li4, li5, li6, li7, li8, li9, li10, li11, li12, li14, li15, li16, li18, li19, li20, li23, li24, li25, li26, li27, li30, li31, li32, li36, li40, li41, li42, li43, li44, li45, li47, li48, li57, li59, li60, li91, li93, li96, li97, li100, li105, li122, li150, li200, li255, li400, li500, li600, li999, li1000, li1001, li2000, li2001, li2002, li2003, li2004, li2005, li2006, li32767, li100000, li_neg, li13, li17, li21, li22, li28, li29, li33, li34, li35, li37, li38, li39, li46, li49, li50, li51, li52, li53, li63, li80, li115, li160]
      · rw [f1.2.1 _ _ (by unfold tD; omega)]; exact hD.1
      · rw [f1.2.1 _ _ (by unfold tD; omega)]; exact hD.2
    · rw [if_pos (by omega)] at e1
      obtain ⟨M2, e2, f2, h2⟩ := C_next h1
      rw [sk_i hE.1] at e2 h2
      obtain ⟨M3, e3, f3, h3⟩ := C_number (p0 := nI 0) (p1 := nI 9) h2
      have hv1 := dg_lt h2
      have nv1 : nK T E (sk T E a) (nI 0) (nI 9) = 0 → _ := nK_v (T := T) (E := E) (a := sk T E a) (lo := 0) (hi := 9) (by omega) (by omega) (by omega)
      have ek : nK T E (sk T E a) (nI 0) (nI 9) = nK T E a (nI 0) (nI 9) := by unfold nK; rw [sk_i hE.1]
      have f123 : FX (tD t) M M3 := (f1.trans f2).trans f3
      have d0 : gI M3 d 0 = dY n A B 1 := by rw [f123.2.1 _ _ (by unfold tD; omega)]; exact hD.1
      have d1 : gI M3 d 1 = dY n A B 0 := by rw [f123.2.1 _ _ (by unfold tD; omega)]; exact hD.2
      have du := dY_or hA.1
      have eb : f_Deeds_read_b (w + 2) d t (nI n) M = bI (f_C_hasBit (und n A) (nI (dg T E (sk T E a)).2) M3) (fun z12 M10 => (if z12 = 0 then f_Deeds_read_c (f_Deeds_read_b (w + 1)) d t (nI n) (nI (sk T E a)) (nI (dg T E (sk T E a)).2) M10 else (bV (f_Tape_wrong t (nI 2) (nI (sk T E a)) M10) (fun M13 => f_Deeds_read_c (f_Deeds_read_b (w + 1)) d t (nI n) (nI (sk T E a)) (nI (dg T E (sk T E a)).2) M13)))) := by
        rw [sk_i hE.1] at e3
        conv => lhs; unfold f_Deeds_read_b
        have e10 : ¬ nI 10 < nI n := nI_nlt hn (by omega)
        rw [if_neg (show ¬ (10 : Int32) < nI n from e10), e1, bI_s, if_neg (show ¬ nI 1 = 0 by decide), e2, bI_s, show f_Tape_number t 0 9 M2 = _ from e3, bI_s, d0, d1, du]
        rfl
      rw [eb]
      rw [sk_i hE.1] at h3 hv1 nv1
      by_cases c1 : nK T E a (nI 0) (nI 9) = 0
      · obtain ⟨l1, l2, l3⟩ := nv1 (ek.trans c1)
        rw [nO_0 (ek.trans c1)] at h3
        by_cases c2 : hs (und n A) (dg T E (sk T E a)).2 = true
        · have ez : dz T E (u + 1) a n A B = (2, sk T E a, n, A, B) := by unfold dz; rw [if_neg c0, if_neg (fun q => q c1), if_pos c2]
          rw [ez, C_hasT c2, bI_s, if_neg (show ¬ nI 1 = 0 by decide)]
          obtain ⟨M4, e4, f4, h4⟩ := C_wrong h3 (k1 := 2) (f1 := sk T E a) (by omega)
          rw [e4, bV_s]
          obtain ⟨M5, e5, f5, h5⟩ := C_dtail (d := d) h4 (show (wkf 0 4294967295 2 (sk T E a)).1 ≠ 0 from by show (2 : Nat) ≠ 0; omega) (nI n) (nI (sk T E a)) (nI (dg T E (sk T E a)).2) w
          exact ⟨M5, e5, ((f123.trans f4).trans f5).td, h5, fun q => absurd q (by show ¬ (2 : Nat) = 0; omega)⟩
        · obtain ⟨M4, e4, f4, h4⟩ := C_number (p0 := nI 0) (p1 := nI 1) h3
          have hv2 := dg_lt h3
          have nv2 : nK T E (dg T E (sk T E a)).1 (nI 0) (nI 1) = 0 → _ := nK_v (T := T) (E := E) (a := (dg T E (sk T E a)).1) (lo := 0) (hi := 1) (by omega) (by omega) (by omega)
          rw [C_hasF c2, bI_s, if_pos (show nI 0 = 0 from rfl)]
          have efine := C_fine h4
          by_cases c3 : nK T E (dg T E (sk T E a)).1 (nI 0) (nI 1) = 0
          · obtain ⟨k1, k2, k3⟩ := nv2 c3
            rw [nO_0 c3] at h4 efine
            have hE3 := h3.2.2.1
            have hs3 := sk_b (T := T) hE3.1
            have hE4 := h4.2.2.1
            have hs4 := sk_b (T := T) hE4.1
            have f14 := f123.trans f4
            have d2 : gI M4 d 0 = dY n A B 1 := by rw [f14.2.1 _ _ (by unfold tD; omega)]; exact hD.1
            have d3 : gI M4 d 1 = dY n A B 0 := by rw [f14.2.1 _ _ (by unfold tD; omega)]; exact hD.2
            have key : ∃ M5, f_Deeds_add d t (nI (dg T E (sk T E a)).2) M3 = some M5 ∧ FX (fun x j => x = d ∧ j ≤ 1) M4 M5 ∧ isD M5 d (n + 1) (upv A n (dg T E (sk T E a)).2) (upv B n (dg T E (sk T E (dg T E (sk T E a)).1)).2) := by
              have efine : f_Tape_isFine t M4 = some (nI 1, M4) := efine
              generalize (dg T E (sk T E a)).2 = v1 at l2 l3 ⊢
              generalize (dg T E (sk T E (dg T E (sk T E a)).1)).2 = v2 at k2 k3 e4 ⊢
              obtain q | q : v2 = 1 ∨ v2 = 0 := by omega
              · subst q
                refine ⟨sI M4 d 0 (dY n A B 1 ||| bt v1), ?_, (FX.rf _ M4).sI ⟨rfl, by omega⟩, ?_, ?_⟩
                · simp (disch := omega) only [f_Deeds_add, f_Deeds_add_b, e4, efine, d2, bI_s, bV_s, bL_s, bR_s, bG_s, bG_n, bX_l, bX_r, ck_nI, nI_clamp, nI_leT, nI_leF, nI_ltT, nI_ltF, nI_eqF, nI_add, pk_mul, ofN, bt_e, or0, Nat.zero_add, Nat.add_zero, ↓reduceIte, if_true, if_false, Bool.false_eq_true, eq_self, li0, li1, li2, li3, li4, li5, li6, li7, li8, li9, li10, li11, li12, li14, li15, li16, li18, li19, li20, li23, li24, li25, li26, li27, li30, li31, li32, li36, li40, li41, li42, li43, li44, li45, li47, li48, li57, li59, li60, li91, li93, li96, li97, li100, li105, li122, li150, li200, li255, li400, li500, li600, li999, li1000, li1001, li2000, li2001, li2002, li2003, li2004, li2005, li2006, li32767, li100000, li_neg, li13, li17, li21, li22, li28, li29, li33, li34, li35, li37, li38, li39, li46, li49, li50, li51, li52, li53, li63, li80, li115, li160]
                · rw [gI_same, dY_s, if_pos rfl]
                · rw [gI_ne (Or.inr (by omega)), dY_s, if_neg (by omega)]; exact d3
              · subst q
                refine ⟨sI M4 d 1 (dY n A B 0 ||| bt v1), ?_, (FX.rf _ M4).sI ⟨rfl, by omega⟩, ?_, ?_⟩
                · simp (disch := omega) only [f_Deeds_add, f_Deeds_add_b, e4, efine, d3, bI_s, bV_s, bL_s, bR_s, bG_s, bG_n, bX_l, bX_r, ck_nI, nI_clamp, nI_leT, nI_leF, nI_ltT, nI_ltF, nI_eqF, nI_add, pk_mul, ofN, bt_e, or0, Nat.zero_add, Nat.add_zero, ↓reduceIte, if_true, if_false, Bool.false_eq_true, eq_self, li0, li1, li2, li3, li4, li5, li6, li7, li8, li9, li10, li11, li12, li14, li15, li16, li18, li19, li20, li23, li24, li25, li26, li27, li30, li31, li32, li36, li40, li41, li42, li43, li44, li45, li47, li48, li57, li59, li60, li91, li93, li96, li97, li100, li105, li122, li150, li200, li255, li400, li500, li600, li999, li1000, li1001, li2000, li2001, li2002, li2003, li2004, li2005, li2006, li32767, li100000, li_neg, li13, li17, li21, li22, li28, li29, li33, li34, li35, li37, li38, li39, li46, li49, li50, li51, li52, li53, li63, li80, li115, li160]
                · rw [gI_ne (Or.inr (by omega)), dY_s, if_neg (by omega)]; exact d2
                · rw [gI_same, dY_s, if_pos rfl]
            obtain ⟨M5, e5, f5, h5⟩ := key
            have h5c := h4.fx f5 (fun j q => by omega) (fun j q => by omega)
            have f15 : FX (dD t d) M M5 := f14.td.trans (f5.mono (fun _ _ q => Or.inr q))
            by_cases c4 : sk T E (dg T E (sk T E (dg T E (sk T E a)).1)).1 < E ∧ T (sk T E (dg T E (sk T E (dg T E (sk T E a)).1)).1) = 59
            · obtain ⟨M6, e6, f6, h6⟩ := C_needY h5c c4.1 c4.2
              have ez : dz T E (u + 1) a n A B = dz T E u (sk T E (dg T E (sk T E (dg T E (sk T E a)).1)).1 + 1) (n + 1) (upv A n (dg T E (sk T E a)).2) (upv B n (dg T E (sk T E (dg T E (sk T E a)).1)).2) := by
                conv => lhs; unfold dz
                rw [if_neg c0, if_neg (fun q => q c1), if_neg c2, if_neg (fun q => q c3), if_neg (fun q => q c4)]
              rw [ez]
              have h6d : isD M6 d (n + 1) (upv A n (dg T E (sk T E a)).2) (upv B n (dg T E (sk T E (dg T E (sk T E a)).1)).2) := ⟨by rw [f6.2.1 _ _ (by unfold tD; omega)]; exact h5.1, by rw [f6.2.1 _ _ (by unfold tD; omega)]; exact h5.2⟩
              have hfull := hA.full (show (dg T E (sk T E a)).2 < 10 by omega) c2
              obtain ⟨M7, e7, f7, h7⟩ := ih _ (n + 1) _ _ (w + 1) M6 h6 h6d (hA.s (by omega) k3 c2) (by omega) (by omega) (by omega)
              refine ⟨M7, ?_, (f15.trans f6.td).trans f7, h7⟩
              simp (disch := omega) only [f_Deeds_read_c, e5, e6, e7, bI_s, bV_s, bL_s, bR_s, bG_s, bG_n, bX_l, bX_r, ck_nI, nI_clamp, nI_leT, nI_leF, nI_ltT, nI_ltF, nI_eqF, nI_add, pk_mul, ofN, bt_e, or0, Nat.zero_add, Nat.add_zero, ↓reduceIte, if_true, if_false, Bool.false_eq_true, eq_self, li0, li1, li2, li3, li4, li5, li6, li7, li8, li9, li10, li11, li12, li14, li15, li16, li18, li19, li20, li23, li24, li25, li26, li27, li30, li31, li32, li36, li40, li41, li42, li43, li44, li45, li47, li48, li57, li59, li60, li91, li93, li96, li97, li100, li105, li122, li150, li200, li255, li400, li500, li600, li999, li1000, li1001, li2000, li2001, li2002, li2003, li2004, li2005, li2006, li32767, li100000, li_neg, li13, li17, li21, li22, li28, li29, li33, li34, li35, li37, li38, li39, li46, li49, li50, li51, li52, li53, li63, li80, li115, li160]
            · obtain ⟨M6, e6, f6, h6⟩ := C_needN h5c (by omega) c4
              have ez : dz T E (u + 1) a n A B = (1, sk T E (dg T E (sk T E (dg T E (sk T E a)).1)).1, n, A, B) := by
                unfold dz; rw [if_neg c0, if_neg (fun q => q c1), if_neg c2, if_neg (fun q => q c3), if_pos c4]
              rw [ez]
              have e7 := C_dexit (d := d) h6 (by omega) (nI (n + 1)) w
              refine ⟨M6, ?_, f15.trans f6.td, ⟨_, h6⟩, fun q => absurd q (by show ¬ (1 : Nat) = 0; omega)⟩
              simp (disch := omega) only [f_Deeds_read_c, e5, e6, e7, bI_s, bV_s, bL_s, bR_s, bG_s, bG_n, bX_l, bX_r, ck_nI, nI_clamp, nI_leT, nI_leF, nI_ltT, nI_ltF, nI_eqF, nI_add, pk_mul, ofN, bt_e, or0, Nat.zero_add, Nat.add_zero, ↓reduceIte, if_true, if_false, Bool.false_eq_true, eq_self, li0, li1, li2, li3, li4, li5, li6, li7, li8, li9, li10, li11, li12, li14, li15, li16, li18, li19, li20, li23, li24, li25, li26, li27, li30, li31, li32, li36, li40, li41, li42, li43, li44, li45, li47, li48, li57, li59, li60, li91, li93, li96, li97, li100, li105, li122, li150, li200, li255, li400, li500, li600, li999, li1000, li1001, li2000, li2001, li2002, li2003, li2004, li2005, li2006, li32767, li100000, li_neg, li13, li17, li21, li22, li28, li29, li33, li34, li35, li37, li38, li39, li46, li49, li50, li51, li52, li53, li63, li80, li115, li160]
          · rw [nO_1 c3] at h4 efine
            rw [if_neg c3] at efine
            have ez : dz T E (u + 1) a n A B = (nK T E (dg T E (sk T E a)).1 (nI 0) (nI 1), sk T E (dg T E (sk T E a)).1, n, A, B) := by
              unfold dz; rw [if_neg c0, if_neg (fun q => q c1), if_neg c2, if_pos c3]
            rw [ez]
            have e5 := C_needF h4 c3 (nI 59)
            have e7 := C_dexit (d := d) h4 c3 (nI (n + 1)) w
            refine ⟨M4, ?_, (f123.trans f4).td, ⟨_, h4⟩, fun q => absurd q c3⟩
            simp (disch := omega) only [f_Deeds_read_c, f_Deeds_add, f_Deeds_add_b, e4, efine, e5, e7, bI_s, bV_s, bL_s, bR_s, bG_s, bG_n, bX_l, bX_r, ck_nI, nI_clamp, nI_leT, nI_leF, nI_ltT, nI_ltF, nI_eqF, nI_add, pk_mul, ofN, bt_e, or0, Nat.zero_add, Nat.add_zero, ↓reduceIte, if_true, if_false, Bool.false_eq_true, eq_self, li0, li1, li2, li3, li4, li5, li6, li7, li8, li9, li10, li11, li12, li14, li15, li16, li18, li19, li20, li23, li24, li25, li26, li27, li30, li31, li32, li36, li40, li41, li42, li43, li44, li45, li47, li48, li57, li59, li60, li91, li93, li96, li97, li100, li105, li122, li150, li200, li255, li400, li500, li600, li999, li1000, li1001, li2000, li2001, li2002, li2003, li2004, li2005, li2006, li32767, li100000, li_neg, li13, li17, li21, li22, li28, li29, li33, li34, li35, li37, li38, li39, li46, li49, li50, li51, li52, li53, li63, li80, li115, li160]
      · have ez : dz T E (u + 1) a n A B = (nK T E a (nI 0) (nI 9), sk T E a, n, A, B) := by unfold dz; rw [if_neg c0, if_pos c1]
        rw [ez]
        have c1' : nK T E (sk T E a) (nI 0) (nI 9) ≠ 0 := by rw [ek]; exact c1
        rw [nO_1 c1', ek, sk_i hE.1] at h3
        obtain ⟨M5, e5, f5, h5⟩ := C_dtail (d := d) h3 c1 (nI n) (nI (sk T E a)) (nI (dg T E (sk T E a)).2) w
        refine ⟨M5, ?_, (f123.trans f5).td, h5, fun q => absurd q c1⟩
        rcases hB_any (und n A) (nI (dg T E (sk T E a)).2) M3 with e | e
        · rw [e, bI_s, if_pos (show nI 0 = 0 from rfl)]; exact e5
        · rw [e, bI_s, if_neg (show ¬ nI 1 = 0 by decide)]
          have hk3 := h3.1.2.2.1
          have := nK_3 (T := T) (E := E) (a := a) (p0 := nI 0) (p1 := nI 9)
          have ew : f_Tape_wrong t (nI 2) (nI (sk T E a)) M3 = some M3 := by simp (disch := omega) only [f_Tape_wrong, hk3, bI_s, bV_s, bL_s, bR_s, bG_s, bG_n, bX_l, bX_r, ck_nI, nI_clamp, nI_leT, nI_leF, nI_ltT, nI_ltF, nI_eqF, nI_add, pk_mul, ofN, bt_e, or0, Nat.zero_add, Nat.add_zero, ↓reduceIte, if_true, if_false, Bool.false_eq_true, eq_self, li0, li1, li2, li3, li4, li5, li6, li7, li8, li9, li10, li11, li12, li14, li15, li16, li18, li19, li20, li23, li24, li25, li26, li27, li30, li31, li32, li36, li40, li41, li42, li43, li44, li45, li47, li48, li57, li59, li60, li91, li93, li96, li97, li100, li105, li122, li150, li200, li255, li400, li500, li600, li999, li1000, li1001, li2000, li2001, li2002, li2003, li2004, li2005, li2006, li32767, li100000, li_neg, li13, li17, li21, li22, li28, li29, li33, li34, li35, li37, li38, li39, li46, li49, li50, li51, li52, li53, li63, li80, li115, li160]
          rw [ew, bV_s]; exact e5
end
