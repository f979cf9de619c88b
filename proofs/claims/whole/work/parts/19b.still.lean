/-! # functional level, 29: still agrees -/
section
variable {M M' M1 N : Mm} {o m p a : Nat} {S : St} {P W : TT} {c t : Nat → Nat}
def vs (m y : Nat) : Prop := y = m + 497 ∨ y = m + 498
theorem M_chH {q x : Nat} (hq : q ≤ 16) (oP : okP P) (hk : gI N (m + 8) x = nI (P 7 x)) (h1 : isV N (m + 497) c) (h2 : isV N (m + 498) t) (hx : x < 10) (ke : Nat → Int32 → Int32 → Int32 → Int32 → Int32 → Int32 → Mm → Option (Int64 × Mm)) (kg' : Nat → Int32 → Int32 → Int32 → Int32 → Int32 → Int32 → Int32 → Mm → Option (Int64 × Mm)) (p0 p2 p3 p4 x6 : Int32) : ∃ N', f_M_still_h ke kg' m p0 (nI q) p2 p3 p4 x6 (nI x) (if P 7 x = 4294967295 then nI 16 else nI (16 - q)) (lN (c x)) (lN (t x)) (nI x) N = kg' m p0 (nI q) p2 p3 p4 x6 (nI (x + 1)) N' ∧ (isV N' (m + 497) c ∧ isV N' (m + 498) (stA P q c x t)) ∧ Fr (vs m) N N' := by
  have kk := oP.kin hx
  by_cases e : P 7 x = 4294967295
  · rw [if_pos e]
    have es : stA P q c x t = upv t x (t x + c x * 16) := by
      have s1 : slA P x = x := if_pos e
      unfold stA
      rw [s1]
      funext j
      unfold upv
      by_cases ej : j = x
      · rw [if_pos ej, if_pos ej, if_pos rfl, Nat.add_assoc, ← Nat.mul_add, Nat.sub_add_cancel hq]
      · rw [if_neg ej, if_neg ej, if_neg ej]
    rw [es]
    refine ⟨sL N (m + 498) x (lN (t x + c x * 16)), ?_, ⟨h1.ne (by omega), h2.set hx⟩, (Fr.rf _ N).sL (Or.inr rfl)⟩
    have hk' : gI (sL N (m + 498) x (lN (t x + c x * 16))) (m + 8) x = nI 4294967295 := by rw [← e]; exact hk
    simp (disch := omega) only [f_M_still_h, nI_l, lN_mul, lN_add, hk', bI_s, bV_s, bL_s, bR_s, bG_s, bG_n, bX_l, bX_r, ck_nI, nI_clamp, nI_leT, nI_leF, nI_ltT, nI_ltF, nI_eqF, nI_add, pk_mul, ofN, bt_e, or0, Nat.zero_add, Nat.add_zero, ↓reduceIte, if_true, if_false, Bool.false_eq_true, eq_self, li0, li1, li2, li3, li4, li5, li6, li7, li8, li9, li10, li11, li12, li14, li15, li16, li18, li19, li20, li23, li24, li25, li26, li27, li30, li31, li32, li36, li40, li41, li42, li43, li44, li45, li47, li48, li57, li59, li60, li91, li93, li96, li97, li100, li105, li122, li150, li200, li255, li400, li500, li600, li999, li1000, li1001, li2000, li2001, li2002, li2003, li2004, li2005, li2006, li32767, li100000, li_neg, li13, li17, li21, li22, li28, li29, li33, li34, li35, li37, li38, li39, li46, li49, li50, li51, li52, li53, li63, li80, li115, li160]
  · rw [if_neg e]
    have s1 : slA P x = P 7 x := if_neg e
    have v1 : isV (sL N (m + 498) x (lN (t x + c x * (16 - q)))) (m + 498) (upv t x (t x + c x * (16 - q))) := h2.set hx
    unfold stA
    rw [s1]
    refine ⟨sL (sL N (m + 498) x (lN (t x + c x * (16 - q)))) (m + 498) (P 7 x) (lN (upv t x (t x + c x * (16 - q)) (P 7 x) + c x * q)), ?_, ⟨(h1.ne (by omega)).ne (by omega), v1.set (by omega)⟩, ((Fr.rf _ N).sL (Or.inr rfl)).sL (Or.inr rfl)⟩
    have hk' : gI (sL N (m + 498) x (lN (t x + c x * (16 - q)))) (m + 8) x = nI (P 7 x) := hk
    have e1 := v1 (P 7 x) (by omega)
    have e3 : gL (sL N (m + 498) x (lN (t x + c x * (16 - q)))) (m + 497) x = lN (c x) := by rw [gL_ne (by omega)]; exact h1 x hx
    simp (disch := omega) only [f_M_still_h, nI_l, lN_mul, lN_add, hk', e1, e3, bI_s, bV_s, bL_s, bR_s, bG_s, bG_n, bX_l, bX_r, ck_nI, nI_clamp, nI_leT, nI_leF, nI_ltT, nI_ltF, nI_eqF, nI_add, pk_mul, ofN, bt_e, or0, Nat.zero_add, Nat.add_zero, ↓reduceIte, if_true, if_false, Bool.false_eq_true, eq_self, li0, li1, li2, li3, li4, li5, li6, li7, li8, li9, li10, li11, li12, li14, li15, li16, li18, li19, li20, li23, li24, li25, li26, li27, li30, li31, li32, li36, li40, li41, li42, li43, li44, li45, li47, li48, li57, li59, li60, li91, li93, li96, li97, li100, li105, li122, li150, li200, li255, li400, li500, li600, li999, li1000, li1001, li2000, li2001, li2002, li2003, li2004, li2005, li2006, li32767, li100000, li_neg, li13, li17, li21, li22, li28, li29, li33, li34, li35, li37, li38, li39, li46, li49, li50, li51, li52, li53, li63, li80, li115, li160]
theorem M_chance (hQ : isQ N m P) (oP : okP P) {b : Nat} (hb : b < P 0 2) (hN : isN N (m + 470) P W) (oW : okW P W) {q n ac : Nat} (hq : q ≤ 16) (hn : n ≤ 12) (hac : ac < 10) (p4 : Int32) : ∃ N', f_M_still_d FU m (nI b) (nI q) (nI n) (nI ac) p4 (nI 0) N = f_M_still_j FU m (nI b) (nI q) (nI n) (nI ac) p4 ((1 : Int64) <<< (Int32.toInt64 (4 * nI n) &&& 63)) ((1 : Int64) <<< (Int32.toInt64 (4 * nI n) &&& 63)) (lN (chV P q (W 5 b) n ac)) N' ∧ gL N' (m + 497) ac = lN (chV P q (W 5 b) n ac) ∧ Fr (vs m) N N' := by
  have hf := oW.me hb
  have hB := oP.b
  generalize hfv : W 5 b = f at hf
  have kinF : ∀ N1 : Mm, Fr (vs m) N N1 → ∀ x, x < 10 → gI N1 (m + 8) x = nI (P 7 x) := fun N1 f1 x hx => by rw [f1.i (by unfold vs; omega)]; exact hQ.kin hx
  have dawn : ∀ (ke : Nat → Int32 → Int32 → Int32 → Int32 → Int32 → Int32 → Mm → Option (Int64 × Mm)) (i : Nat) (c : Nat → Nat) (N1 : Mm), isV N1 (m + 497) c → Fr (vs m) N N1 → ∃ N', f_M_still_f ke FU m (nI b) (nI q) (nI n) (nI ac) p4 (nI i) (nI 0) N1 = ke m (nI b) (nI q) (nI n) (nI ac) p4 (nI (i + 1)) N' ∧ (isV N' (m + 497) (nxV P q c 10) ∧ Fr (vs m) N N') := by
    intro ke i c N1 h1 f1
    have back : ∀ N2 : Mm, isV N2 (m + 498) (nxV P q c 10) → Fr (vs m) N N2 → ∃ N', f_M_still_i ke FU m (nI b) (nI q) (nI n) (nI ac) p4 (nI i) (nI 0) N2 = ke m (nI b) (nI q) (nI n) (nI ac) p4 (nI (i + 1)) N' ∧ (isV N' (m + 497) (nxV P q c 10) ∧ Fr (vs m) N N') := by
      intro N2 g1 g2
      refine lp_ex (fun u x (N' : Mm) => f_M_still_i ke u m (nI b) (nI q) (nI n) (nI ac) p4 (nI i) (nI x) N') (fun N' => ke m (nI b) (nI q) (nI n) (nI ac) p4 (nI (i + 1)) N') 10 (fun x N' => ((∀ k, k < x → gL N' (m + 497) k = lN (nxV P q c 10 k)) ∧ isV N' (m + 498) (nxV P q c 10)) ∧ Fr (vs m) N N') _ (fun u x N' hx hI => ?_) (fun u N' hI => ?_) N2 ⟨⟨fun k hk => by omega, g1⟩, g2⟩ FU (FU_lt (by omega))
      · obtain ⟨⟨k1, k2⟩, k3⟩ := hI
        refine ⟨sL N' (m + 497) x (lN (nxV P q c 10 x)), ?_, ⟨fun k hk => ?_, k2.ne (by omega)⟩, k3.sL (Or.inl rfl)⟩
        · simp (disch := omega) only [f_M_still_i, k2 x hx, bI_s, bV_s, bL_s, bR_s, bG_s, bG_n, bX_l, bX_r, ck_nI, nI_clamp, nI_leT, nI_leF, nI_ltT, nI_ltF, nI_eqF, nI_add, pk_mul, ofN, bt_e, or0, Nat.zero_add, Nat.add_zero, ↓reduceIte, if_true, if_false, Bool.false_eq_true, eq_self, li0, li1, li2, li3, li4, li5, li6, li7, li8, li9, li10, li11, li12, li14, li15, li16, li18, li19, li20, li23, li24, li25, li26, li27, li30, li31, li32, li36, li40, li41, li42, li43, li44, li45, li47, li48, li57, li59, li60, li91, li93, li96, li97, li100, li105, li122, li150, li200, li255, li400, li500, li600, li999, li1000, li1001, li2000, li2001, li2002, li2003, li2004, li2005, li2006, li32767, li100000, li_neg, li13, li17, li21, li22, li28, li29, li33, li34, li35, li37, li38, li39, li46, li49, li50, li51, li52, li53, li63, li80, li115, li160]
        · by_cases e : k = x
          · subst e; exact gL_same ..
          · rw [gL_ne (by omega)]; exact k1 k (by omega)
      · refine ⟨N', ?_, hI.1.1, hI.2⟩
        simp (disch := omega) only [f_M_still_i, bI_s, bV_s, bL_s, bR_s, bG_s, bG_n, bX_l, bX_r, ck_nI, nI_clamp, nI_leT, nI_leF, nI_ltT, nI_ltF, nI_eqF, nI_add, pk_mul, ofN, bt_e, or0, Nat.zero_add, Nat.add_zero, ↓reduceIte, if_true, if_false, Bool.false_eq_true, eq_self, li0, li1, li2, li3, li4, li5, li6, li7, li8, li9, li10, li11, li12, li14, li15, li16, li18, li19, li20, li23, li24, li25, li26, li27, li30, li31, li32, li36, li40, li41, li42, li43, li44, li45, li47, li48, li57, li59, li60, li91, li93, li96, li97, li100, li105, li122, li150, li200, li255, li400, li500, li600, li999, li1000, li1001, li2000, li2001, li2002, li2003, li2004, li2005, li2006, li32767, li100000, li_neg, li13, li17, li21, li22, li28, li29, li33, li34, li35, li37, li38, li39, li46, li49, li50, li51, li52, li53, li63, li80, li115, li160]
    have acc : ∀ N2 : Mm, isV N2 (m + 497) c → isV N2 (m + 498) (fun _ => 0) → Fr (vs m) N N2 → ∃ N', f_M_still_g ke FU m (nI b) (nI q) (nI n) (nI ac) p4 (nI i) (nI 0) N2 = ke m (nI b) (nI q) (nI n) (nI ac) p4 (nI (i + 1)) N' ∧ (isV N' (m + 497) (nxV P q c 10) ∧ Fr (vs m) N N') := by
      intro N2 g1 g2 g3
      have key := lp_ex (fun u x (N' : Mm) => f_M_still_g ke u m (nI b) (nI q) (nI n) (nI ac) p4 (nI i) (nI x) N') (fun N' => f_M_still_i ke FU m (nI b) (nI q) (nI n) (nI ac) p4 (nI i) (nI 0) N') 10 (fun x N' => (isV N' (m + 497) c ∧ isV N' (m + 498) (nxV P q c x)) ∧ Fr (vs m) N N') (fun N' => isV N' (m + 498) (nxV P q c 10) ∧ Fr (vs m) N N') (fun u x N' hx hI => ?_) (fun u N' hI => ?_) N2 ⟨⟨g1, g2⟩, g3⟩ FU (FU_lt (by omega))
      · obtain ⟨N3, e1, z1, z2⟩ := key
        obtain ⟨N4, e2, z3⟩ := back N3 z1 z2
        exact ⟨N4, e1.trans e2, z3⟩
      · obtain ⟨⟨k1, k2⟩, k3⟩ := hI
        have kn := kinF N' k3 x hx
        have kk := oP.kin hx
        obtain ⟨N3, z1, z2, z3⟩ := M_chH hq oP kn k1 k2 hx ke (f_M_still_g ke u) (nI b) (nI n) (nI ac) p4 (nI i)
        refine ⟨N3, ?_, z2, k3.trans z3⟩
        rw [← z1]
        by_cases e : P 7 x = 4294967295
        · rw [if_pos e]
          rw [e] at kn
          simp (disch := omega) only [f_M_still_g, kn, k1 x hx, k2 x hx, bI_s, bV_s, bL_s, bR_s, bG_s, bG_n, bX_l, bX_r, ck_nI, nI_clamp, nI_leT, nI_leF, nI_ltT, nI_ltF, nI_eqF, nI_add, pk_mul, ofN, bt_e, or0, Nat.zero_add, Nat.add_zero, ↓reduceIte, if_true, if_false, Bool.false_eq_true, eq_self, li0, li1, li2, li3, li4, li5, li6, li7, li8, li9, li10, li11, li12, li14, li15, li16, li18, li19, li20, li23, li24, li25, li26, li27, li30, li31, li32, li36, li40, li41, li42, li43, li44, li45, li47, li48, li57, li59, li60, li91, li93, li96, li97, li100, li105, li122, li150, li200, li255, li400, li500, li600, li999, li1000, li1001, li2000, li2001, li2002, li2003, li2004, li2005, li2006, li32767, li100000, li_neg, li13, li17, li21, li22, li28, li29, li33, li34, li35, li37, li38, li39, li46, li49, li50, li51, li52, li53, li63, li80, li115, li160]
        · rw [if_neg e]
          simp (disch := omega) only [f_M_still_g, kn, k1 x hx, k2 x hx, e, pk_sub, bI_s, bV_s, bL_s, bR_s, bG_s, bG_n, bX_l, bX_r, ck_nI, nI_clamp, nI_leT, nI_leF, nI_ltT, nI_ltF, nI_eqF, nI_add, pk_mul, ofN, bt_e, or0, Nat.zero_add, Nat.add_zero, ↓reduceIte, if_true, if_false, Bool.false_eq_true, eq_self, li0, li1, li2, li3, li4, li5, li6, li7, li8, li9, li10, li11, li12, li14, li15, li16, li18, li19, li20, li23, li24, li25, li26, li27, li30, li31, li32, li36, li40, li41, li42, li43, li44, li45, li47, li48, li57, li59, li60, li91, li93, li96, li97, li100, li105, li122, li150, li200, li255, li400, li500, li600, li999, li1000, li1001, li2000, li2001, li2002, li2003, li2004, li2005, li2006, li32767, li100000, li_neg, li13, li17, li21, li22, li28, li29, li33, li34, li35, li37, li38, li39, li46, li49, li50, li51, li52, li53, li63, li80, li115, li160]
      · refine ⟨N', ?_, hI.1.2, hI.2⟩
        simp (disch := omega) only [f_M_still_g, bI_s, bV_s, bL_s, bR_s, bG_s, bG_n, bX_l, bX_r, ck_nI, nI_clamp, nI_leT, nI_leF, nI_ltT, nI_ltF, nI_eqF, nI_add, pk_mul, ofN, bt_e, or0, Nat.zero_add, Nat.add_zero, ↓reduceIte, if_true, if_false, Bool.false_eq_true, eq_self, li0, li1, li2, li3, li4, li5, li6, li7, li8, li9, li10, li11, li12, li14, li15, li16, li18, li19, li20, li23, li24, li25, li26, li27, li30, li31, li32, li36, li40, li41, li42, li43, li44, li45, li47, li48, li57, li59, li60, li91, li93, li96, li97, li100, li105, li122, li150, li200, li255, li400, li500, li600, li999, li1000, li1001, li2000, li2001, li2002, li2003, li2004, li2005, li2006, li32767, li100000, li_neg, li13, li17, li21, li22, li28, li29, li33, li34, li35, li37, li38, li39, li46, li49, li50, li51, li52, li53, li63, li80, li115, li160]
    have key := lp_ex (fun u x (N' : Mm) => f_M_still_f ke u m (nI b) (nI q) (nI n) (nI ac) p4 (nI i) (nI x) N') (fun N' => f_M_still_g ke FU m (nI b) (nI q) (nI n) (nI ac) p4 (nI i) (nI 0) N') 10 (fun x N' => (isV N' (m + 497) c ∧ ∀ k, k < x → gL N' (m + 498) k = lN 0) ∧ Fr (vs m) N N') (fun N' => isV N' (m + 497) c ∧ isV N' (m + 498) (fun _ => 0) ∧ Fr (vs m) N N') (fun u x N' hx hI => ?_) (fun u N' hI => ?_) N1 ⟨⟨h1, fun k hk => by omega⟩, f1⟩ FU (FU_lt (by omega))
    · obtain ⟨N3, e1, z1, z2, z4⟩ := key
      obtain ⟨N4, e2, z3⟩ := acc N3 z1 z2 z4
      exact ⟨N4, e1.trans e2, z3⟩
    · obtain ⟨⟨k1, k2⟩, k3⟩ := hI
      refine ⟨sL N' (m + 498) x (lN 0), ?_, ⟨k1.ne (by omega), fun k hk => ?_⟩, k3.sL (Or.inr rfl)⟩
      · simp (disch := omega) only [f_M_still_f, lL0, bI_s, bV_s, bL_s, bR_s, bG_s, bG_n, bX_l, bX_r, ck_nI, nI_clamp, nI_leT, nI_leF, nI_ltT, nI_ltF, nI_eqF, nI_add, pk_mul, ofN, bt_e, or0, Nat.zero_add, Nat.add_zero, ↓reduceIte, if_true, if_false, Bool.false_eq_true, eq_self, li0, li1, li2, li3, li4, li5, li6, li7, li8, li9, li10, li11, li12, li14, li15, li16, li18, li19, li20, li23, li24, li25, li26, li27, li30, li31, li32, li36, li40, li41, li42, li43, li44, li45, li47, li48, li57, li59, li60, li91, li93, li96, li97, li100, li105, li122, li150, li200, li255, li400, li500, li600, li999, li1000, li1001, li2000, li2001, li2002, li2003, li2004, li2005, li2006, li32767, li100000, li_neg, li13, li17, li21, li22, li28, li29, li33, li34, li35, li37, li38, li39, li46, li49, li50, li51, li52, li53, li63, li80, li115, li160]
      · by_cases e : k = x
        · subst e; exact gL_same ..
        · rw [gL_ne (by omega)]; exact k2 k (by omega)
    · obtain ⟨⟨k1, k2⟩, k3⟩ := hI
      refine ⟨N', ?_, k1, k2, k3⟩
      simp (disch := omega) only [f_M_still_f, bI_s, bV_s, bL_s, bR_s, bG_s, bG_n, bX_l, bX_r, ck_nI, nI_clamp, nI_leT, nI_leF, nI_ltT, nI_ltF, nI_eqF, nI_add, pk_mul, ofN, bt_e, or0, Nat.zero_add, Nat.add_zero, ↓reduceIte, if_true, if_false, Bool.false_eq_true, eq_self, li0, li1, li2, li3, li4, li5, li6, li7, li8, li9, li10, li11, li12, li14, li15, li16, li18, li19, li20, li23, li24, li25, li26, li27, li30, li31, li32, li36, li40, li41, li42, li43, li44, li45, li47, li48, li57, li59, li60, li91, li93, li96, li97, li100, li105, li122, li150, li200, li255, li400, li500, li600, li999, li1000, li1001, li2000, li2001, li2002, li2003, li2004, li2005, li2006, li32767, li100000, li_neg, li13, li17, li21, li22, li28, li29, li33, li34, li35, li37, li38, li39, li46, li49, li50, li51, li52, li53, li63, li80, li115, li160]
  have days : ∀ N1 : Mm, isV N1 (m + 497) (chV P q f 0) → Fr (vs m) N N1 → ∃ N', f_M_still_e FU m (nI b) (nI q) (nI n) (nI ac) p4 (nI 0) N1 = f_M_still_j FU m (nI b) (nI q) (nI n) (nI ac) p4 ((1 : Int64) <<< (Int32.toInt64 (4 * nI n) &&& 63)) ((1 : Int64) <<< (Int32.toInt64 (4 * nI n) &&& 63)) (lN (chV P q f n ac)) N' ∧ gL N' (m + 497) ac = lN (chV P q f n ac) ∧ Fr (vs m) N N' := by
    intro N1 g1 g2
    refine lp_ex (fun u i (N' : Mm) => f_M_still_e u m (nI b) (nI q) (nI n) (nI ac) p4 (nI i) N') (fun N' => f_M_still_j FU m (nI b) (nI q) (nI n) (nI ac) p4 ((1 : Int64) <<< (Int32.toInt64 (4 * nI n) &&& 63)) ((1 : Int64) <<< (Int32.toInt64 (4 * nI n) &&& 63)) (lN (chV P q f n ac)) N') n (fun i N' => isV N' (m + 497) (chV P q f i) ∧ Fr (vs m) N N') _ (fun u i N' hi hI => ?_) (fun u N' hI => ?_) N1 ⟨g1, g2⟩ FU (FU_lt (by omega))
    · obtain ⟨N3, z1, z2, z3⟩ := dawn (f_M_still_e u) i (chV P q f i) N' hI.1 hI.2
      refine ⟨N3, ?_, z2, z3⟩
      rw [← z1]
      simp (disch := omega) only [f_M_still_e, bI_s, bV_s, bL_s, bR_s, bG_s, bG_n, bX_l, bX_r, ck_nI, nI_clamp, nI_leT, nI_leF, nI_ltT, nI_ltF, nI_eqF, nI_add, pk_mul, ofN, bt_e, or0, Nat.zero_add, Nat.add_zero, ↓reduceIte, if_true, if_false, Bool.false_eq_true, eq_self, li0, li1, li2, li3, li4, li5, li6, li7, li8, li9, li10, li11, li12, li14, li15, li16, li18, li19, li20, li23, li24, li25, li26, li27, li30, li31, li32, li36, li40, li41, li42, li43, li44, li45, li47, li48, li57, li59, li60, li91, li93, li96, li97, li100, li105, li122, li150, li200, li255, li400, li500, li600, li999, li1000, li1001, li2000, li2001, li2002, li2003, li2004, li2005, li2006, li32767, li100000, li_neg, li13, li17, li21, li22, li28, li29, li33, li34, li35, li37, li38, li39, li46, li49, li50, li51, li52, li53, li63, li80, li115, li160]
    · refine ⟨N', ?_, hI.1 ac hac, hI.2⟩
      simp (disch := omega) only [f_M_still_e, hI.1 ac hac, bI_s, bV_s, bL_s, bR_s, bG_s, bG_n, bX_l, bX_r, ck_nI, nI_clamp, nI_leT, nI_leF, nI_ltT, nI_ltF, nI_eqF, nI_add, pk_mul, ofN, bt_e, or0, Nat.zero_add, Nat.add_zero, ↓reduceIte, if_true, if_false, Bool.false_eq_true, eq_self, li0, li1, li2, li3, li4, li5, li6, li7, li8, li9, li10, li11, li12, li14, li15, li16, li18, li19, li20, li23, li24, li25, li26, li27, li30, li31, li32, li36, li40, li41, li42, li43, li44, li45, li47, li48, li57, li59, li60, li91, li93, li96, li97, li100, li105, li122, li150, li200, li255, li400, li500, li600, li999, li1000, li1001, li2000, li2001, li2002, li2003, li2004, li2005, li2006, li32767, li100000, li_neg, li13, li17, li21, li22, li28, li29, li33, li34, li35, li37, li38, li39, li46, li49, li50, li51, li52, li53, li63, li80, li115, li160]
  have key := lp_ex (fun u x (N' : Mm) => f_M_still_d u m (nI b) (nI q) (nI n) (nI ac) p4 (nI x) N') (fun N' => f_M_still_e FU m (nI b) (nI q) (nI n) (nI ac) p4 (nI 0) N') 10 (fun x N' => (∀ k, k < x → gL N' (m + 497) k = lN (chV P q f 0 k)) ∧ Fr (vs m) N N') (fun N' => isV N' (m + 497) (chV P q f 0) ∧ Fr (vs m) N N') (fun u x N' hx hI => ?_) (fun u N' hI => ?_) N ⟨fun k hk => by omega, Fr.rf _ _⟩ FU (FU_lt (by omega))
  · obtain ⟨N3, e1, z1, z2⟩ := key
    obtain ⟨N4, e2, z3⟩ := days N3 z1 z2
    exact ⟨N4, e1.trans e2, z3⟩
  · obtain ⟨k1, k3⟩ := hI
    have em : gI N' (m + 470) b = nI f := by rw [k3.i (by unfold vs; omega), ← hfv]; exact hN.me hb
    refine ⟨sL N' (m + 497) x (lN (chV P q f 0 x)), ?_, fun k hk => ?_, k3.sL (Or.inl rfl)⟩
    · show _ = f_M_still_d u m (nI b) (nI q) (nI n) (nI ac) p4 (nI (x + 1)) (sL N' (m + 497) x (lN (if x = f then 1 else 0)))
      by_cases e : x = f
      · subst e
        simp (disch := omega) only [f_M_still_d, em, lL0, lL1, bI_s, bV_s, bL_s, bR_s, bG_s, bG_n, bX_l, bX_r, ck_nI, nI_clamp, nI_leT, nI_leF, nI_ltT, nI_ltF, nI_eqF, nI_add, pk_mul, ofN, bt_e, or0, Nat.zero_add, Nat.add_zero, ↓reduceIte, if_true, if_false, Bool.false_eq_true, eq_self, li0, li1, li2, li3, li4, li5, li6, li7, li8, li9, li10, li11, li12, li14, li15, li16, li18, li19, li20, li23, li24, li25, li26, li27, li30, li31, li32, li36, li40, li41, li42, li43, li44, li45, li47, li48, li57, li59, li60, li91, li93, li96, li97, li100, li105, li122, li150, li200, li255, li400, li500, li600, li999, li1000, li1001, li2000, li2001, li2002, li2003, li2004, li2005, li2006, li32767, li100000, li_neg, li13, li17, li21, li22, li28, li29, li33, li34, li35, li37, li38, li39, li46, li49, li50, li51, li52, li53, li63, li80, li115, li160]
      · simp (disch := omega) only [f_M_still_d, em, lL0, lL1, e, bI_s, bV_s, bL_s, bR_s, bG_s, bG_n, bX_l, bX_r, ck_nI, nI_clamp, nI_leT, nI_leF, nI_ltT, nI_ltF, nI_eqF, nI_add, pk_mul, ofN, bt_e, or0, Nat.zero_add, Nat.add_zero, ↓reduceIte, if_true, if_false, Bool.false_eq_true, eq_self, li0, li1, li2, li3, li4, li5, li6, li7, li8, li9, li10, li11, li12, li14, li15, li16, li18, li19, li20, li23, li24, li25, li26, li27, li30, li31, li32, li36, li40, li41, li42, li43, li44, li45, li47, li48, li57, li59, li60, li91, li93, li96, li97, li100, li105, li122, li150, li200, li255, li400, li500, li600, li999, li1000, li1001, li2000, li2001, li2002, li2003, li2004, li2005, li2006, li32767, li100000, li_neg, li13, li17, li21, li22, li28, li29, li33, li34, li35, li37, li38, li39, li46, li49, li50, li51, li52, li53, li63, li80, li115, li160]
    · by_cases e : k = x
      · subst e; exact gL_same ..
      · rw [gL_ne (by omega)]; exact k1 k (by omega)
  · refine ⟨N', ?_, hI.1, hI.2⟩
    simp (disch := omega) only [f_M_still_d, bI_s, bV_s, bL_s, bR_s, bG_s, bG_n, bX_l, bX_r, ck_nI, nI_clamp, nI_leT, nI_leF, nI_ltT, nI_ltF, nI_eqF, nI_add, pk_mul, ofN, bt_e, or0, Nat.zero_add, Nat.add_zero, ↓reduceIte, if_true, if_false, Bool.false_eq_true, eq_self, li0, li1, li2, li3, li4, li5, li6, li7, li8, li9, li10, li11, li12, li14, li15, li16, li18, li19, li20, li23, li24, li25, li26, li27, li30, li31, li32, li36, li40, li41, li42, li43, li44, li45, li47, li48, li57, li59, li60, li91, li93, li96, li97, li100, li105, li122, li150, li200, li255, li400, li500, li600, li999, li1000, li1001, li2000, li2001, li2002, li2003, li2004, li2005, li2006, li32767, li100000, li_neg, li13, li17, li21, li22, li28, li29, li33, li34, li35, li37, li38, li39, li46, li49, li50, li51, li52, li53, li63, li80, li115, li160]
/-! the fraction -/
theorem lg0 {x : Nat} (hx : x < 2 ^ 63) : (lg_cmp (lN x) 0 = 0) ↔ x = 0 := by
  unfold lg_cmp
  have e0 : (0 : Int64) = lN 0 := rfl
  rw [e0]
  by_cases c : x = 0
  · subst c
    rw [if_neg (fun z : lN 0 < lN 0 => by have := (pk_lLT (by omega) (by omega)).mp z; omega), if_pos rfl]
    exact ⟨fun _ => rfl, fun _ => rfl⟩
  · rw [if_pos (show lN 0 < lN x from (pk_lLT (by omega) hx).mpr (by omega))]
    exact ⟨fun z => absurd z (by decide), fun z => absurd z c⟩
theorem w64 : ∀ n, n < 13 → (1 : Int64) <<< (Int32.toInt64 (4 * nI n) &&& 63) = lN (2 ^ (4 * n)) := by decide +kernel
theorem M_gcd {v q n ac b p4 wh : Int32} {g : Nat} (p3 : Nat) (hp : p3 < 10) {c w : Nat} (hc : gL N (m + 497) p3 = lN c) (hcb : c < 2 ^ 63) (hw : w < 2 ^ 63) (j : Nat) (hj : j ≤ 1) : ∀ (k y x u : Nat), y < 2 ^ k → k ≤ 62 → x < 2 ^ 63 → 1 ≤ Nat.gcd x y → 2 * k + 1 ≤ u → f_M_still_j u m b q n (nI p3) (nI j) (lN w) (lN x) (lN y) N = some (lN (if j = 0 then c / Nat.gcd x y else w / Nat.gcd x y), N) := by
  have fin : ∀ x u, x < 2 ^ 63 → 1 ≤ x → f_M_still_j (u + 1) m b q n (nI p3) (nI j) (lN w) (lN x) (lN 0) N = some (lN (if j = 0 then c / x else w / x), N) := by
    intro x u hx h1
    have z := (lg0 (show 0 < 2 ^ 63 by omega)).mpr rfl
    have nzx : ¬ lN x = 0 := fun e => by have := (pk_lEQ hx (by omega)).mp (show lN x = lN 0 from e); omega
    obtain e | e : j = 0 ∨ j = 1 := by omega
    · subst e
      unfold f_M_still_j
      rw [if_pos z, if_pos rfl]
      unfold ck nzL
      rw [if_neg (nI_in hp (by omega)), if_neg nzx, nI_clamp (by omega), hc, pk_lDiv hcb (by omega) hx]
      rfl
    · subst e
      unfold f_M_still_j
      rw [if_pos z, if_neg (show ¬ nI 1 = 0 by decide)]
      unfold nzL
      rw [if_neg nzx, pk_lDiv hw (by omega) hx]
      rfl
  have step : ∀ x y u, x < 2 ^ 63 → 1 ≤ y → y < 2 ^ 63 → f_M_still_j (u + 1) m b q n (nI p3) (nI j) (lN w) (lN x) (lN y) N = f_M_still_j u m b q n (nI p3) (nI j) (lN w) (lN y) (lN (x % y)) N := by
    intro x y u hx h1 hy
    have z : ¬ lg_cmp (lN y) 0 = 0 := fun e => by have := (lg0 hy).mp e; omega
    have nzx : ¬ lN y = 0 := fun e => by have := (pk_lEQ hy (by omega)).mp (show lN y = lN 0 from e); omega
    conv => lhs; unfold f_M_still_j
    rw [if_neg z]
    unfold nzL
    rw [if_neg nzx, pk_lRem hx (by omega) hy]
  have ge : ∀ x y, Nat.gcd x y = Nat.gcd y (x % y) := fun x y => by rw [Nat.gcd_comm x y, Nat.gcd_rec y x, Nat.gcd_comm]
  intro k
  induction k with
  | zero =>
    intro y x u hy hk hx hg hu
    obtain rfl : y = 0 := by
      have : (2 : Nat) ^ 0 = 1 := rfl
      omega
    obtain ⟨u, rfl⟩ : ∃ v, u = v + 1 := ⟨u - 1, by omega⟩
    rw [Nat.gcd_zero_right] at hg ⊢
    exact fin x u hx hg
  | succ k ih =>
    intro y x u hy hk hx hg hu
    have p2 : 2 ^ (k + 1) = 2 * 2 ^ k := by rw [Nat.pow_succ, Nat.mul_comm]
    have p63 : 2 ^ (k + 1) ≤ 2 ^ 62 := Nat.pow_le_pow_right (by omega) (by omega)
    obtain ⟨u, rfl⟩ : ∃ v, u = v + 1 := ⟨u - 1, by omega⟩
    by_cases c0 : y = 0
    · subst c0
      rw [Nat.gcd_zero_right] at hg ⊢
      exact fin x u hx hg
    · have hm := Nat.mod_lt x (show 0 < y by omega)
      rw [step x y u hx (by omega) (by omega), ge x y]
      rw [ge x y] at hg
      generalize x % y = r at hm hg
      obtain ⟨u, rfl⟩ : ∃ v, u = v + 1 := ⟨u - 1, by omega⟩
      by_cases c1 : r = 0
      · subst c1
        rw [Nat.gcd_zero_right] at hg ⊢
        exact fin y u (by omega) hg
      · rw [step y r u (by omega) (by omega) (by omega), ge y r]
        rw [ge y r] at hg
        have hm2 := Nat.mod_lt y (show 0 < r by omega)
        have hh : y % r < 2 ^ k := by
          by_cases c2 : 2 * r ≤ y
          · omega
          · have : y % r = y - r := by
              rw [Nat.mod_eq_sub_mod (by omega), Nat.mod_eq_of_lt (by omega)]
            omega
        exact ih (y % r) r u hh (by omega) (by omega) hg (by omega)
end
