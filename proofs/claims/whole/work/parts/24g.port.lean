/-! # functional level, 55: the class reads kin -/
section
variable {M M' M1 M2 N : Mm} {t m E a k f n s p : Nat} {T : Nat → Nat} {Q : TT} {p0 p1 : Int32}
theorem nK_sk (h : a ≤ E) : nK T E (sk T E a) p0 p1 = nK T E a p0 p1 := by unfold nK; rw [sk_i h]
theorem C_kin (ht : t + 1 < p) (h : CTp M t T E a 0 4294967295) (hQ : isP M p Q) : ∃ M', f_Port_readKin p t M = some M' ∧ FX (tpD t p) M M' ∧ oR M' t p E T (oT T E a 2 Q) := by
  obtain ⟨M1, e1, f1, h1⟩ := C_number (p0 := nI 0) (p1 := nI 9) h
  obtain ⟨M2, e2, f2, h2⟩ := C_next h1
  obtain ⟨M3, e3, f3, h3⟩ := C_number (p0 := nI 0) (p1 := nI 9) h2
  have hE1 := h1.2.2.1
  have hi := sk_i (T := T) hE1.1
  rw [hi] at e3 h3
  have ek : nK T E (sk T E (nE T E a)) (nI 0) (nI 9) = nK T E (nE T E a) (nI 0) (nI 9) := nK_sk hE1.1
  have v1 := dg_lt h
  have v2 := dg_lt h1
  have f13 : FX (tpD t p) M M3 := ((f1.trans f2).trans f3).mono (fun _ _ q => Or.inl q)
  have hQ3 := hQ.td ((f1.trans f2).trans f3) (by omega)
  have g0 : f_Port_readKin p t M = if nI (nV T E (nE T E a)) = nI (nV T E a) then (bV (f_Tape_wrong t (nI 2) (nI (sk T E (nE T E a))) M3) (fun M10 => f_Port_readKin_b p t (nI (nV T E a)) (nI (sk T E (nE T E a))) (nI (nV T E (nE T E a))) M10)) else f_Port_readKin_b p t (nI (nV T E a)) (nI (sk T E (nE T E a))) (nI (nV T E (nE T E a))) M3 := by
    unfold f_Port_readKin
    rw [show f_Tape_number t 0 9 M = _ from e1, bI_s, show f_Tape_next t M1 = _ from e2, bI_s, show f_Tape_number t 0 9 M2 = _ from e3, bI_s]
    rfl
  rw [g0]
  have fault : ∀ {kk ff : Nat}, kk ≠ 0 → CTp M3 t T E (nE T E (nE T E a)) kk ff → (if nI (nV T E (nE T E a)) = nI (nV T E a) then (bV (f_Tape_wrong t (nI 2) (nI (sk T E (nE T E a))) M3) (fun M10 => f_Port_readKin_b p t (nI (nV T E a)) (nI (sk T E (nE T E a))) (nI (nV T E (nE T E a))) M10)) else f_Port_readKin_b p t (nI (nV T E a)) (nI (sk T E (nE T E a))) (nI (nV T E (nE T E a))) M3) = some M3 := by
    intro kk ff hk h4
    have ef := C_fine h4
    rw [if_neg hk] at ef
    have g4 := h4.1.2.2.1
    have hk4 := h4.2.2.1
    have ew : f_Tape_wrong t (nI 2) (nI (sk T E (nE T E a))) M3 = some M3 := by simp (disch := omega) only [f_Tape_wrong, g4, bI_s, bV_s, bL_s, bR_s, bG_s, bG_n, bX_l, bX_r, ck_nI, nI_clamp, nI_leT, nI_leF, nI_ltT, nI_ltF, nI_eqF, nI_add, pk_mul, ofN, bt_e, or0, Nat.zero_add, Nat.add_zero, ↓reduceIte, if_true, if_false, Bool.false_eq_true, eq_self, li0, li1, li2, li3, li4, li5, li6, li7, li8, li9, li10, li11, li12, li14, li15, li16, li18, li19, li20, li23, li24, li25, li26, li27, li30, li31, li32, li36, li40, li41, li42, li43, li44, li45, li47, li48, li57, li59, li60, li91, li93, li96, li97, li100, li105, li122, li150, li200, li255, li400, li500, li600, li999, li1000, li1001, li2000, li2001, li2002, li2003, li2004, li2005, li2006, li32767, li100000, li_neg, li13, li17, li21, li22, li28, li29, li33, li34, li35, li37, li38, li39, li46, li49, li50, li51, li52, li53, li63, li80, li115, li160]
    have eb : f_Port_readKin_b p t (nI (nV T E a)) (nI (sk T E (nE T E a))) (nI (nV T E (nE T E a))) M3 = some M3 := by simp (disch := omega) only [f_Port_readKin_b, ef, bI_s, bV_s, bL_s, bR_s, bG_s, bG_n, bX_l, bX_r, ck_nI, nI_clamp, nI_leT, nI_leF, nI_ltT, nI_ltF, nI_eqF, nI_add, pk_mul, ofN, bt_e, or0, Nat.zero_add, Nat.add_zero, ↓reduceIte, if_true, if_false, Bool.false_eq_true, eq_self, li0, li1, li2, li3, li4, li5, li6, li7, li8, li9, li10, li11, li12, li14, li15, li16, li18, li19, li20, li23, li24, li25, li26, li27, li30, li31, li32, li36, li40, li41, li42, li43, li44, li45, li47, li48, li57, li59, li60, li91, li93, li96, li97, li100, li105, li122, li150, li200, li255, li400, li500, li600, li999, li1000, li1001, li2000, li2001, li2002, li2003, li2004, li2005, li2006, li32767, li100000, li_neg, li13, li17, li21, li22, li28, li29, li33, li34, li35, li37, li38, li39, li46, li49, li50, li51, li52, li53, li63, li80, li115, li160]
    rw [ew, bV_s, eb]
    exact ite_self _
  by_cases c1 : nK T E a (nI 0) (nI 9) = 0
  · have h3 : CTp M3 t T E (nE T E (nE T E a)) _ _ := h3
    rw [nO_0 c1] at h3
    have nk : n2k T E a (nI 0) (nI 9) (nI 0) (nI 9) = nK T E (nE T E a) (nI 0) (nI 9) := if_neg (fun q => q c1)
    have nf : n2f T E a (nI 0) (nI 9) = sk T E (nE T E a) := if_neg (fun q => q c1)
    by_cases c2 : nK T E (nE T E a) (nI 0) (nI 9) = 0
    · have c2' : nK T E (sk T E (dg T E (sk T E a)).1) (nI 0) (nI 9) = 0 := ek.trans c2
      rw [nO_0 c2'] at h3
      have l1 := nK_v (T := T) (E := E) (a := a) (lo := 0) (hi := 9) (by omega) (by omega) (by omega) c1
      have l2 := nK_v (T := T) (E := E) (a := nE T E a) (lo := 0) (hi := 9) (by omega) (by omega) (by unfold nE; omega) c2
      have l1 : nV T E a ≤ 9 := l1.2.2
      have l2 : nV T E (nE T E a) ≤ 9 := l2.2.2
      by_cases c3 : nV T E a = nV T E (nE T E a)
      · have eo : oT T E a 2 Q = (2, sk T E (nE T E a), 0, Q) := (if_neg (by omega)).trans ((if_neg (by omega)).trans ((if_neg (by omega)).trans ((if_pos rfl).trans ((if_neg (fun q => q (nk.trans c2))).trans (if_pos c3)))))
        rw [eo, if_pos (by rw [c3])]
        obtain ⟨M4, e4, f4, h4⟩ := C_wrong h3 (k1 := 2) (f1 := sk T E (nE T E a)) (by omega)
        have ef := C_fine h4
        rw [if_neg (show ¬ (wkf 0 4294967295 2 (sk T E (nE T E a))).1 = 0 from by show ¬ (2 : Nat) = 0; omega)] at ef
        refine ⟨M4, ?_, f13.trans (f4.mono (fun _ _ q => Or.inl q)), Or.inr ⟨by show (2 : Nat) ≠ 0; omega, _, h4⟩⟩
        rw [e4, bV_s]
        simp (disch := omega) only [f_Port_readKin_b, ef, bI_s, bV_s, bL_s, bR_s, bG_s, bG_n, bX_l, bX_r, ck_nI, nI_clamp, nI_leT, nI_leF, nI_ltT, nI_ltF, nI_eqF, nI_add, pk_mul, ofN, bt_e, or0, Nat.zero_add, Nat.add_zero, ↓reduceIte, if_true, if_false, Bool.false_eq_true, eq_self, li0, li1, li2, li3, li4, li5, li6, li7, li8, li9, li10, li11, li12, li14, li15, li16, li18, li19, li20, li23, li24, li25, li26, li27, li30, li31, li32, li36, li40, li41, li42, li43, li44, li45, li47, li48, li57, li59, li60, li91, li93, li96, li97, li100, li105, li122, li150, li200, li255, li400, li500, li600, li999, li1000, li1001, li2000, li2001, li2002, li2003, li2004, li2005, li2006, li32767, li100000, li_neg, li13, li17, li21, li22, li28, li29, li33, li34, li35, li37, li38, li39, li46, li49, li50, li51, li52, li53, li63, li80, li115, li160]
      · have eo : oT T E a 2 Q = (0, 4294967295, nE T E (nE T E a), qKin Q (nV T E a) (nV T E (nE T E a))) := (if_neg (by omega)).trans ((if_neg (by omega)).trans ((if_neg (by omega)).trans ((if_pos rfl).trans ((if_neg (fun q => q (nk.trans c2))).trans (if_neg c3)))))
        rw [eo, if_neg (fun q => c3 (nI_inj (by omega) (by omega) q).symm)]
        have ef := C_fine h3
        rw [if_pos rfl] at ef
        have f4 : FX (pD p) M3 (sI M3 (p + 7) (nV T E a) (nI (nV T E (nE T E a)))) := (FX.rf _ M3).sI (by unfold pD; omega)
        refine ⟨_, ?_, f13.trans (f4.mono (fun _ _ q => Or.inr q)), Or.inl ⟨rfl, h3.fx f4 (fun j q => by unfold pD at q; omega) (fun j q => by unfold pD at q; omega), isP_7 hQ3⟩⟩
        simp (disch := omega) only [f_Port_readKin_b, ef, bI_s, bV_s, bL_s, bR_s, bG_s, bG_n, bX_l, bX_r, ck_nI, nI_clamp, nI_leT, nI_leF, nI_ltT, nI_ltF, nI_eqF, nI_add, pk_mul, ofN, bt_e, or0, Nat.zero_add, Nat.add_zero, ↓reduceIte, if_true, if_false, Bool.false_eq_true, eq_self, li0, li1, li2, li3, li4, li5, li6, li7, li8, li9, li10, li11, li12, li14, li15, li16, li18, li19, li20, li23, li24, li25, li26, li27, li30, li31, li32, li36, li40, li41, li42, li43, li44, li45, li47, li48, li57, li59, li60, li91, li93, li96, li97, li100, li105, li122, li150, li200, li255, li400, li500, li600, li999, li1000, li1001, li2000, li2001, li2002, li2003, li2004, li2005, li2006, li32767, li100000, li_neg, li13, li17, li21, li22, li28, li29, li33, li34, li35, li37, li38, li39, li46, li49, li50, li51, li52, li53, li63, li80, li115, li160]
    · have c2' : nK T E (sk T E (dg T E (sk T E a)).1) (nI 0) (nI 9) ≠ 0 := fun q => c2 (ek.symm.trans q)
      rw [nO_1 c2', show nK T E (sk T E (dg T E (sk T E a)).1) (nI 0) (nI 9) = nK T E (nE T E a) (nI 0) (nI 9) from ek, show sk T E (sk T E (dg T E (sk T E a)).1) = sk T E (nE T E a) from hi] at h3
      have eo : oT T E a 2 Q = (nK T E (nE T E a) (nI 0) (nI 9), sk T E (nE T E a), 0, Q) := by
        refine (if_neg (by omega)).trans ((if_neg (by omega)).trans ((if_neg (by omega)).trans ((if_pos rfl).trans ((if_pos (fun q => c2 (nk.symm.trans q))).trans ?_))))
        rw [nk, nf]
      rw [eo]
      exact ⟨M3, fault c2 h3, f13, Or.inr ⟨c2, _, h3⟩⟩
  · have h3 : CTp M3 t T E (nE T E (nE T E a)) _ _ := h3
    rw [nO_1 c1, nO_F c1] at h3
    have nk : n2k T E a (nI 0) (nI 9) (nI 0) (nI 9) = nK T E a (nI 0) (nI 9) := if_pos c1
    have nf : n2f T E a (nI 0) (nI 9) = sk T E a := if_pos c1
    have eo : oT T E a 2 Q = (nK T E a (nI 0) (nI 9), sk T E a, 0, Q) := by
      refine (if_neg (by omega)).trans ((if_neg (by omega)).trans ((if_neg (by omega)).trans ((if_pos rfl).trans ((if_pos (fun q => c1 (nk.symm.trans q))).trans ?_))))
      rw [nk, nf]
    rw [eo]
    exact ⟨M3, fault c1 h3, f13, Or.inr ⟨c1, _, h3⟩⟩
end
