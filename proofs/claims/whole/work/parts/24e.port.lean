/-! # functional level, 53: the class reads what a clause tells -/
section
variable {M M' M1 M2 N : Mm} {t m E a k f n s p : Nat} {T : Nat → Nat} {Q : TT}
def oT (T : Nat → Nat) (E a w : Nat) (Q : TT) : Nat × Nat × Nat × TT :=
  if w = 0 then (if nK T E a (nI 1) (nI 30) ≠ 0 then (nK T E a (nI 1) (nI 30), sk T E a, 0, Q) else (0, 4294967295, nE T E a, qRow Q (nV T E a)))
  else if w = 1 then (if n2k T E a (nI 0) (nI 9) (nI 1) (nI 15) ≠ 0 then (n2k T E a (nI 0) (nI 9) (nI 1) (nI 15), n2f T E a (nI 0) (nI 9), 0, Q) else (0, 4294967295, nE T E (nE T E a), qBid Q (nV T E a) (nV T E (nE T E a))))
  else if w = 3 then (if n2k T E a (nI 0) (nI 3) (nI 1) (nI 60) ≠ 0 then (n2k T E a (nI 0) (nI 3) (nI 1) (nI 60), n2f T E a (nI 0) (nI 3), 0, Q) else (0, 4294967295, nE T E (nE T E a), qWri Q (nV T E a) (nV T E (nE T E a))))
  else if w = 2 then (if n2k T E a (nI 0) (nI 9) (nI 0) (nI 9) ≠ 0 then (n2k T E a (nI 0) (nI 9) (nI 0) (nI 9), n2f T E a (nI 0) (nI 9), 0, Q) else if nV T E a = nV T E (nE T E a) then (2, sk T E (nE T E a), 0, Q) else (0, 4294967295, nE T E (nE T E a), qKin Q (nV T E a) (nV T E (nE T E a))))
  else (if n2k T E a (nI 0) (nI (Q 0 5) - nI 1) (nI 0) (nI (Q 0 2) - nI 1) ≠ 0 then (n2k T E a (nI 0) (nI (Q 0 5) - nI 1) (nI 0) (nI (Q 0 2) - nI 1), n2f T E a (nI 0) (nI (Q 0 5) - nI 1), 0, Q) else (0, 4294967295, nE T E (nE T E a), qKno Q (nV T E a) (nV T E (nE T E a))))
def oR (M : Mm) (t p E : Nat) (T : Nat → Nat) (r : Nat × Nat × Nat × TT) : Prop := (r.1 = 0 ∧ CTp M t T E r.2.2.1 0 4294967295 ∧ isP M p r.2.2.2) ∨ (r.1 ≠ 0 ∧ ∃ a', CTp M t T E a' r.1 r.2.1)
def tpD (t p a j : Nat) : Prop := tD t a j ∨ pD p a j
theorem FX.fr {D : Nat → Nat → Prop} (h : FX D M N) : Fr (fun a => ∃ j, D a j) M N := ⟨h.1, fun a ha => ⟨fun j => h.2.1 a j (fun q => ha ⟨j, q⟩), fun j => h.2.2.1 a j, fun j => h.2.2.2 a j⟩⟩
theorem isP.td (hQ : isP M p Q) (f : FX (tD t) M N) (ht : t < p) : isP N p Q := hQ.fr f.fr (fun x h1 _ q => by obtain ⟨j, q⟩ := q; unfold tD at q; omega)
theorem C_told0 (ht : t + 1 < p) (h : CTp M t T E a 0 4294967295) (hQ : isP M p Q) (hn : Q 0 0 < 4) : ∃ M', f_Port_readTold p t (nI 0) M = some M' ∧ FX (tpD t p) M M' ∧ oR M' t p E T (oT T E a 0 Q) := by
  obtain ⟨M1, e1, f1, h1⟩ := C_number (p0 := nI 1) (p1 := nI 30) h
  have hQ1 := hQ.td f1 (by omega)
  by_cases c : nK T E a (nI 1) (nI 30) = 0
  · rw [nO_0 c] at h1
    obtain ⟨M2, e2, f2, h2⟩ := C_addRow (v := nV T E a) h1 hQ1 hn
    have eo : oT T E a 0 Q = (0, 4294967295, nE T E a, qRow Q (nV T E a)) := (if_pos rfl).trans (if_neg (fun q => q c))
    rw [eo]
    refine ⟨M2, ?_, (f1.mono (fun _ _ q => Or.inl q)).trans (f2.mono (fun _ _ q => Or.inr q)), Or.inl ⟨rfl, h1.fx f2 (fun j q => by unfold pD at q; omega) (fun j q => by unfold pD at q; omega), h2⟩⟩
    have e2' : f_Port_addRow p t (nI (dg T E (sk T E a)).2) M1 = some M2 := e2
    simp (disch := omega) only [f_Port_readTold, e1, e2', bI_s, bV_s, bL_s, bR_s, bG_s, bG_n, bX_l, bX_r, ck_nI, nI_clamp, nI_leT, nI_leF, nI_ltT, nI_ltF, nI_eqF, nI_add, pk_mul, ofN, bt_e, or0, Nat.zero_add, Nat.add_zero, ↓reduceIte, if_true, if_false, Bool.false_eq_true, eq_self, li0, li1, li2, li3, li4, li5, li6, li7, li8, li9, li10, li11, li12, li14, li15, li16, li18, li19, li20, li23, li24, li25, li26, li27, li30, li31, li32, li36, li40, li41, li42, li43, li44, li45, li47, li48, li57, li59, li60, li91, li93, li96, li97, li100, li105, li122, li150, li200, li255, li400, li500, li600, li999, li1000, li1001, li2000, li2001, li2002, li2003, li2004, li2005, li2006, li32767, li100000, li_neg, li13, li17, li21, li22, li28, li29, li33, li34, li35, li37, li38, li39, li46, li49, li50, li51, li52, li53, li63, li80, li115, li160]
  · rw [nO_1 c] at h1
    have eo : oT T E a 0 Q = (nK T E a (nI 1) (nI 30), sk T E a, 0, Q) := (if_pos rfl).trans (if_pos c)
    rw [eo]
    have ef := C_fine h1
    rw [if_neg c] at ef
    refine ⟨M1, ?_, f1.mono (fun _ _ q => Or.inl q), Or.inr ⟨c, _, h1⟩⟩
    simp (disch := omega) only [f_Port_readTold, f_Port_addRow, e1, ef, bI_s, bV_s, bL_s, bR_s, bG_s, bG_n, bX_l, bX_r, ck_nI, nI_clamp, nI_leT, nI_leF, nI_ltT, nI_ltF, nI_eqF, nI_add, pk_mul, ofN, bt_e, or0, Nat.zero_add, Nat.add_zero, ↓reduceIte, if_true, if_false, Bool.false_eq_true, eq_self, li0, li1, li2, li3, li4, li5, li6, li7, li8, li9, li10, li11, li12, li14, li15, li16, li18, li19, li20, li23, li24, li25, li26, li27, li30, li31, li32, li36, li40, li41, li42, li43, li44, li45, li47, li48, li57, li59, li60, li91, li93, li96, li97, li100, li105, li122, li150, li200, li255, li400, li500, li600, li999, li1000, li1001, li2000, li2001, li2002, li2003, li2004, li2005, li2006, li32767, li100000, li_neg, li13, li17, li21, li22, li28, li29, li33, li34, li35, li37, li38, li39, li46, li49, li50, li51, li52, li53, li63, li80, li115, li160]
theorem C_told1 (ht : t + 1 < p) (h : CTp M t T E a 0 4294967295) (hQ : isP M p Q) (hn : Q 0 2 < 8) : ∃ M', f_Port_readTold p t (nI 1) M = some M' ∧ FX (tpD t p) M M' ∧ oR M' t p E T (oT T E a 1 Q) := by
  obtain ⟨z1, z2, M1, M2, e1, e2, f1, f2, hc⟩ := C_two (p0 := nI 0) (p1 := nI 9) (p2 := nI 1) (p3 := nI 15) h
  have f12 : FX (tpD t p) M M2 := (f1.trans f2).mono (fun _ _ q => Or.inl q)
  have hQ2 := hQ.td (f1.trans f2) (by omega)
  rcases hc with ⟨c, _, _, y1, y2, h2⟩ | ⟨c, a', h2⟩
  · subst y1 y2
    obtain ⟨M3, e3, f3, h3⟩ := C_addBid (v := nV T E a) (w := nV T E (nE T E a)) h2 hQ2 hn
    have eo : oT T E a 1 Q = (0, 4294967295, nE T E (nE T E a), qBid Q (nV T E a) (nV T E (nE T E a))) := (if_neg (by omega)).trans ((if_pos rfl).trans (if_neg (fun q => q c)))
    rw [eo]
    refine ⟨M3, ?_, f12.trans (f3.mono (fun _ _ q => Or.inr q)), Or.inl ⟨rfl, h2.fx f3 (fun j q => by unfold pD at q; omega) (fun j q => by unfold pD at q; omega), h3⟩⟩
    simp (disch := omega) only [f_Port_readTold, e1, e2, e3, bI_s, bV_s, bL_s, bR_s, bG_s, bG_n, bX_l, bX_r, ck_nI, nI_clamp, nI_leT, nI_leF, nI_ltT, nI_ltF, nI_eqF, nI_add, pk_mul, ofN, bt_e, or0, Nat.zero_add, Nat.add_zero, ↓reduceIte, if_true, if_false, Bool.false_eq_true, eq_self, li0, li1, li2, li3, li4, li5, li6, li7, li8, li9, li10, li11, li12, li14, li15, li16, li18, li19, li20, li23, li24, li25, li26, li27, li30, li31, li32, li36, li40, li41, li42, li43, li44, li45, li47, li48, li57, li59, li60, li91, li93, li96, li97, li100, li105, li122, li150, li200, li255, li400, li500, li600, li999, li1000, li1001, li2000, li2001, li2002, li2003, li2004, li2005, li2006, li32767, li100000, li_neg, li13, li17, li21, li22, li28, li29, li33, li34, li35, li37, li38, li39, li46, li49, li50, li51, li52, li53, li63, li80, li115, li160]
  · have eo : oT T E a 1 Q = (n2k T E a (nI 0) (nI 9) (nI 1) (nI 15), n2f T E a (nI 0) (nI 9), 0, Q) := (if_neg (by omega)).trans ((if_pos rfl).trans (if_pos c))
    rw [eo]
    have ef := C_fine h2
    rw [if_neg c] at ef
    refine ⟨M2, ?_, f12, Or.inr ⟨c, a', h2⟩⟩
    simp (disch := omega) only [f_Port_readTold, f_Port_addBid, e1, e2, ef, bI_s, bV_s, bL_s, bR_s, bG_s, bG_n, bX_l, bX_r, ck_nI, nI_clamp, nI_leT, nI_leF, nI_ltT, nI_ltF, nI_eqF, nI_add, pk_mul, ofN, bt_e, or0, Nat.zero_add, Nat.add_zero, ↓reduceIte, if_true, if_false, Bool.false_eq_true, eq_self, li0, li1, li2, li3, li4, li5, li6, li7, li8, li9, li10, li11, li12, li14, li15, li16, li18, li19, li20, li23, li24, li25, li26, li27, li30, li31, li32, li36, li40, li41, li42, li43, li44, li45, li47, li48, li57, li59, li60, li91, li93, li96, li97, li100, li105, li122, li150, li200, li255, li400, li500, li600, li999, li1000, li1001, li2000, li2001, li2002, li2003, li2004, li2005, li2006, li32767, li100000, li_neg, li13, li17, li21, li22, li28, li29, li33, li34, li35, li37, li38, li39, li46, li49, li50, li51, li52, li53, li63, li80, li115, li160]
theorem C_told3 (ht : t + 1 < p) (h : CTp M t T E a 0 4294967295) (hQ : isP M p Q) (hn : Q 0 5 < 6) : ∃ M', f_Port_readTold p t (nI 3) M = some M' ∧ FX (tpD t p) M M' ∧ oR M' t p E T (oT T E a 3 Q) := by
  obtain ⟨z1, z2, M1, M2, e1, e2, f1, f2, hc⟩ := C_two (p0 := nI 0) (p1 := nI 3) (p2 := nI 1) (p3 := nI 60) h
  have f12 : FX (tpD t p) M M2 := (f1.trans f2).mono (fun _ _ q => Or.inl q)
  have hQ2 := hQ.td (f1.trans f2) (by omega)
  rcases hc with ⟨c, _, _, y1, y2, h2⟩ | ⟨c, a', h2⟩
  · subst y1 y2
    obtain ⟨M3, e3, f3, h3⟩ := C_addWriter (v := nV T E a) (w := nV T E (nE T E a)) h2 hQ2 hn
    have eo : oT T E a 3 Q = (0, 4294967295, nE T E (nE T E a), qWri Q (nV T E a) (nV T E (nE T E a))) := (if_neg (by omega)).trans ((if_neg (by omega)).trans ((if_pos rfl).trans (if_neg (fun q => q c))))
    rw [eo]
    refine ⟨M3, ?_, f12.trans (f3.mono (fun _ _ q => Or.inr q)), Or.inl ⟨rfl, h2.fx f3 (fun j q => by unfold pD at q; omega) (fun j q => by unfold pD at q; omega), h3⟩⟩
    simp (disch := omega) only [f_Port_readTold, e1, e2, e3, bI_s, bV_s, bL_s, bR_s, bG_s, bG_n, bX_l, bX_r, ck_nI, nI_clamp, nI_leT, nI_leF, nI_ltT, nI_ltF, nI_eqF, nI_add, pk_mul, ofN, bt_e, or0, Nat.zero_add, Nat.add_zero, ↓reduceIte, if_true, if_false, Bool.false_eq_true, eq_self, li0, li1, li2, li3, li4, li5, li6, li7, li8, li9, li10, li11, li12, li14, li15, li16, li18, li19, li20, li23, li24, li25, li26, li27, li30, li31, li32, li36, li40, li41, li42, li43, li44, li45, li47, li48, li57, li59, li60, li91, li93, li96, li97, li100, li105, li122, li150, li200, li255, li400, li500, li600, li999, li1000, li1001, li2000, li2001, li2002, li2003, li2004, li2005, li2006, li32767, li100000, li_neg, li13, li17, li21, li22, li28, li29, li33, li34, li35, li37, li38, li39, li46, li49, li50, li51, li52, li53, li63, li80, li115, li160]
  · have eo : oT T E a 3 Q = (n2k T E a (nI 0) (nI 3) (nI 1) (nI 60), n2f T E a (nI 0) (nI 3), 0, Q) := (if_neg (by omega)).trans ((if_neg (by omega)).trans ((if_pos rfl).trans (if_pos c)))
    rw [eo]
    have ef := C_fine h2
    rw [if_neg c] at ef
    refine ⟨M2, ?_, f12, Or.inr ⟨c, a', h2⟩⟩
    simp (disch := omega) only [f_Port_readTold, f_Port_addWriter, e1, e2, ef, bI_s, bV_s, bL_s, bR_s, bG_s, bG_n, bX_l, bX_r, ck_nI, nI_clamp, nI_leT, nI_leF, nI_ltT, nI_ltF, nI_eqF, nI_add, pk_mul, ofN, bt_e, or0, Nat.zero_add, Nat.add_zero, ↓reduceIte, if_true, if_false, Bool.false_eq_true, eq_self, li0, li1, li2, li3, li4, li5, li6, li7, li8, li9, li10, li11, li12, li14, li15, li16, li18, li19, li20, li23, li24, li25, li26, li27, li30, li31, li32, li36, li40, li41, li42, li43, li44, li45, li47, li48, li57, li59, li60, li91, li93, li96, li97, li100, li105, li122, li150, li200, li255, li400, li500, li600, li999, li1000, li1001, li2000, li2001, li2002, li2003, li2004, li2005, li2006, li32767, li100000, li_neg, li13, li17, li21, li22, li28, li29, li33, li34, li35, li37, li38, li39, li46, li49, li50, li51, li52, li53, li63, li80, li115, li160]
end
