/-! # functional level, 54: the class reads what a clause tells, 2 -/
section
variable {M M' M1 M2 N : Mm} {t m E a k f n s p : Nat} {T : Nat → Nat} {Q : TT}
theorem nK_vs (hn : n ≤ 100) (hv : nV T E a < 2 ^ 31) (h : nK T E a (nI 0) (nI n - nI 1) = 0) : nV T E a < n := by
  unfold nK at h
  change (dg T E (sk T E a)).2 < 2 ^ 31 at hv
  show (dg T E (sk T E a)).2 < n
  generalize dg T E (sk T E a) = q at h hv ⊢
  by_cases c : q.1 = sk T E a
  · rw [if_pos c] at h; omega
  · rw [if_neg c] at h
    by_cases c2 : inR (nI 0) (nI n - nI 1) q.2 = true
    · have := (of_decide_eq_true c2).2
      rcases Nat.eq_zero_or_pos n with z | z
      · exfalso
        rw [z, show nI 0 - nI 1 = nI 4294967295 by decide, Int32.le_iff_toInt_le] at this
        have e1 : (nI 4294967295).toInt = -1 := by decide
        have e2 : (nI q.2).toInt = q.2 := nI_toInt hv
        omega
      · rw [pk_sub z, nI_leE (by omega) (by omega)] at this
        omega
    · rw [if_neg c2] at h; omega
theorem C_told4 (ht : t + 1 < p) (h : CTp M t T E a 0 4294967295) (hQ : isP M p Q) (oQ : okP Q) : ∃ M', f_Port_readTold p t (nI 4) M = some M' ∧ FX (tpD t p) M M' ∧ oR M' t p E T (oT T E a 4 Q) := by
  have hb := oQ.b
  have hw := oQ.w
  obtain ⟨z1, z2, M1, M2, e1, e2, f1, f2, hc⟩ := C_two (p0 := nI 0) (p1 := nI (Q 0 5) - nI 1) (p2 := nI 0) (p3 := nI (Q 0 2) - nI 1) h
  have f12 : FX (tpD t p) M M2 := (f1.trans f2).mono (fun _ _ q => Or.inl q)
  have hQ1 := hQ.td f1 (by omega)
  have hQ2 := hQ.td (f1.trans f2) (by omega)
  have g5 := hQ.w
  have g2 := hQ1.b
  rcases hc with ⟨c, c1, c2, y1, y2, h2⟩ | ⟨c, a', h2⟩
  · have v1 := dg_lt h
    have w1 := nK_vs (show Q 0 5 ≤ 100 by omega) (by unfold nV; omega) c1
    obtain ⟨M1', _, _, h1'⟩ := C_number (p0 := nI 0) (p1 := nI (Q 0 5) - nI 1) h
    have v2 := dg_lt h1'
    have w2 := nK_vs (a := nE T E a) (show Q 0 2 ≤ 100 by omega) (by unfold nV nE; omega) c2
    subst y1 y2
    obtain ⟨M3, e3, f3, h3⟩ := C_addKnown (v := nV T E a) (w := nV T E (nE T E a)) h2 hQ2 w1 hw (oQ.kn w1) (by omega)
    have eo : oT T E a 4 Q = (0, 4294967295, nE T E (nE T E a), qKno Q (nV T E a) (nV T E (nE T E a))) := (if_neg (by omega)).trans ((if_neg (by omega)).trans ((if_neg (by omega)).trans ((if_neg (by omega)).trans (if_neg (fun q => q c)))))
    rw [eo]
    refine ⟨M3, ?_, f12.trans (f3.mono (fun _ _ q => Or.inr q)), Or.inl ⟨rfl, h2.fx f3 (fun j q => by unfold pD at q; omega) (fun j q => by unfold pD at q; omega), h3⟩⟩
    simp (disch := omega) only [f_Port_readTold, f_Port_readTold_b, g5, g2, e1, e2, e3, bI_s, bV_s, bL_s, bR_s, bG_s, bG_n, bX_l, bX_r, ck_nI, nI_clamp, nI_leT, nI_leF, nI_ltT, nI_ltF, nI_eqF, nI_add, pk_mul, ofN, bt_e, or0, Nat.zero_add, Nat.add_zero, ↓reduceIte, if_true, if_false, Bool.false_eq_true, eq_self, li0, li1, li2, li3, li4, li5, li6, li7, li8, li9, li10, li11, li12, li14, li15, li16, li18, li19, li20, li23, li24, li25, li26, li27, li30, li31, li32, li36, li40, li41, li42, li43, li44, li45, li47, li48, li57, li59, li60, li91, li93, li96, li97, li100, li105, li122, li150, li200, li255, li400, li500, li600, li999, li1000, li1001, li2000, li2001, li2002, li2003, li2004, li2005, li2006, li32767, li100000, li_neg, li13, li17, li21, li22, li28, li29, li33, li34, li35, li37, li38, li39, li46, li49, li50, li51, li52, li53, li63, li80, li115, li160]
  · have eo : oT T E a 4 Q = (n2k T E a (nI 0) (nI (Q 0 5) - nI 1) (nI 0) (nI (Q 0 2) - nI 1), n2f T E a (nI 0) (nI (Q 0 5) - nI 1), 0, Q) := (if_neg (by omega)).trans ((if_neg (by omega)).trans ((if_neg (by omega)).trans ((if_neg (by omega)).trans (if_pos c))))
    rw [eo]
    have ef := C_fine h2
    rw [if_neg c] at ef
    refine ⟨M2, ?_, f12, Or.inr ⟨c, a', h2⟩⟩
    simp (disch := omega) only [f_Port_readTold, f_Port_readTold_b, f_Port_addKnown, g5, g2, e1, e2, ef, bI_s, bV_s, bL_s, bR_s, bG_s, bG_n, bX_l, bX_r, ck_nI, nI_clamp, nI_leT, nI_leF, nI_ltT, nI_ltF, nI_eqF, nI_add, pk_mul, ofN, bt_e, or0, Nat.zero_add, Nat.add_zero, ↓reduceIte, if_true, if_false, Bool.false_eq_true, eq_self, li0, li1, li2, li3, li4, li5, li6, li7, li8, li9, li10, li11, li12, li14, li15, li16, li18, li19, li20, li23, li24, li25, li26, li27, li30, li31, li32, li36, li40, li41, li42, li43, li44, li45, li47, li48, li57, li59, li60, li91, li93, li96, li97, li100, li105, li122, li150, li200, li255, li400, li500, li600, li999, li1000, li1001, li2000, li2001, li2002, li2003, li2004, li2005, li2006, li32767, li100000, li_neg, li13, li17, li21, li22, li28, li29, li33, li34, li35, li37, li38, li39, li46, li49, li50, li51, li52, li53, li63, li80, li115, li160]
end
