/-! # functional level, 30: still agrees -/
section
variable {M M' M1 N : Mm} {o m p a : Nat} {S : St} {P W : TT}
theorem gcd_odd {k a : Nat} (h : a % 2 = 1) : Nat.gcd (2 ^ k) a = 1 := by
  have h2 : Nat.Coprime 2 a := by
    show Nat.gcd 2 a = 1
    rw [Nat.gcd_rec, h]
    decide
  exact Nat.Coprime.pow_left k h2
theorem C_halve {p0 p1 p3 : Int32} {n j c : Nat} (hn : n ≤ 12) (hj : j ≤ 1) (hc : c < 2 ^ 62) : ∀ (d i a u : Nat), i + d = 4 * n → d < u → 2 ^ i * a = c → f_C_still_c u o p0 p1 (nI n) p3 (nI j) (lN a) (lN (2 ^ d)) (nI i) M = some (Sum.inl (lN (if j = 0 then c / Nat.gcd (2 ^ (4 * n)) c else 2 ^ (4 * n) / Nat.gcd (2 ^ (4 * n)) c), M)) := by
  have fin : ∀ (i d a u : Nat), i + d = 4 * n → 2 ^ i * a = c → Nat.gcd (2 ^ d) a = 1 → (if j = 0 then some (Sum.inl (lN a, M)) else some (Sum.inl (lN (2 ^ d), M)) : Option ((Int64 × Mm) ⊕ (Nat × Mm))) = some (Sum.inl (lN (if j = 0 then c / Nat.gcd (2 ^ (4 * n)) c else 2 ^ (4 * n) / Nat.gcd (2 ^ (4 * n)) c), M)) := by
    intro i d a u hi hca hg
    have hp : (0 : Nat) < 2 ^ i := Nat.two_pow_pos i
    have e : Nat.gcd (2 ^ (4 * n)) c = 2 ^ i := by
      rw [← hi, Nat.pow_add, ← hca, Nat.gcd_mul_left, hg, Nat.mul_one]
    rw [e]
    by_cases cj : j = 0
    · rw [if_pos cj, if_pos cj, ← hca, Nat.mul_div_cancel_left _ hp]
    · rw [if_neg cj, if_neg cj, ← hi, Nat.pow_add, Nat.mul_div_cancel_left _ hp]
  intro d
  induction d with
  | zero =>
    intro i a u hi hu hca
    obtain ⟨u, rfl⟩ : ∃ v, u = v + 1 := ⟨u - 1, by omega⟩
    rw [← fin i 0 a u hi hca (Nat.gcd_one_left a)]
    obtain e | e : j = 0 ∨ j = 1 := by omega
    · subst e; simp (disch := omega) only [f_C_still_c, bI_s, bV_s, bL_s, bR_s, bG_s, bG_n, bX_l, bX_r, ck_nI, nI_clamp, nI_leT, nI_leF, nI_ltT, nI_ltF, nI_eqF, nI_add, pk_mul, ofN, bt_e, or0, Nat.zero_add, Nat.add_zero, ↓reduceIte, if_true, if_false, Bool.false_eq_true, eq_self, li0, li1, li2, li3, li4, li5, li6, li7, li8, li9, li10, li11, li12, li14, li15, li16, li18, li19, li20, li23, li24, li25, li26, li27, li30, li31, li32, li36, li40, li41, li42, li43, li44, li45, li47, li48, li57, li59, li60, li91, li93, li96, li97, li100, li105, li122, li150, li200, li255, li400, li500, li600, li999, li1000, li1001, li2000, li2001, li2002, li2003, li2004, li2005, li2006, li32767, li100000, li_neg, li13, li17, li21, li22, li28, li29, li33, li34, li35, li37, li38, li39, li46, li49, li50, li51, li52, li53, li63, li80, li115, li160]
    · subst e; simp (disch := omega) only [f_C_still_c, Nat.one_ne_zero, bI_s, bV_s, bL_s, bR_s, bG_s, bG_n, bX_l, bX_r, ck_nI, nI_clamp, nI_leT, nI_leF, nI_ltT, nI_ltF, nI_eqF, nI_add, pk_mul, ofN, bt_e, or0, Nat.zero_add, Nat.add_zero, ↓reduceIte, if_true, if_false, Bool.false_eq_true, eq_self, li0, li1, li2, li3, li4, li5, li6, li7, li8, li9, li10, li11, li12, li14, li15, li16, li18, li19, li20, li23, li24, li25, li26, li27, li30, li31, li32, li36, li40, li41, li42, li43, li44, li45, li47, li48, li57, li59, li60, li91, li93, li96, li97, li100, li105, li122, li150, li200, li255, li400, li500, li600, li999, li1000, li1001, li2000, li2001, li2002, li2003, li2004, li2005, li2006, li32767, li100000, li_neg, li13, li17, li21, li22, li28, li29, li33, li34, li35, li37, li38, li39, li46, li49, li50, li51, li52, li53, li63, li80, li115, li160]
  | succ d ih =>
    intro i a u hi hu hca
    obtain ⟨u, rfl⟩ : ∃ v, u = v + 1 := ⟨u - 1, by omega⟩
    have hp : (1 : Nat) ≤ 2 ^ i := Nat.one_le_two_pow
    have hal : a ≤ c := by rw [← hca]; exact Nat.le_mul_of_pos_left a hp
    have hd : 2 ^ (d + 1) ≤ 2 ^ 48 := Nat.pow_le_pow_right (by omega) (by omega)
    have p2 : 2 ^ (d + 1) = 2 * 2 ^ d := by rw [Nat.pow_succ, Nat.mul_comm]
    have em : lN a - lN a / lN 2 * lN 2 = lN (a % 2) := pk_lRem (by omega) (by omega) (by omega)
    have eh : lN a / lN 2 = lN (a / 2) := pk_lDiv (by omega) (by omega) (by omega)
    have ew : lN (2 ^ (d + 1)) / lN 2 = lN (2 ^ d) := by
      rw [pk_lDiv (by omega) (by omega) (by omega), p2, Nat.mul_div_cancel_left _ (by omega)]
    have hz : a % 2 < 2 := Nat.mod_lt _ (by omega)
    have hle : (nI (4 * n) ≤ nI i) = False := eq_false (nI_ge (by omega) (by omega))
    by_cases c0 : a % 2 = 0
    · have z := (lg0 (show a % 2 < 2 ^ 63 by omega)).mpr c0
      have hh2 : 2 * (a / 2) = a := by omega
      have hh : 2 ^ (i + 1) * (a / 2) = c := by rw [Nat.pow_succ, Nat.mul_assoc, hh2]; exact hca
      rw [← ih (i + 1) (a / 2) u (by omega) (by omega) hh]
      conv => lhs; unfold f_C_still_c
      show (if nI 4 * nI n ≤ nI i then _ else if lg_cmp (lN a - lN a / lN 2 * lN 2) 0 = 0 then f_C_still_c u o p0 p1 (nI n) p3 (nI j) (lN a / lN 2) (lN (2 ^ (d + 1)) / lN 2) (nI i + nI 1) M else _) = _
      rw [pk_mul, if_neg (nI_ge (by omega) (by omega)), em, if_pos z, eh, ew, nI_add]
    · have z : ¬ lg_cmp (lN (a % 2)) 0 = 0 := fun e => c0 ((lg0 (by omega)).mp e)
      rw [← fin i (d + 1) a u hi hca (gcd_odd (by omega))]
      conv => lhs; unfold f_C_still_c
      show (if nI 4 * nI n ≤ nI i then _ else if lg_cmp (lN a - lN a / lN 2 * lN 2) 0 = 0 then _ else if nI j = nI 0 then some (Sum.inl (lN a, M)) else some (Sum.inl (lN (2 ^ (d + 1)), M))) = _
      rw [pk_mul, if_neg (nI_ge (by omega) (by omega)), em, if_neg z]
      obtain e | e : j = 0 ∨ j = 1 := by omega
      · subst e; rfl
      · subst e; rfl
theorem A_still (h : InvS o M S) (p0 p1 p2 p3 p4 : Int32) : Ag cd2 (fun z : Int64 => z) o (fun k => k ≤ 1) (f_C_still o p0 p1 p2 p3 p4 M) (fun M1 => f_M_still (o + 61) p0 p1 p2 p3 p4 M1) := by
  obtain ⟨p, l, d, hr, ⟨hP, hW⟩, ⟨⟨t1, t2⟩, t3, ⟨t4, t5, t6⟩, t7, t8⟩, ⟨hL, hD⟩, oP, oW⟩ := h.u
  have hr10 := hr.2.1.1
  have hr12 := hr.2.2.1.1
  have hr14 := hr.2.2.2.1
  have hRb := oP.r
  have hBb := oP.b
  have hWb := oP.w
  have hLb := oW.l
  have hp := hr.1.1
  rcases bel p0 (S.1 0 2) (by omega) with ⟨b, h1, rfl⟩ | ⟨b1, b2, _⟩
  · have z1 : nI (S.1 0 2) - nI 1 = nI (S.1 0 2 - 1) := pk_sub (by omega)
    rcases wth p1 0 16 (by omega) (by omega) with ⟨q, _, h2, rfl⟩ | ⟨w1, w2⟩
    · rcases wth p2 0 12 (by omega) (by omega) with ⟨n, _, h3, rfl⟩ | ⟨w1, w2⟩
      · rcases bel p3 10 (by omega) with ⟨ac, h4, rfl⟩ | ⟨b1, _, b2⟩
        · rcases wth p4 0 1 (by omega) (by omega) with ⟨j, _, h5, rfl⟩ | ⟨w1, w2⟩
          · have hf := oW.me h1
            obtain ⟨M', e, f⟩ := C_chance hr10 hP oP (by omega) hf h2 h3 h4
            have hle : chV S.1 q (S.2.1 5 b) n ac ≤ 2 ^ (4 * n) := by
              have e1 := sm_one_le (f := chV S.1 q (S.2.1 5 b) n) 10 h4
              rw [chV_sm oP h2 hf n] at e1
              have e2 : (16 : Nat) ^ n = 2 ^ (4 * n) := by rw [Nat.pow_mul]
              omega
            have h48 : 2 ^ (4 * n) ≤ 2 ^ 48 := Nat.pow_le_pow_right (by omega) (by omega)
            have hg : 1 ≤ Nat.gcd (2 ^ (4 * n)) (chV S.1 q (S.2.1 5 b) n ac) := Nat.gcd_pos_of_pos_left _ (Nat.two_pow_pos _)
            have mj : ∀ M1, MJ (sI M1 (o + 61) 0 (nI 0)) (o + 61) S → ∃ N', f_M_still_d FU (o + 61) (nI b) (nI q) (nI n) (nI ac) (nI j) (nI 0) (sI M1 (o + 61) 0 (nI 0)) = f_M_still_j FU (o + 61) (nI b) (nI q) (nI n) (nI ac) (nI j) (lN (2 ^ (4 * n))) (lN (2 ^ (4 * n))) (lN (chV S.1 q (S.2.1 5 b) n ac)) N' ∧ gL N' (o + 61 + 497) ac = lN (chV S.1 q (S.2.1 5 b) n ac) ∧ Fr (vs (o + 61)) (sI M1 (o + 61) 0 (nI 0)) N' := fun M1 hm => by
              have := M_chance hm.1.1 oP h1 hm.1.2 oW h2 h3 h4 (nI j)
              rw [w64 n (by omega)] at this
              exact this
            generalize chV S.1 q (S.2.1 5 b) n ac = c at e hle hg mj
            have eh := C_halve (M := M') (o := o) (p0 := nI b) (p1 := nI q) (p3 := nI ac) (n := n) (j := j) (c := c) h3 h5 (by omega) (4 * n) 0 c FU (by omega) (FU_lt (by omega)) (by rw [Nat.pow_zero, Nat.one_mul])
            refine agR h (v := lN (if j = 0 then c / Nat.gcd (2 ^ (4 * n)) c else 2 ^ (4 * n) / Nat.gcd (2 ^ (4 * n)) c)) (M' := M') ?_ (f.mono (fun a ha => Or.inl (by omega))) (fun M1 hm => ?_)
            · have e9 : f_C_still_b o (nI b) (nI q) (nI n) (nI ac) (nI j) (nI 1) M = some (Sum.inl (lN (if j = 0 then c / Nat.gcd (2 ^ (4 * n)) c else 2 ^ (4 * n) / Nat.gcd (2 ^ (4 * n)) c), M')) := by
                rw [← eh]
                unfold f_C_still_b f_C_mustBe
                rw [if_neg (show ¬ nI 1 = 0 by decide), bX_l, ck_nI (show b < 8 by omega) (by omega), nI_clamp (by omega), hW.me h1, e, bL_s, w64 n (by omega)]
                rfl
              simp (disch := omega) only [f_C_still, hr10, hP.b, C_belT, C_inT, f_C_mustExist, e9, bI_s, bV_s, bL_s, bR_s, bG_s, bG_n, bX_l, bX_r, ck_nI, nI_clamp, nI_leT, nI_leF, nI_ltT, nI_ltF, nI_eqF, nI_add, pk_mul, ofN, bt_e, or0, Nat.zero_add, Nat.add_zero, ↓reduceIte, if_true, if_false, Bool.false_eq_true, eq_self, li0, li1, li2, li3, li4, li5, li6, li7, li8, li9, li10, li11, li12, li14, li15, li16, li18, li19, li20, li23, li24, li25, li26, li27, li30, li31, li32, li36, li40, li41, li42, li43, li44, li45, li47, li48, li57, li59, li60, li91, li93, li96, li97, li100, li105, li122, li150, li200, li255, li400, li500, li600, li999, li1000, li1001, li2000, li2001, li2002, li2003, li2004, li2005, li2006, li32767, li100000, li_neg, li13, li17, li21, li22, li28, li29, li33, li34, li35, li37, li38, li39, li46, li49, li50, li51, li52, li53, li63, li80, li115, li160]
            · obtain ⟨N', n1, n2, n3⟩ := mj M1 hm
              refine ⟨N', ?_, by rw [n3.i (by unfold vs; omega)]; exact gI_same .., FM.ofFr n3 (fun a ha j => Or.inl (by unfold vs at ha; omega))⟩
              have q49 : (2 : Nat) ^ 49 = 2 * 2 ^ 48 := by decide
              have h49 : c < 2 ^ 49 := by omega
              have e9 := M_gcd (N := N') (m := o + 61) (v := nI 0) (q := nI q) (n := nI n) (ac := nI ac) (b := nI b) (p4 := nI 0) (wh := nI 0) (g := 0) ac h4 n2 (by omega) (w := 2 ^ (4 * n)) (by omega) j h5 49 c (2 ^ (4 * n)) FU h49 (by omega) (by omega) hg (by show 2 * 49 + 1 ≤ 10000; omega)
              have e8 := n1.trans e9
              simp (disch := omega) only [f_M_still, f_M_still_b, f_M_still_c, f_M_isBid, f_M_isAct, hm.1.1.b, z1, e8, M_inT, hm.b0, bI_s, bV_s, bL_s, bR_s, bG_s, bG_n, bX_l, bX_r, ck_nI, nI_clamp, nI_leT, nI_leF, nI_ltT, nI_ltF, nI_eqF, nI_add, pk_mul, ofN, bt_e, or0, Nat.zero_add, Nat.add_zero, ↓reduceIte, if_true, if_false, Bool.false_eq_true, eq_self, li0, li1, li2, li3, li4, li5, li6, li7, li8, li9, li10, li11, li12, li14, li15, li16, li18, li19, li20, li23, li24, li25, li26, li27, li30, li31, li32, li36, li40, li41, li42, li43, li44, li45, li47, li48, li57, li59, li60, li91, li93, li96, li97, li100, li105, li122, li150, li200, li255, li400, li500, li600, li999, li1000, li1001, li2000, li2001, li2002, li2003, li2004, li2005, li2006, li32767, li100000, li_neg, li13, li17, li21, li22, li28, li29, li33, li34, li35, li37, li38, li39, li46, li49, li50, li51, li52, li53, li63, li80, li115, li160]
          · refine agE1 h (cc := 2) (by omega) rfl (by omega) ?_ (0 : Int64) (fun M1 hm => ?_)
            · simp (disch := omega) only [f_C_still, f_C_still_b, hr10, hP.b, C_belT, C_inT, w1, f_C_mustBe, f_C_mustExist, t6, bI_s, bV_s, bL_s, bR_s, bG_s, bG_n, bX_l, bX_r, ck_nI, nI_clamp, nI_leT, nI_leF, nI_ltT, nI_ltF, nI_eqF, nI_add, pk_mul, ofN, bt_e, or0, Nat.zero_add, Nat.add_zero, ↓reduceIte, if_true, if_false, Bool.false_eq_true, eq_self, li0, li1, li2, li3, li4, li5, li6, li7, li8, li9, li10, li11, li12, li14, li15, li16, li18, li19, li20, li23, li24, li25, li26, li27, li30, li31, li32, li36, li40, li41, li42, li43, li44, li45, li47, li48, li57, li59, li60, li91, li93, li96, li97, li100, li105, li122, li150, li200, li255, li400, li500, li600, li999, li1000, li1001, li2000, li2001, li2002, li2003, li2004, li2005, li2006, li32767, li100000, li_neg, li13, li17, li21, li22, li28, li29, li33, li34, li35, li37, li38, li39, li46, li49, li50, li51, li52, li53, li63, li80, li115, li160]
            · simp (disch := omega) only [f_M_still, f_M_still_b, f_M_still_c, f_M_isBid, f_M_isAct, hm.1.1.b, z1, M_inT, w2, hm.b0, hm.b11, bI_s, bV_s, bL_s, bR_s, bG_s, bG_n, bX_l, bX_r, ck_nI, nI_clamp, nI_leT, nI_leF, nI_ltT, nI_ltF, nI_eqF, nI_add, pk_mul, ofN, bt_e, or0, Nat.zero_add, Nat.add_zero, ↓reduceIte, if_true, if_false, Bool.false_eq_true, eq_self, li0, li1, li2, li3, li4, li5, li6, li7, li8, li9, li10, li11, li12, li14, li15, li16, li18, li19, li20, li23, li24, li25, li26, li27, li30, li31, li32, li36, li40, li41, li42, li43, li44, li45, li47, li48, li57, li59, li60, li91, li93, li96, li97, li100, li105, li122, li150, li200, li255, li400, li500, li600, li999, li1000, li1001, li2000, li2001, li2002, li2003, li2004, li2005, li2006, li32767, li100000, li_neg, li13, li17, li21, li22, li28, li29, li33, li34, li35, li37, li38, li39, li46, li49, li50, li51, li52, li53, li63, li80, li115, li160]
        · have b3 : ∀ M, f_M_in p3 (nI 0) (nI 9) M = some (nI 0, M) := fun M => b2 M (by omega)
          refine agE1 h (cc := 2) (by omega) rfl (by omega) ?_ (0 : Int64) (fun M1 hm => ?_)
          · simp (disch := omega) only [f_C_still, f_C_still_b, hr10, hP.b, C_belT, C_inT, b1, f_C_mustBe, f_C_mustExist, t6, bI_s, bV_s, bL_s, bR_s, bG_s, bG_n, bX_l, bX_r, ck_nI, nI_clamp, nI_leT, nI_leF, nI_ltT, nI_ltF, nI_eqF, nI_add, pk_mul, ofN, bt_e, or0, Nat.zero_add, Nat.add_zero, ↓reduceIte, if_true, if_false, Bool.false_eq_true, eq_self, li0, li1, li2, li3, li4, li5, li6, li7, li8, li9, li10, li11, li12, li14, li15, li16, li18, li19, li20, li23, li24, li25, li26, li27, li30, li31, li32, li36, li40, li41, li42, li43, li44, li45, li47, li48, li57, li59, li60, li91, li93, li96, li97, li100, li105, li122, li150, li200, li255, li400, li500, li600, li999, li1000, li1001, li2000, li2001, li2002, li2003, li2004, li2005, li2006, li32767, li100000, li_neg, li13, li17, li21, li22, li28, li29, li33, li34, li35, li37, li38, li39, li46, li49, li50, li51, li52, li53, li63, li80, li115, li160]
          · simp (disch := omega) only [f_M_still, f_M_still_b, f_M_still_c, f_M_isBid, f_M_isAct, hm.1.1.b, z1, M_inT, b3, hm.b0, hm.b11, bI_s, bV_s, bL_s, bR_s, bG_s, bG_n, bX_l, bX_r, ck_nI, nI_clamp, nI_leT, nI_leF, nI_ltT, nI_ltF, nI_eqF, nI_add, pk_mul, ofN, bt_e, or0, Nat.zero_add, Nat.add_zero, ↓reduceIte, if_true, if_false, Bool.false_eq_true, eq_self, li0, li1, li2, li3, li4, li5, li6, li7, li8, li9, li10, li11, li12, li14, li15, li16, li18, li19, li20, li23, li24, li25, li26, li27, li30, li31, li32, li36, li40, li41, li42, li43, li44, li45, li47, li48, li57, li59, li60, li91, li93, li96, li97, li100, li105, li122, li150, li200, li255, li400, li500, li600, li999, li1000, li1001, li2000, li2001, li2002, li2003, li2004, li2005, li2006, li32767, li100000, li_neg, li13, li17, li21, li22, li28, li29, li33, li34, li35, li37, li38, li39, li46, li49, li50, li51, li52, li53, li63, li80, li115, li160]
      · refine agE1 h (cc := 2) (by omega) rfl (by omega) ?_ (0 : Int64) (fun M1 hm => ?_)
        · simp (disch := omega) only [f_C_still, f_C_still_b, hr10, hP.b, C_belT, C_inT, w1, f_C_mustBe, f_C_mustExist, t6, bI_s, bV_s, bL_s, bR_s, bG_s, bG_n, bX_l, bX_r, ck_nI, nI_clamp, nI_leT, nI_leF, nI_ltT, nI_ltF, nI_eqF, nI_add, pk_mul, ofN, bt_e, or0, Nat.zero_add, Nat.add_zero, ↓reduceIte, if_true, if_false, Bool.false_eq_true, eq_self, li0, li1, li2, li3, li4, li5, li6, li7, li8, li9, li10, li11, li12, li14, li15, li16, li18, li19, li20, li23, li24, li25, li26, li27, li30, li31, li32, li36, li40, li41, li42, li43, li44, li45, li47, li48, li57, li59, li60, li91, li93, li96, li97, li100, li105, li122, li150, li200, li255, li400, li500, li600, li999, li1000, li1001, li2000, li2001, li2002, li2003, li2004, li2005, li2006, li32767, li100000, li_neg, li13, li17, li21, li22, li28, li29, li33, li34, li35, li37, li38, li39, li46, li49, li50, li51, li52, li53, li63, li80, li115, li160]
        · simp (disch := omega) only [f_M_still, f_M_still_b, f_M_still_c, f_M_isBid, hm.1.1.b, z1, M_inT, w2, hm.b0, hm.b11, bI_s, bV_s, bL_s, bR_s, bG_s, bG_n, bX_l, bX_r, ck_nI, nI_clamp, nI_leT, nI_leF, nI_ltT, nI_ltF, nI_eqF, nI_add, pk_mul, ofN, bt_e, or0, Nat.zero_add, Nat.add_zero, ↓reduceIte, if_true, if_false, Bool.false_eq_true, eq_self, li0, li1, li2, li3, li4, li5, li6, li7, li8, li9, li10, li11, li12, li14, li15, li16, li18, li19, li20, li23, li24, li25, li26, li27, li30, li31, li32, li36, li40, li41, li42, li43, li44, li45, li47, li48, li57, li59, li60, li91, li93, li96, li97, li100, li105, li122, li150, li200, li255, li400, li500, li600, li999, li1000, li1001, li2000, li2001, li2002, li2003, li2004, li2005, li2006, li32767, li100000, li_neg, li13, li17, li21, li22, li28, li29, li33, li34, li35, li37, li38, li39, li46, li49, li50, li51, li52, li53, li63, li80, li115, li160]
    · refine agE1 h (cc := 2) (by omega) rfl (by omega) ?_ (0 : Int64) (fun M1 hm => ?_)
      · simp (disch := omega) only [f_C_still, f_C_still_b, hr10, hP.b, C_belT, w1, f_C_mustBe, f_C_mustExist, t6, bI_s, bV_s, bL_s, bR_s, bG_s, bG_n, bX_l, bX_r, ck_nI, nI_clamp, nI_leT, nI_leF, nI_ltT, nI_ltF, nI_eqF, nI_add, pk_mul, ofN, bt_e, or0, Nat.zero_add, Nat.add_zero, ↓reduceIte, if_true, if_false, Bool.false_eq_true, eq_self, li0, li1, li2, li3, li4, li5, li6, li7, li8, li9, li10, li11, li12, li14, li15, li16, li18, li19, li20, li23, li24, li25, li26, li27, li30, li31, li32, li36, li40, li41, li42, li43, li44, li45, li47, li48, li57, li59, li60, li91, li93, li96, li97, li100, li105, li122, li150, li200, li255, li400, li500, li600, li999, li1000, li1001, li2000, li2001, li2002, li2003, li2004, li2005, li2006, li32767, li100000, li_neg, li13, li17, li21, li22, li28, li29, li33, li34, li35, li37, li38, li39, li46, li49, li50, li51, li52, li53, li63, li80, li115, li160]
      · simp (disch := omega) only [f_M_still, f_M_still_b, f_M_still_c, f_M_isBid, hm.1.1.b, z1, M_inT, w2, hm.b0, hm.b11, bI_s, bV_s, bL_s, bR_s, bG_s, bG_n, bX_l, bX_r, ck_nI, nI_clamp, nI_leT, nI_leF, nI_ltT, nI_ltF, nI_eqF, nI_add, pk_mul, ofN, bt_e, or0, Nat.zero_add, Nat.add_zero, ↓reduceIte, if_true, if_false, Bool.false_eq_true, eq_self, li0, li1, li2, li3, li4, li5, li6, li7, li8, li9, li10, li11, li12, li14, li15, li16, li18, li19, li20, li23, li24, li25, li26, li27, li30, li31, li32, li36, li40, li41, li42, li43, li44, li45, li47, li48, li57, li59, li60, li91, li93, li96, li97, li100, li105, li122, li150, li200, li255, li400, li500, li600, li999, li1000, li1001, li2000, li2001, li2002, li2003, li2004, li2005, li2006, li32767, li100000, li_neg, li13, li17, li21, li22, li28, li29, li33, li34, li35, li37, li38, li39, li46, li49, li50, li51, li52, li53, li63, li80, li115, li160]
  · refine agE0 h (by omega) rfl ?_ (0 : Int64) (fun M1 hm => ?_)
    · simp (disch := omega) only [f_C_still, hr10, hP.b, b1, f_C_mustExist, t5, bI_s, bV_s, bL_s, bR_s, bG_s, bG_n, bX_l, bX_r, ck_nI, nI_clamp, nI_leT, nI_leF, nI_ltT, nI_ltF, nI_eqF, nI_add, pk_mul, ofN, bt_e, or0, Nat.zero_add, Nat.add_zero, ↓reduceIte, if_true, if_false, Bool.false_eq_true, eq_self, li0, li1, li2, li3, li4, li5, li6, li7, li8, li9, li10, li11, li12, li14, li15, li16, li18, li19, li20, li23, li24, li25, li26, li27, li30, li31, li32, li36, li40, li41, li42, li43, li44, li45, li47, li48, li57, li59, li60, li91, li93, li96, li97, li100, li105, li122, li150, li200, li255, li400, li500, li600, li999, li1000, li1001, li2000, li2001, li2002, li2003, li2004, li2005, li2006, li32767, li100000, li_neg, li13, li17, li21, li22, li28, li29, li33, li34, li35, li37, li38, li39, li46, li49, li50, li51, li52, li53, li63, li80, li115, li160]
    · simp (disch := omega) only [f_M_still, f_M_still_b, f_M_isBid, hm.1.1.b, b2, hm.b10, bI_s, bV_s, bL_s, bR_s, bG_s, bG_n, bX_l, bX_r, ck_nI, nI_clamp, nI_leT, nI_leF, nI_ltT, nI_ltF, nI_eqF, nI_add, pk_mul, ofN, bt_e, or0, Nat.zero_add, Nat.add_zero, ↓reduceIte, if_true, if_false, Bool.false_eq_true, eq_self, li0, li1, li2, li3, li4, li5, li6, li7, li8, li9, li10, li11, li12, li14, li15, li16, li18, li19, li20, li23, li24, li25, li26, li27, li30, li31, li32, li36, li40, li41, li42, li43, li44, li45, li47, li48, li57, li59, li60, li91, li93, li96, li97, li100, li105, li122, li150, li200, li255, li400, li500, li600, li999, li1000, li1001, li2000, li2001, li2002, li2003, li2004, li2005, li2006, li32767, li100000, li_neg, li13, li17, li21, li22, li28, li29, li33, li34, li35, li37, li38, li39, li46, li49, li50, li51, li52, li53, li63, li80, li115, li160]
end
