/-! # functional level, 83: the model carries out -/
section
variable {M M' M1 M2 N N' : Mm} {m k n u : Nat} {B P W : TT}
def mX (M : Mm) (m : Nat) (P : TT) (s : Sx) : Prop := isN M (m + 470) P s.1 ∧ gI M m 42 = nI s.2.1 ∧ gI M m 43 = nI s.2.2.1 ∧ gI M m 39 = nI s.2.2.2
def mD (m : Nat) (M M' : Mm) : Prop := Fr (fun a => a = m ∨ a = m + 470) M M' ∧ ∀ j, j ≠ 39 → j ≠ 42 → j ≠ 43 → gI M' m j = gI M m j
theorem mD.rf (M : Mm) : mD m M M := ⟨Fr.rf _ M, fun _ _ _ _ => rfl⟩
theorem mD.trans (h : mD m M M1) (h2 : mD m M1 M2) : mD m M M2 := ⟨h.1.trans h2.1, fun j h1 h3 h4 => (h2.2 j h1 h3 h4).trans (h.2 j h1 h3 h4)⟩
theorem mD_sI (h : mD m M N) {j : Nat} {v : Int32} (hj : j = 39 ∨ j = 42 ∨ j = 43) : mD m M (sI N m j v) := ⟨h.1.sI (Or.inl rfl), fun i h1 h2 h3 => by rw [gI_ne (by omega)]; exact h.2 i h1 h2 h3⟩
theorem mD_fr (h : Fr (fun x => x = m + 470) M N) : mD m M N := ⟨h.mono (fun a z => Or.inr z), fun j _ _ _ => h.i (by omega) j⟩
theorem isSt.md (h : isSt M m n B) (g : mD m M N) (hn : n ≤ 79) : isSt N m n B := h.mv (g.2 32 (by omega) (by omega) (by omega)) (fun k j _ => g.1.i (by omega) j)
theorem isQ.md (h : isQ M m P) (oP : okP P) (g : mD m M N) : isQ N m P := h.fr oP g.1 (fun x hx z => by unfold qrg at hx; omega)
theorem isN.mm (h : isN M (m + 470) P W) {j : Nat} {v : Int32} : isN (sI M m j v) (m + 470) P W := h.fr ((Fr.rf (fun a => a = m) M).sI rfl) (by omega)
theorem M_does (oP : okP P) (hL : isSt M m n B) (hQ : isQ M m P) (hk : k < n) (hn : n ≤ 25) (hW : isN M (m + 470) P W) (oW : okD P W) (ho : okSp P B k) (h4 : B 0 k ≠ 4) : ∃ M', f_M_does m (m + 470) 105 (m + 389 + 1 + k) 5 M = some (nI (stz P B k W), M') ∧ isN M' (m + 470) P (stp P B k W) ∧ Fr (fun x => x = m + 470) M M' := by
  obtain ⟨g0, r0, r1, r2, _⟩ := hL.2 k hk
  obtain ⟨o0, o1, o2, o3, o4⟩ := ho
  have nq : ¬ qrg m (m + 470) := by unfold qrg; omega
  unfold stp stz
  by_cases c0 : B 0 k = 0
  · rw [if_pos c0, if_pos c0]
    obtain ⟨x1, x2, x3⟩ := o0 c0
    obtain ⟨y1, y2, y3⟩ := r0 c0
    obtain ⟨M1, e1, g1, f1⟩ := M_writes hQ oP hW oW.1 nq x1 x2 x3
    refine ⟨M1, ?_, g1, f1⟩
    rw [c0] at g0
    simp (disch := omega) only [f_M_does, g0, y1, y2, y3, e1, bI_s, bV_s, bL_s, bR_s, bG_s, bG_n, bX_l, bX_r, ck_nI, nI_clamp, nI_leT, nI_leF, nI_ltT, nI_ltF, nI_eqF, nI_add, pk_mul, ofN, bt_e, or0, Nat.zero_add, Nat.add_zero, ↓reduceIte, if_true, if_false, Bool.false_eq_true, eq_self, li0, li1, li2, li3, li4, li5, li6, li7, li8, li9, li10, li11, li12, li14, li15, li16, li18, li19, li20, li23, li24, li25, li26, li27, li30, li31, li32, li36, li40, li41, li42, li43, li44, li45, li47, li48, li57, li59, li60, li91, li93, li96, li97, li100, li105, li122, li150, li200, li255, li400, li500, li600, li999, li1000, li1001, li2000, li2001, li2002, li2003, li2004, li2005, li2006, li32767, li100000, li_neg, li13, li17, li21, li22, li28, li29, li33, li34, li35, li37, li38, li39, li46, li49, li50, li51, li52, li53, li63, li80, li115, li160]
  · rw [if_neg c0, if_neg c0]
    by_cases c1 : B 0 k = 1
    · rw [if_pos c1, if_pos c1]
      obtain ⟨M1, e1, g1, f1⟩ := M_slips hQ oP hW oW.1 (o1 c1)
      have y1 := r1 c1
      refine ⟨M1, ?_, g1, f1⟩
      rw [c1] at g0
      simp (disch := omega) only [f_M_does, g0, y1, e1, bI_s, bV_s, bL_s, bR_s, bG_s, bG_n, bX_l, bX_r, ck_nI, nI_clamp, nI_leT, nI_leF, nI_ltT, nI_ltF, nI_eqF, nI_add, pk_mul, ofN, bt_e, or0, Nat.zero_add, Nat.add_zero, ↓reduceIte, if_true, if_false, Bool.false_eq_true, eq_self, li0, li1, li2, li3, li4, li5, li6, li7, li8, li9, li10, li11, li12, li14, li15, li16, li18, li19, li20, li23, li24, li25, li26, li27, li30, li31, li32, li36, li40, li41, li42, li43, li44, li45, li47, li48, li57, li59, li60, li91, li93, li96, li97, li100, li105, li122, li150, li200, li255, li400, li500, li600, li999, li1000, li1001, li2000, li2001, li2002, li2003, li2004, li2005, li2006, li32767, li100000, li_neg, li13, li17, li21, li22, li28, li29, li33, li34, li35, li37, li38, li39, li46, li49, li50, li51, li52, li53, li63, li80, li115, li160]
    · rw [if_neg c1, if_neg c1]
      by_cases c2 : B 0 k = 2
      · rw [if_pos c2, if_pos c2]
        have := o2 c2
        obtain ⟨M1, e1, g1, f1⟩ := M_rains oP hW oW.1 (lo := B 1 k) (by omega)
        have y1 := r2 c2
        refine ⟨M1, ?_, g1, f1⟩
        rw [c2] at g0
        simp (disch := omega) only [f_M_does, g0, y1, e1, bI_s, bV_s, bL_s, bR_s, bG_s, bG_n, bX_l, bX_r, ck_nI, nI_clamp, nI_leT, nI_leF, nI_ltT, nI_ltF, nI_eqF, nI_add, pk_mul, ofN, bt_e, or0, Nat.zero_add, Nat.add_zero, ↓reduceIte, if_true, if_false, Bool.false_eq_true, eq_self, li0, li1, li2, li3, li4, li5, li6, li7, li8, li9, li10, li11, li12, li14, li15, li16, li18, li19, li20, li23, li24, li25, li26, li27, li30, li31, li32, li36, li40, li41, li42, li43, li44, li45, li47, li48, li57, li59, li60, li91, li93, li96, li97, li100, li105, li122, li150, li200, li255, li400, li500, li600, li999, li1000, li1001, li2000, li2001, li2002, li2003, li2004, li2005, li2006, li32767, li100000, li_neg, li13, li17, li21, li22, li28, li29, li33, li34, li35, li37, li38, li39, li46, li49, li50, li51, li52, li53, li63, li80, li115, li160]
      · rw [if_neg c2, if_neg c2]
        have c3 : B 0 k = 3 := by omega
        rw [c3] at g0
        have d0 := hW.d0
        have o5 := oW.2
        by_cases c5 : W 0 0 < 500
        · rw [if_pos c5, if_pos c5]
          obtain ⟨M1, e1, g1, f1⟩ := M_nightEnds hQ oP hW nq
          refine ⟨M1, ?_, g1, f1⟩
          simp (disch := omega) only [f_M_does, g0, d0, e1, bI_s, bV_s, bL_s, bR_s, bG_s, bG_n, bX_l, bX_r, ck_nI, nI_clamp, nI_leT, nI_leF, nI_ltT, nI_ltF, nI_eqF, nI_add, pk_mul, ofN, bt_e, or0, Nat.zero_add, Nat.add_zero, ↓reduceIte, if_true, if_false, Bool.false_eq_true, eq_self, li0, li1, li2, li3, li4, li5, li6, li7, li8, li9, li10, li11, li12, li14, li15, li16, li18, li19, li20, li23, li24, li25, li26, li27, li30, li31, li32, li36, li40, li41, li42, li43, li44, li45, li47, li48, li57, li59, li60, li91, li93, li96, li97, li100, li105, li122, li150, li200, li255, li400, li500, li600, li999, li1000, li1001, li2000, li2001, li2002, li2003, li2004, li2005, li2006, li32767, li100000, li_neg, li13, li17, li21, li22, li28, li29, li33, li34, li35, li37, li38, li39, li46, li49, li50, li51, li52, li53, li63, li80, li115, li160]
        · rw [if_neg c5, if_neg c5]
          refine ⟨M, ?_, hW, Fr.rf _ M⟩
          simp (disch := omega) only [f_M_does, g0, d0, bI_s, bV_s, bL_s, bR_s, bG_s, bG_n, bX_l, bX_r, ck_nI, nI_clamp, nI_leT, nI_leF, nI_ltT, nI_ltF, nI_eqF, nI_add, pk_mul, ofN, bt_e, or0, Nat.zero_add, Nat.add_zero, ↓reduceIte, if_true, if_false, Bool.false_eq_true, eq_self, li0, li1, li2, li3, li4, li5, li6, li7, li8, li9, li10, li11, li12, li14, li15, li16, li18, li19, li20, li23, li24, li25, li26, li27, li30, li31, li32, li36, li40, li41, li42, li43, li44, li45, li47, li48, li57, li59, li60, li91, li93, li96, li97, li100, li105, li122, li150, li200, li255, li400, li500, li600, li999, li1000, li1001, li2000, li2001, li2002, li2003, li2004, li2005, li2006, li32767, li100000, li_neg, li13, li17, li21, li22, li28, li29, li33, li34, li35, li37, li38, li39, li46, li49, li50, li51, li52, li53, li63, li80, li115, li160]
theorem M_exec (oP : okP P) (hn : n ≤ 25) : ∀ (u k d lo hi op : Nat) (p0 : Int32) (v : Nat) (M : Mm) (s : Sx), wfs P B u d lo hi → d + op = 6 → 6 ≤ k + op → hi ≤ n → u < v → u ≤ 25 → isSt M m n B → isQ M m P → mX M m P s → xok P s → ∃ M', f_M_goes_b (f_M_goes k) v m p0 (nI hi) (nI lo) M = some M' ∧ mD m M M' ∧ mX M' m P (ex P B u lo hi s) ∧ xok P (ex P B u lo hi s) := by
  intro u
  induction u with
  | zero =>
    intro k d lo hi op p0 v M s hf hd hk hh hv h25 hL hQ hX hx
    obtain ⟨v, rfl⟩ : ∃ z, v = z + 1 := ⟨v - 1, by omega⟩
    have hf : lo = hi := hf
    refine ⟨M, ?_, mD.rf M, hX, hx⟩
    simp (disch := omega) only [f_M_goes_b, hf, bI_s, bV_s, bL_s, bR_s, bG_s, bG_n, bX_l, bX_r, ck_nI, nI_clamp, nI_leT, nI_leF, nI_ltT, nI_ltF, nI_eqF, nI_add, pk_mul, ofN, bt_e, or0, Nat.zero_add, Nat.add_zero, ↓reduceIte, if_true, if_false, Bool.false_eq_true, eq_self, li0, li1, li2, li3, li4, li5, li6, li7, li8, li9, li10, li11, li12, li14, li15, li16, li18, li19, li20, li23, li24, li25, li26, li27, li30, li31, li32, li36, li40, li41, li42, li43, li44, li45, li47, li48, li57, li59, li60, li91, li93, li96, li97, li100, li105, li122, li150, li200, li255, li400, li500, li600, li999, li1000, li1001, li2000, li2001, li2002, li2003, li2004, li2005, li2006, li32767, li100000, li_neg, li13, li17, li21, li22, li28, li29, li33, li34, li35, li37, li38, li39, li46, li49, li50, li51, li52, li53, li63, li80, li115, li160]
  | succ u ih =>
    intro k d lo hi op p0 v M s hf hd hk hh hv h25 hL hQ hX hx
    obtain ⟨v, rfl⟩ : ∃ z, v = z + 2 := ⟨v - 2, by omega⟩
    obtain ⟨W, bg, dn, rf⟩ := s
    obtain ⟨hW, x5, x6, x7⟩ := id hX
    dsimp only at hW x5 x6 x7
    obtain ⟨oW, hb⟩ := id hx
    dsimp only at oW hb
    have l200 : (200 : Int32) = nI 200 := rfl
    rcases hf with hf | ⟨⟨h1, ho⟩, ⟨h2, h3⟩, h4, h5, h6⟩
    · rw [hf, ex_end]
      refine ⟨M, ?_, mD.rf M, hX, hx⟩
      simp (disch := omega) only [f_M_goes_b, bI_s, bV_s, bL_s, bR_s, bG_s, bG_n, bX_l, bX_r, ck_nI, nI_clamp, nI_leT, nI_leF, nI_ltT, nI_ltF, nI_eqF, nI_add, pk_mul, ofN, bt_e, or0, Nat.zero_add, Nat.add_zero, ↓reduceIte, if_true, if_false, Bool.false_eq_true, eq_self, li0, li1, li2, li3, li4, li5, li6, li7, li8, li9, li10, li11, li12, li14, li15, li16, li18, li19, li20, li23, li24, li25, li26, li27, li30, li31, li32, li36, li40, li41, li42, li43, li44, li45, li47, li48, li57, li59, li60, li91, li93, li96, li97, li100, li105, li122, li150, li200, li255, li400, li500, li600, li999, li1000, li1001, li2000, li2001, li2002, li2003, li2004, li2005, li2006, li32767, li100000, li_neg, li13, li17, li21, li22, li28, li29, li33, li34, li35, li37, li38, li39, li46, li49, li50, li51, li52, li53, li63, li80, li115, li160]
    · by_cases c2 : 200 ≤ bg
      · rw [ex_id (s := (W, bg, dn, rf)) c2]
        refine ⟨M, ?_, mD.rf M, hX, hx⟩
        simp (disch := omega) only [f_M_goes_b, l200, x5, bI_s, bV_s, bL_s, bR_s, bG_s, bG_n, bX_l, bX_r, ck_nI, nI_clamp, nI_leT, nI_leF, nI_ltT, nI_ltF, nI_eqF, nI_add, pk_mul, ofN, bt_e, or0, Nat.zero_add, Nat.add_zero, ↓reduceIte, if_true, if_false, Bool.false_eq_true, eq_self, li0, li1, li2, li3, li4, li5, li6, li7, li8, li9, li10, li11, li12, li14, li15, li16, li18, li19, li20, li23, li24, li25, li26, li27, li30, li31, li32, li36, li40, li41, li42, li43, li44, li45, li47, li48, li57, li59, li60, li91, li93, li96, li97, li100, li105, li122, li150, li200, li255, li400, li500, li600, li999, li1000, li1001, li2000, li2001, li2002, li2003, li2004, li2005, li2006, li32767, li100000, li_neg, li13, li17, li21, li22, li28, li29, li33, li34, li35, li37, li38, li39, li46, li49, li50, li51, li52, li53, li63, li80, li115, li160]
      · have ee : ex P B (u + 1) lo hi (W, bg, dn, rf) = if B 0 lo = 4 then ex P B u (B 4 lo) hi (fo (B 1 lo) (fun _ x => ex P B u (lo + 1) (B 4 lo) x) (W, bg + 1, dn, rf)) else ex P B u (B 4 lo) hi (stp P B lo W, bg + 1, dn + stz P B lo W, rf + (1 - stz P B lo W)) := if_neg (by show ¬ (hi ≤ lo ∨ 200 ≤ bg); omega)
        rw [ee]
        have D1 : mD m M (sI M m 42 (nI (bg + 1))) := mD_sI (mD.rf M) (by omega)
        have L1 := hL.md D1 (by omega)
        have Q1 := hQ.md oP D1
        have X1 : mX (sI M m 42 (nI (bg + 1))) m P (W, bg + 1, dn, rf) := ⟨hW.mm, gI_same .., by rw [gI_ne (by omega)]; exact x6, by rw [gI_ne (by omega)]; exact x7⟩
        obtain ⟨g0, _, _, _, r4, rj⟩ := L1.2 lo (by omega)
        have g0' : gI (sI M m 42 (nI (bg + 1))) (m + 389 + 1 + lo) 0 = nI (B 0 lo) := g0
        by_cases c4 : B 0 lo = 4
        · rw [if_pos c4]
          obtain ⟨d1, wb⟩ := h5 c4
          have t30 := ho.2.2.2.1 c4
          rw [c4] at g0'
          have eb : f_M_goes_b (f_M_goes k) (v + 2) m p0 (nI hi) (nI lo) M = f_M_goes_c (f_M_goes k) (f_M_goes_b (f_M_goes k) (v + 1)) FU m p0 (nI hi) (nI lo) (nI 0) (sI M m 42 (nI (bg + 1))) := by
            conv => lhs; unfold f_M_goes_b
            simp (disch := omega) only [l200, x5, g0', bI_s, bV_s, bL_s, bR_s, bG_s, bG_n, bX_l, bX_r, ck_nI, nI_clamp, nI_leT, nI_leF, nI_ltT, nI_ltF, nI_eqF, nI_add, pk_mul, ofN, bt_e, or0, Nat.zero_add, Nat.add_zero, ↓reduceIte, if_true, if_false, Bool.false_eq_true, eq_self, li0, li1, li2, li3, li4, li5, li6, li7, li8, li9, li10, li11, li12, li14, li15, li16, li18, li19, li20, li23, li24, li25, li26, li27, li30, li31, li32, li36, li40, li41, li42, li43, li44, li45, li47, li48, li57, li59, li60, li91, li93, li96, li97, li100, li105, li122, li150, li200, li255, li400, li500, li600, li999, li1000, li1001, li2000, li2001, li2002, li2003, li2004, li2005, li2006, li32767, li100000, li_neg, li13, li17, li21, li22, li28, li29, li33, li34, li35, li37, li38, li39, li46, li49, li50, li51, li52, li53, li63, li80, li115, li160]
          obtain ⟨k, rfl⟩ : ∃ z, k = z + 1 := ⟨k - 1, by omega⟩
          have key : ∀ dd i z (N : Mm), i + dd = B 1 lo → dd < z → mD m (sI M m 42 (nI (bg + 1))) N → mX N m P (fo i (fun _ x => ex P B u (lo + 1) (B 4 lo) x) (W, bg + 1, dn, rf)) → xok P (fo i (fun _ x => ex P B u (lo + 1) (B 4 lo) x) (W, bg + 1, dn, rf)) → ∃ N', f_M_goes_c (f_M_goes (k + 1)) (f_M_goes_b (f_M_goes (k + 1)) (v + 1)) z m p0 (nI hi) (nI lo) (nI i) N = f_M_goes_b (f_M_goes (k + 1)) (v + 1) m p0 (nI hi) (nI (B 4 lo)) N' ∧ mD m (sI M m 42 (nI (bg + 1))) N' ∧ mX N' m P (fo (B 1 lo) (fun _ x => ex P B u (lo + 1) (B 4 lo) x) (W, bg + 1, dn, rf)) ∧ xok P (fo (B 1 lo) (fun _ x => ex P B u (lo + 1) (B 4 lo) x) (W, bg + 1, dn, rf)) := by
            intro dd
            induction dd with
            | zero =>
              intro i z N hi2 hz D X xx
              obtain ⟨z, rfl⟩ : ∃ y, z = y + 1 := ⟨z - 1, by omega⟩
              have hi2 : i = B 1 lo := hi2
              have LN := L1.md D (by omega)
              obtain ⟨_, _, _, _, rn, rjn⟩ := LN.2 lo (by omega)
              have w1 := rn c4
              have w2 := rjn (by omega)
              rw [← hi2] at w1 ⊢
              refine ⟨N, ?_, D, X, xx⟩
              simp (disch := omega) only [f_M_goes_c, f_M_goes_d, w1, w2, bI_s, bV_s, bL_s, bR_s, bG_s, bG_n, bX_l, bX_r, ck_nI, nI_clamp, nI_leT, nI_leF, nI_ltT, nI_ltF, nI_eqF, nI_add, pk_mul, ofN, bt_e, or0, Nat.zero_add, Nat.add_zero, ↓reduceIte, if_true, if_false, Bool.false_eq_true, eq_self, li0, li1, li2, li3, li4, li5, li6, li7, li8, li9, li10, li11, li12, li14, li15, li16, li18, li19, li20, li23, li24, li25, li26, li27, li30, li31, li32, li36, li40, li41, li42, li43, li44, li45, li47, li48, li57, li59, li60, li91, li93, li96, li97, li100, li105, li122, li150, li200, li255, li400, li500, li600, li999, li1000, li1001, li2000, li2001, li2002, li2003, li2004, li2005, li2006, li32767, li100000, li_neg, li13, li17, li21, li22, li28, li29, li33, li34, li35, li37, li38, li39, li46, li49, li50, li51, li52, li53, li63, li80, li115, li160]
            | succ dd ihd =>
              intro i z N hi2 hz D X xx
              obtain ⟨z, rfl⟩ : ∃ y, z = y + 1 := ⟨z - 1, by omega⟩
              have LN := L1.md D (by omega)
              obtain ⟨_, _, _, _, rn, rjn⟩ := LN.2 lo (by omega)
              have w1 := rn c4
              have w2 := rjn (by omega)
              have b5 := X.2.1
              have b6 := xx.2
              by_cases cb : 200 ≤ (fo i (fun _ x => ex P B u (lo + 1) (B 4 lo) x) (W, bg + 1, dn, rf)).2.1
              · have e9 := fo_id (g := fun x => ex P B u (lo + 1) (B 4 lo) x) (s := ((W, bg + 1, dn, rf) : Sx)) i (B 1 lo - i) (ex_id cb u _ _)
                rw [show i + (B 1 lo - i) = B 1 lo by omega] at e9
                have e9 : fo (B 1 lo) (fun _ x => ex P B u (lo + 1) (B 4 lo) x) (W, bg + 1, dn, rf) = fo i (fun _ x => ex P B u (lo + 1) (B 4 lo) x) (W, bg + 1, dn, rf) := e9
                rw [e9]
                refine ⟨N, ?_, D, X, xx⟩
                simp (disch := omega) only [f_M_goes_c, f_M_goes_d, l200, b5, w1, w2, bI_s, bV_s, bL_s, bR_s, bG_s, bG_n, bX_l, bX_r, ck_nI, nI_clamp, nI_leT, nI_leF, nI_ltT, nI_ltF, nI_eqF, nI_add, pk_mul, ofN, bt_e, or0, Nat.zero_add, Nat.add_zero, ↓reduceIte, if_true, if_false, Bool.false_eq_true, eq_self, li0, li1, li2, li3, li4, li5, li6, li7, li8, li9, li10, li11, li12, li14, li15, li16, li18, li19, li20, li23, li24, li25, li26, li27, li30, li31, li32, li36, li40, li41, li42, li43, li44, li45, li47, li48, li57, li59, li60, li91, li93, li96, li97, li100, li105, li122, li150, li200, li255, li400, li500, li600, li999, li1000, li1001, li2000, li2001, li2002, li2003, li2004, li2005, li2006, li32767, li100000, li_neg, li13, li17, li21, li22, li28, li29, li33, li34, li35, li37, li38, li39, li46, li49, li50, li51, li52, li53, li63, li80, li115, li160]
              · obtain ⟨N1, e', D', X', xx'⟩ := ih k (d - 1) (lo + 1) (B 4 lo) (op + 1) (nI (lo + 1)) FU N _ wb (by omega) (by omega) (by omega) (FU_lt (by omega)) (by omega) LN (Q1.md oP D) X xx
                have e'' : f_M_goes (k + 1) m (nI (lo + 1)) (nI (B 4 lo)) N = some N1 := e'
                obtain ⟨N2, e2, D2, X2, xx2⟩ := ihd (i + 1) z N1 (by omega) (by omega) (D.trans D') X' xx'
                refine ⟨N2, ?_, D2, X2, xx2⟩
                rw [← e2]
                simp (disch := omega) only [f_M_goes_c, l200, b5, w1, w2, e'', bI_s, bV_s, bL_s, bR_s, bG_s, bG_n, bX_l, bX_r, ck_nI, nI_clamp, nI_leT, nI_leF, nI_ltT, nI_ltF, nI_eqF, nI_add, pk_mul, ofN, bt_e, or0, Nat.zero_add, Nat.add_zero, ↓reduceIte, if_true, if_false, Bool.false_eq_true, eq_self, li0, li1, li2, li3, li4, li5, li6, li7, li8, li9, li10, li11, li12, li14, li15, li16, li18, li19, li20, li23, li24, li25, li26, li27, li30, li31, li32, li36, li40, li41, li42, li43, li44, li45, li47, li48, li57, li59, li60, li91, li93, li96, li97, li100, li105, li122, li150, li200, li255, li400, li500, li600, li999, li1000, li1001, li2000, li2001, li2002, li2003, li2004, li2005, li2006, li32767, li100000, li_neg, li13, li17, li21, li22, li28, li29, li33, li34, li35, li37, li38, li39, li46, li49, li50, li51, li52, li53, li63, li80, li115, li160]
          obtain ⟨M2, e2, D2, X2, x2⟩ := key (B 1 lo) 0 FU (sI M m 42 (nI (bg + 1))) (by omega) (FU_lt (by omega)) (mD.rf _) X1 ⟨oW, by show bg + 1 ≤ 200; omega⟩
          obtain ⟨M3, e3, D3, X3, x3⟩ := ih (k + 1) d (B 4 lo) hi op p0 (v + 1) M2 _ h6 hd hk hh (by omega) (by omega) (L1.md D2 (by omega)) (Q1.md oP D2) X2 x2
          exact ⟨M3, (eb.trans e2).trans e3, (D1.trans D2).trans D3, X3, x3⟩
        · rw [if_neg c4]
          obtain ⟨M2, e2, W2, F2⟩ := M_does oP L1 Q1 (by omega) hn X1.1 oW ho c4
          have D2 := mD_fr F2
          have z1 := stz_1 (P := P) (B := B) lo W
          have v5 : gI M2 m 42 = nI (bg + 1) := by rw [F2.i (by omega)]; exact X1.2.1
          have v6 : gI M2 m 43 = nI dn := by rw [F2.i (by omega)]; exact X1.2.2.1
          have v7 : gI M2 m 39 = nI rf := by rw [F2.i (by omega)]; exact X1.2.2.2
          have n4 : B 0 lo ≠ 4 := c4
          have b4 := ho.2.2.2.2
          have okn := stp_ok oP oW ho
          have D3 : mD m M (sI (sI M2 m 43 (nI (dn + stz P B lo W))) m 39 (nI (rf + (1 - stz P B lo W)))) := mD_sI (mD_sI (D1.trans D2) (by omega)) (by omega)
          have X3 : mX (sI (sI M2 m 43 (nI (dn + stz P B lo W))) m 39 (nI (rf + (1 - stz P B lo W)))) m P (stp P B lo W, bg + 1, dn + stz P B lo W, rf + (1 - stz P B lo W)) := ⟨W2.mm.mm, by rw [gI_ne (by omega), gI_ne (by omega)]; exact v5, by rw [gI_ne (by omega), gI_same], gI_same ..⟩
          have rj3 := ((hL.md D3 (by omega)).2 lo (by omega)).2.2.2.2.2 (by omega)
          have s7 : gI (sI M2 m 43 (nI (dn + stz P B lo W))) m 39 = nI rf := by rw [gI_ne (by omega)]; exact v7
          obtain ⟨M3, e3, D4, X4, x4⟩ := ih k d (B 4 lo) hi op p0 (v + 1) _ _ h6 hd hk hh (by omega) (by omega) (hL.md D3 (by omega)) (hQ.md oP D3) X3 ⟨okn, by show bg + 1 ≤ 200; omega⟩
          refine ⟨M3, ?_, D3.trans D4, X4, x4⟩
          rw [← e3]
          have eb : f_M_goes_b (f_M_goes k) (v + 2) m p0 (nI hi) (nI lo) M = (if nI (stz P B lo W) = nI 0 then f_M_goes_e (f_M_goes k) (f_M_goes_b (f_M_goes k) (v + 1)) m p0 (nI hi) (nI lo) (nI (stz P B lo W)) (nI 0) (nI dn) M2 else f_M_goes_e (f_M_goes k) (f_M_goes_b (f_M_goes k) (v + 1)) m p0 (nI hi) (nI lo) (nI (stz P B lo W)) (nI 1) (nI dn) M2) := by
            conv => lhs; unfold f_M_goes_b
            simp (disch := omega) only [l200, x5, g0', nI_eqF n4, e2, v6, bI_s, bV_s, bL_s, bR_s, bG_s, bG_n, bX_l, bX_r, ck_nI, nI_clamp, nI_leT, nI_leF, nI_ltT, nI_ltF, nI_eqF, nI_add, pk_mul, ofN, bt_e, or0, Nat.zero_add, Nat.add_zero, ↓reduceIte, if_true, if_false, Bool.false_eq_true, eq_self, li0, li1, li2, li3, li4, li5, li6, li7, li8, li9, li10, li11, li12, li14, li15, li16, li18, li19, li20, li23, li24, li25, li26, li27, li30, li31, li32, li36, li40, li41, li42, li43, li44, li45, li47, li48, li57, li59, li60, li91, li93, li96, li97, li100, li105, li122, li150, li200, li255, li400, li500, li600, li999, li1000, li1001, li2000, li2001, li2002, li2003, li2004, li2005, li2006, li32767, li100000, li_neg, li13, li17, li21, li22, li28, li29, li33, li34, li35, li37, li38, li39, li46, li49, li50, li51, li52, li53, li63, li80, li115, li160]
          rw [eb]
          generalize stz P B lo W = sz at z1 rj3 s7 ⊢
          obtain rfl | rfl : sz = 0 ∨ sz = 1 := by omega
          · rw [if_pos rfl]
            have s7 : gI (sI M2 m 43 (nI dn)) m 39 = nI rf := s7
            have rj3 : gI (sI (sI M2 m 43 (nI dn)) m 39 (nI (rf + 1))) (m + 389 + 1 + lo) 4 = nI (B 4 lo) := rj3
            simp (disch := omega) only [f_M_goes_e, f_M_goes_f, s7, rj3, Nat.sub_zero, bI_s, bV_s, bL_s, bR_s, bG_s, bG_n, bX_l, bX_r, ck_nI, nI_clamp, nI_leT, nI_leF, nI_ltT, nI_ltF, nI_eqF, nI_add, pk_mul, ofN, bt_e, or0, Nat.zero_add, Nat.add_zero, ↓reduceIte, if_true, if_false, Bool.false_eq_true, eq_self, li0, li1, li2, li3, li4, li5, li6, li7, li8, li9, li10, li11, li12, li14, li15, li16, li18, li19, li20, li23, li24, li25, li26, li27, li30, li31, li32, li36, li40, li41, li42, li43, li44, li45, li47, li48, li57, li59, li60, li91, li93, li96, li97, li100, li105, li122, li150, li200, li255, li400, li500, li600, li999, li1000, li1001, li2000, li2001, li2002, li2003, li2004, li2005, li2006, li32767, li100000, li_neg, li13, li17, li21, li22, li28, li29, li33, li34, li35, li37, li38, li39, li46, li49, li50, li51, li52, li53, li63, li80, li115, li160]
          · rw [if_neg (by decide)]
            have rj3 : gI (sI (sI M2 m 43 (nI (dn + 1))) m 39 (nI rf)) (m + 389 + 1 + lo) 4 = nI (B 4 lo) := rj3
            simp (disch := omega) only [f_M_goes_e, f_M_goes_f, s7, rj3, Nat.sub_self, bI_s, bV_s, bL_s, bR_s, bG_s, bG_n, bX_l, bX_r, ck_nI, nI_clamp, nI_leT, nI_leF, nI_ltT, nI_ltF, nI_eqF, nI_add, pk_mul, ofN, bt_e, or0, Nat.zero_add, Nat.add_zero, ↓reduceIte, if_true, if_false, Bool.false_eq_true, eq_self, li0, li1, li2, li3, li4, li5, li6, li7, li8, li9, li10, li11, li12, li14, li15, li16, li18, li19, li20, li23, li24, li25, li26, li27, li30, li31, li32, li36, li40, li41, li42, li43, li44, li45, li47, li48, li57, li59, li60, li91, li93, li96, li97, li100, li105, li122, li150, li200, li255, li400, li500, li600, li999, li1000, li1001, li2000, li2001, li2002, li2003, li2004, li2005, li2006, li32767, li100000, li_neg, li13, li17, li21, li22, li28, li29, li33, li34, li35, li37, li38, li39, li46, li49, li50, li51, li52, li53, li63, li80, li115, li160]
end
