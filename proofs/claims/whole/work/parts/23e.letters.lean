/-! # functional level, 48: the model's word of seven letters; does a number come -/
section
variable {M M' M1 M2 N : Mm} {t m E a k f n s : Nat} {T : Nat → Nat}
theorem rl_stop {T : Nat → Nat} : ∀ d a, (rl T d a).length < d → ¬ isSm (T (a + (rl T d a).length)) = true
  | 0, _ => fun h => by omega
  | d + 1, a => fun h => by
    unfold rl at h ⊢
    by_cases c : isSm (T a) = true
    · rw [if_pos c] at h ⊢
      have h2 : (rl T d (a + 1)).length + 1 < d + 1 := h
      have i := rl_stop (T := T) d (a + 1) (by omega)
      show ¬ isSm (T (a + ((rl T d (a + 1)).length + 1))) = true
      rw [show a + ((rl T d (a + 1)).length + 1) = a + 1 + (rl T d (a + 1)).length by omega]
      exact i
    · rw [if_neg c]; exact c
theorem wcd_take {l : List Nat} {i x : Nat} (h : l[i]? = some x) : wcd 0 (l.take (i + 1)) = 27 * wcd 0 (l.take i) + (x - 96) := by
  rw [List.take_add_one, h, wcd_app]; rfl
def wLe : List Nat := [108, 101, 116, 116, 101, 114, 115]
theorem six_le (N : Mm) : f_M_six (nI 12) (nI 5) (nI 20) (nI 20) (nI 5) (nI 18) N = some (nI (wcd 0 (wLe.take 6)), N) := by unfold f_M_six f_M_six_b f_M_six_c; rfl
theorem M_letters (h : MTp M m T E a 0 f) : ∃ M', FX (uD m) M M' ∧ ((rl T (E - sk T E a) (sk T E a) = wLe ∧ f_M_isLetters m M = some (nI 1, M') ∧ MTp M' m T E (sk T E a + 7) 0 f) ∨ (rl T (E - sk T E a) (sk T E a) ≠ wLe ∧ f_M_isLetters m M = some (nI 0, M') ∧ MTp M' m T E (sk T E a) 0 f)) := by
  have hE := h.2.2.1
  have hk := h.1.2.2.1
  obtain ⟨M1, e1, f1, h1⟩ := M_blanks h
  have hs := sk_b (T := T) hE.1
  have e0 : f_M_isLetters m M = f_M_isLetters_b FU m (nI 0) (nI 0) M1 := by simp (disch := omega) only [f_M_isLetters, hk, e1, bI_s, bV_s, bL_s, bR_s, bG_s, bG_n, bX_l, bX_r, ck_nI, nI_clamp, nI_leT, nI_leF, nI_ltT, nI_ltF, nI_eqF, nI_add, pk_mul, ofN, bt_e, or0, Nat.zero_add, Nat.add_zero, ↓reduceIte, if_true, if_false, Bool.false_eq_true, eq_self, li0, li1, li2, li3, li4, li5, li6, li7, li8, li9, li10, li11, li12, li14, li15, li16, li18, li19, li20, li23, li24, li25, li26, li27, li30, li31, li32, li36, li40, li41, li42, li43, li44, li45, li47, li48, li57, li59, li60, li91, li93, li96, li97, li100, li105, li122, li150, li200, li255, li400, li500, li600, li999, li1000, li1001, li2000, li2001, li2002, li2003, li2004, li2005, li2006, li32767, li100000, li_neg, li13, li17, li21, li22, li28, li29, li33, li34, li35, li37, li38, li39, li46, li49, li50, li51, li52, li53, li63, li80, li115, li160]
  rw [e0]
  generalize sk T E a = s at h1 hs ⊢
  have e2 := h1.1.2.1
  have hsm := rl_sm (T := T) (E - s) s
  have hlen := rl_len (T := T) (E - s) s
  have hat := rl_at (T := T) (E - s) s
  have hst := rl_stop (T := T) (E - s) s
  obtain ⟨M2, e3, f2, h2⟩ := M_skip h1
  generalize rl T (E - s) s = r at hsm hlen hat hst h2 ⊢
  have key : ∀ d i u, i + d = r.length → d < u → ∃ x1 x2, f_M_isLetters_b u m (nI (wcd 0 (r.take (min i 6)))) (nI i) M1 = f_M_isLetters_c m x1 x2 (nI (if r = wLe then 1 else 0)) M1 := by
    intro d
    induction d with
    | zero =>
      intro i u hi hu
      obtain ⟨u, rfl⟩ : ∃ v, u = v + 1 := ⟨u - 1, by omega⟩
      have hi : i = r.length := hi
      have dg2 : ∃ z, f_M_byteAt m (nI (s + i)) M1 = some (z, M1) ∧ ∀ N, f_M_isSmall z N = some (nI 0, N) := by
        by_cases q : s + i < E
        · exact ⟨_, M_at h1 q, fun N => M_smF (by rw [hi]; exact hst (by omega)) (h1.2.2.2 _ q)⟩
        · exact ⟨_, M_atE h1 (by omega) (by omega), fun N => M_smE⟩
      obtain ⟨z, y1, y2⟩ := dg2
      by_cases c7 : i = 7
      · have l6 : r.length = 7 := by omega
        have m6 : min i 6 = 6 := by omega
        rw [m6]
        have b1 := wcd_6 (l := r.take 6) (fun c hc => hsm c (List.mem_of_mem_take hc)) (by rw [List.length_take]; omega)
        have b2 : wcd 0 (wLe.take 6) < 387420489 := by decide
        have a6 := M_at h1 (show s + 6 < E by omega)
        have v6 := h1.2.2.2 (s + 6) (by omega)
        have r6 := hat 6 (by omega)
        have sp : r = r.take 6 ++ [T (s + 6)] := by
          have q := List.take_add_one (l := r) (i := 6)
          rw [r6] at q
          rw [show r.take (6 + 1) = r from List.take_of_length_le (by omega)] at q
          exact q
        subst c7
        by_cases c1 : wcd 0 (r.take 6) = wcd 0 (wLe.take 6)
        · have t6 : r.take 6 = wLe.take 6 := wcd_eq (fun c hc => hsm c (List.mem_of_mem_take hc)) (by decide) c1
          by_cases c2 : T (s + 6) = 115
          · have er : r = wLe := by rw [sp, t6, c2]; rfl
            rw [if_pos er]
            refine ⟨nI (wcd 0 (wLe.take 6)), nI 7, ?_⟩
            rw [c2] at a6
            rw [c1]
            simp (disch := omega) only [f_M_isLetters_b, e2, y1, y2, six_le, a6, bI_s, bV_s, bL_s, bR_s, bG_s, bG_n, bX_l, bX_r, ck_nI, nI_clamp, nI_leT, nI_leF, nI_ltT, nI_ltF, nI_eqF, nI_add, pk_mul, ofN, bt_e, or0, Nat.zero_add, Nat.add_zero, ↓reduceIte, if_true, if_false, Bool.false_eq_true, eq_self, li0, li1, li2, li3, li4, li5, li6, li7, li8, li9, li10, li11, li12, li14, li15, li16, li18, li19, li20, li23, li24, li25, li26, li27, li30, li31, li32, li36, li40, li41, li42, li43, li44, li45, li47, li48, li57, li59, li60, li91, li93, li96, li97, li100, li105, li122, li150, li200, li255, li400, li500, li600, li999, li1000, li1001, li2000, li2001, li2002, li2003, li2004, li2005, li2006, li32767, li100000, li_neg, li13, li17, li21, li22, li28, li29, li33, li34, li35, li37, li38, li39, li46, li49, li50, li51, li52, li53, li63, li80, li115, li160]
          · have er : r ≠ wLe := fun q => c2 (by
              have q2 : wLe[6]? = some (T (s + 6)) := by rw [← q]; exact r6
              exact (Option.some.inj q2).symm)
            rw [if_neg er]
            refine ⟨nI (wcd 0 (wLe.take 6)), nI 7, ?_⟩
            rw [c1]
            simp (disch := omega) only [f_M_isLetters_b, e2, y1, y2, six_le, a6, nI_eqF c2, bI_s, bV_s, bL_s, bR_s, bG_s, bG_n, bX_l, bX_r, ck_nI, nI_clamp, nI_leT, nI_leF, nI_ltT, nI_ltF, nI_eqF, nI_add, pk_mul, ofN, bt_e, or0, Nat.zero_add, Nat.add_zero, ↓reduceIte, if_true, if_false, Bool.false_eq_true, eq_self, li0, li1, li2, li3, li4, li5, li6, li7, li8, li9, li10, li11, li12, li14, li15, li16, li18, li19, li20, li23, li24, li25, li26, li27, li30, li31, li32, li36, li40, li41, li42, li43, li44, li45, li47, li48, li57, li59, li60, li91, li93, li96, li97, li100, li105, li122, li150, li200, li255, li400, li500, li600, li999, li1000, li1001, li2000, li2001, li2002, li2003, li2004, li2005, li2006, li32767, li100000, li_neg, li13, li17, li21, li22, li28, li29, li33, li34, li35, li37, li38, li39, li46, li49, li50, li51, li52, li53, li63, li80, li115, li160]
        · have er : r ≠ wLe := fun q => c1 (by rw [q])
          rw [if_neg er]
          refine ⟨nI (wcd 0 (r.take 6)), nI 7, ?_⟩
          simp (disch := omega) only [f_M_isLetters_b, e2, y1, y2, six_le, nI_eqF c1, bI_s, bV_s, bL_s, bR_s, bG_s, bG_n, bX_l, bX_r, ck_nI, nI_clamp, nI_leT, nI_leF, nI_ltT, nI_ltF, nI_eqF, nI_add, pk_mul, ofN, bt_e, or0, Nat.zero_add, Nat.add_zero, ↓reduceIte, if_true, if_false, Bool.false_eq_true, eq_self, li0, li1, li2, li3, li4, li5, li6, li7, li8, li9, li10, li11, li12, li14, li15, li16, li18, li19, li20, li23, li24, li25, li26, li27, li30, li31, li32, li36, li40, li41, li42, li43, li44, li45, li47, li48, li57, li59, li60, li91, li93, li96, li97, li100, li105, li122, li150, li200, li255, li400, li500, li600, li999, li1000, li1001, li2000, li2001, li2002, li2003, li2004, li2005, li2006, li32767, li100000, li_neg, li13, li17, li21, li22, li28, li29, li33, li34, li35, li37, li38, li39, li46, li49, li50, li51, li52, li53, li63, li80, li115, li160]
      · have er : r ≠ wLe := fun q => c7 (by rw [hi, q]; rfl)
        rw [if_neg er]
        refine ⟨nI (wcd 0 (r.take (min i 6))), nI i, ?_⟩
        simp (disch := omega) only [f_M_isLetters_b, e2, y1, y2, nI_eqF c7, bI_s, bV_s, bL_s, bR_s, bG_s, bG_n, bX_l, bX_r, ck_nI, nI_clamp, nI_leT, nI_leF, nI_ltT, nI_ltF, nI_eqF, nI_add, pk_mul, ofN, bt_e, or0, Nat.zero_add, Nat.add_zero, ↓reduceIte, if_true, if_false, Bool.false_eq_true, eq_self, li0, li1, li2, li3, li4, li5, li6, li7, li8, li9, li10, li11, li12, li14, li15, li16, li18, li19, li20, li23, li24, li25, li26, li27, li30, li31, li32, li36, li40, li41, li42, li43, li44, li45, li47, li48, li57, li59, li60, li91, li93, li96, li97, li100, li105, li122, li150, li200, li255, li400, li500, li600, li999, li1000, li1001, li2000, li2001, li2002, li2003, li2004, li2005, li2006, li32767, li100000, li_neg, li13, li17, li21, li22, li28, li29, li33, li34, li35, li37, li38, li39, li46, li49, li50, li51, li52, li53, li63, li80, li115, li160]
    | succ d ih =>
      intro i u hi hu
      obtain ⟨u, rfl⟩ : ∃ v, u = v + 1 := ⟨u - 1, by omega⟩
      have ai := M_at h1 (show s + i < E by omega)
      have ri := hat i (by omega)
      have sm : isSm (T (s + i)) = true := isSm_t.mpr (hsm _ (List.mem_of_getElem? ri))
      have sm2 := isSm_t.mp sm
      obtain ⟨x1, x2, q⟩ := ih (i + 1) u (by omega) (by omega)
      refine ⟨x1, x2, ?_⟩
      rw [← q]
      by_cases c6 : 6 ≤ i
      · rw [show min i 6 = 6 by omega, show min (i + 1) 6 = 6 by omega]
        simp (disch := omega) only [f_M_isLetters_b, e2, ai, M_smT sm, bI_s, bV_s, bL_s, bR_s, bG_s, bG_n, bX_l, bX_r, ck_nI, nI_clamp, nI_leT, nI_leF, nI_ltT, nI_ltF, nI_eqF, nI_add, pk_mul, ofN, bt_e, or0, Nat.zero_add, Nat.add_zero, ↓reduceIte, if_true, if_false, Bool.false_eq_true, eq_self, li0, li1, li2, li3, li4, li5, li6, li7, li8, li9, li10, li11, li12, li14, li15, li16, li18, li19, li20, li23, li24, li25, li26, li27, li30, li31, li32, li36, li40, li41, li42, li43, li44, li45, li47, li48, li57, li59, li60, li91, li93, li96, li97, li100, li105, li122, li150, li200, li255, li400, li500, li600, li999, li1000, li1001, li2000, li2001, li2002, li2003, li2004, li2005, li2006, li32767, li100000, li_neg, li13, li17, li21, li22, li28, li29, li33, li34, li35, li37, li38, li39, li46, li49, li50, li51, li52, li53, li63, li80, li115, li160]
      · rw [show min i 6 = i by omega, show min (i + 1) 6 = i + 1 by omega, wcd_take ri]
        generalize wcd 0 (r.take i) = x
        have z : nI (27 * x + T (s + i)) - nI 97 = nI (27 * x + T (s + i) - 97) := pk_sub (by omega)
        have z2 : 27 * x + T (s + i) - 97 + 1 = 27 * x + (T (s + i) - 96) := by omega
        simp (disch := omega) only [f_M_isLetters_b, e2, ai, M_smT sm, z, z2, bI_s, bV_s, bL_s, bR_s, bG_s, bG_n, bX_l, bX_r, ck_nI, nI_clamp, nI_leT, nI_leF, nI_ltT, nI_ltF, nI_eqF, nI_add, pk_mul, ofN, bt_e, or0, Nat.zero_add, Nat.add_zero, ↓reduceIte, if_true, if_false, Bool.false_eq_true, eq_self, li0, li1, li2, li3, li4, li5, li6, li7, li8, li9, li10, li11, li12, li14, li15, li16, li18, li19, li20, li23, li24, li25, li26, li27, li30, li31, li32, li36, li40, li41, li42, li43, li44, li45, li47, li48, li57, li59, li60, li91, li93, li96, li97, li100, li105, li122, li150, li200, li255, li400, li500, li600, li999, li1000, li1001, li2000, li2001, li2002, li2003, li2004, li2005, li2006, li32767, li100000, li_neg, li13, li17, li21, li22, li28, li29, li33, li34, li35, li37, li38, li39, li46, li49, li50, li51, li52, li53, li63, li80, li115, li160]
  obtain ⟨x1, x2, q⟩ := key r.length 0 FU (by omega) (FU_lt (by omega))
  have q : f_M_isLetters_b FU m (nI 0) (nI 0) M1 = _ := q
  rw [q]
  by_cases c : r = wLe
  · rw [if_pos c]
    rw [c] at h2
    refine ⟨M2, f1.trans f2, Or.inl ⟨c, ?_, h2⟩⟩
    simp (disch := omega) only [f_M_isLetters_c, e3, zk_1, bI_s, bV_s, bL_s, bR_s, bG_s, bG_n, bX_l, bX_r, ck_nI, nI_clamp, nI_leT, nI_leF, nI_ltT, nI_ltF, nI_eqF, nI_add, pk_mul, ofN, bt_e, or0, Nat.zero_add, Nat.add_zero, ↓reduceIte, if_true, if_false, Bool.false_eq_true, eq_self, li0, li1, li2, li3, li4, li5, li6, li7, li8, li9, li10, li11, li12, li14, li15, li16, li18, li19, li20, li23, li24, li25, li26, li27, li30, li31, li32, li36, li40, li41, li42, li43, li44, li45, li47, li48, li57, li59, li60, li91, li93, li96, li97, li100, li105, li122, li150, li200, li255, li400, li500, li600, li999, li1000, li1001, li2000, li2001, li2002, li2003, li2004, li2005, li2006, li32767, li100000, li_neg, li13, li17, li21, li22, li28, li29, li33, li34, li35, li37, li38, li39, li46, li49, li50, li51, li52, li53, li63, li80, li115, li160]
  · rw [if_neg c]
    refine ⟨M1, f1, Or.inr ⟨c, ?_, h1⟩⟩
    simp (disch := omega) only [f_M_isLetters_c, zk_0, bI_s, bV_s, bL_s, bR_s, bG_s, bG_n, bX_l, bX_r, ck_nI, nI_clamp, nI_leT, nI_leF, nI_ltT, nI_ltF, nI_eqF, nI_add, pk_mul, ofN, bt_e, or0, Nat.zero_add, Nat.add_zero, ↓reduceIte, if_true, if_false, Bool.false_eq_true, eq_self, li0, li1, li2, li3, li4, li5, li6, li7, li8, li9, li10, li11, li12, li14, li15, li16, li18, li19, li20, li23, li24, li25, li26, li27, li30, li31, li32, li36, li40, li41, li42, li43, li44, li45, li47, li48, li57, li59, li60, li91, li93, li96, li97, li100, li105, li122, li150, li200, li255, li400, li500, li600, li999, li1000, li1001, li2000, li2001, li2002, li2003, li2004, li2005, li2006, li32767, li100000, li_neg, li13, li17, li21, li22, li28, li29, li33, li34, li35, li37, li38, li39, li46, li49, li50, li51, li52, li53, li63, li80, li115, li160]
theorem M_lettersF (h : MTp M m T E a k f) (hk : k ≠ 0) : f_M_isLetters m M = some (nI 0, M) := by
  have hE := h.2.2.1
  have e := h.1.2.2.1
  simp (disch := omega) only [f_M_isLetters, e, bI_s, bV_s, bL_s, bR_s, bG_s, bG_n, bX_l, bX_r, ck_nI, nI_clamp, nI_leT, nI_leF, nI_ltT, nI_ltF, nI_eqF, nI_add, pk_mul, ofN, bt_e, or0, Nat.zero_add, Nat.add_zero, ↓reduceIte, if_true, if_false, Bool.false_eq_true, eq_self, li0, li1, li2, li3, li4, li5, li6, li7, li8, li9, li10, li11, li12, li14, li15, li16, li18, li19, li20, li23, li24, li25, li26, li27, li30, li31, li32, li36, li40, li41, li42, li43, li44, li45, li47, li48, li57, li59, li60, li91, li93, li96, li97, li100, li105, li122, li150, li200, li255, li400, li500, li600, li999, li1000, li1001, li2000, li2001, li2002, li2003, li2004, li2005, li2006, li32767, li100000, li_neg, li13, li17, li21, li22, li28, li29, li33, li34, li35, li37, li38, li39, li46, li49, li50, li51, li52, li53, li63, li80, li115, li160]
theorem C_comes (h : CTp M t T E a 0 f) : ∃ M', f_Tape_comesNumber t M = some (nI (if sk T E a < E ∧ isDg (T (sk T E a)) = true then 1 else 0), M') ∧ FX (tD t) M M' ∧ CTp M' t T E (sk T E a) 0 f := by
  have hE := h.2.2.1
  have hk := h.1.2.2.1
  have hs := sk_b (T := T) hE.1
  obtain ⟨M1, e1, f1, n1⟩ := C_next h
  have a1 := n1.1.1
  have a2 := n1.1.2.1
  refine ⟨M1, ?_, f1, n1⟩
  by_cases q : sk T E a < E
  · have a3 := n1.2.1 _ q
    have a4 := n1.2.2.2 _ q
    by_cases c : isDg (T (sk T E a)) = true
    · rw [if_pos ⟨q, c⟩]; simp (disch := omega) only [f_Tape_comesNumber, hk, e1, a1, a2, a3, C_dgT c, bI_s, bV_s, bL_s, bR_s, bG_s, bG_n, bX_l, bX_r, ck_nI, nI_clamp, nI_leT, nI_leF, nI_ltT, nI_ltF, nI_eqF, nI_add, pk_mul, ofN, bt_e, or0, Nat.zero_add, Nat.add_zero, ↓reduceIte, if_true, if_false, Bool.false_eq_true, eq_self, li0, li1, li2, li3, li4, li5, li6, li7, li8, li9, li10, li11, li12, li14, li15, li16, li18, li19, li20, li23, li24, li25, li26, li27, li30, li31, li32, li36, li40, li41, li42, li43, li44, li45, li47, li48, li57, li59, li60, li91, li93, li96, li97, li100, li105, li122, li150, li200, li255, li400, li500, li600, li999, li1000, li1001, li2000, li2001, li2002, li2003, li2004, li2005, li2006, li32767, li100000, li_neg, li13, li17, li21, li22, li28, li29, li33, li34, li35, li37, li38, li39, li46, li49, li50, li51, li52, li53, li63, li80, li115, li160]
    · rw [if_neg (fun z => c z.2)]; simp (disch := omega) only [f_Tape_comesNumber, hk, e1, a1, a2, a3, C_dgF c a4, bI_s, bV_s, bL_s, bR_s, bG_s, bG_n, bX_l, bX_r, ck_nI, nI_clamp, nI_leT, nI_leF, nI_ltT, nI_ltF, nI_eqF, nI_add, pk_mul, ofN, bt_e, or0, Nat.zero_add, Nat.add_zero, ↓reduceIte, if_true, if_false, Bool.false_eq_true, eq_self, li0, li1, li2, li3, li4, li5, li6, li7, li8, li9, li10, li11, li12, li14, li15, li16, li18, li19, li20, li23, li24, li25, li26, li27, li30, li31, li32, li36, li40, li41, li42, li43, li44, li45, li47, li48, li57, li59, li60, li91, li93, li96, li97, li100, li105, li122, li150, li200, li255, li400, li500, li600, li999, li1000, li1001, li2000, li2001, li2002, li2003, li2004, li2005, li2006, li32767, li100000, li_neg, li13, li17, li21, li22, li28, li29, li33, li34, li35, li37, li38, li39, li46, li49, li50, li51, li52, li53, li63, li80, li115, li160]
  · rw [if_neg (fun z => q z.1)]; simp (disch := omega) only [f_Tape_comesNumber, hk, e1, a1, bI_s, bV_s, bL_s, bR_s, bG_s, bG_n, bX_l, bX_r, ck_nI, nI_clamp, nI_leT, nI_leF, nI_ltT, nI_ltF, nI_eqF, nI_add, pk_mul, ofN, bt_e, or0, Nat.zero_add, Nat.add_zero, ↓reduceIte, if_true, if_false, Bool.false_eq_true, eq_self, li0, li1, li2, li3, li4, li5, li6, li7, li8, li9, li10, li11, li12, li14, li15, li16, li18, li19, li20, li23, li24, li25, li26, li27, li30, li31, li32, li36, li40, li41, li42, li43, li44, li45, li47, li48, li57, li59, li60, li91, li93, li96, li97, li100, li105, li122, li150, li200, li255, li400, li500, li600, li999, li1000, li1001, li2000, li2001, li2002, li2003, li2004, li2005, li2006, li32767, li100000, li_neg, li13, li17, li21, li22, li28, li29, li33, li34, li35, li37, li38, li39, li46, li49, li50, li51, li52, li53, li63, li80, li115, li160]
theorem C_comesF (h : CTp M t T E a k f) (hk : k ≠ 0) : f_Tape_comesNumber t M = some (nI 0, M) := by
  have hE := h.2.2.1
  have e := h.1.2.2.1
  simp (disch := omega) only [f_Tape_comesNumber, e, bI_s, bV_s, bL_s, bR_s, bG_s, bG_n, bX_l, bX_r, ck_nI, nI_clamp, nI_leT, nI_leF, nI_ltT, nI_ltF, nI_eqF, nI_add, pk_mul, ofN, bt_e, or0, Nat.zero_add, Nat.add_zero, ↓reduceIte, if_true, if_false, Bool.false_eq_true, eq_self, li0, li1, li2, li3, li4, li5, li6, li7, li8, li9, li10, li11, li12, li14, li15, li16, li18, li19, li20, li23, li24, li25, li26, li27, li30, li31, li32, li36, li40, li41, li42, li43, li44, li45, li47, li48, li57, li59, li60, li91, li93, li96, li97, li100, li105, li122, li150, li200, li255, li400, li500, li600, li999, li1000, li1001, li2000, li2001, li2002, li2003, li2004, li2005, li2006, li32767, li100000, li_neg, li13, li17, li21, li22, li28, li29, li33, li34, li35, li37, li38, li39, li46, li49, li50, li51, li52, li53, li63, li80, li115, li160]
end
