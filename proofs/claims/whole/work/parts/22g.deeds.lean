/-! # functional level, 42: deeds agrees -/
section
variable {M M' M1 M2 N : Mm} {o t m E a k f : Nat} {T : Nat → Nat} {S : St}
theorem M_layr {q0 q1 n L : Nat} (hn : n ≤ L) (hL : L ≤ 160) (hd : q0 + L < q1 + 1 ∨ q1 + L < q0 + 1) (N : Mm) : ∃ N', f_M_lays q0 L q1 L (nI n) N = some N' ∧ FX (fun a _ => q1 + 1 ≤ a ∧ a < q1 + 1 + n) N N' ∧ ∀ k, k < n → gI N' (q1 + 1 + k) 0 = gI N (q0 + 1 + k) 0 ∧ gI N' (q1 + 1 + k) 1 = gI N (q0 + 1 + k) 1 := by
  refine lp_inv (fun w i (N1 : Mm) => f_M_lays_b w q0 L q1 L (nI n) (nI i) N1) n (fun i N1 => FX (fun a _ => q1 + 1 ≤ a ∧ a < q1 + 1 + n) N N1 ∧ ∀ k, k < i → gI N1 (q1 + 1 + k) 0 = gI N (q0 + 1 + k) 0 ∧ gI N1 (q1 + 1 + k) 1 = gI N (q0 + 1 + k) 1) (fun N1 => FX (fun a _ => q1 + 1 ≤ a ∧ a < q1 + 1 + n) N N1 ∧ ∀ k, k < n → gI N1 (q1 + 1 + k) 0 = gI N (q0 + 1 + k) 0 ∧ gI N1 (q1 + 1 + k) 1 = gI N (q0 + 1 + k) 1) ?_ ?_ 0 (by omega) N ⟨FX.rf _ N, fun k h => by omega⟩ FU (FU_lt (by omega))
  · intro w i N1 hi h
    left
    have r0 : gI N1 (q0 + 1 + i) 0 = gI N (q0 + 1 + i) 0 := h.1.2.1 _ _ (by omega)
    have r1 : gI N1 (q0 + 1 + i) 1 = gI N (q0 + 1 + i) 1 := h.1.2.1 _ _ (by omega)
    refine ⟨sI (sI N1 (q1 + 1 + i) 0 (gI N (q0 + 1 + i) 0)) (q1 + 1 + i) 1 (gI N (q0 + 1 + i) 1), ?_, (h.1.sI (by omega)).sI (by omega), fun k hk => ?_⟩
    · have key : ∀ u, f_M_lays_c (f_M_lays_b w) (u + 1 + 1 + 1) q0 L q1 L (nI n) (nI i) (nI 0) N1 = f_M_lays_b w q0 L q1 L (nI n) (nI (i + 1)) (sI (sI N1 (q1 + 1 + i) 0 (gI N (q0 + 1 + i) 0)) (q1 + 1 + i) 1 (gI N (q0 + 1 + i) 1)) := by
        intro u
        have o2 : Int32.ofNat 2 = nI 2 := rfl
        have z1 : gI (sI N1 (q1 + 1 + i) 0 (gI N (q0 + 1 + i) 0)) (q0 + 1 + i) 1 = gI N (q0 + 1 + i) 1 := by rw [gI_ne (Or.inr (by omega))]; exact r1
        simp (disch := omega) only [f_M_lays_c, r0, z1, o2, bI_s, bV_s, bL_s, bR_s, bG_s, bG_n, bX_l, bX_r, ck_nI, nI_clamp, nI_leT, nI_leF, nI_ltT, nI_ltF, nI_eqF, nI_add, pk_mul, ofN, bt_e, or0, Nat.zero_add, Nat.add_zero, ↓reduceIte, if_true, if_false, Bool.false_eq_true, eq_self, li0, li1, li2, li3, li4, li5, li6, li7, li8, li9, li10, li11, li12, li14, li15, li16, li18, li19, li20, li23, li24, li25, li26, li27, li30, li31, li32, li36, li40, li41, li42, li43, li44, li45, li47, li48, li57, li59, li60, li91, li93, li96, li97, li100, li105, li122, li150, li200, li255, li400, li500, li600, li999, li1000, li1001, li2000, li2001, li2002, li2003, li2004, li2005, li2006, li32767, li100000, li_neg, li13, li17, li21, li22, li28, li29, li33, li34, li35, li37, li38, li39, li46, li49, li50, li51, li52, li53, li63, li80, li115, li160]
      have e1 : f_M_lays_b (w + 1) q0 L q1 L (nI n) (nI i) N1 = f_M_lays_c (f_M_lays_b w) FU q0 L q1 L (nI n) (nI i) (nI 0) N1 := by
        simp (disch := omega) only [f_M_lays_b, bI_s, bV_s, bL_s, bR_s, bG_s, bG_n, bX_l, bX_r, ck_nI, nI_clamp, nI_leT, nI_leF, nI_ltT, nI_ltF, nI_eqF, nI_add, pk_mul, ofN, bt_e, or0, Nat.zero_add, Nat.add_zero, ↓reduceIte, if_true, if_false, Bool.false_eq_true, eq_self, li0, li1, li2, li3, li4, li5, li6, li7, li8, li9, li10, li11, li12, li14, li15, li16, li18, li19, li20, li23, li24, li25, li26, li27, li30, li31, li32, li36, li40, li41, li42, li43, li44, li45, li47, li48, li57, li59, li60, li91, li93, li96, li97, li100, li105, li122, li150, li200, li255, li400, li500, li600, li999, li1000, li1001, li2000, li2001, li2002, li2003, li2004, li2005, li2006, li32767, li100000, li_neg, li13, li17, li21, li22, li28, li29, li33, li34, li35, li37, li38, li39, li46, li49, li50, li51, li52, li53, li63, li80, li115, li160]
      have ef : FU = 9997 + 1 + 1 + 1 := rfl
      show f_M_lays_b (w + 1) q0 L q1 L (nI n) (nI i) N1 = _
      rw [e1, ef]; exact key 9997
    · by_cases q : k = i
      · rw [q, gI_same, gI_ne (Or.inr (by omega)), gI_same]; exact ⟨rfl, rfl⟩
      · rw [gI_ne (Or.inl (by omega)), gI_ne (Or.inl (by omega)), gI_ne (Or.inl (by omega)), gI_ne (Or.inl (by omega))]
        exact h.2 k (by omega)
  · intro w N1 h
    refine ⟨N1, ?_, h⟩
    simp (disch := omega) only [f_M_lays_b, bI_s, bV_s, bL_s, bR_s, bG_s, bG_n, bX_l, bX_r, ck_nI, nI_clamp, nI_leT, nI_leF, nI_ltT, nI_ltF, nI_eqF, nI_add, pk_mul, ofN, bt_e, or0, Nat.zero_add, Nat.add_zero, ↓reduceIte, if_true, if_false, Bool.false_eq_true, eq_self, li0, li1, li2, li3, li4, li5, li6, li7, li8, li9, li10, li11, li12, li14, li15, li16, li18, li19, li20, li23, li24, li25, li26, li27, li30, li31, li32, li36, li40, li41, li42, li43, li44, li45, li47, li48, li57, li59, li60, li91, li93, li96, li97, li100, li105, li122, li150, li200, li255, li400, li500, li600, li999, li1000, li1001, li2000, li2001, li2002, li2003, li2004, li2005, li2006, li32767, li100000, li_neg, li13, li17, li21, li22, li28, li29, li33, li34, li35, li37, li38, li39, li46, li49, li50, li51, li52, li53, li63, li80, li115, li160]
/-- the model starts to read -/
theorem M_starts {j : Nat} (hj : j ≤ 600) (hb : ∀ i, i < j → gI N (m + 1) i = nI (T i)) (hT : ∀ i, i < j → T i < 256) : ∃ N', f_M_starts m (nI j) N = some N' ∧ FX (fun a k => a = m ∧ (k = 1 ∨ k = 2 ∨ (4 ≤ k ∧ k ≤ 8))) N N' ∧ gI N' m 1 = nI 0 ∧ (gI N' m 7 = nI 0 ∧ gI N' m 8 = nI 0) ∧ MTp N' m T j (sk T j 0) 0 4294967295 := by
  have h0 : MTp (sI (sI (sI (sI (sI (sI (sI N m 1 (nI 0)) m 2 (nI j)) m 4 (nI 0)) m 5 (nI 0)) m 6 (nI 4294967295)) m 7 (nI 0)) m 8 (nI 0)) m T j 0 0 4294967295 := by
    refine ⟨⟨?_, ?_, ?_, ?_⟩, fun i hi => ?_, ⟨by omega, hj, by omega⟩, hT⟩
    · simp (disch := omega) only [gI_same, gI_ne, gI_eq2, gR_sI, gL_sI, gI_sL, gR_sL, gI_sR, gL_sR]
    · simp (disch := omega) only [gI_same, gI_ne, gI_eq2, gR_sI, gL_sI, gI_sL, gR_sL, gI_sR, gL_sR]
    · simp (disch := omega) only [gI_same, gI_ne, gI_eq2, gR_sI, gL_sI, gI_sL, gR_sL, gI_sR, gL_sR]
    · simp (disch := omega) only [gI_same, gI_ne, gI_eq2, gR_sI, gL_sI, gI_sL, gR_sL, gI_sR, gL_sR]
    · simp (disch := omega) only [gI_same, gI_ne, gI_eq2, gR_sI, gL_sI, gI_sL, gR_sL, gI_sR, gL_sR]; exact hb i hi
  obtain ⟨N', e, f, h⟩ := M_blanks h0
  refine ⟨N', ?_, FX.trans (M1 := sI (sI (sI (sI (sI (sI (sI N m 1 (nI 0)) m 2 (nI j)) m 4 (nI 0)) m 5 (nI 0)) m 6 (nI 4294967295)) m 7 (nI 0)) m 8 (nI 0)) ?_ (f.mono (fun a k q => by unfold uD at q; omega)), ?_, ⟨?_, ?_⟩, h⟩
  · simp (disch := omega) only [f_M_starts, e, bI_s, bV_s, bL_s, bR_s, bG_s, bG_n, bX_l, bX_r, ck_nI, nI_clamp, nI_leT, nI_leF, nI_ltT, nI_ltF, nI_eqF, nI_add, pk_mul, ofN, bt_e, or0, Nat.zero_add, Nat.add_zero, ↓reduceIte, if_true, if_false, Bool.false_eq_true, eq_self, li0, li1, li2, li3, li4, li5, li6, li7, li8, li9, li10, li11, li12, li14, li15, li16, li18, li19, li20, li23, li24, li25, li26, li27, li30, li31, li32, li36, li40, li41, li42, li43, li44, li45, li47, li48, li57, li59, li60, li91, li93, li96, li97, li100, li105, li122, li150, li200, li255, li400, li500, li600, li999, li1000, li1001, li2000, li2001, li2002, li2003, li2004, li2005, li2006, li32767, li100000, li_neg, li13, li17, li21, li22, li28, li29, li33, li34, li35, li37, li38, li39, li46, li49, li50, li51, li52, li53, li63, li80, li115, li160]
  · exact (((((((FX.rf _ N).sI (by omega)).sI (by omega)).sI (by omega)).sI (by omega)).sI (by omega)).sI (by omega)).sI (by omega)
  · rw [f.2.1 _ _ (by unfold uD; omega)]; simp (disch := omega) only [gI_same, gI_ne, gI_eq2, gR_sI, gL_sI, gI_sL, gR_sL, gI_sR, gL_sR]
  · rw [f.2.1 _ _ (by unfold uD; omega)]; simp (disch := omega) only [gI_same, gI_ne, gI_eq2, gR_sI, gL_sI, gI_sL, gR_sL, gI_sR, gL_sR]
  · rw [f.2.1 _ _ (by unfold uD; omega)]; simp (disch := omega) only [gI_same, gI_ne, gI_eq2, gR_sI, gL_sI, gI_sL, gR_sL, gI_sR, gL_sR]
/-- the class opens its tape -/
theorem C_open {j : Nat} (hj : j ≤ 600) (hb : ∀ i, i < j → gI N (t + 1) i = nI (T i)) (hT : ∀ i, i < j → T i < 256) : ∃ N', f_Tape_open t (nI j) N = some N' ∧ FX (fun a k => a = t ∧ (1 ≤ k ∧ k ≤ 5)) N N' ∧ gI N' t 1 = nI 0 ∧ CTp N' t T j 0 0 4294967295 := by
  have o6 : Int32.ofNat 600 = nI 600 := rfl
  have hm : min j 600 = j := by omega
  refine ⟨sI (sI (sI (sI (sI N t 2 (nI j)) t 1 (nI 0)) t 3 (nI 0)) t 4 (nI 0)) t 5 (nI 4294967295), ?_, (((((FX.rf _ N).sI (by omega)).sI (by omega)).sI (by omega)).sI (by omega)).sI (by omega), ?_, ⟨?_, ?_, ?_, ?_⟩, fun i hi => ?_, ⟨by omega, hj, by omega⟩, hT⟩
  · simp (disch := omega) only [f_Tape_open, o6, mnI_n, hm, bI_s, bV_s, bL_s, bR_s, bG_s, bG_n, bX_l, bX_r, ck_nI, nI_clamp, nI_leT, nI_leF, nI_ltT, nI_ltF, nI_eqF, nI_add, pk_mul, ofN, bt_e, or0, Nat.zero_add, Nat.add_zero, ↓reduceIte, if_true, if_false, Bool.false_eq_true, eq_self, li0, li1, li2, li3, li4, li5, li6, li7, li8, li9, li10, li11, li12, li14, li15, li16, li18, li19, li20, li23, li24, li25, li26, li27, li30, li31, li32, li36, li40, li41, li42, li43, li44, li45, li47, li48, li57, li59, li60, li91, li93, li96, li97, li100, li105, li122, li150, li200, li255, li400, li500, li600, li999, li1000, li1001, li2000, li2001, li2002, li2003, li2004, li2005, li2006, li32767, li100000, li_neg, li13, li17, li21, li22, li28, li29, li33, li34, li35, li37, li38, li39, li46, li49, li50, li51, li52, li53, li63, li80, li115, li160]
  · simp (disch := omega) only [gI_same, gI_ne, gI_eq2, gR_sI, gL_sI, gI_sL, gR_sL, gI_sR, gL_sR]
  · simp (disch := omega) only [gI_same, gI_ne, gI_eq2, gR_sI, gL_sI, gI_sL, gR_sL, gI_sR, gL_sR]
  · simp (disch := omega) only [gI_same, gI_ne, gI_eq2, gR_sI, gL_sI, gI_sL, gR_sL, gI_sR, gL_sR]
  · simp (disch := omega) only [gI_same, gI_ne, gI_eq2, gR_sI, gL_sI, gI_sL, gR_sL, gI_sR, gL_sR]
  · simp (disch := omega) only [gI_same, gI_ne, gI_eq2, gR_sI, gL_sI, gI_sL, gR_sL, gI_sR, gL_sR]
  · simp (disch := omega) only [gI_same, gI_ne, gI_eq2, gR_sI, gL_sI, gI_sL, gR_sL, gI_sR, gL_sR]; exact hb i hi
end
