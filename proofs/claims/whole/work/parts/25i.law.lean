/-! # functional level, 72: the model reads a law, products and sums -/
section
variable {M M' M1 M2 N : Mm} {m E a k f n c e op w : Nat} {T : Nat → Nat} {L : Nat → Nat} {ρ : Nat → Mm → Option Mm} {ρ' : Nat → Nat → (Nat → Nat) → Ou} {p0 : Int32}
theorem M_pstep (w : Nat) (h : MTp M m T E a 0 4294967295) : ∃ M', FX (uD m) M M' ∧ ((opA T E oP1 a = 0 ∧ f_M_product_b ρ (w + 1) m M = some M' ∧ MTp M' m T E (sk T E a) 0 4294967295) ∨ (opA T E oP1 a ≠ 0 ∧ f_M_product_b ρ (w + 1) m M = bV (f_M_one ρ m M') (fun M1 => bV (f_M_notes m (nI (lk (opA T E oP1 a))) (nI 0) M1) (fun M3 => f_M_product_b ρ w m M3)) ∧ MTp M' m T E (sk T E a + 1) 0 4294967295)) := by
  have ha := h.2.2.1.1
  have hi := sk_i (T := T) ha
  have k5 := h.1.2.2.1
  have ls : lk 2002 = 4 ∧ lk 2003 = 5 ∧ lk 2004 = 6 := by decide
  by_cases c1 : sk T E a < E ∧ T (sk T E a) = 42
  · obtain ⟨M1, e1, f1, g1⟩ := M_takeY h c1.1 c1.2
    have eo : opA T E oP1 a = 2002 := opA_i c1.1 c1.2
    rw [eo, ls.1]
    refine ⟨M1, f1, Or.inr ⟨by omega, ?_, g1⟩⟩
    simp (disch := omega) only [f_M_product_b, f_M_product_c, k5, e1, bI_s, bV_s, bL_s, bR_s, bG_s, bG_n, bX_l, bX_r, ck_nI, nI_clamp, nI_leT, nI_leF, nI_ltT, nI_ltF, nI_eqF, nI_add, pk_mul, ofN, bt_e, or0, Nat.zero_add, Nat.add_zero, ↓reduceIte, if_true, if_false, Bool.false_eq_true, eq_self, li0, li1, li2, li3, li4, li5, li6, li7, li8, li9, li10, li11, li12, li14, li15, li16, li18, li19, li20, li23, li24, li25, li26, li27, li30, li31, li32, li36, li40, li41, li42, li43, li44, li45, li47, li48, li57, li59, li60, li91, li93, li96, li97, li100, li105, li122, li150, li200, li255, li400, li500, li600, li999, li1000, li1001, li2000, li2001, li2002, li2003, li2004, li2005, li2006, li32767, li100000, li_neg, li13, li17, li21, li22, li28, li29, li33, li34, li35, li37, li38, li39, li46, li49, li50, li51, li52, li53, li63, li80, li115, li160]
  · obtain ⟨M1, e1, f1, g1⟩ := M_takeN h (by omega) c1
    by_cases c2 : sk T E a < E ∧ T (sk T E a) = 47
    · obtain ⟨M2, e2, f2, g2⟩ := M_takeY (c := 47) g1 (by rw [hi]; exact c2.1) (by rw [hi]; exact c2.2)
      rw [hi] at g2
      have eo : opA T E oP1 a = 2003 := opA_i c2.1 c2.2
      rw [eo, ls.2.1]
      refine ⟨M2, f1.trans f2, Or.inr ⟨by omega, ?_, g2⟩⟩
      simp (disch := omega) only [f_M_product_b, f_M_product_c, k5, e1, e2, bI_s, bV_s, bL_s, bR_s, bG_s, bG_n, bX_l, bX_r, ck_nI, nI_clamp, nI_leT, nI_leF, nI_ltT, nI_ltF, nI_eqF, nI_add, pk_mul, ofN, bt_e, or0, Nat.zero_add, Nat.add_zero, ↓reduceIte, if_true, if_false, Bool.false_eq_true, eq_self, li0, li1, li2, li3, li4, li5, li6, li7, li8, li9, li10, li11, li12, li14, li15, li16, li18, li19, li20, li23, li24, li25, li26, li27, li30, li31, li32, li36, li40, li41, li42, li43, li44, li45, li47, li48, li57, li59, li60, li91, li93, li96, li97, li100, li105, li122, li150, li200, li255, li400, li500, li600, li999, li1000, li1001, li2000, li2001, li2002, li2003, li2004, li2005, li2006, li32767, li100000, li_neg, li13, li17, li21, li22, li28, li29, li33, li34, li35, li37, li38, li39, li46, li49, li50, li51, li52, li53, li63, li80, li115, li160]
    · obtain ⟨M2, e2, f2, g2⟩ := M_takeN (c := 47) g1 (by omega) (by rw [hi]; exact c2)
      rw [hi] at g2
      by_cases c3 : sk T E a < E ∧ T (sk T E a) = 37
      · obtain ⟨M3, e3, f3, g3⟩ := M_takeY (c := 37) g2 (by rw [hi]; exact c3.1) (by rw [hi]; exact c3.2)
        rw [hi] at g3
        have eo : opA T E oP1 a = 2004 := opA_i c3.1 c3.2
        rw [eo, ls.2.2]
        refine ⟨M3, (f1.trans f2).trans f3, Or.inr ⟨by omega, ?_, g3⟩⟩
        simp (disch := omega) only [f_M_product_b, f_M_product_c, k5, e1, e2, e3, bI_s, bV_s, bL_s, bR_s, bG_s, bG_n, bX_l, bX_r, ck_nI, nI_clamp, nI_leT, nI_leF, nI_ltT, nI_ltF, nI_eqF, nI_add, pk_mul, ofN, bt_e, or0, Nat.zero_add, Nat.add_zero, ↓reduceIte, if_true, if_false, Bool.false_eq_true, eq_self, li0, li1, li2, li3, li4, li5, li6, li7, li8, li9, li10, li11, li12, li14, li15, li16, li18, li19, li20, li23, li24, li25, li26, li27, li30, li31, li32, li36, li40, li41, li42, li43, li44, li45, li47, li48, li57, li59, li60, li91, li93, li96, li97, li100, li105, li122, li150, li200, li255, li400, li500, li600, li999, li1000, li1001, li2000, li2001, li2002, li2003, li2004, li2005, li2006, li32767, li100000, li_neg, li13, li17, li21, li22, li28, li29, li33, li34, li35, li37, li38, li39, li46, li49, li50, li51, li52, li53, li63, li80, li115, li160]
      · obtain ⟨M3, e3, f3, g3⟩ := M_takeN (c := 37) g2 (by omega) (by rw [hi]; exact c3)
        rw [hi] at g3
        have eo : opA T E oP1 a = 0 := by
          unfold opA
          by_cases q : sk T E a < E
          · rw [if_pos q]
            unfold oP1
            rw [if_neg (fun z => c1 ⟨q, z⟩), if_neg (fun z => c2 ⟨q, z⟩), if_neg (fun z => c3 ⟨q, z⟩)]
          · exact if_neg q
        refine ⟨M3, (f1.trans f2).trans f3, Or.inl ⟨eo, ?_, g3⟩⟩
        simp (disch := omega) only [f_M_product_b, f_M_product_c, k5, e1, e2, e3, bI_s, bV_s, bL_s, bR_s, bG_s, bG_n, bX_l, bX_r, ck_nI, nI_clamp, nI_leT, nI_leF, nI_ltT, nI_ltF, nI_eqF, nI_add, pk_mul, ofN, bt_e, or0, Nat.zero_add, Nat.add_zero, ↓reduceIte, if_true, if_false, Bool.false_eq_true, eq_self, li0, li1, li2, li3, li4, li5, li6, li7, li8, li9, li10, li11, li12, li14, li15, li16, li18, li19, li20, li23, li24, li25, li26, li27, li30, li31, li32, li36, li40, li41, li42, li43, li44, li45, li47, li48, li57, li59, li60, li91, li93, li96, li97, li100, li105, li122, li150, li200, li255, li400, li500, li600, li999, li1000, li1001, li2000, li2001, li2002, li2003, li2004, li2005, li2006, li32767, li100000, li_neg, li13, li17, li21, li22, li28, li29, li33, li34, li35, li37, li38, li39, li46, li49, li50, li51, li52, li53, li63, li80, li115, li160]
theorem M_pfault (w : Nat) (hk : k ≠ 0) (h : MTp M m T E a k f) : f_M_product_b ρ (w + 1) m M = some M := by
  have e := h.1.2.2.1
  have hk3 := h.2.2.1
  simp (disch := omega) only [f_M_product_b, e, bI_s, bV_s, bL_s, bR_s, bG_s, bG_n, bX_l, bX_r, ck_nI, nI_clamp, nI_leT, nI_leF, nI_ltT, nI_ltF, nI_eqF, nI_add, pk_mul, ofN, bt_e, or0, Nat.zero_add, Nat.add_zero, ↓reduceIte, if_true, if_false, Bool.false_eq_true, eq_self, li0, li1, li2, li3, li4, li5, li6, li7, li8, li9, li10, li11, li12, li14, li15, li16, li18, li19, li20, li23, li24, li25, li26, li27, li30, li31, li32, li36, li40, li41, li42, li43, li44, li45, li47, li48, li57, li59, li60, li91, li93, li96, li97, li100, li105, li122, li150, li200, li255, li400, li500, li600, li999, li1000, li1001, li2000, li2001, li2002, li2003, li2004, li2005, li2006, li32767, li100000, li_neg, li13, li17, li21, li22, li28, li29, li33, li34, li35, li37, li38, li39, li46, li49, li50, li51, li52, li53, li63, li80, li115, li160]
theorem RM_product (hE : E ≤ 150) (hT : ∀ i, i < E → T i < 256) (hop : op ≤ 6) (hρ : op < 6 → RM m T E (op + 1) (op + 1) (ρ m) ρ') (hg : op < 6 → ∀ a n L, a ≤ E → gO E 1 1 a n L (ρ' a n L)) : RM m T E op op (f_M_product ρ m) (uP ρ' T E op) := by
  have hu := RM_one hE hop hρ hg
  have hug : ∀ a n L, a ≤ E → gO E 1 1 a n L (uU ρ' T E op a n L) := fun a n L ha => uU_g hT hg ha
  have hl : RM m T E op op (fun M1 => f_M_product_b ρ FU m M1) (lpO T E oP1 (uU ρ' T E op) (E + 1)) := by
    refine ⟨fun M a n L h1 h2 h3 h4 => ?_, fun M a k f hk h1 => ?_⟩
    · exact M_loop (H := fun w M => f_M_product_b ρ w m M) hE hu hug oP1_r (fun w M a h => M_pstep w h) (fun w M a k f hk h => M_pfault w hk h) (E + 1) a n L FU M h1 h2 h3 h4 (by omega) (FU_lt (by omega))
    · exact ⟨M, M_pfault 9999 hk h1, FX.rf _ M, h1⟩
  exact RM_bind hu hl (fun a n L ha hn h0 => by have := (hug a n L ha h0).1; omega)
theorem M_sstep (w : Nat) (h : MTp M m T E a 0 4294967295) : ∃ M', FX (uD m) M M' ∧ ((opA T E oS1 a = 0 ∧ f_M_sum_b ρ (w + 1) m M = some M' ∧ MTp M' m T E (sk T E a) 0 4294967295) ∨ (opA T E oS1 a ≠ 0 ∧ f_M_sum_b ρ (w + 1) m M = bV (f_M_product ρ m M') (fun M1 => bV (f_M_notes m (nI (lk (opA T E oS1 a))) (nI 0) M1) (fun M3 => f_M_sum_b ρ w m M3)) ∧ MTp M' m T E (sk T E a + 1) 0 4294967295)) := by
  have ha := h.2.2.1.1
  have hi := sk_i (T := T) ha
  have k5 := h.1.2.2.1
  have ls : lk 2000 = 2 ∧ lk 2001 = 3 := by decide
  by_cases c1 : sk T E a < E ∧ T (sk T E a) = 43
  · obtain ⟨M1, e1, f1, g1⟩ := M_takeY h c1.1 c1.2
    have eo : opA T E oS1 a = 2000 := opA_i c1.1 c1.2
    rw [eo, ls.1]
    refine ⟨M1, f1, Or.inr ⟨by omega, ?_, g1⟩⟩
    simp (disch := omega) only [f_M_sum_b, f_M_sum_c, k5, e1, bI_s, bV_s, bL_s, bR_s, bG_s, bG_n, bX_l, bX_r, ck_nI, nI_clamp, nI_leT, nI_leF, nI_ltT, nI_ltF, nI_eqF, nI_add, pk_mul, ofN, bt_e, or0, Nat.zero_add, Nat.add_zero, ↓reduceIte, if_true, if_false, Bool.false_eq_true, eq_self, li0, li1, li2, li3, li4, li5, li6, li7, li8, li9, li10, li11, li12, li14, li15, li16, li18, li19, li20, li23, li24, li25, li26, li27, li30, li31, li32, li36, li40, li41, li42, li43, li44, li45, li47, li48, li57, li59, li60, li91, li93, li96, li97, li100, li105, li122, li150, li200, li255, li400, li500, li600, li999, li1000, li1001, li2000, li2001, li2002, li2003, li2004, li2005, li2006, li32767, li100000, li_neg, li13, li17, li21, li22, li28, li29, li33, li34, li35, li37, li38, li39, li46, li49, li50, li51, li52, li53, li63, li80, li115, li160]
  · obtain ⟨M1, e1, f1, g1⟩ := M_takeN h (by omega) c1
    by_cases c2 : sk T E a < E ∧ T (sk T E a) = 45
    · obtain ⟨M2, e2, f2, g2⟩ := M_takeY (c := 45) g1 (by rw [hi]; exact c2.1) (by rw [hi]; exact c2.2)
      rw [hi] at g2
      have eo : opA T E oS1 a = 2001 := opA_i c2.1 c2.2
      rw [eo, ls.2]
      refine ⟨M2, f1.trans f2, Or.inr ⟨by omega, ?_, g2⟩⟩
      simp (disch := omega) only [f_M_sum_b, f_M_sum_c, k5, e1, e2, bI_s, bV_s, bL_s, bR_s, bG_s, bG_n, bX_l, bX_r, ck_nI, nI_clamp, nI_leT, nI_leF, nI_ltT, nI_ltF, nI_eqF, nI_add, pk_mul, ofN, bt_e, or0, Nat.zero_add, Nat.add_zero, ↓reduceIte, if_true, if_false, Bool.false_eq_true, eq_self, li0, li1, li2, li3, li4, li5, li6, li7, li8, li9, li10, li11, li12, li14, li15, li16, li18, li19, li20, li23, li24, li25, li26, li27, li30, li31, li32, li36, li40, li41, li42, li43, li44, li45, li47, li48, li57, li59, li60, li91, li93, li96, li97, li100, li105, li122, li150, li200, li255, li400, li500, li600, li999, li1000, li1001, li2000, li2001, li2002, li2003, li2004, li2005, li2006, li32767, li100000, li_neg, li13, li17, li21, li22, li28, li29, li33, li34, li35, li37, li38, li39, li46, li49, li50, li51, li52, li53, li63, li80, li115, li160]
    · obtain ⟨M2, e2, f2, g2⟩ := M_takeN (c := 45) g1 (by omega) (by rw [hi]; exact c2)
      rw [hi] at g2
      have eo : opA T E oS1 a = 0 := by
        unfold opA
        by_cases q : sk T E a < E
        · rw [if_pos q]
          unfold oS1
          rw [if_neg (fun z => c1 ⟨q, z⟩), if_neg (fun z => c2 ⟨q, z⟩)]
        · exact if_neg q
      refine ⟨M2, f1.trans f2, Or.inl ⟨eo, ?_, g2⟩⟩
      simp (disch := omega) only [f_M_sum_b, f_M_sum_c, k5, e1, e2, bI_s, bV_s, bL_s, bR_s, bG_s, bG_n, bX_l, bX_r, ck_nI, nI_clamp, nI_leT, nI_leF, nI_ltT, nI_ltF, nI_eqF, nI_add, pk_mul, ofN, bt_e, or0, Nat.zero_add, Nat.add_zero, ↓reduceIte, if_true, if_false, Bool.false_eq_true, eq_self, li0, li1, li2, li3, li4, li5, li6, li7, li8, li9, li10, li11, li12, li14, li15, li16, li18, li19, li20, li23, li24, li25, li26, li27, li30, li31, li32, li36, li40, li41, li42, li43, li44, li45, li47, li48, li57, li59, li60, li91, li93, li96, li97, li100, li105, li122, li150, li200, li255, li400, li500, li600, li999, li1000, li1001, li2000, li2001, li2002, li2003, li2004, li2005, li2006, li32767, li100000, li_neg, li13, li17, li21, li22, li28, li29, li33, li34, li35, li37, li38, li39, li46, li49, li50, li51, li52, li53, li63, li80, li115, li160]
theorem M_sfault (w : Nat) (hk : k ≠ 0) (h : MTp M m T E a k f) : f_M_sum_b ρ (w + 1) m M = some M := by
  have e := h.1.2.2.1
  have hk3 := h.2.2.1
  simp (disch := omega) only [f_M_sum_b, e, bI_s, bV_s, bL_s, bR_s, bG_s, bG_n, bX_l, bX_r, ck_nI, nI_clamp, nI_leT, nI_leF, nI_ltT, nI_ltF, nI_eqF, nI_add, pk_mul, ofN, bt_e, or0, Nat.zero_add, Nat.add_zero, ↓reduceIte, if_true, if_false, Bool.false_eq_true, eq_self, li0, li1, li2, li3, li4, li5, li6, li7, li8, li9, li10, li11, li12, li14, li15, li16, li18, li19, li20, li23, li24, li25, li26, li27, li30, li31, li32, li36, li40, li41, li42, li43, li44, li45, li47, li48, li57, li59, li60, li91, li93, li96, li97, li100, li105, li122, li150, li200, li255, li400, li500, li600, li999, li1000, li1001, li2000, li2001, li2002, li2003, li2004, li2005, li2006, li32767, li100000, li_neg, li13, li17, li21, li22, li28, li29, li33, li34, li35, li37, li38, li39, li46, li49, li50, li51, li52, li53, li63, li80, li115, li160]
theorem RM_sum0 (hE : E ≤ 150) (hT : ∀ i, i < E → T i < 256) (hop : op ≤ 6) (hρ : op < 6 → RM m T E (op + 1) (op + 1) (ρ m) ρ') (hg : op < 6 → ∀ a n L, a ≤ E → gO E 1 1 a n L (ρ' a n L)) : RM m T E op op (f_M_sum_0 ρ m) (uS0 ρ' T E op) := by
  have hu := RM_product hE hT hop hρ hg
  have hug : ∀ a n L, a ≤ E → gO E 1 1 a n L (uP ρ' T E op a n L) := fun a n L ha => uP_g hT hg ha
  have hl : RM m T E op op (fun M1 => f_M_sum_b ρ FU m M1) (lpO T E oS1 (uP ρ' T E op) (E + 1)) := by
    refine ⟨fun M a n L h1 h2 h3 h4 => ?_, fun M a k f hk h1 => ?_⟩
    · exact M_loop (H := fun w M => f_M_sum_b ρ w m M) hE hu hug oS1_r (fun w M a h => M_sstep w h) (fun w M a k f hk h => M_sfault w hk h) (E + 1) a n L FU M h1 h2 h3 h4 (by omega) (FU_lt (by omega))
    · exact ⟨M, M_sfault 9999 hk h1, FX.rf _ M, h1⟩
  exact RM_bind hu hl (fun a n L ha hn h0 => by have := (hug a n L ha h0).1; omega)
theorem RM_sum (hE : E ≤ 150) (hT : ∀ i, i < E → T i < 256) : ∀ k op, op ≤ 6 → 7 ≤ k + op → RM m T E op op (f_M_sum k m) (uS T E k op)
  | 0, op => fun h1 h2 => by omega
  | k + 1, op => fun h1 h2 => RM_sum0 hE hT h1 (fun q => RM_sum hE hT k (op + 1) (by omega) (by omega)) (fun _ => uS_g hT k (op + 1))
theorem uU_sk (h : a ≤ E) : uU ρ' T E op (sk T E a) n L = uU ρ' T E op a n L := by
  have e1 : nE T E (sk T E a) = nE T E a := by unfold nE; rw [sk_i h]
  have e2 : nV T E (sk T E a) = nV T E a := by unfold nV; rw [sk_i h]
  unfold uU
  rw [cR_sk h, sk_i h, nK_sk h, e1, e2]
theorem uS_sk (h : a ≤ E) : uS T E (k + 1) op (sk T E a) n L = uS T E (k + 1) op a n L := by
  show bO (bO (uU _ T E op (sk T E a) n L) _) _ = bO (bO (uU _ T E op a n L) _) _
  rw [uU_sk h]
theorem M_lread (hE : E ≤ 150) (h : MTp M m T E (sk T E 0) 0 4294967295) (hp : gI M m 8 = nI 0) : ∃ M6 M8 M', f_M_sum 8 m (sI M m 24 (nI 0)) = some M6 ∧ f_M_blanks m M6 = some M8 ∧ (if gI M8 m 5 = nI 0 then (if gI M8 m 2 ≤ gI M8 m 4 then f_M_law_c m p0 M8 else bV (f_M_wrong m (nI 1) (gI M8 m 4) M8) (fun M10 => f_M_law_c m p0 M10)) else f_M_law_c m p0 M8) = f_M_law_c m p0 M' ∧ FX (kD m) M M' ∧ mL M' m T E 0 (lwz T E) := by
  have hT := h.2.2.2
  have fx : FX (kD m) M (sI M m 24 (nI 0)) := (FX.rf _ M).sI (Or.inr (Or.inl ⟨rfl, Or.inr rfl⟩))
  obtain ⟨M6, e6, f6, r6⟩ := (RM_sum (m := m) hE hT 8 0 (by omega) (by omega)).1 (sI M m 24 (nI 0)) (sk T E 0) 0 (fun _ => 0) (h.s7 (by omega) _) ⟨gI_same .., fun k hk => by omega⟩ (by rw [gI_ne (by omega)]; exact hp) (by omega)
  rw [uS_sk (Nat.zero_le E)] at r6
  unfold lwz
  generalize uS T E 8 0 0 0 (fun _ => 0) = r at r6 ⊢
  rcases r6 with ⟨c, g1, g2, g3⟩ | ⟨c, a', g1⟩
  · rw [bO_s c]
    have ha := g1.2.2.1
    have hs := sk_b (T := T) ha.1
    obtain ⟨M8, e8, f8, g8⟩ := M_blanks g1
    have y1 := g8.1.1
    have y2 := g8.1.2.1
    have y3 := g8.1.2.2.1
    by_cases q : sk T E r.2.2.1 < E
    · rw [if_pos q]
      obtain ⟨M9, e9, f9, g9⟩ := M_wrong g8 (k1 := 1) (f1 := sk T E r.2.2.1) (by omega)
      refine ⟨M6, M8, M9, e6, e8, ?_, ((fx.trans f6).trans f8.ku).trans f9.ku, Or.inr ⟨by show (1 : Nat) ≠ 0; omega, _, g9⟩⟩
      simp (disch := omega) only [y1, y2, y3, e9, bI_s, bV_s, bL_s, bR_s, bG_s, bG_n, bX_l, bX_r, ck_nI, nI_clamp, nI_leT, nI_leF, nI_ltT, nI_ltF, nI_eqF, nI_add, pk_mul, ofN, bt_e, or0, Nat.zero_add, Nat.add_zero, ↓reduceIte, if_true, if_false, Bool.false_eq_true, eq_self, li0, li1, li2, li3, li4, li5, li6, li7, li8, li9, li10, li11, li12, li14, li15, li16, li18, li19, li20, li23, li24, li25, li26, li27, li30, li31, li32, li36, li40, li41, li42, li43, li44, li45, li47, li48, li57, li59, li60, li91, li93, li96, li97, li100, li105, li122, li150, li200, li255, li400, li500, li600, li999, li1000, li1001, li2000, li2001, li2002, li2003, li2004, li2005, li2006, li32767, li100000, li_neg, li13, li17, li21, li22, li28, li29, li33, li34, li35, li37, li38, li39, li46, li49, li50, li51, li52, li53, li63, li80, li115, li160]
    · rw [if_neg q]
      refine ⟨M6, M8, M8, e6, e8, ?_, (fx.trans f6).trans f8.ku, Or.inl ⟨rfl, g8, g2.ud f8, op_ud g3 f8⟩⟩
      simp (disch := omega) only [y1, y2, y3, bI_s, bV_s, bL_s, bR_s, bG_s, bG_n, bX_l, bX_r, ck_nI, nI_clamp, nI_leT, nI_leF, nI_ltT, nI_ltF, nI_eqF, nI_add, pk_mul, ofN, bt_e, or0, Nat.zero_add, Nat.add_zero, ↓reduceIte, if_true, if_false, Bool.false_eq_true, eq_self, li0, li1, li2, li3, li4, li5, li6, li7, li8, li9, li10, li11, li12, li14, li15, li16, li18, li19, li20, li23, li24, li25, li26, li27, li30, li31, li32, li36, li40, li41, li42, li43, li44, li45, li47, li48, li57, li59, li60, li91, li93, li96, li97, li100, li105, li122, li150, li200, li255, li400, li500, li600, li999, li1000, li1001, li2000, li2001, li2002, li2003, li2004, li2005, li2006, li32767, li100000, li_neg, li13, li17, li21, li22, li28, li29, li33, li34, li35, li37, li38, li39, li46, li49, li50, li51, li52, li53, li63, li80, li115, li160]
  · rw [bO_f c]
    obtain ⟨M8, e8, f8, g8⟩ := M_blanks g1
    have y3 := g8.1.2.2.1
    have hk3 := g8.2.2.1
    refine ⟨M6, M8, M8, e6, e8, ?_, (fx.trans f6).trans f8.ku, Or.inr ⟨c, _, g8⟩⟩
    simp (disch := omega) only [y3, bI_s, bV_s, bL_s, bR_s, bG_s, bG_n, bX_l, bX_r, ck_nI, nI_clamp, nI_leT, nI_leF, nI_ltT, nI_ltF, nI_eqF, nI_add, pk_mul, ofN, bt_e, or0, Nat.zero_add, Nat.add_zero, ↓reduceIte, if_true, if_false, Bool.false_eq_true, eq_self, li0, li1, li2, li3, li4, li5, li6, li7, li8, li9, li10, li11, li12, li14, li15, li16, li18, li19, li20, li23, li24, li25, li26, li27, li30, li31, li32, li36, li40, li41, li42, li43, li44, li45, li47, li48, li57, li59, li60, li91, li93, li96, li97, li100, li105, li122, li150, li200, li255, li400, li500, li600, li999, li1000, li1001, li2000, li2001, li2002, li2003, li2004, li2005, li2006, li32767, li100000, li_neg, li13, li17, li21, li22, li28, li29, li33, li34, li35, li37, li38, li39, li46, li49, li50, li51, li52, li53, li63, li80, li115, li160]
theorem lwz_ok (hT : ∀ i, i < E → T i < 256) (hE : E ≤ 150) (h : (lwz T E).1 = 0) : (1 ≤ (lwz T E).2.2.2.1 ∧ (lwz T E).2.2.2.1 ≤ 150) ∧ gd (lwz T E).2.2.2.1 (lwz T E).2.2.2.2 := by
  have gg := uS_g hT 8 0 0 0 (fun _ => 0) (Nat.zero_le E)
  unfold lwz at h ⊢
  have h0 := bO_0 h
  rw [bO_s h0] at h ⊢
  obtain ⟨⟨x1, x2, x3⟩, x4⟩ := gg h0
  obtain ⟨x5, x6⟩ := x4 (fun k hk => by omega)
  generalize uS T E 8 0 0 0 (fun _ => 0) = r at h h0 x1 x2 x3 x5 x6 ⊢
  by_cases q : sk T E r.2.2.1 < E
  · rw [if_pos q] at h; exact absurd h (by show ¬ (1 : Nat) = 0; omega)
  · rw [if_neg q]
    have hl := ht_le r.2.2.2.2 r.2.2.2.1
    refine ⟨⟨?_, ?_⟩, x5⟩
    · show 1 ≤ r.2.2.2.1; omega
    · show r.2.2.2.1 ≤ 150; omega
end
