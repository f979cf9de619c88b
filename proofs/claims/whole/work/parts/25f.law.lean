/-! # functional level, 69: the class reads a law, products and sums -/
section
variable {M M' M1 M2 N : Mm} {t l E a k f n c e op w : Nat} {T : Nat → Nat} {L : Nat → Nat} {ρ : Nat → Nat → Int32 → Mm → Option Mm} {ρ' : Nat → Nat → (Nat → Nat) → Ou}
theorem opA_i {ψ : Nat → Nat} (h : sk T E a < E) {x : Nat} (hx : T (sk T E a) = x) : opA T E ψ a = ψ x := by unfold opA; rw [if_pos h, hx]
theorem C_pstep (w : Nat) {x : Nat} (h : CTp M t T E a 0 4294967295) (hx : x < 150) : ∃ M', FX (tD t) M M' ∧ ((opA T E oP1 a = 0 ∧ f_Law_readProduct_b ρ (w + 1) l t (nI op) (nI x) M = some M' ∧ CTp M' t T E (sk T E a) 0 4294967295) ∨ (opA T E oP1 a ≠ 0 ∧ f_Law_readProduct_b ρ (w + 1) l t (nI op) (nI x) M = bV (f_Law_readUnit ρ l t (nI op) M') (fun M1 => bV (f_Law_put l (nI (opA T E oP1 a)) M1) (fun M3 => f_Law_readProduct_b ρ w l t (nI op) (nI (x + 1)) M3)) ∧ CTp M' t T E (sk T E a + 1) 0 4294967295)) := by
  have ha := h.2.2.1.1
  have hi := sk_i (T := T) ha
  by_cases c1 : sk T E a < E ∧ T (sk T E a) = 42
  · obtain ⟨M1, e1, f1, g1⟩ := C_takeY h c1.1 c1.2
    have eo : opA T E oP1 a = 2002 := opA_i c1.1 c1.2
    rw [eo]
    refine ⟨M1, f1, Or.inr ⟨by omega, ?_, g1⟩⟩
    simp (disch := omega) only [f_Law_readProduct_b, f_Law_readProduct_c, e1, bI_s, bV_s, bL_s, bR_s, bG_s, bG_n, bX_l, bX_r, ck_nI, nI_clamp, nI_leT, nI_leF, nI_ltT, nI_ltF, nI_eqF, nI_add, pk_mul, ofN, bt_e, or0, Nat.zero_add, Nat.add_zero, ↓reduceIte, if_true, if_false, Bool.false_eq_true, eq_self, li0, li1, li2, li3, li4, li5, li6, li7, li8, li9, li10, li11, li12, li14, li15, li16, li18, li19, li20, li23, li24, li25, li26, li27, li30, li31, li32, li36, li40, li41, li42, li43, li44, li45, li47, li48, li57, li59, li60, li91, li93, li96, li97, li100, li105, li122, li150, li200, li255, li400, li500, li600, li999, li1000, li1001, li2000, li2001, li2002, li2003, li2004, li2005, li2006, li32767, li100000, li_neg, li13, li17, li21, li22, li28, li29, li33, li34, li35, li37, li38, li39, li46, li49, li50, li51, li52, li53, li63, li80, li115, li160]
  · obtain ⟨M1, e1, f1, g1⟩ := C_takeN h (by omega) c1
    by_cases c2 : sk T E a < E ∧ T (sk T E a) = 47
    · obtain ⟨M2, e2, f2, g2⟩ := C_takeY (c := 47) g1 (by rw [hi]; exact c2.1) (by rw [hi]; exact c2.2)
      rw [hi] at g2
      have eo : opA T E oP1 a = 2003 := opA_i c2.1 c2.2
      rw [eo]
      refine ⟨M2, f1.trans f2, Or.inr ⟨by omega, ?_, g2⟩⟩
      simp (disch := omega) only [f_Law_readProduct_b, f_Law_readProduct_c, e1, e2, bI_s, bV_s, bL_s, bR_s, bG_s, bG_n, bX_l, bX_r, ck_nI, nI_clamp, nI_leT, nI_leF, nI_ltT, nI_ltF, nI_eqF, nI_add, pk_mul, ofN, bt_e, or0, Nat.zero_add, Nat.add_zero, ↓reduceIte, if_true, if_false, Bool.false_eq_true, eq_self, li0, li1, li2, li3, li4, li5, li6, li7, li8, li9, li10, li11, li12, li14, li15, li16, li18, li19, li20, li23, li24, li25, li26, li27, li30, li31, li32, li36, li40, li41, li42, li43, li44, li45, li47, li48, li57, li59, li60, li91, li93, li96, li97, li100, li105, li122, li150, li200, li255, li400, li500, li600, li999, li1000, li1001, li2000, li2001, li2002, li2003, li2004, li2005, li2006, li32767, li100000, li_neg, li13, li17, li21, li22, li28, li29, li33, li34, li35, li37, li38, li39, li46, li49, li50, li51, li52, li53, li63, li80, li115, li160]
    · obtain ⟨M2, e2, f2, g2⟩ := C_takeN (c := 47) g1 (by omega) (by rw [hi]; exact c2)
      rw [hi] at g2
      by_cases c3 : sk T E a < E ∧ T (sk T E a) = 37
      · obtain ⟨M3, e3, f3, g3⟩ := C_takeY (c := 37) g2 (by rw [hi]; exact c3.1) (by rw [hi]; exact c3.2)
        rw [hi] at g3
        have eo : opA T E oP1 a = 2004 := opA_i c3.1 c3.2
        rw [eo]
        refine ⟨M3, (f1.trans f2).trans f3, Or.inr ⟨by omega, ?_, g3⟩⟩
        simp (disch := omega) only [f_Law_readProduct_b, f_Law_readProduct_c, e1, e2, e3, bI_s, bV_s, bL_s, bR_s, bG_s, bG_n, bX_l, bX_r, ck_nI, nI_clamp, nI_leT, nI_leF, nI_ltT, nI_ltF, nI_eqF, nI_add, pk_mul, ofN, bt_e, or0, Nat.zero_add, Nat.add_zero, ↓reduceIte, if_true, if_false, Bool.false_eq_true, eq_self, li0, li1, li2, li3, li4, li5, li6, li7, li8, li9, li10, li11, li12, li14, li15, li16, li18, li19, li20, li23, li24, li25, li26, li27, li30, li31, li32, li36, li40, li41, li42, li43, li44, li45, li47, li48, li57, li59, li60, li91, li93, li96, li97, li100, li105, li122, li150, li200, li255, li400, li500, li600, li999, li1000, li1001, li2000, li2001, li2002, li2003, li2004, li2005, li2006, li32767, li100000, li_neg, li13, li17, li21, li22, li28, li29, li33, li34, li35, li37, li38, li39, li46, li49, li50, li51, li52, li53, li63, li80, li115, li160]
      · obtain ⟨M3, e3, f3, g3⟩ := C_takeN (c := 37) g2 (by omega) (by rw [hi]; exact c3)
        rw [hi] at g3
        have eo : opA T E oP1 a = 0 := by
          unfold opA
          by_cases q : sk T E a < E
          · rw [if_pos q]
            unfold oP1
            rw [if_neg (fun z => c1 ⟨q, z⟩), if_neg (fun z => c2 ⟨q, z⟩), if_neg (fun z => c3 ⟨q, z⟩)]
          · exact if_neg q
        refine ⟨M3, (f1.trans f2).trans f3, Or.inl ⟨eo, ?_, g3⟩⟩
        simp (disch := omega) only [f_Law_readProduct_b, f_Law_readProduct_c, e1, e2, e3, bI_s, bV_s, bL_s, bR_s, bG_s, bG_n, bX_l, bX_r, ck_nI, nI_clamp, nI_leT, nI_leF, nI_ltT, nI_ltF, nI_eqF, nI_add, pk_mul, ofN, bt_e, or0, Nat.zero_add, Nat.add_zero, ↓reduceIte, if_true, if_false, Bool.false_eq_true, eq_self, li0, li1, li2, li3, li4, li5, li6, li7, li8, li9, li10, li11, li12, li14, li15, li16, li18, li19, li20, li23, li24, li25, li26, li27, li30, li31, li32, li36, li40, li41, li42, li43, li44, li45, li47, li48, li57, li59, li60, li91, li93, li96, li97, li100, li105, li122, li150, li200, li255, li400, li500, li600, li999, li1000, li1001, li2000, li2001, li2002, li2003, li2004, li2005, li2006, li32767, li100000, li_neg, li13, li17, li21, li22, li28, li29, li33, li34, li35, li37, li38, li39, li46, li49, li50, li51, li52, li53, li63, li80, li115, li160]
theorem C_pfault (w : Nat) (x : Int32) (hk : k ≠ 0) (h : CTp M t T E a k f) : f_Law_readProduct_b ρ (w + 1) l t (nI op) x M = some M := by
  have e : ∀ c, f_Tape_takesSign t c M = some (nI 0, M) := fun c => C_takeF h hk c
  unfold f_Law_readProduct_b
  by_cases c : (150 : Int32) ≤ x
  · rw [if_pos c]
  · rw [if_neg c]
    simp (disch := omega) only [f_Law_readProduct_c, e, bI_s, bV_s, bL_s, bR_s, bG_s, bG_n, bX_l, bX_r, ck_nI, nI_clamp, nI_leT, nI_leF, nI_ltT, nI_ltF, nI_eqF, nI_add, pk_mul, ofN, bt_e, or0, Nat.zero_add, Nat.add_zero, ↓reduceIte, if_true, if_false, Bool.false_eq_true, eq_self, li0, li1, li2, li3, li4, li5, li6, li7, li8, li9, li10, li11, li12, li14, li15, li16, li18, li19, li20, li23, li24, li25, li26, li27, li30, li31, li32, li36, li40, li41, li42, li43, li44, li45, li47, li48, li57, li59, li60, li91, li93, li96, li97, li100, li105, li122, li150, li200, li255, li400, li500, li600, li999, li1000, li1001, li2000, li2001, li2002, li2003, li2004, li2005, li2006, li32767, li100000, li_neg, li13, li17, li21, li22, li28, li29, li33, li34, li35, li37, li38, li39, li46, li49, li50, li51, li52, li53, li63, li80, li115, li160]
theorem RC_product (ht : t + 1 < l) (hE : E ≤ 150) (hT : ∀ i, i < E → T i < 256) (hop : op ≤ 6) (hρ : op < 6 → RC t l T E 0 (ρ l t (nI (op + 1))) ρ') (hg : op < 6 → ∀ a n L, a ≤ E → gO E 1 1 a n L (ρ' a n L)) : RC t l T E 0 (f_Law_readProduct ρ l t (nI op)) (uP ρ' T E op) := by
  have hu := RC_unit ht hE hop hρ hg
  have hug : ∀ a n L, a ≤ E → gO E 1 1 a n L (uU ρ' T E op a n L) := fun a n L ha => uU_g hT hg ha
  have hl : RC t l T E 0 (fun M1 => f_Law_readProduct_b ρ FU l t (nI op) (nI 0) M1) (lpO T E oP1 (uU ρ' T E op) (E + 1)) := by
    refine ⟨fun M a n L h1 h2 h3 => ?_, fun M k f hk h1 => ?_⟩
    · exact C_loop (H := fun w x M => f_Law_readProduct_b ρ w l t (nI op) x M) ht hE hu hug (fun w x M a h hx => C_pstep w h hx) (fun w x M a k f hk h => C_pfault w x hk h) (E + 1) a n L FU 0 M h1 h2 (by omega) (by omega) (by omega) (FU_lt (by omega))
    · obtain ⟨a, g⟩ := h1.1
      exact ⟨M, C_pfault 9999 _ hk g, FX.rf _ M, h1⟩
  exact RC_bind hu hl (fun a n L ha hn h0 => by have := (hug a n L ha h0).1; omega)
theorem C_sstep (w : Nat) {x : Nat} (h : CTp M t T E a 0 4294967295) (hx : x < 150) : ∃ M', FX (tD t) M M' ∧ ((opA T E oS1 a = 0 ∧ f_Law_readSum_b ρ (w + 1) l t (nI op) (nI x) M = some M' ∧ CTp M' t T E (sk T E a) 0 4294967295) ∨ (opA T E oS1 a ≠ 0 ∧ f_Law_readSum_b ρ (w + 1) l t (nI op) (nI x) M = bV (f_Law_readProduct ρ l t (nI op) M') (fun M1 => bV (f_Law_put l (nI (opA T E oS1 a)) M1) (fun M3 => f_Law_readSum_b ρ w l t (nI op) (nI (x + 1)) M3)) ∧ CTp M' t T E (sk T E a + 1) 0 4294967295)) := by
  have ha := h.2.2.1.1
  have hi := sk_i (T := T) ha
  by_cases c1 : sk T E a < E ∧ T (sk T E a) = 43
  · obtain ⟨M1, e1, f1, g1⟩ := C_takeY h c1.1 c1.2
    have eo : opA T E oS1 a = 2000 := opA_i c1.1 c1.2
    rw [eo]
    refine ⟨M1, f1, Or.inr ⟨by omega, ?_, g1⟩⟩
    simp (disch := omega) only [f_Law_readSum_b, f_Law_readSum_c, e1, bI_s, bV_s, bL_s, bR_s, bG_s, bG_n, bX_l, bX_r, ck_nI, nI_clamp, nI_leT, nI_leF, nI_ltT, nI_ltF, nI_eqF, nI_add, pk_mul, ofN, bt_e, or0, Nat.zero_add, Nat.add_zero, ↓reduceIte, if_true, if_false, Bool.false_eq_true, eq_self, li0, li1, li2, li3, li4, li5, li6, li7, li8, li9, li10, li11, li12, li14, li15, li16, li18, li19, li20, li23, li24, li25, li26, li27, li30, li31, li32, li36, li40, li41, li42, li43, li44, li45, li47, li48, li57, li59, li60, li91, li93, li96, li97, li100, li105, li122, li150, li200, li255, li400, li500, li600, li999, li1000, li1001, li2000, li2001, li2002, li2003, li2004, li2005, li2006, li32767, li100000, li_neg, li13, li17, li21, li22, li28, li29, li33, li34, li35, li37, li38, li39, li46, li49, li50, li51, li52, li53, li63, li80, li115, li160]
  · obtain ⟨M1, e1, f1, g1⟩ := C_takeN h (by omega) c1
    by_cases c2 : sk T E a < E ∧ T (sk T E a) = 45
    · obtain ⟨M2, e2, f2, g2⟩ := C_takeY (c := 45) g1 (by rw [hi]; exact c2.1) (by rw [hi]; exact c2.2)
      rw [hi] at g2
      have eo : opA T E oS1 a = 2001 := opA_i c2.1 c2.2
      rw [eo]
      refine ⟨M2, f1.trans f2, Or.inr ⟨by omega, ?_, g2⟩⟩
      simp (disch := omega) only [f_Law_readSum_b, f_Law_readSum_c, e1, e2, bI_s, bV_s, bL_s, bR_s, bG_s, bG_n, bX_l, bX_r, ck_nI, nI_clamp, nI_leT, nI_leF, nI_ltT, nI_ltF, nI_eqF, nI_add, pk_mul, ofN, bt_e, or0, Nat.zero_add, Nat.add_zero, ↓reduceIte, if_true, if_false, Bool.false_eq_true, eq_self, li0, li1, li2, li3, li4, li5, li6, li7, li8, li9, li10, li11, li12, li14, li15, li16, li18, li19, li20, li23, li24, li25, li26, li27, li30, li31, li32, li36, li40, li41, li42, li43, li44, li45, li47, li48, li57, li59, li60, li91, li93, li96, li97, li100, li105, li122, li150, li200, li255, li400, li500, li600, li999, li1000, li1001, li2000, li2001, li2002, li2003, li2004, li2005, li2006, li32767, li100000, li_neg, li13, li17, li21, li22, li28, li29, li33, li34, li35, li37, li38, li39, li46, li49, li50, li51, li52, li53, li63, li80, li115, li160]
    · obtain ⟨M2, e2, f2, g2⟩ := C_takeN (c := 45) g1 (by omega) (by rw [hi]; exact c2)
      rw [hi] at g2
      have eo : opA T E oS1 a = 0 := by
        unfold opA
        by_cases q : sk T E a < E
        · rw [if_pos q]
          unfold oS1
          rw [if_neg (fun z => c1 ⟨q, z⟩), if_neg (fun z => c2 ⟨q, z⟩)]
        · exact if_neg q
      refine ⟨M2, f1.trans f2, Or.inl ⟨eo, ?_, g2⟩⟩
      simp (disch := omega) only [f_Law_readSum_b, f_Law_readSum_c, e1, e2, bI_s, bV_s, bL_s, bR_s, bG_s, bG_n, bX_l, bX_r, ck_nI, nI_clamp, nI_leT, nI_leF, nI_ltT, nI_ltF, nI_eqF, nI_add, pk_mul, ofN, bt_e, or0, Nat.zero_add, Nat.add_zero, ↓reduceIte, if_true, if_false, Bool.false_eq_true, eq_self, li0, li1, li2, li3, li4, li5, li6, li7, li8, li9, li10, li11, li12, li14, li15, li16, li18, li19, li20, li23, li24, li25, li26, li27, li30, li31, li32, li36, li40, li41, li42, li43, li44, li45, li47, li48, li57, li59, li60, li91, li93, li96, li97, li100, li105, li122, li150, li200, li255, li400, li500, li600, li999, li1000, li1001, li2000, li2001, li2002, li2003, li2004, li2005, li2006, li32767, li100000, li_neg, li13, li17, li21, li22, li28, li29, li33, li34, li35, li37, li38, li39, li46, li49, li50, li51, li52, li53, li63, li80, li115, li160]
theorem C_sfault (w : Nat) (x : Int32) (hk : k ≠ 0) (h : CTp M t T E a k f) : f_Law_readSum_b ρ (w + 1) l t (nI op) x M = some M := by
  have e : ∀ c, f_Tape_takesSign t c M = some (nI 0, M) := fun c => C_takeF h hk c
  unfold f_Law_readSum_b
  by_cases c : (150 : Int32) ≤ x
  · rw [if_pos c]
  · rw [if_neg c]
    simp (disch := omega) only [f_Law_readSum_c, e, bI_s, bV_s, bL_s, bR_s, bG_s, bG_n, bX_l, bX_r, ck_nI, nI_clamp, nI_leT, nI_leF, nI_ltT, nI_ltF, nI_eqF, nI_add, pk_mul, ofN, bt_e, or0, Nat.zero_add, Nat.add_zero, ↓reduceIte, if_true, if_false, Bool.false_eq_true, eq_self, li0, li1, li2, li3, li4, li5, li6, li7, li8, li9, li10, li11, li12, li14, li15, li16, li18, li19, li20, li23, li24, li25, li26, li27, li30, li31, li32, li36, li40, li41, li42, li43, li44, li45, li47, li48, li57, li59, li60, li91, li93, li96, li97, li100, li105, li122, li150, li200, li255, li400, li500, li600, li999, li1000, li1001, li2000, li2001, li2002, li2003, li2004, li2005, li2006, li32767, li100000, li_neg, li13, li17, li21, li22, li28, li29, li33, li34, li35, li37, li38, li39, li46, li49, li50, li51, li52, li53, li63, li80, li115, li160]
theorem RC_sum0 (ht : t + 1 < l) (hE : E ≤ 150) (hT : ∀ i, i < E → T i < 256) (hop : op ≤ 6) (hρ : op < 6 → RC t l T E 0 (ρ l t (nI (op + 1))) ρ') (hg : op < 6 → ∀ a n L, a ≤ E → gO E 1 1 a n L (ρ' a n L)) : RC t l T E 0 (f_Law_readSum_0 ρ l t (nI op)) (uS0 ρ' T E op) := by
  have hu := RC_product ht hE hT hop hρ hg
  have hug : ∀ a n L, a ≤ E → gO E 1 1 a n L (uP ρ' T E op a n L) := fun a n L ha => uP_g hT hg ha
  have hl : RC t l T E 0 (fun M1 => f_Law_readSum_b ρ FU l t (nI op) (nI 0) M1) (lpO T E oS1 (uP ρ' T E op) (E + 1)) := by
    refine ⟨fun M a n L h1 h2 h3 => ?_, fun M k f hk h1 => ?_⟩
    · exact C_loop (H := fun w x M => f_Law_readSum_b ρ w l t (nI op) x M) ht hE hu hug (fun w x M a h hx => C_sstep w h hx) (fun w x M a k f hk h => C_sfault w x hk h) (E + 1) a n L FU 0 M h1 h2 (by omega) (by omega) (by omega) (FU_lt (by omega))
    · obtain ⟨a, g⟩ := h1.1
      exact ⟨M, C_sfault 9999 _ hk g, FX.rf _ M, h1⟩
  exact RC_bind hu hl (fun a n L ha hn h0 => by have := (hug a n L ha h0).1; omega)
theorem RC_sum (ht : t + 1 < l) (hE : E ≤ 150) (hT : ∀ i, i < E → T i < 256) : ∀ k op, op ≤ 6 → 7 ≤ k + op → RC t l T E 0 (f_Law_readSum k l t (nI op)) (uS T E k op)
  | 0, op => fun h1 h2 => by omega
  | k + 1, op => fun h1 h2 => RC_sum0 ht hE hT h1 (fun q => RC_sum ht hE hT k (op + 1) (by omega) (by omega)) (fun _ => uS_g hT k (op + 1))
/-- a law's whole text -/
def lwz (T : Nat → Nat) (E : Nat) : Ou := bO (uS T E 8 0 0 0 (fun _ => 0)) (fun a n L => if sk T E a < E then (1, sk T E a, 0, n, L) else (0, 4294967295, sk T E a, n, L))
theorem C_lread (ht : t + 1 < l) (hE : E ≤ 150) (h : CTp M t T E 0 0 4294967295) : ∃ M', f_Law_read l t M = some M' ∧ FX (lD t l) M M' ∧ cL M' t l T E (lwz T E) := by
  have hT := h.2.2.2
  have f0 : FX (fun a j => a = l ∧ j = 2) M (sI M l 2 (nI 0)) := (FX.rf _ M).sI ⟨rfl, rfl⟩
  have h0 := h.fx f0 (fun j q => by omega) (fun j q => by omega)
  obtain ⟨M1, e1, f1, r1⟩ := (RC_sum ht hE hT 8 0 (by omega) (by omega)).1 (sI M l 2 (nI 0)) 0 0 (fun _ => 0) h0 ⟨gI_same .., fun k hk => by omega⟩ (by omega)
  have f01 : FX (lD t l) M M1 := (f0.mono (fun _ _ q => Or.inr (Or.inl q))).trans f1
  have gg := uS_g hT 8 0 0 0 (fun _ => 0) (Nat.zero_le E)
  unfold lwz
  generalize uS T E 8 0 0 0 (fun _ => 0) = r at r1 gg ⊢
  rcases r1 with ⟨c, g1, g2⟩ | ⟨c, g1⟩
  · rw [bO_s c]
    have ha := g1.2.2.1.1
    have hi := sk_i (T := T) ha
    obtain ⟨M2, e2, f2, g3⟩ := C_more g1
    by_cases q : sk T E r.2.2.1 < E
    · rw [if_pos q] at e2 ⊢
      obtain ⟨M3, e3, f3, g4⟩ := C_next g3
      rw [hi] at e3 g4
      obtain ⟨M4, e4, f4, g5⟩ := C_wrong g4 (k1 := 1) (f1 := sk T E r.2.2.1) (by omega)
      have hn : ∃ n, n ≤ 150 ∧ gI M4 l 2 = nI n := by
        have gg := (gg c).1
        exact ⟨r.2.2.2.1, by omega, (g2.td ((f2.trans f3).trans f4) (by omega)).1⟩
      refine ⟨M4, ?_, f01.trans ((f2.trans f3).trans f4).tl, Or.inr ⟨by show (1 : Nat) ≠ 0; omega, ⟨_, g5⟩, hn⟩⟩
      simp (disch := omega) only [f_Law_read, e1, e2, e3, e4, bI_s, bV_s, bL_s, bR_s, bG_s, bG_n, bX_l, bX_r, ck_nI, nI_clamp, nI_leT, nI_leF, nI_ltT, nI_ltF, nI_eqF, nI_add, pk_mul, ofN, bt_e, or0, Nat.zero_add, Nat.add_zero, ↓reduceIte, if_true, if_false, Bool.false_eq_true, eq_self, li0, li1, li2, li3, li4, li5, li6, li7, li8, li9, li10, li11, li12, li14, li15, li16, li18, li19, li20, li23, li24, li25, li26, li27, li30, li31, li32, li36, li40, li41, li42, li43, li44, li45, li47, li48, li57, li59, li60, li91, li93, li96, li97, li100, li105, li122, li150, li200, li255, li400, li500, li600, li999, li1000, li1001, li2000, li2001, li2002, li2003, li2004, li2005, li2006, li32767, li100000, li_neg, li13, li17, li21, li22, li28, li29, li33, li34, li35, li37, li38, li39, li46, li49, li50, li51, li52, li53, li63, li80, li115, li160]
    · rw [if_neg q] at e2 ⊢
      refine ⟨M2, ?_, f01.trans f2.tl, Or.inl ⟨rfl, g3, g2.td f2 (by omega)⟩⟩
      simp (disch := omega) only [f_Law_read, e1, e2, bI_s, bV_s, bL_s, bR_s, bG_s, bG_n, bX_l, bX_r, ck_nI, nI_clamp, nI_leT, nI_leF, nI_ltT, nI_ltF, nI_eqF, nI_add, pk_mul, ofN, bt_e, or0, Nat.zero_add, Nat.add_zero, ↓reduceIte, if_true, if_false, Bool.false_eq_true, eq_self, li0, li1, li2, li3, li4, li5, li6, li7, li8, li9, li10, li11, li12, li14, li15, li16, li18, li19, li20, li23, li24, li25, li26, li27, li30, li31, li32, li36, li40, li41, li42, li43, li44, li45, li47, li48, li57, li59, li60, li91, li93, li96, li97, li100, li105, li122, li150, li200, li255, li400, li500, li600, li999, li1000, li1001, li2000, li2001, li2002, li2003, li2004, li2005, li2006, li32767, li100000, li_neg, li13, li17, li21, li22, li28, li29, li33, li34, li35, li37, li38, li39, li46, li49, li50, li51, li52, li53, li63, li80, li115, li160]
  · rw [bO_f c]
    obtain ⟨a, g2⟩ := g1.1
    have e2 := C_moreF g2 c
    refine ⟨M1, ?_, f01, Or.inr ⟨c, g1⟩⟩
    simp (disch := omega) only [f_Law_read, e1, e2, bI_s, bV_s, bL_s, bR_s, bG_s, bG_n, bX_l, bX_r, ck_nI, nI_clamp, nI_leT, nI_leF, nI_ltT, nI_ltF, nI_eqF, nI_add, pk_mul, ofN, bt_e, or0, Nat.zero_add, Nat.add_zero, ↓reduceIte, if_true, if_false, Bool.false_eq_true, eq_self, li0, li1, li2, li3, li4, li5, li6, li7, li8, li9, li10, li11, li12, li14, li15, li16, li18, li19, li20, li23, li24, li25, li26, li27, li30, li31, li32, li36, li40, li41, li42, li43, li44, li45, li47, li48, li57, li59, li60, li91, li93, li96, li97, li100, li105, li122, li150, li200, li255, li400, li500, li600, li999, li1000, li1001, li2000, li2001, li2002, li2003, li2004, li2005, li2006, li32767, li100000, li_neg, li13, li17, li21, li22, li28, li29, li33, li34, li35, li37, li38, li39, li46, li49, li50, li51, li52, li53, li63, li80, li115, li160]
end
