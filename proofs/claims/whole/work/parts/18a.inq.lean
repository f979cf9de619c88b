/-! # functional level, 26: stood, ask -/
/-- the acts of a set of bids -/
def acS (P W : TT) (s : Nat) : Int32 := fo (P 0 2) (fun b x => if hs (nI s) b = true then x ||| bt (W 5 b) else x) (nI 0)
/-- a set that the deeds leave -/
def rtS (P W : TT) (dn : Nat) (A B : Nat → Nat) (s : Nat) : Bool := alR (fun k => decide (hs (acS P W s) (A k) = decide (B k = 1))) dn 0
section
variable {M M' M1 N : Mm} {o m d : Nat} {S : St} {P W : TT} {dn : Nat} {A B : Nat → Nat}
theorem rt_c (hA : ∀ k, k < dn → A k < 10 ∧ B k ≤ 1) (s : Nat) : (acS P W s &&& dY dn A B 1 = dY dn A B 1 ∧ acS P W s &&& dY dn A B 0 = nI 0) ↔ rtS P W dn A B s = true := by
  have q1 := fun k (hk : k < 32) => hs_fo (c := fun k => decide (B k = 1)) (g := A) hk dn (fun i hi => by have := (hA i hi).1; omega)
  have q0 := fun k (hk : k < 32) => hs_fo (c := fun k => decide (B k = 0)) (g := A) hk dn (fun i hi => by have := (hA i hi).1; omega)
  unfold rtS
  rw [alR_iff]
  generalize acS P W s = x
  constructor
  · rintro ⟨h1, h2⟩ k _ hk
    have hk' : k < dn := by omega
    have ha := (hA k hk').1
    have hb := (hA k hk').2
    refine decide_eq_true ?_
    by_cases c : B k = 1
    · rw [decide_eq_true c]
      have e := congrArg (fun z => hs z (A k)) h1
      have e2 : hs (dY dn A B 1) (A k) = true := (q1 (A k) (by omega)).mpr ⟨k, hk', decide_eq_true c, rfl⟩
      rw [hs_and (by omega), e2, Bool.and_true] at e
      exact e
    · rw [decide_eq_false c]
      have e := congrArg (fun z => hs z (A k)) h2
      have e2 : hs (dY dn A B 0) (A k) = true := (q0 (A k) (by omega)).mpr ⟨k, hk', decide_eq_true (by omega), rfl⟩
      rw [hs_and (by omega), e2, Bool.and_true, hs_0 (by omega)] at e
      exact e
  · intro h
    refine ⟨hs_ext (fun j hj => ?_), hs_ext (fun j hj => ?_)⟩
    · rw [hs_and hj]
      cases hx : hs (dY dn A B 1) j with
      | false => rw [Bool.and_false]
      | true =>
        obtain ⟨i, z1, z2, z3⟩ := (q1 j hj).mp hx
        have := of_decide_eq_true (h i (by omega) (by omega))
        rw [z2, z3] at this
        rw [this]; rfl
    · rw [hs_and hj, hs_0 hj]
      cases hx : hs (dY dn A B 0) j with
      | false => rw [Bool.and_false]
      | true =>
        obtain ⟨i, z1, z2, z3⟩ := (q0 j hj).mp hx
        have := of_decide_eq_true (h i (by omega) (by omega))
        have z4 := of_decide_eq_true z2
        rw [decide_eq_false (by omega), z3] at this
        rw [this]; rfl
theorem C_acts (hW : isW M o P W) (oP : okP P) {s : Nat} : f_Inquest_actsOfSet (nI s) (nI (P 0 2)) (o + 5) 8 M = some (acS P W s, M) := by
  have hB := oP.b
  have key := lp_up (fun u i x => f_Inquest_actsOfSet_b u (nI s) (nI (P 0 2)) (o + 5) 8 x (nI i) M) (P 0 2) (fun b x => if hs (nI s) b = true then x ||| bt (W 5 b) else x) (some (acS P W s, M)) (nI 0) (fun u i x hi => ?_) (fun u => ?_) FU (FU_lt (by omega))
  · exact key
  · by_cases c : hs (nI s) i = true
    · simp (disch := omega) only [f_Inquest_actsOfSet_b, C_hasT c, c, hW.me hi, bI_s, bV_s, bL_s, bR_s, bG_s, bG_n, bX_l, bX_r, ck_nI, nI_clamp, nI_leT, nI_leF, nI_ltT, nI_ltF, nI_eqF, nI_add, pk_mul, ofN, bt_e, or0, Nat.zero_add, Nat.add_zero, ↓reduceIte, if_true, if_false, Bool.false_eq_true, eq_self, li0, li1, li2, li3, li4, li5, li6, li7, li8, li9, li10, li11, li12, li14, li15, li16, li18, li19, li20, li23, li24, li25, li26, li27, li30, li31, li32, li36, li40, li41, li42, li43, li44, li45, li47, li48, li57, li59, li60, li91, li93, li96, li97, li100, li105, li122, li150, li200, li255, li400, li500, li600, li999, li1000, li1001, li2000, li2001, li2002, li2003, li2004, li2005, li2006, li32767, li100000, li_neg, li13, li17, li21, li22, li28, li29, li33, li34, li35, li37, li38, li39, li46, li49, li50, li51, li52, li53, li63, li80, li115, li160]
    · simp (disch := omega) only [f_Inquest_actsOfSet_b, C_hasF c, c, bI_s, bV_s, bL_s, bR_s, bG_s, bG_n, bX_l, bX_r, ck_nI, nI_clamp, nI_leT, nI_leF, nI_ltT, nI_ltF, nI_eqF, nI_add, pk_mul, ofN, bt_e, or0, Nat.zero_add, Nat.add_zero, ↓reduceIte, if_true, if_false, Bool.false_eq_true, eq_self, li0, li1, li2, li3, li4, li5, li6, li7, li8, li9, li10, li11, li12, li14, li15, li16, li18, li19, li20, li23, li24, li25, li26, li27, li30, li31, li32, li36, li40, li41, li42, li43, li44, li45, li47, li48, li57, li59, li60, li91, li93, li96, li97, li100, li105, li122, li150, li200, li255, li400, li500, li600, li999, li1000, li1001, li2000, li2001, li2002, li2003, li2004, li2005, li2006, li32767, li100000, li_neg, li13, li17, li21, li22, li28, li29, li33, li34, li35, li37, li38, li39, li46, li49, li50, li51, li52, li53, li63, li80, li115, li160]
  · simp (disch := omega) only [f_Inquest_actsOfSet_b, acS, bI_s, bV_s, bL_s, bR_s, bG_s, bG_n, bX_l, bX_r, ck_nI, nI_clamp, nI_leT, nI_leF, nI_ltT, nI_ltF, nI_eqF, nI_add, pk_mul, ofN, bt_e, or0, Nat.zero_add, Nat.add_zero, ↓reduceIte, if_true, if_false, Bool.false_eq_true, eq_self, li0, li1, li2, li3, li4, li5, li6, li7, li8, li9, li10, li11, li12, li14, li15, li16, li18, li19, li20, li23, li24, li25, li26, li27, li30, li31, li32, li36, li40, li41, li42, li43, li44, li45, li47, li48, li57, li59, li60, li91, li93, li96, li97, li100, li105, li122, li150, li200, li255, li400, li500, li600, li999, li1000, li1001, li2000, li2001, li2002, li2003, li2004, li2005, li2006, li32767, li100000, li_neg, li13, li17, li21, li22, li28, li29, li33, li34, li35, li37, li38, li39, li46, li49, li50, li51, li52, li53, li63, li80, li115, li160]
theorem M_acts (hQ : isQ N m P) (oP : okP P) (hN : isN N (m + 470) P W) {s : Nat} : f_M_actsOf m (nI s) N = some (acS P W s, N) := by
  have hB := oP.b
  have key := lp_up (fun u i x => f_M_actsOf_b u m (nI s) x (nI i) N) (P 0 2) (fun b x => if hs (nI s) b = true then x ||| bt (W 5 b) else x) (some (acS P W s, N)) (nI 0) (fun u i x hi => ?_) (fun u => ?_) FU (FU_lt (by omega))
  · exact key
  · by_cases c : hs (nI s) i = true
    · simp (disch := omega) only [f_M_actsOf_b, hQ.b, M_hasT c, c, hN.me hi, bI_s, bV_s, bL_s, bR_s, bG_s, bG_n, bX_l, bX_r, ck_nI, nI_clamp, nI_leT, nI_leF, nI_ltT, nI_ltF, nI_eqF, nI_add, pk_mul, ofN, bt_e, or0, Nat.zero_add, Nat.add_zero, ↓reduceIte, if_true, if_false, Bool.false_eq_true, eq_self, li0, li1, li2, li3, li4, li5, li6, li7, li8, li9, li10, li11, li12, li14, li15, li16, li18, li19, li20, li23, li24, li25, li26, li27, li30, li31, li32, li36, li40, li41, li42, li43, li44, li45, li47, li48, li57, li59, li60, li91, li93, li96, li97, li100, li105, li122, li150, li200, li255, li400, li500, li600, li999, li1000, li1001, li2000, li2001, li2002, li2003, li2004, li2005, li2006, li32767, li100000, li_neg, li13, li17, li21, li22, li28, li29, li33, li34, li35, li37, li38, li39, li46, li49, li50, li51, li52, li53, li63, li80, li115, li160]
    · simp (disch := omega) only [f_M_actsOf_b, hQ.b, M_hasF c, c, bI_s, bV_s, bL_s, bR_s, bG_s, bG_n, bX_l, bX_r, ck_nI, nI_clamp, nI_leT, nI_leF, nI_ltT, nI_ltF, nI_eqF, nI_add, pk_mul, ofN, bt_e, or0, Nat.zero_add, Nat.add_zero, ↓reduceIte, if_true, if_false, Bool.false_eq_true, eq_self, li0, li1, li2, li3, li4, li5, li6, li7, li8, li9, li10, li11, li12, li14, li15, li16, li18, li19, li20, li23, li24, li25, li26, li27, li30, li31, li32, li36, li40, li41, li42, li43, li44, li45, li47, li48, li57, li59, li60, li91, li93, li96, li97, li100, li105, li122, li150, li200, li255, li400, li500, li600, li999, li1000, li1001, li2000, li2001, li2002, li2003, li2004, li2005, li2006, li32767, li100000, li_neg, li13, li17, li21, li22, li28, li29, li33, li34, li35, li37, li38, li39, li46, li49, li50, li51, li52, li53, li63, li80, li115, li160]
  · simp (disch := omega) only [f_M_actsOf_b, hQ.b, acS, bI_s, bV_s, bL_s, bR_s, bG_s, bG_n, bX_l, bX_r, ck_nI, nI_clamp, nI_leT, nI_leF, nI_ltT, nI_ltF, nI_eqF, nI_add, pk_mul, ofN, bt_e, or0, Nat.zero_add, Nat.add_zero, ↓reduceIte, if_true, if_false, Bool.false_eq_true, eq_self, li0, li1, li2, li3, li4, li5, li6, li7, li8, li9, li10, li11, li12, li14, li15, li16, li18, li19, li20, li23, li24, li25, li26, li27, li30, li31, li32, li36, li40, li41, li42, li43, li44, li45, li47, li48, li57, li59, li60, li91, li93, li96, li97, li100, li105, li122, li150, li200, li255, li400, li500, li600, li999, li1000, li1001, li2000, li2001, li2002, li2003, li2004, li2005, li2006, li32767, li100000, li_neg, li13, li17, li21, li22, li28, li29, li33, li34, li35, li37, li38, li39, li46, li49, li50, li51, li52, li53, li63, li80, li115, li160]
theorem M_right (hQ : isQ N m P) (oP : okP P) (hN : isN N (m + 470) P W) (hD : MId N m dn A B) (hdn : dn ≤ 10) (hA : ∀ k, k < dn → A k < 10 ∧ B k ≤ 1) {s : Nat} : f_M_isRight m (nI s) N = some (nI (if rtS P W dn A B s = true then 1 else 0), N) := by
  have key := lp_al (fun u i => f_M_isRight_b u m (nI s) (acS P W s) (nI i) N) dn (fun k => decide (hs (acS P W s) (A k) = decide (B k = 1))) (some (nI 1, N)) (some (nI 0, N)) (fun u i hi hc => ?_) (fun u i hi hc => ?_) (fun u => ?_) FU (FU_lt (by omega))
  · have e : f_M_isRight m (nI s) N = f_M_isRight_b FU m (nI s) (acS P W s) (nI 0) N := by
      simp (disch := omega) only [f_M_isRight, M_acts hQ oP hN, bI_s, bV_s, bL_s, bR_s, bG_s, bG_n, bX_l, bX_r, ck_nI, nI_clamp, nI_leT, nI_leF, nI_ltT, nI_ltF, nI_eqF, nI_add, pk_mul, ofN, bt_e, or0, Nat.zero_add, Nat.add_zero, ↓reduceIte, if_true, if_false, Bool.false_eq_true, eq_self, li0, li1, li2, li3, li4, li5, li6, li7, li8, li9, li10, li11, li12, li14, li15, li16, li18, li19, li20, li23, li24, li25, li26, li27, li30, li31, li32, li36, li40, li41, li42, li43, li44, li45, li47, li48, li57, li59, li60, li91, li93, li96, li97, li100, li105, li122, li150, li200, li255, li400, li500, li600, li999, li1000, li1001, li2000, li2001, li2002, li2003, li2004, li2005, li2006, li32767, li100000, li_neg, li13, li17, li21, li22, li28, li29, li33, li34, li35, li37, li38, li39, li46, li49, li50, li51, li52, li53, li63, li80, li115, li160]
    rw [e]
    refine Eq.trans key ?_
    show (if rtS P W dn A B s = true then _ else _) = _
    cases rtS P W dn A B s <;> rfl
  · have hc' := of_decide_eq_true hc
    have hb := (hA i hi).2
    have ha := (hA i hi).1
    have d1 := (hD.2 i hi).1
    have d2 := (hD.2 i hi).2
    by_cases c : B i = 1
    · rw [decide_eq_true c] at hc'
      rw [c] at d2
      simp (disch := omega) only [f_M_isRight_b, hD.1, d1, d2, M_hasT hc', bI_s, bV_s, bL_s, bR_s, bG_s, bG_n, bX_l, bX_r, ck_nI, nI_clamp, nI_leT, nI_leF, nI_ltT, nI_ltF, nI_eqF, nI_add, pk_mul, ofN, bt_e, or0, Nat.zero_add, Nat.add_zero, ↓reduceIte, if_true, if_false, Bool.false_eq_true, eq_self, li0, li1, li2, li3, li4, li5, li6, li7, li8, li9, li10, li11, li12, li14, li15, li16, li18, li19, li20, li23, li24, li25, li26, li27, li30, li31, li32, li36, li40, li41, li42, li43, li44, li45, li47, li48, li57, li59, li60, li91, li93, li96, li97, li100, li105, li122, li150, li200, li255, li400, li500, li600, li999, li1000, li1001, li2000, li2001, li2002, li2003, li2004, li2005, li2006, li32767, li100000, li_neg, li13, li17, li21, li22, li28, li29, li33, li34, li35, li37, li38, li39, li46, li49, li50, li51, li52, li53, li63, li80, li115, li160]
    · rw [decide_eq_false c] at hc'
      have c0 : B i = 0 := by omega
      rw [c0] at d2
      simp (disch := omega) only [f_M_isRight_b, hD.1, d1, d2, M_hasF (show ¬ hs (acS P W s) (A i) = true by rw [hc']; exact fun z => nomatch z), bI_s, bV_s, bL_s, bR_s, bG_s, bG_n, bX_l, bX_r, ck_nI, nI_clamp, nI_leT, nI_leF, nI_ltT, nI_ltF, nI_eqF, nI_add, pk_mul, ofN, bt_e, or0, Nat.zero_add, Nat.add_zero, ↓reduceIte, if_true, if_false, Bool.false_eq_true, eq_self, li0, li1, li2, li3, li4, li5, li6, li7, li8, li9, li10, li11, li12, li14, li15, li16, li18, li19, li20, li23, li24, li25, li26, li27, li30, li31, li32, li36, li40, li41, li42, li43, li44, li45, li47, li48, li57, li59, li60, li91, li93, li96, li97, li100, li105, li122, li150, li200, li255, li400, li500, li600, li999, li1000, li1001, li2000, li2001, li2002, li2003, li2004, li2005, li2006, li32767, li100000, li_neg, li13, li17, li21, li22, li28, li29, li33, li34, li35, li37, li38, li39, li46, li49, li50, li51, li52, li53, li63, li80, li115, li160]
  · have hc' := of_decide_eq_false hc
    have hb := (hA i hi).2
    have ha := (hA i hi).1
    have d1 := (hD.2 i hi).1
    have d2 := (hD.2 i hi).2
    by_cases c : B i = 1
    · rw [decide_eq_true c] at hc'
      rw [c] at d2
      simp (disch := omega) only [f_M_isRight_b, hD.1, d1, d2, M_hasF hc', bI_s, bV_s, bL_s, bR_s, bG_s, bG_n, bX_l, bX_r, ck_nI, nI_clamp, nI_leT, nI_leF, nI_ltT, nI_ltF, nI_eqF, nI_add, pk_mul, ofN, bt_e, or0, Nat.zero_add, Nat.add_zero, ↓reduceIte, if_true, if_false, Bool.false_eq_true, eq_self, li0, li1, li2, li3, li4, li5, li6, li7, li8, li9, li10, li11, li12, li14, li15, li16, li18, li19, li20, li23, li24, li25, li26, li27, li30, li31, li32, li36, li40, li41, li42, li43, li44, li45, li47, li48, li57, li59, li60, li91, li93, li96, li97, li100, li105, li122, li150, li200, li255, li400, li500, li600, li999, li1000, li1001, li2000, li2001, li2002, li2003, li2004, li2005, li2006, li32767, li100000, li_neg, li13, li17, li21, li22, li28, li29, li33, li34, li35, li37, li38, li39, li46, li49, li50, li51, li52, li53, li63, li80, li115, li160]
    · rw [decide_eq_false c] at hc'
      have c0 : B i = 0 := by omega
      rw [c0] at d2
      simp (disch := omega) only [f_M_isRight_b, hD.1, d1, d2, M_hasT (show hs (acS P W s) (A i) = true by simpa using hc'), bI_s, bV_s, bL_s, bR_s, bG_s, bG_n, bX_l, bX_r, ck_nI, nI_clamp, nI_leT, nI_leF, nI_ltT, nI_ltF, nI_eqF, nI_add, pk_mul, ofN, bt_e, or0, Nat.zero_add, Nat.add_zero, ↓reduceIte, if_true, if_false, Bool.false_eq_true, eq_self, li0, li1, li2, li3, li4, li5, li6, li7, li8, li9, li10, li11, li12, li14, li15, li16, li18, li19, li20, li23, li24, li25, li26, li27, li30, li31, li32, li36, li40, li41, li42, li43, li44, li45, li47, li48, li57, li59, li60, li91, li93, li96, li97, li100, li105, li122, li150, li200, li255, li400, li500, li600, li999, li1000, li1001, li2000, li2001, li2002, li2003, li2004, li2005, li2006, li32767, li100000, li_neg, li13, li17, li21, li22, li28, li29, li33, li34, li35, li37, li38, li39, li46, li49, li50, li51, li52, li53, li63, li80, li115, li160]
  · simp (disch := omega) only [f_M_isRight_b, hD.1, bI_s, bV_s, bL_s, bR_s, bG_s, bG_n, bX_l, bX_r, ck_nI, nI_clamp, nI_leT, nI_leF, nI_ltT, nI_ltF, nI_eqF, nI_add, pk_mul, ofN, bt_e, or0, Nat.zero_add, Nat.add_zero, ↓reduceIte, if_true, if_false, Bool.false_eq_true, eq_self, li0, li1, li2, li3, li4, li5, li6, li7, li8, li9, li10, li11, li12, li14, li15, li16, li18, li19, li20, li23, li24, li25, li26, li27, li30, li31, li32, li36, li40, li41, li42, li43, li44, li45, li47, li48, li57, li59, li60, li91, li93, li96, li97, li100, li105, li122, li150, li200, li255, li400, li500, li600, li999, li1000, li1001, li2000, li2001, li2002, li2003, li2004, li2005, li2006, li32767, li100000, li_neg, li13, li17, li21, li22, li28, li29, li33, li34, li35, li37, li38, li39, li46, li49, li50, li51, li52, li53, li63, li80, li115, li160]
/-! counts -/
def cnt (r : Nat → Bool) (n : Nat) : Nat := sm n (fun s => if r s = true then 1 else 0)
def swN (r : Nat → Bool) (x : Nat → Int32) (n a : Nat) : Nat := sm n (fun s => if (r s && hs (x s) a) = true then 1 else 0)
def fsT (r : Nat → Bool) (n : Nat) : Nat := fo n (fun s f => if r s = true then (if cnt r s = 0 then s else f) else f) 4294967295
def suR (r : Nat → Bool) (n : Nat) : Int32 := fo n (fun s u => if r s = true then (if cnt r s = 0 then nI s else u) &&& nI s else u) (nI 0)
def alM (r : Nat → Bool) (x : Int32) (n : Nat) : Int32 := fo n (fun s u => if r s = true then u &&& nI s else u) x
theorem cnt_le (r : Nat → Bool) (n : Nat) : cnt r n ≤ n := by
  have : cnt r n ≤ sm n (fun _ => 1) := sm_le _ (fun j hj => by split <;> omega)
  rw [sm_const] at this; omega
theorem sw_le (r : Nat → Bool) (x : Nat → Int32) (n a : Nat) : swN r x n a ≤ cnt r n := by
  refine sm_le _ (fun s hs => ?_)
  by_cases c : r s = true
  · rw [if_pos c]; split <;> omega
  · have : r s = false := by simpa using c
    rw [this]; simp
theorem alM_suR {r : Nat → Bool} {k : Nat} (hk : k ≤ 8) : ∀ n : Nat, n ≤ 2 ^ k → (cnt r n = 0 → alM r (bt k - nI 1) n = bt k - nI 1) ∧ (cnt r n ≠ 0 → alM r (bt k - nI 1) n = suR r n)
  | 0 => fun _ => ⟨fun _ => rfl, fun h => absurd rfl h⟩
  | n + 1 => fun hn => by
    have ih := alM_suR (r := r) hk n (by omega)
    have h8 := p8 hk
    have e1 : alM r (bt k - nI 1) (n + 1) = if r n = true then alM r (bt k - nI 1) n &&& nI n else alM r (bt k - nI 1) n := rfl
    have e2 : suR r (n + 1) = if r n = true then (if cnt r n = 0 then nI n else suR r n) &&& nI n else suR r n := rfl
    have e3 : cnt r (n + 1) = cnt r n + if r n = true then 1 else 0 := rfl
    rw [e1, e2, e3]
    by_cases c : r n = true
    · rw [if_pos c, if_pos c, if_pos c]
      refine ⟨fun h => by omega, fun _ => ?_⟩
      by_cases c0 : cnt r n = 0
      · rw [if_pos c0, ih.1 c0, Int32.and_self]
        refine hs_ext (fun j hj => ?_)
        rw [hs_and hj, hs_low hk hj, hs_nI (by omega) hj]
        by_cases cj : j < k
        · rw [decide_eq_true cj, Bool.true_and]
        · rw [decide_eq_false cj, Bool.false_and]
          exact (Nat.testBit_lt_two_pow (Nat.lt_of_lt_of_le (show n < 2 ^ k by omega) (Nat.pow_le_pow_right (by omega) (by omega)))).symm
      · rw [if_neg c0, ih.2 c0]
    · rw [if_neg c, if_neg c, if_neg c, Nat.add_zero]
      exact ih
theorem C_addC {f : Nat → Nat} (hf : ∀ a, a < 10 → gI M (o + 1) a = nI (f a)) (s x : Int32) : ∃ M', f_Inquest_addSet_c FU o s x (nI 0) M = some M' ∧ (∀ a, a < 10 → gI M' (o + 1) a = nI (f a + if hs x a = true then 1 else 0)) ∧ Fr (fun y => y = o + 1) M M' := by
  have key := lp_inv (R := Mm) (fun u i (N : Mm) => f_Inquest_addSet_c u o s x (nI i) N) 10 (fun i N => (∀ a, a < 10 → gI N (o + 1) a = nI (f a + if a < i ∧ hs x a = true then 1 else 0)) ∧ Fr (fun y => y = o + 1) M N) (fun N => (∀ a, a < 10 → gI N (o + 1) a = nI (f a + if hs x a = true then 1 else 0)) ∧ Fr (fun y => y = o + 1) M N) (fun u i N hi hI => ?_) (fun u N hI => ?_) 0 (by omega) M ⟨fun a ha => by rw [if_neg (by omega)]; exact hf a ha, Fr.rf _ _⟩ FU (FU_lt (by omega))
  · exact key
  · obtain ⟨h1, h2⟩ := hI
    have e := h1 i hi
    rw [if_neg (by omega), Nat.add_zero] at e
    refine Or.inl ⟨sI N (o + 1) i (nI (f i + if hs x i = true then 1 else 0)), ?_, fun a ha => ?_, h2.sI rfl⟩
    · by_cases c : hs x i = true
      · simp (disch := omega) only [f_Inquest_addSet_c, C_hasT c, c, e, bI_s, bV_s, bL_s, bR_s, bG_s, bG_n, bX_l, bX_r, ck_nI, nI_clamp, nI_leT, nI_leF, nI_ltT, nI_ltF, nI_eqF, nI_add, pk_mul, ofN, bt_e, or0, Nat.zero_add, Nat.add_zero, ↓reduceIte, if_true, if_false, Bool.false_eq_true, eq_self, li0, li1, li2, li3, li4, li5, li6, li7, li8, li9, li10, li11, li12, li14, li15, li16, li18, li19, li20, li23, li24, li25, li26, li27, li30, li31, li32, li36, li40, li41, li42, li43, li44, li45, li47, li48, li57, li59, li60, li91, li93, li96, li97, li100, li105, li122, li150, li200, li255, li400, li500, li600, li999, li1000, li1001, li2000, li2001, li2002, li2003, li2004, li2005, li2006, li32767, li100000, li_neg, li13, li17, li21, li22, li28, li29, li33, li34, li35, li37, li38, li39, li46, li49, li50, li51, li52, li53, li63, li80, li115, li160]
      · simp (disch := omega) only [f_Inquest_addSet_c, C_hasF c, c, e, bI_s, bV_s, bL_s, bR_s, bG_s, bG_n, bX_l, bX_r, ck_nI, nI_clamp, nI_leT, nI_leF, nI_ltT, nI_ltF, nI_eqF, nI_add, pk_mul, ofN, bt_e, or0, Nat.zero_add, Nat.add_zero, ↓reduceIte, if_true, if_false, Bool.false_eq_true, eq_self, li0, li1, li2, li3, li4, li5, li6, li7, li8, li9, li10, li11, li12, li14, li15, li16, li18, li19, li20, li23, li24, li25, li26, li27, li30, li31, li32, li36, li40, li41, li42, li43, li44, li45, li47, li48, li57, li59, li60, li91, li93, li96, li97, li100, li105, li122, li150, li200, li255, li400, li500, li600, li999, li1000, li1001, li2000, li2001, li2002, li2003, li2004, li2005, li2006, li32767, li100000, li_neg, li13, li17, li21, li22, li28, li29, li33, li34, li35, li37, li38, li39, li46, li49, li50, li51, li52, li53, li63, li80, li115, li160]
    · by_cases ca : a = i
      · subst ca
        rw [gI_same]
        by_cases c : hs x a = true
        · rw [if_pos c, if_pos ⟨by omega, c⟩]
        · rw [if_neg c, if_neg (fun z => c z.2)]
      · rw [gI_ne (by omega), h1 a ha]
        by_cases c : a < i ∧ hs x a = true
        · rw [if_pos c, if_pos ⟨by omega, c.2⟩]
        · rw [if_neg c, if_neg (fun z => c ⟨by omega, z.2⟩)]
  · refine ⟨N, ?_, fun a ha => ?_, hI.2⟩
    · simp (disch := omega) only [f_Inquest_addSet_c, bI_s, bV_s, bL_s, bR_s, bG_s, bG_n, bX_l, bX_r, ck_nI, nI_clamp, nI_leT, nI_leF, nI_ltT, nI_ltF, nI_eqF, nI_add, pk_mul, ofN, bt_e, or0, Nat.zero_add, Nat.add_zero, ↓reduceIte, if_true, if_false, Bool.false_eq_true, eq_self, li0, li1, li2, li3, li4, li5, li6, li7, li8, li9, li10, li11, li12, li14, li15, li16, li18, li19, li20, li23, li24, li25, li26, li27, li30, li31, li32, li36, li40, li41, li42, li43, li44, li45, li47, li48, li57, li59, li60, li91, li93, li96, li97, li100, li105, li122, li150, li200, li255, li400, li500, li600, li999, li1000, li1001, li2000, li2001, li2002, li2003, li2004, li2005, li2006, li32767, li100000, li_neg, li13, li17, li21, li22, li28, li29, li33, li34, li35, li37, li38, li39, li46, li49, li50, li51, li52, li53, li63, li80, li115, li160]
    · rw [hI.1 a ha]
      by_cases c : hs x a = true
      · rw [if_pos c, if_pos ⟨ha, c⟩]
      · rw [if_neg c, if_neg (fun z => c z.2)]
theorem C_hold (hW : isW M o P W) (oP : okP P) (hD : isD M d dn A B) (hA : ∀ k, k < dn → A k < 10 ∧ B k ≤ 1) {q : Nat} (hq : o + 8 ≤ q) (hd : d ≠ q ∧ d ≠ q + 1) : ∃ M', f_Inquest_hold q (nI (P 0 2)) (o + 5) 8 d M = some M' ∧ ((gI M' q 1 = nI (cnt (rtS P W dn A B) (2 ^ P 0 2)) ∧ gI M' q 2 = nI (fsT (rtS P W dn A B) (2 ^ P 0 2))) ∧ gI M' q 3 = suR (rtS P W dn A B) (2 ^ P 0 2) ∧ ∀ a, a < 10 → gI M' (q + 1) a = nI (swN (rtS P W dn A B) (acS P W) (2 ^ P 0 2) a)) ∧ Fr (fun y => y = q ∨ y = q + 1) M M' := by
  have hB := oP.b
  have h8 := p8 hB
  have h1 : (1 : Nat) ≤ 2 ^ P 0 2 := Nat.one_le_two_pow
  -- the loop over sets
  have loop : ∀ N0 : Mm, Fr (fun y => y = q ∨ y = q + 1) M N0 → gI N0 q 1 = nI 0 → gI N0 q 2 = nI 4294967295 → gI N0 q 3 = nI 0 → (∀ a, a < 10 → gI N0 (q + 1) a = nI 0) → ∃ M', f_Inquest_hold_c FU q (nI (P 0 2)) (o + 5) 8 d (nI 0) N0 = some M' ∧ ((gI M' q 1 = nI (cnt (rtS P W dn A B) (2 ^ P 0 2)) ∧ gI M' q 2 = nI (fsT (rtS P W dn A B) (2 ^ P 0 2))) ∧ gI M' q 3 = suR (rtS P W dn A B) (2 ^ P 0 2) ∧ ∀ a, a < 10 → gI M' (q + 1) a = nI (swN (rtS P W dn A B) (acS P W) (2 ^ P 0 2) a)) ∧ Fr (fun y => y = q ∨ y = q + 1) M M' := by
    intro N0 f0 g1 g2 g3 g4
    refine lp_inv (R := Mm) (fun u s (N : Mm) => f_Inquest_hold_c u q (nI (P 0 2)) (o + 5) 8 d (nI s) N) (2 ^ P 0 2) (fun s N => ((gI N q 1 = nI (cnt (rtS P W dn A B) s) ∧ gI N q 2 = nI (fsT (rtS P W dn A B) s)) ∧ gI N q 3 = suR (rtS P W dn A B) s ∧ ∀ a, a < 10 → gI N (q + 1) a = nI (swN (rtS P W dn A B) (acS P W) s a)) ∧ Fr (fun y => y = q ∨ y = q + 1) M N) (fun M' => ((gI M' q 1 = nI (cnt (rtS P W dn A B) (2 ^ P 0 2)) ∧ gI M' q 2 = nI (fsT (rtS P W dn A B) (2 ^ P 0 2))) ∧ gI M' q 3 = suR (rtS P W dn A B) (2 ^ P 0 2) ∧ ∀ a, a < 10 → gI M' (q + 1) a = nI (swN (rtS P W dn A B) (acS P W) (2 ^ P 0 2) a)) ∧ Fr (fun y => y = q ∨ y = q + 1) M M') (fun u s N hsl hI => ?_) (fun u N hI => ?_) 0 (Nat.zero_le _) N0 ⟨⟨⟨g1, g2⟩, g3, fun a ha => g4 a ha⟩, f0⟩ FU (FU_lt (by omega))
    · obtain ⟨⟨⟨k1, k2⟩, k3, k4⟩, f⟩ := hI
      have hW' := hW.fr f (fun y h1 h2 => by omega)
      have d0 : gI N d 0 = dY dn A B 1 := by rw [f.i (by omega)]; exact hD.1
      have d1 : gI N d 1 = dY dn A B 0 := by rw [f.i (by omega)]; exact hD.2
      have rc := rt_c (P := P) (W := W) hA s
      have e1 : cnt (rtS P W dn A B) (s + 1) = cnt (rtS P W dn A B) s + if rtS P W dn A B s = true then 1 else 0 := rfl
      have e2 : fsT (rtS P W dn A B) (s + 1) = if rtS P W dn A B s = true then (if cnt (rtS P W dn A B) s = 0 then s else fsT (rtS P W dn A B) s) else fsT (rtS P W dn A B) s := rfl
      have e3 : suR (rtS P W dn A B) (s + 1) = if rtS P W dn A B s = true then (if cnt (rtS P W dn A B) s = 0 then nI s else suR (rtS P W dn A B) s) &&& nI s else suR (rtS P W dn A B) s := rfl
      have e4 : ∀ a, swN (rtS P W dn A B) (acS P W) (s + 1) a = swN (rtS P W dn A B) (acS P W) s a + if (rtS P W dn A B s && hs (acS P W s) a) = true then 1 else 0 := fun a => rfl
      have hcl := cnt_le (rtS P W dn A B) s
      refine Or.inl ?_
      rw [e1, e2, e3]
      by_cases c : rtS P W dn A B s = true
      · obtain ⟨c1, c2⟩ := rc.mpr c
        rw [if_pos c, if_pos c, if_pos c]
        have fin : ∀ N1 : Mm, Fr (fun y => y = q ∨ y = q + 1) M N1 → gI N1 q 1 = nI (cnt (rtS P W dn A B) s) → gI N1 q 2 = nI (if cnt (rtS P W dn A B) s = 0 then s else fsT (rtS P W dn A B) s) → gI N1 q 3 = (if cnt (rtS P W dn A B) s = 0 then nI s else suR (rtS P W dn A B) s) → (∀ a, a < 10 → gI N1 (q + 1) a = nI (swN (rtS P W dn A B) (acS P W) s a)) → ∃ N2, f_Inquest_addSet_b q (nI s) (acS P W s) N1 = some N2 ∧ ((gI N2 q 1 = nI (cnt (rtS P W dn A B) s + 1) ∧ gI N2 q 2 = nI (if cnt (rtS P W dn A B) s = 0 then s else fsT (rtS P W dn A B) s)) ∧ gI N2 q 3 = (if cnt (rtS P W dn A B) s = 0 then nI s else suR (rtS P W dn A B) s) &&& nI s ∧ ∀ a, a < 10 → gI N2 (q + 1) a = nI (swN (rtS P W dn A B) (acS P W) (s + 1) a)) ∧ Fr (fun y => y = q ∨ y = q + 1) M N2 := by
          intro N1 f1 l1 l2 l3 l4
          have f2 : Fr (fun y => y = q ∨ y = q + 1) M (sI (sI N1 q 3 ((if cnt (rtS P W dn A B) s = 0 then nI s else suR (rtS P W dn A B) s) &&& nI s)) q 1 (nI (cnt (rtS P W dn A B) s + 1))) := (f1.sI (Or.inl rfl)).sI (Or.inl rfl)
          obtain ⟨N2, z1, z2, z3⟩ := C_addC (o := q) (M := sI (sI N1 q 3 ((if cnt (rtS P W dn A B) s = 0 then nI s else suR (rtS P W dn A B) s) &&& nI s)) q 1 (nI (cnt (rtS P W dn A B) s + 1))) (f := swN (rtS P W dn A B) (acS P W) s) (fun a ha => by rw [gI_ne (by omega), gI_ne (by omega)]; exact l4 a ha) (nI s) (acS P W s)
          refine ⟨N2, ?_, ⟨⟨?_, ?_⟩, ?_, fun a ha => ?_⟩, f2.trans (z3.mono (fun y hy => Or.inr hy))⟩
          · simp (disch := omega) only [f_Inquest_addSet_b, l1, l3, z1, bI_s, bV_s, bL_s, bR_s, bG_s, bG_n, bX_l, bX_r, ck_nI, nI_clamp, nI_leT, nI_leF, nI_ltT, nI_ltF, nI_eqF, nI_add, pk_mul, ofN, bt_e, or0, Nat.zero_add, Nat.add_zero, ↓reduceIte, if_true, if_false, Bool.false_eq_true, eq_self, li0, li1, li2, li3, li4, li5, li6, li7, li8, li9, li10, li11, li12, li14, li15, li16, li18, li19, li20, li23, li24, li25, li26, li27, li30, li31, li32, li36, li40, li41, li42, li43, li44, li45, li47, li48, li57, li59, li60, li91, li93, li96, li97, li100, li105, li122, li150, li200, li255, li400, li500, li600, li999, li1000, li1001, li2000, li2001, li2002, li2003, li2004, li2005, li2006, li32767, li100000, li_neg, li13, li17, li21, li22, li28, li29, li33, li34, li35, li37, li38, li39, li46, li49, li50, li51, li52, li53, li63, li80, li115, li160, gI_same, gI_ne, gI_eq2, gR_sI, gL_sI, gI_sL, gR_sL, gI_sR, gL_sR]
          · rw [z3.i (by omega)]; exact gI_same ..
          · rw [z3.i (by omega), gI_ne (by omega), gI_ne (by omega)]; exact l2
          · rw [z3.i (by omega), gI_ne (by omega)]; exact gI_same ..
          · rw [z2 a ha, e4, c, Bool.true_and]
        by_cases c0 : cnt (rtS P W dn A B) s = 0
        · obtain ⟨N2, z1, z2⟩ := fin (sI (sI N q 2 (nI s)) q 3 (nI s)) ((f.sI (Or.inl rfl)).sI (Or.inl rfl)) (by rw [gI_ne (by omega), gI_ne (by omega)]; exact k1) (by rw [if_pos c0, gI_ne (by omega)]; exact gI_same ..) (by rw [if_pos c0]; exact gI_same ..) (fun a ha => by rw [gI_ne (by omega), gI_ne (by omega)]; exact k4 a ha)
          refine ⟨N2, ?_, z2⟩
          rw [c0] at k1
          simp (disch := omega) only [f_Inquest_hold_c, f_Inquest_addSet, C_acts hW' oP, d0, d1, c1, c2, k1, z1, bt_nI, bI_s, bV_s, bL_s, bR_s, bG_s, bG_n, bX_l, bX_r, ck_nI, nI_clamp, nI_leT, nI_leF, nI_ltT, nI_ltF, nI_eqF, nI_add, pk_mul, ofN, bt_e, or0, Nat.zero_add, Nat.add_zero, ↓reduceIte, if_true, if_false, Bool.false_eq_true, eq_self, li0, li1, li2, li3, li4, li5, li6, li7, li8, li9, li10, li11, li12, li14, li15, li16, li18, li19, li20, li23, li24, li25, li26, li27, li30, li31, li32, li36, li40, li41, li42, li43, li44, li45, li47, li48, li57, li59, li60, li91, li93, li96, li97, li100, li105, li122, li150, li200, li255, li400, li500, li600, li999, li1000, li1001, li2000, li2001, li2002, li2003, li2004, li2005, li2006, li32767, li100000, li_neg, li13, li17, li21, li22, li28, li29, li33, li34, li35, li37, li38, li39, li46, li49, li50, li51, li52, li53, li63, li80, li115, li160]
        · obtain ⟨N2, z1, z2⟩ := fin N f k1 (by rw [if_neg c0]; exact k2) (by rw [if_neg c0]; exact k3) k4
          refine ⟨N2, ?_, z2⟩
          simp (disch := omega) only [f_Inquest_hold_c, f_Inquest_addSet, C_acts hW' oP, d0, d1, c1, c2, k1, z1, bt_nI, bI_s, bV_s, bL_s, bR_s, bG_s, bG_n, bX_l, bX_r, ck_nI, nI_clamp, nI_leT, nI_leF, nI_ltT, nI_ltF, nI_eqF, nI_add, pk_mul, ofN, bt_e, or0, Nat.zero_add, Nat.add_zero, ↓reduceIte, if_true, if_false, Bool.false_eq_true, eq_self, li0, li1, li2, li3, li4, li5, li6, li7, li8, li9, li10, li11, li12, li14, li15, li16, li18, li19, li20, li23, li24, li25, li26, li27, li30, li31, li32, li36, li40, li41, li42, li43, li44, li45, li47, li48, li57, li59, li60, li91, li93, li96, li97, li100, li105, li122, li150, li200, li255, li400, li500, li600, li999, li1000, li1001, li2000, li2001, li2002, li2003, li2004, li2005, li2006, li32767, li100000, li_neg, li13, li17, li21, li22, li28, li29, li33, li34, li35, li37, li38, li39, li46, li49, li50, li51, li52, li53, li63, li80, li115, li160]
      · rw [if_neg c, if_neg c, if_neg c]
        refine ⟨N, ?_, ⟨⟨k1, k2⟩, k3, fun a ha => ?_⟩, f⟩
        · by_cases c1 : acS P W s &&& dY dn A B 1 = dY dn A B 1
          · have c2 : (acS P W s &&& dY dn A B 0 = nI 0) = False := eq_false (fun z => c (rc.mp ⟨c1, z⟩))
            simp (disch := omega) only [f_Inquest_hold_c, C_acts hW' oP, d0, d1, c1, c2, bt_nI, bI_s, bV_s, bL_s, bR_s, bG_s, bG_n, bX_l, bX_r, ck_nI, nI_clamp, nI_leT, nI_leF, nI_ltT, nI_ltF, nI_eqF, nI_add, pk_mul, ofN, bt_e, or0, Nat.zero_add, Nat.add_zero, ↓reduceIte, if_true, if_false, Bool.false_eq_true, eq_self, li0, li1, li2, li3, li4, li5, li6, li7, li8, li9, li10, li11, li12, li14, li15, li16, li18, li19, li20, li23, li24, li25, li26, li27, li30, li31, li32, li36, li40, li41, li42, li43, li44, li45, li47, li48, li57, li59, li60, li91, li93, li96, li97, li100, li105, li122, li150, li200, li255, li400, li500, li600, li999, li1000, li1001, li2000, li2001, li2002, li2003, li2004, li2005, li2006, li32767, li100000, li_neg, li13, li17, li21, li22, li28, li29, li33, li34, li35, li37, li38, li39, li46, li49, li50, li51, li52, li53, li63, li80, li115, li160]
          · have c1' : (acS P W s &&& dY dn A B 1 = dY dn A B 1) = False := eq_false c1
            simp (disch := omega) only [f_Inquest_hold_c, C_acts hW' oP, d0, d1, c1', bt_nI, bI_s, bV_s, bL_s, bR_s, bG_s, bG_n, bX_l, bX_r, ck_nI, nI_clamp, nI_leT, nI_leF, nI_ltT, nI_ltF, nI_eqF, nI_add, pk_mul, ofN, bt_e, or0, Nat.zero_add, Nat.add_zero, ↓reduceIte, if_true, if_false, Bool.false_eq_true, eq_self, li0, li1, li2, li3, li4, li5, li6, li7, li8, li9, li10, li11, li12, li14, li15, li16, li18, li19, li20, li23, li24, li25, li26, li27, li30, li31, li32, li36, li40, li41, li42, li43, li44, li45, li47, li48, li57, li59, li60, li91, li93, li96, li97, li100, li105, li122, li150, li200, li255, li400, li500, li600, li999, li1000, li1001, li2000, li2001, li2002, li2003, li2004, li2005, li2006, li32767, li100000, li_neg, li13, li17, li21, li22, li28, li29, li33, li34, li35, li37, li38, li39, li46, li49, li50, li51, li52, li53, li63, li80, li115, li160]
        · have c' : rtS P W dn A B s = false := by simpa using c
          rw [k4 a ha, e4, c', Bool.false_and]; rfl
    · refine ⟨N, ?_, hI⟩
      simp (disch := omega) only [f_Inquest_hold_c, bt_nI, bI_s, bV_s, bL_s, bR_s, bG_s, bG_n, bX_l, bX_r, ck_nI, nI_clamp, nI_leT, nI_leF, nI_ltT, nI_ltF, nI_eqF, nI_add, pk_mul, ofN, bt_e, or0, Nat.zero_add, Nat.add_zero, ↓reduceIte, if_true, if_false, Bool.false_eq_true, eq_self, li0, li1, li2, li3, li4, li5, li6, li7, li8, li9, li10, li11, li12, li14, li15, li16, li18, li19, li20, li23, li24, li25, li26, li27, li30, li31, li32, li36, li40, li41, li42, li43, li44, li45, li47, li48, li57, li59, li60, li91, li93, li96, li97, li100, li105, li122, li150, li200, li255, li400, li500, li600, li999, li1000, li1001, li2000, li2001, li2002, li2003, li2004, li2005, li2006, li32767, li100000, li_neg, li13, li17, li21, li22, li28, li29, li33, li34, li35, li37, li38, li39, li46, li49, li50, li51, li52, li53, li63, li80, li115, li160]
  -- clearing
  have key := lp_inv (R := Mm) (fun u i (N : Mm) => f_Inquest_hold_b u q (nI (P 0 2)) (o + 5) 8 d (nI i) N) 10 (fun i N => (gI N q 1 = nI 0 ∧ gI N q 2 = nI 4294967295 ∧ gI N q 3 = nI 0) ∧ (∀ a, a < i → gI N (q + 1) a = nI 0) ∧ Fr (fun y => y = q ∨ y = q + 1) M N) (fun M' => ((gI M' q 1 = nI (cnt (rtS P W dn A B) (2 ^ P 0 2)) ∧ gI M' q 2 = nI (fsT (rtS P W dn A B) (2 ^ P 0 2))) ∧ gI M' q 3 = suR (rtS P W dn A B) (2 ^ P 0 2) ∧ ∀ a, a < 10 → gI M' (q + 1) a = nI (swN (rtS P W dn A B) (acS P W) (2 ^ P 0 2) a)) ∧ Fr (fun y => y = q ∨ y = q + 1) M M') (fun u i N hi hI => ?_) (fun u N hI => ?_) 0 (by omega) (sI (sI (sI M q 1 (nI 0)) q 2 (nI 4294967295)) q 3 (nI 0)) ⟨⟨by rw [gI_ne (by omega), gI_ne (by omega)]; exact gI_same .., by rw [gI_ne (by omega)]; exact gI_same .., gI_same ..⟩, fun a ha => by omega, (((Fr.rf _ M).sI (Or.inl rfl)).sI (Or.inl rfl)).sI (Or.inl rfl)⟩ FU (FU_lt (by omega))
  · obtain ⟨M', e, r⟩ := key
    refine ⟨M', ?_, r⟩
    rw [← e]
    simp (disch := omega) only [f_Inquest_hold, bI_s, bV_s, bL_s, bR_s, bG_s, bG_n, bX_l, bX_r, ck_nI, nI_clamp, nI_leT, nI_leF, nI_ltT, nI_ltF, nI_eqF, nI_add, pk_mul, ofN, bt_e, or0, Nat.zero_add, Nat.add_zero, ↓reduceIte, if_true, if_false, Bool.false_eq_true, eq_self, li0, li1, li2, li3, li4, li5, li6, li7, li8, li9, li10, li11, li12, li14, li15, li16, li18, li19, li20, li23, li24, li25, li26, li27, li30, li31, li32, li36, li40, li41, li42, li43, li44, li45, li47, li48, li57, li59, li60, li91, li93, li96, li97, li100, li105, li122, li150, li200, li255, li400, li500, li600, li999, li1000, li1001, li2000, li2001, li2002, li2003, li2004, li2005, li2006, li32767, li100000, li_neg, li13, li17, li21, li22, li28, li29, li33, li34, li35, li37, li38, li39, li46, li49, li50, li51, li52, li53, li63, li80, li115, li160]
  · obtain ⟨⟨k1, k2, k3⟩, k4, f⟩ := hI
    refine Or.inl ⟨sI N (q + 1) i (nI 0), ?_, ⟨by rw [gI_ne (by omega)]; exact k1, by rw [gI_ne (by omega)]; exact k2, by rw [gI_ne (by omega)]; exact k3⟩, fun a ha => ?_, f.sI (Or.inr rfl)⟩
    · simp (disch := omega) only [f_Inquest_hold_b, bI_s, bV_s, bL_s, bR_s, bG_s, bG_n, bX_l, bX_r, ck_nI, nI_clamp, nI_leT, nI_leF, nI_ltT, nI_ltF, nI_eqF, nI_add, pk_mul, ofN, bt_e, or0, Nat.zero_add, Nat.add_zero, ↓reduceIte, if_true, if_false, Bool.false_eq_true, eq_self, li0, li1, li2, li3, li4, li5, li6, li7, li8, li9, li10, li11, li12, li14, li15, li16, li18, li19, li20, li23, li24, li25, li26, li27, li30, li31, li32, li36, li40, li41, li42, li43, li44, li45, li47, li48, li57, li59, li60, li91, li93, li96, li97, li100, li105, li122, li150, li200, li255, li400, li500, li600, li999, li1000, li1001, li2000, li2001, li2002, li2003, li2004, li2005, li2006, li32767, li100000, li_neg, li13, li17, li21, li22, li28, li29, li33, li34, li35, li37, li38, li39, li46, li49, li50, li51, li52, li53, li63, li80, li115, li160]
    · by_cases c : a = i
      · subst c; exact gI_same ..
      · rw [gI_ne (by omega)]; exact k4 a (by omega)
  · obtain ⟨⟨k1, k2, k3⟩, k4, f⟩ := hI
    obtain ⟨M', e, r⟩ := loop N f k1 k2 k3 k4
    refine ⟨M', ?_, r⟩
    rw [← e]
    simp (disch := omega) only [f_Inquest_hold_b, bI_s, bV_s, bL_s, bR_s, bG_s, bG_n, bX_l, bX_r, ck_nI, nI_clamp, nI_leT, nI_leF, nI_ltT, nI_ltF, nI_eqF, nI_add, pk_mul, ofN, bt_e, or0, Nat.zero_add, Nat.add_zero, ↓reduceIte, if_true, if_false, Bool.false_eq_true, eq_self, li0, li1, li2, li3, li4, li5, li6, li7, li8, li9, li10, li11, li12, li14, li15, li16, li18, li19, li20, li23, li24, li25, li26, li27, li30, li31, li32, li36, li40, li41, li42, li43, li44, li45, li47, li48, li57, li59, li60, li91, li93, li96, li97, li100, li105, li122, li150, li200, li255, li400, li500, li600, li999, li1000, li1001, li2000, li2001, li2002, li2003, li2004, li2005, li2006, li32767, li100000, li_neg, li13, li17, li21, li22, li28, li29, li33, li34, li35, li37, li38, li39, li46, li49, li50, li51, li52, li53, li63, li80, li115, li160]
end
